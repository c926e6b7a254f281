theorem z_copy_ne {σ : Nat → Int → Int} {a b k : Nat} {i j n q : Int} (h : k ≠ b) : z_copy σ a b i j n k q = σ k q := by unfold z_copy; rw [if_neg (fun q => h q.1)]
theorem z_rel_copy {g : Nat × Nat × Nat × Nat} {D : va_G} {A3 : Nat × Nat × Nat} {L : Nat} {xs : Nat → Int32} {h : Zh} {H H1 : Heap} {a b : Nat} {c : Nat × Nat × List Nat} {i j n : Int} (hrel : z_rel g D A3 L xs h H) (hk : h.1[b]? = some c) (hc : c.1 = 8) (z : H1.size = H.size) (o : ∀ q : Nat, q ≠ g.1 + b → H1[q]? = H[q]?)
    (e : H1[g.1 + b]? = some (arrV A3.1 c.2.1 (fun k : Nat => Value.int (Int32.ofInt (z_copy h.2 a b i j n b k))))) : z_rel g D A3 L xs (h.1, z_copy h.2 a b i j n) H1 := by
  have hl := z_wf_lt hrel.2.2 hk
  obtain ⟨r1, r2, w1, w2, w3, w4, w5, w6⟩ := hrel
  refine ⟨z.trans r1, fun k' c' hk' => ?_, fun k' i' => ?_, w2, w3, ?_, fun j hj => ?_, w6⟩
  · by_cases hkk : k' = b
    · subst hkk
      cases hk.symm.trans hk'
      exact ⟨fun _ => e, fun q => absurd q (by omega), fun q => absurd q (by omega), fun q => absurd q (by omega)⟩
    · exact z_cl_kept (r2 k' c' hk') (fun j => z_copy_ne hkk) (o _ (by omega))
  · show z_rng (z_copy h.2 a b i j n k' i')
    unfold z_copy
    split
    · exact w1 _ _
    · exact w1 _ _
  · show z_copy h.2 a b i j n 1001 0 = L
    rw [z_copy_ne (by omega)]; exact w4
  · show z_copy h.2 a b i _ n 1000 j = _
    rw [z_copy_ne (by omega)]; exact w5 j hj
section ZS
variable {p : Program} {l : Launch} {e : Env} {R : Room} {s : State} {m : MethodId} {args : Array Value} {below : List Frame} {meth : Method} {c : Code} {Q : State → Prop}
variable {g : Nat × Nat × Nat × Nat} {D : va_G} {A3 : Nat × Nat × Nat} {L : Nat} {xs : Nat → Int32} {mi n0 s0 : Nat}
theorem z_s_arraycopy (C : z_cx g D A3 L xs mi p s m args meth c) {ix : Nat} {len x y z pc : Nat} {ls : Zl} {st : List Zv} {h : Zh} {q : Zc} (hd : decode (zbytes mi) pc = .ok (.invokestatic ix, len)) (ho : z_ok mi pc (.invokestatic ix, len, x, y, z) = true) (hn : z_n (.invokestatic ix, len, x, y, z) pc ls st h = some q) (hr : q.2.2.2.1.length - n0 ≤ R.cells ∧ z_sz q.2.2.2.1 - s0 ≤ R.slots ∧ 1 ≤ R.frames ∧ 60 ≤ R.locals) (hz5 : z = 5)
    (kk : z_W p l e R s m args below meth c Q g D A3 L xs mi n0 s0 q.1 q.2.1 q.2.2.1 q.2.2.2) : z_W p l e R s m args below meth c Q g D A3 L xs mi n0 s0 pc ls st h := by
  obtain ⟨hx, hb, hml, hown, hts, hin, hK, hE, hAO, hNw⟩ := C
  subst hz5
  simp only [z_ok, Bool.and_eq_true, beq_iff_eq, if_true, List.any_eq_true] at ho
  obtain ⟨rfl, w, hw, h2, h3⟩ := ho
  have h6 := zAL_ok w hw
  rw [h2, h3] at h6
  simp only [z_n, z_st] at hn
  split at hn
  · rename_i n j b i a r
    split at hn
    · rename_i ca cb hka hkb
      split at hn
      · rename_i hcond
        obtain ⟨hca, hcb, hi0, hj0, hn0', hin1, hjn1, hab, hr8⟩ := hcond
        cases hn
        intro H locs la hrel hS hla hlen hvs hn0 hs0
        have hv := List.forall_mem_cons.mp hvs.2
        have hv2 := List.forall_mem_cons.mp hv.2
        have hv3 := List.forall_mem_cons.mp hv2.2
        have hv4 := List.forall_mem_cons.mp hv3.2
        have hv5 := List.forall_mem_cons.mp hv4.2
        have hc0 := (hrel.2.1 a ca hka).1 hca
        have hc1 := (hrel.2.1 b cb hkb).1 hcb
        obtain ⟨-, k0, hk0, cm0, hkk0⟩ := (hK.2 0 _ rfl).1 ca.2.1 (fun j => .int (Int32.ofInt (h.2 a j)))
        obtain ⟨-, k1, hk1, cm1, hkk1⟩ := (hK.2 0 _ rfl).1 cb.2.1 (fun j => .int (Int32.ofInt (h.2 b j)))
        have ei := z_nc (x := i) hv4.1
        have ej := z_nc (x := j) hv2.1
        have en := z_nc (x := n) hv.1
        have ti := z_ti (x := i) hv4.1
        have tj := z_ti (x := j) hv2.1
        have tn := z_ti (x := n) hv.1
        have hcs := z_catsum g r
        intro T hT X
        obtain ⟨vm', X', step⟩ := X.arraycopy hx hown (hts _ (zgw_in (List.mem_of_getElem? h6) rfl)) (hts _ (zgw_in zwA.2.2.2.1 rfl)) (hts _ (zgw_in zwA.2.2.2.2.1 rfl)) (hts _ (zgw_in zwA.2.2.2.2.2.1 rfl)) (src := g.1 + a) (dst := g.1 + b)
          (cs := arrV A3.1 ca.2.1 (fun j => .int (Int32.ofInt (h.2 a j)))) (cd := arrV A3.1 cb.2.1 (fun j => .int (Int32.ofInt (h.2 b j)))) (srcPos := Int32.ofInt i) (destPos := Int32.ofInt j) (n := Int32.ofInt n) (by rw [hT]; exact hc0) (by rw [hT]; exact hc1)
          (fun _ h => by cases h) (fun _ h => by cases h) (fun h => by cases h) (fun h => by cases h) hk0 hk1 hkk0 hkk1 rfl
          (fun q => absurd ((z_lt0 hv4.1).mp q) (by omega)) (fun q => absurd ((z_lt0 hv2.1).mp q) (by omega)) (fun q => absurd ((z_lt0 hv.1).mp q) (by omega))
          (by rw [ti, tn, arrV_size]; omega) (by rw [tj, tn, arrV_size]; omega)
          (fun vm1 _ q hq => by
            rw [en] at hq
            have e : (arrV A3.1 ca.2.1 (fun j => Value.int (Int32.ofInt (h.2 a j)))).slots.getD ((Int32.ofInt i).toNatClampNeg + q) .null = .int (Int32.ofInt (h.2 a ((Int32.ofInt i).toNatClampNeg + q : Nat))) := by
              rw [Array.getD_eq_getD_getElem?, arrV_read _ _ (by rw [ei]; omega)]
              rfl
            rw [e]
            exact ⟨rfl, trivial⟩)
          (g := F0 m pc la (.int (Int32.ofInt n) :: .int (Int32.ofInt j) :: .ref (g.1 + b) :: .int (Int32.ofInt i) :: .ref (g.1 + a) :: r.map (z_va g))) rfl (by rw [hml]; exact hla.1) (rest := r.map (z_va g)) rfl (by rw [hb]; exact hd) hr.2.2.1 (by
            show 2 * 0 + _ + _ ≤ _
            rw [hcs, show nativeFrameWords "java/lang/System" "arraycopy" 5 = 7 by decide]
            omega)
        have e1 : copied (arrV A3.1 ca.2.1 (fun j => .int (Int32.ofInt (h.2 a j)))) (arrV A3.1 cb.2.1 (fun j => .int (Int32.ofInt (h.2 b j)))) (Int32.ofInt i) (Int32.ofInt j) (Int32.ofInt n) = arrV A3.1 cb.2.1 (fun k => .int (va_cpy (fun j => Int32.ofInt (h.2 a j)) (fun j => Int32.ofInt (h.2 b j)) (Int32.ofInt i).toNatClampNeg (Int32.ofInt j).toNatClampNeg (Int32.ofInt n).toNatClampNeg k)) :=
          va_copied (fun z => .int z) A3.1 A3.1 (fun j => Int32.ofInt (h.2 a j)) (fun j => Int32.ofInt (h.2 b j)) (by rw [ei, en]; omega)
        have e2 : (fun k : Nat => Value.int (va_cpy (fun j => Int32.ofInt (h.2 a j)) (fun j => Int32.ofInt (h.2 b j)) (Int32.ofInt i).toNatClampNeg (Int32.ofInt j).toNatClampNeg (Int32.ofInt n).toNatClampNeg k)) = fun k : Nat => Value.int (Int32.ofInt (z_copy h.2 a b i j n b k)) := by
          funext k
          rw [ei, ej, en]
          unfold va_cpy z_copy
          by_cases hk : j.toNat ≤ k ∧ k < j.toNat + n.toNat
          · rw [if_pos hk, if_pos ⟨rfl, by omega, by omega⟩]
            show Value.int (Int32.ofInt (h.2 a ((i.toNat + (k - j.toNat) : Nat) : Int))) = _
            rw [show (((i.toNat + (k - j.toNat) : Nat)) : Int) = i + ((k : Int) - j) by omega]
          · rw [if_neg hk, if_neg (fun q => hk (by omega))]
        rw [e2] at e1
        rw [e1] at X' step
        have hl : g.1 + b < H.size := (Array.getElem?_eq_some_iff.mp hc1).1
        have hself : (H.setIfInBounds (g.1 + b) (arrV A3.1 cb.2.1 (fun k : Nat => Value.int (Int32.ofInt (z_copy h.2 a b i j n b k)))))[g.1 + b]? = some (arrV A3.1 cb.2.1 (fun k : Nat => Value.int (Int32.ofInt (z_copy h.2 a b i j n b k)))) := by simp [Array.getElem?_setIfInBounds, hl]
        have oq : ∀ q : Nat, q ≠ g.1 + b → (H.setIfInBounds (g.1 + b) (arrV A3.1 cb.2.1 (fun k : Nat => Value.int (Int32.ofInt (z_copy h.2 a b i j n b k)))))[q]? = H[q]? := fun q hq => by simp [Array.getElem?_setIfInBounds, Ne.symm hq]
        have hheap : ((T.setVm vm').setCell (g.1 + b) (arrV A3.1 cb.2.1 (fun k : Nat => Value.int (Int32.ofInt (z_copy h.2 a b i j n b k))))).heap = H.setIfInBounds (g.1 + b) (arrV A3.1 cb.2.1 (fun k : Nat => Value.int (Int32.ofInt (z_copy h.2 a b i j n b k)))) := by rw [← hT]; rfl
        obtain ⟨t, a1, b1⟩ := kk _ _ la (z_rel_copy hrel hkb hcb (by simp) oq hself) ⟨by simp; exact hS.1, fun q g1 g2 => by
            rw [oq q (fun e => g2 (by rw [e]; exact Nat.le_add_right _ _))]
            exact hS.2.1 q g1 g2, fun q hq => by
            rcases List.mem_append.mp hq with h | h
            · exact hS.2.2 q h
            · obtain ⟨z, -, hz⟩ := List.mem_map.mp h
              rw [← hz]
              exact Nat.le_add_right _ _⟩ hla hlen ⟨hvs.1, hv5.2⟩ hn0 hs0 _ hheap X'
        exact ⟨t, step t a1, b1⟩
      · cases hn
    · cases hn
  · cases hn
end ZS
