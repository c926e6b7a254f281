theorem z_above_rng (i : Int) : z_rng (z_above i) := by
  unfold z_above z_rng
  repeat' split
  all_goals omega
theorem z_bodies_rng (i : Int) : z_rng (z_bodies i) := by
  have h : ∀ k < 24, z_rng (([10, 11, 12, 13, 20, 0, 0, 21, 0, 0, 30, 0, 0, 40, 41, 0, 50, 51, 0, 0, 61, 0, 0, 60] : List Int).getD k 0) := by unfold z_rng; decide
  unfold z_bodies
  by_cases q : i.toNat < 24
  · exact h _ q
  · rw [List.getD_eq_getElem?_getD, List.getElem?_eq_none (by simp; omega)]; exact z_r0
theorem z_narrowZ {v : Int} (h : v = 0 ∨ v = 1) : narrow .boolean (.int (Int32.ofInt v)) = .int (Int32.ofInt v) := by rcases h with rfl | rfl <;> decide
theorem z_fitsZ {v : Int} (h : v = 0 ∨ v = 1) : fits .boolean (.int (Int32.ofInt v)) = true := by rcases h with rfl | rfl <;> decide
theorem z_nfr {g : Nat × Nat × Nat × Nat} (w : Nat) {ty : FieldType} (h : defaultValue ty = .null) : narrow ty (z_va g (.inr w)) = z_va g (.inr w) ∧ fits ty (z_va g (.inr w)) = true := by
  cases ty <;> (first | (cases h; done) | (cases w <;> exact ⟨rfl, rfl⟩))
theorem z_P1 {g : Nat × Nat × Nat × Nat} {D : va_G} {k x : Nat} {H : Heap} {V : Nat → Value} (hob : t_OB (g.1 + k) (D.1 x) (zN x) (D.2 x) H V) (hx : x < 8) : va_P D zclasses [(g.1 + k, .inr (x, (List.range (zN x)).map V))] H := by
  intro j q hj
  match j, hj with
  | 0, hj =>
    cases hj
    refine ⟨_, zclasses_at x hx, hob.to fun i hi => ?_⟩
    unfold vp_V
    simp [List.getD_eq_getElem?_getD, hi]
  | j + 1, hj => simp at hj
theorem z_fv_upd {g : Nat × Nat × Nat × Nat} {σ : Nat → Int → Int} {k y : Nat} {cc : Nat × Nat × List Nat} {v : Int} (hz : zflag cc.1 y ≠ 2) (j : Nat) : updV (z_fv g σ k cc) y (.int (Int32.ofInt v)) j = z_fv g (z_up σ k y v) k cc j := by
  unfold updV z_fv
  by_cases hj : j = y
  · subst hj
    rw [if_pos rfl, if_neg hz]
    unfold z_up
    rw [if_pos ⟨rfl, rfl⟩]
  · have e : z_up σ k y v k j = σ k j := by
      unfold z_up
      rw [if_neg (fun q => hj (by omega))]
    rw [if_neg hj, e]
theorem z_fv_updr {g : Nat × Nat × Nat × Nat} {σ : Nat → Int → Int} {k y w : Nat} {cc : Nat × Nat × List Nat} (hz : zflag cc.1 y = 2) (hy : y < cc.2.2.length) (j : Nat) : updV (z_fv g σ k cc) y (z_va g (.inr w)) j = z_fv g σ k (cc.1, cc.2.1, cc.2.2.set y w) j := by
  unfold updV z_fv
  by_cases hj : j = y
  · subst hj
    rw [if_pos rfl, if_pos hz, List.getD_eq_getElem?_getD, List.getElem?_set_self hy]
    rfl
  · rw [if_neg hj]
    simp only [List.getD_eq_getElem?_getD, List.getElem?_set_ne (Ne.symm hj)]
section ZP
variable {p : Program} {l : Launch} {e : Env} {R : Room} {s : State} {m : MethodId} {args : Array Value} {below : List Frame} {meth : Method} {c : Code} {H : Heap} {locs : List Loc} {cells slots : Nat} {Q : State → Prop}
variable {g : Nat × Nat × Nat × Nat} {D : va_G} {A3 : Nat × Nat × Nat} {L : Nat} {xs : Nat → Int32} {mi : Nat}
theorem z_put_core (hx : p.tables.exec = Jvm.exec) (hb : c.code = zbytes mi) (hts : ∀ w ∈ zgw, w.before args s = true) (hown : s.vm.findClass (zcls (zkind mi)) = some m.cls) {tys : List (ClassId × FieldType)} (hK : va_K D zclasses tys s) {x y k i pc : Nat} (hx8 : x < 8) (hyN : y < zN x)
    (hlink : (Cond.fieldLink (zcls (zkind mi)) i (zcls x) (zT x y).2.1 (zT x y).2.2.1).before args s = true) (hf2 : (zT x y).2.2.2 = false ∨ (zkind mi = x ∧ meth.name = "<init>")) {v : Value} (hn : narrow (zty x y) v = v) (hfit : fits (zty x y) v = true) {V : Nat → Value}
    (hob : t_OB (g.1 + k) (D.1 x) (zN x) (D.2 x) H V) {ls : Array Slot} {rest : List Value} (hd : decode (zbytes mi) pc = .ok (.putfield i, 3))
    (kk : ∀ H1 : Heap, t_OB (g.1 + k) (D.1 x) (zN x) (D.2 x) H1 (updV V y v) → H1.size = H.size → (∀ q : Nat, q ≠ g.1 + k → H1[q]? = H[q]?) → W p l e R s m args below meth c H1 (locs ++ [⟨g.1 + k, D.2 x y⟩]) cells slots Q (F0 m (pc + 3) ls rest)) : W p l e R s m args below meth c H locs cells slots Q (F0 m pc ls (v :: .ref (g.1 + k) :: rest)) := by
  have hap := va_apart (own := zcls (zkind mi)) hts (z_ws_in hx8) (zty x) (fun k hk => zTY_ok x hx8 k hk) (fun a ha b hb2 => zNM_ok x hx8 a ha b hb2) hK (zclasses_at x hx8)
  obtain ⟨cell, q1, q2, q3, q4⟩ := hob
  obtain ⟨hS, hfc, kC, hkC, hkind⟩ := hK.1 x _ (zclasses_at x hx8)
  obtain ⟨cf, kf, fi, f, hi, hsl⟩ := hS y hyN
  have hlay := hts _ (z_ws_in hx8 _ (u_in_lay hyN))
  have hla := u_lays hts (z_ws_in hx8) hyN
  have hst := (u_facts hfc hkC hla hi).1
  have hsame : s.fieldFound? (zcls x) (zT x y).2.1 (zT x y).2.2.1 = some (cf, kf, fi, f) := by have h := hi; rw [zDC_ok x hx8 y hyN] at h; exact h
  have done : ∀ H' : Heap, H'[g.1 + k]? = some (cell.setSlot f.slot v) → H'.size = H.size → (∀ q : Nat, q ≠ g.1 + k → H'[q]? = H[q]?) → W p l e R s m args below meth c H' (locs ++ [⟨g.1 + k, f.slot⟩]) cells slots Q (F0 m (pc + 3) ls rest) := by
    intro H' e1 e2 e3
    rw [hsl] at e1 ⊢
    exact kk H' ⟨_, e1, q2, q3, t_set q4 hap hyN v⟩ e2 e3
  unfold u_lay at hlay
  by_cases hfin : (zT x y).2.2.2 = true
  · rw [if_pos hfin] at hlay
    rcases hf2 with h0 | ⟨hown2, hname⟩
    · rw [h0] at hfin; cases hfin
    have hcf : m.cls = cf := by
      obtain ⟨_, _, c', _, _, _, -, -, hf', -, -, -, hown3, -⟩ := Cond.laysFinal_spec hlay
      have e1 : c' = cf := by have := hi.symm.trans hf'; simp at this; exact this.1.symm
      rw [zDC_ok x hx8 y hyN] at hown3
      rw [hown2] at hown
      rw [← e1]; exact Option.some.inj (hown.symm.trans hown3)
    have h6 := u_fits hfc hkC hkind (Or.inr hlay) hi (zTY_ok x hx8 y hyN) hn hfit
    exact W.putFinK hx hb hown hlink hsame hst hcf hname (by rw [q2]; exact h6) q1 q3 (by rw [hsl]; exact k2_hasslot (q4 y hyN)) rfl rfl hd done
  · rw [if_neg hfin] at hlay
    have h6 := u_store hfc hkC hkind hlay hi (zTY_ok x hx8 y hyN) hn hfit
    exact W.putK hx hb (f := f) ⟨hown, hlink, ⟨_, _, _, hsame⟩, hst⟩ (by rw [q2]; exact h6) q1 q3 (by rw [hsl]; exact k2_hasslot (q4 y hyN)) rfl rfl hd done
end ZP
theorem z_rel_obj {g : Nat × Nat × Nat × Nat} {D : va_G} {A3 : Nat × Nat × Nat} {L : Nat} {xs : Nat → Int32} {h : Zh} {H H1 : Heap} {k : Nat} {c : Nat × Nat × List Nat} {i v : Int} (hrel : z_rel g D A3 L xs h H) (hk : h.1[k]? = some c) (hc : c.1 < 8) (hv : z_rng v) (z : H1.size = H.size) (o : ∀ q : Nat, q ≠ g.1 + k → H1[q]? = H[q]?)
    (hob : t_OB (g.1 + k) (D.1 c.1) (zN c.1) (D.2 c.1) H1 (z_fv g (z_up h.2 k i v) k c)) : z_rel g D A3 L xs (h.1, z_up h.2 k i v) H1 := by
  obtain ⟨r1, r2, r3⟩ := hrel
  refine ⟨z.trans r1, fun k' c' hk' => ?_, z_wf_up r3 hk hv⟩
  by_cases hkk : k' = k
  · subst hkk
    cases hk.symm.trans hk'
    exact ⟨fun q => absurd q (by omega), fun q => absurd q (by omega), fun q => absurd q (by omega), fun _ => hob⟩
  · exact z_cl_kept (r2 k' c' hk') (fun j => z_up_ne hkk) (o _ (by omega))
section ZS
variable {p : Program} {l : Launch} {e : Env} {R : Room} {s : State} {m : MethodId} {args : Array Value} {below : List Frame} {meth : Method} {c : Code} {Q : State → Prop}
variable {g : Nat × Nat × Nat × Nat} {D : va_G} {A3 : Nat × Nat × Nat} {L : Nat} {xs : Nat → Int32} {mi n0 s0 : Nat}
theorem z_s_iaload (C : z_cx g D A3 L xs mi p s m args meth c) {len x y z pc : Nat} {ls : Zl} {st : List Zv} {h : Zh} {q : Zc} (hd : decode (zbytes mi) pc = .ok (.iaload, len)) (ho : z_ok mi pc (.iaload, len, x, y, z) = true) (hn : z_n (.iaload, len, x, y, z) pc ls st h = some q)
    (kk : z_W p l e R s m args below meth c Q g D A3 L xs mi n0 s0 q.1 q.2.1 q.2.2.1 q.2.2.2) : z_W p l e R s m args below meth c Q g D A3 L xs mi n0 s0 pc ls st h := by
  obtain ⟨hx, hb, hml, hown, hts, hin, hK, hE, hAO, hNw⟩ := C
  simp only [z_n, z_st] at hn
  split at hn
  · rename_i i a r
    have hl : len = 1 := by simpa [z_ok] using ho
    subst hl
    obtain ⟨hX, hZ1, hT1, hZ2, hT2, hlt, hle⟩ := hE
    rcases z_rd_inv hn with ⟨rfl, -, h0, h1, hq⟩ | ⟨rfl, -, h0, h1, hq⟩ | ⟨rfl, -, h0, h1, hq⟩ | ⟨k, cc, rfl, hk, hc, h0, h1, hq⟩
    · cases hq
      intro H locs la hrel hS hla hlen hvs hn0 hs0
      have hv := List.forall_mem_cons.mp hvs.2
      have hv2 := List.forall_mem_cons.mp hv.2
      have w := hrel.2.2
      have e1 : Int32.ofInt (h.2 1000 i) = xs (Int32.ofInt i).toNatClampNeg := by
        have e2 := w.2.2.2.2.1 i.toNat (by have := w.2.2.2.1; omega)
        rw [Int.toNat_of_nonneg h0] at e2
        rw [z_nc hv.1, e2, Int32.ofInt_toInt]
      refine va_sld hx hb hX (by omega) (by show ¬ g.1 ≤ g.2.1; omega) hS (z_vin hv.1 h0 (by rw [← w.2.2.2.1]; exact h1)) hd ?_
      rw [← e1]
      exact kk H locs la hrel hS hla hlen ⟨hvs.1, List.forall_mem_cons.mpr ⟨w.1 _ _, hv2.2⟩⟩ hn0 hs0
    · cases hq
      intro H locs la hrel hS hla hlen hvs hn0 hs0
      have hv := List.forall_mem_cons.mp hvs.2
      have hv2 := List.forall_mem_cons.mp hv.2
      refine va_ti hx hb hT1 hS (v := .int (Int32.ofInt (z_above i))) (z_vin hv.1 h0 h1) (by rw [z_nc hv.1, Int.toNat_of_nonneg h0]) hd ?_
      exact kk H locs la hrel hS hla hlen ⟨hvs.1, List.forall_mem_cons.mpr ⟨z_above_rng i, hv2.2⟩⟩ hn0 hs0
    · cases hq
      intro H locs la hrel hS hla hlen hvs hn0 hs0
      have hv := List.forall_mem_cons.mp hvs.2
      have hv2 := List.forall_mem_cons.mp hv.2
      refine va_ti hx hb hT2 hS (v := .int (Int32.ofInt (z_bodies i))) (z_vin hv.1 h0 h1) (by rw [z_nc hv.1, Int.toNat_of_nonneg h0]) hd ?_
      exact kk H locs la hrel hS hla hlen ⟨hvs.1, List.forall_mem_cons.mpr ⟨z_bodies_rng i, hv2.2⟩⟩ hn0 hs0
    · cases hq
      intro H locs la hrel hS hla hlen hvs hn0 hs0
      have hv := List.forall_mem_cons.mp hvs.2
      have hv2 := List.forall_mem_cons.mp hv.2
      refine W.iald (v := .int (Int32.ofInt (h.2 k i))) hx hb ((hrel.2.1 k cc hk).1 hc) ((hK.2 0 _ rfl).1 _ _) (fun q => by cases q) (by rw [arrV_size]; exact z_vin' hv.1 h0 h1) (by rw [z_nc hv.1, arrV_read _ _ (by omega), Int.toNat_of_nonneg h0]) rfl rfl hd ?_
      exact kk H locs la hrel hS hla hlen ⟨hvs.1, List.forall_mem_cons.mpr ⟨hrel.2.2.1 _ _, hv2.2⟩⟩ hn0 hs0
  · cases hn
theorem z_s_baload (C : z_cx g D A3 L xs mi p s m args meth c) {len x y z pc : Nat} {ls : Zl} {st : List Zv} {h : Zh} {q : Zc} (hd : decode (zbytes mi) pc = .ok (.baload, len)) (ho : z_ok mi pc (.baload, len, x, y, z) = true) (hn : z_n (.baload, len, x, y, z) pc ls st h = some q)
    (kk : z_W p l e R s m args below meth c Q g D A3 L xs mi n0 s0 q.1 q.2.1 q.2.2.1 q.2.2.2) : z_W p l e R s m args below meth c Q g D A3 L xs mi n0 s0 pc ls st h := by
  obtain ⟨hx, hb, hml, hown, hts, hin, hK, hE, hAO, hNw⟩ := C
  simp only [z_n, z_st] at hn
  split at hn
  · rename_i i a r
    have hl : len = 1 := by simpa [z_ok] using ho
    subst hl
    rcases z_rd_inv hn with ⟨-, q9, -⟩ | ⟨-, q9, -⟩ | ⟨-, q9, -⟩ | ⟨k, cc, rfl, hk, hc, h0, h1, hq⟩
    · omega
    · omega
    · omega
    · cases hq
      intro H locs la hrel hS hla hlen hvs hn0 hs0
      have hv := List.forall_mem_cons.mp hvs.2
      have hv2 := List.forall_mem_cons.mp hv.2
      refine W.zald (v := .int (Int32.ofInt (h.2 k i))) hx hb ((hrel.2.1 k cc hk).2.1 hc) ((hK.2 1 _ rfl).1 _ _) (fun q => by cases q) (by rw [arrV_size]; exact z_vin' hv.1 h0 h1) (by rw [z_nc hv.1, arrV_read _ _ (by omega), Int.toNat_of_nonneg h0]) rfl rfl hd ?_
      exact kk H locs la hrel hS hla hlen ⟨hvs.1, List.forall_mem_cons.mpr ⟨hrel.2.2.1 _ _, hv2.2⟩⟩ hn0 hs0
  · cases hn
theorem z_s_arraylength (C : z_cx g D A3 L xs mi p s m args meth c) {len x y z pc : Nat} {ls : Zl} {st : List Zv} {h : Zh} {q : Zc} (hd : decode (zbytes mi) pc = .ok (.arraylength, len)) (ho : z_ok mi pc (.arraylength, len, x, y, z) = true) (hn : z_n (.arraylength, len, x, y, z) pc ls st h = some q)
    (kk : z_W p l e R s m args below meth c Q g D A3 L xs mi n0 s0 q.1 q.2.1 q.2.2.1 q.2.2.2) : z_W p l e R s m args below meth c Q g D A3 L xs mi n0 s0 pc ls st h := by
  obtain ⟨hx, hb, hml, hown, hts, hin, hK, hE, hAO, hNw⟩ := C
  simp only [z_n, z_st] at hn
  split at hn
  · rename_i a r
    have hl : len = 1 := by simpa [z_ok] using ho
    subst hl
    obtain ⟨hX, hZ1, hT1, hZ2, hT2, hlt, hle⟩ := hE
    rcases z_len_inv hn with ⟨rfl, hq⟩ | ⟨rfl, hq⟩ | ⟨rfl, hq⟩ | ⟨k, cc, rfl, hk, hc, hq⟩
    · cases hq
      intro H locs la hrel hS hla hlen hvs hn0 hs0
      have hv := List.forall_mem_cons.mp hvs.2
      have w := hrel.2.2
      refine va_slen (b := g.2.1) hx hb hX (by omega) (by show ¬ g.1 ≤ g.2.1; omega) hS hd ?_
      rw [z_onat, ← w.2.2.2.1]
      exact kk H locs la hrel hS hla hlen ⟨hvs.1, List.forall_mem_cons.mpr ⟨w.1 _ _, hv.2⟩⟩ hn0 hs0
    · cases hq
      intro H locs la hrel hS hla hlen hvs hn0 hs0
      have hv := List.forall_mem_cons.mp hvs.2
      refine va_tlen hx hb hT1 hS (v := Int32.ofInt 6) rfl hd ?_
      exact kk H locs la hrel hS hla hlen ⟨hvs.1, List.forall_mem_cons.mpr ⟨show z_rng 6 by unfold z_rng; omega, hv.2⟩⟩ hn0 hs0
    · cases hq
      intro H locs la hrel hS hla hlen hvs hn0 hs0
      have hv := List.forall_mem_cons.mp hvs.2
      refine va_tlen hx hb hT2 hS (v := Int32.ofInt 24) rfl hd ?_
      exact kk H locs la hrel hS hla hlen ⟨hvs.1, List.forall_mem_cons.mpr ⟨show z_rng 24 by unfold z_rng; omega, hv.2⟩⟩ hn0 hs0
    · cases hq
      intro H locs la hrel hS hla hlen hvs hn0 hs0
      have hv := List.forall_mem_cons.mp hvs.2
      refine W.alen (n := Int32.ofInt (cc.2.1 : Int)) hx hb ((hrel.2.1 k cc hk).1 hc) ((hK.2 0 _ rfl).1 _ _) (by rw [arrV_size]; rfl) rfl rfl hd ?_
      have hw := (hrel.2.2.2.1 k cc hk).1
      exact kk H locs la hrel hS hla hlen ⟨hvs.1, List.forall_mem_cons.mpr ⟨show z_rng (cc.2.1 : Int) by unfold z_rng; omega, hv.2⟩⟩ hn0 hs0
  · cases hn
theorem z_s_iastore (C : z_cx g D A3 L xs mi p s m args meth c) {len x y z pc : Nat} {ls : Zl} {st : List Zv} {h : Zh} {q : Zc} (hd : decode (zbytes mi) pc = .ok (.iastore, len)) (ho : z_ok mi pc (.iastore, len, x, y, z) = true) (hn : z_n (.iastore, len, x, y, z) pc ls st h = some q)
    (kk : z_W p l e R s m args below meth c Q g D A3 L xs mi n0 s0 q.1 q.2.1 q.2.2.1 q.2.2.2) : z_W p l e R s m args below meth c Q g D A3 L xs mi n0 s0 pc ls st h := by
  obtain ⟨hx, hb, hml, hown, hts, hin, hK, hE, hAO, hNw⟩ := C
  simp only [z_n, z_st] at hn
  split at hn
  · rename_i v i a r
    have hl : len = 1 := by simpa [z_ok] using ho
    subst hl
    obtain ⟨k, cc, rfl, hk, hc, h0, h1, hq⟩ := z_wr_inv hn
    cases hq
    intro H locs la hrel hS hla hlen hvs hn0 hs0
    have hv := List.forall_mem_cons.mp hvs.2
    have hv2 := List.forall_mem_cons.mp hv.2
    have hv3 := List.forall_mem_cons.mp hv2.2
    refine W.iast hx hb ((hrel.2.1 k cc hk).1 hc) ((hK.2 0 _ rfl).1 _ _) (fun q => by cases q) (by rw [arrV_size]; exact z_vin' hv2.1 h0 h1) rfl rfl hd (fun H1 e z o => ?_)
    rw [z_nc hv2.1] at e
    exact kk H1 _ la (z_rel_wr hrel hk (Or.inl ⟨hc, rfl⟩) h0 hv.1 e z o) (hS.put z o (show g.1 ≤ g.1 + k by omega)) hla hlen ⟨hvs.1, hv3.2⟩ hn0 hs0
  · cases hn
theorem z_s_bastore (C : z_cx g D A3 L xs mi p s m args meth c) {len x y z pc : Nat} {ls : Zl} {st : List Zv} {h : Zh} {q : Zc} (hd : decode (zbytes mi) pc = .ok (.bastore, len)) (ho : z_ok mi pc (.bastore, len, x, y, z) = true) (hn : z_n (.bastore, len, x, y, z) pc ls st h = some q)
    (kk : z_W p l e R s m args below meth c Q g D A3 L xs mi n0 s0 q.1 q.2.1 q.2.2.1 q.2.2.2) : z_W p l e R s m args below meth c Q g D A3 L xs mi n0 s0 pc ls st h := by
  obtain ⟨hx, hb, hml, hown, hts, hin, hK, hE, hAO, hNw⟩ := C
  simp only [z_n, z_st] at hn
  split at hn
  · rename_i v i a r
    have hl : len = 1 := by simpa [z_ok] using ho
    subst hl
    split at hn
    · rename_i hb01
      have hnr : narrow .boolean (.int (Int32.ofInt v)) = .int (Int32.ofInt v) := z_narrowZ hb01
      obtain ⟨k, cc, rfl, hk, hc, h0, h1, hq⟩ := z_wr_inv hn
      cases hq
      intro H locs la hrel hS hla hlen hvs hn0 hs0
      have hv := List.forall_mem_cons.mp hvs.2
      have hv2 := List.forall_mem_cons.mp hv.2
      have hv3 := List.forall_mem_cons.mp hv2.2
      refine W.zast hx hb ((hrel.2.1 k cc hk).2.1 hc) ((hK.2 1 _ rfl).1 _ _) (fun q => by cases q) (by rw [arrV_size]; exact z_vin' hv2.1 h0 h1) rfl rfl hd (fun H1 e z o => ?_)
      rw [z_nc hv2.1, hnr] at e
      exact kk H1 _ la (z_rel_wr hrel hk (Or.inr ⟨hc, rfl⟩) h0 hv.1 e z o) (hS.put z o (show g.1 ≤ g.1 + k by omega)) hla hlen ⟨hvs.1, hv3.2⟩ hn0 hs0
    · cases hn
  · cases hn
theorem z_s_aaload (C : z_cx g D A3 L xs mi p s m args meth c) {len x y z pc : Nat} {ls : Zl} {st : List Zv} {h : Zh} {q : Zc} (hd : decode (zbytes mi) pc = .ok (.aaload, len)) (ho : z_ok mi pc (.aaload, len, x, y, z) = true) (hn : z_n (.aaload, len, x, y, z) pc ls st h = some q)
    (kk : z_W p l e R s m args below meth c Q g D A3 L xs mi n0 s0 q.1 q.2.1 q.2.2.1 q.2.2.2) : z_W p l e R s m args below meth c Q g D A3 L xs mi n0 s0 pc ls st h := by
  obtain ⟨hx, hb, hml, hown, hts, hin, hK, hE, hAO, hNw⟩ := C
  simp only [z_n, z_st] at hn
  split at hn
  · rename_i i a r
    have hl : len = 1 := by simpa [z_ok] using ho
    subst hl
    obtain ⟨k, cc, w, rfl, hk, hc, h0, h1, hr, hq⟩ := z_rdq_inv hn
    cases hq
    intro H locs la hrel hS hla hlen hvs hn0 hs0
    have hv := List.forall_mem_cons.mp hvs.2
    have hv2 := List.forall_mem_cons.mp hv.2
    refine W.aald (v := z_va g (.inr w)) (ty := .object (zcls 5)) hx hb ((hrel.2.1 k cc hk).2.2.1 hc) ((hK.2 2 _ rfl).1 _ _) rfl (fun q => by cases q) (by rw [arrV_size]; exact z_vin' hv.1 h0 h1) (by rw [z_nc hv.1, arrV_read _ _ (by omega), List.getD_eq_getElem?_getD, hr]; rfl) rfl rfl hd ?_
    exact kk H locs la hrel hS hla hlen ⟨hvs.1, List.forall_mem_cons.mpr ⟨trivial, hv2.2⟩⟩ hn0 hs0
  · cases hn
theorem z_s_getfield (C : z_cx g D A3 L xs mi p s m args meth c) {i : Nat} {len x y z pc : Nat} {ls : Zl} {st : List Zv} {h : Zh} {q : Zc} (hd : decode (zbytes mi) pc = .ok (.getfield i, len)) (ho : z_ok mi pc (.getfield i, len, x, y, z) = true) (hn : z_n (.getfield i, len, x, y, z) pc ls st h = some q)
    (kk : z_W p l e R s m args below meth c Q g D A3 L xs mi n0 s0 q.1 q.2.1 q.2.2.1 q.2.2.2) : z_W p l e R s m args below meth c Q g D A3 L xs mi n0 s0 pc ls st h := by
  obtain ⟨hx, hb, hml, hown, hts, hin, hK, hE, hAO, hNw⟩ := C
  simp only [z_ok, Bool.and_eq_true, beq_iff_eq, decide_eq_true_eq, List.any_eq_true] at ho
  obtain ⟨⟨⟨⟨rfl, hx8⟩, hyN⟩, hz⟩, w, hw, ⟨⟨h2, h3⟩, h4⟩, h5⟩ := ho
  have h6 := zFL_ok w hw
  rw [h2, h3, h4, h5] at h6
  have hlink := hts _ (zgw_in (List.mem_of_getElem? h6) rfl)
  simp only [z_n, z_st] at hn
  split at hn
  · rename_i a r
    obtain ⟨k, cc, rfl, hk, rfl, hq⟩ := z_get_inv hn
    intro H locs la hrel hS hla hlen hvs hn0 hs0
    have hv := List.forall_mem_cons.mp hvs.2
    have hob := (hrel.2.1 k cc hk).2.2.2 hx8
    refine va_get hx hb hts (z_ws_in hx8) hown hK (z_P1 hob hx8) 0 rfl (zclasses_at cc.1 hx8) y hyN hlink (fun w h => by rw [zDC_ok cc.1 hx8 y hyN] at h; exact h) (v := z_fv g h.2 k cc y) (by simp [hyN]) hd ?_
    rcases hq with ⟨rfl, w, hr, hq⟩ | ⟨hz2, hq⟩
    · cases hq
      rw [show z_fv g h.2 k cc y = z_va g (.inr w) by unfold z_fv; rw [if_pos hz.symm, List.getD_eq_getElem?_getD, hr]; rfl]
      exact kk H locs la hrel hS hla hlen ⟨hvs.1, List.forall_mem_cons.mpr ⟨trivial, hv.2⟩⟩ hn0 hs0
    · cases hq
      rw [show z_fv g h.2 k cc y = z_va g (.inl (h.2 k y)) by unfold z_fv; rw [if_neg (fun q => hz2 (hz.trans q))]; rfl]
      exact kk H locs la hrel hS hla hlen ⟨hvs.1, List.forall_mem_cons.mpr ⟨hrel.2.2.1 _ _, hv.2⟩⟩ hn0 hs0
  · cases hn
theorem z_s_putfield (C : z_cx g D A3 L xs mi p s m args meth c) {i : Nat} {len x y z pc : Nat} {ls : Zl} {st : List Zv} {h : Zh} {q : Zc} (hd : decode (zbytes mi) pc = .ok (.putfield i, len)) (ho : z_ok mi pc (.putfield i, len, x, y, z) = true) (hn : z_n (.putfield i, len, x, y, z) pc ls st h = some q)
    (kk : z_W p l e R s m args below meth c Q g D A3 L xs mi n0 s0 q.1 q.2.1 q.2.2.1 q.2.2.2) : z_W p l e R s m args below meth c Q g D A3 L xs mi n0 s0 pc ls st h := by
  obtain ⟨hx, hb, hml, hown, hts, hin, hK, hE, hAO, hNw⟩ := C
  simp only [z_ok, Bool.and_eq_true, beq_iff_eq, decide_eq_true_eq, List.any_eq_true, Bool.or_eq_true, Bool.not_eq_true'] at ho
  obtain ⟨⟨⟨⟨⟨rfl, hx8⟩, hyN⟩, hz⟩, w, hw, ⟨⟨h2, h3⟩, h4⟩, h5⟩, hf⟩ := ho
  have h6 := zFL_ok w hw
  rw [h2, h3, h4, h5] at h6
  have hlink := hts _ (zgw_in (List.mem_of_getElem? h6) rfl)
  have hf2 : (zT x y).2.2.2 = false ∨ (zkind mi = x ∧ meth.name = "<init>") := hf.imp id (fun q => ⟨q.1, hin q.2⟩)
  have hty := zFG_ok x hx8 y hyN
  simp only [z_n, z_st] at hn
  split at hn
  · rename_i v a r
    obtain ⟨k, cc, rfl, hk, rfl, hzz, hq⟩ := z_puti_inv hn
    cases hq
    intro H locs la hrel hS hla hlen hvs hn0 hs0
    have hv := List.forall_mem_cons.mp hvs.2
    have hv2 := List.forall_mem_cons.mp hv.2
    have hob := (hrel.2.1 k cc hk).2.2.2 hx8
    have hnf : narrow (zty cc.1 y) (.int (Int32.ofInt v)) = .int (Int32.ofInt v) ∧ fits (zty cc.1 y) (.int (Int32.ofInt v)) = true := by
      rcases hzz with h0 | ⟨h1, h01⟩
      · rw [hty.1 (hz.symm.trans h0)]; exact ⟨rfl, rfl⟩
      · rw [hty.2.1 (hz.symm.trans h1)]; exact ⟨z_narrowZ h01, z_fitsZ h01⟩
    refine z_put_core hx hb hts hown hK hx8 hyN hlink hf2 hnf.1 hnf.2 hob hd (fun H1 hob1 z o => ?_)
    refine kk H1 _ la ?_ (hS.put z o (show g.1 ≤ g.1 + k by omega)) hla hlen ⟨hvs.1, hv2.2⟩ hn0 hs0
    refine z_rel_obj hrel hk hx8 hv.1 z o (hob1.to fun j _ => ?_)
    exact z_fv_upd (by omega) j
  · rename_i w2 a r
    obtain ⟨k, cc, rfl, hk, rfl, hzz, hyl, hq⟩ := z_putr_inv hn
    cases hq
    intro H locs la hrel hS hla hlen hvs hn0 hs0
    have hv := List.forall_mem_cons.mp hvs.2
    have hv2 := List.forall_mem_cons.mp hv.2
    have hob := (hrel.2.1 k cc hk).2.2.2 hx8
    have hnf := z_nfr (g := g) w2 (hty.2.2 (hz.symm.trans hzz))
    refine z_put_core hx hb hts hown hK hx8 hyN hlink hf2 hnf.1 hnf.2 hob hd (fun H1 hob1 z o => ?_)
    have K := kk H1 (locs ++ [⟨g.1 + k, D.2 cc.1 y⟩]) la (z_rel_set hrel hk o z ⟨fun q => absurd q (show ¬ cc.1 = 8 by omega), fun q => absurd q (show ¬ cc.1 = 9 by omega), fun q => absurd q (show ¬ cc.1 = 10 by omega), fun _ => hob1.to fun j _ => z_fv_updr (hz.symm.trans hzz) hyl j⟩) (hS.put z o (show g.1 ≤ g.1 + k by omega)) hla hlen ⟨hvs.1, hv2.2⟩ (by simpa using hn0) (by show s0 ≤ z_sz (h.1.set k _); rw [z_sz_set hk]; exact hs0)
    dsimp only at K
    rw [List.length_set, z_sz_set hk] at K
    exact K
  · cases hn
end ZS
