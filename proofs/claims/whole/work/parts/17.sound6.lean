theorem z_updV_ref {g : Nat × Nat × Nat × Nat} {rs : List Nat} {i kr : Nat} (hi : i < rs.length) : updV (fun j => z_va g (.inr (rs.getD j 0))) i (.ref (g.1 + kr)) = fun j : Nat => z_va g (.inr ((rs.set i (kr + 4)).getD j 0)) := by
  funext j
  unfold updV
  by_cases hj : j = i
  · subst hj
    rw [if_pos rfl, List.getD_eq_getElem?_getD, List.getElem?_set_self hi]
    rfl
  · rw [if_neg hj]
    simp only [List.getD_eq_getElem?_getD, List.getElem?_set_ne (Ne.symm hj)]
theorem z_getD_rep (n j : Nat) : (List.replicate n 0).getD j 0 = 0 := by
  rw [List.getD_eq_getElem?_getD, List.getElem?_replicate]
  split <;> rfl
theorem z_clr_self (σ : Nat → Int → Int) (k : Nat) (i : Int) : z_clr σ k k i = 0 := by unfold z_clr; rw [if_pos rfl]
theorem z_N_lt : ∀ x < 8, zN x < 100000 := by decide
theorem z_flag3 : ∀ x < 8, ∀ j < zN x, zflag x j = 0 ∨ zflag x j = 1 ∨ zflag x j = 2 := by decide +kernel
theorem z_fv_new {g : Nat × Nat × Nat × Nat} {σ : Nat → Int → Int} {n x j : Nat} (hx : x < 8) (hj : j < zN x) : defaultValue (zty x j) = z_fv g (z_clr σ n) n (x, zN x, List.replicate (zN x) 0) j := by
  obtain ⟨f0, f1, f2⟩ := zFG_ok x hx j hj
  unfold z_fv
  dsimp only
  rw [z_getD_rep, z_clr_self]
  rcases z_flag3 x hx j hj with q | q | q
  · rw [f0 q, if_neg (by omega)]; rfl
  · rw [f1 q, if_neg (by omega)]; rfl
  · rw [f2 q, if_pos q]; rfl
theorem z_sw_inv {β : Type} {v d : Int} {K : Nat → Option β} {q : β} {pc : Nat} : ∀ {l : List Int} {lo : Int}, z_sw v lo K (z_tg pc d) (l.map (z_tg pc)) = some q →
    (∃ (j : Nat) (o : Int), l[j]? = some o ∧ v = lo + j ∧ K (z_tg pc o) = some q) ∨ ((v < lo ∨ lo + l.length ≤ v) ∧ K (z_tg pc d) = some q)
  | [], lo, h => Or.inr ⟨by simp; omega, h⟩
  | o :: l, lo, h => by
    rw [List.map_cons] at h
    unfold z_sw at h
    split at h
    · rename_i hv
      exact Or.inl ⟨0, o, rfl, by omega, h⟩
    · rename_i hv
      rcases z_sw_inv h with ⟨j, o2, h1, h2, h3⟩ | ⟨h1, h2⟩
      · exact Or.inl ⟨j + 1, o2, by simpa using h1, by omega, h3⟩
      · exact Or.inr ⟨by simp; omega, h2⟩
section ZS
variable {p : Program} {l : Launch} {e : Env} {R : Room} {s : State} {m : MethodId} {args : Array Value} {below : List Frame} {meth : Method} {c : Code} {Q : State → Prop}
variable {g : Nat × Nat × Nat × Nat} {D : va_G} {A3 : Nat × Nat × Nat} {L : Nat} {xs : Nat → Int32} {mi n0 s0 : Nat}
theorem z_s_aastore (C : z_cx g D A3 L xs mi p s m args meth c) {len x y z pc : Nat} {ls : Zl} {st : List Zv} {h : Zh} {q : Zc} (hd : decode (zbytes mi) pc = .ok (.aastore, len)) (ho : z_ok mi pc (.aastore, len, x, y, z) = true) (hn : z_n (.aastore, len, x, y, z) pc ls st h = some q)
    (kk : z_W p l e R s m args below meth c Q g D A3 L xs mi n0 s0 q.1 q.2.1 q.2.2.1 q.2.2.2) : z_W p l e R s m args below meth c Q g D A3 L xs mi n0 s0 pc ls st h := by
  obtain ⟨hx, hb, hml, hown, hts, hin, hK, hE, hAO, hNw⟩ := C
  simp only [z_n, z_st] at hn
  split at hn
  · rename_i w i a r
    have hl : len = 1 := by simpa [z_ok] using ho
    subst hl
    obtain ⟨k, cc, kr, cr, rfl, rfl, hk, hkr, hc, hc5, h0, h1, hil, hq⟩ := z_wrq_inv hn
    cases hq
    intro H locs la hrel hS hla hlen hvs hn0 hs0
    have hv := List.forall_mem_cons.mp hvs.2
    have hv2 := List.forall_mem_cons.mp hv.2
    have hv3 := List.forall_mem_cons.mp hv2.2
    obtain ⟨kA, comp, k1, k2, k3, -⟩ := (hK.2 2 _ rfl).2
    obtain ⟨cellV, g1, g2, g3, -⟩ := (hrel.2.1 kr cr hkr).2.2.2 (by omega)
    rw [hc5] at g2
    have hcls := (hK.1 5 _ (zclasses_at 5 (by omega))).2
    have hcomp : comp = D.1 5 := Option.some.inj (k3.symm.trans hcls.1)
    subst hcomp
    obtain ⟨kC, hkC, -⟩ := hcls.2
    have hvi := z_vin hv2.1 h0 h1
    refine W.aast hx hb ((hrel.2.1 k cc hk).2.2.1 hc) (fun q h => by cases h) (fun h => by cases h) k1 k2 rfl hkC ⟨fun q => hvi (Or.inl q), by rw [arrV_size]; exact Nat.not_le.mp fun q => hvi (Or.inr q)⟩ g1 (fun q h => by rw [g3] at h; cases h) (by rw [g2]; exact hkC) (by rw [g2]; exact va_assign hcls) rfl rfl hd (fun H1 e z o => ?_)
    rw [z_nc hv2.1, arrV_store, z_updV_ref hil] at e
    have K := kk H1 (locs ++ [⟨g.1 + k, (Int32.ofInt i).toNatClampNeg⟩]) la (z_rel_set hrel hk o z ⟨fun q => absurd q (show ¬ cc.1 = 8 by omega), fun q => absurd q (show ¬ cc.1 = 9 by omega), fun _ => e, fun q => absurd q (show ¬ cc.1 < 8 by omega)⟩) (hS.put z o (show g.1 ≤ g.1 + k by omega)) hla hlen ⟨hvs.1, hv3.2⟩ (by simpa using hn0) (by show s0 ≤ z_sz (h.1.set k _); rw [z_sz_set hk]; exact hs0)
    dsimp only at K
    rw [List.length_set, z_sz_set hk] at K
    exact K
  · cases hn
theorem z_s_getstatic (C : z_cx g D A3 L xs mi p s m args meth c) {i : Nat} {len x y z pc : Nat} {ls : Zl} {st : List Zv} {h : Zh} {q : Zc} (hd : decode (zbytes mi) pc = .ok (.getstatic i, len)) (ho : z_ok mi pc (.getstatic i, len, x, y, z) = true) (hn : z_n (.getstatic i, len, x, y, z) pc ls st h = some q)
    (kk : z_W p l e R s m args below meth c Q g D A3 L xs mi n0 s0 q.1 q.2.1 q.2.2.1 q.2.2.2) : z_W p l e R s m args below meth c Q g D A3 L xs mi n0 s0 pc ls st h := by
  obtain ⟨hx, hb, hml, hown, hts, hin, hK, hE, hAO, hNw⟩ := C
  simp only [z_ok, Bool.and_eq_true, Bool.or_eq_true, beq_iff_eq, List.any_eq_true] at ho
  obtain ⟨⟨rfl, hx23⟩, w, hw, ⟨h2, h3⟩, h4⟩ := ho
  have h6 := zSL_ok w hw
  rw [h2, h3, h4] at h6
  obtain ⟨hX, hZ1, hT1, hZ2, hT2, hlt, hle⟩ := hE
  cases hn
  intro H locs la hrel hS hla hlen hvs hn0 hs0
  rcases hx23 with rfl | rfl
  · refine va_gets hx hb hZ1 hS hown (hts _ (zgw_in (List.mem_of_getElem? h6) rfl)) (fun _ h => h) hd ?_
    exact kk H locs la hrel hS hla hlen ⟨hvs.1, List.forall_mem_cons.mpr ⟨trivial, hvs.2⟩⟩ hn0 hs0
  · refine va_gets hx hb hZ2 hS hown (hts _ (zgw_in (List.mem_of_getElem? h6) rfl)) (fun _ h => h) hd ?_
    exact kk H locs la hrel hS hla hlen ⟨hvs.1, List.forall_mem_cons.mpr ⟨trivial, hvs.2⟩⟩ hn0 hs0
theorem z_s_new (C : z_cx g D A3 L xs mi p s m args meth c) {i : Nat} {len x y z pc : Nat} {ls : Zl} {st : List Zv} {h : Zh} {q : Zc} (hd : decode (zbytes mi) pc = .ok (.new i, len)) (ho : z_ok mi pc (.new i, len, x, y, z) = true) (hn : z_n (.new i, len, x, y, z) pc ls st h = some q) (hr : q.2.2.2.1.length - n0 ≤ R.cells ∧ z_sz q.2.2.2.1 - s0 ≤ R.slots ∧ 1 ≤ R.frames ∧ 60 ≤ R.locals)
    (kk : z_W p l e R s m args below meth c Q g D A3 L xs mi n0 s0 q.1 q.2.1 q.2.2.1 q.2.2.2) : z_W p l e R s m args below meth c Q g D A3 L xs mi n0 s0 pc ls st h := by
  obtain ⟨hx, hb, hml, hown, hts, hin, hK, hE, hAO, hNw⟩ := C
  simp only [z_ok, Bool.and_eq_true, beq_iff_eq, decide_eq_true_eq, List.any_eq_true] at ho
  obtain ⟨⟨⟨rfl, hx8⟩, rfl⟩, w, hw, ⟨h2, h3⟩, h4⟩ := ho
  have h6 := zCL_ok w hw
  rw [h2, h3, h4] at h6
  simp only [z_n, z_st] at hn
  split at hn
  · rename_i hl9
    cases hn
    intro H locs la hrel hS hla hlen hvs hn0 hs0
    have hKn := hK.1 x _ (zclasses_at x hx8)
    have e1 : (h.1 ++ [(x, zN x, List.replicate (zN x) 0)]).length - n0 = (h.1.length - n0) + 1 := by simp; omega
    have e2 : z_sz (h.1 ++ [(x, zN x, List.replicate (zN x) 0)]) - s0 = (z_sz h.1 - s0) + zN x := by rw [z_sz_app]; dsimp only; omega
    dsimp only at hr
    rw [e1, e2] at hr
    refine W.newcK hx hb hown (hts _ (zgw_in (List.mem_of_getElem? h6) rfl)) (hts _ (zgw_in (List.mem_of_getElem? (zIN_ok x hx8)) rfl)) (hts _ (zgw_in (zIC_ok x hx8) rfl)) rfl hd hr.1 hr.2.1 hKn.2.1 hrel.1 (fun H1 kC hkC eb z o => ?_)
    have hob := u_born (zty x) hts (z_ws_in hx8) hKn hkC eb (fun k hk => zTY_ok x hx8 k hk)
    have K := kk H1 locs la (z_rel_new hrel (by rw [z, hrel.1]) (fun q h => o q (by rw [hrel.1] at h; exact h)) hl9 (z_N_lt x hx8) (fun _ => rfl) ⟨fun q => absurd q (show ¬ x = 8 by omega), fun q => absurd q (show ¬ x = 9 by omega), fun q => absurd q (show ¬ x = 10 by omega), fun _ => hob.to fun j hj => z_fv_new hx8 hj⟩) (z_S_new hS (by rw [z, hrel.1]) (fun q h => o q (by rw [hrel.1] at h; exact h))) hla hlen ⟨hvs.1, List.forall_mem_cons.mpr ⟨trivial, hvs.2⟩⟩ (by simp; omega) (by show s0 ≤ z_sz (h.1 ++ [_]); rw [z_sz_app]; omega)
    dsimp only at K
    rw [e1, e2] at K
    exact K
  · cases hn
theorem z_s_newarray_int (C : z_cx g D A3 L xs mi p s m args meth c) {len x y z pc : Nat} {ls : Zl} {st : List Zv} {h : Zh} {q : Zc} (hd : decode (zbytes mi) pc = .ok (.newarray .int, len)) (ho : z_ok mi pc (.newarray .int, len, x, y, z) = true) (hn : z_n (.newarray .int, len, x, y, z) pc ls st h = some q) (hr : q.2.2.2.1.length - n0 ≤ R.cells ∧ z_sz q.2.2.2.1 - s0 ≤ R.slots ∧ 1 ≤ R.frames ∧ 60 ≤ R.locals)
    (kk : z_W p l e R s m args below meth c Q g D A3 L xs mi n0 s0 q.1 q.2.1 q.2.2.1 q.2.2.2) : z_W p l e R s m args below meth c Q g D A3 L xs mi n0 s0 pc ls st h := by
  obtain ⟨hx, hb, hml, hown, hts, hin, hK, hE, hAO, hNw⟩ := C
  have ho2 : len = 2 ∧ x = 8 := by simpa [z_ok] using ho
  obtain ⟨rfl, rfl⟩ := ho2
  simp only [z_n, z_st] at hn
  split at hn
  · rename_i n r
    split at hn
    · rename_i hcond
      obtain ⟨hn0', hn1', hl9⟩ := hcond
      cases hn
      intro H locs la hrel hS hla hlen hvs hn0 hs0
      have hv := List.forall_mem_cons.mp hvs.2
      have hnn : (Int32.ofInt n).toNatClampNeg = n.toNat := z_nc hv.1
      have e1 : (h.1 ++ [(8, n.toNat, ([] : List Nat))]).length - n0 = (h.1.length - n0) + 1 := by simp; omega
      have e2 : z_sz (h.1 ++ [(8, n.toNat, ([] : List Nat))]) - s0 = (z_sz h.1 - s0) + n.toNat := by rw [z_sz_app]; dsimp only; omega
      dsimp only at hr
      rw [e1, e2] at hr
      refine va_newaK (atype := .int) hx hb (hts _ (zgw_in zwA.1 rfl)) rfl hd rfl (fun q => absurd ((z_lt0 hv.1).mp q) (by omega)) hnn (by show n.toNat * 4 ≤ 536870912; omega) hr.1 hr.2.1 hrel.1 (fun H1 cA eb z o hAr hfc => ?_)
      have hcA : cA = A3.1 := Option.some.inj (hfc.symm.trans (hK.2 0 _ rfl).2)
      subst hcA
      have e : H1[g.1 + h.1.length]? = some (arrV A3.1 n.toNat (fun j => .int (Int32.ofInt (z_clr h.2 h.1.length h.1.length j)))) := by rw [eb]; simp only [z_clr_self]; rfl
      have K := kk H1 locs la (z_rel_new hrel (by rw [z, hrel.1]) (fun q h => o q (by rw [hrel.1] at h; exact h)) hl9 (show n.toNat < 100000 by omega) (fun q => absurd q (show ¬ 8 < 8 by omega)) ⟨fun _ => e, fun q => absurd q (show ¬ 8 = 9 by omega), fun q => absurd q (show ¬ 8 = 10 by omega), fun q => absurd q (show ¬ 8 < 8 by omega)⟩) (z_S_new hS (by rw [z, hrel.1]) (fun q h => o q (by rw [hrel.1] at h; exact h))) hla hlen ⟨hvs.1, List.forall_mem_cons.mpr ⟨trivial, hv.2⟩⟩ (by simp; omega) (by show s0 ≤ z_sz (h.1 ++ [_]); rw [z_sz_app]; omega)
      dsimp only at K
      rw [e1, e2] at K
      exact K
    · cases hn
  · cases hn
theorem z_s_newarray_boolean (C : z_cx g D A3 L xs mi p s m args meth c) {len x y z pc : Nat} {ls : Zl} {st : List Zv} {h : Zh} {q : Zc} (hd : decode (zbytes mi) pc = .ok (.newarray .boolean, len)) (ho : z_ok mi pc (.newarray .boolean, len, x, y, z) = true) (hn : z_n (.newarray .boolean, len, x, y, z) pc ls st h = some q) (hr : q.2.2.2.1.length - n0 ≤ R.cells ∧ z_sz q.2.2.2.1 - s0 ≤ R.slots ∧ 1 ≤ R.frames ∧ 60 ≤ R.locals)
    (kk : z_W p l e R s m args below meth c Q g D A3 L xs mi n0 s0 q.1 q.2.1 q.2.2.1 q.2.2.2) : z_W p l e R s m args below meth c Q g D A3 L xs mi n0 s0 pc ls st h := by
  obtain ⟨hx, hb, hml, hown, hts, hin, hK, hE, hAO, hNw⟩ := C
  have ho2 : len = 2 ∧ x = 9 := by simpa [z_ok] using ho
  obtain ⟨rfl, rfl⟩ := ho2
  simp only [z_n, z_st] at hn
  split at hn
  · rename_i n r
    split at hn
    · rename_i hcond
      obtain ⟨hn0', hn1', hl9⟩ := hcond
      cases hn
      intro H locs la hrel hS hla hlen hvs hn0 hs0
      have hv := List.forall_mem_cons.mp hvs.2
      have hnn : (Int32.ofInt n).toNatClampNeg = n.toNat := z_nc hv.1
      have e1 : (h.1 ++ [(9, n.toNat, ([] : List Nat))]).length - n0 = (h.1.length - n0) + 1 := by simp; omega
      have e2 : z_sz (h.1 ++ [(9, n.toNat, ([] : List Nat))]) - s0 = (z_sz h.1 - s0) + n.toNat := by rw [z_sz_app]; dsimp only; omega
      dsimp only at hr
      rw [e1, e2] at hr
      refine va_newaK (atype := .boolean) hx hb (hts _ (zgw_in zwA.2.1 rfl)) rfl hd rfl (fun q => absurd ((z_lt0 hv.1).mp q) (by omega)) hnn (by show n.toNat * 1 ≤ 536870912; omega) hr.1 hr.2.1 hrel.1 (fun H1 cA eb z o hAr hfc => ?_)
      have hcA : cA = A3.2.1 := Option.some.inj (hfc.symm.trans (hK.2 1 _ rfl).2)
      subst hcA
      have e : H1[g.1 + h.1.length]? = some (arrV A3.2.1 n.toNat (fun j => .int (Int32.ofInt (z_clr h.2 h.1.length h.1.length j)))) := by rw [eb]; simp only [z_clr_self]; rfl
      have K := kk H1 locs la (z_rel_new hrel (by rw [z, hrel.1]) (fun q h => o q (by rw [hrel.1] at h; exact h)) hl9 (show n.toNat < 100000 by omega) (fun q => absurd q (show ¬ 9 < 8 by omega)) ⟨fun q => absurd q (show ¬ 9 = 8 by omega), fun _ => e, fun q => absurd q (show ¬ 9 = 10 by omega), fun q => absurd q (show ¬ 9 < 8 by omega)⟩) (z_S_new hS (by rw [z, hrel.1]) (fun q h => o q (by rw [hrel.1] at h; exact h))) hla hlen ⟨hvs.1, List.forall_mem_cons.mpr ⟨trivial, hv.2⟩⟩ (by simp; omega) (by show s0 ≤ z_sz (h.1 ++ [_]); rw [z_sz_app]; omega)
      dsimp only at K
      rw [e1, e2] at K
      exact K
    · cases hn
  · cases hn
theorem z_s_anewarray (C : z_cx g D A3 L xs mi p s m args meth c) {i : Nat} {len x y z pc : Nat} {ls : Zl} {st : List Zv} {h : Zh} {q : Zc} (hd : decode (zbytes mi) pc = .ok (.anewarray i, len)) (ho : z_ok mi pc (.anewarray i, len, x, y, z) = true) (hn : z_n (.anewarray i, len, x, y, z) pc ls st h = some q) (hr : q.2.2.2.1.length - n0 ≤ R.cells ∧ z_sz q.2.2.2.1 - s0 ≤ R.slots ∧ 1 ≤ R.frames ∧ 60 ≤ R.locals)
    (kk : z_W p l e R s m args below meth c Q g D A3 L xs mi n0 s0 q.1 q.2.1 q.2.2.1 q.2.2.2) : z_W p l e R s m args below meth c Q g D A3 L xs mi n0 s0 pc ls st h := by
  obtain ⟨hx, hb, hml, hown, hts, hin, hK, hE, hAO, hNw⟩ := C
  simp only [z_ok, Bool.and_eq_true, beq_iff_eq, List.any_eq_true] at ho
  obtain ⟨rfl, w, hw, ⟨h2, h3⟩, h4⟩ := ho
  have h6 := zCL_ok w hw
  rw [h2, h3, h4] at h6
  simp only [z_n, z_st] at hn
  split at hn
  · rename_i n r
    split at hn
    · rename_i hcond
      obtain ⟨hn0', hn1', hl9⟩ := hcond
      cases hn
      intro H locs la hrel hS hla hlen hvs hn0 hs0
      have hv := List.forall_mem_cons.mp hvs.2
      have hnn : (Int32.ofInt n).toNatClampNeg = n.toNat := z_nc hv.1
      have e1 : (h.1 ++ [(10, n.toNat, List.replicate n.toNat 0)]).length - n0 = (h.1.length - n0) + 1 := by simp; omega
      have e2 : z_sz (h.1 ++ [(10, n.toNat, List.replicate n.toNat 0)]) - s0 = (z_sz h.1 - s0) + n.toNat := by rw [z_sz_app]; dsimp only; omega
      dsimp only at hr
      rw [e1, e2] at hr
      refine W.anew hx hb hown (hts _ (zgw_in (List.mem_of_getElem? h6) rfl)) (va_AO.use hAO) rfl hd rfl (fun q => absurd ((z_lt0 hv.1).mp q) (by omega)) (by rw [hnn]; omega) hr.1 (by rw [hnn]; exact hr.2.1) (fun cA kA comp f1 f2 f3 f4 => ?_)
      rw [hnn]
      obtain ⟨-, -, -, -, -, k4⟩ := (hK.2 2 _ rfl).2
      have hcA : cA = A3.2.2 := Option.some.inj (f1.symm.trans k4)
      subst hcA
      generalize hH1 : H.push ({ cls := A3.2.2, slots := Array.replicate n.toNat .null, vm := .none } : Cell) = H1
      have z1 : H1.size = H.size + 1 := by rw [← hH1, Array.size_push]
      have eb : H1[H.size]? = some (arrV A3.2.2 n.toNat (fun _ => .null)) := by rw [← hH1, Array.getElem?_push_size, ← arrV_new]
      have o1 : ∀ q : Nat, q < H.size → H1[q]? = H[q]? := fun q hq => by rw [← hH1, Array.getElem?_push, if_neg (Nat.ne_of_lt hq)]
      have e : H1[g.1 + h.1.length]? = some (arrV A3.2.2 n.toNat (fun j => z_va g (.inr ((List.replicate n.toNat 0).getD j 0)))) := by
        rw [← hrel.1, eb]
        simp only [z_getD_rep]
        rfl
      have K := kk H1 locs la (z_rel_new hrel z1 o1 hl9 (show n.toNat < 100000 by omega) (fun q => absurd q (show ¬ 10 < 8 by omega)) ⟨fun q => absurd q (show ¬ 10 = 8 by omega), fun q => absurd q (show ¬ 10 = 9 by omega), fun _ => e, fun q => absurd q (show ¬ 10 < 8 by omega)⟩) (z_S_new hS z1 o1) hla hlen ⟨hvs.1, List.forall_mem_cons.mpr ⟨trivial, hv.2⟩⟩ (by simp; omega) (by show s0 ≤ z_sz (h.1 ++ [_]); rw [z_sz_app]; omega)
      dsimp only at K
      rw [e1, e2] at K
      rw [hrel.1]
      exact K
    · cases hn
  · cases hn
theorem z_s_objinit (C : z_cx g D A3 L xs mi p s m args meth c) {i : Nat} {len x y z pc : Nat} {ls : Zl} {st : List Zv} {h : Zh} {q : Zc} (hd : decode (zbytes mi) pc = .ok (.invokespecial i, len)) (ho : z_ok mi pc (.invokespecial i, len, x, y, z) = true) (hn : z_n (.invokespecial i, len, x, y, z) pc ls st h = some q) (hr : q.2.2.2.1.length - n0 ≤ R.cells ∧ z_sz q.2.2.2.1 - s0 ≤ R.slots ∧ 1 ≤ R.frames ∧ 60 ≤ R.locals) (hz5 : z = 5)
    (kk : z_W p l e R s m args below meth c Q g D A3 L xs mi n0 s0 q.1 q.2.1 q.2.2.1 q.2.2.2) : z_W p l e R s m args below meth c Q g D A3 L xs mi n0 s0 pc ls st h := by
  obtain ⟨hx, hb, hml, hown, hts, hin, hK, hE, hAO, hNw⟩ := C
  subst hz5
  simp only [z_ok, Bool.and_eq_true, beq_iff_eq, if_true, List.any_eq_true] at ho
  obtain ⟨rfl, w, hw, h2, h3⟩ := ho
  have h6 := zOL_ok w hw
  rw [h2, h3] at h6
  simp only [z_n, z_st] at hn
  split at hn
  · rename_i a r
    split at hn
    · rename_i hr8
      cases hn
      intro H locs la hrel hS hla hlen hvs hn0 hs0
      have hv := List.forall_mem_cons.mp hvs.2
      have hcs := z_catsum g r
      exact W.objInit (a := g.1 + a) (rest := r.map (z_va g)) hx hb hown (hts _ (zgw_in (List.mem_of_getElem? h6) rfl)) (hts _ (zgw_in zwA.2.2.2.2.2.2.2 rfl)) (hts _ (zgw_in zwA.2.2.2.2.2.2.1 rfl)) rfl (by rw [hml]; exact hla.1) rfl hd hr.2.2.1 (by show 2 * 0 + _ + 12 ≤ _; rw [hcs]; omega) (kk H locs la hrel hS hla hlen ⟨hvs.1, hv.2⟩ hn0 hs0)
    · cases hn
  · cases hn
theorem z_s_tableswitch (C : z_cx g D A3 L xs mi p s m args meth c) {d lo hi : Int} {os : Array Int} {len x y z pc : Nat} {ls : Zl} {st : List Zv} {h : Zh} {q : Zc} (hd : decode (zbytes mi) pc = .ok (.tableswitch d lo hi os, len)) (ho : z_ok mi pc (.tableswitch d lo hi os, len, x, y, z) = true) (hn : z_n (.tableswitch d lo hi os, len, x, y, z) pc ls st h = some q)
    (kk : z_W p l e R s m args below meth c Q g D A3 L xs mi n0 s0 q.1 q.2.1 q.2.2.1 q.2.2.2) : z_W p l e R s m args below meth c Q g D A3 L xs mi n0 s0 pc ls st h := by
  obtain ⟨hx, hb, hml, hown, hts, hin, hK, hE, hAO, hNw⟩ := C
  simp only [z_ok, Bool.and_eq_true, decide_eq_true_eq, List.all_eq_true] at ho
  obtain ⟨⟨⟨h1, h2⟩, h3⟩, h4⟩ := ho
  simp only [z_n, z_st] at hn
  split at hn
  · rename_i v r
    intro H locs la hrel hS hla hlen hvs hn0 hs0
    have hv := List.forall_mem_cons.mp hvs.2
    have hvt : (Int32.ofInt v).toInt = v := z_ti hv.1
    rcases z_sw_inv hn with ⟨j, o, hj, hv2, hq⟩ | ⟨hout, hq⟩
    · have hjl : j < os.toList.length := (List.getElem?_eq_some_iff.mp hj).1
      cases hq
      have ht := h2 o (List.mem_of_getElem? hj)
      refine lv_tableIn hx hb hd (off := o) (tgt := z_tg pc o) (by rw [hvt]; omega) (by rw [hvt]; omega) (by rw [hvt, ← Array.getElem?_toList, show (v - lo).toNat = j by omega]; exact hj) (by unfold z_tg; omega) ?_
      exact kk H locs la hrel hS hla hlen ⟨hvs.1, hv.2⟩ hn0 hs0
    · cases hq
      refine lv_tableOut hx hb hd (tgt := z_tg pc d) (by rw [hvt]; omega) (by unfold z_tg; omega) ?_
      exact kk H locs la hrel hS hla hlen ⟨hvs.1, hv.2⟩ hn0 hs0
  · cases hn
end ZS
