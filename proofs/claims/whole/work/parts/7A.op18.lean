noncomputable def w_W (σ : Nat → Int → Int) : Int × (Int → Int) := w_lo (σ 71 36) (σ 99) (σ 100) (σ 101) (σ 102) (σ 103) (σ 71 38).toNat 0 (fun _ => 0) 0 (-1, fun _ => 0)
theorem w_W_ge (σ : Nat → Int → Int) : 0 ≤ (w_W σ).1 := (w_lo_ge _ _ _ _ _ _ _ 0 (fun _ => 0) 0 (-1, fun _ => 0)).1
theorem w_DBv {s : Int → Int} {L : Int} {σ : Nat → Int → Int} (h : zV s L σ) : w_DB (σ 71 36) (σ 71 38).toNat (σ 99) (σ 101) (σ 102) (σ 103) := by
  have a := zV_O h
  have b := zV_G h
  refine ⟨a.2.1, a.2.2.1, by have := b.2.2.1; omega, fun x x0 x1 => (a.2.2.2 x x0 x1).2, fun g hg => ?_⟩
  have q := b.2.2.2 g (by omega) (by have := b.2.1; omega)
  exact q.2.2.2.2
theorem w_room_c (d : Nat) (s : Int → Int) (L : Int) (σ : Nat → Int → Int) (h : zV s L σ) : ∃ σ1 : Nat → Int → Int, zE (d + 20) 42 0 [some (.inr 53), some (.inr 5)] [] (zS, σ) = some (.inl 0, (zS, σ1)) ∧ (∀ c : Nat, ¬ (49 ≤ c ∧ c ≤ 59) → σ1 c = σ c) ∧ zV s L σ1 ∧ σ1 49 12 = (w_W σ).1 ∧ σ1 49 10 = σ 71 38 ∧ ∀ i : Nat, i < (σ 71 38).toNat → σ1 59 i = (w_W σ).2 i := by
  have hl := zV_lc h
  rcases hl.2.1 with f | f
  · have a := zV_O h
    have b := zV_G h
    have a1 := a.1
    have a2 := a.2.1
    have b1 := b.1
    have b2 := b.2.1
    have B := w_DBv h
    have hn : (σ 71 38).toNat ≤ 6 := B.2.2.1
    have e1 : ((σ 71 36).toNat : Int) = σ 71 36 := by omega
    have e2 : ((σ 71 38).toNat : Int) = σ 71 38 := by omega
    obtain ⟨σ1, t1, t2, t3, t4, t5, t6⟩ := s_42 (d + 16 - (σ 71 38).toNat) σ (σ 71 36).toNat (σ 71 38).toNat (σ 99) (σ 100) (σ 101) (σ 102) (σ 103) (by rw [e1]; exact B) (zV_wO h).1 (by omega) (fun x x0 x1 => (a.2.2.2 x x0 (by omega)).1) (zV_wG h).1 (by omega) (fun g hg => by
      have q := b.2.2.2 g (by omega) (by omega)
      exact ⟨q.1, q.2.1, q.2.2.1, q.2.2.2.1⟩) hl.1 f
    rw [show d + 16 - (σ 71 38).toNat + 3 + (σ 71 38).toNat + 1 = d + 20 by omega] at t1
    rw [e1] at t6
    have ge := w_W_ge σ
    have t7 : ∀ i : Nat, i < (σ 71 38).toNat → σ1 59 i = (w_W σ).2 i := fun i hi => t6.2 (fun q => by
      have ge : 0 ≤ (w_lo (σ 71 36) (σ 99) (σ 100) (σ 101) (σ 102) (σ 103) (σ 71 38).toNat 0 (fun _ => 0) 0 (-1, fun _ => 0)).1 := ge
      omega) i hi
    have E : σ1 = fun k => if 49 ≤ k ∧ k ≤ 59 then σ1 k else σ k := by
      funext k
      by_cases c : 49 ≤ k ∧ k ≤ 59
      · rw [if_pos c]
      · rw [if_neg c, t2 k c]
    refine ⟨σ1, t1, t2, ?_, t6.1, by rw [t4, e2], t7⟩
    rw [E]
    clear E
    obtain ⟨v_sc, v_st, v_mo, v_se, v_ik, v_ba, v_wP, v_wZ, v_wD, v_wS, v_wR, v_wU, v_wO, v_wG, v_wT, v_P, v_Q, v_Z, v_D, v_S, v_R, v_U, v_O, v_G, v_T, v_kl, v_kmo, v_kse, v_kP, v_kQ, v_kZ, v_kD, v_kS, v_kR, v_kU, v_kO, v_kG, v_kT, v_A, v_X0, v_X1, v_X2, v_X3, v_pc, v_pm, v_lc, v_lm⟩ := h
    refine ⟨v_sc, v_st, v_mo, v_se, v_ik, v_ba, v_wP, v_wZ, v_wD, v_wS, v_wR, v_wU, v_wO, v_wG, v_wT, v_P, v_Q, v_Z, v_D, v_S, v_R, v_U, v_O, v_G, v_T, v_kl, v_kmo, v_kse, v_kP, v_kQ, v_kZ, v_kD, v_kS, v_kR, v_kU, v_kO, v_kG, v_kT, v_A, v_X0, v_X1, v_X2, v_X3, v_pc, v_pm, ?_, v_lm⟩
    exact ⟨t5, Or.inr t3, fun _ => ⟨t4.trans e2, t6.1, t7⟩⟩
  · have g := hl.2.2 f
    rw [show d + 20 = d + 19 + 1 by omega, e_42_0, if_neg (by omega)]
    exact ⟨σ, rfl, fun _ _ => rfl, h, g.2.1, g.1, g.2.2⟩
theorem w_room_m (d : Nat) (s : Int → Int) (L : Int) (σ : Nat → Int → Int) (h : zV s L σ) : ∃ σ2 : Nat → Int → Int, zE (d + 2) 196 0 [some (.inr 75), none, none, none] [] (zS, σ) = some (.inl 0, (zS, σ2)) ∧ zV s L σ2 ∧ σ2 71 57 = (w_W σ).1 ∧ ∀ i : Nat, i < (σ 71 38).toNat → σ2 112 i = (w_W σ).2 i := by
  have hl := zV_lm h
  have b2 := (zV_G h).2.1
  rcases hl.1 with f | f
  · have e2 : ((σ 71 38).toNat : Int) = σ 71 38 := by omega
    obtain ⟨σ2, t1, t2, t3, t4, t5⟩ := s_196 d (σ 71 36) (σ 71 38).toNat (σ 99) (σ 100) (σ 101) (σ 102) (σ 103) (w_DBv h) σ ⟨rfl, e2.symm, rfl, rfl, rfl, rfl, rfl⟩ f
    have ge := w_W_ge σ
    have t7 : ∀ i : Nat, i < (σ 71 38).toNat → σ2 112 i = (w_W σ).2 i := fun i hi => t5.2 (fun q => by
      have ge : 0 ≤ (w_lo (σ 71 36) (σ 99) (σ 100) (σ 101) (σ 102) (σ 103) (σ 71 38).toNat 0 (fun _ => 0) 0 (-1, fun _ => 0)).1 := ge
      omega) i hi
    have f71 : σ2 71 = z_up (z_up σ 71 57 (σ2 71 57)) 71 48 1 71 := by
      funext j
      by_cases a : j = 48
      · subst a
        rw [z_up_eq, t4]
      · rw [z_up_ni a]
        by_cases b : j = 57
        · subst b
          rw [z_up_eq]
        · rw [z_up_ni b, t3 j b a]
    have E : σ2 = fun k => if k = 111 then σ2 k else if k = 112 then σ2 k else if k = 71 then z_up (z_up σ 71 57 (σ2 71 57)) 71 48 1 71 else σ k := by
      funext k
      by_cases a : k = 111
      · rw [if_pos a]
      · rw [if_neg a]
        by_cases b : k = 112
        · rw [if_pos b]
        · rw [if_neg b]
          by_cases c : k = 71
          · rw [if_pos c, c]
            exact f71
          · rw [if_neg c, t2 k a b c]
    refine ⟨σ2, t1, ?_, t5.1, t7⟩
    have t51 := t5.1
    clear t1 t2 t3 f71 t5
    rw [E]
    clear E
    obtain ⟨v_sc, v_st, v_mo, v_se, v_ik, v_ba, v_wP, v_wZ, v_wD, v_wS, v_wR, v_wU, v_wO, v_wG, v_wT, v_P, v_Q, v_Z, v_D, v_S, v_R, v_U, v_O, v_G, v_T, v_kl, v_kmo, v_kse, v_kP, v_kQ, v_kZ, v_kD, v_kS, v_kR, v_kU, v_kO, v_kG, v_kT, v_A, v_X0, v_X1, v_X2, v_X3, v_pc, v_pm, v_lc, v_lm⟩ := h
    refine ⟨v_sc, v_st, v_mo, v_se, v_ik, v_ba, v_wP, v_wZ, v_wD, v_wS, v_wR, v_wU, v_wO, v_wG, v_wT, v_P, v_Q, v_Z, v_D, v_S, v_R, v_U, v_O, v_G, v_T, v_kl, v_kmo, v_kse, v_kP, v_kQ, v_kZ, v_kD, v_kS, v_kR, v_kU, v_kO, v_kG, v_kT, v_A, v_X0, v_X1, v_X2, v_X3, v_pc, v_pm, v_lc, ?_⟩
    exact ⟨Or.inr rfl, fun _ => ⟨t51, t7⟩⟩
  · have g := hl.2 f
    rw [e_196_0, if_neg (by omega)]
    exact ⟨σ, rfl, h, g.1, g.2⟩
theorem o_rooming (d : Nat) (s : Int → Int) (L : Int) (σ : Nat → Int → Int) (h : zV s L σ) (x : Int) : zOK s L (d + 29) 120 197 [some (.inl x)] [some (.inl x)] σ := by
  obtain ⟨σ1, t1, t2, t3, t4, t5, t6⟩ := w_room_c (d + 8) s L σ h
  have e71 : σ1 71 = σ 71 := t2 71 (by omega)
  have b2 := (zV_G h).2.1
  have b3 := (zV_G h).2.2.1
  have eW : w_W σ1 = w_W σ := by
    unfold w_W
    rw [e71, t2 99 (by omega), t2 100 (by omega), t2 101 (by omega), t2 102 (by omega), t2 103 (by omega)]
  have t1 : zE (d + 28) 42 0 [some (.inr 53), some (.inr 5)] [] (zS, σ) = some (.inl 0, (zS, σ1)) := t1
  have cls : zE (d + 29) 120 0 [some (.inr 4), some (.inl x)] [] (zS, σ) = some (.inl (if x = -1 then (w_W σ).1 else if 0 ≤ x ∧ x < σ 71 38 then (w_W σ).2 x else -1), (zS, σ1)) := by
    rw [e_120_0, t1, Option.bind_some, e_120_11]
    by_cases c : x = -1
    · rw [if_pos c, if_pos c, e_49_0, Option.bind_some, e_120_23, e_120_34, t4]
    · rw [if_neg c, if_neg c, e_50_0, t5]
      by_cases c0 : x < 0
      · rw [if_pos c0, Option.bind_some, e_120_34, if_neg (by omega)]
      · rw [if_neg c0]
        by_cases c1 : x < σ 71 38
        · obtain ⟨i, hi⟩ := Int.eq_ofNat_of_zero_le (show 0 ≤ x by omega)
          have q := t6 i (by omega)
          rw [← hi] at q
          rw [if_pos c1, if_pos (by omega), Option.bind_some, e_120_34, if_pos (by omega), q]
        · rw [if_neg c1, Option.bind_some, e_120_34, if_neg (by omega)]
  by_cases c : -1 ≤ x ∧ x ≤ σ 71 38 - 1
  · obtain ⟨σ2, r1, r2, r3, r4⟩ := w_room_m (d + 26) s L σ1 t3
    rw [eW, e71] at r4
    rw [eW] at r3
    have r1 : zE (d + 28) 196 0 [some (.inr 75), none, none, none] [] (zS, σ1) = some (.inl 0, (zS, σ2)) := r1
    refine ⟨_, σ1, σ2, cls, ?_, r2, t2 1000 (by omega), t2 1001 (by omega)⟩
    rw [e_197_0, e71, z_wid (by omega) (by omega), s_149, if_pos c, Option.bind_some, e_197_11, if_neg (by decide), r1, Option.bind_some, e_197_20]
    by_cases c1 : x = -1
    · rw [if_pos c1, if_pos c1, r3]
    · obtain ⟨i, hi⟩ := Int.eq_ofNat_of_zero_le (show 0 ≤ x by omega)
      have q := r4 i (by omega)
      rw [← hi] at q
      rw [if_neg c1, if_neg c1, if_pos (by omega), if_pos (by omega), q]
  · refine ⟨_, σ1, σ1, cls, ?_, t3, t2 1000 (by omega), t2 1001 (by omega)⟩
    rw [e_197_0, e71, z_wid (by omega) (by omega), s_149, if_neg c, Option.bind_some, e_197_11, if_pos rfl, if_neg (by omega), if_neg (by omega)]
