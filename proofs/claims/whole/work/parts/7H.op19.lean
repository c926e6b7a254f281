noncomputable def w_V (σ : Nat → Int → Int) : Int × (Int → Int) × (Int → Int) := w_pl (σ 71 29).toNat (σ 94) (σ 95) (σ 96) (σ 97) (σ 98) (σ 71 29).toNat 0 (fun _ => 0) (fun _ => 0) 0 (-1, fun _ => 0, fun _ => 0)
theorem w_DUv {s : Int → Int} {L : Int} {σ : Nat → Int → Int} (h : zV s L σ) : w_DU (σ 71 29).toNat (σ 94) (σ 95) (σ 96) (σ 97) (σ 98) := by
  have a := zV_U h
  refine ⟨by have := a.2.2.1; omega, fun u hu => ?_⟩
  have q := a.2.2.2 u (by omega) (by have := a.2.1; omega)
  exact q.2.2.2.2.2.2
theorem w_TUv {s : Int → Int} {L : Int} {σ : Nat → Int → Int} (h : zV s L σ) : w_TU (σ 71 29).toNat (σ 94) (σ 95) (σ 96) (fun u => if σ 97 u = -1 then -1 else σ 97 u % 10) (fun u => if σ 97 u = -1 then 0 else σ 97 u / 10) (σ 98) σ := by
  have a := zV_U h
  have a1 := a.1
  have a2 := a.2.1
  refine ⟨(zV_wU h).1, by omega, fun u hu => ?_⟩
  have q := a.2.2.2 u (by omega) (by omega)
  exact ⟨q.1, q.2.1, q.2.2.1, q.2.2.2.1, q.2.2.2.2.1, q.2.2.2.2.2.1⟩
theorem w_plan_c (d : Nat) (s : Int → Int) (L : Int) (σ : Nat → Int → Int) (h : zV s L σ) : ∃ σ1 : Nat → Int → Int, zE (d + 20) 53 0 [some (.inr 43), some (.inr 16)] [] (zS, σ) = some (.inl 0, (zS, σ1)) ∧ (∀ c : Nat, ¬ (39 ≤ c ∧ c ≤ 48) → σ1 c = σ c) ∧ zV s L σ1 ∧ w_DP (σ 71 29).toNat (σ 94) (σ 95) (σ 96) (σ 97) (σ 98) σ1 ∧ w_R3 (σ1 39 10) (σ1 47) (σ1 48) (σ 71 29).toNat (w_V σ) := by
  have hp := zV_pc h
  have U := w_DUv h
  have b2 := (zV_U h).2.1
  have e2 : ((σ 71 29).toNat : Int) = σ 71 29 := by omega
  have n6 := U.1
  rcases hp.1 with f | f
  · obtain ⟨σ1, t1, t2, t3, t4, t5⟩ := s_53 (d + 15 - (σ 71 29).toNat) (σ 71 29).toNat (σ 94) (σ 95) (σ 96) (σ 97) (σ 98) U σ (w_TUv h) f
    rw [show d + 15 - (σ 71 29).toNat + 4 + (σ 71 29).toNat + 1 = d + 20 by omega] at t1
    have E : σ1 = fun k => if 39 ≤ k ∧ k ≤ 48 then σ1 k else σ k := by
      funext k
      by_cases c : 39 ≤ k ∧ k ≤ 48
      · rw [if_pos c]
      · rw [if_neg c, t2 k c]
    refine ⟨σ1, t1, t2, ?_, t4, t5⟩
    rw [E]
    clear E
    obtain ⟨v_sc, v_st, v_mo, v_se, v_ik, v_ba, v_wP, v_wZ, v_wD, v_wS, v_wR, v_wU, v_wO, v_wG, v_wT, v_P, v_Q, v_Z, v_D, v_S, v_R, v_U, v_O, v_G, v_T, v_kl, v_kmo, v_kse, v_kP, v_kQ, v_kZ, v_kD, v_kS, v_kR, v_kU, v_kO, v_kG, v_kT, v_A, v_X0, v_X1, v_X2, v_X3, v_pc, v_pm, v_lc, v_lm⟩ := h
    refine ⟨v_sc, v_st, v_mo, v_se, v_ik, v_ba, v_wP, v_wZ, v_wD, v_wS, v_wR, v_wU, v_wO, v_wG, v_wT, v_P, v_Q, v_Z, v_D, v_S, v_R, v_U, v_O, v_G, v_T, v_kl, v_kmo, v_kse, v_kP, v_kQ, v_kZ, v_kD, v_kS, v_kR, v_kU, v_kO, v_kG, v_kT, v_A, v_X0, v_X1, v_X2, v_X3, ?_, v_pm, v_lc, v_lm⟩
    refine ⟨Or.inr t3, fun _ => ⟨t4.1.trans e2, fun u u0 u1 => ?_, t5.1, fun q => t5.2 (fun w => q (t5.1.trans w))⟩⟩
    obtain ⟨k, hk⟩ := Int.eq_ofNat_of_zero_le u0
    subst hk
    have u1 : ((k : Nat) : Int) < σ 71 29 := u1
    obtain ⟨q1, q2, q3, q4, q5⟩ := t4.2 k (by omega)
    have l := (U.2 k (by omega)).2.2.2.2.2.2.2
    refine ⟨q1, q2.trans ?_, q3, q4, fun v v0 v1 => ?_⟩
    · show w_lim (σ 98) k - σ 95 k = (if σ 98 k = 1 then 1200 else 1440) - σ 95 k
      unfold w_lim
      rcases l with l | l
      · rw [if_pos l, if_neg (by omega)]
      · rw [if_neg (by omega), if_pos l]
    · obtain ⟨j, hj⟩ := Int.eq_ofNat_of_zero_le v0
      subst hj
      have v1 : ((j : Nat) : Int) < σ 71 29 := v1
      exact q5 j (by omega)
  · obtain ⟨g1, g2, g3⟩ := hp.2 f
    rw [show d + 20 = d + 19 + 1 by omega, e_53_0, if_neg (by omega)]
    refine ⟨σ, rfl, fun _ _ => rfl, h, ⟨by omega, fun u hu => ?_⟩, g3.1, fun q => g3.2 (fun w => q (g3.1.symm.trans w))⟩
    have l := (U.2 u (by omega)).2.2.2.2.2.2.2
    obtain ⟨q1, q2, q3, q4, q5⟩ := g2 u (by omega) (by omega)
    refine ⟨q1, q2.trans ?_, q3, q4, fun v hv => q5 v (by omega) (by omega)⟩
    unfold w_lim
    rcases l with l | l
    · rw [if_pos l, if_neg (by omega)]
    · rw [if_pos l, if_neg (show ¬ σ 98 u = 0 by omega)]
theorem w_plan_m (d : Nat) (s : Int → Int) (L : Int) (σ : Nat → Int → Int) (h : zV s L σ) : ∃ σ2 : Nat → Int → Int, zE (d + 3) 186 0 [some (.inr 75), none, none, none] [] (zS, σ) = some (.inl 0, (zS, σ2)) ∧ zV s L σ2 ∧ (∀ c : Nat, ¬ (107 ≤ c ∧ c ≤ 110) → c ≠ 71 → σ2 c = σ c) ∧ (∀ j : Int, j ≠ 53 → j ≠ 54 → j ≠ 47 → σ2 71 j = σ 71 j) ∧ w_RN σ2 (σ 71 29).toNat (w_V σ) := by
  have hp := zV_pm h
  have U := w_DUv h
  have b2 := (zV_U h).2.1
  have e2 : ((σ 71 29).toNat : Int) = σ 71 29 := by omega
  rcases hp.1 with f | f
  · obtain ⟨σ2, t1, t2, t3, t4, t5⟩ := s_186 d (σ 71 29).toNat (σ 94) (σ 95) (σ 96) (σ 97) (σ 98) U σ ⟨e2.symm, rfl, rfl, rfl, rfl, rfl⟩ f
    have f71 : σ2 71 = z_up (z_up (z_up σ 71 53 (σ2 71 53)) 71 54 (σ2 71 54)) 71 47 1 71 := by
      funext j
      by_cases a : j = 47
      · subst a
        rw [z_up_eq, t4]
      · rw [z_up_ni a]
        by_cases b : j = 54
        · subst b
          rw [z_up_eq]
        · rw [z_up_ni b]
          by_cases c : j = 53
          · subst c
            rw [z_up_eq]
          · rw [z_up_ni c, t3 j c b a]
    have E : σ2 = fun k => if 107 ≤ k ∧ k ≤ 110 then σ2 k else if k = 71 then z_up (z_up (z_up σ 71 53 (σ2 71 53)) 71 54 (σ2 71 54)) 71 47 1 71 else σ k := by
      funext k
      by_cases a : 107 ≤ k ∧ k ≤ 110
      · rw [if_pos a]
      · rw [if_neg a]
        by_cases c : k = 71
        · rw [if_pos c, c]
          exact f71
        · rw [if_neg c, t2 k a c]
    refine ⟨σ2, t1, ?_, t2, t3, t5⟩
    have W : (σ2 71 53 = 0 ∨ σ2 71 53 = 1) ∧ zPlan (σ 71 29) (σ 94) (σ 95) (σ 96) (σ 97) (σ 98) (if σ2 71 53 = 1 then σ2 71 54 else -1) (σ2 109) (σ2 110) ∧ (σ2 71 53 = 1 → σ2 71 54 ≠ -1) := by
      rcases t5 with q | q
      · refine ⟨Or.inl q.1, ?_, fun w => by omega⟩
        rw [if_neg (by omega)]
        exact ⟨q.2.symm, fun w => absurd rfl w⟩
      · refine ⟨Or.inr q.1, ?_, fun _ => by rw [q.2.1]; exact q.2.2.1⟩
        rw [if_pos q.1]
        exact ⟨q.2.1, fun _ => q.2.2.2⟩
    clear t1 t2 t3 t4 t5 f71
    rw [E]
    clear E
    obtain ⟨v_sc, v_st, v_mo, v_se, v_ik, v_ba, v_wP, v_wZ, v_wD, v_wS, v_wR, v_wU, v_wO, v_wG, v_wT, v_P, v_Q, v_Z, v_D, v_S, v_R, v_U, v_O, v_G, v_T, v_kl, v_kmo, v_kse, v_kP, v_kQ, v_kZ, v_kD, v_kS, v_kR, v_kU, v_kO, v_kG, v_kT, v_A, v_X0, v_X1, v_X2, v_X3, v_pc, v_pm, v_lc, v_lm⟩ := h
    refine ⟨v_sc, v_st, v_mo, v_se, v_ik, v_ba, v_wP, v_wZ, v_wD, v_wS, v_wR, v_wU, v_wO, v_wG, v_wT, v_P, v_Q, v_Z, v_D, v_S, v_R, v_U, v_O, v_G, v_T, v_kl, v_kmo, v_kse, v_kP, v_kQ, v_kZ, v_kD, v_kS, v_kR, v_kU, v_kO, v_kG, v_kT, v_A, v_X0, v_X1, v_X2, v_X3, v_pc, ?_, v_lc, v_lm⟩
    exact ⟨Or.inr rfl, W.1, fun _ => W.2⟩
  · obtain ⟨g1, g2⟩ := hp.2.2 f
    rw [e_186_0, if_neg (by omega)]
    refine ⟨σ, rfl, h, fun _ _ _ => rfl, fun _ _ _ _ => rfl, ?_⟩
    rcases hp.2.1 with q | q
    · rw [if_neg (by omega)] at g1
      exact Or.inl ⟨q, g1.1.symm⟩
    · rw [if_pos q] at g1
      have ne := g2 q
      exact Or.inr ⟨q, g1.1, fun w => ne (g1.1.trans w), g1.2 ne⟩
theorem w_V_eq {σ σ1 : Nat → Int → Int} (t : ∀ c : Nat, ¬ (39 ≤ c ∧ c ≤ 48) → σ1 c = σ c) : w_V σ1 = w_V σ := by
  unfold w_V
  rw [t 71 (by omega), t 94 (by omega), t 95 (by omega), t 96 (by omega), t 97 (by omega), t 98 (by omega)]
theorem o_begins (d : Nat) (s : Int → Int) (L : Int) (σ : Nat → Int → Int) (h : zV s L σ) (x : Int) : zOK s L (d + 29) 116 187 [some (.inl x)] [some (.inl x)] σ := by
  obtain ⟨σ1, t1, t2, t3, t4, t5⟩ := w_plan_c (d + 8) s L σ h
  have e71 : σ1 71 = σ 71 := t2 71 (by omega)
  have b2 := (zV_U h).2.1
  have b3 := (zV_U h).2.2.1
  have e9 := t4.1
  have e2 : ((σ 71 29).toNat : Int) = σ 71 29 := by omega
  have t1 : zE (d + 28) 53 0 [some (.inr 43), some (.inr 16)] [] (zS, σ) = some (.inl 0, (zS, σ1)) := t1
  have cls : zE (d + 29) 116 0 [some (.inr 4), some (.inl x)] [] (zS, σ) = some (.inl (if (w_V σ).1 = -1 then -1 else if x = -1 then (w_V σ).1 else if 0 ≤ x ∧ x < σ 71 29 then (w_V σ).2.2 x else -1), (zS, σ1)) := by
    rw [e_116_0, t1, Option.bind_some, e_116_14]
    by_cases c : x = -1
    · rw [if_pos c, e_60_0, Option.bind_some, e_116_26, e_116_37, t5.1]
      by_cases g : (w_V σ).1 = -1
      · rw [if_pos g, g]
      · rw [if_neg g, if_pos c]
    · rw [if_neg c, e_61_0, t5.1, e9]
      by_cases g : (w_V σ).1 = -1
      · rw [if_pos g, if_pos g, Option.bind_some, e_116_37]
      · rw [if_neg g, if_neg g, if_neg c]
        by_cases c0 : x < 0
        · rw [if_pos c0, Option.bind_some, e_116_37, if_neg (by omega)]
        · rw [if_neg c0]
          by_cases c1 : x < σ 71 29
          · obtain ⟨i, hi⟩ := Int.eq_ofNat_of_zero_le (show 0 ≤ x by omega)
            have q := (t5.2 g i (by omega)).2
            rw [← hi] at q
            rw [if_pos (by omega), if_pos (by omega), Option.bind_some, e_116_37, if_pos (by omega), q]
          · rw [if_neg (by omega), Option.bind_some, e_116_37, if_neg (by omega)]
  by_cases c : -1 ≤ x ∧ x ≤ σ 71 29 - 1
  · obtain ⟨σ2, r1, r2, r3, r4, r5⟩ := w_plan_m (d + 25) s L σ1 t3
    rw [w_V_eq t2, e71] at r5
    have r1 : zE (d + 28) 186 0 [some (.inr 75), none, none, none] [] (zS, σ1) = some (.inl 0, (zS, σ2)) := r1
    refine ⟨_, σ1, σ2, cls, ?_, r2, t2 1000 (by omega), t2 1001 (by omega)⟩
    rw [e_187_0, e71, z_wid (by omega) (by omega), s_149, if_pos c, Option.bind_some, e_187_11, if_neg (by decide), r1, Option.bind_some, e_187_20]
    rcases r5 with r5 | r5
    · rw [if_pos r5.1, if_pos r5.2]
    · rw [if_neg (by omega), if_neg r5.2.2.1]
      by_cases c1 : x = -1
      · rw [if_pos c1, if_pos c1, r5.2.1]
      · obtain ⟨i, hi⟩ := Int.eq_ofNat_of_zero_le (show 0 ≤ x by omega)
        have q := (r5.2.2.2 i (by omega)).2
        rw [← hi] at q
        rw [if_neg c1, if_neg c1, if_pos (by omega), if_pos (by omega), q]
  · refine ⟨_, σ1, σ1, cls, ?_, t3, t2 1000 (by omega), t2 1001 (by omega)⟩
    rw [e_187_0, e71, z_wid (by omega) (by omega), s_149, if_neg c, Option.bind_some, e_187_11, if_pos rfl]
    by_cases g : (w_V σ).1 = -1
    · rw [if_pos g]
    · rw [if_neg g, if_neg (by omega), if_neg (by omega)]
theorem o_order (d : Nat) (s : Int → Int) (L : Int) (σ : Nat → Int → Int) (h : zV s L σ) (x : Int) : zOK s L (d + 29) 117 188 [some (.inl x)] [some (.inl x)] σ := by
  obtain ⟨σ1, t1, t2, t3, t4, t5⟩ := w_plan_c (d + 8) s L σ h
  have e71 : σ1 71 = σ 71 := t2 71 (by omega)
  have b2 := (zV_U h).2.1
  have b3 := (zV_U h).2.2.1
  have e9 := t4.1
  have e2 : ((σ 71 29).toNat : Int) = σ 71 29 := by omega
  have t1 : zE (d + 28) 53 0 [some (.inr 43), some (.inr 16)] [] (zS, σ) = some (.inl 0, (zS, σ1)) := t1
  have cls : zE (d + 29) 117 0 [some (.inr 4), some (.inl x)] [] (zS, σ) = some (.inl (if (w_V σ).1 = -1 then -1 else if 0 ≤ x ∧ x < σ 71 29 then (w_V σ).2.1 x else -1), (zS, σ1)) := by
    rw [e_117_0, t1, Option.bind_some, e_117_14, e_62_0, t5.1, e9]
    by_cases g : (w_V σ).1 = -1
    · rw [if_pos g, if_pos g, Option.bind_some, e_117_22]
    · rw [if_neg g, if_neg g]
      by_cases c0 : x < 0
      · rw [if_pos c0, Option.bind_some, e_117_22, if_neg (by omega)]
      · rw [if_neg c0]
        by_cases c1 : x < σ 71 29
        · obtain ⟨i, hi⟩ := Int.eq_ofNat_of_zero_le (show 0 ≤ x by omega)
          have q := (t5.2 g i (by omega)).1
          rw [← hi] at q
          rw [if_pos (by omega), if_pos (by omega), Option.bind_some, e_117_22, if_pos (by omega), q]
        · rw [if_neg (by omega), Option.bind_some, e_117_22, if_neg (by omega)]
  obtain ⟨σ2, r1, r2, r3, r4, r5⟩ := w_plan_m (d + 25) s L σ1 t3
  rw [w_V_eq t2, e71] at r5
  have r1 : zE (d + 28) 186 0 [some (.inr 75), none, none, none] [] (zS, σ1) = some (.inl 0, (zS, σ2)) := r1
  refine ⟨_, σ1, σ2, cls, ?_, r2, t2 1000 (by omega), t2 1001 (by omega)⟩
  rw [e_188_0, r1, Option.bind_some, e_188_4]
  rcases r5 with r5 | r5
  · rw [if_pos r5.1, if_pos r5.2]
  · rw [if_neg (by omega), if_neg r5.2.2.1, r4 29 (by omega) (by omega) (by omega), e71, z_wid (by omega) (by omega), s_149]
    by_cases c : 0 ≤ x ∧ x < σ 71 29
    · obtain ⟨i, hi⟩ := Int.eq_ofNat_of_zero_le c.1
      have q := (r5.2.2.2 i (by omega)).1
      rw [← hi] at q
      rw [if_pos (by omega), Option.bind_some, e_188_22, if_neg (by decide), if_pos (by omega), if_pos c, q]
    · rw [if_neg (by omega), Option.bind_some, e_188_22, if_pos rfl, if_neg c]
