theorem s_171 (d : Nat) {s : Int → Int} {L : Int} {σ τ : Nat → Int → Int} (h : zV s L σ) (hτ : ∀ k, 71 ≤ k → τ k = σ k) (p u m a : Int) (hp : 0 ≤ p ∧ p < σ 71 13) (hu : 0 ≤ u ∧ u < σ 71 10) (hm : 0 ≤ m ∧ m ≤ 28799) : zE (d + 5) 171 0 [some (.inr 75), some (.inl p), some (.inl u), some (.inl m), some (.inl a), none, none, none] [] (zS, τ) = some (.inl (w_shut σ p u m a), (zS, τ)) := by
  have hS2 := (zV_S h).2.2.1
  have hD2 := (zV_D h).2.2.1
  have hR2 := (zV_R h).2.2.1
  have hP0 := (zV_P h).2.1
  have hP2 := (zV_P h).2.2.1
  have hZ2 := (zV_Z h).2.2.1
  have hZ3 := (zV_Z h).2.1
  obtain ⟨_, _, _, _, _, _, _, p7⟩ := (zV_S h).2.2.2 p hp.1 hp.2
  obtain ⟨_, _, u2⟩ := (zV_D h).2.2.2 u hu.1 hu.2
  have w := w_1440 hm.1 hm.2
  have rr := w_rule_rng σ p (σ 79 u) m a (zV_R h).2.1
  have k01 := w_of_01 (σ 81 p) 3
  have zz := (zV_Z h).2.2.2 (σ 79 u)
  have lr := (zV_R h).2.2.2 (w_rule σ p (σ 79 u) m a)
  unfold w_shut
  by_cases c1 : ¬ σ 85 p = -1 ∧ σ 86 p ≤ a ∧ σ 85 p ≤ m
  · simp (disch := omega) only [e_171_0, e_171_43, e_171_79, e_171_110, e_171_174, hτ, Option.bind_some, Int.add_zero, z_wid, or_true, true_or, z_up_fn, z_up_ni, z_up_eq, z_up_qi, z_rw_fn, z_rw_in, z_rw_out, if_pos, if_neg, ↓reduceIte]
  · have g : zE (d + 5) 171 43 [some (.inr 75), some (.inl p), some (.inl u), some (.inl m), some (.inl a), none, none, none] [.inl (w_of (σ 81 p) 3)] (zS, τ) = zE (d + 5) 171 0 [some (.inr 75), some (.inl p), some (.inl u), some (.inl m), some (.inl a), none, none, none] [] (zS, τ) := by
      by_cases c2 : σ 85 p = -1
      · simp (disch := omega) only [e_171_0, s_168, hτ, Option.bind_some, Int.add_zero, z_wid, or_true, true_or, z_up_fn, z_up_ni, z_up_eq, z_up_qi, z_rw_fn, z_rw_in, z_rw_out, if_pos, if_neg, ↓reduceIte]
      · by_cases c3 : σ 86 p ≤ a
        · simp (disch := omega) only [e_171_0, s_168, hτ, Option.bind_some, Int.add_zero, z_wid, or_true, true_or, z_up_fn, z_up_ni, z_up_eq, z_up_qi, z_rw_fn, z_rw_in, z_rw_out, if_pos, if_neg, ↓reduceIte]
        · simp (disch := omega) only [e_171_0, s_168, hτ, Option.bind_some, Int.add_zero, z_wid, or_true, true_or, z_up_fn, z_up_ni, z_up_eq, z_up_qi, z_rw_fn, z_rw_in, z_rw_out, if_pos, if_neg, ↓reduceIte]
    rw [← g]
    by_cases c2 : σ 82 p ≤ m / 1440 ∧ m / 1440 ≤ (if w_of (σ 81 p) 3 = 1 then σ 82 p else σ 83 p)
    · have g2 : ∃ o5 : Option (Int ⊕ Nat), zE (d + 5) 171 43 [some (.inr 75), some (.inl p), some (.inl u), some (.inl m), some (.inl a), none, none, none] [.inl (w_of (σ 81 p) 3)] (zS, τ) = zE (d + 5) 171 79 [some (.inr 75), some (.inl p), some (.inl u), some (.inl m), some (.inl a), o5, none, none] [.inl 1] (zS, τ) := by
        rcases k01 with k0 | k0
        · rw [if_neg (by omega)] at c2
          refine ⟨some (.inl (σ 83 p)), ?_⟩
          simp (disch := omega) only [e_171_43, s_149, hτ, k0, w.1, Option.bind_some, Int.add_zero, z_wid, or_true, true_or, z_up_fn, z_up_ni, z_up_eq, z_up_qi, z_rw_fn, z_rw_in, z_rw_out, if_pos, if_neg, ↓reduceIte]
        · rw [if_pos k0] at c2
          refine ⟨some (.inl (σ 82 p)), ?_⟩
          simp (disch := omega) only [e_171_43, s_149, hτ, k0, w.1, Option.bind_some, Int.add_zero, z_wid, or_true, true_or, z_up_fn, z_up_ni, z_up_eq, z_up_qi, z_rw_fn, z_rw_in, z_rw_out, if_pos, if_neg, ↓reduceIte]
      obtain ⟨o5, g2⟩ := g2
      rw [g2]
      by_cases c3 : σ 79 u = -1
      · simp (disch := omega) only [e_171_79, hτ, Option.bind_some, Int.add_zero, z_wid, or_true, true_or, z_up_fn, z_up_ni, z_up_eq, z_up_qi, z_rw_fn, z_rw_in, z_rw_out, if_pos, if_neg, ↓reduceIte]
      · have zz := zz (by omega) (by omega)
        by_cases c4 : w_rule σ p (σ 79 u) m a = -1
        · simp (disch := omega) only [e_171_79, e_171_110, s_170 _ h hτ _ _ _ _ hp hm, hτ, Option.bind_some, Int.add_zero, z_wid, or_true, true_or, z_up_fn, z_up_ni, z_up_eq, z_up_qi, z_rw_fn, z_rw_in, z_rw_out, if_pos, if_neg, ↓reduceIte]
        · have lr := lr (by omega) (by omega)
          by_cases c5 : σ 87 (w_rule σ p (σ 79 u) m a) = 0
          · simp (disch := omega) only [e_171_79, e_171_110, s_170 _ h hτ _ _ _ _ hp hm, hτ, Option.bind_some, Int.add_zero, z_wid, or_true, true_or, z_up_fn, z_up_ni, z_up_eq, z_up_qi, z_rw_fn, z_rw_in, z_rw_out, if_pos, if_neg, ↓reduceIte]
          · by_cases c6 : σ 81 p = 2
            · by_cases c7 : σ 73 (σ 84 p) = σ 79 u
              · simp (disch := omega) only [e_171_79, e_171_110, s_170 _ h hτ _ _ _ _ hp hm, hτ, Option.bind_some, Int.add_zero, z_wid, or_true, true_or, z_up_fn, z_up_ni, z_up_eq, z_up_qi, z_rw_fn, z_rw_in, z_rw_out, if_pos, if_neg, ↓reduceIte]
              · simp (disch := omega) only [e_171_79, e_171_110, s_170 _ h hτ _ _ _ _ hp hm, hτ, Option.bind_some, Int.add_zero, z_wid, or_true, true_or, z_up_fn, z_up_ni, z_up_eq, z_up_qi, z_rw_fn, z_rw_in, z_rw_out, if_pos, if_neg, ↓reduceIte]
            · by_cases c7 : σ 81 p = 4
              · have hw : z_wrap (Int.tdiv (σ 75 (σ 79 u)) 2) = σ 75 (σ 79 u) / 2 := by
                  rw [Int.tdiv_eq_ediv_of_nonneg (by omega), z_wid (by omega) (by omega)]
                have e169 := s_169 (d + 4) τ (σ 79 u) (by rw [hτ 71 (by omega)]; omega) (by rw [hτ 71 (by omega)]; omega)
                by_cases c8 : σ 75 (σ 79 u) / 2 < z_cnt (σ 73) (σ 79 u) (σ 71 2).toNat
                · simp (disch := omega) only [e_171_79, e_171_110, e_171_174, s_170 _ h hτ _ _ _ _ hp hm, e169, hw, hτ, Option.bind_some, Int.add_zero, z_wid, or_true, true_or, z_up_fn, z_up_ni, z_up_eq, z_up_qi, z_rw_fn, z_rw_in, z_rw_out, if_pos, if_neg, ↓reduceIte]
                · simp (disch := omega) only [e_171_79, e_171_110, e_171_174, s_170 _ h hτ _ _ _ _ hp hm, e169, hw, hτ, Option.bind_some, Int.add_zero, z_wid, or_true, true_or, z_up_fn, z_up_ni, z_up_eq, z_up_qi, z_rw_fn, z_rw_in, z_rw_out, if_pos, if_neg, ↓reduceIte]
              · simp (disch := omega) only [e_171_79, e_171_110, s_170 _ h hτ _ _ _ _ hp hm, hτ, Option.bind_some, Int.add_zero, z_wid, or_true, true_or, z_up_fn, z_up_ni, z_up_eq, z_up_qi, z_rw_fn, z_rw_in, z_rw_out, if_pos, if_neg, ↓reduceIte]
    · rcases k01 with k0 | k0
      · rw [if_neg (by omega)] at c2 ⊢
        simp (disch := omega) only [e_171_43, e_171_79, s_149, hτ, k0, w.1, Option.bind_some, Int.add_zero, z_wid, or_true, true_or, z_up_fn, z_up_ni, z_up_eq, z_up_qi, z_rw_fn, z_rw_in, z_rw_out, if_pos, if_neg, ↓reduceIte]
      · rw [if_pos k0] at c2 ⊢
        simp (disch := omega) only [e_171_43, e_171_79, s_149, hτ, k0, w.1, Option.bind_some, Int.add_zero, z_wid, or_true, true_or, z_up_fn, z_up_ni, z_up_eq, z_up_qi, z_rw_fn, z_rw_in, z_rw_out, if_pos, if_neg, ↓reduceIte]
theorem s_33 (d : Nat) {s : Int → Int} {L : Int} {σ : Nat → Int → Int} (h : zV s L σ) (v u p : Int) (hv : 0 ≤ v ∧ v < σ 71 2) (hp : 0 ≤ p ∧ p < σ 71 13) (hu : 0 ≤ u ∧ u < σ 71 10) : zE (d + 6) 33 0 [some (.inr 5), some (.inl v), some (.inl u), some (.inl p), none] [] (zS, σ) = some (.inl (w_not σ v u p), (zS, σ)) := by
  have hM := zV_mo h
  have hS1 := (zV_S h).1
  have hS2 := (zV_S h).2.2.1
  have hD1 := (zV_D h).1
  have hD2 := (zV_D h).2.2.1
  have hP1 := (zV_P h).1
  have hP2 := (zV_P h).2.2.1
  have hZ1 := (zV_Z h).1
  have hZ2 := (zV_Z h).2.2.1
  have hZ3 := (zV_Z h).2.1
  have wS := (zV_wS h).1
  have wD := (zV_wD h).1
  have wP := (zV_wP h).1
  have wZ := (zV_wZ h).1
  obtain ⟨p0, p1, p7⟩ := (zV_S h).2.2.2 p hp.1 hp.2
  obtain ⟨u0, u1, u2⟩ := (zV_D h).2.2.2 u hu.1 hu.2
  have zz := (zV_Z h).2.2.2 (σ 79 u)
  have nn := (zV_P h).2.2.2 v hv.1 hv.2
  have g := s_25 d h p u (σ 71 1) (σ 71 1) hp hu hM.2
  unfold w_not
  by_cases c1 : w_shut σ p u (σ 71 1) (σ 71 1) = 0
  · by_cases c2 : σ 80 p = v
    · by_cases c3 : σ 73 v = σ 78 u
      · by_cases c4 : σ 79 u = -1
        · simp (disch := omega) only [e_33_0, e_33_14, e_33_33, e_33_49, e_33_58, e_33_77, e_33_80, e_34_0, e_34_5, e_34_14, e_34_20, hM.1, g, s_get_8, s_get_6, s_get_2, s_has_4, nn.2.1, p0, u0, u1, Option.bind_some, Int.add_zero, z_wid, or_true, true_or, z_up_fn, z_up_ni, z_up_eq, z_up_qi, z_rw_fn, z_rw_in, z_rw_out, if_pos, if_neg, ↓reduceIte]
        · have zz := zz (by omega) (by omega)
          by_cases c5 : σ 75 (σ 79 u) ≤ z_cnt (σ 73) (σ 79 u) (σ 71 2).toNat
          · simp (disch := omega) only [e_33_0, e_33_14, e_33_33, e_33_49, e_33_58, e_33_77, e_33_80, e_34_0, e_34_5, e_34_14, e_34_20, hM.1, g, s_get_8, s_get_6, s_get_2, s_get_4, s_has_4, nn.2.1, zz.1, zz.2.1, p0, u0, u1, Option.bind_some, Int.add_zero, z_wid, or_true, true_or, z_up_fn, z_up_ni, z_up_eq, z_up_qi, z_rw_fn, z_rw_in, z_rw_out, if_pos, if_neg, ↓reduceIte]
          · simp (disch := omega) only [e_33_0, e_33_14, e_33_33, e_33_49, e_33_58, e_33_77, e_33_80, e_34_0, e_34_5, e_34_14, e_34_20, hM.1, g, s_get_8, s_get_6, s_get_2, s_get_4, s_has_4, nn.2.1, zz.1, zz.2.1, p0, u0, u1, Option.bind_some, Int.add_zero, z_wid, or_true, true_or, z_up_fn, z_up_ni, z_up_eq, z_up_qi, z_rw_fn, z_rw_in, z_rw_out, if_pos, if_neg, ↓reduceIte]
      · simp (disch := omega) only [e_33_0, e_33_14, e_33_33, e_33_49, e_33_58, e_33_77, e_33_80, hM.1, g, s_get_8, s_get_6, s_get_2, nn.2.1, p0, u0, Option.bind_some, Int.add_zero, z_wid, or_true, true_or, z_up_fn, z_up_ni, z_up_eq, z_up_qi, z_rw_fn, z_rw_in, z_rw_out, if_pos, if_neg, ↓reduceIte]
    · simp (disch := omega) only [e_33_0, e_33_14, e_33_33, e_33_49, e_33_58, e_33_77, e_33_80, hM.1, g, s_get_8, p0, Option.bind_some, Int.add_zero, z_wid, or_true, true_or, z_up_fn, z_up_ni, z_up_eq, z_up_qi, z_rw_fn, z_rw_in, z_rw_out, if_pos, if_neg, ↓reduceIte]
  · simp (disch := omega) only [e_33_0, e_33_14, e_33_33, e_33_49, e_33_58, e_33_77, e_33_80, hM.1, g, Option.bind_some, Int.add_zero, z_wid, or_true, true_or, z_up_fn, z_up_ni, z_up_eq, z_up_qi, z_rw_fn, z_rw_in, z_rw_out, if_pos, if_neg, ↓reduceIte]
theorem s_174 (d : Nat) {s : Int → Int} {L : Int} {σ τ : Nat → Int → Int} (h : zV s L σ) (hτ : ∀ k, 71 ≤ k → τ k = σ k) (v u p : Int) (hv : 0 ≤ v ∧ v < σ 71 2) (hp : 0 ≤ p ∧ p < σ 71 13) (hu : 0 ≤ u ∧ u < σ 71 10) : zE (d + 6) 174 0 [some (.inr 75), some (.inl v), some (.inl u), some (.inl p), none] [] (zS, τ) = some (.inl (w_not σ v u p), (zS, τ)) := by
  have hM := zV_mo h
  have hS2 := (zV_S h).2.2.1
  have hD2 := (zV_D h).2.2.1
  have hP0 := (zV_P h).2.1
  have hP2 := (zV_P h).2.2.1
  have hZ2 := (zV_Z h).2.2.1
  have hZ3 := (zV_Z h).2.1
  obtain ⟨p0, p1, p7⟩ := (zV_S h).2.2.2 p hp.1 hp.2
  obtain ⟨u0, u1, u2⟩ := (zV_D h).2.2.2 u hu.1 hu.2
  have g := s_171 d h hτ p u (σ 71 1) (σ 71 1) hp hu hM.2
  have e169 := s_169 (d + 5) τ (σ 79 u) (by rw [hτ 71 (by omega)]; omega) (by rw [hτ 71 (by omega)]; omega)
  unfold w_not
  by_cases c1 : w_shut σ p u (σ 71 1) (σ 71 1) = 0
  · by_cases c2 : σ 80 p = v
    · by_cases c3 : σ 73 v = σ 78 u
      · by_cases c4 : σ 79 u = -1
        · simp (disch := omega) only [e_174_0, e_174_14, e_174_75, hτ, g, Option.bind_some, Int.add_zero, z_wid, or_true, true_or, z_up_fn, z_up_ni, z_up_eq, z_up_qi, z_rw_fn, z_rw_in, z_rw_out, if_pos, if_neg, ↓reduceIte]
        · by_cases c5 : σ 75 (σ 79 u) ≤ z_cnt (σ 73) (σ 79 u) (σ 71 2).toNat
          · simp (disch := omega) only [e_174_0, e_174_14, e_174_75, hτ, g, e169, Option.bind_some, Int.add_zero, z_wid, or_true, true_or, z_up_fn, z_up_ni, z_up_eq, z_up_qi, z_rw_fn, z_rw_in, z_rw_out, if_pos, if_neg, ↓reduceIte]
          · simp (disch := omega) only [e_174_0, e_174_14, e_174_75, hτ, g, e169, Option.bind_some, Int.add_zero, z_wid, or_true, true_or, z_up_fn, z_up_ni, z_up_eq, z_up_qi, z_rw_fn, z_rw_in, z_rw_out, if_pos, if_neg, ↓reduceIte]
      · simp (disch := omega) only [e_174_0, e_174_14, e_174_75, hτ, g, Option.bind_some, Int.add_zero, z_wid, or_true, true_or, z_up_fn, z_up_ni, z_up_eq, z_up_qi, z_rw_fn, z_rw_in, z_rw_out, if_pos, if_neg, ↓reduceIte]
    · simp (disch := omega) only [e_174_0, e_174_14, e_174_75, hτ, g, Option.bind_some, Int.add_zero, z_wid, or_true, true_or, z_up_fn, z_up_ni, z_up_eq, z_up_qi, z_rw_fn, z_rw_in, z_rw_out, if_pos, if_neg, ↓reduceIte]
  · simp (disch := omega) only [e_174_0, e_174_14, e_174_75, hτ, g, Option.bind_some, Int.add_zero, z_wid, or_true, true_or, z_up_fn, z_up_ni, z_up_eq, z_up_qi, z_rw_fn, z_rw_in, z_rw_out, if_pos, if_neg, ↓reduceIte]
theorem s_235 (d : Nat) (σ : Nat → Int → Int) (x y : Int) (h : x ≤ y) : zE d 235 0 [some (.inl x), some (.inl y)] [] (zS, σ) = some (.inl y, (zS, σ)) := by
  rw [e_235_0]
  repeat' split
  all_goals first | rfl | (rw [show x = y by omega])
theorem s_236 (d : Nat) (σ : Nat → Int → Int) (x y : Int) (h : x ≤ y) : zE d 236 0 [some (.inl x), some (.inl y)] [] (zS, σ) = some (.inl x, (zS, σ)) := by
  rw [e_236_0, if_neg (by omega)]

