theorem w_fit_congr {σ τ : Nat → Int → Int} (hτ : ∀ k, 71 ≤ k → τ k = σ k) (k z m a r : Int) : w_fit τ k z m a r = w_fit σ k z m a r := by
  unfold w_fit w_inf w_fits
  simp (disch := omega) only [hτ]
theorem w_dec_congr {σ τ : Nat → Int → Int} (hτ : ∀ k, 71 ≤ k → τ k = σ k) (k z m a : Int) : ∀ n : Nat, w_dec τ k z m a n = w_dec σ k z m a n
  | 0 => rfl
  | n + 1 => by
    have e := w_fit_congr hτ k z m a n
    by_cases c : w_fit σ k z m a n
    · rw [w_dec_pos c, w_dec_pos (e ▸ c)]
    · rw [w_dec_neg c, w_dec_neg (e ▸ c), w_dec_congr hτ k z m a n]
noncomputable def w_rule (σ : Nat → Int → Int) (p z m a : Int) : Int := w_dec σ (σ 81 p) z m a (σ 71 21).toNat
noncomputable def w_shut (σ : Nat → Int → Int) (p d m a : Int) : Int :=
  if ¬ σ 85 p = -1 ∧ σ 86 p ≤ a ∧ σ 85 p ≤ m then 1
  else if ¬ (σ 82 p ≤ m / 1440 ∧ m / 1440 ≤ (if w_of (σ 81 p) 3 = 1 then σ 82 p else σ 83 p)) then 2
  else if σ 79 d = -1 then 0
  else if w_rule σ p (σ 79 d) m a = -1 then 3
  else if σ 87 (w_rule σ p (σ 79 d) m a) = 0 then 3
  else if σ 81 p = 2 ∧ ¬ σ 73 (σ 84 p) = σ 79 d then 4
  else if σ 81 p = 4 ∧ σ 75 (σ 79 d) / 2 < z_cnt (σ 73) (σ 79 d) (σ 71 2).toNat then 5 else 0
noncomputable def w_not (σ : Nat → Int → Int) (u d p : Int) : Int :=
  if ¬ w_shut σ p d (σ 71 1) (σ 71 1) = 0 then w_shut σ p d (σ 71 1) (σ 71 1)
  else if ¬ σ 80 p = u then 6
  else if ¬ σ 73 u = σ 78 d then 7
  else if ¬ σ 79 d = -1 ∧ σ 75 (σ 79 d) ≤ z_cnt (σ 73) (σ 79 d) (σ 71 2).toNat then 8 else 0
theorem w_rule_rng (σ : Nat → Int → Int) (p z m a : Int) (h : 0 ≤ σ 71 21) : -1 ≤ w_rule σ p z m a ∧ w_rule σ p z m a < σ 71 21 := by
  have q := w_dec_rng σ (σ 81 p) z m a (σ 71 21).toNat
  unfold w_rule
  omega
theorem s_30 (d : Nat) {s : Int → Int} {L : Int} {σ : Nat → Int → Int} (h : zV s L σ) (p z m a : Int) (hp : 0 ≤ p ∧ p < σ 71 13) (hm : 0 ≤ m ∧ m ≤ 28799) : zE (d + 3) 30 0 [some (.inr 5), some (.inl p), some (.inl z), some (.inl m), some (.inl a), none, none] [] (zS, σ) = some (.inl (w_rule σ p z m a), (zS, σ)) := by
  have hS := zV_S h
  have hR := zV_R h
  have q := hS.2.2.2 p hp.1 hp.2
  have e := hS.1
  have e2 := hS.2.2.1
  have r := hR.1
  have r1 := hR.2.1
  have r2 := hR.2.2.1
  have i := s_30l d σ (some (.inl p)) (σ 81 p) z m a (by omega) hm (zV_wR h).1 hR (σ 71 21).toNat (by omega)
  rw [show (((σ 71 21).toNat : Nat) : Int) = σ 71 21 by omega] at i
  rw [e_30_0, s_get_8 _ _ _ _ (zV_wS h).1 (by omega), if_pos (by omega), Option.bind_some, e_30_9, e_85_0_4, Option.bind_some, e_30_18, z_wid (by omega) (by omega), q.2.1, r, i]
  rfl
theorem s_170 (d : Nat) {s : Int → Int} {L : Int} {σ τ : Nat → Int → Int} (h : zV s L σ) (hτ : ∀ k, 71 ≤ k → τ k = σ k) (p z m a : Int) (hp : 0 ≤ p ∧ p < σ 71 13) (hm : 0 ≤ m ∧ m ≤ 28799) : zE (d + 3) 170 0 [some (.inr 75), some (.inl p), some (.inl z), some (.inl m), some (.inl a), none, none] [] (zS, τ) = some (.inl (w_rule σ p z m a), (zS, τ)) := by
  have hS := zV_S h
  have hR := zV_R h
  have q := hS.2.2.2 p hp.1 hp.2
  have e := hS.1
  have e2 := hS.2.2.1
  have r1 := hR.2.1
  have r2 := hR.2.2.1
  have t71 := hτ 71 (by omega)
  have t81 := hτ 81 (by omega)
  have i := s_170l d τ p z m a (by omega) (by rw [t81]; omega) hm (by rw [t71]; omega) (σ 71 21).toNat none (by rw [t71]; omega)
  rw [show (((σ 71 21).toNat : Nat) : Int) = σ 71 21 by omega] at i
  rw [e_170_0, t71, z_wid (by omega) (by omega), i, w_dec_congr hτ, t81]
  rfl
theorem s_25 (d : Nat) {s : Int → Int} {L : Int} {σ : Nat → Int → Int} (h : zV s L σ) (p u m a : Int) (hp : 0 ≤ p ∧ p < σ 71 13) (hu : 0 ≤ u ∧ u < σ 71 10) (hm : 0 ≤ m ∧ m ≤ 28799) : zE (d + 5) 25 0 [some (.inr 5), some (.inl p), some (.inl u), some (.inl m), some (.inl a), none, none] [] (zS, σ) = some (.inl (w_shut σ p u m a), (zS, σ)) := by
  have hS1 := (zV_S h).1
  have hS2 := (zV_S h).2.2.1
  have hD1 := (zV_D h).1
  have hD2 := (zV_D h).2.2.1
  have hR1 := (zV_R h).1
  have hR2 := (zV_R h).2.2.1
  have hP1 := (zV_P h).1
  have hP2 := (zV_P h).2.2.1
  have hZ1 := (zV_Z h).1
  have hZ2 := (zV_Z h).2.2.1
  have hZ3 := (zV_Z h).2.1
  have wS := (zV_wS h).1
  have wD := (zV_wD h).1
  have wR := (zV_wR h).1
  have wP := (zV_wP h).1
  have wZ := (zV_wZ h).1
  obtain ⟨p0, p1, p2, p3, p4, p5, p6, p7⟩ := (zV_S h).2.2.2 p hp.1 hp.2
  obtain ⟨u0, u1, u2⟩ := (zV_D h).2.2.2 u hu.1 hu.2
  have w := w_1440 hm.1 hm.2
  have rr := w_rule_rng σ p (σ 79 u) m a (zV_R h).2.1
  have k01 := w_of_01 (σ 81 p) 3
  have zz := (zV_Z h).2.2.2 (σ 79 u)
  have nn := (zV_P h).2.2.2 (σ 84 p)
  have lr := (zV_R h).2.2.2 (w_rule σ p (σ 79 u) m a)
  unfold w_shut
  by_cases c1 : ¬ σ 85 p = -1 ∧ σ 86 p ≤ a ∧ σ 85 p ≤ m
  · simp (disch := omega) only [e_25_0, e_25_11, e_25_29, e_25_43, e_25_63, e_25_81, e_25_93, e_25_105, e_26_0, e_26_6, e_26_27, s_get_8, p5, p6, Option.bind_some, Int.add_zero, z_wid, or_true, true_or, z_up_fn, z_up_ni, z_up_eq, z_up_qi, z_rw_fn, z_rw_in, z_rw_out, if_pos, if_neg, ↓reduceIte]
  · have g : zE (d + 5) 25 11 [some (.inr 5), some (.inl p), some (.inl u), some (.inl m), some (.inl a), none, none] [.inl 0] (zS, σ) = zE (d + 5) 25 0 [some (.inr 5), some (.inl p), some (.inl u), some (.inl m), some (.inl a), none, none] [] (zS, σ) := by
      by_cases c2 : σ 85 p = -1
      · simp (disch := omega) only [e_25_0, e_26_0, e_26_6, e_26_27, s_get_8, p5, p6, Option.bind_some, Int.add_zero, z_wid, or_true, true_or, z_up_fn, z_up_ni, z_up_eq, z_up_qi, z_rw_fn, z_rw_in, z_rw_out, if_pos, if_neg, ↓reduceIte]
      · by_cases c3 : σ 85 p ≤ m
        · simp (disch := omega) only [e_25_0, e_26_0, e_26_6, e_26_27, s_get_8, p5, p6, Option.bind_some, Int.add_zero, z_wid, or_true, true_or, z_up_fn, z_up_ni, z_up_eq, z_up_qi, z_rw_fn, z_rw_in, z_rw_out, if_pos, if_neg, ↓reduceIte]
        · simp (disch := omega) only [e_25_0, e_26_0, e_26_6, e_26_27, s_get_8, p5, p6, Option.bind_some, Int.add_zero, z_wid, or_true, true_or, z_up_fn, z_up_ni, z_up_eq, z_up_qi, z_rw_fn, z_rw_in, z_rw_out, if_pos, if_neg, ↓reduceIte]
    rw [← g]
    by_cases c2 : σ 82 p ≤ m / 1440 ∧ m / 1440 ≤ (if w_of (σ 81 p) 3 = 1 then σ 82 p else σ 83 p)
    · have g2 : zE (d + 5) 25 29 [some (.inr 5), some (.inl p), some (.inl u), some (.inl m), some (.inl a), none, none] [.inl 1] (zS, σ) = zE (d + 5) 25 11 [some (.inr 5), some (.inl p), some (.inl u), some (.inl m), some (.inl a), none, none] [.inl 0] (zS, σ) := by
        rcases k01 with k0 | k0
        · rw [if_neg (by omega)] at c2
          simp (disch := omega) only [e_25_11, e_27_0, e_27_6, e_27_13, e_27_17, e_27_34, e_27_43, s_39, s_133, s_get_8, p1, p2, p3, k0, w.1, Option.bind_some, Int.add_zero, z_wid, or_true, true_or, z_up_fn, z_up_ni, z_up_eq, z_up_qi, z_rw_fn, z_rw_in, z_rw_out, if_pos, if_neg, ↓reduceIte]
        · rw [if_pos k0] at c2
          simp (disch := omega) only [e_25_11, e_27_0, e_27_6, e_27_13, e_27_17, e_27_34, e_27_43, s_39, s_133, s_get_8, p1, p2, p3, k0, w.1, Option.bind_some, Int.add_zero, z_wid, or_true, true_or, z_up_fn, z_up_ni, z_up_eq, z_up_qi, z_rw_fn, z_rw_in, z_rw_out, if_pos, if_neg, ↓reduceIte]
      rw [← g2]
      by_cases c3 : σ 79 u = -1
      · simp (disch := omega) only [e_25_29, e_25_43, s_get_6, u1, Option.bind_some, Int.add_zero, z_wid, or_true, true_or, z_up_fn, z_up_ni, z_up_eq, z_up_qi, z_rw_fn, z_rw_in, z_rw_out, if_pos, if_neg, ↓reduceIte]
      · have zz := zz (by omega) (by omega)
        by_cases c4 : w_rule σ p (σ 79 u) m a = -1
        · simp (disch := omega) only [e_25_29, e_25_43, e_25_63, s_get_6, s_30 _ h _ _ _ _ hp hm, u1, Option.bind_some, Int.add_zero, z_wid, or_true, true_or, z_up_fn, z_up_ni, z_up_eq, z_up_qi, z_rw_fn, z_rw_in, z_rw_out, if_pos, if_neg, ↓reduceIte]
        · have lr := lr (by omega) (by omega)
          by_cases c5 : σ 87 (w_rule σ p (σ 79 u) m a) = 0
          · simp (disch := omega) only [e_25_29, e_25_43, e_25_63, e_25_81, s_get_6, s_get_10, s_30 _ h _ _ _ _ hp hm, u1, lr.1, Option.bind_some, Int.add_zero, z_wid, or_true, true_or, z_up_fn, z_up_ni, z_up_eq, z_up_qi, z_rw_fn, z_rw_in, z_rw_out, if_pos, if_neg, ↓reduceIte]
          · by_cases c6 : σ 81 p = 2
            · have nn := nn (by omega) (by omega)
              by_cases c7 : σ 73 (σ 84 p) = σ 79 u
              · simp (disch := omega) only [e_25_29, e_25_43, e_25_63, e_25_81, e_25_93, e_25_105, e_28_0, e_28_9, e_28_28, e_28_32, e_29_0, e_29_9, e_29_24, e_29_33, s_get_6, s_get_8, s_get_10, s_get_2, s_30 _ h _ _ _ _ hp hm, u1, p1, p4, nn.2.1, lr.1, Option.bind_some, Int.add_zero, z_wid, or_true, true_or, z_up_fn, z_up_ni, z_up_eq, z_up_qi, z_rw_fn, z_rw_in, z_rw_out, if_pos, if_neg, ↓reduceIte]
              · simp (disch := omega) only [e_25_29, e_25_43, e_25_63, e_25_81, e_25_93, e_25_105, e_28_0, e_28_9, e_28_28, e_28_32, e_29_0, e_29_9, e_29_24, e_29_33, s_get_6, s_get_8, s_get_10, s_get_2, s_30 _ h _ _ _ _ hp hm, u1, p1, p4, nn.2.1, lr.1, Option.bind_some, Int.add_zero, z_wid, or_true, true_or, z_up_fn, z_up_ni, z_up_eq, z_up_qi, z_rw_fn, z_rw_in, z_rw_out, if_pos, if_neg, ↓reduceIte]
            · by_cases c7 : σ 81 p = 4
              · have hw : z_wrap (Int.tdiv (σ 75 (σ 79 u)) 2) = σ 75 (σ 79 u) / 2 := by
                  rw [Int.tdiv_eq_ediv_of_nonneg (by omega), z_wid (by omega) (by omega)]
                by_cases c8 : σ 75 (σ 79 u) / 2 < z_cnt (σ 73) (σ 79 u) (σ 71 2).toNat
                · simp (disch := omega) only [e_25_29, e_25_43, e_25_63, e_25_81, e_25_93, e_25_105, e_28_0, e_28_9, e_28_28, e_28_32, e_29_0, e_29_9, e_29_24, e_29_33, s_get_6, s_get_8, s_get_10, s_get_4, s_30 _ h _ _ _ _ hp hm, u1, p1, p4, zz.1, zz.2.1, hw, lr.1, Option.bind_some, Int.add_zero, z_wid, or_true, true_or, z_up_fn, z_up_ni, z_up_eq, z_up_qi, z_rw_fn, z_rw_in, z_rw_out, if_pos, if_neg, ↓reduceIte]
                · simp (disch := omega) only [e_25_29, e_25_43, e_25_63, e_25_81, e_25_93, e_25_105, e_28_0, e_28_9, e_28_28, e_28_32, e_29_0, e_29_9, e_29_24, e_29_33, s_get_6, s_get_8, s_get_10, s_get_4, s_30 _ h _ _ _ _ hp hm, u1, p1, p4, zz.1, zz.2.1, hw, lr.1, Option.bind_some, Int.add_zero, z_wid, or_true, true_or, z_up_fn, z_up_ni, z_up_eq, z_up_qi, z_rw_fn, z_rw_in, z_rw_out, if_pos, if_neg, ↓reduceIte]
              · simp (disch := omega) only [e_25_29, e_25_43, e_25_63, e_25_81, e_25_93, e_25_105, e_28_0, e_28_9, e_28_28, e_28_32, e_29_0, e_29_9, e_29_24, e_29_33, s_get_6, s_get_8, s_get_10, s_get_4, s_30 _ h _ _ _ _ hp hm, u1, p1, p4, lr.1, Option.bind_some, Int.add_zero, z_wid, or_true, true_or, z_up_fn, z_up_ni, z_up_eq, z_up_qi, z_rw_fn, z_rw_in, z_rw_out, if_pos, if_neg, ↓reduceIte]
    · rcases k01 with k0 | k0
      · rw [if_neg (by omega)] at c2 ⊢
        simp (disch := omega) only [e_25_11, e_25_29, e_27_0, e_27_6, e_27_13, e_27_17, e_27_34, e_27_43, s_39, s_133, s_get_8, p1, p2, p3, k0, w.1, Option.bind_some, Int.add_zero, z_wid, or_true, true_or, z_up_fn, z_up_ni, z_up_eq, z_up_qi, z_rw_fn, z_rw_in, z_rw_out, if_pos, if_neg, ↓reduceIte]
      · rw [if_pos k0] at c2 ⊢
        simp (disch := omega) only [e_25_11, e_25_29, e_27_0, e_27_6, e_27_13, e_27_17, e_27_34, e_27_43, s_39, s_133, s_get_8, p1, p2, p3, k0, w.1, Option.bind_some, Int.add_zero, z_wid, or_true, true_or, z_up_fn, z_up_ni, z_up_eq, z_up_qi, z_rw_fn, z_rw_in, z_rw_out, if_pos, if_neg, ↓reduceIte]
