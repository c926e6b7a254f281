theorem s_76l0 (d : Nat) (σ : Nat → Int → Int) (o1 o2 : Option (Int ⊕ Nat)) : ∀ (n : Nat) (j : Int), 0 ≤ j → j + n = 40 → zE d 76 33 [some (.inr 67), o1, o2, some (.inl j)] [] (zS, z_rw σ 64 0 j (fun _ => 0)) = some (.inl 0, (zS, z_rw σ 64 0 40 (fun _ => 0)))
  | 0, j, h0, h1 => by
    have e : j = 40 := by omega
    subst e
    rw [e_76_33_0, if_neg (by omega)]
  | n + 1, j, h0, h1 => by
    have g := z_rw_grow (σ := σ) (a := 64) (b := 0) h0
    rw [Int.zero_add] at g
    rw [e_76_33_0, if_pos (by omega), if_pos (by omega), z_wid (by omega) (by omega), g]
    exact s_76l0 d σ o1 o2 n (j + 1) (by omega) (by omega)
theorem s_76z0 (d : Nat) (σ : Nat → Int → Int) (o1 o2 : Option (Int ⊕ Nat)) : zE d 76 33 [some (.inr 67), o1, o2, some (.inl 0)] [] (zS, σ) = some (.inl 0, (zS, z_rw σ 64 0 40 (fun _ => 0))) := by
  have q := s_76l0 d σ o1 o2 40 0 (by omega) (by omega)
  rw [z_rw_zero] at q
  exact q
theorem s_76l1 (d : Nat) (σ : Nat → Int → Int) (o1 o2 : Option (Int ⊕ Nat)) : ∀ (n : Nat) (j : Int), 0 ≤ j → j + n = 40 → zE d 76 33 [some (.inr 69), o1, o2, some (.inl j)] [] (zS, z_rw σ 66 0 j (fun _ => 0)) = some (.inl 0, (zS, z_rw σ 66 0 40 (fun _ => 0)))
  | 0, j, h0, h1 => by
    have e : j = 40 := by omega
    subst e
    rw [e_76_33_1, if_neg (by omega)]
  | n + 1, j, h0, h1 => by
    have g := z_rw_grow (σ := σ) (a := 66) (b := 0) h0
    rw [Int.zero_add] at g
    rw [e_76_33_1, if_pos (by omega), if_pos (by omega), z_wid (by omega) (by omega), g]
    exact s_76l1 d σ o1 o2 n (j + 1) (by omega) (by omega)
theorem s_76z1 (d : Nat) (σ : Nat → Int → Int) (o1 o2 : Option (Int ⊕ Nat)) : zE d 76 33 [some (.inr 69), o1, o2, some (.inl 0)] [] (zS, σ) = some (.inl 0, (zS, z_rw σ 66 0 40 (fun _ => 0))) := by
  have q := s_76l1 d σ o1 o2 40 0 (by omega) (by omega)
  rw [z_rw_zero] at q
  exact q
theorem s_76l2 (d : Nat) (σ : Nat → Int → Int) (o1 o2 : Option (Int ⊕ Nat)) : ∀ (n : Nat) (j : Int), 0 ≤ j → j + n = 40 → zE d 76 33 [some (.inr 71), o1, o2, some (.inl j)] [] (zS, z_rw σ 68 0 j (fun _ => 0)) = some (.inl 0, (zS, z_rw σ 68 0 40 (fun _ => 0)))
  | 0, j, h0, h1 => by
    have e : j = 40 := by omega
    subst e
    rw [e_76_33_2, if_neg (by omega)]
  | n + 1, j, h0, h1 => by
    have g := z_rw_grow (σ := σ) (a := 68) (b := 0) h0
    rw [Int.zero_add] at g
    rw [e_76_33_2, if_pos (by omega), if_pos (by omega), z_wid (by omega) (by omega), g]
    exact s_76l2 d σ o1 o2 n (j + 1) (by omega) (by omega)
theorem s_76z2 (d : Nat) (σ : Nat → Int → Int) (o1 o2 : Option (Int ⊕ Nat)) : zE d 76 33 [some (.inr 71), o1, o2, some (.inl 0)] [] (zS, σ) = some (.inl 0, (zS, z_rw σ 68 0 40 (fun _ => 0))) := by
  have q := s_76l2 d σ o1 o2 40 0 (by omega) (by omega)
  rw [z_rw_zero] at q
  exact q
theorem s_76l3 (d : Nat) (σ : Nat → Int → Int) (o1 o2 : Option (Int ⊕ Nat)) : ∀ (n : Nat) (j : Int), 0 ≤ j → j + n = 40 → zE d 76 33 [some (.inr 73), o1, o2, some (.inl j)] [] (zS, z_rw σ 70 0 j (fun _ => 0)) = some (.inl 0, (zS, z_rw σ 70 0 40 (fun _ => 0)))
  | 0, j, h0, h1 => by
    have e : j = 40 := by omega
    subst e
    rw [e_76_33_3, if_neg (by omega)]
  | n + 1, j, h0, h1 => by
    have g := z_rw_grow (σ := σ) (a := 70) (b := 0) h0
    rw [Int.zero_add] at g
    rw [e_76_33_3, if_pos (by omega), if_pos (by omega), z_wid (by omega) (by omega), g]
    exact s_76l3 d σ o1 o2 n (j + 1) (by omega) (by omega)
theorem s_76z3 (d : Nat) (σ : Nat → Int → Int) (o1 o2 : Option (Int ⊕ Nat)) : zE d 76 33 [some (.inr 73), o1, o2, some (.inl 0)] [] (zS, σ) = some (.inl 0, (zS, z_rw σ 70 0 40 (fun _ => 0))) := by
  have q := s_76l3 d σ o1 o2 40 0 (by omega) (by omega)
  rw [z_rw_zero] at q
  exact q
theorem s_225l (d : Nat) (σ : Nat → Int → Int) (x1 : Int) (o2 o3 : Option (Int ⊕ Nat)) (hx : 0 ≤ x1 ∧ x1 ≤ 3) : ∀ (n : Nat) (j : Int), 0 ≤ j → j + n = 40 → zE (d + 1) 225 65 [some (.inr 75), some (.inl x1), o2, o3, some (.inl j)] [] (zS, z_rw σ 122 (40 * x1) j (fun _ => 0)) = some (.inl 1, (zS, z_up (z_rw σ 122 (40 * x1) 40 (fun _ => 0)) 71 0 0))
  | 0, j, h0, h1 => by
    have e : j = 40 := by omega
    subst e
    rw [e_225_65, if_neg (by omega), e_151_0, Option.bind_some, e_225_96]
  | n + 1, j, h0, h1 => by
    rw [e_225_65, if_pos (by omega), z_wid (x := 40 * x1) (by omega) (by omega), z_wid (x := 40 * x1 + j) (by omega) (by omega), if_pos (by omega), z_wid (by omega) (by omega), z_rw_grow h0]
    exact s_225l d σ x1 o2 o3 hx n (j + 1) (by omega) (by omega)
theorem s_225z (d : Nat) (σ : Nat → Int → Int) (x1 : Int) (o2 o3 : Option (Int ⊕ Nat)) (hx : 0 ≤ x1 ∧ x1 ≤ 3) : zE (d + 1) 225 65 [some (.inr 75), some (.inl x1), o2, o3, some (.inl 0)] [] (zS, σ) = some (.inl 1, (zS, z_up (z_rw σ 122 (40 * x1) 40 (fun _ => 0)) 71 0 0)) := by
  have q := s_225l d σ x1 o2 o3 hx 40 0 (by omega) (by omega)
  rw [z_rw_zero] at q
  exact q
theorem o_sheet0m (d : Nat) (s : Int → Int) (L : Int) (σ : Nat → Int → Int) (h : zV s L σ) (x3 : Int) : zOK s L (d + 9) 126 225 [some (.inl 0), some (.inl (-1)), some (.inl x3), none] [some (.inl 0), some (.inl (-1)), some (.inl x3), none] σ := by
  apply zOK_mk2
  · simp (disch := first | omega | (simp (disch := omega) only [z_up_fn, z_up_ni, z_up_eq, z_up_qi, z_rw_fn] <;> omega) | fail) only [e_126_0, e_126_33, e_126_9, e_126_46, e_126_53_0, e_126_53_1, e_126_53_2, e_126_53_3, e_126_19, e_126_58, e_126_63, s_138, s_133, e_75_0, e_76_0_0, e_76_28_0, e_76_25_0, s_76z0, s_235, s_236, e_131_0, e_132_0, w_ix0, w_iy0, Option.bind_some, Int.add_zero, z_wid, or_true, true_or, z_up_fn, z_up_ni, z_up_eq, z_up_qi, z_rw_fn, z_rw_in, z_rw_out, if_pos, if_neg, ↓reduceIte]
    exact w_ret rfl
  · intro k hk
    simp (disch := omega) only [z_up_fn, z_rw_fn]
  · intro τ hτ
    simp (disch := first | omega | (simp (disch := omega) only [hτ] <;> omega) | fail) only [e_225_0, e_225_6, e_225_38, e_225_15, e_225_30, e_225_96, s_149, s_225z, e_150_0, e_151_0, hτ, Option.bind_some, Int.add_zero, z_wid, or_true, true_or, z_up_fn, z_up_ni, z_up_eq, z_up_qi, z_rw_fn, z_rw_in, z_rw_out, if_pos, if_neg, ↓reduceIte]
    exact w_ret (by omega)
  · obtain ⟨v_sc, v_st, v_mo, v_se, v_ik, v_ba, v_wP, v_wZ, v_wD, v_wS, v_wR, v_wU, v_wO, v_wG, v_wT, v_P, v_Q, v_Z, v_D, v_S, v_R, v_U, v_O, v_G, v_T, v_kl, v_kmo, v_kse, v_kP, v_kQ, v_kZ, v_kD, v_kS, v_kR, v_kU, v_kO, v_kG, v_kT, v_A, v_X0, v_X1, v_X2, v_X3, v_pc, v_pm, v_lc, v_lm⟩ := h
    refine ⟨v_sc, ?_, v_mo, v_se, v_ik, v_ba, v_wP, v_wZ, v_wD, v_wS, v_wR, v_wU, v_wO, v_wG, v_wT, v_P, v_Q, v_Z, v_D, v_S, v_R, v_U, v_O, v_G, v_T, v_kl, v_kmo, v_kse, v_kP, v_kQ, v_kZ, v_kD, v_kS, v_kR, v_kU, v_kO, v_kG, v_kT, v_A, ?_, ?_, ?_, ?_, v_pc, v_pm, v_lc, v_lm⟩
    · rfl
    · clear v_sc v_st v_mo v_se v_ik v_ba v_wP v_wZ v_wD v_wS v_wR v_wU v_wO v_wG v_wT v_P v_Q v_Z v_D v_S v_R v_U v_O v_G v_T v_kl v_kmo v_kse v_kP v_kQ v_kZ v_kD v_kS v_kR v_kU v_kO v_kG v_kT v_A v_X0 v_X1 v_X2 v_X3 v_pc v_pm v_lc v_lm
      refine ⟨?_, ?_, ?_, ?_, ?_, ?_, fun j j0 j1 => ?_⟩
      · simp (disch := omega) only [true_and, and_true, true_or, or_true, Int.add_zero, z_up_fn, z_up_ni, z_up_eq, z_up_qi, z_rw_fn, z_rw_in, z_rw_out, if_pos, if_neg, ↓reduceIte] <;> omega
      · simp (disch := omega) only [true_and, and_true, true_or, or_true, Int.add_zero, z_up_fn, z_up_ni, z_up_eq, z_up_qi, z_rw_fn, z_rw_in, z_rw_out, if_pos, if_neg, ↓reduceIte] <;> omega
      · simp (disch := omega) only [true_and, and_true, true_or, or_true, Int.add_zero, z_up_fn, z_up_ni, z_up_eq, z_up_qi, z_rw_fn, z_rw_in, z_rw_out, if_pos, if_neg, ↓reduceIte] <;> omega
      · simp (disch := omega) only [true_and, and_true, true_or, or_true, Int.add_zero, z_up_fn, z_up_ni, z_up_eq, z_up_qi, z_rw_fn, z_rw_in, z_rw_out, if_pos, if_neg, ↓reduceIte] <;> omega
      · simp (disch := omega) only [true_and, and_true, true_or, or_true, Int.add_zero, z_up_fn, z_up_ni, z_up_eq, z_up_qi, z_rw_fn, z_rw_in, z_rw_out, if_pos, if_neg, ↓reduceIte] <;> omega
      · simp (disch := omega) only [true_and, and_true, true_or, or_true, Int.add_zero, z_up_fn, z_up_ni, z_up_eq, z_up_qi, z_rw_fn, z_rw_in, z_rw_out, if_pos, if_neg, ↓reduceIte] <;> omega
      · simp (disch := omega) only [true_and, and_true, true_or, or_true, Int.add_zero, z_up_fn, z_up_ni, z_up_eq, z_up_qi, z_rw_fn, z_rw_in, z_rw_out, if_pos, if_neg, ↓reduceIte]
        omega
    · clear v_sc v_st v_mo v_se v_ik v_ba v_wP v_wZ v_wD v_wS v_wR v_wU v_wO v_wG v_wT v_P v_Q v_Z v_D v_S v_R v_U v_O v_G v_T v_kl v_kmo v_kse v_kP v_kQ v_kZ v_kD v_kS v_kR v_kU v_kO v_kG v_kT v_A v_X0 v_X2 v_X3 v_pc v_pm v_lc v_lm
      refine ⟨v_X1.1, v_X1.2.1, v_X1.2.2.1, v_X1.2.2.2.1, v_X1.2.2.2.2.1, v_X1.2.2.2.2.2.1, fun j j0 j1 => ?_⟩
      have q := v_X1.2.2.2.2.2.2 j j0 j1
      simp (disch := omega) only [true_and, and_true, true_or, or_true, Int.add_zero, z_up_fn, z_up_ni, z_up_eq, z_up_qi, z_rw_fn, z_rw_in, z_rw_out, if_pos, if_neg, ↓reduceIte]
      exact q
    · clear v_sc v_st v_mo v_se v_ik v_ba v_wP v_wZ v_wD v_wS v_wR v_wU v_wO v_wG v_wT v_P v_Q v_Z v_D v_S v_R v_U v_O v_G v_T v_kl v_kmo v_kse v_kP v_kQ v_kZ v_kD v_kS v_kR v_kU v_kO v_kG v_kT v_A v_X0 v_X1 v_X3 v_pc v_pm v_lc v_lm
      refine ⟨v_X2.1, v_X2.2.1, v_X2.2.2.1, v_X2.2.2.2.1, v_X2.2.2.2.2.1, v_X2.2.2.2.2.2.1, fun j j0 j1 => ?_⟩
      have q := v_X2.2.2.2.2.2.2 j j0 j1
      simp (disch := omega) only [true_and, and_true, true_or, or_true, Int.add_zero, z_up_fn, z_up_ni, z_up_eq, z_up_qi, z_rw_fn, z_rw_in, z_rw_out, if_pos, if_neg, ↓reduceIte]
      exact q
    · clear v_sc v_st v_mo v_se v_ik v_ba v_wP v_wZ v_wD v_wS v_wR v_wU v_wO v_wG v_wT v_P v_Q v_Z v_D v_S v_R v_U v_O v_G v_T v_kl v_kmo v_kse v_kP v_kQ v_kZ v_kD v_kS v_kR v_kU v_kO v_kG v_kT v_A v_X0 v_X1 v_X2 v_pc v_pm v_lc v_lm
      refine ⟨v_X3.1, v_X3.2.1, v_X3.2.2.1, v_X3.2.2.2.1, v_X3.2.2.2.2.1, v_X3.2.2.2.2.2.1, fun j j0 j1 => ?_⟩
      have q := v_X3.2.2.2.2.2.2 j j0 j1
      simp (disch := omega) only [true_and, and_true, true_or, or_true, Int.add_zero, z_up_fn, z_up_ni, z_up_eq, z_up_qi, z_rw_fn, z_rw_in, z_rw_out, if_pos, if_neg, ↓reduceIte]
      exact q
theorem o_sheet0 (d : Nat) (s : Int → Int) (L : Int) (σ : Nat → Int → Int) (h : zV s L σ) (x2 x3 : Int) (hn : ¬ x2 = -1) : zOK s L (d + 9) 126 225 [some (.inl 0), some (.inl x2), some (.inl x3), none] [some (.inl 0), some (.inl x2), some (.inl x3), none] σ := by
  by_cases c1 : 0 ≤ x2
  · by_cases c2 : x2 ≤ 2
    · by_cases c3 : 0 ≤ x3 ∧ x3 ≤ 40
      · apply zOK_mk2
        · simp (disch := first | omega | (simp (disch := omega) only [z_up_fn, z_up_ni, z_up_eq, z_up_qi, z_rw_fn] <;> omega) | fail) only [e_126_0, e_126_33, e_126_9, e_126_46, e_126_53_0, e_126_53_1, e_126_53_2, e_126_53_3, e_126_19, e_126_58, e_126_63, s_138, s_133, e_75_0, e_76_0_0, e_76_28_0, e_76_25_0, s_76z0, s_235, s_236, e_131_0, e_132_0, w_ix0, w_iy0, Option.bind_some, Int.add_zero, z_wid, or_true, true_or, z_up_fn, z_up_ni, z_up_eq, z_up_qi, z_rw_fn, z_rw_in, z_rw_out, if_pos, if_neg, ↓reduceIte]
          exact w_ret rfl
        · intro k hk
          simp (disch := omega) only [z_up_fn, z_rw_fn]
        · intro τ hτ
          simp (disch := first | omega | (simp (disch := omega) only [hτ] <;> omega) | fail) only [e_225_0, e_225_6, e_225_38, e_225_15, e_225_30, e_225_96, s_149, s_225z, e_150_0, e_151_0, hτ, Option.bind_some, Int.add_zero, z_wid, or_true, true_or, z_up_fn, z_up_ni, z_up_eq, z_up_qi, z_rw_fn, z_rw_in, z_rw_out, if_pos, if_neg, ↓reduceIte]
          exact w_ret (by omega)
        · obtain ⟨v_sc, v_st, v_mo, v_se, v_ik, v_ba, v_wP, v_wZ, v_wD, v_wS, v_wR, v_wU, v_wO, v_wG, v_wT, v_P, v_Q, v_Z, v_D, v_S, v_R, v_U, v_O, v_G, v_T, v_kl, v_kmo, v_kse, v_kP, v_kQ, v_kZ, v_kD, v_kS, v_kR, v_kU, v_kO, v_kG, v_kT, v_A, v_X0, v_X1, v_X2, v_X3, v_pc, v_pm, v_lc, v_lm⟩ := h
          refine ⟨v_sc, ?_, v_mo, v_se, v_ik, v_ba, v_wP, v_wZ, v_wD, v_wS, v_wR, v_wU, v_wO, v_wG, v_wT, v_P, v_Q, v_Z, v_D, v_S, v_R, v_U, v_O, v_G, v_T, v_kl, v_kmo, v_kse, v_kP, v_kQ, v_kZ, v_kD, v_kS, v_kR, v_kU, v_kO, v_kG, v_kT, v_A, ?_, ?_, ?_, ?_, v_pc, v_pm, v_lc, v_lm⟩
          · rfl
          · clear v_sc v_st v_mo v_se v_ik v_ba v_wP v_wZ v_wD v_wS v_wR v_wU v_wO v_wG v_wT v_P v_Q v_Z v_D v_S v_R v_U v_O v_G v_T v_kl v_kmo v_kse v_kP v_kQ v_kZ v_kD v_kS v_kR v_kU v_kO v_kG v_kT v_A v_X0 v_X1 v_X2 v_X3 v_pc v_pm v_lc v_lm
            refine ⟨?_, ?_, ?_, ?_, ?_, ?_, fun j j0 j1 => ?_⟩
            · simp (disch := omega) only [true_and, and_true, true_or, or_true, Int.add_zero, z_up_fn, z_up_ni, z_up_eq, z_up_qi, z_rw_fn, z_rw_in, z_rw_out, if_pos, if_neg, ↓reduceIte] <;> omega
            · simp (disch := omega) only [true_and, and_true, true_or, or_true, Int.add_zero, z_up_fn, z_up_ni, z_up_eq, z_up_qi, z_rw_fn, z_rw_in, z_rw_out, if_pos, if_neg, ↓reduceIte] <;> omega
            · simp (disch := omega) only [true_and, and_true, true_or, or_true, Int.add_zero, z_up_fn, z_up_ni, z_up_eq, z_up_qi, z_rw_fn, z_rw_in, z_rw_out, if_pos, if_neg, ↓reduceIte] <;> omega
            · simp (disch := omega) only [true_and, and_true, true_or, or_true, Int.add_zero, z_up_fn, z_up_ni, z_up_eq, z_up_qi, z_rw_fn, z_rw_in, z_rw_out, if_pos, if_neg, ↓reduceIte] <;> omega
            · simp (disch := omega) only [true_and, and_true, true_or, or_true, Int.add_zero, z_up_fn, z_up_ni, z_up_eq, z_up_qi, z_rw_fn, z_rw_in, z_rw_out, if_pos, if_neg, ↓reduceIte] <;> omega
            · simp (disch := omega) only [true_and, and_true, true_or, or_true, Int.add_zero, z_up_fn, z_up_ni, z_up_eq, z_up_qi, z_rw_fn, z_rw_in, z_rw_out, if_pos, if_neg, ↓reduceIte] <;> omega
            · simp (disch := omega) only [true_and, and_true, true_or, or_true, Int.add_zero, z_up_fn, z_up_ni, z_up_eq, z_up_qi, z_rw_fn, z_rw_in, z_rw_out, if_pos, if_neg, ↓reduceIte]
              omega
          · clear v_sc v_st v_mo v_se v_ik v_ba v_wP v_wZ v_wD v_wS v_wR v_wU v_wO v_wG v_wT v_P v_Q v_Z v_D v_S v_R v_U v_O v_G v_T v_kl v_kmo v_kse v_kP v_kQ v_kZ v_kD v_kS v_kR v_kU v_kO v_kG v_kT v_A v_X0 v_X2 v_X3 v_pc v_pm v_lc v_lm
            refine ⟨v_X1.1, v_X1.2.1, v_X1.2.2.1, v_X1.2.2.2.1, v_X1.2.2.2.2.1, v_X1.2.2.2.2.2.1, fun j j0 j1 => ?_⟩
            have q := v_X1.2.2.2.2.2.2 j j0 j1
            simp (disch := omega) only [true_and, and_true, true_or, or_true, Int.add_zero, z_up_fn, z_up_ni, z_up_eq, z_up_qi, z_rw_fn, z_rw_in, z_rw_out, if_pos, if_neg, ↓reduceIte]
            exact q
          · clear v_sc v_st v_mo v_se v_ik v_ba v_wP v_wZ v_wD v_wS v_wR v_wU v_wO v_wG v_wT v_P v_Q v_Z v_D v_S v_R v_U v_O v_G v_T v_kl v_kmo v_kse v_kP v_kQ v_kZ v_kD v_kS v_kR v_kU v_kO v_kG v_kT v_A v_X0 v_X1 v_X3 v_pc v_pm v_lc v_lm
            refine ⟨v_X2.1, v_X2.2.1, v_X2.2.2.1, v_X2.2.2.2.1, v_X2.2.2.2.2.1, v_X2.2.2.2.2.2.1, fun j j0 j1 => ?_⟩
            have q := v_X2.2.2.2.2.2.2 j j0 j1
            simp (disch := omega) only [true_and, and_true, true_or, or_true, Int.add_zero, z_up_fn, z_up_ni, z_up_eq, z_up_qi, z_rw_fn, z_rw_in, z_rw_out, if_pos, if_neg, ↓reduceIte]
            exact q
          · clear v_sc v_st v_mo v_se v_ik v_ba v_wP v_wZ v_wD v_wS v_wR v_wU v_wO v_wG v_wT v_P v_Q v_Z v_D v_S v_R v_U v_O v_G v_T v_kl v_kmo v_kse v_kP v_kQ v_kZ v_kD v_kS v_kR v_kU v_kO v_kG v_kT v_A v_X0 v_X1 v_X2 v_pc v_pm v_lc v_lm
            refine ⟨v_X3.1, v_X3.2.1, v_X3.2.2.1, v_X3.2.2.2.1, v_X3.2.2.2.2.1, v_X3.2.2.2.2.2.1, fun j j0 j1 => ?_⟩
            have q := v_X3.2.2.2.2.2.2 j j0 j1
            simp (disch := omega) only [true_and, and_true, true_or, or_true, Int.add_zero, z_up_fn, z_up_ni, z_up_eq, z_up_qi, z_rw_fn, z_rw_in, z_rw_out, if_pos, if_neg, ↓reduceIte]
            exact q
      · apply zOK_mk2
        · simp (disch := first | omega | (simp (disch := omega) only [z_up_fn, z_up_ni, z_up_eq, z_up_qi, z_rw_fn] <;> omega) | fail) only [e_126_0, e_126_33, e_126_9, e_126_46, e_126_53_0, e_126_53_1, e_126_53_2, e_126_53_3, e_126_19, e_126_58, e_126_63, s_138, s_133, e_75_0, e_76_0_0, e_76_28_0, e_76_25_0, s_76z0, s_235, s_236, e_131_0, e_132_0, w_ix0, w_iy0, Option.bind_some, Int.add_zero, z_wid, or_true, true_or, z_up_fn, z_up_ni, z_up_eq, z_up_qi, z_rw_fn, z_rw_in, z_rw_out, if_pos, if_neg, ↓reduceIte]
          exact w_ret rfl
        · intro k hk
          simp (disch := omega) only [z_up_fn, z_rw_fn]
        · intro τ hτ
          simp (disch := first | omega | (simp (disch := omega) only [hτ] <;> omega) | fail) only [e_225_0, e_225_6, e_225_38, e_225_15, e_225_30, e_225_96, s_149, s_225z, e_150_0, e_151_0, hτ, Option.bind_some, Int.add_zero, z_wid, or_true, true_or, z_up_fn, z_up_ni, z_up_eq, z_up_qi, z_rw_fn, z_rw_in, z_rw_out, if_pos, if_neg, ↓reduceIte]
          exact w_ret rfl
        · exact w_ref h 1
    · apply zOK_mk2
      · simp (disch := first | omega | (simp (disch := omega) only [z_up_fn, z_up_ni, z_up_eq, z_up_qi, z_rw_fn] <;> omega) | fail) only [e_126_0, e_126_33, e_126_9, e_126_46, e_126_53_0, e_126_53_1, e_126_53_2, e_126_53_3, e_126_19, e_126_58, e_126_63, s_138, s_133, e_75_0, e_76_0_0, e_76_28_0, e_76_25_0, s_76z0, s_235, s_236, e_131_0, e_132_0, w_ix0, w_iy0, Option.bind_some, Int.add_zero, z_wid, or_true, true_or, z_up_fn, z_up_ni, z_up_eq, z_up_qi, z_rw_fn, z_rw_in, z_rw_out, if_pos, if_neg, ↓reduceIte]
        exact w_ret rfl
      · intro k hk
        simp (disch := omega) only [z_up_fn, z_rw_fn]
      · intro τ hτ
        simp (disch := first | omega | (simp (disch := omega) only [hτ] <;> omega) | fail) only [e_225_0, e_225_6, e_225_38, e_225_15, e_225_30, e_225_96, s_149, s_225z, e_150_0, e_151_0, hτ, Option.bind_some, Int.add_zero, z_wid, or_true, true_or, z_up_fn, z_up_ni, z_up_eq, z_up_qi, z_rw_fn, z_rw_in, z_rw_out, if_pos, if_neg, ↓reduceIte]
        exact w_ret rfl
      · exact w_ref h 1
  · apply zOK_mk2
    · simp (disch := first | omega | (simp (disch := omega) only [z_up_fn, z_up_ni, z_up_eq, z_up_qi, z_rw_fn] <;> omega) | fail) only [e_126_0, e_126_33, e_126_9, e_126_46, e_126_53_0, e_126_53_1, e_126_53_2, e_126_53_3, e_126_19, e_126_58, e_126_63, s_138, s_133, e_75_0, e_76_0_0, e_76_28_0, e_76_25_0, s_76z0, s_235, s_236, e_131_0, e_132_0, w_ix0, w_iy0, Option.bind_some, Int.add_zero, z_wid, or_true, true_or, z_up_fn, z_up_ni, z_up_eq, z_up_qi, z_rw_fn, z_rw_in, z_rw_out, if_pos, if_neg, ↓reduceIte]
      exact w_ret rfl
    · intro k hk
      simp (disch := omega) only [z_up_fn, z_rw_fn]
    · intro τ hτ
      simp (disch := first | omega | (simp (disch := omega) only [hτ] <;> omega) | fail) only [e_225_0, e_225_6, e_225_38, e_225_15, e_225_30, e_225_96, s_149, s_225z, e_150_0, e_151_0, hτ, Option.bind_some, Int.add_zero, z_wid, or_true, true_or, z_up_fn, z_up_ni, z_up_eq, z_up_qi, z_rw_fn, z_rw_in, z_rw_out, if_pos, if_neg, ↓reduceIte]
      exact w_ret rfl
    · exact w_ref h 1
theorem o_sheet1m (d : Nat) (s : Int → Int) (L : Int) (σ : Nat → Int → Int) (h : zV s L σ) (x3 : Int) : zOK s L (d + 9) 126 225 [some (.inl 1), some (.inl (-1)), some (.inl x3), none] [some (.inl 1), some (.inl (-1)), some (.inl x3), none] σ := by
  apply zOK_mk2
  · simp (disch := first | omega | (simp (disch := omega) only [z_up_fn, z_up_ni, z_up_eq, z_up_qi, z_rw_fn] <;> omega) | fail) only [e_126_0, e_126_33, e_126_9, e_126_46, e_126_53_0, e_126_53_1, e_126_53_2, e_126_53_3, e_126_19, e_126_58, e_126_63, s_138, s_133, e_75_0, e_76_0_1, e_76_28_1, e_76_25_1, s_76z1, s_235, s_236, e_131_0, e_132_0, w_ix1, w_iy1, Option.bind_some, Int.add_zero, z_wid, or_true, true_or, z_up_fn, z_up_ni, z_up_eq, z_up_qi, z_rw_fn, z_rw_in, z_rw_out, if_pos, if_neg, ↓reduceIte]
    exact w_ret rfl
  · intro k hk
    simp (disch := omega) only [z_up_fn, z_rw_fn]
  · intro τ hτ
    simp (disch := first | omega | (simp (disch := omega) only [hτ] <;> omega) | fail) only [e_225_0, e_225_6, e_225_38, e_225_15, e_225_30, e_225_96, s_149, s_225z, e_150_0, e_151_0, hτ, Option.bind_some, Int.add_zero, z_wid, or_true, true_or, z_up_fn, z_up_ni, z_up_eq, z_up_qi, z_rw_fn, z_rw_in, z_rw_out, if_pos, if_neg, ↓reduceIte]
    exact w_ret (by omega)
  · obtain ⟨v_sc, v_st, v_mo, v_se, v_ik, v_ba, v_wP, v_wZ, v_wD, v_wS, v_wR, v_wU, v_wO, v_wG, v_wT, v_P, v_Q, v_Z, v_D, v_S, v_R, v_U, v_O, v_G, v_T, v_kl, v_kmo, v_kse, v_kP, v_kQ, v_kZ, v_kD, v_kS, v_kR, v_kU, v_kO, v_kG, v_kT, v_A, v_X0, v_X1, v_X2, v_X3, v_pc, v_pm, v_lc, v_lm⟩ := h
    refine ⟨v_sc, ?_, v_mo, v_se, v_ik, v_ba, v_wP, v_wZ, v_wD, v_wS, v_wR, v_wU, v_wO, v_wG, v_wT, v_P, v_Q, v_Z, v_D, v_S, v_R, v_U, v_O, v_G, v_T, v_kl, v_kmo, v_kse, v_kP, v_kQ, v_kZ, v_kD, v_kS, v_kR, v_kU, v_kO, v_kG, v_kT, v_A, ?_, ?_, ?_, ?_, v_pc, v_pm, v_lc, v_lm⟩
    · rfl
    · clear v_sc v_st v_mo v_se v_ik v_ba v_wP v_wZ v_wD v_wS v_wR v_wU v_wO v_wG v_wT v_P v_Q v_Z v_D v_S v_R v_U v_O v_G v_T v_kl v_kmo v_kse v_kP v_kQ v_kZ v_kD v_kS v_kR v_kU v_kO v_kG v_kT v_A v_X1 v_X2 v_X3 v_pc v_pm v_lc v_lm
      refine ⟨v_X0.1, v_X0.2.1, v_X0.2.2.1, v_X0.2.2.2.1, v_X0.2.2.2.2.1, v_X0.2.2.2.2.2.1, fun j j0 j1 => ?_⟩
      have q := v_X0.2.2.2.2.2.2 j j0 j1
      simp (disch := omega) only [true_and, and_true, true_or, or_true, Int.add_zero, z_up_fn, z_up_ni, z_up_eq, z_up_qi, z_rw_fn, z_rw_in, z_rw_out, if_pos, if_neg, ↓reduceIte]
      exact q
    · clear v_sc v_st v_mo v_se v_ik v_ba v_wP v_wZ v_wD v_wS v_wR v_wU v_wO v_wG v_wT v_P v_Q v_Z v_D v_S v_R v_U v_O v_G v_T v_kl v_kmo v_kse v_kP v_kQ v_kZ v_kD v_kS v_kR v_kU v_kO v_kG v_kT v_A v_X0 v_X1 v_X2 v_X3 v_pc v_pm v_lc v_lm
      refine ⟨?_, ?_, ?_, ?_, ?_, ?_, fun j j0 j1 => ?_⟩
      · simp (disch := omega) only [true_and, and_true, true_or, or_true, Int.add_zero, z_up_fn, z_up_ni, z_up_eq, z_up_qi, z_rw_fn, z_rw_in, z_rw_out, if_pos, if_neg, ↓reduceIte] <;> omega
      · simp (disch := omega) only [true_and, and_true, true_or, or_true, Int.add_zero, z_up_fn, z_up_ni, z_up_eq, z_up_qi, z_rw_fn, z_rw_in, z_rw_out, if_pos, if_neg, ↓reduceIte] <;> omega
      · simp (disch := omega) only [true_and, and_true, true_or, or_true, Int.add_zero, z_up_fn, z_up_ni, z_up_eq, z_up_qi, z_rw_fn, z_rw_in, z_rw_out, if_pos, if_neg, ↓reduceIte] <;> omega
      · simp (disch := omega) only [true_and, and_true, true_or, or_true, Int.add_zero, z_up_fn, z_up_ni, z_up_eq, z_up_qi, z_rw_fn, z_rw_in, z_rw_out, if_pos, if_neg, ↓reduceIte] <;> omega
      · simp (disch := omega) only [true_and, and_true, true_or, or_true, Int.add_zero, z_up_fn, z_up_ni, z_up_eq, z_up_qi, z_rw_fn, z_rw_in, z_rw_out, if_pos, if_neg, ↓reduceIte] <;> omega
      · simp (disch := omega) only [true_and, and_true, true_or, or_true, Int.add_zero, z_up_fn, z_up_ni, z_up_eq, z_up_qi, z_rw_fn, z_rw_in, z_rw_out, if_pos, if_neg, ↓reduceIte] <;> omega
      · simp (disch := omega) only [true_and, and_true, true_or, or_true, Int.add_zero, z_up_fn, z_up_ni, z_up_eq, z_up_qi, z_rw_fn, z_rw_in, z_rw_out, if_pos, if_neg, ↓reduceIte]
        omega
    · clear v_sc v_st v_mo v_se v_ik v_ba v_wP v_wZ v_wD v_wS v_wR v_wU v_wO v_wG v_wT v_P v_Q v_Z v_D v_S v_R v_U v_O v_G v_T v_kl v_kmo v_kse v_kP v_kQ v_kZ v_kD v_kS v_kR v_kU v_kO v_kG v_kT v_A v_X0 v_X1 v_X3 v_pc v_pm v_lc v_lm
      refine ⟨v_X2.1, v_X2.2.1, v_X2.2.2.1, v_X2.2.2.2.1, v_X2.2.2.2.2.1, v_X2.2.2.2.2.2.1, fun j j0 j1 => ?_⟩
      have q := v_X2.2.2.2.2.2.2 j j0 j1
      simp (disch := omega) only [true_and, and_true, true_or, or_true, Int.add_zero, z_up_fn, z_up_ni, z_up_eq, z_up_qi, z_rw_fn, z_rw_in, z_rw_out, if_pos, if_neg, ↓reduceIte]
      exact q
    · clear v_sc v_st v_mo v_se v_ik v_ba v_wP v_wZ v_wD v_wS v_wR v_wU v_wO v_wG v_wT v_P v_Q v_Z v_D v_S v_R v_U v_O v_G v_T v_kl v_kmo v_kse v_kP v_kQ v_kZ v_kD v_kS v_kR v_kU v_kO v_kG v_kT v_A v_X0 v_X1 v_X2 v_pc v_pm v_lc v_lm
      refine ⟨v_X3.1, v_X3.2.1, v_X3.2.2.1, v_X3.2.2.2.1, v_X3.2.2.2.2.1, v_X3.2.2.2.2.2.1, fun j j0 j1 => ?_⟩
      have q := v_X3.2.2.2.2.2.2 j j0 j1
      simp (disch := omega) only [true_and, and_true, true_or, or_true, Int.add_zero, z_up_fn, z_up_ni, z_up_eq, z_up_qi, z_rw_fn, z_rw_in, z_rw_out, if_pos, if_neg, ↓reduceIte]
      exact q
theorem o_sheet1 (d : Nat) (s : Int → Int) (L : Int) (σ : Nat → Int → Int) (h : zV s L σ) (x2 x3 : Int) (hn : ¬ x2 = -1) : zOK s L (d + 9) 126 225 [some (.inl 1), some (.inl x2), some (.inl x3), none] [some (.inl 1), some (.inl x2), some (.inl x3), none] σ := by
  by_cases c1 : 0 ≤ x2
  · by_cases c2 : x2 ≤ 2
    · by_cases c3 : 0 ≤ x3 ∧ x3 ≤ 40
      · apply zOK_mk2
        · simp (disch := first | omega | (simp (disch := omega) only [z_up_fn, z_up_ni, z_up_eq, z_up_qi, z_rw_fn] <;> omega) | fail) only [e_126_0, e_126_33, e_126_9, e_126_46, e_126_53_0, e_126_53_1, e_126_53_2, e_126_53_3, e_126_19, e_126_58, e_126_63, s_138, s_133, e_75_0, e_76_0_1, e_76_28_1, e_76_25_1, s_76z1, s_235, s_236, e_131_0, e_132_0, w_ix1, w_iy1, Option.bind_some, Int.add_zero, z_wid, or_true, true_or, z_up_fn, z_up_ni, z_up_eq, z_up_qi, z_rw_fn, z_rw_in, z_rw_out, if_pos, if_neg, ↓reduceIte]
          exact w_ret rfl
        · intro k hk
          simp (disch := omega) only [z_up_fn, z_rw_fn]
        · intro τ hτ
          simp (disch := first | omega | (simp (disch := omega) only [hτ] <;> omega) | fail) only [e_225_0, e_225_6, e_225_38, e_225_15, e_225_30, e_225_96, s_149, s_225z, e_150_0, e_151_0, hτ, Option.bind_some, Int.add_zero, z_wid, or_true, true_or, z_up_fn, z_up_ni, z_up_eq, z_up_qi, z_rw_fn, z_rw_in, z_rw_out, if_pos, if_neg, ↓reduceIte]
          exact w_ret (by omega)
        · obtain ⟨v_sc, v_st, v_mo, v_se, v_ik, v_ba, v_wP, v_wZ, v_wD, v_wS, v_wR, v_wU, v_wO, v_wG, v_wT, v_P, v_Q, v_Z, v_D, v_S, v_R, v_U, v_O, v_G, v_T, v_kl, v_kmo, v_kse, v_kP, v_kQ, v_kZ, v_kD, v_kS, v_kR, v_kU, v_kO, v_kG, v_kT, v_A, v_X0, v_X1, v_X2, v_X3, v_pc, v_pm, v_lc, v_lm⟩ := h
          refine ⟨v_sc, ?_, v_mo, v_se, v_ik, v_ba, v_wP, v_wZ, v_wD, v_wS, v_wR, v_wU, v_wO, v_wG, v_wT, v_P, v_Q, v_Z, v_D, v_S, v_R, v_U, v_O, v_G, v_T, v_kl, v_kmo, v_kse, v_kP, v_kQ, v_kZ, v_kD, v_kS, v_kR, v_kU, v_kO, v_kG, v_kT, v_A, ?_, ?_, ?_, ?_, v_pc, v_pm, v_lc, v_lm⟩
          · rfl
          · clear v_sc v_st v_mo v_se v_ik v_ba v_wP v_wZ v_wD v_wS v_wR v_wU v_wO v_wG v_wT v_P v_Q v_Z v_D v_S v_R v_U v_O v_G v_T v_kl v_kmo v_kse v_kP v_kQ v_kZ v_kD v_kS v_kR v_kU v_kO v_kG v_kT v_A v_X1 v_X2 v_X3 v_pc v_pm v_lc v_lm
            refine ⟨v_X0.1, v_X0.2.1, v_X0.2.2.1, v_X0.2.2.2.1, v_X0.2.2.2.2.1, v_X0.2.2.2.2.2.1, fun j j0 j1 => ?_⟩
            have q := v_X0.2.2.2.2.2.2 j j0 j1
            simp (disch := omega) only [true_and, and_true, true_or, or_true, Int.add_zero, z_up_fn, z_up_ni, z_up_eq, z_up_qi, z_rw_fn, z_rw_in, z_rw_out, if_pos, if_neg, ↓reduceIte]
            exact q
          · clear v_sc v_st v_mo v_se v_ik v_ba v_wP v_wZ v_wD v_wS v_wR v_wU v_wO v_wG v_wT v_P v_Q v_Z v_D v_S v_R v_U v_O v_G v_T v_kl v_kmo v_kse v_kP v_kQ v_kZ v_kD v_kS v_kR v_kU v_kO v_kG v_kT v_A v_X0 v_X1 v_X2 v_X3 v_pc v_pm v_lc v_lm
            refine ⟨?_, ?_, ?_, ?_, ?_, ?_, fun j j0 j1 => ?_⟩
            · simp (disch := omega) only [true_and, and_true, true_or, or_true, Int.add_zero, z_up_fn, z_up_ni, z_up_eq, z_up_qi, z_rw_fn, z_rw_in, z_rw_out, if_pos, if_neg, ↓reduceIte] <;> omega
            · simp (disch := omega) only [true_and, and_true, true_or, or_true, Int.add_zero, z_up_fn, z_up_ni, z_up_eq, z_up_qi, z_rw_fn, z_rw_in, z_rw_out, if_pos, if_neg, ↓reduceIte] <;> omega
            · simp (disch := omega) only [true_and, and_true, true_or, or_true, Int.add_zero, z_up_fn, z_up_ni, z_up_eq, z_up_qi, z_rw_fn, z_rw_in, z_rw_out, if_pos, if_neg, ↓reduceIte] <;> omega
            · simp (disch := omega) only [true_and, and_true, true_or, or_true, Int.add_zero, z_up_fn, z_up_ni, z_up_eq, z_up_qi, z_rw_fn, z_rw_in, z_rw_out, if_pos, if_neg, ↓reduceIte] <;> omega
            · simp (disch := omega) only [true_and, and_true, true_or, or_true, Int.add_zero, z_up_fn, z_up_ni, z_up_eq, z_up_qi, z_rw_fn, z_rw_in, z_rw_out, if_pos, if_neg, ↓reduceIte] <;> omega
            · simp (disch := omega) only [true_and, and_true, true_or, or_true, Int.add_zero, z_up_fn, z_up_ni, z_up_eq, z_up_qi, z_rw_fn, z_rw_in, z_rw_out, if_pos, if_neg, ↓reduceIte] <;> omega
            · simp (disch := omega) only [true_and, and_true, true_or, or_true, Int.add_zero, z_up_fn, z_up_ni, z_up_eq, z_up_qi, z_rw_fn, z_rw_in, z_rw_out, if_pos, if_neg, ↓reduceIte]
              omega
          · clear v_sc v_st v_mo v_se v_ik v_ba v_wP v_wZ v_wD v_wS v_wR v_wU v_wO v_wG v_wT v_P v_Q v_Z v_D v_S v_R v_U v_O v_G v_T v_kl v_kmo v_kse v_kP v_kQ v_kZ v_kD v_kS v_kR v_kU v_kO v_kG v_kT v_A v_X0 v_X1 v_X3 v_pc v_pm v_lc v_lm
            refine ⟨v_X2.1, v_X2.2.1, v_X2.2.2.1, v_X2.2.2.2.1, v_X2.2.2.2.2.1, v_X2.2.2.2.2.2.1, fun j j0 j1 => ?_⟩
            have q := v_X2.2.2.2.2.2.2 j j0 j1
            simp (disch := omega) only [true_and, and_true, true_or, or_true, Int.add_zero, z_up_fn, z_up_ni, z_up_eq, z_up_qi, z_rw_fn, z_rw_in, z_rw_out, if_pos, if_neg, ↓reduceIte]
            exact q
          · clear v_sc v_st v_mo v_se v_ik v_ba v_wP v_wZ v_wD v_wS v_wR v_wU v_wO v_wG v_wT v_P v_Q v_Z v_D v_S v_R v_U v_O v_G v_T v_kl v_kmo v_kse v_kP v_kQ v_kZ v_kD v_kS v_kR v_kU v_kO v_kG v_kT v_A v_X0 v_X1 v_X2 v_pc v_pm v_lc v_lm
            refine ⟨v_X3.1, v_X3.2.1, v_X3.2.2.1, v_X3.2.2.2.1, v_X3.2.2.2.2.1, v_X3.2.2.2.2.2.1, fun j j0 j1 => ?_⟩
            have q := v_X3.2.2.2.2.2.2 j j0 j1
            simp (disch := omega) only [true_and, and_true, true_or, or_true, Int.add_zero, z_up_fn, z_up_ni, z_up_eq, z_up_qi, z_rw_fn, z_rw_in, z_rw_out, if_pos, if_neg, ↓reduceIte]
            exact q
      · apply zOK_mk2
        · simp (disch := first | omega | (simp (disch := omega) only [z_up_fn, z_up_ni, z_up_eq, z_up_qi, z_rw_fn] <;> omega) | fail) only [e_126_0, e_126_33, e_126_9, e_126_46, e_126_53_0, e_126_53_1, e_126_53_2, e_126_53_3, e_126_19, e_126_58, e_126_63, s_138, s_133, e_75_0, e_76_0_1, e_76_28_1, e_76_25_1, s_76z1, s_235, s_236, e_131_0, e_132_0, w_ix1, w_iy1, Option.bind_some, Int.add_zero, z_wid, or_true, true_or, z_up_fn, z_up_ni, z_up_eq, z_up_qi, z_rw_fn, z_rw_in, z_rw_out, if_pos, if_neg, ↓reduceIte]
          exact w_ret rfl
        · intro k hk
          simp (disch := omega) only [z_up_fn, z_rw_fn]
        · intro τ hτ
          simp (disch := first | omega | (simp (disch := omega) only [hτ] <;> omega) | fail) only [e_225_0, e_225_6, e_225_38, e_225_15, e_225_30, e_225_96, s_149, s_225z, e_150_0, e_151_0, hτ, Option.bind_some, Int.add_zero, z_wid, or_true, true_or, z_up_fn, z_up_ni, z_up_eq, z_up_qi, z_rw_fn, z_rw_in, z_rw_out, if_pos, if_neg, ↓reduceIte]
          exact w_ret rfl
        · exact w_ref h 1
    · apply zOK_mk2
      · simp (disch := first | omega | (simp (disch := omega) only [z_up_fn, z_up_ni, z_up_eq, z_up_qi, z_rw_fn] <;> omega) | fail) only [e_126_0, e_126_33, e_126_9, e_126_46, e_126_53_0, e_126_53_1, e_126_53_2, e_126_53_3, e_126_19, e_126_58, e_126_63, s_138, s_133, e_75_0, e_76_0_1, e_76_28_1, e_76_25_1, s_76z1, s_235, s_236, e_131_0, e_132_0, w_ix1, w_iy1, Option.bind_some, Int.add_zero, z_wid, or_true, true_or, z_up_fn, z_up_ni, z_up_eq, z_up_qi, z_rw_fn, z_rw_in, z_rw_out, if_pos, if_neg, ↓reduceIte]
        exact w_ret rfl
      · intro k hk
        simp (disch := omega) only [z_up_fn, z_rw_fn]
      · intro τ hτ
        simp (disch := first | omega | (simp (disch := omega) only [hτ] <;> omega) | fail) only [e_225_0, e_225_6, e_225_38, e_225_15, e_225_30, e_225_96, s_149, s_225z, e_150_0, e_151_0, hτ, Option.bind_some, Int.add_zero, z_wid, or_true, true_or, z_up_fn, z_up_ni, z_up_eq, z_up_qi, z_rw_fn, z_rw_in, z_rw_out, if_pos, if_neg, ↓reduceIte]
        exact w_ret rfl
      · exact w_ref h 1
  · apply zOK_mk2
    · simp (disch := first | omega | (simp (disch := omega) only [z_up_fn, z_up_ni, z_up_eq, z_up_qi, z_rw_fn] <;> omega) | fail) only [e_126_0, e_126_33, e_126_9, e_126_46, e_126_53_0, e_126_53_1, e_126_53_2, e_126_53_3, e_126_19, e_126_58, e_126_63, s_138, s_133, e_75_0, e_76_0_1, e_76_28_1, e_76_25_1, s_76z1, s_235, s_236, e_131_0, e_132_0, w_ix1, w_iy1, Option.bind_some, Int.add_zero, z_wid, or_true, true_or, z_up_fn, z_up_ni, z_up_eq, z_up_qi, z_rw_fn, z_rw_in, z_rw_out, if_pos, if_neg, ↓reduceIte]
      exact w_ret rfl
    · intro k hk
      simp (disch := omega) only [z_up_fn, z_rw_fn]
    · intro τ hτ
      simp (disch := first | omega | (simp (disch := omega) only [hτ] <;> omega) | fail) only [e_225_0, e_225_6, e_225_38, e_225_15, e_225_30, e_225_96, s_149, s_225z, e_150_0, e_151_0, hτ, Option.bind_some, Int.add_zero, z_wid, or_true, true_or, z_up_fn, z_up_ni, z_up_eq, z_up_qi, z_rw_fn, z_rw_in, z_rw_out, if_pos, if_neg, ↓reduceIte]
      exact w_ret rfl
    · exact w_ref h 1
theorem o_sheet2m (d : Nat) (s : Int → Int) (L : Int) (σ : Nat → Int → Int) (h : zV s L σ) (x3 : Int) : zOK s L (d + 9) 126 225 [some (.inl 2), some (.inl (-1)), some (.inl x3), none] [some (.inl 2), some (.inl (-1)), some (.inl x3), none] σ := by
  apply zOK_mk2
  · simp (disch := first | omega | (simp (disch := omega) only [z_up_fn, z_up_ni, z_up_eq, z_up_qi, z_rw_fn] <;> omega) | fail) only [e_126_0, e_126_33, e_126_9, e_126_46, e_126_53_0, e_126_53_1, e_126_53_2, e_126_53_3, e_126_19, e_126_58, e_126_63, s_138, s_133, e_75_0, e_76_0_2, e_76_28_2, e_76_25_2, s_76z2, s_235, s_236, e_131_0, e_132_0, w_ix2, w_iy2, Option.bind_some, Int.add_zero, z_wid, or_true, true_or, z_up_fn, z_up_ni, z_up_eq, z_up_qi, z_rw_fn, z_rw_in, z_rw_out, if_pos, if_neg, ↓reduceIte]
    exact w_ret rfl
  · intro k hk
    simp (disch := omega) only [z_up_fn, z_rw_fn]
  · intro τ hτ
    simp (disch := first | omega | (simp (disch := omega) only [hτ] <;> omega) | fail) only [e_225_0, e_225_6, e_225_38, e_225_15, e_225_30, e_225_96, s_149, s_225z, e_150_0, e_151_0, hτ, Option.bind_some, Int.add_zero, z_wid, or_true, true_or, z_up_fn, z_up_ni, z_up_eq, z_up_qi, z_rw_fn, z_rw_in, z_rw_out, if_pos, if_neg, ↓reduceIte]
    exact w_ret (by omega)
  · obtain ⟨v_sc, v_st, v_mo, v_se, v_ik, v_ba, v_wP, v_wZ, v_wD, v_wS, v_wR, v_wU, v_wO, v_wG, v_wT, v_P, v_Q, v_Z, v_D, v_S, v_R, v_U, v_O, v_G, v_T, v_kl, v_kmo, v_kse, v_kP, v_kQ, v_kZ, v_kD, v_kS, v_kR, v_kU, v_kO, v_kG, v_kT, v_A, v_X0, v_X1, v_X2, v_X3, v_pc, v_pm, v_lc, v_lm⟩ := h
    refine ⟨v_sc, ?_, v_mo, v_se, v_ik, v_ba, v_wP, v_wZ, v_wD, v_wS, v_wR, v_wU, v_wO, v_wG, v_wT, v_P, v_Q, v_Z, v_D, v_S, v_R, v_U, v_O, v_G, v_T, v_kl, v_kmo, v_kse, v_kP, v_kQ, v_kZ, v_kD, v_kS, v_kR, v_kU, v_kO, v_kG, v_kT, v_A, ?_, ?_, ?_, ?_, v_pc, v_pm, v_lc, v_lm⟩
    · rfl
    · clear v_sc v_st v_mo v_se v_ik v_ba v_wP v_wZ v_wD v_wS v_wR v_wU v_wO v_wG v_wT v_P v_Q v_Z v_D v_S v_R v_U v_O v_G v_T v_kl v_kmo v_kse v_kP v_kQ v_kZ v_kD v_kS v_kR v_kU v_kO v_kG v_kT v_A v_X1 v_X2 v_X3 v_pc v_pm v_lc v_lm
      refine ⟨v_X0.1, v_X0.2.1, v_X0.2.2.1, v_X0.2.2.2.1, v_X0.2.2.2.2.1, v_X0.2.2.2.2.2.1, fun j j0 j1 => ?_⟩
      have q := v_X0.2.2.2.2.2.2 j j0 j1
      simp (disch := omega) only [true_and, and_true, true_or, or_true, Int.add_zero, z_up_fn, z_up_ni, z_up_eq, z_up_qi, z_rw_fn, z_rw_in, z_rw_out, if_pos, if_neg, ↓reduceIte]
      exact q
    · clear v_sc v_st v_mo v_se v_ik v_ba v_wP v_wZ v_wD v_wS v_wR v_wU v_wO v_wG v_wT v_P v_Q v_Z v_D v_S v_R v_U v_O v_G v_T v_kl v_kmo v_kse v_kP v_kQ v_kZ v_kD v_kS v_kR v_kU v_kO v_kG v_kT v_A v_X0 v_X2 v_X3 v_pc v_pm v_lc v_lm
      refine ⟨v_X1.1, v_X1.2.1, v_X1.2.2.1, v_X1.2.2.2.1, v_X1.2.2.2.2.1, v_X1.2.2.2.2.2.1, fun j j0 j1 => ?_⟩
      have q := v_X1.2.2.2.2.2.2 j j0 j1
      simp (disch := omega) only [true_and, and_true, true_or, or_true, Int.add_zero, z_up_fn, z_up_ni, z_up_eq, z_up_qi, z_rw_fn, z_rw_in, z_rw_out, if_pos, if_neg, ↓reduceIte]
      exact q
    · clear v_sc v_st v_mo v_se v_ik v_ba v_wP v_wZ v_wD v_wS v_wR v_wU v_wO v_wG v_wT v_P v_Q v_Z v_D v_S v_R v_U v_O v_G v_T v_kl v_kmo v_kse v_kP v_kQ v_kZ v_kD v_kS v_kR v_kU v_kO v_kG v_kT v_A v_X0 v_X1 v_X2 v_X3 v_pc v_pm v_lc v_lm
      refine ⟨?_, ?_, ?_, ?_, ?_, ?_, fun j j0 j1 => ?_⟩
      · simp (disch := omega) only [true_and, and_true, true_or, or_true, Int.add_zero, z_up_fn, z_up_ni, z_up_eq, z_up_qi, z_rw_fn, z_rw_in, z_rw_out, if_pos, if_neg, ↓reduceIte] <;> omega
      · simp (disch := omega) only [true_and, and_true, true_or, or_true, Int.add_zero, z_up_fn, z_up_ni, z_up_eq, z_up_qi, z_rw_fn, z_rw_in, z_rw_out, if_pos, if_neg, ↓reduceIte] <;> omega
      · simp (disch := omega) only [true_and, and_true, true_or, or_true, Int.add_zero, z_up_fn, z_up_ni, z_up_eq, z_up_qi, z_rw_fn, z_rw_in, z_rw_out, if_pos, if_neg, ↓reduceIte] <;> omega
      · simp (disch := omega) only [true_and, and_true, true_or, or_true, Int.add_zero, z_up_fn, z_up_ni, z_up_eq, z_up_qi, z_rw_fn, z_rw_in, z_rw_out, if_pos, if_neg, ↓reduceIte] <;> omega
      · simp (disch := omega) only [true_and, and_true, true_or, or_true, Int.add_zero, z_up_fn, z_up_ni, z_up_eq, z_up_qi, z_rw_fn, z_rw_in, z_rw_out, if_pos, if_neg, ↓reduceIte] <;> omega
      · simp (disch := omega) only [true_and, and_true, true_or, or_true, Int.add_zero, z_up_fn, z_up_ni, z_up_eq, z_up_qi, z_rw_fn, z_rw_in, z_rw_out, if_pos, if_neg, ↓reduceIte] <;> omega
      · simp (disch := omega) only [true_and, and_true, true_or, or_true, Int.add_zero, z_up_fn, z_up_ni, z_up_eq, z_up_qi, z_rw_fn, z_rw_in, z_rw_out, if_pos, if_neg, ↓reduceIte]
        omega
    · clear v_sc v_st v_mo v_se v_ik v_ba v_wP v_wZ v_wD v_wS v_wR v_wU v_wO v_wG v_wT v_P v_Q v_Z v_D v_S v_R v_U v_O v_G v_T v_kl v_kmo v_kse v_kP v_kQ v_kZ v_kD v_kS v_kR v_kU v_kO v_kG v_kT v_A v_X0 v_X1 v_X2 v_pc v_pm v_lc v_lm
      refine ⟨v_X3.1, v_X3.2.1, v_X3.2.2.1, v_X3.2.2.2.1, v_X3.2.2.2.2.1, v_X3.2.2.2.2.2.1, fun j j0 j1 => ?_⟩
      have q := v_X3.2.2.2.2.2.2 j j0 j1
      simp (disch := omega) only [true_and, and_true, true_or, or_true, Int.add_zero, z_up_fn, z_up_ni, z_up_eq, z_up_qi, z_rw_fn, z_rw_in, z_rw_out, if_pos, if_neg, ↓reduceIte]
      exact q
theorem o_sheet2 (d : Nat) (s : Int → Int) (L : Int) (σ : Nat → Int → Int) (h : zV s L σ) (x2 x3 : Int) (hn : ¬ x2 = -1) : zOK s L (d + 9) 126 225 [some (.inl 2), some (.inl x2), some (.inl x3), none] [some (.inl 2), some (.inl x2), some (.inl x3), none] σ := by
  by_cases c1 : 0 ≤ x2
  · by_cases c2 : x2 ≤ 2
    · by_cases c3 : 0 ≤ x3 ∧ x3 ≤ 40
      · apply zOK_mk2
        · simp (disch := first | omega | (simp (disch := omega) only [z_up_fn, z_up_ni, z_up_eq, z_up_qi, z_rw_fn] <;> omega) | fail) only [e_126_0, e_126_33, e_126_9, e_126_46, e_126_53_0, e_126_53_1, e_126_53_2, e_126_53_3, e_126_19, e_126_58, e_126_63, s_138, s_133, e_75_0, e_76_0_2, e_76_28_2, e_76_25_2, s_76z2, s_235, s_236, e_131_0, e_132_0, w_ix2, w_iy2, Option.bind_some, Int.add_zero, z_wid, or_true, true_or, z_up_fn, z_up_ni, z_up_eq, z_up_qi, z_rw_fn, z_rw_in, z_rw_out, if_pos, if_neg, ↓reduceIte]
          exact w_ret rfl
        · intro k hk
          simp (disch := omega) only [z_up_fn, z_rw_fn]
        · intro τ hτ
          simp (disch := first | omega | (simp (disch := omega) only [hτ] <;> omega) | fail) only [e_225_0, e_225_6, e_225_38, e_225_15, e_225_30, e_225_96, s_149, s_225z, e_150_0, e_151_0, hτ, Option.bind_some, Int.add_zero, z_wid, or_true, true_or, z_up_fn, z_up_ni, z_up_eq, z_up_qi, z_rw_fn, z_rw_in, z_rw_out, if_pos, if_neg, ↓reduceIte]
          exact w_ret (by omega)
        · obtain ⟨v_sc, v_st, v_mo, v_se, v_ik, v_ba, v_wP, v_wZ, v_wD, v_wS, v_wR, v_wU, v_wO, v_wG, v_wT, v_P, v_Q, v_Z, v_D, v_S, v_R, v_U, v_O, v_G, v_T, v_kl, v_kmo, v_kse, v_kP, v_kQ, v_kZ, v_kD, v_kS, v_kR, v_kU, v_kO, v_kG, v_kT, v_A, v_X0, v_X1, v_X2, v_X3, v_pc, v_pm, v_lc, v_lm⟩ := h
          refine ⟨v_sc, ?_, v_mo, v_se, v_ik, v_ba, v_wP, v_wZ, v_wD, v_wS, v_wR, v_wU, v_wO, v_wG, v_wT, v_P, v_Q, v_Z, v_D, v_S, v_R, v_U, v_O, v_G, v_T, v_kl, v_kmo, v_kse, v_kP, v_kQ, v_kZ, v_kD, v_kS, v_kR, v_kU, v_kO, v_kG, v_kT, v_A, ?_, ?_, ?_, ?_, v_pc, v_pm, v_lc, v_lm⟩
          · rfl
          · clear v_sc v_st v_mo v_se v_ik v_ba v_wP v_wZ v_wD v_wS v_wR v_wU v_wO v_wG v_wT v_P v_Q v_Z v_D v_S v_R v_U v_O v_G v_T v_kl v_kmo v_kse v_kP v_kQ v_kZ v_kD v_kS v_kR v_kU v_kO v_kG v_kT v_A v_X1 v_X2 v_X3 v_pc v_pm v_lc v_lm
            refine ⟨v_X0.1, v_X0.2.1, v_X0.2.2.1, v_X0.2.2.2.1, v_X0.2.2.2.2.1, v_X0.2.2.2.2.2.1, fun j j0 j1 => ?_⟩
            have q := v_X0.2.2.2.2.2.2 j j0 j1
            simp (disch := omega) only [true_and, and_true, true_or, or_true, Int.add_zero, z_up_fn, z_up_ni, z_up_eq, z_up_qi, z_rw_fn, z_rw_in, z_rw_out, if_pos, if_neg, ↓reduceIte]
            exact q
          · clear v_sc v_st v_mo v_se v_ik v_ba v_wP v_wZ v_wD v_wS v_wR v_wU v_wO v_wG v_wT v_P v_Q v_Z v_D v_S v_R v_U v_O v_G v_T v_kl v_kmo v_kse v_kP v_kQ v_kZ v_kD v_kS v_kR v_kU v_kO v_kG v_kT v_A v_X0 v_X2 v_X3 v_pc v_pm v_lc v_lm
            refine ⟨v_X1.1, v_X1.2.1, v_X1.2.2.1, v_X1.2.2.2.1, v_X1.2.2.2.2.1, v_X1.2.2.2.2.2.1, fun j j0 j1 => ?_⟩
            have q := v_X1.2.2.2.2.2.2 j j0 j1
            simp (disch := omega) only [true_and, and_true, true_or, or_true, Int.add_zero, z_up_fn, z_up_ni, z_up_eq, z_up_qi, z_rw_fn, z_rw_in, z_rw_out, if_pos, if_neg, ↓reduceIte]
            exact q
          · clear v_sc v_st v_mo v_se v_ik v_ba v_wP v_wZ v_wD v_wS v_wR v_wU v_wO v_wG v_wT v_P v_Q v_Z v_D v_S v_R v_U v_O v_G v_T v_kl v_kmo v_kse v_kP v_kQ v_kZ v_kD v_kS v_kR v_kU v_kO v_kG v_kT v_A v_X0 v_X1 v_X2 v_X3 v_pc v_pm v_lc v_lm
            refine ⟨?_, ?_, ?_, ?_, ?_, ?_, fun j j0 j1 => ?_⟩
            · simp (disch := omega) only [true_and, and_true, true_or, or_true, Int.add_zero, z_up_fn, z_up_ni, z_up_eq, z_up_qi, z_rw_fn, z_rw_in, z_rw_out, if_pos, if_neg, ↓reduceIte] <;> omega
            · simp (disch := omega) only [true_and, and_true, true_or, or_true, Int.add_zero, z_up_fn, z_up_ni, z_up_eq, z_up_qi, z_rw_fn, z_rw_in, z_rw_out, if_pos, if_neg, ↓reduceIte] <;> omega
            · simp (disch := omega) only [true_and, and_true, true_or, or_true, Int.add_zero, z_up_fn, z_up_ni, z_up_eq, z_up_qi, z_rw_fn, z_rw_in, z_rw_out, if_pos, if_neg, ↓reduceIte] <;> omega
            · simp (disch := omega) only [true_and, and_true, true_or, or_true, Int.add_zero, z_up_fn, z_up_ni, z_up_eq, z_up_qi, z_rw_fn, z_rw_in, z_rw_out, if_pos, if_neg, ↓reduceIte] <;> omega
            · simp (disch := omega) only [true_and, and_true, true_or, or_true, Int.add_zero, z_up_fn, z_up_ni, z_up_eq, z_up_qi, z_rw_fn, z_rw_in, z_rw_out, if_pos, if_neg, ↓reduceIte] <;> omega
            · simp (disch := omega) only [true_and, and_true, true_or, or_true, Int.add_zero, z_up_fn, z_up_ni, z_up_eq, z_up_qi, z_rw_fn, z_rw_in, z_rw_out, if_pos, if_neg, ↓reduceIte] <;> omega
            · simp (disch := omega) only [true_and, and_true, true_or, or_true, Int.add_zero, z_up_fn, z_up_ni, z_up_eq, z_up_qi, z_rw_fn, z_rw_in, z_rw_out, if_pos, if_neg, ↓reduceIte]
              omega
          · clear v_sc v_st v_mo v_se v_ik v_ba v_wP v_wZ v_wD v_wS v_wR v_wU v_wO v_wG v_wT v_P v_Q v_Z v_D v_S v_R v_U v_O v_G v_T v_kl v_kmo v_kse v_kP v_kQ v_kZ v_kD v_kS v_kR v_kU v_kO v_kG v_kT v_A v_X0 v_X1 v_X2 v_pc v_pm v_lc v_lm
            refine ⟨v_X3.1, v_X3.2.1, v_X3.2.2.1, v_X3.2.2.2.1, v_X3.2.2.2.2.1, v_X3.2.2.2.2.2.1, fun j j0 j1 => ?_⟩
            have q := v_X3.2.2.2.2.2.2 j j0 j1
            simp (disch := omega) only [true_and, and_true, true_or, or_true, Int.add_zero, z_up_fn, z_up_ni, z_up_eq, z_up_qi, z_rw_fn, z_rw_in, z_rw_out, if_pos, if_neg, ↓reduceIte]
            exact q
      · apply zOK_mk2
        · simp (disch := first | omega | (simp (disch := omega) only [z_up_fn, z_up_ni, z_up_eq, z_up_qi, z_rw_fn] <;> omega) | fail) only [e_126_0, e_126_33, e_126_9, e_126_46, e_126_53_0, e_126_53_1, e_126_53_2, e_126_53_3, e_126_19, e_126_58, e_126_63, s_138, s_133, e_75_0, e_76_0_2, e_76_28_2, e_76_25_2, s_76z2, s_235, s_236, e_131_0, e_132_0, w_ix2, w_iy2, Option.bind_some, Int.add_zero, z_wid, or_true, true_or, z_up_fn, z_up_ni, z_up_eq, z_up_qi, z_rw_fn, z_rw_in, z_rw_out, if_pos, if_neg, ↓reduceIte]
          exact w_ret rfl
        · intro k hk
          simp (disch := omega) only [z_up_fn, z_rw_fn]
        · intro τ hτ
          simp (disch := first | omega | (simp (disch := omega) only [hτ] <;> omega) | fail) only [e_225_0, e_225_6, e_225_38, e_225_15, e_225_30, e_225_96, s_149, s_225z, e_150_0, e_151_0, hτ, Option.bind_some, Int.add_zero, z_wid, or_true, true_or, z_up_fn, z_up_ni, z_up_eq, z_up_qi, z_rw_fn, z_rw_in, z_rw_out, if_pos, if_neg, ↓reduceIte]
          exact w_ret rfl
        · exact w_ref h 1
    · apply zOK_mk2
      · simp (disch := first | omega | (simp (disch := omega) only [z_up_fn, z_up_ni, z_up_eq, z_up_qi, z_rw_fn] <;> omega) | fail) only [e_126_0, e_126_33, e_126_9, e_126_46, e_126_53_0, e_126_53_1, e_126_53_2, e_126_53_3, e_126_19, e_126_58, e_126_63, s_138, s_133, e_75_0, e_76_0_2, e_76_28_2, e_76_25_2, s_76z2, s_235, s_236, e_131_0, e_132_0, w_ix2, w_iy2, Option.bind_some, Int.add_zero, z_wid, or_true, true_or, z_up_fn, z_up_ni, z_up_eq, z_up_qi, z_rw_fn, z_rw_in, z_rw_out, if_pos, if_neg, ↓reduceIte]
        exact w_ret rfl
      · intro k hk
        simp (disch := omega) only [z_up_fn, z_rw_fn]
      · intro τ hτ
        simp (disch := first | omega | (simp (disch := omega) only [hτ] <;> omega) | fail) only [e_225_0, e_225_6, e_225_38, e_225_15, e_225_30, e_225_96, s_149, s_225z, e_150_0, e_151_0, hτ, Option.bind_some, Int.add_zero, z_wid, or_true, true_or, z_up_fn, z_up_ni, z_up_eq, z_up_qi, z_rw_fn, z_rw_in, z_rw_out, if_pos, if_neg, ↓reduceIte]
        exact w_ret rfl
      · exact w_ref h 1
  · apply zOK_mk2
    · simp (disch := first | omega | (simp (disch := omega) only [z_up_fn, z_up_ni, z_up_eq, z_up_qi, z_rw_fn] <;> omega) | fail) only [e_126_0, e_126_33, e_126_9, e_126_46, e_126_53_0, e_126_53_1, e_126_53_2, e_126_53_3, e_126_19, e_126_58, e_126_63, s_138, s_133, e_75_0, e_76_0_2, e_76_28_2, e_76_25_2, s_76z2, s_235, s_236, e_131_0, e_132_0, w_ix2, w_iy2, Option.bind_some, Int.add_zero, z_wid, or_true, true_or, z_up_fn, z_up_ni, z_up_eq, z_up_qi, z_rw_fn, z_rw_in, z_rw_out, if_pos, if_neg, ↓reduceIte]
      exact w_ret rfl
    · intro k hk
      simp (disch := omega) only [z_up_fn, z_rw_fn]
    · intro τ hτ
      simp (disch := first | omega | (simp (disch := omega) only [hτ] <;> omega) | fail) only [e_225_0, e_225_6, e_225_38, e_225_15, e_225_30, e_225_96, s_149, s_225z, e_150_0, e_151_0, hτ, Option.bind_some, Int.add_zero, z_wid, or_true, true_or, z_up_fn, z_up_ni, z_up_eq, z_up_qi, z_rw_fn, z_rw_in, z_rw_out, if_pos, if_neg, ↓reduceIte]
      exact w_ret rfl
    · exact w_ref h 1
theorem o_sheet3m (d : Nat) (s : Int → Int) (L : Int) (σ : Nat → Int → Int) (h : zV s L σ) (x3 : Int) : zOK s L (d + 9) 126 225 [some (.inl 3), some (.inl (-1)), some (.inl x3), none] [some (.inl 3), some (.inl (-1)), some (.inl x3), none] σ := by
  apply zOK_mk2
  · simp (disch := first | omega | (simp (disch := omega) only [z_up_fn, z_up_ni, z_up_eq, z_up_qi, z_rw_fn] <;> omega) | fail) only [e_126_0, e_126_33, e_126_9, e_126_46, e_126_53_0, e_126_53_1, e_126_53_2, e_126_53_3, e_126_19, e_126_58, e_126_63, s_138, s_133, e_75_0, e_76_0_3, e_76_28_3, e_76_25_3, s_76z3, s_235, s_236, e_131_0, e_132_0, w_ix3, w_iy3, Option.bind_some, Int.add_zero, z_wid, or_true, true_or, z_up_fn, z_up_ni, z_up_eq, z_up_qi, z_rw_fn, z_rw_in, z_rw_out, if_pos, if_neg, ↓reduceIte]
    exact w_ret rfl
  · intro k hk
    simp (disch := omega) only [z_up_fn, z_rw_fn]
  · intro τ hτ
    simp (disch := first | omega | (simp (disch := omega) only [hτ] <;> omega) | fail) only [e_225_0, e_225_6, e_225_38, e_225_15, e_225_30, e_225_96, s_149, s_225z, e_150_0, e_151_0, hτ, Option.bind_some, Int.add_zero, z_wid, or_true, true_or, z_up_fn, z_up_ni, z_up_eq, z_up_qi, z_rw_fn, z_rw_in, z_rw_out, if_pos, if_neg, ↓reduceIte]
    exact w_ret (by omega)
  · obtain ⟨v_sc, v_st, v_mo, v_se, v_ik, v_ba, v_wP, v_wZ, v_wD, v_wS, v_wR, v_wU, v_wO, v_wG, v_wT, v_P, v_Q, v_Z, v_D, v_S, v_R, v_U, v_O, v_G, v_T, v_kl, v_kmo, v_kse, v_kP, v_kQ, v_kZ, v_kD, v_kS, v_kR, v_kU, v_kO, v_kG, v_kT, v_A, v_X0, v_X1, v_X2, v_X3, v_pc, v_pm, v_lc, v_lm⟩ := h
    refine ⟨v_sc, ?_, v_mo, v_se, v_ik, v_ba, v_wP, v_wZ, v_wD, v_wS, v_wR, v_wU, v_wO, v_wG, v_wT, v_P, v_Q, v_Z, v_D, v_S, v_R, v_U, v_O, v_G, v_T, v_kl, v_kmo, v_kse, v_kP, v_kQ, v_kZ, v_kD, v_kS, v_kR, v_kU, v_kO, v_kG, v_kT, v_A, ?_, ?_, ?_, ?_, v_pc, v_pm, v_lc, v_lm⟩
    · rfl
    · clear v_sc v_st v_mo v_se v_ik v_ba v_wP v_wZ v_wD v_wS v_wR v_wU v_wO v_wG v_wT v_P v_Q v_Z v_D v_S v_R v_U v_O v_G v_T v_kl v_kmo v_kse v_kP v_kQ v_kZ v_kD v_kS v_kR v_kU v_kO v_kG v_kT v_A v_X1 v_X2 v_X3 v_pc v_pm v_lc v_lm
      refine ⟨v_X0.1, v_X0.2.1, v_X0.2.2.1, v_X0.2.2.2.1, v_X0.2.2.2.2.1, v_X0.2.2.2.2.2.1, fun j j0 j1 => ?_⟩
      have q := v_X0.2.2.2.2.2.2 j j0 j1
      simp (disch := omega) only [true_and, and_true, true_or, or_true, Int.add_zero, z_up_fn, z_up_ni, z_up_eq, z_up_qi, z_rw_fn, z_rw_in, z_rw_out, if_pos, if_neg, ↓reduceIte]
      exact q
    · clear v_sc v_st v_mo v_se v_ik v_ba v_wP v_wZ v_wD v_wS v_wR v_wU v_wO v_wG v_wT v_P v_Q v_Z v_D v_S v_R v_U v_O v_G v_T v_kl v_kmo v_kse v_kP v_kQ v_kZ v_kD v_kS v_kR v_kU v_kO v_kG v_kT v_A v_X0 v_X2 v_X3 v_pc v_pm v_lc v_lm
      refine ⟨v_X1.1, v_X1.2.1, v_X1.2.2.1, v_X1.2.2.2.1, v_X1.2.2.2.2.1, v_X1.2.2.2.2.2.1, fun j j0 j1 => ?_⟩
      have q := v_X1.2.2.2.2.2.2 j j0 j1
      simp (disch := omega) only [true_and, and_true, true_or, or_true, Int.add_zero, z_up_fn, z_up_ni, z_up_eq, z_up_qi, z_rw_fn, z_rw_in, z_rw_out, if_pos, if_neg, ↓reduceIte]
      exact q
    · clear v_sc v_st v_mo v_se v_ik v_ba v_wP v_wZ v_wD v_wS v_wR v_wU v_wO v_wG v_wT v_P v_Q v_Z v_D v_S v_R v_U v_O v_G v_T v_kl v_kmo v_kse v_kP v_kQ v_kZ v_kD v_kS v_kR v_kU v_kO v_kG v_kT v_A v_X0 v_X1 v_X3 v_pc v_pm v_lc v_lm
      refine ⟨v_X2.1, v_X2.2.1, v_X2.2.2.1, v_X2.2.2.2.1, v_X2.2.2.2.2.1, v_X2.2.2.2.2.2.1, fun j j0 j1 => ?_⟩
      have q := v_X2.2.2.2.2.2.2 j j0 j1
      simp (disch := omega) only [true_and, and_true, true_or, or_true, Int.add_zero, z_up_fn, z_up_ni, z_up_eq, z_up_qi, z_rw_fn, z_rw_in, z_rw_out, if_pos, if_neg, ↓reduceIte]
      exact q
    · clear v_sc v_st v_mo v_se v_ik v_ba v_wP v_wZ v_wD v_wS v_wR v_wU v_wO v_wG v_wT v_P v_Q v_Z v_D v_S v_R v_U v_O v_G v_T v_kl v_kmo v_kse v_kP v_kQ v_kZ v_kD v_kS v_kR v_kU v_kO v_kG v_kT v_A v_X0 v_X1 v_X2 v_X3 v_pc v_pm v_lc v_lm
      refine ⟨?_, ?_, ?_, ?_, ?_, ?_, fun j j0 j1 => ?_⟩
      · simp (disch := omega) only [true_and, and_true, true_or, or_true, Int.add_zero, z_up_fn, z_up_ni, z_up_eq, z_up_qi, z_rw_fn, z_rw_in, z_rw_out, if_pos, if_neg, ↓reduceIte] <;> omega
      · simp (disch := omega) only [true_and, and_true, true_or, or_true, Int.add_zero, z_up_fn, z_up_ni, z_up_eq, z_up_qi, z_rw_fn, z_rw_in, z_rw_out, if_pos, if_neg, ↓reduceIte] <;> omega
      · simp (disch := omega) only [true_and, and_true, true_or, or_true, Int.add_zero, z_up_fn, z_up_ni, z_up_eq, z_up_qi, z_rw_fn, z_rw_in, z_rw_out, if_pos, if_neg, ↓reduceIte] <;> omega
      · simp (disch := omega) only [true_and, and_true, true_or, or_true, Int.add_zero, z_up_fn, z_up_ni, z_up_eq, z_up_qi, z_rw_fn, z_rw_in, z_rw_out, if_pos, if_neg, ↓reduceIte] <;> omega
      · simp (disch := omega) only [true_and, and_true, true_or, or_true, Int.add_zero, z_up_fn, z_up_ni, z_up_eq, z_up_qi, z_rw_fn, z_rw_in, z_rw_out, if_pos, if_neg, ↓reduceIte] <;> omega
      · simp (disch := omega) only [true_and, and_true, true_or, or_true, Int.add_zero, z_up_fn, z_up_ni, z_up_eq, z_up_qi, z_rw_fn, z_rw_in, z_rw_out, if_pos, if_neg, ↓reduceIte] <;> omega
      · simp (disch := omega) only [true_and, and_true, true_or, or_true, Int.add_zero, z_up_fn, z_up_ni, z_up_eq, z_up_qi, z_rw_fn, z_rw_in, z_rw_out, if_pos, if_neg, ↓reduceIte]
        omega
theorem o_sheet3 (d : Nat) (s : Int → Int) (L : Int) (σ : Nat → Int → Int) (h : zV s L σ) (x2 x3 : Int) (hn : ¬ x2 = -1) : zOK s L (d + 9) 126 225 [some (.inl 3), some (.inl x2), some (.inl x3), none] [some (.inl 3), some (.inl x2), some (.inl x3), none] σ := by
  by_cases c1 : 0 ≤ x2
  · by_cases c2 : x2 ≤ 2
    · by_cases c3 : 0 ≤ x3 ∧ x3 ≤ 40
      · apply zOK_mk2
        · simp (disch := first | omega | (simp (disch := omega) only [z_up_fn, z_up_ni, z_up_eq, z_up_qi, z_rw_fn] <;> omega) | fail) only [e_126_0, e_126_33, e_126_9, e_126_46, e_126_53_0, e_126_53_1, e_126_53_2, e_126_53_3, e_126_19, e_126_58, e_126_63, s_138, s_133, e_75_0, e_76_0_3, e_76_28_3, e_76_25_3, s_76z3, s_235, s_236, e_131_0, e_132_0, w_ix3, w_iy3, Option.bind_some, Int.add_zero, z_wid, or_true, true_or, z_up_fn, z_up_ni, z_up_eq, z_up_qi, z_rw_fn, z_rw_in, z_rw_out, if_pos, if_neg, ↓reduceIte]
          exact w_ret rfl
        · intro k hk
          simp (disch := omega) only [z_up_fn, z_rw_fn]
        · intro τ hτ
          simp (disch := first | omega | (simp (disch := omega) only [hτ] <;> omega) | fail) only [e_225_0, e_225_6, e_225_38, e_225_15, e_225_30, e_225_96, s_149, s_225z, e_150_0, e_151_0, hτ, Option.bind_some, Int.add_zero, z_wid, or_true, true_or, z_up_fn, z_up_ni, z_up_eq, z_up_qi, z_rw_fn, z_rw_in, z_rw_out, if_pos, if_neg, ↓reduceIte]
          exact w_ret (by omega)
        · obtain ⟨v_sc, v_st, v_mo, v_se, v_ik, v_ba, v_wP, v_wZ, v_wD, v_wS, v_wR, v_wU, v_wO, v_wG, v_wT, v_P, v_Q, v_Z, v_D, v_S, v_R, v_U, v_O, v_G, v_T, v_kl, v_kmo, v_kse, v_kP, v_kQ, v_kZ, v_kD, v_kS, v_kR, v_kU, v_kO, v_kG, v_kT, v_A, v_X0, v_X1, v_X2, v_X3, v_pc, v_pm, v_lc, v_lm⟩ := h
          refine ⟨v_sc, ?_, v_mo, v_se, v_ik, v_ba, v_wP, v_wZ, v_wD, v_wS, v_wR, v_wU, v_wO, v_wG, v_wT, v_P, v_Q, v_Z, v_D, v_S, v_R, v_U, v_O, v_G, v_T, v_kl, v_kmo, v_kse, v_kP, v_kQ, v_kZ, v_kD, v_kS, v_kR, v_kU, v_kO, v_kG, v_kT, v_A, ?_, ?_, ?_, ?_, v_pc, v_pm, v_lc, v_lm⟩
          · rfl
          · clear v_sc v_st v_mo v_se v_ik v_ba v_wP v_wZ v_wD v_wS v_wR v_wU v_wO v_wG v_wT v_P v_Q v_Z v_D v_S v_R v_U v_O v_G v_T v_kl v_kmo v_kse v_kP v_kQ v_kZ v_kD v_kS v_kR v_kU v_kO v_kG v_kT v_A v_X1 v_X2 v_X3 v_pc v_pm v_lc v_lm
            refine ⟨v_X0.1, v_X0.2.1, v_X0.2.2.1, v_X0.2.2.2.1, v_X0.2.2.2.2.1, v_X0.2.2.2.2.2.1, fun j j0 j1 => ?_⟩
            have q := v_X0.2.2.2.2.2.2 j j0 j1
            simp (disch := omega) only [true_and, and_true, true_or, or_true, Int.add_zero, z_up_fn, z_up_ni, z_up_eq, z_up_qi, z_rw_fn, z_rw_in, z_rw_out, if_pos, if_neg, ↓reduceIte]
            exact q
          · clear v_sc v_st v_mo v_se v_ik v_ba v_wP v_wZ v_wD v_wS v_wR v_wU v_wO v_wG v_wT v_P v_Q v_Z v_D v_S v_R v_U v_O v_G v_T v_kl v_kmo v_kse v_kP v_kQ v_kZ v_kD v_kS v_kR v_kU v_kO v_kG v_kT v_A v_X0 v_X2 v_X3 v_pc v_pm v_lc v_lm
            refine ⟨v_X1.1, v_X1.2.1, v_X1.2.2.1, v_X1.2.2.2.1, v_X1.2.2.2.2.1, v_X1.2.2.2.2.2.1, fun j j0 j1 => ?_⟩
            have q := v_X1.2.2.2.2.2.2 j j0 j1
            simp (disch := omega) only [true_and, and_true, true_or, or_true, Int.add_zero, z_up_fn, z_up_ni, z_up_eq, z_up_qi, z_rw_fn, z_rw_in, z_rw_out, if_pos, if_neg, ↓reduceIte]
            exact q
          · clear v_sc v_st v_mo v_se v_ik v_ba v_wP v_wZ v_wD v_wS v_wR v_wU v_wO v_wG v_wT v_P v_Q v_Z v_D v_S v_R v_U v_O v_G v_T v_kl v_kmo v_kse v_kP v_kQ v_kZ v_kD v_kS v_kR v_kU v_kO v_kG v_kT v_A v_X0 v_X1 v_X3 v_pc v_pm v_lc v_lm
            refine ⟨v_X2.1, v_X2.2.1, v_X2.2.2.1, v_X2.2.2.2.1, v_X2.2.2.2.2.1, v_X2.2.2.2.2.2.1, fun j j0 j1 => ?_⟩
            have q := v_X2.2.2.2.2.2.2 j j0 j1
            simp (disch := omega) only [true_and, and_true, true_or, or_true, Int.add_zero, z_up_fn, z_up_ni, z_up_eq, z_up_qi, z_rw_fn, z_rw_in, z_rw_out, if_pos, if_neg, ↓reduceIte]
            exact q
          · clear v_sc v_st v_mo v_se v_ik v_ba v_wP v_wZ v_wD v_wS v_wR v_wU v_wO v_wG v_wT v_P v_Q v_Z v_D v_S v_R v_U v_O v_G v_T v_kl v_kmo v_kse v_kP v_kQ v_kZ v_kD v_kS v_kR v_kU v_kO v_kG v_kT v_A v_X0 v_X1 v_X2 v_X3 v_pc v_pm v_lc v_lm
            refine ⟨?_, ?_, ?_, ?_, ?_, ?_, fun j j0 j1 => ?_⟩
            · simp (disch := omega) only [true_and, and_true, true_or, or_true, Int.add_zero, z_up_fn, z_up_ni, z_up_eq, z_up_qi, z_rw_fn, z_rw_in, z_rw_out, if_pos, if_neg, ↓reduceIte] <;> omega
            · simp (disch := omega) only [true_and, and_true, true_or, or_true, Int.add_zero, z_up_fn, z_up_ni, z_up_eq, z_up_qi, z_rw_fn, z_rw_in, z_rw_out, if_pos, if_neg, ↓reduceIte] <;> omega
            · simp (disch := omega) only [true_and, and_true, true_or, or_true, Int.add_zero, z_up_fn, z_up_ni, z_up_eq, z_up_qi, z_rw_fn, z_rw_in, z_rw_out, if_pos, if_neg, ↓reduceIte] <;> omega
            · simp (disch := omega) only [true_and, and_true, true_or, or_true, Int.add_zero, z_up_fn, z_up_ni, z_up_eq, z_up_qi, z_rw_fn, z_rw_in, z_rw_out, if_pos, if_neg, ↓reduceIte] <;> omega
            · simp (disch := omega) only [true_and, and_true, true_or, or_true, Int.add_zero, z_up_fn, z_up_ni, z_up_eq, z_up_qi, z_rw_fn, z_rw_in, z_rw_out, if_pos, if_neg, ↓reduceIte] <;> omega
            · simp (disch := omega) only [true_and, and_true, true_or, or_true, Int.add_zero, z_up_fn, z_up_ni, z_up_eq, z_up_qi, z_rw_fn, z_rw_in, z_rw_out, if_pos, if_neg, ↓reduceIte] <;> omega
            · simp (disch := omega) only [true_and, and_true, true_or, or_true, Int.add_zero, z_up_fn, z_up_ni, z_up_eq, z_up_qi, z_rw_fn, z_rw_in, z_rw_out, if_pos, if_neg, ↓reduceIte]
              omega
      · apply zOK_mk2
        · simp (disch := first | omega | (simp (disch := omega) only [z_up_fn, z_up_ni, z_up_eq, z_up_qi, z_rw_fn] <;> omega) | fail) only [e_126_0, e_126_33, e_126_9, e_126_46, e_126_53_0, e_126_53_1, e_126_53_2, e_126_53_3, e_126_19, e_126_58, e_126_63, s_138, s_133, e_75_0, e_76_0_3, e_76_28_3, e_76_25_3, s_76z3, s_235, s_236, e_131_0, e_132_0, w_ix3, w_iy3, Option.bind_some, Int.add_zero, z_wid, or_true, true_or, z_up_fn, z_up_ni, z_up_eq, z_up_qi, z_rw_fn, z_rw_in, z_rw_out, if_pos, if_neg, ↓reduceIte]
          exact w_ret rfl
        · intro k hk
          simp (disch := omega) only [z_up_fn, z_rw_fn]
        · intro τ hτ
          simp (disch := first | omega | (simp (disch := omega) only [hτ] <;> omega) | fail) only [e_225_0, e_225_6, e_225_38, e_225_15, e_225_30, e_225_96, s_149, s_225z, e_150_0, e_151_0, hτ, Option.bind_some, Int.add_zero, z_wid, or_true, true_or, z_up_fn, z_up_ni, z_up_eq, z_up_qi, z_rw_fn, z_rw_in, z_rw_out, if_pos, if_neg, ↓reduceIte]
          exact w_ret rfl
        · exact w_ref h 1
    · apply zOK_mk2
      · simp (disch := first | omega | (simp (disch := omega) only [z_up_fn, z_up_ni, z_up_eq, z_up_qi, z_rw_fn] <;> omega) | fail) only [e_126_0, e_126_33, e_126_9, e_126_46, e_126_53_0, e_126_53_1, e_126_53_2, e_126_53_3, e_126_19, e_126_58, e_126_63, s_138, s_133, e_75_0, e_76_0_3, e_76_28_3, e_76_25_3, s_76z3, s_235, s_236, e_131_0, e_132_0, w_ix3, w_iy3, Option.bind_some, Int.add_zero, z_wid, or_true, true_or, z_up_fn, z_up_ni, z_up_eq, z_up_qi, z_rw_fn, z_rw_in, z_rw_out, if_pos, if_neg, ↓reduceIte]
        exact w_ret rfl
      · intro k hk
        simp (disch := omega) only [z_up_fn, z_rw_fn]
      · intro τ hτ
        simp (disch := first | omega | (simp (disch := omega) only [hτ] <;> omega) | fail) only [e_225_0, e_225_6, e_225_38, e_225_15, e_225_30, e_225_96, s_149, s_225z, e_150_0, e_151_0, hτ, Option.bind_some, Int.add_zero, z_wid, or_true, true_or, z_up_fn, z_up_ni, z_up_eq, z_up_qi, z_rw_fn, z_rw_in, z_rw_out, if_pos, if_neg, ↓reduceIte]
        exact w_ret rfl
      · exact w_ref h 1
  · apply zOK_mk2
    · simp (disch := first | omega | (simp (disch := omega) only [z_up_fn, z_up_ni, z_up_eq, z_up_qi, z_rw_fn] <;> omega) | fail) only [e_126_0, e_126_33, e_126_9, e_126_46, e_126_53_0, e_126_53_1, e_126_53_2, e_126_53_3, e_126_19, e_126_58, e_126_63, s_138, s_133, e_75_0, e_76_0_3, e_76_28_3, e_76_25_3, s_76z3, s_235, s_236, e_131_0, e_132_0, w_ix3, w_iy3, Option.bind_some, Int.add_zero, z_wid, or_true, true_or, z_up_fn, z_up_ni, z_up_eq, z_up_qi, z_rw_fn, z_rw_in, z_rw_out, if_pos, if_neg, ↓reduceIte]
      exact w_ret rfl
    · intro k hk
      simp (disch := omega) only [z_up_fn, z_rw_fn]
    · intro τ hτ
      simp (disch := first | omega | (simp (disch := omega) only [hτ] <;> omega) | fail) only [e_225_0, e_225_6, e_225_38, e_225_15, e_225_30, e_225_96, s_149, s_225z, e_150_0, e_151_0, hτ, Option.bind_some, Int.add_zero, z_wid, or_true, true_or, z_up_fn, z_up_ni, z_up_eq, z_up_qi, z_rw_fn, z_rw_in, z_rw_out, if_pos, if_neg, ↓reduceIte]
      exact w_ret rfl
    · exact w_ref h 1
theorem s_126x (d : Nat) (σ : Nat → Int → Int) (x1 x2 x3 : Int) (c : ¬ (0 ≤ x1 ∧ x1 ≤ 3)) : zE (d + 9) 126 0 [some (.inr 4), some (.inl x1), some (.inl x2), some (.inl x3), none] [] (zS, σ) = some (.inl (-1), (zS, z_up σ 0 8 1)) := by
  by_cases c1 : x2 = -1
  · simp (disch := omega) only [e_126_0, e_126_33, e_126_46, s_138, e_132_0, Option.bind_some, Int.add_zero, z_wid, or_true, true_or, z_up_fn, z_up_ni, z_up_eq, z_up_qi, z_rw_fn, z_rw_in, z_rw_out, if_pos, if_neg, ↓reduceIte]
  · by_cases c2 : 0 ≤ x2
    · by_cases c3 : x2 ≤ 2
      · by_cases c4 : 0 ≤ x3 ∧ x3 ≤ 40
        · simp (disch := omega) only [e_126_0, e_126_9, e_126_19, e_126_33, e_126_46, e_75_0, s_133, s_138, e_132_0, Option.bind_some, Int.add_zero, z_wid, or_true, true_or, z_up_fn, z_up_ni, z_up_eq, z_up_qi, z_rw_fn, z_rw_in, z_rw_out, if_pos, if_neg, ↓reduceIte]
        · simp (disch := omega) only [e_126_0, e_126_9, e_126_19, e_126_33, e_126_46, e_75_0, s_133, s_138, e_132_0, Option.bind_some, Int.add_zero, z_wid, or_true, true_or, z_up_fn, z_up_ni, z_up_eq, z_up_qi, z_rw_fn, z_rw_in, z_rw_out, if_pos, if_neg, ↓reduceIte]
      · simp (disch := omega) only [e_126_0, e_126_9, e_126_19, e_126_33, e_126_46, e_75_0, s_133, s_138, e_132_0, Option.bind_some, Int.add_zero, z_wid, or_true, true_or, z_up_fn, z_up_ni, z_up_eq, z_up_qi, z_rw_fn, z_rw_in, z_rw_out, if_pos, if_neg, ↓reduceIte]
    · simp (disch := omega) only [e_126_0, e_126_9, e_126_19, e_126_33, e_126_46, e_75_0, s_133, s_138, e_132_0, Option.bind_some, Int.add_zero, z_wid, or_true, true_or, z_up_fn, z_up_ni, z_up_eq, z_up_qi, z_rw_fn, z_rw_in, z_rw_out, if_pos, if_neg, ↓reduceIte]
theorem o_sheet (d : Nat) (s : Int → Int) (L : Int) (σ : Nat → Int → Int) (h : zV s L σ) (x1 x2 x3 : Int) : zOK s L (d + 9) 126 225 [some (.inl x1), some (.inl x2), some (.inl x3), none] [some (.inl x1), some (.inl x2), some (.inl x3), none] σ := by
  by_cases c : 0 ≤ x1 ∧ x1 ≤ 3
  · have e : x1 = 0 ∨ x1 = 1 ∨ x1 = 2 ∨ x1 = 3 := by omega
    by_cases c2 : x2 = -1
    · subst c2
      rcases e with e | e | e | e <;> subst e
      · exact o_sheet0m d s L σ h x3
      · exact o_sheet1m d s L σ h x3
      · exact o_sheet2m d s L σ h x3
      · exact o_sheet3m d s L σ h x3
    · rcases e with e | e | e | e <;> subst e
      · exact o_sheet0 d s L σ h x2 x3 c2
      · exact o_sheet1 d s L σ h x2 x3 c2
      · exact o_sheet2 d s L σ h x2 x3 c2
      · exact o_sheet3 d s L σ h x2 x3 c2
  · apply zOK_mk2
    · exact s_126x d σ x1 x2 x3 c
    · intro k hk
      simp (disch := omega) only [z_up_fn]
    · intro τ hτ
      simp (disch := first | omega | (simp (disch := omega) only [hτ] <;> omega) | fail) only [e_225_0, e_225_6, e_225_38, s_149, e_150_0, hτ, Option.bind_some, Int.add_zero, z_wid, or_true, true_or, z_up_fn, z_up_ni, z_up_eq, z_up_qi, z_rw_fn, z_rw_in, z_rw_out, if_pos, if_neg, ↓reduceIte]
      exact w_ret rfl
    · exact w_ref h 1
