theorem w_pass {s : Int → Int} {L : Int} {σ : Nat → Int → Int} (h : zV s L σ) (x1 x2 x3 x4 : Int) (h3 : x3 < 2147483648) (c1 : (0 ≤ x1 ∧ x1 < σ 2 3) ∧ (0 ≤ x2 ∧ x2 ≤ 5) ∧ (0 ≤ x3 ∧ x3 / 100 ≤ x3 % 100 ∧ x3 % 100 ≤ 19) ∧ (0 ≤ x4 ∧ x4 ≤ 11) ∧ (x2 = 2 → x4 < σ 2 3)) (c2 : σ 8 3 < 20) : zV s L (z_up (z_up (z_up (z_up (z_up (z_up (z_up (z_up (z_up (z_up (z_up (z_rw (z_up σ 8 3 (σ 8 3 + 1)) 9 (7 * σ 8 3) 7 (r_addPass x1 x2 x3 x4 (σ 1 9))) 3 (4 * x1 + 2) (σ 3 (4 * x1 + 2) + 1)) 0 8 0) 80 (σ 71 13) x1) 81 (σ 71 13) x2) 82 (σ 71 13) (z_wrap (Int.tdiv x3 100))) 83 (σ 71 13) (Int.tmod x3 100)) 84 (σ 71 13) x4) 85 (σ 71 13) (-1)) 86 (σ 71 13) (-1)) 71 13 (σ 71 13 + 1)) 71 0 0) := by
  have hwS := zV_wS h
  have hS := (zV_S h).1
  have hS1 := (zV_S h).2.1
  have hS2 := (zV_S h).2.2.1
  have hwP := zV_wP h
  have hP := (zV_P h).1
  have hP1 := (zV_P h).2.1
  have hP2 := (zV_P h).2.2.1
  have w3 := w_days c1.2.2.1.1 h3
  have q2 := zV_Q h x1 c1.1.1 (by omega)
  have r2 := z_cnt_rng (σ 80) x1 (σ 71 13).toNat
  obtain ⟨v_sc, v_st, v_mo, v_se, v_ik, v_ba, v_wP, v_wZ, v_wD, v_wS, v_wR, v_wU, v_wO, v_wG, v_wT, v_P, v_Q, v_Z, v_D, v_S, v_R, v_U, v_O, v_G, v_T, v_kl, v_kmo, v_kse, v_kP, v_kQ, v_kZ, v_kD, v_kS, v_kR, v_kU, v_kO, v_kG, v_kT, v_A, v_X0, v_X1, v_X2, v_X3, v_pc, v_pm, v_lc, v_lm⟩ := h
  have e := hS.symm
  refine ⟨v_sc, ?_, v_mo, v_se, v_ik, v_ba, v_wP, v_wZ, v_wD, v_wS, v_wR, v_wU, v_wO, v_wG, v_wT, ?_, ?_, v_Z, v_D, ?_, v_R, v_U, v_O, v_G, v_T, ?_, v_kmo, v_kse, v_kP, ?_, v_kZ, v_kD, ?_, v_kR, v_kU, v_kO, v_kG, v_kT, v_A, v_X0, v_X1, v_X2, v_X3, v_pc, v_pm, v_lc, v_lm⟩
  · rfl
  · clear v_sc v_st v_mo v_se v_ik v_ba v_wP v_wZ v_wD v_wS v_wR v_wU v_wO v_wG v_wT v_Q v_Z v_D v_S v_R v_U v_O v_G v_T v_kl v_kmo v_kse v_kP v_kQ v_kZ v_kD v_kS v_kR v_kU v_kO v_kG v_kT v_A v_X0 v_X1 v_X2 v_X3 v_pc v_pm v_lc v_lm
    refine ⟨v_P.1, v_P.2.1, v_P.2.2.1, fun p p0 p1 => ?_⟩
    have p1 : p < σ 71 2 := p1
    have q := v_P.2.2.2 p p0 p1
    simp (disch := omega) only [true_and, and_true, true_or, or_true, Int.add_zero, z_up_fn, z_up_ni, z_up_eq, z_up_qi, z_rw_fn, z_rw_in, z_rw_out, if_pos, if_neg, ↓reduceIte]
    exact q
  · clear v_sc v_st v_mo v_se v_ik v_ba v_wP v_wZ v_wD v_wS v_wR v_wU v_wO v_wG v_wT v_P v_Z v_D v_S v_R v_U v_O v_G v_T v_kl v_kmo v_kse v_kP v_kQ v_kZ v_kD v_kS v_kR v_kU v_kO v_kG v_kT v_A v_X0 v_X1 v_X2 v_X3 v_pc v_pm v_lc v_lm
    intro p p0 p1
    have p1 : p < σ 71 2 := p1
    have q := v_Q p p0 p1
    simp (disch := omega) only [true_and, and_true, true_or, or_true, Int.add_zero, z_up_fn, z_up_ni, z_up_eq, z_up_qi, z_rw_fn, z_rw_in, z_rw_out, if_pos, if_neg, ↓reduceIte]
    rw [z_cnt_succ _ _ hS1, z_cnt_up (by omega), z_up_eq]
    by_cases c : p = x1
    · subst c
      simp (disch := omega) only [true_and, and_true, true_or, or_true, Int.add_zero, z_up_fn, z_up_ni, z_up_eq, z_up_qi, z_rw_fn, z_rw_in, z_rw_out, if_pos, if_neg, ↓reduceIte]
      omega
    · simp (disch := omega) only [true_and, and_true, true_or, or_true, Int.add_zero, z_up_fn, z_up_ni, z_up_eq, z_up_qi, z_rw_fn, z_rw_in, z_rw_out, if_pos, if_neg, ↓reduceIte]
      omega
  · clear v_sc v_st v_mo v_se v_ik v_ba v_wP v_wZ v_wD v_wS v_wR v_wU v_wO v_wG v_wT v_Q v_D v_R v_U v_O v_G v_T v_kl v_kmo v_kse v_kP v_kQ v_kZ v_kD v_kS v_kR v_kU v_kO v_kG v_kT v_A v_X0 v_X1 v_X2 v_X3 v_pc v_pm v_lc v_lm
    refine ⟨?_, ?_, ?_, fun p p0 p1 => ?_⟩
    · simp (disch := omega) only [true_and, and_true, true_or, or_true, Int.add_zero, z_up_fn, z_up_ni, z_up_eq, z_up_qi, z_rw_fn, z_rw_in, z_rw_out, if_pos, if_neg, ↓reduceIte]; omega
    · simp (disch := omega) only [true_and, and_true, true_or, or_true, Int.add_zero, z_up_fn, z_up_ni, z_up_eq, z_up_qi, z_rw_fn, z_rw_in, z_rw_out, if_pos, if_neg, ↓reduceIte]; omega
    · simp (disch := omega) only [true_and, and_true, true_or, or_true, Int.add_zero, z_up_fn, z_up_ni, z_up_eq, z_up_qi, z_rw_fn, z_rw_in, z_rw_out, if_pos, if_neg, ↓reduceIte]; omega
    · have p1 : p < σ 71 13 + 1 := p1
      by_cases c : p = σ 71 13
      · subst c
        simp (disch := omega) only [true_and, and_true, true_or, or_true, Int.add_zero, z_up_fn, z_up_ni, z_up_eq, z_up_qi, z_rw_fn, z_rw_in, z_rw_out, if_pos, if_neg, ↓reduceIte, r_addPass_0, r_addPass_1, r_addPass_2, r_addPass_3, r_addPass_4, r_addPass_5, r_addPass_6]
        omega
      · have q := v_S.2.2.2 p p0 (by omega)
        simp (disch := omega) only [true_and, and_true, true_or, or_true, Int.add_zero, z_up_fn, z_up_ni, z_up_eq, z_up_qi, z_rw_fn, z_rw_in, z_rw_out, if_pos, if_neg, ↓reduceIte]
        omega
  · intro k
    have w := v_kl k
    clear v_sc v_st v_mo v_se v_ik v_ba v_wP v_wZ v_wD v_wS v_wR v_wU v_wO v_wG v_wT v_P v_Q v_Z v_D v_S v_R v_U v_O v_G v_T v_kl v_kmo v_kse v_kP v_kQ v_kZ v_kD v_kS v_kR v_kU v_kO v_kG v_kT v_A v_X0 v_X1 v_X2 v_X3 v_pc v_pm v_lc v_lm
    unfold zKL at w ⊢
    simp (disch := omega) only [true_and, and_true, true_or, or_true, Int.add_zero, z_up_fn, z_up_ni, z_up_eq, z_up_qi, z_rw_fn, z_rw_in, z_rw_out, if_pos, if_neg, ↓reduceIte]
    omega
  · intro k p p0 p1
    have w := v_kl k
    unfold zKL at w
    have p2 : p < σ 113 0 := p1
    have q := v_kQ k p p0 p2
    clear v_sc v_st v_mo v_se v_ik v_ba v_wP v_wZ v_wD v_wS v_wR v_wU v_wO v_wG v_wT v_P v_Q v_Z v_D v_S v_R v_U v_O v_G v_T v_kl v_kmo v_kse v_kP v_kQ v_kZ v_kD v_kS v_kR v_kU v_kO v_kG v_kT v_A v_X0 v_X1 v_X2 v_X3 v_pc v_pm v_lc v_lm
    simp (disch := omega) only [true_and, and_true, true_or, or_true, Int.add_zero, z_up_fn, z_up_ni, z_up_eq, z_up_qi, z_rw_fn, z_rw_in, z_rw_out, if_pos, if_neg, ↓reduceIte]
    rw [z_cnt_up (by omega)]
    simp (disch := omega) only [true_and, and_true, true_or, or_true, Int.add_zero, z_up_fn, z_up_ni, z_up_eq, z_up_qi, z_rw_fn, z_rw_in, z_rw_out, if_pos, if_neg, ↓reduceIte]
    exact q
  · intro k
    have w := v_kl k
    unfold zKL at w
    have q := v_kS k
    clear v_sc v_st v_mo v_se v_ik v_ba v_wP v_wZ v_wD v_wS v_wR v_wU v_wO v_wG v_wT v_P v_Q v_Z v_D v_S v_R v_U v_O v_G v_T v_kl v_kmo v_kse v_kP v_kQ v_kZ v_kD v_kS v_kR v_kU v_kO v_kG v_kT v_A v_X0 v_X1 v_X2 v_X3 v_pc v_pm v_lc v_lm
    refine ⟨q.1, q.2.1, q.2.2.1, fun p p0 p1 => ?_⟩
    have p2 : p < σ 113 3 := p1
    have r := q.2.2.2 p p0 p2
    simp (disch := first | omega | (simp (disch := omega) only [z_up_fn, z_up_ni, z_up_eq, z_up_qi, z_rw_fn] <;> omega) | fail) only [true_and, and_true, true_or, or_true, Int.add_zero, z_up_fn, z_up_ni, z_up_eq, z_up_qi, z_rw_fn, z_rw_in, z_rw_out, if_pos, if_neg, ↓reduceIte]
    exact r
theorem o_pass (d : Nat) (s : Int → Int) (L : Int) (σ : Nat → Int → Int) (h : zV s L σ) (x1 x2 x3 x4 : Int) (h3 : x3 < 2147483648) : zOK s L (d + 9) 96 163 [some (.inl x1), some (.inl x2), some (.inl x3), some (.inl x4)] [some (.inl x1), some (.inl x2), some (.inl x3), some (.inl x4)] σ := by
  have hwS := zV_wS h
  have hS := (zV_S h).1
  have hS1 := (zV_S h).2.1
  have hS2 := (zV_S h).2.2.1
  have hwP := zV_wP h
  have hP := (zV_P h).1
  have hP1 := (zV_P h).2.1
  have hP2 := (zV_P h).2.2.1
  by_cases c1 : (0 ≤ x1 ∧ x1 < σ 2 3) ∧ (0 ≤ x2 ∧ x2 ≤ 5) ∧ (0 ≤ x3 ∧ x3 / 100 ≤ x3 % 100 ∧ x3 % 100 ≤ 19) ∧ (0 ≤ x4 ∧ x4 ≤ 11) ∧ (x2 = 2 → x4 < σ 2 3)
  · have w3 := w_days c1.2.2.1.1 h3
    have q2 := zV_Q h x1 c1.1.1 (by omega)
    have r2 := z_cnt_rng (σ 80) x1 (σ 71 13).toNat
    by_cases c2 : σ 8 3 < 20
    · apply zOK_mk2
      · simp (disch := first | omega | (simp (disch := omega) only [z_up_fn, z_up_ni, z_up_eq, z_up_qi, z_rw_fn] <;> omega) | fail) only [e_96_0, e_96_9, e_96_17, e_96_28, e_96_50, e_96_36, e_96_53, s_142, e_86_0_2, e_131_0, e_132_0, s_addPass, Option.bind_some, Int.add_zero, z_wid, or_true, true_or, z_up_fn, z_up_ni, z_up_eq, z_up_qi, z_rw_fn, z_rw_in, z_rw_out, if_pos, if_neg, ↓reduceIte]
        exact w_ret rfl
      · intro k hk
        simp (disch := omega) only [z_up_fn, z_rw_fn]
      · intro τ hτ
        simp (disch := first | omega | (simp (disch := omega) only [hτ] <;> omega) | fail) only [e_163_0, e_163_9, e_163_17, e_163_32, e_163_44, s_161, e_162_0, e_162_97, e_150_0, e_151_0, hτ, Option.bind_some, Int.add_zero, z_wid, or_true, true_or, z_up_fn, z_up_ni, z_up_eq, z_up_qi, z_rw_fn, z_rw_in, z_rw_out, if_pos, if_neg, ↓reduceIte]
        exact w_ret (by omega)
      · skip
        exact w_pass h _ _ _ _ h3 c1 c2
    · apply zOK_mk2
      · simp (disch := first | omega | (simp (disch := omega) only [z_up_fn, z_up_ni, z_up_eq, z_up_qi, z_rw_fn] <;> omega) | fail) only [e_96_0, e_96_9, e_96_17, e_96_28, e_96_50, e_96_36, e_96_53, s_142, e_86_0_2, e_131_0, e_132_0, s_addPass, Option.bind_some, Int.add_zero, z_wid, or_true, true_or, z_up_fn, z_up_ni, z_up_eq, z_up_qi, z_rw_fn, z_rw_in, z_rw_out, if_pos, if_neg, ↓reduceIte]
        exact w_ret rfl
      · intro k hk
        simp (disch := omega) only [z_up_fn, z_rw_fn]
      · intro τ hτ
        simp (disch := first | omega | (simp (disch := omega) only [hτ] <;> omega) | fail) only [e_163_0, e_163_9, e_163_17, e_163_32, e_163_44, s_161, e_162_0, e_162_97, e_150_0, e_151_0, hτ, Option.bind_some, Int.add_zero, z_wid, or_true, true_or, z_up_fn, z_up_ni, z_up_eq, z_up_qi, z_rw_fn, z_rw_in, z_rw_out, if_pos, if_neg, ↓reduceIte]
        exact w_ret rfl
      · exact w_ref h 2
  · apply zOK_mk2
    · simp (disch := first | omega | (simp (disch := omega) only [z_up_fn, z_up_ni, z_up_eq, z_up_qi, z_rw_fn] <;> omega) | fail) only [e_96_0, e_96_9, e_96_17, e_96_28, e_96_50, e_96_36, e_96_53, s_142, e_86_0_2, e_131_0, e_132_0, s_addPass, Option.bind_some, Int.add_zero, z_wid, or_true, true_or, z_up_fn, z_up_ni, z_up_eq, z_up_qi, z_rw_fn, z_rw_in, z_rw_out, if_pos, if_neg, ↓reduceIte]
      exact w_ret rfl
    · intro k hk
      simp (disch := omega) only [z_up_fn, z_rw_fn]
    · intro τ hτ
      simp (disch := first | omega | (simp (disch := omega) only [hτ] <;> omega) | fail) only [e_163_0, e_163_9, e_163_17, e_163_32, e_163_44, s_161, e_162_0, e_162_97, e_150_0, e_151_0, hτ, Option.bind_some, Int.add_zero, z_wid, or_true, true_or, z_up_fn, z_up_ni, z_up_eq, z_up_qi, z_rw_fn, z_rw_in, z_rw_out, if_pos, if_neg, ↓reduceIte]
      exact w_ret rfl
    · exact w_ref h 1
theorem o_status (d : Nat) (s : Int → Int) (L : Int) (σ : Nat → Int → Int) (h : zV s L σ)  : zOK s L (d + 9) 130 232 [] [] σ := by
  have v := zV_st h
  apply zOK_ro h
  · simp (disch := omega) only [e_130_0, Option.bind_some, Int.add_zero, z_wid, or_true, true_or, z_up_fn, z_up_ni, z_up_eq, z_up_qi, z_rw_fn, z_rw_in, z_rw_out, if_pos, if_neg, ↓reduceIte] <;> exact w_ret rfl
  · simp (disch := omega) only [e_232_0, Option.bind_some, Int.add_zero, z_wid, or_true, true_or, z_up_fn, z_up_ni, z_up_eq, z_up_qi, z_rw_fn, z_rw_in, z_rw_out, if_pos, if_neg, ↓reduceIte] <;> exact w_ret (by exact v.symm)
theorem o_passTold (d : Nat) (s : Int → Int) (L : Int) (σ : Nat → Int → Int) (h : zV s L σ) (x y : Int) : zOK s L (d + 9) 112 209 [some (.inl x), some (.inl y)] [some (.inl x), some (.inl y)] σ := by
  have hwS := zV_wS h
  have hS := (zV_S h).1
  have hS1 := (zV_S h).2.1
  have hS2 := (zV_S h).2.2.1
  by_cases c1 : 0 ≤ x ∧ x < σ 8 3
  · by_cases c2 : 0 ≤ y ∧ y ≤ 5
    · have q := (zV_S h).2.2.2 x c1.1 (by omega)
      have c3 : y = 0 ∨ y = 1 ∨ y = 2 ∨ y = 3 ∨ y = 4 ∨ y = 5 := by omega
      rcases c3 with c3 | c3 | c3 | c3 | c3 | c3 <;> subst c3
      · apply zOK_ro h
        · simp (disch := omega) only [e_112_0, e_112_6, e_112_23, s_133, s_get_8, Option.bind_some, Int.add_zero, z_wid, or_true, true_or, z_up_fn, z_up_ni, z_up_eq, z_up_qi, z_rw_fn, z_rw_in, z_rw_out, if_pos, if_neg, ↓reduceIte] <;> exact w_ret rfl
        · simp (disch := omega) only [e_209_0, e_209_5, e_209_14, s_149, s_155, Option.bind_some, Int.add_zero, z_wid, or_true, true_or, z_up_fn, z_up_ni, z_up_eq, z_up_qi, z_rw_fn, z_rw_in, z_rw_out, if_pos, if_neg, ↓reduceIte] <;> exact w_ret (by omega)
      · apply zOK_ro h
        · simp (disch := omega) only [e_112_0, e_112_6, e_112_23, s_133, s_get_8, Option.bind_some, Int.add_zero, z_wid, or_true, true_or, z_up_fn, z_up_ni, z_up_eq, z_up_qi, z_rw_fn, z_rw_in, z_rw_out, if_pos, if_neg, ↓reduceIte] <;> exact w_ret rfl
        · simp (disch := omega) only [e_209_0, e_209_5, e_209_14, s_149, s_155, Option.bind_some, Int.add_zero, z_wid, or_true, true_or, z_up_fn, z_up_ni, z_up_eq, z_up_qi, z_rw_fn, z_rw_in, z_rw_out, if_pos, if_neg, ↓reduceIte] <;> exact w_ret (by omega)
      · apply zOK_ro h
        · simp (disch := omega) only [e_112_0, e_112_6, e_112_23, s_133, s_get_8, Option.bind_some, Int.add_zero, z_wid, or_true, true_or, z_up_fn, z_up_ni, z_up_eq, z_up_qi, z_rw_fn, z_rw_in, z_rw_out, if_pos, if_neg, ↓reduceIte] <;> exact w_ret rfl
        · simp (disch := omega) only [e_209_0, e_209_5, e_209_14, s_149, s_155, Option.bind_some, Int.add_zero, z_wid, or_true, true_or, z_up_fn, z_up_ni, z_up_eq, z_up_qi, z_rw_fn, z_rw_in, z_rw_out, if_pos, if_neg, ↓reduceIte] <;> exact w_ret (by omega)
      · apply zOK_ro h
        · simp (disch := omega) only [e_112_0, e_112_6, e_112_23, s_133, s_get_8, Option.bind_some, Int.add_zero, z_wid, or_true, true_or, z_up_fn, z_up_ni, z_up_eq, z_up_qi, z_rw_fn, z_rw_in, z_rw_out, if_pos, if_neg, ↓reduceIte] <;> exact w_ret rfl
        · simp (disch := omega) only [e_209_0, e_209_5, e_209_14, s_149, s_155, Option.bind_some, Int.add_zero, z_wid, or_true, true_or, z_up_fn, z_up_ni, z_up_eq, z_up_qi, z_rw_fn, z_rw_in, z_rw_out, if_pos, if_neg, ↓reduceIte] <;> exact w_ret (by omega)
      · apply zOK_ro h
        · simp (disch := omega) only [e_112_0, e_112_6, e_112_23, s_133, s_get_8, Option.bind_some, Int.add_zero, z_wid, or_true, true_or, z_up_fn, z_up_ni, z_up_eq, z_up_qi, z_rw_fn, z_rw_in, z_rw_out, if_pos, if_neg, ↓reduceIte] <;> exact w_ret rfl
        · simp (disch := omega) only [e_209_0, e_209_5, e_209_14, s_149, s_155, Option.bind_some, Int.add_zero, z_wid, or_true, true_or, z_up_fn, z_up_ni, z_up_eq, z_up_qi, z_rw_fn, z_rw_in, z_rw_out, if_pos, if_neg, ↓reduceIte] <;> exact w_ret (by omega)
      · apply zOK_ro h
        · simp (disch := omega) only [e_112_0, e_112_6, e_112_23, s_133, s_get_8, Option.bind_some, Int.add_zero, z_wid, or_true, true_or, z_up_fn, z_up_ni, z_up_eq, z_up_qi, z_rw_fn, z_rw_in, z_rw_out, if_pos, if_neg, ↓reduceIte] <;> exact w_ret rfl
        · simp (disch := omega) only [e_209_0, e_209_5, e_209_14, s_149, s_155, Option.bind_some, Int.add_zero, z_wid, or_true, true_or, z_up_fn, z_up_ni, z_up_eq, z_up_qi, z_rw_fn, z_rw_in, z_rw_out, if_pos, if_neg, ↓reduceIte] <;> exact w_ret (by omega)
    · apply zOK_ro h
      · simp (disch := omega) only [e_112_0, e_112_6, e_112_23, s_133, s_get_8, Option.bind_some, Int.add_zero, z_wid, or_true, true_or, z_up_fn, z_up_ni, z_up_eq, z_up_qi, z_rw_fn, z_rw_in, z_rw_out, if_pos, if_neg, ↓reduceIte] <;> exact w_ret rfl
      · simp (disch := omega) only [e_209_0, e_209_5, e_209_14, s_149, s_155, Option.bind_some, Int.add_zero, z_wid, or_true, true_or, z_up_fn, z_up_ni, z_up_eq, z_up_qi, z_rw_fn, z_rw_in, z_rw_out, if_pos, if_neg, ↓reduceIte] <;> exact w_ret (by rfl)
  · by_cases c2 : 0 ≤ y ∧ y ≤ 5
    · apply zOK_ro h
      · simp (disch := omega) only [e_112_0, e_112_6, e_112_23, s_133, s_get_8, Option.bind_some, Int.add_zero, z_wid, or_true, true_or, z_up_fn, z_up_ni, z_up_eq, z_up_qi, z_rw_fn, z_rw_in, z_rw_out, if_pos, if_neg, ↓reduceIte] <;> exact w_ret rfl
      · simp (disch := omega) only [e_209_0, e_209_5, e_209_14, s_149, s_155, Option.bind_some, Int.add_zero, z_wid, or_true, true_or, z_up_fn, z_up_ni, z_up_eq, z_up_qi, z_rw_fn, z_rw_in, z_rw_out, if_pos, if_neg, ↓reduceIte] <;> exact w_ret (by rfl)
    · apply zOK_ro h
      · simp (disch := omega) only [e_112_0, e_112_6, e_112_23, s_133, s_get_8, Option.bind_some, Int.add_zero, z_wid, or_true, true_or, z_up_fn, z_up_ni, z_up_eq, z_up_qi, z_rw_fn, z_rw_in, z_rw_out, if_pos, if_neg, ↓reduceIte] <;> exact w_ret rfl
      · simp (disch := omega) only [e_209_0, e_209_5, e_209_14, s_149, s_155, Option.bind_some, Int.add_zero, z_wid, or_true, true_or, z_up_fn, z_up_ni, z_up_eq, z_up_qi, z_rw_fn, z_rw_in, z_rw_out, if_pos, if_neg, ↓reduceIte] <;> exact w_ret (by rfl)
theorem o_trace (d : Nat) (s : Int → Int) (L : Int) (σ : Nat → Int → Int) (h : zV s L σ) (x : Int) : zOK s L (d + 9) 125 224 [some (.inl x)] [some (.inl x)] σ := by
  have v := zV_A h
  have vA := v.1
  have vA1 := v.2.1
  have vA2 := v.2.2.1
  by_cases c1 : 0 ≤ x ∧ x < σ 60 1
  · by_cases c2 : σ 71 67 < 50
    · apply zOK_ro h
      · simp (disch := omega) only [e_125_0, e_125_8, e_2_0, Option.bind_some, Int.add_zero, z_wid, or_true, true_or, z_up_fn, z_up_ni, z_up_eq, z_up_qi, z_rw_fn, z_rw_in, z_rw_out, if_pos, if_neg, ↓reduceIte] <;> exact w_ret rfl
      · simp (disch := omega) only [e_224_0, e_224_25, s_149, Option.bind_some, Int.add_zero, z_wid, or_true, true_or, z_up_fn, z_up_ni, z_up_eq, z_up_qi, z_rw_fn, z_rw_in, z_rw_out, if_pos, if_neg, ↓reduceIte] <;> exact w_ret (by exact (v.2.2.2 x c1.1 (by omega)).symm)
    · apply zOK_ro h
      · simp (disch := omega) only [e_125_0, e_125_8, e_2_0, Option.bind_some, Int.add_zero, z_wid, or_true, true_or, z_up_fn, z_up_ni, z_up_eq, z_up_qi, z_rw_fn, z_rw_in, z_rw_out, if_pos, if_neg, ↓reduceIte] <;> exact w_ret rfl
      · simp (disch := omega) only [e_224_0, e_224_25, s_149, Option.bind_some, Int.add_zero, z_wid, or_true, true_or, z_up_fn, z_up_ni, z_up_eq, z_up_qi, z_rw_fn, z_rw_in, z_rw_out, if_pos, if_neg, ↓reduceIte] <;> exact w_ret (by exact (v.2.2.2 x c1.1 (by omega)).symm)
  · by_cases c2 : x < 0
    · by_cases c3 : σ 71 67 < 50
      · apply zOK_ro h
        · simp (disch := omega) only [e_125_0, e_125_8, e_2_0, Option.bind_some, Int.add_zero, z_wid, or_true, true_or, z_up_fn, z_up_ni, z_up_eq, z_up_qi, z_rw_fn, z_rw_in, z_rw_out, if_pos, if_neg, ↓reduceIte] <;> exact w_ret rfl
        · simp (disch := omega) only [e_224_0, e_224_25, s_149, Option.bind_some, Int.add_zero, z_wid, or_true, true_or, z_up_fn, z_up_ni, z_up_eq, z_up_qi, z_rw_fn, z_rw_in, z_rw_out, if_pos, if_neg, ↓reduceIte] <;> exact w_ret (by rfl)
      · apply zOK_ro h
        · simp (disch := omega) only [e_125_0, e_125_8, e_2_0, Option.bind_some, Int.add_zero, z_wid, or_true, true_or, z_up_fn, z_up_ni, z_up_eq, z_up_qi, z_rw_fn, z_rw_in, z_rw_out, if_pos, if_neg, ↓reduceIte] <;> exact w_ret rfl
        · simp (disch := omega) only [e_224_0, e_224_25, s_149, Option.bind_some, Int.add_zero, z_wid, or_true, true_or, z_up_fn, z_up_ni, z_up_eq, z_up_qi, z_rw_fn, z_rw_in, z_rw_out, if_pos, if_neg, ↓reduceIte] <;> exact w_ret (by rfl)
    · by_cases c3 : σ 71 67 < 50
      · apply zOK_ro h
        · simp (disch := omega) only [e_125_0, e_125_8, e_2_0, Option.bind_some, Int.add_zero, z_wid, or_true, true_or, z_up_fn, z_up_ni, z_up_eq, z_up_qi, z_rw_fn, z_rw_in, z_rw_out, if_pos, if_neg, ↓reduceIte] <;> exact w_ret rfl
        · simp (disch := omega) only [e_224_0, e_224_25, s_149, Option.bind_some, Int.add_zero, z_wid, or_true, true_or, z_up_fn, z_up_ni, z_up_eq, z_up_qi, z_rw_fn, z_rw_in, z_rw_out, if_pos, if_neg, ↓reduceIte] <;> exact w_ret (by rfl)
      · by_cases c4 : x < 50
        · apply zOK_ro h
          · simp (disch := omega) only [e_125_0, e_125_8, e_2_0, Option.bind_some, Int.add_zero, z_wid, or_true, true_or, z_up_fn, z_up_ni, z_up_eq, z_up_qi, z_rw_fn, z_rw_in, z_rw_out, if_pos, if_neg, ↓reduceIte] <;> exact w_ret rfl
          · simp (disch := omega) only [e_224_0, e_224_25, s_149, Option.bind_some, Int.add_zero, z_wid, or_true, true_or, z_up_fn, z_up_ni, z_up_eq, z_up_qi, z_rw_fn, z_rw_in, z_rw_out, if_pos, if_neg, ↓reduceIte] <;> exact w_ret (by rfl)
        · apply zOK_ro h
          · simp (disch := omega) only [e_125_0, e_125_8, e_2_0, Option.bind_some, Int.add_zero, z_wid, or_true, true_or, z_up_fn, z_up_ni, z_up_eq, z_up_qi, z_rw_fn, z_rw_in, z_rw_out, if_pos, if_neg, ↓reduceIte] <;> exact w_ret rfl
          · simp (disch := omega) only [e_224_0, e_224_25, s_149, Option.bind_some, Int.add_zero, z_wid, or_true, true_or, z_up_fn, z_up_ni, z_up_eq, z_up_qi, z_rw_fn, z_rw_in, z_rw_out, if_pos, if_neg, ↓reduceIte] <;> exact w_ret (by rfl)
theorem o_personTold (d : Nat) (s : Int → Int) (L : Int) (σ : Nat → Int → Int) (h : zV s L σ) (x y : Int) : zOK s L (d + 9) 110 207 [some (.inl x), some (.inl y), none] [some (.inl x), some (.inl y), none, none] σ := by
  have hwP := zV_wP h
  have hP := (zV_P h).1
  have hP1 := (zV_P h).2.1
  have hP2 := (zV_P h).2.2.1
  have hwS := zV_wS h
  have hS := (zV_S h).1
  have hS1 := (zV_S h).2.1
  have hS2 := (zV_S h).2.2.1
  by_cases c1 : 0 ≤ x ∧ x < σ 2 3
  · by_cases c2 : 0 ≤ y ∧ y ≤ 3
    · have q := (zV_P h).2.2.2 x c1.1 (by omega)
      have q2 := zV_Q h x c1.1 (by omega)
      have c3 : y = 0 ∨ y = 1 ∨ y = 2 ∨ y = 3 := by omega
      rcases c3 with c3 | c3 | c3 | c3 <;> subst c3
      · apply zOK_ro h
        · simp (disch := omega) only [e_110_0, e_110_11, e_110_20, e_110_37, s_has_2, s_133, s_get_2, Option.bind_some, Int.add_zero, z_wid, or_true, true_or, z_up_fn, z_up_ni, z_up_eq, z_up_qi, z_rw_fn, z_rw_in, z_rw_out, if_pos, if_neg, ↓reduceIte] <;> exact w_ret rfl
        · simp (disch := omega) only [e_207_0, e_207_5, e_207_60, s_152, s_207l1, e_176_0, Option.bind_some, Int.add_zero, z_wid, or_true, true_or, z_up_fn, z_up_ni, z_up_eq, z_up_qi, z_rw_fn, z_rw_in, z_rw_out, if_pos, if_neg, ↓reduceIte] <;> exact w_ret (by omega)
      · by_cases c4 : σ 73 x = -1
        · apply zOK_ro h
          · simp (disch := omega) only [e_110_0, e_110_11, e_110_20, e_110_37, s_has_2, s_133, s_get_2, Option.bind_some, Int.add_zero, z_wid, or_true, true_or, z_up_fn, z_up_ni, z_up_eq, z_up_qi, z_rw_fn, z_rw_in, z_rw_out, if_pos, if_neg, ↓reduceIte] <;> exact w_ret rfl
          · simp (disch := omega) only [e_207_0, e_207_5, e_207_60, s_152, s_207l1, e_176_0, Option.bind_some, Int.add_zero, z_wid, or_true, true_or, z_up_fn, z_up_ni, z_up_eq, z_up_qi, z_rw_fn, z_rw_in, z_rw_out, if_pos, if_neg, ↓reduceIte] <;> exact w_ret (by omega)
        · apply zOK_ro h
          · simp (disch := omega) only [e_110_0, e_110_11, e_110_20, e_110_37, s_has_2, s_133, s_get_2, Option.bind_some, Int.add_zero, z_wid, or_true, true_or, z_up_fn, z_up_ni, z_up_eq, z_up_qi, z_rw_fn, z_rw_in, z_rw_out, if_pos, if_neg, ↓reduceIte] <;> exact w_ret rfl
          · simp (disch := omega) only [e_207_0, e_207_5, e_207_60, s_152, s_207l1, e_176_0, Option.bind_some, Int.add_zero, z_wid, or_true, true_or, z_up_fn, z_up_ni, z_up_eq, z_up_qi, z_rw_fn, z_rw_in, z_rw_out, if_pos, if_neg, ↓reduceIte] <;> exact w_ret (by omega)
      · apply zOK_ro h
        · simp (disch := omega) only [e_110_0, e_110_11, e_110_20, e_110_37, s_has_2, s_133, s_get_2, Option.bind_some, Int.add_zero, z_wid, or_true, true_or, z_up_fn, z_up_ni, z_up_eq, z_up_qi, z_rw_fn, z_rw_in, z_rw_out, if_pos, if_neg, ↓reduceIte] <;> exact w_ret rfl
        · simp (disch := omega) only [e_207_0, e_207_5, e_207_60, s_152, s_207l1, e_176_0, Option.bind_some, Int.add_zero, z_wid, or_true, true_or, z_up_fn, z_up_ni, z_up_eq, z_up_qi, z_rw_fn, z_rw_in, z_rw_out, if_pos, if_neg, ↓reduceIte] <;> exact w_ret (by omega)
      · apply zOK_ro h
        · simp (disch := omega) only [e_110_0, e_110_11, e_110_20, e_110_37, s_has_2, s_133, s_get_2, Option.bind_some, Int.add_zero, z_wid, or_true, true_or, z_up_fn, z_up_ni, z_up_eq, z_up_qi, z_rw_fn, z_rw_in, z_rw_out, if_pos, if_neg, ↓reduceIte] <;> exact w_ret rfl
        · simp (disch := omega) only [e_207_0, e_207_5, e_207_60, s_152, s_207l1, e_176_0, Option.bind_some, Int.add_zero, z_wid, or_true, true_or, z_up_fn, z_up_ni, z_up_eq, z_up_qi, z_rw_fn, z_rw_in, z_rw_out, if_pos, if_neg, ↓reduceIte] <;> exact w_ret (by omega)
    · apply zOK_ro h
      · simp (disch := omega) only [e_110_0, e_110_11, e_110_20, e_110_37, s_has_2, s_133, s_get_2, Option.bind_some, Int.add_zero, z_wid, or_true, true_or, z_up_fn, z_up_ni, z_up_eq, z_up_qi, z_rw_fn, z_rw_in, z_rw_out, if_pos, if_neg, ↓reduceIte] <;> exact w_ret rfl
      · simp (disch := omega) only [e_207_0, e_207_5, e_207_60, s_152, s_207l1, e_176_0, Option.bind_some, Int.add_zero, z_wid, or_true, true_or, z_up_fn, z_up_ni, z_up_eq, z_up_qi, z_rw_fn, z_rw_in, z_rw_out, if_pos, if_neg, ↓reduceIte] <;> exact w_ret (by rfl)
  · by_cases c2 : 0 ≤ y ∧ y ≤ 3
    · apply zOK_ro h
      · simp (disch := omega) only [e_110_0, e_110_11, e_110_20, e_110_37, s_has_2, s_133, s_get_2, Option.bind_some, Int.add_zero, z_wid, or_true, true_or, z_up_fn, z_up_ni, z_up_eq, z_up_qi, z_rw_fn, z_rw_in, z_rw_out, if_pos, if_neg, ↓reduceIte] <;> exact w_ret rfl
      · simp (disch := omega) only [e_207_0, e_207_5, e_207_60, s_152, s_207l1, e_176_0, Option.bind_some, Int.add_zero, z_wid, or_true, true_or, z_up_fn, z_up_ni, z_up_eq, z_up_qi, z_rw_fn, z_rw_in, z_rw_out, if_pos, if_neg, ↓reduceIte] <;> exact w_ret (by rfl)
    · apply zOK_ro h
      · simp (disch := omega) only [e_110_0, e_110_11, e_110_20, e_110_37, s_has_2, s_133, s_get_2, Option.bind_some, Int.add_zero, z_wid, or_true, true_or, z_up_fn, z_up_ni, z_up_eq, z_up_qi, z_rw_fn, z_rw_in, z_rw_out, if_pos, if_neg, ↓reduceIte] <;> exact w_ret rfl
      · simp (disch := omega) only [e_207_0, e_207_5, e_207_60, s_152, s_207l1, e_176_0, Option.bind_some, Int.add_zero, z_wid, or_true, true_or, z_up_fn, z_up_ni, z_up_eq, z_up_qi, z_rw_fn, z_rw_in, z_rw_out, if_pos, if_neg, ↓reduceIte] <;> exact w_ret (by rfl)
theorem o_zoneTold (d : Nat) (s : Int → Int) (L : Int) (σ : Nat → Int → Int) (h : zV s L σ) (x y : Int) : zOK s L (d + 9) 111 208 [some (.inl x), some (.inl y)] [some (.inl x), some (.inl y)] σ := by
  have hwP := zV_wP h
  have hP := (zV_P h).1
  have hP1 := (zV_P h).2.1
  have hP2 := (zV_P h).2.2.1
  have hwZ := zV_wZ h
  have hZ := (zV_Z h).1
  have hZ1 := (zV_Z h).2.1
  have hZ2 := (zV_Z h).2.2.1
  by_cases c1 : 0 ≤ x ∧ x < σ 4 3
  · by_cases c2 : 0 ≤ y ∧ y ≤ 3
    · have q := (zV_Z h).2.2.2 x c1.1 (by omega)
      have c3 : y = 0 ∨ y = 1 ∨ y = 2 ∨ y = 3 := by omega
      rcases c3 with c3 | c3 | c3 | c3 <;> subst c3
      · apply zOK_ro h
        · simp (disch := omega) only [e_111_0, e_111_6, e_111_23, s_133, s_get_4, Option.bind_some, Int.add_zero, z_wid, or_true, true_or, z_up_fn, z_up_ni, z_up_eq, z_up_qi, z_rw_fn, z_rw_in, z_rw_out, if_pos, if_neg, ↓reduceIte] <;> exact w_ret rfl
        · simp (disch := omega) only [e_208_0, e_208_5, e_208_14, e_208_42, s_149, s_153, s_169, Option.bind_some, Int.add_zero, z_wid, or_true, true_or, z_up_fn, z_up_ni, z_up_eq, z_up_qi, z_rw_fn, z_rw_in, z_rw_out, if_pos, if_neg, ↓reduceIte] <;> exact w_ret (by omega)
      · apply zOK_ro h
        · simp (disch := omega) only [e_111_0, e_111_6, e_111_23, s_133, s_get_4, Option.bind_some, Int.add_zero, z_wid, or_true, true_or, z_up_fn, z_up_ni, z_up_eq, z_up_qi, z_rw_fn, z_rw_in, z_rw_out, if_pos, if_neg, ↓reduceIte] <;> exact w_ret rfl
        · simp (disch := omega) only [e_208_0, e_208_5, e_208_14, e_208_42, s_149, s_153, s_169, Option.bind_some, Int.add_zero, z_wid, or_true, true_or, z_up_fn, z_up_ni, z_up_eq, z_up_qi, z_rw_fn, z_rw_in, z_rw_out, if_pos, if_neg, ↓reduceIte] <;> exact w_ret (by omega)
      · apply zOK_ro h
        · simp (disch := omega) only [e_111_0, e_111_6, e_111_23, s_133, s_get_4, Option.bind_some, Int.add_zero, z_wid, or_true, true_or, z_up_fn, z_up_ni, z_up_eq, z_up_qi, z_rw_fn, z_rw_in, z_rw_out, if_pos, if_neg, ↓reduceIte] <;> exact w_ret rfl
        · simp (disch := omega) only [e_208_0, e_208_5, e_208_14, e_208_42, s_149, s_153, s_169, Option.bind_some, Int.add_zero, z_wid, or_true, true_or, z_up_fn, z_up_ni, z_up_eq, z_up_qi, z_rw_fn, z_rw_in, z_rw_out, if_pos, if_neg, ↓reduceIte] <;> exact w_ret (by omega)
      · apply zOK_ro h
        · simp (disch := omega) only [e_111_0, e_111_6, e_111_23, s_133, s_get_4, Option.bind_some, Int.add_zero, z_wid, or_true, true_or, z_up_fn, z_up_ni, z_up_eq, z_up_qi, z_rw_fn, z_rw_in, z_rw_out, if_pos, if_neg, ↓reduceIte] <;> exact w_ret rfl
        · simp (disch := omega) only [e_208_0, e_208_5, e_208_14, e_208_42, s_149, s_153, s_169, Option.bind_some, Int.add_zero, z_wid, or_true, true_or, z_up_fn, z_up_ni, z_up_eq, z_up_qi, z_rw_fn, z_rw_in, z_rw_out, if_pos, if_neg, ↓reduceIte] <;> exact w_ret (by omega)
    · apply zOK_ro h
      · simp (disch := omega) only [e_111_0, e_111_6, e_111_23, s_133, s_get_4, Option.bind_some, Int.add_zero, z_wid, or_true, true_or, z_up_fn, z_up_ni, z_up_eq, z_up_qi, z_rw_fn, z_rw_in, z_rw_out, if_pos, if_neg, ↓reduceIte] <;> exact w_ret rfl
      · simp (disch := omega) only [e_208_0, e_208_5, e_208_14, e_208_42, s_149, s_153, s_169, Option.bind_some, Int.add_zero, z_wid, or_true, true_or, z_up_fn, z_up_ni, z_up_eq, z_up_qi, z_rw_fn, z_rw_in, z_rw_out, if_pos, if_neg, ↓reduceIte] <;> exact w_ret (by rfl)
  · by_cases c2 : 0 ≤ y ∧ y ≤ 3
    · apply zOK_ro h
      · simp (disch := omega) only [e_111_0, e_111_6, e_111_23, s_133, s_get_4, Option.bind_some, Int.add_zero, z_wid, or_true, true_or, z_up_fn, z_up_ni, z_up_eq, z_up_qi, z_rw_fn, z_rw_in, z_rw_out, if_pos, if_neg, ↓reduceIte] <;> exact w_ret rfl
      · simp (disch := omega) only [e_208_0, e_208_5, e_208_14, e_208_42, s_149, s_153, s_169, Option.bind_some, Int.add_zero, z_wid, or_true, true_or, z_up_fn, z_up_ni, z_up_eq, z_up_qi, z_rw_fn, z_rw_in, z_rw_out, if_pos, if_neg, ↓reduceIte] <;> exact w_ret (by rfl)
    · apply zOK_ro h
      · simp (disch := omega) only [e_111_0, e_111_6, e_111_23, s_133, s_get_4, Option.bind_some, Int.add_zero, z_wid, or_true, true_or, z_up_fn, z_up_ni, z_up_eq, z_up_qi, z_rw_fn, z_rw_in, z_rw_out, if_pos, if_neg, ↓reduceIte] <;> exact w_ret rfl
      · simp (disch := omega) only [e_208_0, e_208_5, e_208_14, e_208_42, s_149, s_153, s_169, Option.bind_some, Int.add_zero, z_wid, or_true, true_or, z_up_fn, z_up_ni, z_up_eq, z_up_qi, z_rw_fn, z_rw_in, z_rw_out, if_pos, if_neg, ↓reduceIte] <;> exact w_ret (by rfl)
