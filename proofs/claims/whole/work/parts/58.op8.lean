theorem w_ix0 : ([67, 69, 71, 73] : List Nat)[(0 : Int).toNat]? = some 67 := rfl
theorem w_iy0 : ([67, 69, 71, 73] : List Nat)[0]? = some 67 := rfl
theorem w_ix1 : ([67, 69, 71, 73] : List Nat)[(1 : Int).toNat]? = some 69 := rfl
theorem w_iy1 : ([67, 69, 71, 73] : List Nat)[1]? = some 69 := rfl
theorem w_ix2 : ([67, 69, 71, 73] : List Nat)[(2 : Int).toNat]? = some 71 := rfl
theorem w_iy2 : ([67, 69, 71, 73] : List Nat)[2]? = some 71 := rfl
theorem w_ix3 : ([67, 69, 71, 73] : List Nat)[(3 : Int).toNat]? = some 73 := rfl
theorem w_iy3 : ([67, 69, 71, 73] : List Nat)[3]? = some 73 := rfl
theorem o_cell0b (d : Nat) (s : Int → Int) (L : Int) (σ : Nat → Int → Int) (h : zV s L σ) (x2 x3 : Int) (hs : σ 63 1 = 0) : zOK s L (d + 9) 127 226 [some (.inl 0), some (.inl x2), some (.inl x3)] [some (.inl 0), some (.inl x2), some (.inl x3)] σ := by
  have hX := zV_X0 h
  have hX1 := hX.1
  have hX2 := hX.2.1
  have hX3 := hX.2.2.1
  have hX4 := hX.2.2.2.1
  have hX5 := hX.2.2.2.2.1
  have hX6 := hX.2.2.2.2.2.1
  by_cases c1 : -2000 ≤ x3 ∧ x3 ≤ 2000
  · by_cases c2 : 0 ≤ x2
    · by_cases c3 : x2 < σ 63 2
      · apply zOK_mk2
        · simp (disch := first | omega | (simp (disch := omega) only [z_up_fn, z_up_ni, z_up_eq, z_up_qi, z_rw_fn] <;> omega) | fail) only [e_127_0, e_127_4, e_127_25, e_127_17, e_127_32_0, e_127_32_1, e_127_32_2, e_127_32_3, e_127_35, e_127_51_0, e_127_51_1, e_127_51_2, e_127_51_3, e_127_44, e_127_55, e_127_64, e_127_71_0, e_127_71_1, e_127_71_2, e_127_71_3, e_127_76, e_127_81, s_138, s_133, e_77_0_0, e_79_0_0, e_82_0_0, e_82_5_0, e_131_0, e_132_0, w_ix0, w_iy0, Option.bind_some, Int.add_zero, z_wid, or_true, true_or, z_up_fn, z_up_ni, z_up_eq, z_up_qi, z_rw_fn, z_rw_in, z_rw_out, if_pos, if_neg, ↓reduceIte]
          exact w_ret rfl
        · intro k hk
          simp (disch := omega) only [z_up_fn, z_rw_fn]
        · intro τ hτ
          simp (disch := first | omega | (simp (disch := omega) only [hτ] <;> omega) | fail) only [e_226_0, e_226_6, e_226_27, e_226_19, e_226_44, e_226_58, e_226_67, e_226_99, s_149, e_150_0, e_151_0, hτ, Option.bind_some, Int.add_zero, z_wid, or_true, true_or, z_up_fn, z_up_ni, z_up_eq, z_up_qi, z_rw_fn, z_rw_in, z_rw_out, if_pos, if_neg, ↓reduceIte]
          exact w_ret (by omega)
        · obtain ⟨v_sc, v_st, v_mo, v_se, v_ik, v_ba, v_wP, v_wZ, v_wD, v_wS, v_wR, v_wU, v_wO, v_wG, v_wT, v_P, v_Q, v_Z, v_D, v_S, v_R, v_U, v_O, v_G, v_T, v_kl, v_kmo, v_kse, v_kP, v_kQ, v_kZ, v_kD, v_kS, v_kR, v_kU, v_kO, v_kG, v_kT, v_A, v_X0, v_X1, v_X2, v_X3, v_pc, v_pm, v_lc, v_lm⟩ := h
          refine ⟨v_sc, ?_, v_mo, v_se, v_ik, v_ba, v_wP, v_wZ, v_wD, v_wS, v_wR, v_wU, v_wO, v_wG, v_wT, v_P, v_Q, v_Z, v_D, v_S, v_R, v_U, v_O, v_G, v_T, v_kl, v_kmo, v_kse, v_kP, v_kQ, v_kZ, v_kD, v_kS, v_kR, v_kU, v_kO, v_kG, v_kT, v_A, ?_, ?_, ?_, ?_, v_pc, v_pm, v_lc, v_lm⟩
          · rfl
          · clear v_sc v_st v_mo v_se v_ik v_ba v_wP v_wZ v_wD v_wS v_wR v_wU v_wO v_wG v_wT v_P v_Q v_Z v_D v_S v_R v_U v_O v_G v_T v_kl v_kmo v_kse v_kP v_kQ v_kZ v_kD v_kS v_kR v_kU v_kO v_kG v_kT v_A v_X1 v_X2 v_X3 v_pc v_pm v_lc v_lm
            refine ⟨v_X0.1, v_X0.2.1, v_X0.2.2.1, v_X0.2.2.2.1, v_X0.2.2.2.2.1, v_X0.2.2.2.2.2.1, fun j j0 j1 => ?_⟩
            · have q := v_X0.2.2.2.2.2.2 j j0 j1
              by_cases c : j = x2
              · subst c
                simp (disch := omega) only [true_and, and_true, true_or, or_true, Int.add_zero, z_up_fn, z_up_ni, z_up_eq, z_up_qi, z_rw_fn, z_rw_in, z_rw_out, if_pos, if_neg, ↓reduceIte]
                omega
              · simp (disch := omega) only [true_and, and_true, true_or, or_true, Int.add_zero, z_up_fn, z_up_ni, z_up_eq, z_up_qi, z_rw_fn, z_rw_in, z_rw_out, if_pos, if_neg, ↓reduceIte]
                exact q
          · clear v_sc v_st v_mo v_se v_ik v_ba v_wP v_wZ v_wD v_wS v_wR v_wU v_wO v_wG v_wT v_P v_Q v_Z v_D v_S v_R v_U v_O v_G v_T v_kl v_kmo v_kse v_kP v_kQ v_kZ v_kD v_kS v_kR v_kU v_kO v_kG v_kT v_A v_X0 v_X2 v_X3 v_pc v_pm v_lc v_lm
            refine ⟨v_X1.1, v_X1.2.1, v_X1.2.2.1, v_X1.2.2.2.1, v_X1.2.2.2.2.1, v_X1.2.2.2.2.2.1, fun j j0 j1 => ?_⟩
            · have q := v_X1.2.2.2.2.2.2 j j0 j1
              simp (disch := omega) only [true_and, and_true, true_or, or_true, Int.add_zero, z_up_fn, z_up_ni, z_up_eq, z_up_qi, z_rw_fn, z_rw_in, z_rw_out, if_pos, if_neg, ↓reduceIte]
              exact q
          · clear v_sc v_st v_mo v_se v_ik v_ba v_wP v_wZ v_wD v_wS v_wR v_wU v_wO v_wG v_wT v_P v_Q v_Z v_D v_S v_R v_U v_O v_G v_T v_kl v_kmo v_kse v_kP v_kQ v_kZ v_kD v_kS v_kR v_kU v_kO v_kG v_kT v_A v_X0 v_X1 v_X3 v_pc v_pm v_lc v_lm
            refine ⟨v_X2.1, v_X2.2.1, v_X2.2.2.1, v_X2.2.2.2.1, v_X2.2.2.2.2.1, v_X2.2.2.2.2.2.1, fun j j0 j1 => ?_⟩
            · have q := v_X2.2.2.2.2.2.2 j j0 j1
              simp (disch := omega) only [true_and, and_true, true_or, or_true, Int.add_zero, z_up_fn, z_up_ni, z_up_eq, z_up_qi, z_rw_fn, z_rw_in, z_rw_out, if_pos, if_neg, ↓reduceIte]
              exact q
          · clear v_sc v_st v_mo v_se v_ik v_ba v_wP v_wZ v_wD v_wS v_wR v_wU v_wO v_wG v_wT v_P v_Q v_Z v_D v_S v_R v_U v_O v_G v_T v_kl v_kmo v_kse v_kP v_kQ v_kZ v_kD v_kS v_kR v_kU v_kO v_kG v_kT v_A v_X0 v_X1 v_X2 v_pc v_pm v_lc v_lm
            refine ⟨v_X3.1, v_X3.2.1, v_X3.2.2.1, v_X3.2.2.2.1, v_X3.2.2.2.2.1, v_X3.2.2.2.2.2.1, fun j j0 j1 => ?_⟩
            · have q := v_X3.2.2.2.2.2.2 j j0 j1
              simp (disch := omega) only [true_and, and_true, true_or, or_true, Int.add_zero, z_up_fn, z_up_ni, z_up_eq, z_up_qi, z_rw_fn, z_rw_in, z_rw_out, if_pos, if_neg, ↓reduceIte]
              exact q
      · apply zOK_mk2
        · simp (disch := first | omega | (simp (disch := omega) only [z_up_fn, z_up_ni, z_up_eq, z_up_qi, z_rw_fn] <;> omega) | fail) only [e_127_0, e_127_4, e_127_25, e_127_17, e_127_32_0, e_127_32_1, e_127_32_2, e_127_32_3, e_127_35, e_127_51_0, e_127_51_1, e_127_51_2, e_127_51_3, e_127_44, e_127_55, e_127_64, e_127_71_0, e_127_71_1, e_127_71_2, e_127_71_3, e_127_76, e_127_81, s_138, s_133, e_77_0_0, e_79_0_0, e_82_0_0, e_82_5_0, e_131_0, e_132_0, w_ix0, w_iy0, Option.bind_some, Int.add_zero, z_wid, or_true, true_or, z_up_fn, z_up_ni, z_up_eq, z_up_qi, z_rw_fn, z_rw_in, z_rw_out, if_pos, if_neg, ↓reduceIte]
          exact w_ret rfl
        · intro k hk
          simp (disch := omega) only [z_up_fn, z_rw_fn]
        · intro τ hτ
          simp (disch := first | omega | (simp (disch := omega) only [hτ] <;> omega) | fail) only [e_226_0, e_226_6, e_226_27, e_226_19, e_226_44, e_226_58, e_226_67, e_226_99, s_149, e_150_0, e_151_0, hτ, Option.bind_some, Int.add_zero, z_wid, or_true, true_or, z_up_fn, z_up_ni, z_up_eq, z_up_qi, z_rw_fn, z_rw_in, z_rw_out, if_pos, if_neg, ↓reduceIte]
          exact w_ret rfl
        · exact w_ref h 12
    · apply zOK_mk2
      · simp (disch := first | omega | (simp (disch := omega) only [z_up_fn, z_up_ni, z_up_eq, z_up_qi, z_rw_fn] <;> omega) | fail) only [e_127_0, e_127_4, e_127_25, e_127_17, e_127_32_0, e_127_32_1, e_127_32_2, e_127_32_3, e_127_35, e_127_51_0, e_127_51_1, e_127_51_2, e_127_51_3, e_127_44, e_127_55, e_127_64, e_127_71_0, e_127_71_1, e_127_71_2, e_127_71_3, e_127_76, e_127_81, s_138, s_133, e_77_0_0, e_79_0_0, e_82_0_0, e_82_5_0, e_131_0, e_132_0, w_ix0, w_iy0, Option.bind_some, Int.add_zero, z_wid, or_true, true_or, z_up_fn, z_up_ni, z_up_eq, z_up_qi, z_rw_fn, z_rw_in, z_rw_out, if_pos, if_neg, ↓reduceIte]
        exact w_ret rfl
      · intro k hk
        simp (disch := omega) only [z_up_fn, z_rw_fn]
      · intro τ hτ
        simp (disch := first | omega | (simp (disch := omega) only [hτ] <;> omega) | fail) only [e_226_0, e_226_6, e_226_27, e_226_19, e_226_44, e_226_58, e_226_67, e_226_99, s_149, e_150_0, e_151_0, hτ, Option.bind_some, Int.add_zero, z_wid, or_true, true_or, z_up_fn, z_up_ni, z_up_eq, z_up_qi, z_rw_fn, z_rw_in, z_rw_out, if_pos, if_neg, ↓reduceIte]
        exact w_ret rfl
      · exact w_ref h 12
  · apply zOK_mk2
    · simp (disch := first | omega | (simp (disch := omega) only [z_up_fn, z_up_ni, z_up_eq, z_up_qi, z_rw_fn] <;> omega) | fail) only [e_127_0, e_127_4, e_127_25, e_127_17, e_127_32_0, e_127_32_1, e_127_32_2, e_127_32_3, e_127_35, e_127_51_0, e_127_51_1, e_127_51_2, e_127_51_3, e_127_44, e_127_55, e_127_64, e_127_71_0, e_127_71_1, e_127_71_2, e_127_71_3, e_127_76, e_127_81, s_138, s_133, e_77_0_0, e_79_0_0, e_82_0_0, e_82_5_0, e_131_0, e_132_0, w_ix0, w_iy0, Option.bind_some, Int.add_zero, z_wid, or_true, true_or, z_up_fn, z_up_ni, z_up_eq, z_up_qi, z_rw_fn, z_rw_in, z_rw_out, if_pos, if_neg, ↓reduceIte]
      exact w_ret rfl
    · intro k hk
      simp (disch := omega) only [z_up_fn, z_rw_fn]
    · intro τ hτ
      simp (disch := first | omega | (simp (disch := omega) only [hτ] <;> omega) | fail) only [e_226_0, e_226_6, e_226_27, e_226_19, e_226_44, e_226_58, e_226_67, e_226_99, s_149, e_150_0, e_151_0, hτ, Option.bind_some, Int.add_zero, z_wid, or_true, true_or, z_up_fn, z_up_ni, z_up_eq, z_up_qi, z_rw_fn, z_rw_in, z_rw_out, if_pos, if_neg, ↓reduceIte]
      exact w_ret rfl
    · exact w_ref h 1
theorem o_cell0n (d : Nat) (s : Int → Int) (L : Int) (σ : Nat → Int → Int) (h : zV s L σ) (x2 x3 : Int) (hs : ¬ σ 63 1 = 0) : zOK s L (d + 9) 127 226 [some (.inl 0), some (.inl x2), some (.inl x3)] [some (.inl 0), some (.inl x2), some (.inl x3)] σ := by
  have hX := zV_X0 h
  have hX1 := hX.1
  have hX2 := hX.2.1
  have hX3 := hX.2.2.1
  have hX4 := hX.2.2.2.1
  have hX5 := hX.2.2.2.2.1
  have hX6 := hX.2.2.2.2.2.1
  by_cases c1 : -2000 ≤ x3 ∧ x3 ≤ 2000
  · by_cases c2 : ¬ σ 63 1 = -1
    · by_cases c3 : 0 ≤ x2
      · by_cases c4 : x2 < σ 63 2
        · apply zOK_mk2
          · simp (disch := first | omega | (simp (disch := omega) only [z_up_fn, z_up_ni, z_up_eq, z_up_qi, z_rw_fn] <;> omega) | fail) only [e_127_0, e_127_4, e_127_25, e_127_17, e_127_32_0, e_127_32_1, e_127_32_2, e_127_32_3, e_127_35, e_127_51_0, e_127_51_1, e_127_51_2, e_127_51_3, e_127_44, e_127_55, e_127_64, e_127_71_0, e_127_71_1, e_127_71_2, e_127_71_3, e_127_76, e_127_81, s_138, s_133, e_77_0_0, e_79_0_0, e_82_0_0, e_82_5_0, e_131_0, e_132_0, w_ix0, w_iy0, Option.bind_some, Int.add_zero, z_wid, or_true, true_or, z_up_fn, z_up_ni, z_up_eq, z_up_qi, z_rw_fn, z_rw_in, z_rw_out, if_pos, if_neg, ↓reduceIte]
            exact w_ret rfl
          · intro k hk
            simp (disch := omega) only [z_up_fn, z_rw_fn]
          · intro τ hτ
            simp (disch := first | omega | (simp (disch := omega) only [hτ] <;> omega) | fail) only [e_226_0, e_226_6, e_226_27, e_226_19, e_226_44, e_226_58, e_226_67, e_226_99, s_149, e_150_0, e_151_0, hτ, Option.bind_some, Int.add_zero, z_wid, or_true, true_or, z_up_fn, z_up_ni, z_up_eq, z_up_qi, z_rw_fn, z_rw_in, z_rw_out, if_pos, if_neg, ↓reduceIte]
            exact w_ret (by omega)
          · obtain ⟨v_sc, v_st, v_mo, v_se, v_ik, v_ba, v_wP, v_wZ, v_wD, v_wS, v_wR, v_wU, v_wO, v_wG, v_wT, v_P, v_Q, v_Z, v_D, v_S, v_R, v_U, v_O, v_G, v_T, v_kl, v_kmo, v_kse, v_kP, v_kQ, v_kZ, v_kD, v_kS, v_kR, v_kU, v_kO, v_kG, v_kT, v_A, v_X0, v_X1, v_X2, v_X3, v_pc, v_pm, v_lc, v_lm⟩ := h
            refine ⟨v_sc, ?_, v_mo, v_se, v_ik, v_ba, v_wP, v_wZ, v_wD, v_wS, v_wR, v_wU, v_wO, v_wG, v_wT, v_P, v_Q, v_Z, v_D, v_S, v_R, v_U, v_O, v_G, v_T, v_kl, v_kmo, v_kse, v_kP, v_kQ, v_kZ, v_kD, v_kS, v_kR, v_kU, v_kO, v_kG, v_kT, v_A, ?_, ?_, ?_, ?_, v_pc, v_pm, v_lc, v_lm⟩
            · rfl
            · clear v_sc v_st v_mo v_se v_ik v_ba v_wP v_wZ v_wD v_wS v_wR v_wU v_wO v_wG v_wT v_P v_Q v_Z v_D v_S v_R v_U v_O v_G v_T v_kl v_kmo v_kse v_kP v_kQ v_kZ v_kD v_kS v_kR v_kU v_kO v_kG v_kT v_A v_X1 v_X2 v_X3 v_pc v_pm v_lc v_lm
              refine ⟨v_X0.1, v_X0.2.1, v_X0.2.2.1, v_X0.2.2.2.1, v_X0.2.2.2.2.1, v_X0.2.2.2.2.2.1, fun j j0 j1 => ?_⟩
              · have q := v_X0.2.2.2.2.2.2 j j0 j1
                by_cases c : j = x2
                · subst c
                  simp (disch := omega) only [true_and, and_true, true_or, or_true, Int.add_zero, z_up_fn, z_up_ni, z_up_eq, z_up_qi, z_rw_fn, z_rw_in, z_rw_out, if_pos, if_neg, ↓reduceIte]
                  omega
                · simp (disch := omega) only [true_and, and_true, true_or, or_true, Int.add_zero, z_up_fn, z_up_ni, z_up_eq, z_up_qi, z_rw_fn, z_rw_in, z_rw_out, if_pos, if_neg, ↓reduceIte]
                  exact q
            · clear v_sc v_st v_mo v_se v_ik v_ba v_wP v_wZ v_wD v_wS v_wR v_wU v_wO v_wG v_wT v_P v_Q v_Z v_D v_S v_R v_U v_O v_G v_T v_kl v_kmo v_kse v_kP v_kQ v_kZ v_kD v_kS v_kR v_kU v_kO v_kG v_kT v_A v_X0 v_X2 v_X3 v_pc v_pm v_lc v_lm
              refine ⟨v_X1.1, v_X1.2.1, v_X1.2.2.1, v_X1.2.2.2.1, v_X1.2.2.2.2.1, v_X1.2.2.2.2.2.1, fun j j0 j1 => ?_⟩
              · have q := v_X1.2.2.2.2.2.2 j j0 j1
                simp (disch := omega) only [true_and, and_true, true_or, or_true, Int.add_zero, z_up_fn, z_up_ni, z_up_eq, z_up_qi, z_rw_fn, z_rw_in, z_rw_out, if_pos, if_neg, ↓reduceIte]
                exact q
            · clear v_sc v_st v_mo v_se v_ik v_ba v_wP v_wZ v_wD v_wS v_wR v_wU v_wO v_wG v_wT v_P v_Q v_Z v_D v_S v_R v_U v_O v_G v_T v_kl v_kmo v_kse v_kP v_kQ v_kZ v_kD v_kS v_kR v_kU v_kO v_kG v_kT v_A v_X0 v_X1 v_X3 v_pc v_pm v_lc v_lm
              refine ⟨v_X2.1, v_X2.2.1, v_X2.2.2.1, v_X2.2.2.2.1, v_X2.2.2.2.2.1, v_X2.2.2.2.2.2.1, fun j j0 j1 => ?_⟩
              · have q := v_X2.2.2.2.2.2.2 j j0 j1
                simp (disch := omega) only [true_and, and_true, true_or, or_true, Int.add_zero, z_up_fn, z_up_ni, z_up_eq, z_up_qi, z_rw_fn, z_rw_in, z_rw_out, if_pos, if_neg, ↓reduceIte]
                exact q
            · clear v_sc v_st v_mo v_se v_ik v_ba v_wP v_wZ v_wD v_wS v_wR v_wU v_wO v_wG v_wT v_P v_Q v_Z v_D v_S v_R v_U v_O v_G v_T v_kl v_kmo v_kse v_kP v_kQ v_kZ v_kD v_kS v_kR v_kU v_kO v_kG v_kT v_A v_X0 v_X1 v_X2 v_pc v_pm v_lc v_lm
              refine ⟨v_X3.1, v_X3.2.1, v_X3.2.2.1, v_X3.2.2.2.1, v_X3.2.2.2.2.1, v_X3.2.2.2.2.2.1, fun j j0 j1 => ?_⟩
              · have q := v_X3.2.2.2.2.2.2 j j0 j1
                simp (disch := omega) only [true_and, and_true, true_or, or_true, Int.add_zero, z_up_fn, z_up_ni, z_up_eq, z_up_qi, z_rw_fn, z_rw_in, z_rw_out, if_pos, if_neg, ↓reduceIte]
                exact q
        · apply zOK_mk2
          · simp (disch := first | omega | (simp (disch := omega) only [z_up_fn, z_up_ni, z_up_eq, z_up_qi, z_rw_fn] <;> omega) | fail) only [e_127_0, e_127_4, e_127_25, e_127_17, e_127_32_0, e_127_32_1, e_127_32_2, e_127_32_3, e_127_35, e_127_51_0, e_127_51_1, e_127_51_2, e_127_51_3, e_127_44, e_127_55, e_127_64, e_127_71_0, e_127_71_1, e_127_71_2, e_127_71_3, e_127_76, e_127_81, s_138, s_133, e_77_0_0, e_79_0_0, e_82_0_0, e_82_5_0, e_131_0, e_132_0, w_ix0, w_iy0, Option.bind_some, Int.add_zero, z_wid, or_true, true_or, z_up_fn, z_up_ni, z_up_eq, z_up_qi, z_rw_fn, z_rw_in, z_rw_out, if_pos, if_neg, ↓reduceIte]
            exact w_ret rfl
          · intro k hk
            simp (disch := omega) only [z_up_fn, z_rw_fn]
          · intro τ hτ
            simp (disch := first | omega | (simp (disch := omega) only [hτ] <;> omega) | fail) only [e_226_0, e_226_6, e_226_27, e_226_19, e_226_44, e_226_58, e_226_67, e_226_99, s_149, e_150_0, e_151_0, hτ, Option.bind_some, Int.add_zero, z_wid, or_true, true_or, z_up_fn, z_up_ni, z_up_eq, z_up_qi, z_rw_fn, z_rw_in, z_rw_out, if_pos, if_neg, ↓reduceIte]
            exact w_ret rfl
          · exact w_ref h 12
      · apply zOK_mk2
        · simp (disch := first | omega | (simp (disch := omega) only [z_up_fn, z_up_ni, z_up_eq, z_up_qi, z_rw_fn] <;> omega) | fail) only [e_127_0, e_127_4, e_127_25, e_127_17, e_127_32_0, e_127_32_1, e_127_32_2, e_127_32_3, e_127_35, e_127_51_0, e_127_51_1, e_127_51_2, e_127_51_3, e_127_44, e_127_55, e_127_64, e_127_71_0, e_127_71_1, e_127_71_2, e_127_71_3, e_127_76, e_127_81, s_138, s_133, e_77_0_0, e_79_0_0, e_82_0_0, e_82_5_0, e_131_0, e_132_0, w_ix0, w_iy0, Option.bind_some, Int.add_zero, z_wid, or_true, true_or, z_up_fn, z_up_ni, z_up_eq, z_up_qi, z_rw_fn, z_rw_in, z_rw_out, if_pos, if_neg, ↓reduceIte]
          exact w_ret rfl
        · intro k hk
          simp (disch := omega) only [z_up_fn, z_rw_fn]
        · intro τ hτ
          simp (disch := first | omega | (simp (disch := omega) only [hτ] <;> omega) | fail) only [e_226_0, e_226_6, e_226_27, e_226_19, e_226_44, e_226_58, e_226_67, e_226_99, s_149, e_150_0, e_151_0, hτ, Option.bind_some, Int.add_zero, z_wid, or_true, true_or, z_up_fn, z_up_ni, z_up_eq, z_up_qi, z_rw_fn, z_rw_in, z_rw_out, if_pos, if_neg, ↓reduceIte]
          exact w_ret rfl
        · exact w_ref h 12
    · apply zOK_mk2
      · simp (disch := first | omega | (simp (disch := omega) only [z_up_fn, z_up_ni, z_up_eq, z_up_qi, z_rw_fn] <;> omega) | fail) only [e_127_0, e_127_4, e_127_25, e_127_17, e_127_32_0, e_127_32_1, e_127_32_2, e_127_32_3, e_127_35, e_127_51_0, e_127_51_1, e_127_51_2, e_127_51_3, e_127_44, e_127_55, e_127_64, e_127_71_0, e_127_71_1, e_127_71_2, e_127_71_3, e_127_76, e_127_81, s_138, s_133, e_77_0_0, e_79_0_0, e_82_0_0, e_82_5_0, e_131_0, e_132_0, w_ix0, w_iy0, Option.bind_some, Int.add_zero, z_wid, or_true, true_or, z_up_fn, z_up_ni, z_up_eq, z_up_qi, z_rw_fn, z_rw_in, z_rw_out, if_pos, if_neg, ↓reduceIte]
        exact w_ret rfl
      · intro k hk
        simp (disch := omega) only [z_up_fn, z_rw_fn]
      · intro τ hτ
        simp (disch := first | omega | (simp (disch := omega) only [hτ] <;> omega) | fail) only [e_226_0, e_226_6, e_226_27, e_226_19, e_226_44, e_226_58, e_226_67, e_226_99, s_149, e_150_0, e_151_0, hτ, Option.bind_some, Int.add_zero, z_wid, or_true, true_or, z_up_fn, z_up_ni, z_up_eq, z_up_qi, z_rw_fn, z_rw_in, z_rw_out, if_pos, if_neg, ↓reduceIte]
        exact w_ret rfl
      · exact w_ref h 10
  · apply zOK_mk2
    · simp (disch := first | omega | (simp (disch := omega) only [z_up_fn, z_up_ni, z_up_eq, z_up_qi, z_rw_fn] <;> omega) | fail) only [e_127_0, e_127_4, e_127_25, e_127_17, e_127_32_0, e_127_32_1, e_127_32_2, e_127_32_3, e_127_35, e_127_51_0, e_127_51_1, e_127_51_2, e_127_51_3, e_127_44, e_127_55, e_127_64, e_127_71_0, e_127_71_1, e_127_71_2, e_127_71_3, e_127_76, e_127_81, s_138, s_133, e_77_0_0, e_79_0_0, e_82_0_0, e_82_5_0, e_131_0, e_132_0, w_ix0, w_iy0, Option.bind_some, Int.add_zero, z_wid, or_true, true_or, z_up_fn, z_up_ni, z_up_eq, z_up_qi, z_rw_fn, z_rw_in, z_rw_out, if_pos, if_neg, ↓reduceIte]
      exact w_ret rfl
    · intro k hk
      simp (disch := omega) only [z_up_fn, z_rw_fn]
    · intro τ hτ
      simp (disch := first | omega | (simp (disch := omega) only [hτ] <;> omega) | fail) only [e_226_0, e_226_6, e_226_27, e_226_19, e_226_44, e_226_58, e_226_67, e_226_99, s_149, e_150_0, e_151_0, hτ, Option.bind_some, Int.add_zero, z_wid, or_true, true_or, z_up_fn, z_up_ni, z_up_eq, z_up_qi, z_rw_fn, z_rw_in, z_rw_out, if_pos, if_neg, ↓reduceIte]
      exact w_ret rfl
    · exact w_ref h 1
theorem o_cell1b (d : Nat) (s : Int → Int) (L : Int) (σ : Nat → Int → Int) (h : zV s L σ) (x2 x3 : Int) (hs : σ 65 1 = 0) : zOK s L (d + 9) 127 226 [some (.inl 1), some (.inl x2), some (.inl x3)] [some (.inl 1), some (.inl x2), some (.inl x3)] σ := by
  have hX := zV_X1 h
  have hX1 := hX.1
  have hX2 := hX.2.1
  have hX3 := hX.2.2.1
  have hX4 := hX.2.2.2.1
  have hX5 := hX.2.2.2.2.1
  have hX6 := hX.2.2.2.2.2.1
  by_cases c1 : -2000 ≤ x3 ∧ x3 ≤ 2000
  · by_cases c2 : 0 ≤ x2
    · by_cases c3 : x2 < σ 65 2
      · apply zOK_mk2
        · simp (disch := first | omega | (simp (disch := omega) only [z_up_fn, z_up_ni, z_up_eq, z_up_qi, z_rw_fn] <;> omega) | fail) only [e_127_0, e_127_4, e_127_25, e_127_17, e_127_32_0, e_127_32_1, e_127_32_2, e_127_32_3, e_127_35, e_127_51_0, e_127_51_1, e_127_51_2, e_127_51_3, e_127_44, e_127_55, e_127_64, e_127_71_0, e_127_71_1, e_127_71_2, e_127_71_3, e_127_76, e_127_81, s_138, s_133, e_77_0_1, e_79_0_1, e_82_0_1, e_82_5_1, e_131_0, e_132_0, w_ix1, w_iy1, Option.bind_some, Int.add_zero, z_wid, or_true, true_or, z_up_fn, z_up_ni, z_up_eq, z_up_qi, z_rw_fn, z_rw_in, z_rw_out, if_pos, if_neg, ↓reduceIte]
          exact w_ret rfl
        · intro k hk
          simp (disch := omega) only [z_up_fn, z_rw_fn]
        · intro τ hτ
          simp (disch := first | omega | (simp (disch := omega) only [hτ] <;> omega) | fail) only [e_226_0, e_226_6, e_226_27, e_226_19, e_226_44, e_226_58, e_226_67, e_226_99, s_149, e_150_0, e_151_0, hτ, Option.bind_some, Int.add_zero, z_wid, or_true, true_or, z_up_fn, z_up_ni, z_up_eq, z_up_qi, z_rw_fn, z_rw_in, z_rw_out, if_pos, if_neg, ↓reduceIte]
          exact w_ret (by omega)
        · obtain ⟨v_sc, v_st, v_mo, v_se, v_ik, v_ba, v_wP, v_wZ, v_wD, v_wS, v_wR, v_wU, v_wO, v_wG, v_wT, v_P, v_Q, v_Z, v_D, v_S, v_R, v_U, v_O, v_G, v_T, v_kl, v_kmo, v_kse, v_kP, v_kQ, v_kZ, v_kD, v_kS, v_kR, v_kU, v_kO, v_kG, v_kT, v_A, v_X0, v_X1, v_X2, v_X3, v_pc, v_pm, v_lc, v_lm⟩ := h
          refine ⟨v_sc, ?_, v_mo, v_se, v_ik, v_ba, v_wP, v_wZ, v_wD, v_wS, v_wR, v_wU, v_wO, v_wG, v_wT, v_P, v_Q, v_Z, v_D, v_S, v_R, v_U, v_O, v_G, v_T, v_kl, v_kmo, v_kse, v_kP, v_kQ, v_kZ, v_kD, v_kS, v_kR, v_kU, v_kO, v_kG, v_kT, v_A, ?_, ?_, ?_, ?_, v_pc, v_pm, v_lc, v_lm⟩
          · rfl
          · clear v_sc v_st v_mo v_se v_ik v_ba v_wP v_wZ v_wD v_wS v_wR v_wU v_wO v_wG v_wT v_P v_Q v_Z v_D v_S v_R v_U v_O v_G v_T v_kl v_kmo v_kse v_kP v_kQ v_kZ v_kD v_kS v_kR v_kU v_kO v_kG v_kT v_A v_X1 v_X2 v_X3 v_pc v_pm v_lc v_lm
            refine ⟨v_X0.1, v_X0.2.1, v_X0.2.2.1, v_X0.2.2.2.1, v_X0.2.2.2.2.1, v_X0.2.2.2.2.2.1, fun j j0 j1 => ?_⟩
            · have q := v_X0.2.2.2.2.2.2 j j0 j1
              simp (disch := omega) only [true_and, and_true, true_or, or_true, Int.add_zero, z_up_fn, z_up_ni, z_up_eq, z_up_qi, z_rw_fn, z_rw_in, z_rw_out, if_pos, if_neg, ↓reduceIte]
              exact q
          · clear v_sc v_st v_mo v_se v_ik v_ba v_wP v_wZ v_wD v_wS v_wR v_wU v_wO v_wG v_wT v_P v_Q v_Z v_D v_S v_R v_U v_O v_G v_T v_kl v_kmo v_kse v_kP v_kQ v_kZ v_kD v_kS v_kR v_kU v_kO v_kG v_kT v_A v_X0 v_X2 v_X3 v_pc v_pm v_lc v_lm
            refine ⟨v_X1.1, v_X1.2.1, v_X1.2.2.1, v_X1.2.2.2.1, v_X1.2.2.2.2.1, v_X1.2.2.2.2.2.1, fun j j0 j1 => ?_⟩
            · have q := v_X1.2.2.2.2.2.2 j j0 j1
              by_cases c : j = x2
              · subst c
                simp (disch := omega) only [true_and, and_true, true_or, or_true, Int.add_zero, z_up_fn, z_up_ni, z_up_eq, z_up_qi, z_rw_fn, z_rw_in, z_rw_out, if_pos, if_neg, ↓reduceIte]
                omega
              · simp (disch := omega) only [true_and, and_true, true_or, or_true, Int.add_zero, z_up_fn, z_up_ni, z_up_eq, z_up_qi, z_rw_fn, z_rw_in, z_rw_out, if_pos, if_neg, ↓reduceIte]
                exact q
          · clear v_sc v_st v_mo v_se v_ik v_ba v_wP v_wZ v_wD v_wS v_wR v_wU v_wO v_wG v_wT v_P v_Q v_Z v_D v_S v_R v_U v_O v_G v_T v_kl v_kmo v_kse v_kP v_kQ v_kZ v_kD v_kS v_kR v_kU v_kO v_kG v_kT v_A v_X0 v_X1 v_X3 v_pc v_pm v_lc v_lm
            refine ⟨v_X2.1, v_X2.2.1, v_X2.2.2.1, v_X2.2.2.2.1, v_X2.2.2.2.2.1, v_X2.2.2.2.2.2.1, fun j j0 j1 => ?_⟩
            · have q := v_X2.2.2.2.2.2.2 j j0 j1
              simp (disch := omega) only [true_and, and_true, true_or, or_true, Int.add_zero, z_up_fn, z_up_ni, z_up_eq, z_up_qi, z_rw_fn, z_rw_in, z_rw_out, if_pos, if_neg, ↓reduceIte]
              exact q
          · clear v_sc v_st v_mo v_se v_ik v_ba v_wP v_wZ v_wD v_wS v_wR v_wU v_wO v_wG v_wT v_P v_Q v_Z v_D v_S v_R v_U v_O v_G v_T v_kl v_kmo v_kse v_kP v_kQ v_kZ v_kD v_kS v_kR v_kU v_kO v_kG v_kT v_A v_X0 v_X1 v_X2 v_pc v_pm v_lc v_lm
            refine ⟨v_X3.1, v_X3.2.1, v_X3.2.2.1, v_X3.2.2.2.1, v_X3.2.2.2.2.1, v_X3.2.2.2.2.2.1, fun j j0 j1 => ?_⟩
            · have q := v_X3.2.2.2.2.2.2 j j0 j1
              simp (disch := omega) only [true_and, and_true, true_or, or_true, Int.add_zero, z_up_fn, z_up_ni, z_up_eq, z_up_qi, z_rw_fn, z_rw_in, z_rw_out, if_pos, if_neg, ↓reduceIte]
              exact q
      · apply zOK_mk2
        · simp (disch := first | omega | (simp (disch := omega) only [z_up_fn, z_up_ni, z_up_eq, z_up_qi, z_rw_fn] <;> omega) | fail) only [e_127_0, e_127_4, e_127_25, e_127_17, e_127_32_0, e_127_32_1, e_127_32_2, e_127_32_3, e_127_35, e_127_51_0, e_127_51_1, e_127_51_2, e_127_51_3, e_127_44, e_127_55, e_127_64, e_127_71_0, e_127_71_1, e_127_71_2, e_127_71_3, e_127_76, e_127_81, s_138, s_133, e_77_0_1, e_79_0_1, e_82_0_1, e_82_5_1, e_131_0, e_132_0, w_ix1, w_iy1, Option.bind_some, Int.add_zero, z_wid, or_true, true_or, z_up_fn, z_up_ni, z_up_eq, z_up_qi, z_rw_fn, z_rw_in, z_rw_out, if_pos, if_neg, ↓reduceIte]
          exact w_ret rfl
        · intro k hk
          simp (disch := omega) only [z_up_fn, z_rw_fn]
        · intro τ hτ
          simp (disch := first | omega | (simp (disch := omega) only [hτ] <;> omega) | fail) only [e_226_0, e_226_6, e_226_27, e_226_19, e_226_44, e_226_58, e_226_67, e_226_99, s_149, e_150_0, e_151_0, hτ, Option.bind_some, Int.add_zero, z_wid, or_true, true_or, z_up_fn, z_up_ni, z_up_eq, z_up_qi, z_rw_fn, z_rw_in, z_rw_out, if_pos, if_neg, ↓reduceIte]
          exact w_ret rfl
        · exact w_ref h 12
    · apply zOK_mk2
      · simp (disch := first | omega | (simp (disch := omega) only [z_up_fn, z_up_ni, z_up_eq, z_up_qi, z_rw_fn] <;> omega) | fail) only [e_127_0, e_127_4, e_127_25, e_127_17, e_127_32_0, e_127_32_1, e_127_32_2, e_127_32_3, e_127_35, e_127_51_0, e_127_51_1, e_127_51_2, e_127_51_3, e_127_44, e_127_55, e_127_64, e_127_71_0, e_127_71_1, e_127_71_2, e_127_71_3, e_127_76, e_127_81, s_138, s_133, e_77_0_1, e_79_0_1, e_82_0_1, e_82_5_1, e_131_0, e_132_0, w_ix1, w_iy1, Option.bind_some, Int.add_zero, z_wid, or_true, true_or, z_up_fn, z_up_ni, z_up_eq, z_up_qi, z_rw_fn, z_rw_in, z_rw_out, if_pos, if_neg, ↓reduceIte]
        exact w_ret rfl
      · intro k hk
        simp (disch := omega) only [z_up_fn, z_rw_fn]
      · intro τ hτ
        simp (disch := first | omega | (simp (disch := omega) only [hτ] <;> omega) | fail) only [e_226_0, e_226_6, e_226_27, e_226_19, e_226_44, e_226_58, e_226_67, e_226_99, s_149, e_150_0, e_151_0, hτ, Option.bind_some, Int.add_zero, z_wid, or_true, true_or, z_up_fn, z_up_ni, z_up_eq, z_up_qi, z_rw_fn, z_rw_in, z_rw_out, if_pos, if_neg, ↓reduceIte]
        exact w_ret rfl
      · exact w_ref h 12
  · apply zOK_mk2
    · simp (disch := first | omega | (simp (disch := omega) only [z_up_fn, z_up_ni, z_up_eq, z_up_qi, z_rw_fn] <;> omega) | fail) only [e_127_0, e_127_4, e_127_25, e_127_17, e_127_32_0, e_127_32_1, e_127_32_2, e_127_32_3, e_127_35, e_127_51_0, e_127_51_1, e_127_51_2, e_127_51_3, e_127_44, e_127_55, e_127_64, e_127_71_0, e_127_71_1, e_127_71_2, e_127_71_3, e_127_76, e_127_81, s_138, s_133, e_77_0_1, e_79_0_1, e_82_0_1, e_82_5_1, e_131_0, e_132_0, w_ix1, w_iy1, Option.bind_some, Int.add_zero, z_wid, or_true, true_or, z_up_fn, z_up_ni, z_up_eq, z_up_qi, z_rw_fn, z_rw_in, z_rw_out, if_pos, if_neg, ↓reduceIte]
      exact w_ret rfl
    · intro k hk
      simp (disch := omega) only [z_up_fn, z_rw_fn]
    · intro τ hτ
      simp (disch := first | omega | (simp (disch := omega) only [hτ] <;> omega) | fail) only [e_226_0, e_226_6, e_226_27, e_226_19, e_226_44, e_226_58, e_226_67, e_226_99, s_149, e_150_0, e_151_0, hτ, Option.bind_some, Int.add_zero, z_wid, or_true, true_or, z_up_fn, z_up_ni, z_up_eq, z_up_qi, z_rw_fn, z_rw_in, z_rw_out, if_pos, if_neg, ↓reduceIte]
      exact w_ret rfl
    · exact w_ref h 1
theorem o_cell1n (d : Nat) (s : Int → Int) (L : Int) (σ : Nat → Int → Int) (h : zV s L σ) (x2 x3 : Int) (hs : ¬ σ 65 1 = 0) : zOK s L (d + 9) 127 226 [some (.inl 1), some (.inl x2), some (.inl x3)] [some (.inl 1), some (.inl x2), some (.inl x3)] σ := by
  have hX := zV_X1 h
  have hX1 := hX.1
  have hX2 := hX.2.1
  have hX3 := hX.2.2.1
  have hX4 := hX.2.2.2.1
  have hX5 := hX.2.2.2.2.1
  have hX6 := hX.2.2.2.2.2.1
  by_cases c1 : -2000 ≤ x3 ∧ x3 ≤ 2000
  · by_cases c2 : ¬ σ 65 1 = -1
    · by_cases c3 : 0 ≤ x2
      · by_cases c4 : x2 < σ 65 2
        · apply zOK_mk2
          · simp (disch := first | omega | (simp (disch := omega) only [z_up_fn, z_up_ni, z_up_eq, z_up_qi, z_rw_fn] <;> omega) | fail) only [e_127_0, e_127_4, e_127_25, e_127_17, e_127_32_0, e_127_32_1, e_127_32_2, e_127_32_3, e_127_35, e_127_51_0, e_127_51_1, e_127_51_2, e_127_51_3, e_127_44, e_127_55, e_127_64, e_127_71_0, e_127_71_1, e_127_71_2, e_127_71_3, e_127_76, e_127_81, s_138, s_133, e_77_0_1, e_79_0_1, e_82_0_1, e_82_5_1, e_131_0, e_132_0, w_ix1, w_iy1, Option.bind_some, Int.add_zero, z_wid, or_true, true_or, z_up_fn, z_up_ni, z_up_eq, z_up_qi, z_rw_fn, z_rw_in, z_rw_out, if_pos, if_neg, ↓reduceIte]
            exact w_ret rfl
          · intro k hk
            simp (disch := omega) only [z_up_fn, z_rw_fn]
          · intro τ hτ
            simp (disch := first | omega | (simp (disch := omega) only [hτ] <;> omega) | fail) only [e_226_0, e_226_6, e_226_27, e_226_19, e_226_44, e_226_58, e_226_67, e_226_99, s_149, e_150_0, e_151_0, hτ, Option.bind_some, Int.add_zero, z_wid, or_true, true_or, z_up_fn, z_up_ni, z_up_eq, z_up_qi, z_rw_fn, z_rw_in, z_rw_out, if_pos, if_neg, ↓reduceIte]
            exact w_ret (by omega)
          · obtain ⟨v_sc, v_st, v_mo, v_se, v_ik, v_ba, v_wP, v_wZ, v_wD, v_wS, v_wR, v_wU, v_wO, v_wG, v_wT, v_P, v_Q, v_Z, v_D, v_S, v_R, v_U, v_O, v_G, v_T, v_kl, v_kmo, v_kse, v_kP, v_kQ, v_kZ, v_kD, v_kS, v_kR, v_kU, v_kO, v_kG, v_kT, v_A, v_X0, v_X1, v_X2, v_X3, v_pc, v_pm, v_lc, v_lm⟩ := h
            refine ⟨v_sc, ?_, v_mo, v_se, v_ik, v_ba, v_wP, v_wZ, v_wD, v_wS, v_wR, v_wU, v_wO, v_wG, v_wT, v_P, v_Q, v_Z, v_D, v_S, v_R, v_U, v_O, v_G, v_T, v_kl, v_kmo, v_kse, v_kP, v_kQ, v_kZ, v_kD, v_kS, v_kR, v_kU, v_kO, v_kG, v_kT, v_A, ?_, ?_, ?_, ?_, v_pc, v_pm, v_lc, v_lm⟩
            · rfl
            · clear v_sc v_st v_mo v_se v_ik v_ba v_wP v_wZ v_wD v_wS v_wR v_wU v_wO v_wG v_wT v_P v_Q v_Z v_D v_S v_R v_U v_O v_G v_T v_kl v_kmo v_kse v_kP v_kQ v_kZ v_kD v_kS v_kR v_kU v_kO v_kG v_kT v_A v_X1 v_X2 v_X3 v_pc v_pm v_lc v_lm
              refine ⟨v_X0.1, v_X0.2.1, v_X0.2.2.1, v_X0.2.2.2.1, v_X0.2.2.2.2.1, v_X0.2.2.2.2.2.1, fun j j0 j1 => ?_⟩
              · have q := v_X0.2.2.2.2.2.2 j j0 j1
                simp (disch := omega) only [true_and, and_true, true_or, or_true, Int.add_zero, z_up_fn, z_up_ni, z_up_eq, z_up_qi, z_rw_fn, z_rw_in, z_rw_out, if_pos, if_neg, ↓reduceIte]
                exact q
            · clear v_sc v_st v_mo v_se v_ik v_ba v_wP v_wZ v_wD v_wS v_wR v_wU v_wO v_wG v_wT v_P v_Q v_Z v_D v_S v_R v_U v_O v_G v_T v_kl v_kmo v_kse v_kP v_kQ v_kZ v_kD v_kS v_kR v_kU v_kO v_kG v_kT v_A v_X0 v_X2 v_X3 v_pc v_pm v_lc v_lm
              refine ⟨v_X1.1, v_X1.2.1, v_X1.2.2.1, v_X1.2.2.2.1, v_X1.2.2.2.2.1, v_X1.2.2.2.2.2.1, fun j j0 j1 => ?_⟩
              · have q := v_X1.2.2.2.2.2.2 j j0 j1
                by_cases c : j = x2
                · subst c
                  simp (disch := omega) only [true_and, and_true, true_or, or_true, Int.add_zero, z_up_fn, z_up_ni, z_up_eq, z_up_qi, z_rw_fn, z_rw_in, z_rw_out, if_pos, if_neg, ↓reduceIte]
                  omega
                · simp (disch := omega) only [true_and, and_true, true_or, or_true, Int.add_zero, z_up_fn, z_up_ni, z_up_eq, z_up_qi, z_rw_fn, z_rw_in, z_rw_out, if_pos, if_neg, ↓reduceIte]
                  exact q
            · clear v_sc v_st v_mo v_se v_ik v_ba v_wP v_wZ v_wD v_wS v_wR v_wU v_wO v_wG v_wT v_P v_Q v_Z v_D v_S v_R v_U v_O v_G v_T v_kl v_kmo v_kse v_kP v_kQ v_kZ v_kD v_kS v_kR v_kU v_kO v_kG v_kT v_A v_X0 v_X1 v_X3 v_pc v_pm v_lc v_lm
              refine ⟨v_X2.1, v_X2.2.1, v_X2.2.2.1, v_X2.2.2.2.1, v_X2.2.2.2.2.1, v_X2.2.2.2.2.2.1, fun j j0 j1 => ?_⟩
              · have q := v_X2.2.2.2.2.2.2 j j0 j1
                simp (disch := omega) only [true_and, and_true, true_or, or_true, Int.add_zero, z_up_fn, z_up_ni, z_up_eq, z_up_qi, z_rw_fn, z_rw_in, z_rw_out, if_pos, if_neg, ↓reduceIte]
                exact q
            · clear v_sc v_st v_mo v_se v_ik v_ba v_wP v_wZ v_wD v_wS v_wR v_wU v_wO v_wG v_wT v_P v_Q v_Z v_D v_S v_R v_U v_O v_G v_T v_kl v_kmo v_kse v_kP v_kQ v_kZ v_kD v_kS v_kR v_kU v_kO v_kG v_kT v_A v_X0 v_X1 v_X2 v_pc v_pm v_lc v_lm
              refine ⟨v_X3.1, v_X3.2.1, v_X3.2.2.1, v_X3.2.2.2.1, v_X3.2.2.2.2.1, v_X3.2.2.2.2.2.1, fun j j0 j1 => ?_⟩
              · have q := v_X3.2.2.2.2.2.2 j j0 j1
                simp (disch := omega) only [true_and, and_true, true_or, or_true, Int.add_zero, z_up_fn, z_up_ni, z_up_eq, z_up_qi, z_rw_fn, z_rw_in, z_rw_out, if_pos, if_neg, ↓reduceIte]
                exact q
        · apply zOK_mk2
          · simp (disch := first | omega | (simp (disch := omega) only [z_up_fn, z_up_ni, z_up_eq, z_up_qi, z_rw_fn] <;> omega) | fail) only [e_127_0, e_127_4, e_127_25, e_127_17, e_127_32_0, e_127_32_1, e_127_32_2, e_127_32_3, e_127_35, e_127_51_0, e_127_51_1, e_127_51_2, e_127_51_3, e_127_44, e_127_55, e_127_64, e_127_71_0, e_127_71_1, e_127_71_2, e_127_71_3, e_127_76, e_127_81, s_138, s_133, e_77_0_1, e_79_0_1, e_82_0_1, e_82_5_1, e_131_0, e_132_0, w_ix1, w_iy1, Option.bind_some, Int.add_zero, z_wid, or_true, true_or, z_up_fn, z_up_ni, z_up_eq, z_up_qi, z_rw_fn, z_rw_in, z_rw_out, if_pos, if_neg, ↓reduceIte]
            exact w_ret rfl
          · intro k hk
            simp (disch := omega) only [z_up_fn, z_rw_fn]
          · intro τ hτ
            simp (disch := first | omega | (simp (disch := omega) only [hτ] <;> omega) | fail) only [e_226_0, e_226_6, e_226_27, e_226_19, e_226_44, e_226_58, e_226_67, e_226_99, s_149, e_150_0, e_151_0, hτ, Option.bind_some, Int.add_zero, z_wid, or_true, true_or, z_up_fn, z_up_ni, z_up_eq, z_up_qi, z_rw_fn, z_rw_in, z_rw_out, if_pos, if_neg, ↓reduceIte]
            exact w_ret rfl
          · exact w_ref h 12
      · apply zOK_mk2
        · simp (disch := first | omega | (simp (disch := omega) only [z_up_fn, z_up_ni, z_up_eq, z_up_qi, z_rw_fn] <;> omega) | fail) only [e_127_0, e_127_4, e_127_25, e_127_17, e_127_32_0, e_127_32_1, e_127_32_2, e_127_32_3, e_127_35, e_127_51_0, e_127_51_1, e_127_51_2, e_127_51_3, e_127_44, e_127_55, e_127_64, e_127_71_0, e_127_71_1, e_127_71_2, e_127_71_3, e_127_76, e_127_81, s_138, s_133, e_77_0_1, e_79_0_1, e_82_0_1, e_82_5_1, e_131_0, e_132_0, w_ix1, w_iy1, Option.bind_some, Int.add_zero, z_wid, or_true, true_or, z_up_fn, z_up_ni, z_up_eq, z_up_qi, z_rw_fn, z_rw_in, z_rw_out, if_pos, if_neg, ↓reduceIte]
          exact w_ret rfl
        · intro k hk
          simp (disch := omega) only [z_up_fn, z_rw_fn]
        · intro τ hτ
          simp (disch := first | omega | (simp (disch := omega) only [hτ] <;> omega) | fail) only [e_226_0, e_226_6, e_226_27, e_226_19, e_226_44, e_226_58, e_226_67, e_226_99, s_149, e_150_0, e_151_0, hτ, Option.bind_some, Int.add_zero, z_wid, or_true, true_or, z_up_fn, z_up_ni, z_up_eq, z_up_qi, z_rw_fn, z_rw_in, z_rw_out, if_pos, if_neg, ↓reduceIte]
          exact w_ret rfl
        · exact w_ref h 12
    · apply zOK_mk2
      · simp (disch := first | omega | (simp (disch := omega) only [z_up_fn, z_up_ni, z_up_eq, z_up_qi, z_rw_fn] <;> omega) | fail) only [e_127_0, e_127_4, e_127_25, e_127_17, e_127_32_0, e_127_32_1, e_127_32_2, e_127_32_3, e_127_35, e_127_51_0, e_127_51_1, e_127_51_2, e_127_51_3, e_127_44, e_127_55, e_127_64, e_127_71_0, e_127_71_1, e_127_71_2, e_127_71_3, e_127_76, e_127_81, s_138, s_133, e_77_0_1, e_79_0_1, e_82_0_1, e_82_5_1, e_131_0, e_132_0, w_ix1, w_iy1, Option.bind_some, Int.add_zero, z_wid, or_true, true_or, z_up_fn, z_up_ni, z_up_eq, z_up_qi, z_rw_fn, z_rw_in, z_rw_out, if_pos, if_neg, ↓reduceIte]
        exact w_ret rfl
      · intro k hk
        simp (disch := omega) only [z_up_fn, z_rw_fn]
      · intro τ hτ
        simp (disch := first | omega | (simp (disch := omega) only [hτ] <;> omega) | fail) only [e_226_0, e_226_6, e_226_27, e_226_19, e_226_44, e_226_58, e_226_67, e_226_99, s_149, e_150_0, e_151_0, hτ, Option.bind_some, Int.add_zero, z_wid, or_true, true_or, z_up_fn, z_up_ni, z_up_eq, z_up_qi, z_rw_fn, z_rw_in, z_rw_out, if_pos, if_neg, ↓reduceIte]
        exact w_ret rfl
      · exact w_ref h 10
  · apply zOK_mk2
    · simp (disch := first | omega | (simp (disch := omega) only [z_up_fn, z_up_ni, z_up_eq, z_up_qi, z_rw_fn] <;> omega) | fail) only [e_127_0, e_127_4, e_127_25, e_127_17, e_127_32_0, e_127_32_1, e_127_32_2, e_127_32_3, e_127_35, e_127_51_0, e_127_51_1, e_127_51_2, e_127_51_3, e_127_44, e_127_55, e_127_64, e_127_71_0, e_127_71_1, e_127_71_2, e_127_71_3, e_127_76, e_127_81, s_138, s_133, e_77_0_1, e_79_0_1, e_82_0_1, e_82_5_1, e_131_0, e_132_0, w_ix1, w_iy1, Option.bind_some, Int.add_zero, z_wid, or_true, true_or, z_up_fn, z_up_ni, z_up_eq, z_up_qi, z_rw_fn, z_rw_in, z_rw_out, if_pos, if_neg, ↓reduceIte]
      exact w_ret rfl
    · intro k hk
      simp (disch := omega) only [z_up_fn, z_rw_fn]
    · intro τ hτ
      simp (disch := first | omega | (simp (disch := omega) only [hτ] <;> omega) | fail) only [e_226_0, e_226_6, e_226_27, e_226_19, e_226_44, e_226_58, e_226_67, e_226_99, s_149, e_150_0, e_151_0, hτ, Option.bind_some, Int.add_zero, z_wid, or_true, true_or, z_up_fn, z_up_ni, z_up_eq, z_up_qi, z_rw_fn, z_rw_in, z_rw_out, if_pos, if_neg, ↓reduceIte]
      exact w_ret rfl
    · exact w_ref h 1
theorem o_cell2b (d : Nat) (s : Int → Int) (L : Int) (σ : Nat → Int → Int) (h : zV s L σ) (x2 x3 : Int) (hs : σ 67 1 = 0) : zOK s L (d + 9) 127 226 [some (.inl 2), some (.inl x2), some (.inl x3)] [some (.inl 2), some (.inl x2), some (.inl x3)] σ := by
  have hX := zV_X2 h
  have hX1 := hX.1
  have hX2 := hX.2.1
  have hX3 := hX.2.2.1
  have hX4 := hX.2.2.2.1
  have hX5 := hX.2.2.2.2.1
  have hX6 := hX.2.2.2.2.2.1
  by_cases c1 : -2000 ≤ x3 ∧ x3 ≤ 2000
  · by_cases c2 : 0 ≤ x2
    · by_cases c3 : x2 < σ 67 2
      · apply zOK_mk2
        · simp (disch := first | omega | (simp (disch := omega) only [z_up_fn, z_up_ni, z_up_eq, z_up_qi, z_rw_fn] <;> omega) | fail) only [e_127_0, e_127_4, e_127_25, e_127_17, e_127_32_0, e_127_32_1, e_127_32_2, e_127_32_3, e_127_35, e_127_51_0, e_127_51_1, e_127_51_2, e_127_51_3, e_127_44, e_127_55, e_127_64, e_127_71_0, e_127_71_1, e_127_71_2, e_127_71_3, e_127_76, e_127_81, s_138, s_133, e_77_0_2, e_79_0_2, e_82_0_2, e_82_5_2, e_131_0, e_132_0, w_ix2, w_iy2, Option.bind_some, Int.add_zero, z_wid, or_true, true_or, z_up_fn, z_up_ni, z_up_eq, z_up_qi, z_rw_fn, z_rw_in, z_rw_out, if_pos, if_neg, ↓reduceIte]
          exact w_ret rfl
        · intro k hk
          simp (disch := omega) only [z_up_fn, z_rw_fn]
        · intro τ hτ
          simp (disch := first | omega | (simp (disch := omega) only [hτ] <;> omega) | fail) only [e_226_0, e_226_6, e_226_27, e_226_19, e_226_44, e_226_58, e_226_67, e_226_99, s_149, e_150_0, e_151_0, hτ, Option.bind_some, Int.add_zero, z_wid, or_true, true_or, z_up_fn, z_up_ni, z_up_eq, z_up_qi, z_rw_fn, z_rw_in, z_rw_out, if_pos, if_neg, ↓reduceIte]
          exact w_ret (by omega)
        · obtain ⟨v_sc, v_st, v_mo, v_se, v_ik, v_ba, v_wP, v_wZ, v_wD, v_wS, v_wR, v_wU, v_wO, v_wG, v_wT, v_P, v_Q, v_Z, v_D, v_S, v_R, v_U, v_O, v_G, v_T, v_kl, v_kmo, v_kse, v_kP, v_kQ, v_kZ, v_kD, v_kS, v_kR, v_kU, v_kO, v_kG, v_kT, v_A, v_X0, v_X1, v_X2, v_X3, v_pc, v_pm, v_lc, v_lm⟩ := h
          refine ⟨v_sc, ?_, v_mo, v_se, v_ik, v_ba, v_wP, v_wZ, v_wD, v_wS, v_wR, v_wU, v_wO, v_wG, v_wT, v_P, v_Q, v_Z, v_D, v_S, v_R, v_U, v_O, v_G, v_T, v_kl, v_kmo, v_kse, v_kP, v_kQ, v_kZ, v_kD, v_kS, v_kR, v_kU, v_kO, v_kG, v_kT, v_A, ?_, ?_, ?_, ?_, v_pc, v_pm, v_lc, v_lm⟩
          · rfl
          · clear v_sc v_st v_mo v_se v_ik v_ba v_wP v_wZ v_wD v_wS v_wR v_wU v_wO v_wG v_wT v_P v_Q v_Z v_D v_S v_R v_U v_O v_G v_T v_kl v_kmo v_kse v_kP v_kQ v_kZ v_kD v_kS v_kR v_kU v_kO v_kG v_kT v_A v_X1 v_X2 v_X3 v_pc v_pm v_lc v_lm
            refine ⟨v_X0.1, v_X0.2.1, v_X0.2.2.1, v_X0.2.2.2.1, v_X0.2.2.2.2.1, v_X0.2.2.2.2.2.1, fun j j0 j1 => ?_⟩
            · have q := v_X0.2.2.2.2.2.2 j j0 j1
              simp (disch := omega) only [true_and, and_true, true_or, or_true, Int.add_zero, z_up_fn, z_up_ni, z_up_eq, z_up_qi, z_rw_fn, z_rw_in, z_rw_out, if_pos, if_neg, ↓reduceIte]
              exact q
          · clear v_sc v_st v_mo v_se v_ik v_ba v_wP v_wZ v_wD v_wS v_wR v_wU v_wO v_wG v_wT v_P v_Q v_Z v_D v_S v_R v_U v_O v_G v_T v_kl v_kmo v_kse v_kP v_kQ v_kZ v_kD v_kS v_kR v_kU v_kO v_kG v_kT v_A v_X0 v_X2 v_X3 v_pc v_pm v_lc v_lm
            refine ⟨v_X1.1, v_X1.2.1, v_X1.2.2.1, v_X1.2.2.2.1, v_X1.2.2.2.2.1, v_X1.2.2.2.2.2.1, fun j j0 j1 => ?_⟩
            · have q := v_X1.2.2.2.2.2.2 j j0 j1
              simp (disch := omega) only [true_and, and_true, true_or, or_true, Int.add_zero, z_up_fn, z_up_ni, z_up_eq, z_up_qi, z_rw_fn, z_rw_in, z_rw_out, if_pos, if_neg, ↓reduceIte]
              exact q
          · clear v_sc v_st v_mo v_se v_ik v_ba v_wP v_wZ v_wD v_wS v_wR v_wU v_wO v_wG v_wT v_P v_Q v_Z v_D v_S v_R v_U v_O v_G v_T v_kl v_kmo v_kse v_kP v_kQ v_kZ v_kD v_kS v_kR v_kU v_kO v_kG v_kT v_A v_X0 v_X1 v_X3 v_pc v_pm v_lc v_lm
            refine ⟨v_X2.1, v_X2.2.1, v_X2.2.2.1, v_X2.2.2.2.1, v_X2.2.2.2.2.1, v_X2.2.2.2.2.2.1, fun j j0 j1 => ?_⟩
            · have q := v_X2.2.2.2.2.2.2 j j0 j1
              by_cases c : j = x2
              · subst c
                simp (disch := omega) only [true_and, and_true, true_or, or_true, Int.add_zero, z_up_fn, z_up_ni, z_up_eq, z_up_qi, z_rw_fn, z_rw_in, z_rw_out, if_pos, if_neg, ↓reduceIte]
                omega
              · simp (disch := omega) only [true_and, and_true, true_or, or_true, Int.add_zero, z_up_fn, z_up_ni, z_up_eq, z_up_qi, z_rw_fn, z_rw_in, z_rw_out, if_pos, if_neg, ↓reduceIte]
                exact q
          · clear v_sc v_st v_mo v_se v_ik v_ba v_wP v_wZ v_wD v_wS v_wR v_wU v_wO v_wG v_wT v_P v_Q v_Z v_D v_S v_R v_U v_O v_G v_T v_kl v_kmo v_kse v_kP v_kQ v_kZ v_kD v_kS v_kR v_kU v_kO v_kG v_kT v_A v_X0 v_X1 v_X2 v_pc v_pm v_lc v_lm
            refine ⟨v_X3.1, v_X3.2.1, v_X3.2.2.1, v_X3.2.2.2.1, v_X3.2.2.2.2.1, v_X3.2.2.2.2.2.1, fun j j0 j1 => ?_⟩
            · have q := v_X3.2.2.2.2.2.2 j j0 j1
              simp (disch := omega) only [true_and, and_true, true_or, or_true, Int.add_zero, z_up_fn, z_up_ni, z_up_eq, z_up_qi, z_rw_fn, z_rw_in, z_rw_out, if_pos, if_neg, ↓reduceIte]
              exact q
      · apply zOK_mk2
        · simp (disch := first | omega | (simp (disch := omega) only [z_up_fn, z_up_ni, z_up_eq, z_up_qi, z_rw_fn] <;> omega) | fail) only [e_127_0, e_127_4, e_127_25, e_127_17, e_127_32_0, e_127_32_1, e_127_32_2, e_127_32_3, e_127_35, e_127_51_0, e_127_51_1, e_127_51_2, e_127_51_3, e_127_44, e_127_55, e_127_64, e_127_71_0, e_127_71_1, e_127_71_2, e_127_71_3, e_127_76, e_127_81, s_138, s_133, e_77_0_2, e_79_0_2, e_82_0_2, e_82_5_2, e_131_0, e_132_0, w_ix2, w_iy2, Option.bind_some, Int.add_zero, z_wid, or_true, true_or, z_up_fn, z_up_ni, z_up_eq, z_up_qi, z_rw_fn, z_rw_in, z_rw_out, if_pos, if_neg, ↓reduceIte]
          exact w_ret rfl
        · intro k hk
          simp (disch := omega) only [z_up_fn, z_rw_fn]
        · intro τ hτ
          simp (disch := first | omega | (simp (disch := omega) only [hτ] <;> omega) | fail) only [e_226_0, e_226_6, e_226_27, e_226_19, e_226_44, e_226_58, e_226_67, e_226_99, s_149, e_150_0, e_151_0, hτ, Option.bind_some, Int.add_zero, z_wid, or_true, true_or, z_up_fn, z_up_ni, z_up_eq, z_up_qi, z_rw_fn, z_rw_in, z_rw_out, if_pos, if_neg, ↓reduceIte]
          exact w_ret rfl
        · exact w_ref h 12
    · apply zOK_mk2
      · simp (disch := first | omega | (simp (disch := omega) only [z_up_fn, z_up_ni, z_up_eq, z_up_qi, z_rw_fn] <;> omega) | fail) only [e_127_0, e_127_4, e_127_25, e_127_17, e_127_32_0, e_127_32_1, e_127_32_2, e_127_32_3, e_127_35, e_127_51_0, e_127_51_1, e_127_51_2, e_127_51_3, e_127_44, e_127_55, e_127_64, e_127_71_0, e_127_71_1, e_127_71_2, e_127_71_3, e_127_76, e_127_81, s_138, s_133, e_77_0_2, e_79_0_2, e_82_0_2, e_82_5_2, e_131_0, e_132_0, w_ix2, w_iy2, Option.bind_some, Int.add_zero, z_wid, or_true, true_or, z_up_fn, z_up_ni, z_up_eq, z_up_qi, z_rw_fn, z_rw_in, z_rw_out, if_pos, if_neg, ↓reduceIte]
        exact w_ret rfl
      · intro k hk
        simp (disch := omega) only [z_up_fn, z_rw_fn]
      · intro τ hτ
        simp (disch := first | omega | (simp (disch := omega) only [hτ] <;> omega) | fail) only [e_226_0, e_226_6, e_226_27, e_226_19, e_226_44, e_226_58, e_226_67, e_226_99, s_149, e_150_0, e_151_0, hτ, Option.bind_some, Int.add_zero, z_wid, or_true, true_or, z_up_fn, z_up_ni, z_up_eq, z_up_qi, z_rw_fn, z_rw_in, z_rw_out, if_pos, if_neg, ↓reduceIte]
        exact w_ret rfl
      · exact w_ref h 12
  · apply zOK_mk2
    · simp (disch := first | omega | (simp (disch := omega) only [z_up_fn, z_up_ni, z_up_eq, z_up_qi, z_rw_fn] <;> omega) | fail) only [e_127_0, e_127_4, e_127_25, e_127_17, e_127_32_0, e_127_32_1, e_127_32_2, e_127_32_3, e_127_35, e_127_51_0, e_127_51_1, e_127_51_2, e_127_51_3, e_127_44, e_127_55, e_127_64, e_127_71_0, e_127_71_1, e_127_71_2, e_127_71_3, e_127_76, e_127_81, s_138, s_133, e_77_0_2, e_79_0_2, e_82_0_2, e_82_5_2, e_131_0, e_132_0, w_ix2, w_iy2, Option.bind_some, Int.add_zero, z_wid, or_true, true_or, z_up_fn, z_up_ni, z_up_eq, z_up_qi, z_rw_fn, z_rw_in, z_rw_out, if_pos, if_neg, ↓reduceIte]
      exact w_ret rfl
    · intro k hk
      simp (disch := omega) only [z_up_fn, z_rw_fn]
    · intro τ hτ
      simp (disch := first | omega | (simp (disch := omega) only [hτ] <;> omega) | fail) only [e_226_0, e_226_6, e_226_27, e_226_19, e_226_44, e_226_58, e_226_67, e_226_99, s_149, e_150_0, e_151_0, hτ, Option.bind_some, Int.add_zero, z_wid, or_true, true_or, z_up_fn, z_up_ni, z_up_eq, z_up_qi, z_rw_fn, z_rw_in, z_rw_out, if_pos, if_neg, ↓reduceIte]
      exact w_ret rfl
    · exact w_ref h 1
theorem o_cell2n (d : Nat) (s : Int → Int) (L : Int) (σ : Nat → Int → Int) (h : zV s L σ) (x2 x3 : Int) (hs : ¬ σ 67 1 = 0) : zOK s L (d + 9) 127 226 [some (.inl 2), some (.inl x2), some (.inl x3)] [some (.inl 2), some (.inl x2), some (.inl x3)] σ := by
  have hX := zV_X2 h
  have hX1 := hX.1
  have hX2 := hX.2.1
  have hX3 := hX.2.2.1
  have hX4 := hX.2.2.2.1
  have hX5 := hX.2.2.2.2.1
  have hX6 := hX.2.2.2.2.2.1
  by_cases c1 : -2000 ≤ x3 ∧ x3 ≤ 2000
  · by_cases c2 : ¬ σ 67 1 = -1
    · by_cases c3 : 0 ≤ x2
      · by_cases c4 : x2 < σ 67 2
        · apply zOK_mk2
          · simp (disch := first | omega | (simp (disch := omega) only [z_up_fn, z_up_ni, z_up_eq, z_up_qi, z_rw_fn] <;> omega) | fail) only [e_127_0, e_127_4, e_127_25, e_127_17, e_127_32_0, e_127_32_1, e_127_32_2, e_127_32_3, e_127_35, e_127_51_0, e_127_51_1, e_127_51_2, e_127_51_3, e_127_44, e_127_55, e_127_64, e_127_71_0, e_127_71_1, e_127_71_2, e_127_71_3, e_127_76, e_127_81, s_138, s_133, e_77_0_2, e_79_0_2, e_82_0_2, e_82_5_2, e_131_0, e_132_0, w_ix2, w_iy2, Option.bind_some, Int.add_zero, z_wid, or_true, true_or, z_up_fn, z_up_ni, z_up_eq, z_up_qi, z_rw_fn, z_rw_in, z_rw_out, if_pos, if_neg, ↓reduceIte]
            exact w_ret rfl
          · intro k hk
            simp (disch := omega) only [z_up_fn, z_rw_fn]
          · intro τ hτ
            simp (disch := first | omega | (simp (disch := omega) only [hτ] <;> omega) | fail) only [e_226_0, e_226_6, e_226_27, e_226_19, e_226_44, e_226_58, e_226_67, e_226_99, s_149, e_150_0, e_151_0, hτ, Option.bind_some, Int.add_zero, z_wid, or_true, true_or, z_up_fn, z_up_ni, z_up_eq, z_up_qi, z_rw_fn, z_rw_in, z_rw_out, if_pos, if_neg, ↓reduceIte]
            exact w_ret (by omega)
          · obtain ⟨v_sc, v_st, v_mo, v_se, v_ik, v_ba, v_wP, v_wZ, v_wD, v_wS, v_wR, v_wU, v_wO, v_wG, v_wT, v_P, v_Q, v_Z, v_D, v_S, v_R, v_U, v_O, v_G, v_T, v_kl, v_kmo, v_kse, v_kP, v_kQ, v_kZ, v_kD, v_kS, v_kR, v_kU, v_kO, v_kG, v_kT, v_A, v_X0, v_X1, v_X2, v_X3, v_pc, v_pm, v_lc, v_lm⟩ := h
            refine ⟨v_sc, ?_, v_mo, v_se, v_ik, v_ba, v_wP, v_wZ, v_wD, v_wS, v_wR, v_wU, v_wO, v_wG, v_wT, v_P, v_Q, v_Z, v_D, v_S, v_R, v_U, v_O, v_G, v_T, v_kl, v_kmo, v_kse, v_kP, v_kQ, v_kZ, v_kD, v_kS, v_kR, v_kU, v_kO, v_kG, v_kT, v_A, ?_, ?_, ?_, ?_, v_pc, v_pm, v_lc, v_lm⟩
            · rfl
            · clear v_sc v_st v_mo v_se v_ik v_ba v_wP v_wZ v_wD v_wS v_wR v_wU v_wO v_wG v_wT v_P v_Q v_Z v_D v_S v_R v_U v_O v_G v_T v_kl v_kmo v_kse v_kP v_kQ v_kZ v_kD v_kS v_kR v_kU v_kO v_kG v_kT v_A v_X1 v_X2 v_X3 v_pc v_pm v_lc v_lm
              refine ⟨v_X0.1, v_X0.2.1, v_X0.2.2.1, v_X0.2.2.2.1, v_X0.2.2.2.2.1, v_X0.2.2.2.2.2.1, fun j j0 j1 => ?_⟩
              · have q := v_X0.2.2.2.2.2.2 j j0 j1
                simp (disch := omega) only [true_and, and_true, true_or, or_true, Int.add_zero, z_up_fn, z_up_ni, z_up_eq, z_up_qi, z_rw_fn, z_rw_in, z_rw_out, if_pos, if_neg, ↓reduceIte]
                exact q
            · clear v_sc v_st v_mo v_se v_ik v_ba v_wP v_wZ v_wD v_wS v_wR v_wU v_wO v_wG v_wT v_P v_Q v_Z v_D v_S v_R v_U v_O v_G v_T v_kl v_kmo v_kse v_kP v_kQ v_kZ v_kD v_kS v_kR v_kU v_kO v_kG v_kT v_A v_X0 v_X2 v_X3 v_pc v_pm v_lc v_lm
              refine ⟨v_X1.1, v_X1.2.1, v_X1.2.2.1, v_X1.2.2.2.1, v_X1.2.2.2.2.1, v_X1.2.2.2.2.2.1, fun j j0 j1 => ?_⟩
              · have q := v_X1.2.2.2.2.2.2 j j0 j1
                simp (disch := omega) only [true_and, and_true, true_or, or_true, Int.add_zero, z_up_fn, z_up_ni, z_up_eq, z_up_qi, z_rw_fn, z_rw_in, z_rw_out, if_pos, if_neg, ↓reduceIte]
                exact q
            · clear v_sc v_st v_mo v_se v_ik v_ba v_wP v_wZ v_wD v_wS v_wR v_wU v_wO v_wG v_wT v_P v_Q v_Z v_D v_S v_R v_U v_O v_G v_T v_kl v_kmo v_kse v_kP v_kQ v_kZ v_kD v_kS v_kR v_kU v_kO v_kG v_kT v_A v_X0 v_X1 v_X3 v_pc v_pm v_lc v_lm
              refine ⟨v_X2.1, v_X2.2.1, v_X2.2.2.1, v_X2.2.2.2.1, v_X2.2.2.2.2.1, v_X2.2.2.2.2.2.1, fun j j0 j1 => ?_⟩
              · have q := v_X2.2.2.2.2.2.2 j j0 j1
                by_cases c : j = x2
                · subst c
                  simp (disch := omega) only [true_and, and_true, true_or, or_true, Int.add_zero, z_up_fn, z_up_ni, z_up_eq, z_up_qi, z_rw_fn, z_rw_in, z_rw_out, if_pos, if_neg, ↓reduceIte]
                  omega
                · simp (disch := omega) only [true_and, and_true, true_or, or_true, Int.add_zero, z_up_fn, z_up_ni, z_up_eq, z_up_qi, z_rw_fn, z_rw_in, z_rw_out, if_pos, if_neg, ↓reduceIte]
                  exact q
            · clear v_sc v_st v_mo v_se v_ik v_ba v_wP v_wZ v_wD v_wS v_wR v_wU v_wO v_wG v_wT v_P v_Q v_Z v_D v_S v_R v_U v_O v_G v_T v_kl v_kmo v_kse v_kP v_kQ v_kZ v_kD v_kS v_kR v_kU v_kO v_kG v_kT v_A v_X0 v_X1 v_X2 v_pc v_pm v_lc v_lm
              refine ⟨v_X3.1, v_X3.2.1, v_X3.2.2.1, v_X3.2.2.2.1, v_X3.2.2.2.2.1, v_X3.2.2.2.2.2.1, fun j j0 j1 => ?_⟩
              · have q := v_X3.2.2.2.2.2.2 j j0 j1
                simp (disch := omega) only [true_and, and_true, true_or, or_true, Int.add_zero, z_up_fn, z_up_ni, z_up_eq, z_up_qi, z_rw_fn, z_rw_in, z_rw_out, if_pos, if_neg, ↓reduceIte]
                exact q
        · apply zOK_mk2
          · simp (disch := first | omega | (simp (disch := omega) only [z_up_fn, z_up_ni, z_up_eq, z_up_qi, z_rw_fn] <;> omega) | fail) only [e_127_0, e_127_4, e_127_25, e_127_17, e_127_32_0, e_127_32_1, e_127_32_2, e_127_32_3, e_127_35, e_127_51_0, e_127_51_1, e_127_51_2, e_127_51_3, e_127_44, e_127_55, e_127_64, e_127_71_0, e_127_71_1, e_127_71_2, e_127_71_3, e_127_76, e_127_81, s_138, s_133, e_77_0_2, e_79_0_2, e_82_0_2, e_82_5_2, e_131_0, e_132_0, w_ix2, w_iy2, Option.bind_some, Int.add_zero, z_wid, or_true, true_or, z_up_fn, z_up_ni, z_up_eq, z_up_qi, z_rw_fn, z_rw_in, z_rw_out, if_pos, if_neg, ↓reduceIte]
            exact w_ret rfl
          · intro k hk
            simp (disch := omega) only [z_up_fn, z_rw_fn]
          · intro τ hτ
            simp (disch := first | omega | (simp (disch := omega) only [hτ] <;> omega) | fail) only [e_226_0, e_226_6, e_226_27, e_226_19, e_226_44, e_226_58, e_226_67, e_226_99, s_149, e_150_0, e_151_0, hτ, Option.bind_some, Int.add_zero, z_wid, or_true, true_or, z_up_fn, z_up_ni, z_up_eq, z_up_qi, z_rw_fn, z_rw_in, z_rw_out, if_pos, if_neg, ↓reduceIte]
            exact w_ret rfl
          · exact w_ref h 12
      · apply zOK_mk2
        · simp (disch := first | omega | (simp (disch := omega) only [z_up_fn, z_up_ni, z_up_eq, z_up_qi, z_rw_fn] <;> omega) | fail) only [e_127_0, e_127_4, e_127_25, e_127_17, e_127_32_0, e_127_32_1, e_127_32_2, e_127_32_3, e_127_35, e_127_51_0, e_127_51_1, e_127_51_2, e_127_51_3, e_127_44, e_127_55, e_127_64, e_127_71_0, e_127_71_1, e_127_71_2, e_127_71_3, e_127_76, e_127_81, s_138, s_133, e_77_0_2, e_79_0_2, e_82_0_2, e_82_5_2, e_131_0, e_132_0, w_ix2, w_iy2, Option.bind_some, Int.add_zero, z_wid, or_true, true_or, z_up_fn, z_up_ni, z_up_eq, z_up_qi, z_rw_fn, z_rw_in, z_rw_out, if_pos, if_neg, ↓reduceIte]
          exact w_ret rfl
        · intro k hk
          simp (disch := omega) only [z_up_fn, z_rw_fn]
        · intro τ hτ
          simp (disch := first | omega | (simp (disch := omega) only [hτ] <;> omega) | fail) only [e_226_0, e_226_6, e_226_27, e_226_19, e_226_44, e_226_58, e_226_67, e_226_99, s_149, e_150_0, e_151_0, hτ, Option.bind_some, Int.add_zero, z_wid, or_true, true_or, z_up_fn, z_up_ni, z_up_eq, z_up_qi, z_rw_fn, z_rw_in, z_rw_out, if_pos, if_neg, ↓reduceIte]
          exact w_ret rfl
        · exact w_ref h 12
    · apply zOK_mk2
      · simp (disch := first | omega | (simp (disch := omega) only [z_up_fn, z_up_ni, z_up_eq, z_up_qi, z_rw_fn] <;> omega) | fail) only [e_127_0, e_127_4, e_127_25, e_127_17, e_127_32_0, e_127_32_1, e_127_32_2, e_127_32_3, e_127_35, e_127_51_0, e_127_51_1, e_127_51_2, e_127_51_3, e_127_44, e_127_55, e_127_64, e_127_71_0, e_127_71_1, e_127_71_2, e_127_71_3, e_127_76, e_127_81, s_138, s_133, e_77_0_2, e_79_0_2, e_82_0_2, e_82_5_2, e_131_0, e_132_0, w_ix2, w_iy2, Option.bind_some, Int.add_zero, z_wid, or_true, true_or, z_up_fn, z_up_ni, z_up_eq, z_up_qi, z_rw_fn, z_rw_in, z_rw_out, if_pos, if_neg, ↓reduceIte]
        exact w_ret rfl
      · intro k hk
        simp (disch := omega) only [z_up_fn, z_rw_fn]
      · intro τ hτ
        simp (disch := first | omega | (simp (disch := omega) only [hτ] <;> omega) | fail) only [e_226_0, e_226_6, e_226_27, e_226_19, e_226_44, e_226_58, e_226_67, e_226_99, s_149, e_150_0, e_151_0, hτ, Option.bind_some, Int.add_zero, z_wid, or_true, true_or, z_up_fn, z_up_ni, z_up_eq, z_up_qi, z_rw_fn, z_rw_in, z_rw_out, if_pos, if_neg, ↓reduceIte]
        exact w_ret rfl
      · exact w_ref h 10
  · apply zOK_mk2
    · simp (disch := first | omega | (simp (disch := omega) only [z_up_fn, z_up_ni, z_up_eq, z_up_qi, z_rw_fn] <;> omega) | fail) only [e_127_0, e_127_4, e_127_25, e_127_17, e_127_32_0, e_127_32_1, e_127_32_2, e_127_32_3, e_127_35, e_127_51_0, e_127_51_1, e_127_51_2, e_127_51_3, e_127_44, e_127_55, e_127_64, e_127_71_0, e_127_71_1, e_127_71_2, e_127_71_3, e_127_76, e_127_81, s_138, s_133, e_77_0_2, e_79_0_2, e_82_0_2, e_82_5_2, e_131_0, e_132_0, w_ix2, w_iy2, Option.bind_some, Int.add_zero, z_wid, or_true, true_or, z_up_fn, z_up_ni, z_up_eq, z_up_qi, z_rw_fn, z_rw_in, z_rw_out, if_pos, if_neg, ↓reduceIte]
      exact w_ret rfl
    · intro k hk
      simp (disch := omega) only [z_up_fn, z_rw_fn]
    · intro τ hτ
      simp (disch := first | omega | (simp (disch := omega) only [hτ] <;> omega) | fail) only [e_226_0, e_226_6, e_226_27, e_226_19, e_226_44, e_226_58, e_226_67, e_226_99, s_149, e_150_0, e_151_0, hτ, Option.bind_some, Int.add_zero, z_wid, or_true, true_or, z_up_fn, z_up_ni, z_up_eq, z_up_qi, z_rw_fn, z_rw_in, z_rw_out, if_pos, if_neg, ↓reduceIte]
      exact w_ret rfl
    · exact w_ref h 1
theorem o_cell3b (d : Nat) (s : Int → Int) (L : Int) (σ : Nat → Int → Int) (h : zV s L σ) (x2 x3 : Int) (hs : σ 69 1 = 0) : zOK s L (d + 9) 127 226 [some (.inl 3), some (.inl x2), some (.inl x3)] [some (.inl 3), some (.inl x2), some (.inl x3)] σ := by
  have hX := zV_X3 h
  have hX1 := hX.1
  have hX2 := hX.2.1
  have hX3 := hX.2.2.1
  have hX4 := hX.2.2.2.1
  have hX5 := hX.2.2.2.2.1
  have hX6 := hX.2.2.2.2.2.1
  by_cases c1 : -2000 ≤ x3 ∧ x3 ≤ 2000
  · by_cases c2 : 0 ≤ x2
    · by_cases c3 : x2 < σ 69 2
      · apply zOK_mk2
        · simp (disch := first | omega | (simp (disch := omega) only [z_up_fn, z_up_ni, z_up_eq, z_up_qi, z_rw_fn] <;> omega) | fail) only [e_127_0, e_127_4, e_127_25, e_127_17, e_127_32_0, e_127_32_1, e_127_32_2, e_127_32_3, e_127_35, e_127_51_0, e_127_51_1, e_127_51_2, e_127_51_3, e_127_44, e_127_55, e_127_64, e_127_71_0, e_127_71_1, e_127_71_2, e_127_71_3, e_127_76, e_127_81, s_138, s_133, e_77_0_3, e_79_0_3, e_82_0_3, e_82_5_3, e_131_0, e_132_0, w_ix3, w_iy3, Option.bind_some, Int.add_zero, z_wid, or_true, true_or, z_up_fn, z_up_ni, z_up_eq, z_up_qi, z_rw_fn, z_rw_in, z_rw_out, if_pos, if_neg, ↓reduceIte]
          exact w_ret rfl
        · intro k hk
          simp (disch := omega) only [z_up_fn, z_rw_fn]
        · intro τ hτ
          simp (disch := first | omega | (simp (disch := omega) only [hτ] <;> omega) | fail) only [e_226_0, e_226_6, e_226_27, e_226_19, e_226_44, e_226_58, e_226_67, e_226_99, s_149, e_150_0, e_151_0, hτ, Option.bind_some, Int.add_zero, z_wid, or_true, true_or, z_up_fn, z_up_ni, z_up_eq, z_up_qi, z_rw_fn, z_rw_in, z_rw_out, if_pos, if_neg, ↓reduceIte]
          exact w_ret (by omega)
        · obtain ⟨v_sc, v_st, v_mo, v_se, v_ik, v_ba, v_wP, v_wZ, v_wD, v_wS, v_wR, v_wU, v_wO, v_wG, v_wT, v_P, v_Q, v_Z, v_D, v_S, v_R, v_U, v_O, v_G, v_T, v_kl, v_kmo, v_kse, v_kP, v_kQ, v_kZ, v_kD, v_kS, v_kR, v_kU, v_kO, v_kG, v_kT, v_A, v_X0, v_X1, v_X2, v_X3, v_pc, v_pm, v_lc, v_lm⟩ := h
          refine ⟨v_sc, ?_, v_mo, v_se, v_ik, v_ba, v_wP, v_wZ, v_wD, v_wS, v_wR, v_wU, v_wO, v_wG, v_wT, v_P, v_Q, v_Z, v_D, v_S, v_R, v_U, v_O, v_G, v_T, v_kl, v_kmo, v_kse, v_kP, v_kQ, v_kZ, v_kD, v_kS, v_kR, v_kU, v_kO, v_kG, v_kT, v_A, ?_, ?_, ?_, ?_, v_pc, v_pm, v_lc, v_lm⟩
          · rfl
          · clear v_sc v_st v_mo v_se v_ik v_ba v_wP v_wZ v_wD v_wS v_wR v_wU v_wO v_wG v_wT v_P v_Q v_Z v_D v_S v_R v_U v_O v_G v_T v_kl v_kmo v_kse v_kP v_kQ v_kZ v_kD v_kS v_kR v_kU v_kO v_kG v_kT v_A v_X1 v_X2 v_X3 v_pc v_pm v_lc v_lm
            refine ⟨v_X0.1, v_X0.2.1, v_X0.2.2.1, v_X0.2.2.2.1, v_X0.2.2.2.2.1, v_X0.2.2.2.2.2.1, fun j j0 j1 => ?_⟩
            · have q := v_X0.2.2.2.2.2.2 j j0 j1
              simp (disch := omega) only [true_and, and_true, true_or, or_true, Int.add_zero, z_up_fn, z_up_ni, z_up_eq, z_up_qi, z_rw_fn, z_rw_in, z_rw_out, if_pos, if_neg, ↓reduceIte]
              exact q
          · clear v_sc v_st v_mo v_se v_ik v_ba v_wP v_wZ v_wD v_wS v_wR v_wU v_wO v_wG v_wT v_P v_Q v_Z v_D v_S v_R v_U v_O v_G v_T v_kl v_kmo v_kse v_kP v_kQ v_kZ v_kD v_kS v_kR v_kU v_kO v_kG v_kT v_A v_X0 v_X2 v_X3 v_pc v_pm v_lc v_lm
            refine ⟨v_X1.1, v_X1.2.1, v_X1.2.2.1, v_X1.2.2.2.1, v_X1.2.2.2.2.1, v_X1.2.2.2.2.2.1, fun j j0 j1 => ?_⟩
            · have q := v_X1.2.2.2.2.2.2 j j0 j1
              simp (disch := omega) only [true_and, and_true, true_or, or_true, Int.add_zero, z_up_fn, z_up_ni, z_up_eq, z_up_qi, z_rw_fn, z_rw_in, z_rw_out, if_pos, if_neg, ↓reduceIte]
              exact q
          · clear v_sc v_st v_mo v_se v_ik v_ba v_wP v_wZ v_wD v_wS v_wR v_wU v_wO v_wG v_wT v_P v_Q v_Z v_D v_S v_R v_U v_O v_G v_T v_kl v_kmo v_kse v_kP v_kQ v_kZ v_kD v_kS v_kR v_kU v_kO v_kG v_kT v_A v_X0 v_X1 v_X3 v_pc v_pm v_lc v_lm
            refine ⟨v_X2.1, v_X2.2.1, v_X2.2.2.1, v_X2.2.2.2.1, v_X2.2.2.2.2.1, v_X2.2.2.2.2.2.1, fun j j0 j1 => ?_⟩
            · have q := v_X2.2.2.2.2.2.2 j j0 j1
              simp (disch := omega) only [true_and, and_true, true_or, or_true, Int.add_zero, z_up_fn, z_up_ni, z_up_eq, z_up_qi, z_rw_fn, z_rw_in, z_rw_out, if_pos, if_neg, ↓reduceIte]
              exact q
          · clear v_sc v_st v_mo v_se v_ik v_ba v_wP v_wZ v_wD v_wS v_wR v_wU v_wO v_wG v_wT v_P v_Q v_Z v_D v_S v_R v_U v_O v_G v_T v_kl v_kmo v_kse v_kP v_kQ v_kZ v_kD v_kS v_kR v_kU v_kO v_kG v_kT v_A v_X0 v_X1 v_X2 v_pc v_pm v_lc v_lm
            refine ⟨v_X3.1, v_X3.2.1, v_X3.2.2.1, v_X3.2.2.2.1, v_X3.2.2.2.2.1, v_X3.2.2.2.2.2.1, fun j j0 j1 => ?_⟩
            · have q := v_X3.2.2.2.2.2.2 j j0 j1
              by_cases c : j = x2
              · subst c
                simp (disch := omega) only [true_and, and_true, true_or, or_true, Int.add_zero, z_up_fn, z_up_ni, z_up_eq, z_up_qi, z_rw_fn, z_rw_in, z_rw_out, if_pos, if_neg, ↓reduceIte]
                omega
              · simp (disch := omega) only [true_and, and_true, true_or, or_true, Int.add_zero, z_up_fn, z_up_ni, z_up_eq, z_up_qi, z_rw_fn, z_rw_in, z_rw_out, if_pos, if_neg, ↓reduceIte]
                exact q
      · apply zOK_mk2
        · simp (disch := first | omega | (simp (disch := omega) only [z_up_fn, z_up_ni, z_up_eq, z_up_qi, z_rw_fn] <;> omega) | fail) only [e_127_0, e_127_4, e_127_25, e_127_17, e_127_32_0, e_127_32_1, e_127_32_2, e_127_32_3, e_127_35, e_127_51_0, e_127_51_1, e_127_51_2, e_127_51_3, e_127_44, e_127_55, e_127_64, e_127_71_0, e_127_71_1, e_127_71_2, e_127_71_3, e_127_76, e_127_81, s_138, s_133, e_77_0_3, e_79_0_3, e_82_0_3, e_82_5_3, e_131_0, e_132_0, w_ix3, w_iy3, Option.bind_some, Int.add_zero, z_wid, or_true, true_or, z_up_fn, z_up_ni, z_up_eq, z_up_qi, z_rw_fn, z_rw_in, z_rw_out, if_pos, if_neg, ↓reduceIte]
          exact w_ret rfl
        · intro k hk
          simp (disch := omega) only [z_up_fn, z_rw_fn]
        · intro τ hτ
          simp (disch := first | omega | (simp (disch := omega) only [hτ] <;> omega) | fail) only [e_226_0, e_226_6, e_226_27, e_226_19, e_226_44, e_226_58, e_226_67, e_226_99, s_149, e_150_0, e_151_0, hτ, Option.bind_some, Int.add_zero, z_wid, or_true, true_or, z_up_fn, z_up_ni, z_up_eq, z_up_qi, z_rw_fn, z_rw_in, z_rw_out, if_pos, if_neg, ↓reduceIte]
          exact w_ret rfl
        · exact w_ref h 12
    · apply zOK_mk2
      · simp (disch := first | omega | (simp (disch := omega) only [z_up_fn, z_up_ni, z_up_eq, z_up_qi, z_rw_fn] <;> omega) | fail) only [e_127_0, e_127_4, e_127_25, e_127_17, e_127_32_0, e_127_32_1, e_127_32_2, e_127_32_3, e_127_35, e_127_51_0, e_127_51_1, e_127_51_2, e_127_51_3, e_127_44, e_127_55, e_127_64, e_127_71_0, e_127_71_1, e_127_71_2, e_127_71_3, e_127_76, e_127_81, s_138, s_133, e_77_0_3, e_79_0_3, e_82_0_3, e_82_5_3, e_131_0, e_132_0, w_ix3, w_iy3, Option.bind_some, Int.add_zero, z_wid, or_true, true_or, z_up_fn, z_up_ni, z_up_eq, z_up_qi, z_rw_fn, z_rw_in, z_rw_out, if_pos, if_neg, ↓reduceIte]
        exact w_ret rfl
      · intro k hk
        simp (disch := omega) only [z_up_fn, z_rw_fn]
      · intro τ hτ
        simp (disch := first | omega | (simp (disch := omega) only [hτ] <;> omega) | fail) only [e_226_0, e_226_6, e_226_27, e_226_19, e_226_44, e_226_58, e_226_67, e_226_99, s_149, e_150_0, e_151_0, hτ, Option.bind_some, Int.add_zero, z_wid, or_true, true_or, z_up_fn, z_up_ni, z_up_eq, z_up_qi, z_rw_fn, z_rw_in, z_rw_out, if_pos, if_neg, ↓reduceIte]
        exact w_ret rfl
      · exact w_ref h 12
  · apply zOK_mk2
    · simp (disch := first | omega | (simp (disch := omega) only [z_up_fn, z_up_ni, z_up_eq, z_up_qi, z_rw_fn] <;> omega) | fail) only [e_127_0, e_127_4, e_127_25, e_127_17, e_127_32_0, e_127_32_1, e_127_32_2, e_127_32_3, e_127_35, e_127_51_0, e_127_51_1, e_127_51_2, e_127_51_3, e_127_44, e_127_55, e_127_64, e_127_71_0, e_127_71_1, e_127_71_2, e_127_71_3, e_127_76, e_127_81, s_138, s_133, e_77_0_3, e_79_0_3, e_82_0_3, e_82_5_3, e_131_0, e_132_0, w_ix3, w_iy3, Option.bind_some, Int.add_zero, z_wid, or_true, true_or, z_up_fn, z_up_ni, z_up_eq, z_up_qi, z_rw_fn, z_rw_in, z_rw_out, if_pos, if_neg, ↓reduceIte]
      exact w_ret rfl
    · intro k hk
      simp (disch := omega) only [z_up_fn, z_rw_fn]
    · intro τ hτ
      simp (disch := first | omega | (simp (disch := omega) only [hτ] <;> omega) | fail) only [e_226_0, e_226_6, e_226_27, e_226_19, e_226_44, e_226_58, e_226_67, e_226_99, s_149, e_150_0, e_151_0, hτ, Option.bind_some, Int.add_zero, z_wid, or_true, true_or, z_up_fn, z_up_ni, z_up_eq, z_up_qi, z_rw_fn, z_rw_in, z_rw_out, if_pos, if_neg, ↓reduceIte]
      exact w_ret rfl
    · exact w_ref h 1
theorem o_cell3n (d : Nat) (s : Int → Int) (L : Int) (σ : Nat → Int → Int) (h : zV s L σ) (x2 x3 : Int) (hs : ¬ σ 69 1 = 0) : zOK s L (d + 9) 127 226 [some (.inl 3), some (.inl x2), some (.inl x3)] [some (.inl 3), some (.inl x2), some (.inl x3)] σ := by
  have hX := zV_X3 h
  have hX1 := hX.1
  have hX2 := hX.2.1
  have hX3 := hX.2.2.1
  have hX4 := hX.2.2.2.1
  have hX5 := hX.2.2.2.2.1
  have hX6 := hX.2.2.2.2.2.1
  by_cases c1 : -2000 ≤ x3 ∧ x3 ≤ 2000
  · by_cases c2 : ¬ σ 69 1 = -1
    · by_cases c3 : 0 ≤ x2
      · by_cases c4 : x2 < σ 69 2
        · apply zOK_mk2
          · simp (disch := first | omega | (simp (disch := omega) only [z_up_fn, z_up_ni, z_up_eq, z_up_qi, z_rw_fn] <;> omega) | fail) only [e_127_0, e_127_4, e_127_25, e_127_17, e_127_32_0, e_127_32_1, e_127_32_2, e_127_32_3, e_127_35, e_127_51_0, e_127_51_1, e_127_51_2, e_127_51_3, e_127_44, e_127_55, e_127_64, e_127_71_0, e_127_71_1, e_127_71_2, e_127_71_3, e_127_76, e_127_81, s_138, s_133, e_77_0_3, e_79_0_3, e_82_0_3, e_82_5_3, e_131_0, e_132_0, w_ix3, w_iy3, Option.bind_some, Int.add_zero, z_wid, or_true, true_or, z_up_fn, z_up_ni, z_up_eq, z_up_qi, z_rw_fn, z_rw_in, z_rw_out, if_pos, if_neg, ↓reduceIte]
            exact w_ret rfl
          · intro k hk
            simp (disch := omega) only [z_up_fn, z_rw_fn]
          · intro τ hτ
            simp (disch := first | omega | (simp (disch := omega) only [hτ] <;> omega) | fail) only [e_226_0, e_226_6, e_226_27, e_226_19, e_226_44, e_226_58, e_226_67, e_226_99, s_149, e_150_0, e_151_0, hτ, Option.bind_some, Int.add_zero, z_wid, or_true, true_or, z_up_fn, z_up_ni, z_up_eq, z_up_qi, z_rw_fn, z_rw_in, z_rw_out, if_pos, if_neg, ↓reduceIte]
            exact w_ret (by omega)
          · obtain ⟨v_sc, v_st, v_mo, v_se, v_ik, v_ba, v_wP, v_wZ, v_wD, v_wS, v_wR, v_wU, v_wO, v_wG, v_wT, v_P, v_Q, v_Z, v_D, v_S, v_R, v_U, v_O, v_G, v_T, v_kl, v_kmo, v_kse, v_kP, v_kQ, v_kZ, v_kD, v_kS, v_kR, v_kU, v_kO, v_kG, v_kT, v_A, v_X0, v_X1, v_X2, v_X3, v_pc, v_pm, v_lc, v_lm⟩ := h
            refine ⟨v_sc, ?_, v_mo, v_se, v_ik, v_ba, v_wP, v_wZ, v_wD, v_wS, v_wR, v_wU, v_wO, v_wG, v_wT, v_P, v_Q, v_Z, v_D, v_S, v_R, v_U, v_O, v_G, v_T, v_kl, v_kmo, v_kse, v_kP, v_kQ, v_kZ, v_kD, v_kS, v_kR, v_kU, v_kO, v_kG, v_kT, v_A, ?_, ?_, ?_, ?_, v_pc, v_pm, v_lc, v_lm⟩
            · rfl
            · clear v_sc v_st v_mo v_se v_ik v_ba v_wP v_wZ v_wD v_wS v_wR v_wU v_wO v_wG v_wT v_P v_Q v_Z v_D v_S v_R v_U v_O v_G v_T v_kl v_kmo v_kse v_kP v_kQ v_kZ v_kD v_kS v_kR v_kU v_kO v_kG v_kT v_A v_X1 v_X2 v_X3 v_pc v_pm v_lc v_lm
              refine ⟨v_X0.1, v_X0.2.1, v_X0.2.2.1, v_X0.2.2.2.1, v_X0.2.2.2.2.1, v_X0.2.2.2.2.2.1, fun j j0 j1 => ?_⟩
              · have q := v_X0.2.2.2.2.2.2 j j0 j1
                simp (disch := omega) only [true_and, and_true, true_or, or_true, Int.add_zero, z_up_fn, z_up_ni, z_up_eq, z_up_qi, z_rw_fn, z_rw_in, z_rw_out, if_pos, if_neg, ↓reduceIte]
                exact q
            · clear v_sc v_st v_mo v_se v_ik v_ba v_wP v_wZ v_wD v_wS v_wR v_wU v_wO v_wG v_wT v_P v_Q v_Z v_D v_S v_R v_U v_O v_G v_T v_kl v_kmo v_kse v_kP v_kQ v_kZ v_kD v_kS v_kR v_kU v_kO v_kG v_kT v_A v_X0 v_X2 v_X3 v_pc v_pm v_lc v_lm
              refine ⟨v_X1.1, v_X1.2.1, v_X1.2.2.1, v_X1.2.2.2.1, v_X1.2.2.2.2.1, v_X1.2.2.2.2.2.1, fun j j0 j1 => ?_⟩
              · have q := v_X1.2.2.2.2.2.2 j j0 j1
                simp (disch := omega) only [true_and, and_true, true_or, or_true, Int.add_zero, z_up_fn, z_up_ni, z_up_eq, z_up_qi, z_rw_fn, z_rw_in, z_rw_out, if_pos, if_neg, ↓reduceIte]
                exact q
            · clear v_sc v_st v_mo v_se v_ik v_ba v_wP v_wZ v_wD v_wS v_wR v_wU v_wO v_wG v_wT v_P v_Q v_Z v_D v_S v_R v_U v_O v_G v_T v_kl v_kmo v_kse v_kP v_kQ v_kZ v_kD v_kS v_kR v_kU v_kO v_kG v_kT v_A v_X0 v_X1 v_X3 v_pc v_pm v_lc v_lm
              refine ⟨v_X2.1, v_X2.2.1, v_X2.2.2.1, v_X2.2.2.2.1, v_X2.2.2.2.2.1, v_X2.2.2.2.2.2.1, fun j j0 j1 => ?_⟩
              · have q := v_X2.2.2.2.2.2.2 j j0 j1
                simp (disch := omega) only [true_and, and_true, true_or, or_true, Int.add_zero, z_up_fn, z_up_ni, z_up_eq, z_up_qi, z_rw_fn, z_rw_in, z_rw_out, if_pos, if_neg, ↓reduceIte]
                exact q
            · clear v_sc v_st v_mo v_se v_ik v_ba v_wP v_wZ v_wD v_wS v_wR v_wU v_wO v_wG v_wT v_P v_Q v_Z v_D v_S v_R v_U v_O v_G v_T v_kl v_kmo v_kse v_kP v_kQ v_kZ v_kD v_kS v_kR v_kU v_kO v_kG v_kT v_A v_X0 v_X1 v_X2 v_pc v_pm v_lc v_lm
              refine ⟨v_X3.1, v_X3.2.1, v_X3.2.2.1, v_X3.2.2.2.1, v_X3.2.2.2.2.1, v_X3.2.2.2.2.2.1, fun j j0 j1 => ?_⟩
              · have q := v_X3.2.2.2.2.2.2 j j0 j1
                by_cases c : j = x2
                · subst c
                  simp (disch := omega) only [true_and, and_true, true_or, or_true, Int.add_zero, z_up_fn, z_up_ni, z_up_eq, z_up_qi, z_rw_fn, z_rw_in, z_rw_out, if_pos, if_neg, ↓reduceIte]
                  omega
                · simp (disch := omega) only [true_and, and_true, true_or, or_true, Int.add_zero, z_up_fn, z_up_ni, z_up_eq, z_up_qi, z_rw_fn, z_rw_in, z_rw_out, if_pos, if_neg, ↓reduceIte]
                  exact q
        · apply zOK_mk2
          · simp (disch := first | omega | (simp (disch := omega) only [z_up_fn, z_up_ni, z_up_eq, z_up_qi, z_rw_fn] <;> omega) | fail) only [e_127_0, e_127_4, e_127_25, e_127_17, e_127_32_0, e_127_32_1, e_127_32_2, e_127_32_3, e_127_35, e_127_51_0, e_127_51_1, e_127_51_2, e_127_51_3, e_127_44, e_127_55, e_127_64, e_127_71_0, e_127_71_1, e_127_71_2, e_127_71_3, e_127_76, e_127_81, s_138, s_133, e_77_0_3, e_79_0_3, e_82_0_3, e_82_5_3, e_131_0, e_132_0, w_ix3, w_iy3, Option.bind_some, Int.add_zero, z_wid, or_true, true_or, z_up_fn, z_up_ni, z_up_eq, z_up_qi, z_rw_fn, z_rw_in, z_rw_out, if_pos, if_neg, ↓reduceIte]
            exact w_ret rfl
          · intro k hk
            simp (disch := omega) only [z_up_fn, z_rw_fn]
          · intro τ hτ
            simp (disch := first | omega | (simp (disch := omega) only [hτ] <;> omega) | fail) only [e_226_0, e_226_6, e_226_27, e_226_19, e_226_44, e_226_58, e_226_67, e_226_99, s_149, e_150_0, e_151_0, hτ, Option.bind_some, Int.add_zero, z_wid, or_true, true_or, z_up_fn, z_up_ni, z_up_eq, z_up_qi, z_rw_fn, z_rw_in, z_rw_out, if_pos, if_neg, ↓reduceIte]
            exact w_ret rfl
          · exact w_ref h 12
      · apply zOK_mk2
        · simp (disch := first | omega | (simp (disch := omega) only [z_up_fn, z_up_ni, z_up_eq, z_up_qi, z_rw_fn] <;> omega) | fail) only [e_127_0, e_127_4, e_127_25, e_127_17, e_127_32_0, e_127_32_1, e_127_32_2, e_127_32_3, e_127_35, e_127_51_0, e_127_51_1, e_127_51_2, e_127_51_3, e_127_44, e_127_55, e_127_64, e_127_71_0, e_127_71_1, e_127_71_2, e_127_71_3, e_127_76, e_127_81, s_138, s_133, e_77_0_3, e_79_0_3, e_82_0_3, e_82_5_3, e_131_0, e_132_0, w_ix3, w_iy3, Option.bind_some, Int.add_zero, z_wid, or_true, true_or, z_up_fn, z_up_ni, z_up_eq, z_up_qi, z_rw_fn, z_rw_in, z_rw_out, if_pos, if_neg, ↓reduceIte]
          exact w_ret rfl
        · intro k hk
          simp (disch := omega) only [z_up_fn, z_rw_fn]
        · intro τ hτ
          simp (disch := first | omega | (simp (disch := omega) only [hτ] <;> omega) | fail) only [e_226_0, e_226_6, e_226_27, e_226_19, e_226_44, e_226_58, e_226_67, e_226_99, s_149, e_150_0, e_151_0, hτ, Option.bind_some, Int.add_zero, z_wid, or_true, true_or, z_up_fn, z_up_ni, z_up_eq, z_up_qi, z_rw_fn, z_rw_in, z_rw_out, if_pos, if_neg, ↓reduceIte]
          exact w_ret rfl
        · exact w_ref h 12
    · apply zOK_mk2
      · simp (disch := first | omega | (simp (disch := omega) only [z_up_fn, z_up_ni, z_up_eq, z_up_qi, z_rw_fn] <;> omega) | fail) only [e_127_0, e_127_4, e_127_25, e_127_17, e_127_32_0, e_127_32_1, e_127_32_2, e_127_32_3, e_127_35, e_127_51_0, e_127_51_1, e_127_51_2, e_127_51_3, e_127_44, e_127_55, e_127_64, e_127_71_0, e_127_71_1, e_127_71_2, e_127_71_3, e_127_76, e_127_81, s_138, s_133, e_77_0_3, e_79_0_3, e_82_0_3, e_82_5_3, e_131_0, e_132_0, w_ix3, w_iy3, Option.bind_some, Int.add_zero, z_wid, or_true, true_or, z_up_fn, z_up_ni, z_up_eq, z_up_qi, z_rw_fn, z_rw_in, z_rw_out, if_pos, if_neg, ↓reduceIte]
        exact w_ret rfl
      · intro k hk
        simp (disch := omega) only [z_up_fn, z_rw_fn]
      · intro τ hτ
        simp (disch := first | omega | (simp (disch := omega) only [hτ] <;> omega) | fail) only [e_226_0, e_226_6, e_226_27, e_226_19, e_226_44, e_226_58, e_226_67, e_226_99, s_149, e_150_0, e_151_0, hτ, Option.bind_some, Int.add_zero, z_wid, or_true, true_or, z_up_fn, z_up_ni, z_up_eq, z_up_qi, z_rw_fn, z_rw_in, z_rw_out, if_pos, if_neg, ↓reduceIte]
        exact w_ret rfl
      · exact w_ref h 10
  · apply zOK_mk2
    · simp (disch := first | omega | (simp (disch := omega) only [z_up_fn, z_up_ni, z_up_eq, z_up_qi, z_rw_fn] <;> omega) | fail) only [e_127_0, e_127_4, e_127_25, e_127_17, e_127_32_0, e_127_32_1, e_127_32_2, e_127_32_3, e_127_35, e_127_51_0, e_127_51_1, e_127_51_2, e_127_51_3, e_127_44, e_127_55, e_127_64, e_127_71_0, e_127_71_1, e_127_71_2, e_127_71_3, e_127_76, e_127_81, s_138, s_133, e_77_0_3, e_79_0_3, e_82_0_3, e_82_5_3, e_131_0, e_132_0, w_ix3, w_iy3, Option.bind_some, Int.add_zero, z_wid, or_true, true_or, z_up_fn, z_up_ni, z_up_eq, z_up_qi, z_rw_fn, z_rw_in, z_rw_out, if_pos, if_neg, ↓reduceIte]
      exact w_ret rfl
    · intro k hk
      simp (disch := omega) only [z_up_fn, z_rw_fn]
    · intro τ hτ
      simp (disch := first | omega | (simp (disch := omega) only [hτ] <;> omega) | fail) only [e_226_0, e_226_6, e_226_27, e_226_19, e_226_44, e_226_58, e_226_67, e_226_99, s_149, e_150_0, e_151_0, hτ, Option.bind_some, Int.add_zero, z_wid, or_true, true_or, z_up_fn, z_up_ni, z_up_eq, z_up_qi, z_rw_fn, z_rw_in, z_rw_out, if_pos, if_neg, ↓reduceIte]
      exact w_ret rfl
    · exact w_ref h 1
theorem o_cell0 (d : Nat) (s : Int → Int) (L : Int) (σ : Nat → Int → Int) (h : zV s L σ) (x2 x3 : Int) : zOK s L (d + 9) 127 226 [some (.inl 0), some (.inl x2), some (.inl x3)] [some (.inl 0), some (.inl x2), some (.inl x3)] σ := by
  by_cases c : σ 63 1 = 0
  · exact o_cell0b d s L σ h x2 x3 c
  · exact o_cell0n d s L σ h x2 x3 c
theorem o_cell1 (d : Nat) (s : Int → Int) (L : Int) (σ : Nat → Int → Int) (h : zV s L σ) (x2 x3 : Int) : zOK s L (d + 9) 127 226 [some (.inl 1), some (.inl x2), some (.inl x3)] [some (.inl 1), some (.inl x2), some (.inl x3)] σ := by
  by_cases c : σ 65 1 = 0
  · exact o_cell1b d s L σ h x2 x3 c
  · exact o_cell1n d s L σ h x2 x3 c
theorem o_cell2 (d : Nat) (s : Int → Int) (L : Int) (σ : Nat → Int → Int) (h : zV s L σ) (x2 x3 : Int) : zOK s L (d + 9) 127 226 [some (.inl 2), some (.inl x2), some (.inl x3)] [some (.inl 2), some (.inl x2), some (.inl x3)] σ := by
  by_cases c : σ 67 1 = 0
  · exact o_cell2b d s L σ h x2 x3 c
  · exact o_cell2n d s L σ h x2 x3 c
theorem o_cell3 (d : Nat) (s : Int → Int) (L : Int) (σ : Nat → Int → Int) (h : zV s L σ) (x2 x3 : Int) : zOK s L (d + 9) 127 226 [some (.inl 3), some (.inl x2), some (.inl x3)] [some (.inl 3), some (.inl x2), some (.inl x3)] σ := by
  by_cases c : σ 69 1 = 0
  · exact o_cell3b d s L σ h x2 x3 c
  · exact o_cell3n d s L σ h x2 x3 c
theorem o_cellx (d : Nat) (s : Int → Int) (L : Int) (σ : Nat → Int → Int) (h : zV s L σ) (x1 x2 x3 : Int) (c : ¬ (0 ≤ x1 ∧ x1 ≤ 3)) : zOK s L (d + 9) 127 226 [some (.inl x1), some (.inl x2), some (.inl x3)] [some (.inl x1), some (.inl x2), some (.inl x3)] σ := by
  apply zOK_mk2
  · simp (disch := first | omega | (simp (disch := omega) only [z_up_fn, z_up_ni, z_up_eq, z_up_qi, z_rw_fn] <;> omega) | fail) only [e_127_0, e_127_4, e_127_25, s_138, e_132_0, Option.bind_some, Int.add_zero, z_wid, or_true, true_or, z_up_fn, z_up_ni, z_up_eq, z_up_qi, z_rw_fn, z_rw_in, z_rw_out, if_pos, if_neg, ↓reduceIte]
    exact w_ret rfl
  · intro k hk
    simp (disch := omega) only [z_up_fn]
  · intro τ hτ
    simp (disch := first | omega | (simp (disch := omega) only [hτ] <;> omega) | fail) only [e_226_0, e_226_6, e_226_27, s_149, e_150_0, hτ, Option.bind_some, Int.add_zero, z_wid, or_true, true_or, z_up_fn, z_up_ni, z_up_eq, z_up_qi, z_rw_fn, z_rw_in, z_rw_out, if_pos, if_neg, ↓reduceIte]
    exact w_ret rfl
  · exact w_ref h 1
theorem o_cell (d : Nat) (s : Int → Int) (L : Int) (σ : Nat → Int → Int) (h : zV s L σ) (x1 x2 x3 : Int) : zOK s L (d + 9) 127 226 [some (.inl x1), some (.inl x2), some (.inl x3)] [some (.inl x1), some (.inl x2), some (.inl x3)] σ := by
  by_cases c : 0 ≤ x1 ∧ x1 ≤ 3
  · have e : x1 = 0 ∨ x1 = 1 ∨ x1 = 2 ∨ x1 = 3 := by omega
    rcases e with e | e | e | e <;> subst e
    · exact o_cell0 d s L σ h x2 x3
    · exact o_cell1 d s L σ h x2 x3
    · exact o_cell2 d s L σ h x2 x3
    · exact o_cell3 d s L σ h x2 x3
  · exact o_cellx d s L σ h x1 x2 x3 c
