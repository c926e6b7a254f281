theorem o_unit00 (d : Nat) (s : Int → Int) (L : Int) (σ : Nat → Int → Int) (h : zV s L σ) (x1 x2 x3 : Int) : zOK s L (d + 9) 102 178 [some (.inl x1), some (.inl x2), some (.inl x3), some (.inl (-1)), some (.inl 0)] [some (.inl x1), some (.inl x2), some (.inl x3), some (.inl (-1)), some (.inl 0), none] σ := by
  have hwU := zV_wU h
  have hU := (zV_U h).1
  have hU1 := (zV_U h).2.1
  have hU2 := (zV_U h).2.2.1
  have hwP := zV_wP h
  have hP := (zV_P h).1
  have hP1 := (zV_P h).2.1
  have hP2 := (zV_P h).2.2.1
  by_cases c1 : 0 ≤ x1 ∧ x1 ≤ 3
  · by_cases c2 : 1 ≤ x2 ∧ x2 ≤ 240
    · by_cases c3 : 0 ≤ x3
      · by_cases c4 : x3 < z_shl 1 (σ 71 2)
        · have ws := w_shl hP1 hP2
          by_cases c5 : σ 12 3 < 6
          · apply zOK_mk2
            · simp (disch := first | omega | (simp (disch := omega) only [z_up_fn, z_up_ni, z_up_eq, z_up_qi, z_rw_fn] <;> omega) | fail) only [e_102_0, e_102_6, e_102_25, e_102_17, e_102_31, e_102_48, e_102_40, e_102_59, e_102_75, e_102_67, e_102_90, e_102_93, s_133, e_140_0, e_140_16, e_141_0, e_141_25, e_85_0_0, hP, s_has_12, e_86_0_8, e_52_0, e_131_0, e_132_0, s_addUnit00, Option.bind_some, Int.add_zero, z_wid, or_true, true_or, z_up_fn, z_up_ni, z_up_eq, z_up_qi, z_rw_fn, z_rw_in, z_rw_out, if_pos, if_neg, ↓reduceIte]
              exact w_ret rfl
            · intro k hk
              simp (disch := omega) only [z_up_fn, z_rw_fn]
            · intro τ hτ
              simp (disch := first | omega | (simp (disch := omega) only [hτ] <;> omega) | fail) only [e_178_0, e_178_6, e_178_92, e_178_17, e_178_107, e_178_185, e_178_73, s_149, e_150_0, e_151_0, hτ, Option.bind_some, Int.add_zero, z_wid, or_true, true_or, z_up_fn, z_up_ni, z_up_eq, z_up_qi, z_rw_fn, z_rw_in, z_rw_out, if_pos, if_neg, ↓reduceIte]
              exact w_ret (by omega)
            · obtain ⟨v_sc, v_st, v_mo, v_se, v_ik, v_ba, v_wP, v_wZ, v_wD, v_wS, v_wR, v_wU, v_wO, v_wG, v_wT, v_P, v_Q, v_Z, v_D, v_S, v_R, v_U, v_O, v_G, v_T, v_kl, v_kmo, v_kse, v_kP, v_kQ, v_kZ, v_kD, v_kS, v_kR, v_kU, v_kO, v_kG, v_kT, v_A, v_X0, v_X1, v_X2, v_X3, v_pc, v_pm, v_lc, v_lm⟩ := h
              have e := hU.symm
              refine ⟨v_sc, ?_, v_mo, v_se, v_ik, v_ba, v_wP, v_wZ, v_wD, v_wS, v_wR, v_wU, v_wO, v_wG, v_wT, v_P, v_Q, v_Z, v_D, v_S, v_R, ?_, v_O, v_G, v_T, ?_, v_kmo, v_kse, v_kP, v_kQ, v_kZ, v_kD, v_kS, v_kR, ?_, v_kO, v_kG, v_kT, v_A, v_X0, v_X1, v_X2, v_X3, ?_, ?_, v_lc, v_lm⟩
              · rfl
              · clear v_sc v_st v_mo v_se v_ik v_ba v_wP v_wZ v_wD v_wS v_wR v_wU v_wO v_wG v_wT v_Q v_D v_R v_O v_G v_T v_kl v_kmo v_kse v_kP v_kQ v_kZ v_kD v_kS v_kR v_kU v_kO v_kG v_kT v_A v_X0 v_X1 v_X2 v_X3 v_pc v_pm v_lc v_lm
                refine ⟨?_, ?_, ?_, fun p p0 p1 => ?_⟩
                · simp (disch := omega) only [true_and, and_true, true_or, or_true, Int.add_zero, z_up_fn, z_up_ni, z_up_eq, z_up_qi, z_rw_fn, z_rw_in, z_rw_out, if_pos, if_neg, ↓reduceIte]; omega
                · simp (disch := omega) only [true_and, and_true, true_or, or_true, Int.add_zero, z_up_fn, z_up_ni, z_up_eq, z_up_qi, z_rw_fn, z_rw_in, z_rw_out, if_pos, if_neg, ↓reduceIte]; omega
                · simp (disch := omega) only [true_and, and_true, true_or, or_true, Int.add_zero, z_up_fn, z_up_ni, z_up_eq, z_up_qi, z_rw_fn, z_rw_in, z_rw_out, if_pos, if_neg, ↓reduceIte]; omega
                · have p1 : p < σ 71 29 + 1 := p1
                  by_cases c : p = σ 71 29
                  · subst c
                    simp (disch := omega) only [true_and, and_true, true_or, or_true, Int.add_zero, z_up_fn, z_up_ni, z_up_eq, z_up_qi, z_rw_fn, z_rw_in, z_rw_out, if_pos, if_neg, ↓reduceIte, r_addUnit00_0, r_addUnit00_1, r_addUnit00_2, r_addUnit00_3, r_addUnit00_4, r_addUnit00_5]
                    omega
                  · have q := v_U.2.2.2 p p0 (by omega)
                    simp (disch := omega) only [true_and, and_true, true_or, or_true, Int.add_zero, z_up_fn, z_up_ni, z_up_eq, z_up_qi, z_rw_fn, z_rw_in, z_rw_out, if_pos, if_neg, ↓reduceIte]
                    omega
              · intro k
                have w := v_kl k
                clear v_sc v_st v_mo v_se v_ik v_ba v_wP v_wZ v_wD v_wS v_wR v_wU v_wO v_wG v_wT v_P v_Q v_Z v_D v_S v_R v_U v_O v_G v_T v_kl v_kmo v_kse v_kP v_kQ v_kZ v_kD v_kS v_kR v_kU v_kO v_kG v_kT v_A v_X0 v_X1 v_X2 v_X3 v_pc v_pm v_lc v_lm
                unfold zKL at w ⊢
                simp (disch := omega) only [true_and, and_true, true_or, or_true, Int.add_zero, z_up_fn, z_up_ni, z_up_eq, z_up_qi, z_rw_fn, z_rw_in, z_rw_out, if_pos, if_neg, ↓reduceIte]
                omega
              · intro k
                have w := v_kl k
                unfold zKL at w
                have q := v_kU k
                clear v_sc v_st v_mo v_se v_ik v_ba v_wP v_wZ v_wD v_wS v_wR v_wU v_wO v_wG v_wT v_P v_Q v_Z v_D v_S v_R v_U v_O v_G v_T v_kl v_kmo v_kse v_kP v_kQ v_kZ v_kD v_kS v_kR v_kU v_kO v_kG v_kT v_A v_X0 v_X1 v_X2 v_X3 v_pc v_pm v_lc v_lm
                refine ⟨q.1, q.2.1, q.2.2.1, fun p p0 p1 => ?_⟩
                have p2 : p < σ 113 6 := p1
                have r := q.2.2.2 p p0 p2
                simp (disch := first | omega | (simp (disch := omega) only [z_up_fn, z_up_ni, z_up_eq, z_up_qi, z_rw_fn] <;> omega) | fail) only [true_and, and_true, true_or, or_true, Int.add_zero, z_up_fn, z_up_ni, z_up_eq, z_up_qi, z_rw_fn, z_rw_in, z_rw_out, if_pos, if_neg, ↓reduceIte]
                exact r
              · exact ⟨Or.inl rfl, fun k => absurd (show (0 : Int) = 1 from k) (by decide)⟩
              · exact ⟨Or.inl rfl, v_pm.2.1, fun k => absurd (show (0 : Int) = 1 from k) (by decide)⟩
          · apply zOK_mk2
            · simp (disch := first | omega | (simp (disch := omega) only [z_up_fn, z_up_ni, z_up_eq, z_up_qi, z_rw_fn] <;> omega) | fail) only [e_102_0, e_102_6, e_102_25, e_102_17, e_102_31, e_102_48, e_102_40, e_102_59, e_102_75, e_102_67, e_102_90, e_102_93, s_133, e_140_0, e_140_16, e_141_0, e_141_25, e_85_0_0, hP, s_has_12, e_86_0_8, e_52_0, e_131_0, e_132_0, s_addUnit00, Option.bind_some, Int.add_zero, z_wid, or_true, true_or, z_up_fn, z_up_ni, z_up_eq, z_up_qi, z_rw_fn, z_rw_in, z_rw_out, if_pos, if_neg, ↓reduceIte]
              exact w_ret rfl
            · intro k hk
              simp (disch := omega) only [z_up_fn, z_rw_fn]
            · intro τ hτ
              simp (disch := first | omega | (simp (disch := omega) only [hτ] <;> omega) | fail) only [e_178_0, e_178_6, e_178_92, e_178_17, e_178_107, e_178_185, e_178_73, s_149, e_150_0, e_151_0, hτ, Option.bind_some, Int.add_zero, z_wid, or_true, true_or, z_up_fn, z_up_ni, z_up_eq, z_up_qi, z_rw_fn, z_rw_in, z_rw_out, if_pos, if_neg, ↓reduceIte]
              exact w_ret rfl
            · exact w_ref h 2
        · apply zOK_mk2
          · simp (disch := first | omega | (simp (disch := omega) only [z_up_fn, z_up_ni, z_up_eq, z_up_qi, z_rw_fn] <;> omega) | fail) only [e_102_0, e_102_6, e_102_25, e_102_17, e_102_31, e_102_48, e_102_40, e_102_59, e_102_75, e_102_67, e_102_90, e_102_93, s_133, e_140_0, e_140_16, e_141_0, e_141_25, e_85_0_0, hP, s_has_12, e_86_0_8, e_52_0, e_131_0, e_132_0, s_addUnit00, Option.bind_some, Int.add_zero, z_wid, or_true, true_or, z_up_fn, z_up_ni, z_up_eq, z_up_qi, z_rw_fn, z_rw_in, z_rw_out, if_pos, if_neg, ↓reduceIte]
            exact w_ret rfl
          · intro k hk
            simp (disch := omega) only [z_up_fn, z_rw_fn]
          · intro τ hτ
            simp (disch := first | omega | (simp (disch := omega) only [hτ] <;> omega) | fail) only [e_178_0, e_178_6, e_178_92, e_178_17, e_178_107, e_178_185, e_178_73, s_149, e_150_0, e_151_0, hτ, Option.bind_some, Int.add_zero, z_wid, or_true, true_or, z_up_fn, z_up_ni, z_up_eq, z_up_qi, z_rw_fn, z_rw_in, z_rw_out, if_pos, if_neg, ↓reduceIte]
            exact w_ret rfl
          · exact w_ref h 1
      · apply zOK_mk2
        · simp (disch := first | omega | (simp (disch := omega) only [z_up_fn, z_up_ni, z_up_eq, z_up_qi, z_rw_fn] <;> omega) | fail) only [e_102_0, e_102_6, e_102_25, e_102_17, e_102_31, e_102_48, e_102_40, e_102_59, e_102_75, e_102_67, e_102_90, e_102_93, s_133, e_140_0, e_140_16, e_141_0, e_141_25, e_85_0_0, hP, s_has_12, e_86_0_8, e_52_0, e_131_0, e_132_0, s_addUnit00, Option.bind_some, Int.add_zero, z_wid, or_true, true_or, z_up_fn, z_up_ni, z_up_eq, z_up_qi, z_rw_fn, z_rw_in, z_rw_out, if_pos, if_neg, ↓reduceIte]
          exact w_ret rfl
        · intro k hk
          simp (disch := omega) only [z_up_fn, z_rw_fn]
        · intro τ hτ
          simp (disch := first | omega | (simp (disch := omega) only [hτ] <;> omega) | fail) only [e_178_0, e_178_6, e_178_92, e_178_17, e_178_107, e_178_185, e_178_73, s_149, e_150_0, e_151_0, hτ, Option.bind_some, Int.add_zero, z_wid, or_true, true_or, z_up_fn, z_up_ni, z_up_eq, z_up_qi, z_rw_fn, z_rw_in, z_rw_out, if_pos, if_neg, ↓reduceIte]
          exact w_ret rfl
        · exact w_ref h 1
    · apply zOK_mk2
      · simp (disch := first | omega | (simp (disch := omega) only [z_up_fn, z_up_ni, z_up_eq, z_up_qi, z_rw_fn] <;> omega) | fail) only [e_102_0, e_102_6, e_102_25, e_102_17, e_102_31, e_102_48, e_102_40, e_102_59, e_102_75, e_102_67, e_102_90, e_102_93, s_133, e_140_0, e_140_16, e_141_0, e_141_25, e_85_0_0, hP, s_has_12, e_86_0_8, e_52_0, e_131_0, e_132_0, s_addUnit00, Option.bind_some, Int.add_zero, z_wid, or_true, true_or, z_up_fn, z_up_ni, z_up_eq, z_up_qi, z_rw_fn, z_rw_in, z_rw_out, if_pos, if_neg, ↓reduceIte]
        exact w_ret rfl
      · intro k hk
        simp (disch := omega) only [z_up_fn, z_rw_fn]
      · intro τ hτ
        simp (disch := first | omega | (simp (disch := omega) only [hτ] <;> omega) | fail) only [e_178_0, e_178_6, e_178_92, e_178_17, e_178_107, e_178_185, e_178_73, s_149, e_150_0, e_151_0, hτ, Option.bind_some, Int.add_zero, z_wid, or_true, true_or, z_up_fn, z_up_ni, z_up_eq, z_up_qi, z_rw_fn, z_rw_in, z_rw_out, if_pos, if_neg, ↓reduceIte]
        exact w_ret rfl
      · exact w_ref h 1
  · apply zOK_mk2
    · simp (disch := first | omega | (simp (disch := omega) only [z_up_fn, z_up_ni, z_up_eq, z_up_qi, z_rw_fn] <;> omega) | fail) only [e_102_0, e_102_6, e_102_25, e_102_17, e_102_31, e_102_48, e_102_40, e_102_59, e_102_75, e_102_67, e_102_90, e_102_93, s_133, e_140_0, e_140_16, e_141_0, e_141_25, e_85_0_0, hP, s_has_12, e_86_0_8, e_52_0, e_131_0, e_132_0, s_addUnit00, Option.bind_some, Int.add_zero, z_wid, or_true, true_or, z_up_fn, z_up_ni, z_up_eq, z_up_qi, z_rw_fn, z_rw_in, z_rw_out, if_pos, if_neg, ↓reduceIte]
      exact w_ret rfl
    · intro k hk
      simp (disch := omega) only [z_up_fn, z_rw_fn]
    · intro τ hτ
      simp (disch := first | omega | (simp (disch := omega) only [hτ] <;> omega) | fail) only [e_178_0, e_178_6, e_178_92, e_178_17, e_178_107, e_178_185, e_178_73, s_149, e_150_0, e_151_0, hτ, Option.bind_some, Int.add_zero, z_wid, or_true, true_or, z_up_fn, z_up_ni, z_up_eq, z_up_qi, z_rw_fn, z_rw_in, z_rw_out, if_pos, if_neg, ↓reduceIte]
      exact w_ret rfl
    · exact w_ref h 1
theorem o_unit01 (d : Nat) (s : Int → Int) (L : Int) (σ : Nat → Int → Int) (h : zV s L σ) (x1 x2 x3 : Int) : zOK s L (d + 9) 102 178 [some (.inl x1), some (.inl x2), some (.inl x3), some (.inl (-1)), some (.inl 1)] [some (.inl x1), some (.inl x2), some (.inl x3), some (.inl (-1)), some (.inl 1), none] σ := by
  have hwU := zV_wU h
  have hU := (zV_U h).1
  have hU1 := (zV_U h).2.1
  have hU2 := (zV_U h).2.2.1
  have hwP := zV_wP h
  have hP := (zV_P h).1
  have hP1 := (zV_P h).2.1
  have hP2 := (zV_P h).2.2.1
  by_cases c1 : 0 ≤ x1 ∧ x1 ≤ 3
  · by_cases c2 : 1 ≤ x2 ∧ x2 ≤ 240
    · by_cases c3 : 0 ≤ x3
      · by_cases c4 : x3 < z_shl 1 (σ 71 2)
        · have ws := w_shl hP1 hP2
          by_cases c5 : σ 12 3 < 6
          · apply zOK_mk2
            · simp (disch := first | omega | (simp (disch := omega) only [z_up_fn, z_up_ni, z_up_eq, z_up_qi, z_rw_fn] <;> omega) | fail) only [e_102_0, e_102_6, e_102_25, e_102_17, e_102_31, e_102_48, e_102_40, e_102_59, e_102_75, e_102_67, e_102_90, e_102_93, s_133, e_140_0, e_140_16, e_141_0, e_141_25, e_85_0_0, hP, s_has_12, e_86_0_8, e_52_0, e_131_0, e_132_0, s_addUnit01, Option.bind_some, Int.add_zero, z_wid, or_true, true_or, z_up_fn, z_up_ni, z_up_eq, z_up_qi, z_rw_fn, z_rw_in, z_rw_out, if_pos, if_neg, ↓reduceIte]
              exact w_ret rfl
            · intro k hk
              simp (disch := omega) only [z_up_fn, z_rw_fn]
            · intro τ hτ
              simp (disch := first | omega | (simp (disch := omega) only [hτ] <;> omega) | fail) only [e_178_0, e_178_6, e_178_92, e_178_17, e_178_107, e_178_185, e_178_73, s_149, e_150_0, e_151_0, hτ, Option.bind_some, Int.add_zero, z_wid, or_true, true_or, z_up_fn, z_up_ni, z_up_eq, z_up_qi, z_rw_fn, z_rw_in, z_rw_out, if_pos, if_neg, ↓reduceIte]
              exact w_ret (by omega)
            · obtain ⟨v_sc, v_st, v_mo, v_se, v_ik, v_ba, v_wP, v_wZ, v_wD, v_wS, v_wR, v_wU, v_wO, v_wG, v_wT, v_P, v_Q, v_Z, v_D, v_S, v_R, v_U, v_O, v_G, v_T, v_kl, v_kmo, v_kse, v_kP, v_kQ, v_kZ, v_kD, v_kS, v_kR, v_kU, v_kO, v_kG, v_kT, v_A, v_X0, v_X1, v_X2, v_X3, v_pc, v_pm, v_lc, v_lm⟩ := h
              have e := hU.symm
              refine ⟨v_sc, ?_, v_mo, v_se, v_ik, v_ba, v_wP, v_wZ, v_wD, v_wS, v_wR, v_wU, v_wO, v_wG, v_wT, v_P, v_Q, v_Z, v_D, v_S, v_R, ?_, v_O, v_G, v_T, ?_, v_kmo, v_kse, v_kP, v_kQ, v_kZ, v_kD, v_kS, v_kR, ?_, v_kO, v_kG, v_kT, v_A, v_X0, v_X1, v_X2, v_X3, ?_, ?_, v_lc, v_lm⟩
              · rfl
              · clear v_sc v_st v_mo v_se v_ik v_ba v_wP v_wZ v_wD v_wS v_wR v_wU v_wO v_wG v_wT v_Q v_D v_R v_O v_G v_T v_kl v_kmo v_kse v_kP v_kQ v_kZ v_kD v_kS v_kR v_kU v_kO v_kG v_kT v_A v_X0 v_X1 v_X2 v_X3 v_pc v_pm v_lc v_lm
                refine ⟨?_, ?_, ?_, fun p p0 p1 => ?_⟩
                · simp (disch := omega) only [true_and, and_true, true_or, or_true, Int.add_zero, z_up_fn, z_up_ni, z_up_eq, z_up_qi, z_rw_fn, z_rw_in, z_rw_out, if_pos, if_neg, ↓reduceIte]; omega
                · simp (disch := omega) only [true_and, and_true, true_or, or_true, Int.add_zero, z_up_fn, z_up_ni, z_up_eq, z_up_qi, z_rw_fn, z_rw_in, z_rw_out, if_pos, if_neg, ↓reduceIte]; omega
                · simp (disch := omega) only [true_and, and_true, true_or, or_true, Int.add_zero, z_up_fn, z_up_ni, z_up_eq, z_up_qi, z_rw_fn, z_rw_in, z_rw_out, if_pos, if_neg, ↓reduceIte]; omega
                · have p1 : p < σ 71 29 + 1 := p1
                  by_cases c : p = σ 71 29
                  · subst c
                    simp (disch := omega) only [true_and, and_true, true_or, or_true, Int.add_zero, z_up_fn, z_up_ni, z_up_eq, z_up_qi, z_rw_fn, z_rw_in, z_rw_out, if_pos, if_neg, ↓reduceIte, r_addUnit01_0, r_addUnit01_1, r_addUnit01_2, r_addUnit01_3, r_addUnit01_4, r_addUnit01_5]
                    omega
                  · have q := v_U.2.2.2 p p0 (by omega)
                    simp (disch := omega) only [true_and, and_true, true_or, or_true, Int.add_zero, z_up_fn, z_up_ni, z_up_eq, z_up_qi, z_rw_fn, z_rw_in, z_rw_out, if_pos, if_neg, ↓reduceIte]
                    omega
              · intro k
                have w := v_kl k
                clear v_sc v_st v_mo v_se v_ik v_ba v_wP v_wZ v_wD v_wS v_wR v_wU v_wO v_wG v_wT v_P v_Q v_Z v_D v_S v_R v_U v_O v_G v_T v_kl v_kmo v_kse v_kP v_kQ v_kZ v_kD v_kS v_kR v_kU v_kO v_kG v_kT v_A v_X0 v_X1 v_X2 v_X3 v_pc v_pm v_lc v_lm
                unfold zKL at w ⊢
                simp (disch := omega) only [true_and, and_true, true_or, or_true, Int.add_zero, z_up_fn, z_up_ni, z_up_eq, z_up_qi, z_rw_fn, z_rw_in, z_rw_out, if_pos, if_neg, ↓reduceIte]
                omega
              · intro k
                have w := v_kl k
                unfold zKL at w
                have q := v_kU k
                clear v_sc v_st v_mo v_se v_ik v_ba v_wP v_wZ v_wD v_wS v_wR v_wU v_wO v_wG v_wT v_P v_Q v_Z v_D v_S v_R v_U v_O v_G v_T v_kl v_kmo v_kse v_kP v_kQ v_kZ v_kD v_kS v_kR v_kU v_kO v_kG v_kT v_A v_X0 v_X1 v_X2 v_X3 v_pc v_pm v_lc v_lm
                refine ⟨q.1, q.2.1, q.2.2.1, fun p p0 p1 => ?_⟩
                have p2 : p < σ 113 6 := p1
                have r := q.2.2.2 p p0 p2
                simp (disch := first | omega | (simp (disch := omega) only [z_up_fn, z_up_ni, z_up_eq, z_up_qi, z_rw_fn] <;> omega) | fail) only [true_and, and_true, true_or, or_true, Int.add_zero, z_up_fn, z_up_ni, z_up_eq, z_up_qi, z_rw_fn, z_rw_in, z_rw_out, if_pos, if_neg, ↓reduceIte]
                exact r
              · exact ⟨Or.inl rfl, fun k => absurd (show (0 : Int) = 1 from k) (by decide)⟩
              · exact ⟨Or.inl rfl, v_pm.2.1, fun k => absurd (show (0 : Int) = 1 from k) (by decide)⟩
          · apply zOK_mk2
            · simp (disch := first | omega | (simp (disch := omega) only [z_up_fn, z_up_ni, z_up_eq, z_up_qi, z_rw_fn] <;> omega) | fail) only [e_102_0, e_102_6, e_102_25, e_102_17, e_102_31, e_102_48, e_102_40, e_102_59, e_102_75, e_102_67, e_102_90, e_102_93, s_133, e_140_0, e_140_16, e_141_0, e_141_25, e_85_0_0, hP, s_has_12, e_86_0_8, e_52_0, e_131_0, e_132_0, s_addUnit01, Option.bind_some, Int.add_zero, z_wid, or_true, true_or, z_up_fn, z_up_ni, z_up_eq, z_up_qi, z_rw_fn, z_rw_in, z_rw_out, if_pos, if_neg, ↓reduceIte]
              exact w_ret rfl
            · intro k hk
              simp (disch := omega) only [z_up_fn, z_rw_fn]
            · intro τ hτ
              simp (disch := first | omega | (simp (disch := omega) only [hτ] <;> omega) | fail) only [e_178_0, e_178_6, e_178_92, e_178_17, e_178_107, e_178_185, e_178_73, s_149, e_150_0, e_151_0, hτ, Option.bind_some, Int.add_zero, z_wid, or_true, true_or, z_up_fn, z_up_ni, z_up_eq, z_up_qi, z_rw_fn, z_rw_in, z_rw_out, if_pos, if_neg, ↓reduceIte]
              exact w_ret rfl
            · exact w_ref h 2
        · apply zOK_mk2
          · simp (disch := first | omega | (simp (disch := omega) only [z_up_fn, z_up_ni, z_up_eq, z_up_qi, z_rw_fn] <;> omega) | fail) only [e_102_0, e_102_6, e_102_25, e_102_17, e_102_31, e_102_48, e_102_40, e_102_59, e_102_75, e_102_67, e_102_90, e_102_93, s_133, e_140_0, e_140_16, e_141_0, e_141_25, e_85_0_0, hP, s_has_12, e_86_0_8, e_52_0, e_131_0, e_132_0, s_addUnit01, Option.bind_some, Int.add_zero, z_wid, or_true, true_or, z_up_fn, z_up_ni, z_up_eq, z_up_qi, z_rw_fn, z_rw_in, z_rw_out, if_pos, if_neg, ↓reduceIte]
            exact w_ret rfl
          · intro k hk
            simp (disch := omega) only [z_up_fn, z_rw_fn]
          · intro τ hτ
            simp (disch := first | omega | (simp (disch := omega) only [hτ] <;> omega) | fail) only [e_178_0, e_178_6, e_178_92, e_178_17, e_178_107, e_178_185, e_178_73, s_149, e_150_0, e_151_0, hτ, Option.bind_some, Int.add_zero, z_wid, or_true, true_or, z_up_fn, z_up_ni, z_up_eq, z_up_qi, z_rw_fn, z_rw_in, z_rw_out, if_pos, if_neg, ↓reduceIte]
            exact w_ret rfl
          · exact w_ref h 1
      · apply zOK_mk2
        · simp (disch := first | omega | (simp (disch := omega) only [z_up_fn, z_up_ni, z_up_eq, z_up_qi, z_rw_fn] <;> omega) | fail) only [e_102_0, e_102_6, e_102_25, e_102_17, e_102_31, e_102_48, e_102_40, e_102_59, e_102_75, e_102_67, e_102_90, e_102_93, s_133, e_140_0, e_140_16, e_141_0, e_141_25, e_85_0_0, hP, s_has_12, e_86_0_8, e_52_0, e_131_0, e_132_0, s_addUnit01, Option.bind_some, Int.add_zero, z_wid, or_true, true_or, z_up_fn, z_up_ni, z_up_eq, z_up_qi, z_rw_fn, z_rw_in, z_rw_out, if_pos, if_neg, ↓reduceIte]
          exact w_ret rfl
        · intro k hk
          simp (disch := omega) only [z_up_fn, z_rw_fn]
        · intro τ hτ
          simp (disch := first | omega | (simp (disch := omega) only [hτ] <;> omega) | fail) only [e_178_0, e_178_6, e_178_92, e_178_17, e_178_107, e_178_185, e_178_73, s_149, e_150_0, e_151_0, hτ, Option.bind_some, Int.add_zero, z_wid, or_true, true_or, z_up_fn, z_up_ni, z_up_eq, z_up_qi, z_rw_fn, z_rw_in, z_rw_out, if_pos, if_neg, ↓reduceIte]
          exact w_ret rfl
        · exact w_ref h 1
    · apply zOK_mk2
      · simp (disch := first | omega | (simp (disch := omega) only [z_up_fn, z_up_ni, z_up_eq, z_up_qi, z_rw_fn] <;> omega) | fail) only [e_102_0, e_102_6, e_102_25, e_102_17, e_102_31, e_102_48, e_102_40, e_102_59, e_102_75, e_102_67, e_102_90, e_102_93, s_133, e_140_0, e_140_16, e_141_0, e_141_25, e_85_0_0, hP, s_has_12, e_86_0_8, e_52_0, e_131_0, e_132_0, s_addUnit01, Option.bind_some, Int.add_zero, z_wid, or_true, true_or, z_up_fn, z_up_ni, z_up_eq, z_up_qi, z_rw_fn, z_rw_in, z_rw_out, if_pos, if_neg, ↓reduceIte]
        exact w_ret rfl
      · intro k hk
        simp (disch := omega) only [z_up_fn, z_rw_fn]
      · intro τ hτ
        simp (disch := first | omega | (simp (disch := omega) only [hτ] <;> omega) | fail) only [e_178_0, e_178_6, e_178_92, e_178_17, e_178_107, e_178_185, e_178_73, s_149, e_150_0, e_151_0, hτ, Option.bind_some, Int.add_zero, z_wid, or_true, true_or, z_up_fn, z_up_ni, z_up_eq, z_up_qi, z_rw_fn, z_rw_in, z_rw_out, if_pos, if_neg, ↓reduceIte]
        exact w_ret rfl
      · exact w_ref h 1
  · apply zOK_mk2
    · simp (disch := first | omega | (simp (disch := omega) only [z_up_fn, z_up_ni, z_up_eq, z_up_qi, z_rw_fn] <;> omega) | fail) only [e_102_0, e_102_6, e_102_25, e_102_17, e_102_31, e_102_48, e_102_40, e_102_59, e_102_75, e_102_67, e_102_90, e_102_93, s_133, e_140_0, e_140_16, e_141_0, e_141_25, e_85_0_0, hP, s_has_12, e_86_0_8, e_52_0, e_131_0, e_132_0, s_addUnit01, Option.bind_some, Int.add_zero, z_wid, or_true, true_or, z_up_fn, z_up_ni, z_up_eq, z_up_qi, z_rw_fn, z_rw_in, z_rw_out, if_pos, if_neg, ↓reduceIte]
      exact w_ret rfl
    · intro k hk
      simp (disch := omega) only [z_up_fn, z_rw_fn]
    · intro τ hτ
      simp (disch := first | omega | (simp (disch := omega) only [hτ] <;> omega) | fail) only [e_178_0, e_178_6, e_178_92, e_178_17, e_178_107, e_178_185, e_178_73, s_149, e_150_0, e_151_0, hτ, Option.bind_some, Int.add_zero, z_wid, or_true, true_or, z_up_fn, z_up_ni, z_up_eq, z_up_qi, z_rw_fn, z_rw_in, z_rw_out, if_pos, if_neg, ↓reduceIte]
      exact w_ret rfl
    · exact w_ref h 1
theorem o_unit10 (d : Nat) (s : Int → Int) (L : Int) (σ : Nat → Int → Int) (h : zV s L σ) (x1 x2 x3 x4 : Int) (h4 : x4 < 2147483648) (hn : ¬ x4 = -1) : zOK s L (d + 9) 102 178 [some (.inl x1), some (.inl x2), some (.inl x3), some (.inl x4), some (.inl 0)] [some (.inl x1), some (.inl x2), some (.inl x3), some (.inl x4), some (.inl 0), none] σ := by
  have hwU := zV_wU h
  have hU := (zV_U h).1
  have hU1 := (zV_U h).2.1
  have hU2 := (zV_U h).2.2.1
  have hwP := zV_wP h
  have hP := (zV_P h).1
  have hP1 := (zV_P h).2.1
  have hP2 := (zV_P h).2.2.1
  by_cases c1 : 0 ≤ x1 ∧ x1 ≤ 3
  · by_cases c2 : 1 ≤ x2 ∧ x2 ≤ 240
    · by_cases c3 : 0 ≤ x3
      · by_cases c4 : x3 < z_shl 1 (σ 71 2)
        · have ws := w_shl hP1 hP2
          by_cases c5 : 0 ≤ x4
          · have w4 := w_tens c5 h4
            have hb : ¬ x4 = -1 := by omega
            by_cases c6 : x4 % 10 < σ 71 29
            · by_cases c7 : x4 / 10 ≤ 200
              · by_cases c8 : σ 12 3 < 6
                · apply zOK_mk2
                  · simp (disch := first | omega | (simp (disch := omega) only [z_up_fn, z_up_ni, z_up_eq, z_up_qi, z_rw_fn] <;> omega) | fail) only [e_102_0, e_102_6, e_102_25, e_102_17, e_102_31, e_102_48, e_102_40, e_102_59, e_102_75, e_102_67, e_102_90, e_102_93, s_133, e_140_0, e_140_16, e_141_0, e_141_25, e_85_0_0, hP, s_has_12, e_86_0_8, e_52_0, e_131_0, e_132_0, s_addUnit10, Option.bind_some, Int.add_zero, z_wid, or_true, true_or, z_up_fn, z_up_ni, z_up_eq, z_up_qi, z_rw_fn, z_rw_in, z_rw_out, if_pos, if_neg, ↓reduceIte]
                    exact w_ret rfl
                  · intro k hk
                    simp (disch := omega) only [z_up_fn, z_rw_fn]
                  · intro τ hτ
                    simp (disch := first | omega | (simp (disch := omega) only [hτ] <;> omega) | fail) only [e_178_0, e_178_6, e_178_92, e_178_17, e_178_107, e_178_185, e_178_73, s_149, e_150_0, e_151_0, hτ, Option.bind_some, Int.add_zero, z_wid, or_true, true_or, z_up_fn, z_up_ni, z_up_eq, z_up_qi, z_rw_fn, z_rw_in, z_rw_out, if_pos, if_neg, ↓reduceIte]
                    exact w_ret (by omega)
                  · obtain ⟨v_sc, v_st, v_mo, v_se, v_ik, v_ba, v_wP, v_wZ, v_wD, v_wS, v_wR, v_wU, v_wO, v_wG, v_wT, v_P, v_Q, v_Z, v_D, v_S, v_R, v_U, v_O, v_G, v_T, v_kl, v_kmo, v_kse, v_kP, v_kQ, v_kZ, v_kD, v_kS, v_kR, v_kU, v_kO, v_kG, v_kT, v_A, v_X0, v_X1, v_X2, v_X3, v_pc, v_pm, v_lc, v_lm⟩ := h
                    have e := hU.symm
                    refine ⟨v_sc, ?_, v_mo, v_se, v_ik, v_ba, v_wP, v_wZ, v_wD, v_wS, v_wR, v_wU, v_wO, v_wG, v_wT, v_P, v_Q, v_Z, v_D, v_S, v_R, ?_, v_O, v_G, v_T, ?_, v_kmo, v_kse, v_kP, v_kQ, v_kZ, v_kD, v_kS, v_kR, ?_, v_kO, v_kG, v_kT, v_A, v_X0, v_X1, v_X2, v_X3, ?_, ?_, v_lc, v_lm⟩
                    · rfl
                    · clear v_sc v_st v_mo v_se v_ik v_ba v_wP v_wZ v_wD v_wS v_wR v_wU v_wO v_wG v_wT v_Q v_D v_R v_O v_G v_T v_kl v_kmo v_kse v_kP v_kQ v_kZ v_kD v_kS v_kR v_kU v_kO v_kG v_kT v_A v_X0 v_X1 v_X2 v_X3 v_pc v_pm v_lc v_lm
                      refine ⟨?_, ?_, ?_, fun p p0 p1 => ?_⟩
                      · simp (disch := omega) only [true_and, and_true, true_or, or_true, Int.add_zero, z_up_fn, z_up_ni, z_up_eq, z_up_qi, z_rw_fn, z_rw_in, z_rw_out, if_pos, if_neg, ↓reduceIte]; omega
                      · simp (disch := omega) only [true_and, and_true, true_or, or_true, Int.add_zero, z_up_fn, z_up_ni, z_up_eq, z_up_qi, z_rw_fn, z_rw_in, z_rw_out, if_pos, if_neg, ↓reduceIte]; omega
                      · simp (disch := omega) only [true_and, and_true, true_or, or_true, Int.add_zero, z_up_fn, z_up_ni, z_up_eq, z_up_qi, z_rw_fn, z_rw_in, z_rw_out, if_pos, if_neg, ↓reduceIte]; omega
                      · have p1 : p < σ 71 29 + 1 := p1
                        by_cases c : p = σ 71 29
                        · subst c
                          simp (disch := omega) only [true_and, and_true, true_or, or_true, Int.add_zero, z_up_fn, z_up_ni, z_up_eq, z_up_qi, z_rw_fn, z_rw_in, z_rw_out, if_pos, if_neg, ↓reduceIte, r_addUnit10_0, r_addUnit10_1, r_addUnit10_2, r_addUnit10_3, r_addUnit10_4, r_addUnit10_5]
                          omega
                        · have q := v_U.2.2.2 p p0 (by omega)
                          simp (disch := omega) only [true_and, and_true, true_or, or_true, Int.add_zero, z_up_fn, z_up_ni, z_up_eq, z_up_qi, z_rw_fn, z_rw_in, z_rw_out, if_pos, if_neg, ↓reduceIte]
                          omega
                    · intro k
                      have w := v_kl k
                      clear v_sc v_st v_mo v_se v_ik v_ba v_wP v_wZ v_wD v_wS v_wR v_wU v_wO v_wG v_wT v_P v_Q v_Z v_D v_S v_R v_U v_O v_G v_T v_kl v_kmo v_kse v_kP v_kQ v_kZ v_kD v_kS v_kR v_kU v_kO v_kG v_kT v_A v_X0 v_X1 v_X2 v_X3 v_pc v_pm v_lc v_lm
                      unfold zKL at w ⊢
                      simp (disch := omega) only [true_and, and_true, true_or, or_true, Int.add_zero, z_up_fn, z_up_ni, z_up_eq, z_up_qi, z_rw_fn, z_rw_in, z_rw_out, if_pos, if_neg, ↓reduceIte]
                      omega
                    · intro k
                      have w := v_kl k
                      unfold zKL at w
                      have q := v_kU k
                      clear v_sc v_st v_mo v_se v_ik v_ba v_wP v_wZ v_wD v_wS v_wR v_wU v_wO v_wG v_wT v_P v_Q v_Z v_D v_S v_R v_U v_O v_G v_T v_kl v_kmo v_kse v_kP v_kQ v_kZ v_kD v_kS v_kR v_kU v_kO v_kG v_kT v_A v_X0 v_X1 v_X2 v_X3 v_pc v_pm v_lc v_lm
                      refine ⟨q.1, q.2.1, q.2.2.1, fun p p0 p1 => ?_⟩
                      have p2 : p < σ 113 6 := p1
                      have r := q.2.2.2 p p0 p2
                      simp (disch := first | omega | (simp (disch := omega) only [z_up_fn, z_up_ni, z_up_eq, z_up_qi, z_rw_fn] <;> omega) | fail) only [true_and, and_true, true_or, or_true, Int.add_zero, z_up_fn, z_up_ni, z_up_eq, z_up_qi, z_rw_fn, z_rw_in, z_rw_out, if_pos, if_neg, ↓reduceIte]
                      exact r
                    · exact ⟨Or.inl rfl, fun k => absurd (show (0 : Int) = 1 from k) (by decide)⟩
                    · exact ⟨Or.inl rfl, v_pm.2.1, fun k => absurd (show (0 : Int) = 1 from k) (by decide)⟩
                · apply zOK_mk2
                  · simp (disch := first | omega | (simp (disch := omega) only [z_up_fn, z_up_ni, z_up_eq, z_up_qi, z_rw_fn] <;> omega) | fail) only [e_102_0, e_102_6, e_102_25, e_102_17, e_102_31, e_102_48, e_102_40, e_102_59, e_102_75, e_102_67, e_102_90, e_102_93, s_133, e_140_0, e_140_16, e_141_0, e_141_25, e_85_0_0, hP, s_has_12, e_86_0_8, e_52_0, e_131_0, e_132_0, s_addUnit10, Option.bind_some, Int.add_zero, z_wid, or_true, true_or, z_up_fn, z_up_ni, z_up_eq, z_up_qi, z_rw_fn, z_rw_in, z_rw_out, if_pos, if_neg, ↓reduceIte]
                    exact w_ret rfl
                  · intro k hk
                    simp (disch := omega) only [z_up_fn, z_rw_fn]
                  · intro τ hτ
                    simp (disch := first | omega | (simp (disch := omega) only [hτ] <;> omega) | fail) only [e_178_0, e_178_6, e_178_92, e_178_17, e_178_107, e_178_185, e_178_73, s_149, e_150_0, e_151_0, hτ, Option.bind_some, Int.add_zero, z_wid, or_true, true_or, z_up_fn, z_up_ni, z_up_eq, z_up_qi, z_rw_fn, z_rw_in, z_rw_out, if_pos, if_neg, ↓reduceIte]
                    exact w_ret rfl
                  · exact w_ref h 2
              · apply zOK_mk2
                · simp (disch := first | omega | (simp (disch := omega) only [z_up_fn, z_up_ni, z_up_eq, z_up_qi, z_rw_fn] <;> omega) | fail) only [e_102_0, e_102_6, e_102_25, e_102_17, e_102_31, e_102_48, e_102_40, e_102_59, e_102_75, e_102_67, e_102_90, e_102_93, s_133, e_140_0, e_140_16, e_141_0, e_141_25, e_85_0_0, hP, s_has_12, e_86_0_8, e_52_0, e_131_0, e_132_0, s_addUnit10, Option.bind_some, Int.add_zero, z_wid, or_true, true_or, z_up_fn, z_up_ni, z_up_eq, z_up_qi, z_rw_fn, z_rw_in, z_rw_out, if_pos, if_neg, ↓reduceIte]
                  exact w_ret rfl
                · intro k hk
                  simp (disch := omega) only [z_up_fn, z_rw_fn]
                · intro τ hτ
                  simp (disch := first | omega | (simp (disch := omega) only [hτ] <;> omega) | fail) only [e_178_0, e_178_6, e_178_92, e_178_17, e_178_107, e_178_185, e_178_73, s_149, e_150_0, e_151_0, hτ, Option.bind_some, Int.add_zero, z_wid, or_true, true_or, z_up_fn, z_up_ni, z_up_eq, z_up_qi, z_rw_fn, z_rw_in, z_rw_out, if_pos, if_neg, ↓reduceIte]
                  exact w_ret rfl
                · exact w_ref h 1
            · apply zOK_mk2
              · simp (disch := first | omega | (simp (disch := omega) only [z_up_fn, z_up_ni, z_up_eq, z_up_qi, z_rw_fn] <;> omega) | fail) only [e_102_0, e_102_6, e_102_25, e_102_17, e_102_31, e_102_48, e_102_40, e_102_59, e_102_75, e_102_67, e_102_90, e_102_93, s_133, e_140_0, e_140_16, e_141_0, e_141_25, e_85_0_0, hP, s_has_12, e_86_0_8, e_52_0, e_131_0, e_132_0, s_addUnit10, Option.bind_some, Int.add_zero, z_wid, or_true, true_or, z_up_fn, z_up_ni, z_up_eq, z_up_qi, z_rw_fn, z_rw_in, z_rw_out, if_pos, if_neg, ↓reduceIte]
                exact w_ret rfl
              · intro k hk
                simp (disch := omega) only [z_up_fn, z_rw_fn]
              · intro τ hτ
                simp (disch := first | omega | (simp (disch := omega) only [hτ] <;> omega) | fail) only [e_178_0, e_178_6, e_178_92, e_178_17, e_178_107, e_178_185, e_178_73, s_149, e_150_0, e_151_0, hτ, Option.bind_some, Int.add_zero, z_wid, or_true, true_or, z_up_fn, z_up_ni, z_up_eq, z_up_qi, z_rw_fn, z_rw_in, z_rw_out, if_pos, if_neg, ↓reduceIte]
                exact w_ret rfl
              · exact w_ref h 1
          · apply zOK_mk2
            · simp (disch := first | omega | (simp (disch := omega) only [z_up_fn, z_up_ni, z_up_eq, z_up_qi, z_rw_fn] <;> omega) | fail) only [e_102_0, e_102_6, e_102_25, e_102_17, e_102_31, e_102_48, e_102_40, e_102_59, e_102_75, e_102_67, e_102_90, e_102_93, s_133, e_140_0, e_140_16, e_141_0, e_141_25, e_85_0_0, hP, s_has_12, e_86_0_8, e_52_0, e_131_0, e_132_0, s_addUnit10, Option.bind_some, Int.add_zero, z_wid, or_true, true_or, z_up_fn, z_up_ni, z_up_eq, z_up_qi, z_rw_fn, z_rw_in, z_rw_out, if_pos, if_neg, ↓reduceIte]
              exact w_ret rfl
            · intro k hk
              simp (disch := omega) only [z_up_fn, z_rw_fn]
            · intro τ hτ
              simp (disch := first | omega | (simp (disch := omega) only [hτ] <;> omega) | fail) only [e_178_0, e_178_6, e_178_92, e_178_17, e_178_107, e_178_185, e_178_73, s_149, e_150_0, e_151_0, hτ, Option.bind_some, Int.add_zero, z_wid, or_true, true_or, z_up_fn, z_up_ni, z_up_eq, z_up_qi, z_rw_fn, z_rw_in, z_rw_out, if_pos, if_neg, ↓reduceIte]
              exact w_ret rfl
            · exact w_ref h 1
        · apply zOK_mk2
          · simp (disch := first | omega | (simp (disch := omega) only [z_up_fn, z_up_ni, z_up_eq, z_up_qi, z_rw_fn] <;> omega) | fail) only [e_102_0, e_102_6, e_102_25, e_102_17, e_102_31, e_102_48, e_102_40, e_102_59, e_102_75, e_102_67, e_102_90, e_102_93, s_133, e_140_0, e_140_16, e_141_0, e_141_25, e_85_0_0, hP, s_has_12, e_86_0_8, e_52_0, e_131_0, e_132_0, s_addUnit10, Option.bind_some, Int.add_zero, z_wid, or_true, true_or, z_up_fn, z_up_ni, z_up_eq, z_up_qi, z_rw_fn, z_rw_in, z_rw_out, if_pos, if_neg, ↓reduceIte]
            exact w_ret rfl
          · intro k hk
            simp (disch := omega) only [z_up_fn, z_rw_fn]
          · intro τ hτ
            simp (disch := first | omega | (simp (disch := omega) only [hτ] <;> omega) | fail) only [e_178_0, e_178_6, e_178_92, e_178_17, e_178_107, e_178_185, e_178_73, s_149, e_150_0, e_151_0, hτ, Option.bind_some, Int.add_zero, z_wid, or_true, true_or, z_up_fn, z_up_ni, z_up_eq, z_up_qi, z_rw_fn, z_rw_in, z_rw_out, if_pos, if_neg, ↓reduceIte]
            exact w_ret rfl
          · exact w_ref h 1
      · apply zOK_mk2
        · simp (disch := first | omega | (simp (disch := omega) only [z_up_fn, z_up_ni, z_up_eq, z_up_qi, z_rw_fn] <;> omega) | fail) only [e_102_0, e_102_6, e_102_25, e_102_17, e_102_31, e_102_48, e_102_40, e_102_59, e_102_75, e_102_67, e_102_90, e_102_93, s_133, e_140_0, e_140_16, e_141_0, e_141_25, e_85_0_0, hP, s_has_12, e_86_0_8, e_52_0, e_131_0, e_132_0, s_addUnit10, Option.bind_some, Int.add_zero, z_wid, or_true, true_or, z_up_fn, z_up_ni, z_up_eq, z_up_qi, z_rw_fn, z_rw_in, z_rw_out, if_pos, if_neg, ↓reduceIte]
          exact w_ret rfl
        · intro k hk
          simp (disch := omega) only [z_up_fn, z_rw_fn]
        · intro τ hτ
          simp (disch := first | omega | (simp (disch := omega) only [hτ] <;> omega) | fail) only [e_178_0, e_178_6, e_178_92, e_178_17, e_178_107, e_178_185, e_178_73, s_149, e_150_0, e_151_0, hτ, Option.bind_some, Int.add_zero, z_wid, or_true, true_or, z_up_fn, z_up_ni, z_up_eq, z_up_qi, z_rw_fn, z_rw_in, z_rw_out, if_pos, if_neg, ↓reduceIte]
          exact w_ret rfl
        · exact w_ref h 1
    · apply zOK_mk2
      · simp (disch := first | omega | (simp (disch := omega) only [z_up_fn, z_up_ni, z_up_eq, z_up_qi, z_rw_fn] <;> omega) | fail) only [e_102_0, e_102_6, e_102_25, e_102_17, e_102_31, e_102_48, e_102_40, e_102_59, e_102_75, e_102_67, e_102_90, e_102_93, s_133, e_140_0, e_140_16, e_141_0, e_141_25, e_85_0_0, hP, s_has_12, e_86_0_8, e_52_0, e_131_0, e_132_0, s_addUnit10, Option.bind_some, Int.add_zero, z_wid, or_true, true_or, z_up_fn, z_up_ni, z_up_eq, z_up_qi, z_rw_fn, z_rw_in, z_rw_out, if_pos, if_neg, ↓reduceIte]
        exact w_ret rfl
      · intro k hk
        simp (disch := omega) only [z_up_fn, z_rw_fn]
      · intro τ hτ
        simp (disch := first | omega | (simp (disch := omega) only [hτ] <;> omega) | fail) only [e_178_0, e_178_6, e_178_92, e_178_17, e_178_107, e_178_185, e_178_73, s_149, e_150_0, e_151_0, hτ, Option.bind_some, Int.add_zero, z_wid, or_true, true_or, z_up_fn, z_up_ni, z_up_eq, z_up_qi, z_rw_fn, z_rw_in, z_rw_out, if_pos, if_neg, ↓reduceIte]
        exact w_ret rfl
      · exact w_ref h 1
  · apply zOK_mk2
    · simp (disch := first | omega | (simp (disch := omega) only [z_up_fn, z_up_ni, z_up_eq, z_up_qi, z_rw_fn] <;> omega) | fail) only [e_102_0, e_102_6, e_102_25, e_102_17, e_102_31, e_102_48, e_102_40, e_102_59, e_102_75, e_102_67, e_102_90, e_102_93, s_133, e_140_0, e_140_16, e_141_0, e_141_25, e_85_0_0, hP, s_has_12, e_86_0_8, e_52_0, e_131_0, e_132_0, s_addUnit10, Option.bind_some, Int.add_zero, z_wid, or_true, true_or, z_up_fn, z_up_ni, z_up_eq, z_up_qi, z_rw_fn, z_rw_in, z_rw_out, if_pos, if_neg, ↓reduceIte]
      exact w_ret rfl
    · intro k hk
      simp (disch := omega) only [z_up_fn, z_rw_fn]
    · intro τ hτ
      simp (disch := first | omega | (simp (disch := omega) only [hτ] <;> omega) | fail) only [e_178_0, e_178_6, e_178_92, e_178_17, e_178_107, e_178_185, e_178_73, s_149, e_150_0, e_151_0, hτ, Option.bind_some, Int.add_zero, z_wid, or_true, true_or, z_up_fn, z_up_ni, z_up_eq, z_up_qi, z_rw_fn, z_rw_in, z_rw_out, if_pos, if_neg, ↓reduceIte]
      exact w_ret rfl
    · exact w_ref h 1
theorem o_unit11 (d : Nat) (s : Int → Int) (L : Int) (σ : Nat → Int → Int) (h : zV s L σ) (x1 x2 x3 x4 : Int) (h4 : x4 < 2147483648) (hn : ¬ x4 = -1) : zOK s L (d + 9) 102 178 [some (.inl x1), some (.inl x2), some (.inl x3), some (.inl x4), some (.inl 1)] [some (.inl x1), some (.inl x2), some (.inl x3), some (.inl x4), some (.inl 1), none] σ := by
  have hwU := zV_wU h
  have hU := (zV_U h).1
  have hU1 := (zV_U h).2.1
  have hU2 := (zV_U h).2.2.1
  have hwP := zV_wP h
  have hP := (zV_P h).1
  have hP1 := (zV_P h).2.1
  have hP2 := (zV_P h).2.2.1
  by_cases c1 : 0 ≤ x1 ∧ x1 ≤ 3
  · by_cases c2 : 1 ≤ x2 ∧ x2 ≤ 240
    · by_cases c3 : 0 ≤ x3
      · by_cases c4 : x3 < z_shl 1 (σ 71 2)
        · have ws := w_shl hP1 hP2
          by_cases c5 : 0 ≤ x4
          · have w4 := w_tens c5 h4
            have hb : ¬ x4 = -1 := by omega
            by_cases c6 : x4 % 10 < σ 71 29
            · by_cases c7 : x4 / 10 ≤ 200
              · by_cases c8 : σ 12 3 < 6
                · apply zOK_mk2
                  · simp (disch := first | omega | (simp (disch := omega) only [z_up_fn, z_up_ni, z_up_eq, z_up_qi, z_rw_fn] <;> omega) | fail) only [e_102_0, e_102_6, e_102_25, e_102_17, e_102_31, e_102_48, e_102_40, e_102_59, e_102_75, e_102_67, e_102_90, e_102_93, s_133, e_140_0, e_140_16, e_141_0, e_141_25, e_85_0_0, hP, s_has_12, e_86_0_8, e_52_0, e_131_0, e_132_0, s_addUnit11, Option.bind_some, Int.add_zero, z_wid, or_true, true_or, z_up_fn, z_up_ni, z_up_eq, z_up_qi, z_rw_fn, z_rw_in, z_rw_out, if_pos, if_neg, ↓reduceIte]
                    exact w_ret rfl
                  · intro k hk
                    simp (disch := omega) only [z_up_fn, z_rw_fn]
                  · intro τ hτ
                    simp (disch := first | omega | (simp (disch := omega) only [hτ] <;> omega) | fail) only [e_178_0, e_178_6, e_178_92, e_178_17, e_178_107, e_178_185, e_178_73, s_149, e_150_0, e_151_0, hτ, Option.bind_some, Int.add_zero, z_wid, or_true, true_or, z_up_fn, z_up_ni, z_up_eq, z_up_qi, z_rw_fn, z_rw_in, z_rw_out, if_pos, if_neg, ↓reduceIte]
                    exact w_ret (by omega)
                  · obtain ⟨v_sc, v_st, v_mo, v_se, v_ik, v_ba, v_wP, v_wZ, v_wD, v_wS, v_wR, v_wU, v_wO, v_wG, v_wT, v_P, v_Q, v_Z, v_D, v_S, v_R, v_U, v_O, v_G, v_T, v_kl, v_kmo, v_kse, v_kP, v_kQ, v_kZ, v_kD, v_kS, v_kR, v_kU, v_kO, v_kG, v_kT, v_A, v_X0, v_X1, v_X2, v_X3, v_pc, v_pm, v_lc, v_lm⟩ := h
                    have e := hU.symm
                    refine ⟨v_sc, ?_, v_mo, v_se, v_ik, v_ba, v_wP, v_wZ, v_wD, v_wS, v_wR, v_wU, v_wO, v_wG, v_wT, v_P, v_Q, v_Z, v_D, v_S, v_R, ?_, v_O, v_G, v_T, ?_, v_kmo, v_kse, v_kP, v_kQ, v_kZ, v_kD, v_kS, v_kR, ?_, v_kO, v_kG, v_kT, v_A, v_X0, v_X1, v_X2, v_X3, ?_, ?_, v_lc, v_lm⟩
                    · rfl
                    · clear v_sc v_st v_mo v_se v_ik v_ba v_wP v_wZ v_wD v_wS v_wR v_wU v_wO v_wG v_wT v_Q v_D v_R v_O v_G v_T v_kl v_kmo v_kse v_kP v_kQ v_kZ v_kD v_kS v_kR v_kU v_kO v_kG v_kT v_A v_X0 v_X1 v_X2 v_X3 v_pc v_pm v_lc v_lm
                      refine ⟨?_, ?_, ?_, fun p p0 p1 => ?_⟩
                      · simp (disch := omega) only [true_and, and_true, true_or, or_true, Int.add_zero, z_up_fn, z_up_ni, z_up_eq, z_up_qi, z_rw_fn, z_rw_in, z_rw_out, if_pos, if_neg, ↓reduceIte]; omega
                      · simp (disch := omega) only [true_and, and_true, true_or, or_true, Int.add_zero, z_up_fn, z_up_ni, z_up_eq, z_up_qi, z_rw_fn, z_rw_in, z_rw_out, if_pos, if_neg, ↓reduceIte]; omega
                      · simp (disch := omega) only [true_and, and_true, true_or, or_true, Int.add_zero, z_up_fn, z_up_ni, z_up_eq, z_up_qi, z_rw_fn, z_rw_in, z_rw_out, if_pos, if_neg, ↓reduceIte]; omega
                      · have p1 : p < σ 71 29 + 1 := p1
                        by_cases c : p = σ 71 29
                        · subst c
                          simp (disch := omega) only [true_and, and_true, true_or, or_true, Int.add_zero, z_up_fn, z_up_ni, z_up_eq, z_up_qi, z_rw_fn, z_rw_in, z_rw_out, if_pos, if_neg, ↓reduceIte, r_addUnit11_0, r_addUnit11_1, r_addUnit11_2, r_addUnit11_3, r_addUnit11_4, r_addUnit11_5]
                          omega
                        · have q := v_U.2.2.2 p p0 (by omega)
                          simp (disch := omega) only [true_and, and_true, true_or, or_true, Int.add_zero, z_up_fn, z_up_ni, z_up_eq, z_up_qi, z_rw_fn, z_rw_in, z_rw_out, if_pos, if_neg, ↓reduceIte]
                          omega
                    · intro k
                      have w := v_kl k
                      clear v_sc v_st v_mo v_se v_ik v_ba v_wP v_wZ v_wD v_wS v_wR v_wU v_wO v_wG v_wT v_P v_Q v_Z v_D v_S v_R v_U v_O v_G v_T v_kl v_kmo v_kse v_kP v_kQ v_kZ v_kD v_kS v_kR v_kU v_kO v_kG v_kT v_A v_X0 v_X1 v_X2 v_X3 v_pc v_pm v_lc v_lm
                      unfold zKL at w ⊢
                      simp (disch := omega) only [true_and, and_true, true_or, or_true, Int.add_zero, z_up_fn, z_up_ni, z_up_eq, z_up_qi, z_rw_fn, z_rw_in, z_rw_out, if_pos, if_neg, ↓reduceIte]
                      omega
                    · intro k
                      have w := v_kl k
                      unfold zKL at w
                      have q := v_kU k
                      clear v_sc v_st v_mo v_se v_ik v_ba v_wP v_wZ v_wD v_wS v_wR v_wU v_wO v_wG v_wT v_P v_Q v_Z v_D v_S v_R v_U v_O v_G v_T v_kl v_kmo v_kse v_kP v_kQ v_kZ v_kD v_kS v_kR v_kU v_kO v_kG v_kT v_A v_X0 v_X1 v_X2 v_X3 v_pc v_pm v_lc v_lm
                      refine ⟨q.1, q.2.1, q.2.2.1, fun p p0 p1 => ?_⟩
                      have p2 : p < σ 113 6 := p1
                      have r := q.2.2.2 p p0 p2
                      simp (disch := first | omega | (simp (disch := omega) only [z_up_fn, z_up_ni, z_up_eq, z_up_qi, z_rw_fn] <;> omega) | fail) only [true_and, and_true, true_or, or_true, Int.add_zero, z_up_fn, z_up_ni, z_up_eq, z_up_qi, z_rw_fn, z_rw_in, z_rw_out, if_pos, if_neg, ↓reduceIte]
                      exact r
                    · exact ⟨Or.inl rfl, fun k => absurd (show (0 : Int) = 1 from k) (by decide)⟩
                    · exact ⟨Or.inl rfl, v_pm.2.1, fun k => absurd (show (0 : Int) = 1 from k) (by decide)⟩
                · apply zOK_mk2
                  · simp (disch := first | omega | (simp (disch := omega) only [z_up_fn, z_up_ni, z_up_eq, z_up_qi, z_rw_fn] <;> omega) | fail) only [e_102_0, e_102_6, e_102_25, e_102_17, e_102_31, e_102_48, e_102_40, e_102_59, e_102_75, e_102_67, e_102_90, e_102_93, s_133, e_140_0, e_140_16, e_141_0, e_141_25, e_85_0_0, hP, s_has_12, e_86_0_8, e_52_0, e_131_0, e_132_0, s_addUnit11, Option.bind_some, Int.add_zero, z_wid, or_true, true_or, z_up_fn, z_up_ni, z_up_eq, z_up_qi, z_rw_fn, z_rw_in, z_rw_out, if_pos, if_neg, ↓reduceIte]
                    exact w_ret rfl
                  · intro k hk
                    simp (disch := omega) only [z_up_fn, z_rw_fn]
                  · intro τ hτ
                    simp (disch := first | omega | (simp (disch := omega) only [hτ] <;> omega) | fail) only [e_178_0, e_178_6, e_178_92, e_178_17, e_178_107, e_178_185, e_178_73, s_149, e_150_0, e_151_0, hτ, Option.bind_some, Int.add_zero, z_wid, or_true, true_or, z_up_fn, z_up_ni, z_up_eq, z_up_qi, z_rw_fn, z_rw_in, z_rw_out, if_pos, if_neg, ↓reduceIte]
                    exact w_ret rfl
                  · exact w_ref h 2
              · apply zOK_mk2
                · simp (disch := first | omega | (simp (disch := omega) only [z_up_fn, z_up_ni, z_up_eq, z_up_qi, z_rw_fn] <;> omega) | fail) only [e_102_0, e_102_6, e_102_25, e_102_17, e_102_31, e_102_48, e_102_40, e_102_59, e_102_75, e_102_67, e_102_90, e_102_93, s_133, e_140_0, e_140_16, e_141_0, e_141_25, e_85_0_0, hP, s_has_12, e_86_0_8, e_52_0, e_131_0, e_132_0, s_addUnit11, Option.bind_some, Int.add_zero, z_wid, or_true, true_or, z_up_fn, z_up_ni, z_up_eq, z_up_qi, z_rw_fn, z_rw_in, z_rw_out, if_pos, if_neg, ↓reduceIte]
                  exact w_ret rfl
                · intro k hk
                  simp (disch := omega) only [z_up_fn, z_rw_fn]
                · intro τ hτ
                  simp (disch := first | omega | (simp (disch := omega) only [hτ] <;> omega) | fail) only [e_178_0, e_178_6, e_178_92, e_178_17, e_178_107, e_178_185, e_178_73, s_149, e_150_0, e_151_0, hτ, Option.bind_some, Int.add_zero, z_wid, or_true, true_or, z_up_fn, z_up_ni, z_up_eq, z_up_qi, z_rw_fn, z_rw_in, z_rw_out, if_pos, if_neg, ↓reduceIte]
                  exact w_ret rfl
                · exact w_ref h 1
            · apply zOK_mk2
              · simp (disch := first | omega | (simp (disch := omega) only [z_up_fn, z_up_ni, z_up_eq, z_up_qi, z_rw_fn] <;> omega) | fail) only [e_102_0, e_102_6, e_102_25, e_102_17, e_102_31, e_102_48, e_102_40, e_102_59, e_102_75, e_102_67, e_102_90, e_102_93, s_133, e_140_0, e_140_16, e_141_0, e_141_25, e_85_0_0, hP, s_has_12, e_86_0_8, e_52_0, e_131_0, e_132_0, s_addUnit11, Option.bind_some, Int.add_zero, z_wid, or_true, true_or, z_up_fn, z_up_ni, z_up_eq, z_up_qi, z_rw_fn, z_rw_in, z_rw_out, if_pos, if_neg, ↓reduceIte]
                exact w_ret rfl
              · intro k hk
                simp (disch := omega) only [z_up_fn, z_rw_fn]
              · intro τ hτ
                simp (disch := first | omega | (simp (disch := omega) only [hτ] <;> omega) | fail) only [e_178_0, e_178_6, e_178_92, e_178_17, e_178_107, e_178_185, e_178_73, s_149, e_150_0, e_151_0, hτ, Option.bind_some, Int.add_zero, z_wid, or_true, true_or, z_up_fn, z_up_ni, z_up_eq, z_up_qi, z_rw_fn, z_rw_in, z_rw_out, if_pos, if_neg, ↓reduceIte]
                exact w_ret rfl
              · exact w_ref h 1
          · apply zOK_mk2
            · simp (disch := first | omega | (simp (disch := omega) only [z_up_fn, z_up_ni, z_up_eq, z_up_qi, z_rw_fn] <;> omega) | fail) only [e_102_0, e_102_6, e_102_25, e_102_17, e_102_31, e_102_48, e_102_40, e_102_59, e_102_75, e_102_67, e_102_90, e_102_93, s_133, e_140_0, e_140_16, e_141_0, e_141_25, e_85_0_0, hP, s_has_12, e_86_0_8, e_52_0, e_131_0, e_132_0, s_addUnit11, Option.bind_some, Int.add_zero, z_wid, or_true, true_or, z_up_fn, z_up_ni, z_up_eq, z_up_qi, z_rw_fn, z_rw_in, z_rw_out, if_pos, if_neg, ↓reduceIte]
              exact w_ret rfl
            · intro k hk
              simp (disch := omega) only [z_up_fn, z_rw_fn]
            · intro τ hτ
              simp (disch := first | omega | (simp (disch := omega) only [hτ] <;> omega) | fail) only [e_178_0, e_178_6, e_178_92, e_178_17, e_178_107, e_178_185, e_178_73, s_149, e_150_0, e_151_0, hτ, Option.bind_some, Int.add_zero, z_wid, or_true, true_or, z_up_fn, z_up_ni, z_up_eq, z_up_qi, z_rw_fn, z_rw_in, z_rw_out, if_pos, if_neg, ↓reduceIte]
              exact w_ret rfl
            · exact w_ref h 1
        · apply zOK_mk2
          · simp (disch := first | omega | (simp (disch := omega) only [z_up_fn, z_up_ni, z_up_eq, z_up_qi, z_rw_fn] <;> omega) | fail) only [e_102_0, e_102_6, e_102_25, e_102_17, e_102_31, e_102_48, e_102_40, e_102_59, e_102_75, e_102_67, e_102_90, e_102_93, s_133, e_140_0, e_140_16, e_141_0, e_141_25, e_85_0_0, hP, s_has_12, e_86_0_8, e_52_0, e_131_0, e_132_0, s_addUnit11, Option.bind_some, Int.add_zero, z_wid, or_true, true_or, z_up_fn, z_up_ni, z_up_eq, z_up_qi, z_rw_fn, z_rw_in, z_rw_out, if_pos, if_neg, ↓reduceIte]
            exact w_ret rfl
          · intro k hk
            simp (disch := omega) only [z_up_fn, z_rw_fn]
          · intro τ hτ
            simp (disch := first | omega | (simp (disch := omega) only [hτ] <;> omega) | fail) only [e_178_0, e_178_6, e_178_92, e_178_17, e_178_107, e_178_185, e_178_73, s_149, e_150_0, e_151_0, hτ, Option.bind_some, Int.add_zero, z_wid, or_true, true_or, z_up_fn, z_up_ni, z_up_eq, z_up_qi, z_rw_fn, z_rw_in, z_rw_out, if_pos, if_neg, ↓reduceIte]
            exact w_ret rfl
          · exact w_ref h 1
      · apply zOK_mk2
        · simp (disch := first | omega | (simp (disch := omega) only [z_up_fn, z_up_ni, z_up_eq, z_up_qi, z_rw_fn] <;> omega) | fail) only [e_102_0, e_102_6, e_102_25, e_102_17, e_102_31, e_102_48, e_102_40, e_102_59, e_102_75, e_102_67, e_102_90, e_102_93, s_133, e_140_0, e_140_16, e_141_0, e_141_25, e_85_0_0, hP, s_has_12, e_86_0_8, e_52_0, e_131_0, e_132_0, s_addUnit11, Option.bind_some, Int.add_zero, z_wid, or_true, true_or, z_up_fn, z_up_ni, z_up_eq, z_up_qi, z_rw_fn, z_rw_in, z_rw_out, if_pos, if_neg, ↓reduceIte]
          exact w_ret rfl
        · intro k hk
          simp (disch := omega) only [z_up_fn, z_rw_fn]
        · intro τ hτ
          simp (disch := first | omega | (simp (disch := omega) only [hτ] <;> omega) | fail) only [e_178_0, e_178_6, e_178_92, e_178_17, e_178_107, e_178_185, e_178_73, s_149, e_150_0, e_151_0, hτ, Option.bind_some, Int.add_zero, z_wid, or_true, true_or, z_up_fn, z_up_ni, z_up_eq, z_up_qi, z_rw_fn, z_rw_in, z_rw_out, if_pos, if_neg, ↓reduceIte]
          exact w_ret rfl
        · exact w_ref h 1
    · apply zOK_mk2
      · simp (disch := first | omega | (simp (disch := omega) only [z_up_fn, z_up_ni, z_up_eq, z_up_qi, z_rw_fn] <;> omega) | fail) only [e_102_0, e_102_6, e_102_25, e_102_17, e_102_31, e_102_48, e_102_40, e_102_59, e_102_75, e_102_67, e_102_90, e_102_93, s_133, e_140_0, e_140_16, e_141_0, e_141_25, e_85_0_0, hP, s_has_12, e_86_0_8, e_52_0, e_131_0, e_132_0, s_addUnit11, Option.bind_some, Int.add_zero, z_wid, or_true, true_or, z_up_fn, z_up_ni, z_up_eq, z_up_qi, z_rw_fn, z_rw_in, z_rw_out, if_pos, if_neg, ↓reduceIte]
        exact w_ret rfl
      · intro k hk
        simp (disch := omega) only [z_up_fn, z_rw_fn]
      · intro τ hτ
        simp (disch := first | omega | (simp (disch := omega) only [hτ] <;> omega) | fail) only [e_178_0, e_178_6, e_178_92, e_178_17, e_178_107, e_178_185, e_178_73, s_149, e_150_0, e_151_0, hτ, Option.bind_some, Int.add_zero, z_wid, or_true, true_or, z_up_fn, z_up_ni, z_up_eq, z_up_qi, z_rw_fn, z_rw_in, z_rw_out, if_pos, if_neg, ↓reduceIte]
        exact w_ret rfl
      · exact w_ref h 1
  · apply zOK_mk2
    · simp (disch := first | omega | (simp (disch := omega) only [z_up_fn, z_up_ni, z_up_eq, z_up_qi, z_rw_fn] <;> omega) | fail) only [e_102_0, e_102_6, e_102_25, e_102_17, e_102_31, e_102_48, e_102_40, e_102_59, e_102_75, e_102_67, e_102_90, e_102_93, s_133, e_140_0, e_140_16, e_141_0, e_141_25, e_85_0_0, hP, s_has_12, e_86_0_8, e_52_0, e_131_0, e_132_0, s_addUnit11, Option.bind_some, Int.add_zero, z_wid, or_true, true_or, z_up_fn, z_up_ni, z_up_eq, z_up_qi, z_rw_fn, z_rw_in, z_rw_out, if_pos, if_neg, ↓reduceIte]
      exact w_ret rfl
    · intro k hk
      simp (disch := omega) only [z_up_fn, z_rw_fn]
    · intro τ hτ
      simp (disch := first | omega | (simp (disch := omega) only [hτ] <;> omega) | fail) only [e_178_0, e_178_6, e_178_92, e_178_17, e_178_107, e_178_185, e_178_73, s_149, e_150_0, e_151_0, hτ, Option.bind_some, Int.add_zero, z_wid, or_true, true_or, z_up_fn, z_up_ni, z_up_eq, z_up_qi, z_rw_fn, z_rw_in, z_rw_out, if_pos, if_neg, ↓reduceIte]
      exact w_ret rfl
    · exact w_ref h 1
