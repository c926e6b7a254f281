theorem o_rule0 (d : Nat) (s : Int → Int) (L : Int) (σ : Nat → Int → Int) (h : zV s L σ) (x2 x3 x4 x5 : Int) (h4 : x4 < 2147483648) (h5 : x5 < 2147483648) : zOK s L (d + 9) 98 165 [some (.inl 0), some (.inl x2), some (.inl x3), some (.inl x4), some (.inl x5)] [some (.inl 0), some (.inl x2), some (.inl x3), some (.inl x4), some (.inl x5), none] σ := by
  have hwR := zV_wR h
  have hR := (zV_R h).1
  have hR1 := (zV_R h).2.1
  have hR2 := (zV_R h).2.2.1
  have hwZ := zV_wZ h
  have hZ := (zV_Z h).1
  have hZ1 := (zV_Z h).2.1
  have hZ2 := (zV_Z h).2.2.1
  have hM := zV_mo h
  by_cases c1 : 0 ≤ x2 ∧ x2 ≤ 5
  · by_cases c2 : 0 ≤ x3 ∧ x3 < σ 4 3
    · by_cases c3 : 0 ≤ x4 ∧ x4 / 100 ≤ x4 % 100 ∧ x4 % 100 ≤ 19
      · by_cases c4 : 0 ≤ x5
        · have w5 := w_mins c4 h5
          by_cases c5 : x5 / 10000 ≤ 1439
          · by_cases c6 : x5 / 10000 ≤ x5 % 10000 ∧ x5 % 10000 ≤ 1439
            · by_cases c7 : σ 10 3 < 12
              · apply zOK_mk2
                · simp (disch := first | omega | (simp (disch := omega) only [z_up_fn, z_up_ni, z_up_eq, z_up_qi, z_rw_fn] <;> omega) | fail) only [e_98_0, e_98_4, e_98_26, e_98_18, e_98_32, e_98_48, e_98_40, e_98_59, e_98_83, e_98_67, e_98_86, s_37, s_has_4, s_136, s_137, e_86_0_7, e_131_0, e_132_0, s_addRule0, Option.bind_some, Int.add_zero, z_wid, or_true, true_or, z_up_fn, z_up_ni, z_up_eq, z_up_qi, z_rw_fn, z_rw_in, z_rw_out, if_pos, if_neg, ↓reduceIte]
                  exact w_ret rfl
                · intro k hk
                  simp (disch := omega) only [z_up_fn, z_rw_fn]
                · intro τ hτ
                  simp (disch := first | omega | (simp (disch := omega) only [hτ] <;> omega) | fail) only [e_165_0, e_165_6, e_165_84, e_165_14, e_165_22, e_165_43, e_165_64, e_165_99, e_165_243, s_149, s_153, s_160, e_150_0, e_151_0, hτ, Option.bind_some, Int.add_zero, z_wid, or_true, true_or, z_up_fn, z_up_ni, z_up_eq, z_up_qi, z_rw_fn, z_rw_in, z_rw_out, if_pos, if_neg, ↓reduceIte]
                  exact w_ret (by omega)
                · obtain ⟨v_sc, v_st, v_mo, v_se, v_ik, v_ba, v_wP, v_wZ, v_wD, v_wS, v_wR, v_wU, v_wO, v_wG, v_wT, v_P, v_Q, v_Z, v_D, v_S, v_R, v_U, v_O, v_G, v_T, v_kl, v_kmo, v_kse, v_kP, v_kQ, v_kZ, v_kD, v_kS, v_kR, v_kU, v_kO, v_kG, v_kT, v_A, v_X0, v_X1, v_X2, v_X3, v_pc, v_pm, v_lc, v_lm⟩ := h
                  have e := hR.symm
                  refine ⟨v_sc, ?_, v_mo, v_se, v_ik, v_ba, v_wP, v_wZ, v_wD, v_wS, v_wR, v_wU, v_wO, v_wG, v_wT, v_P, v_Q, v_Z, v_D, v_S, ?_, v_U, v_O, v_G, v_T, ?_, v_kmo, v_kse, v_kP, v_kQ, v_kZ, v_kD, v_kS, ?_, v_kU, v_kO, v_kG, v_kT, v_A, v_X0, v_X1, v_X2, v_X3, v_pc, v_pm, v_lc, v_lm⟩
                  · rfl
                  · clear v_sc v_st v_mo v_se v_ik v_ba v_wP v_wZ v_wD v_wS v_wR v_wU v_wO v_wG v_wT v_Q v_D v_U v_O v_G v_T v_kl v_kmo v_kse v_kP v_kQ v_kZ v_kD v_kS v_kR v_kU v_kO v_kG v_kT v_A v_X0 v_X1 v_X2 v_X3 v_pc v_pm v_lc v_lm
                    refine ⟨?_, ?_, ?_, fun p p0 p1 => ?_⟩
                    · simp (disch := omega) only [true_and, and_true, true_or, or_true, Int.add_zero, z_up_fn, z_up_ni, z_up_eq, z_up_qi, z_rw_fn, z_rw_in, z_rw_out, if_pos, if_neg, ↓reduceIte]; omega
                    · simp (disch := omega) only [true_and, and_true, true_or, or_true, Int.add_zero, z_up_fn, z_up_ni, z_up_eq, z_up_qi, z_rw_fn, z_rw_in, z_rw_out, if_pos, if_neg, ↓reduceIte]; omega
                    · simp (disch := omega) only [true_and, and_true, true_or, or_true, Int.add_zero, z_up_fn, z_up_ni, z_up_eq, z_up_qi, z_rw_fn, z_rw_in, z_rw_out, if_pos, if_neg, ↓reduceIte]; omega
                    · have p1 : p < σ 71 21 + 1 := p1
                      by_cases c : p = σ 71 21
                      · subst c
                        simp (disch := omega) only [true_and, and_true, true_or, or_true, Int.add_zero, z_up_fn, z_up_ni, z_up_eq, z_up_qi, z_rw_fn, z_rw_in, z_rw_out, if_pos, if_neg, ↓reduceIte, r_addRule0_0, r_addRule0_1, r_addRule0_2, r_addRule0_3, r_addRule0_4, r_addRule0_5, r_addRule0_6, r_addRule0_7, r_addRule0_8]
                        omega
                      · have q := v_R.2.2.2 p p0 (by omega)
                        simp (disch := omega) only [true_and, and_true, true_or, or_true, Int.add_zero, z_up_fn, z_up_ni, z_up_eq, z_up_qi, z_rw_fn, z_rw_in, z_rw_out, if_pos, if_neg, ↓reduceIte]
                        omega
                  · intro k
                    have w := v_kl k
                    clear v_sc v_st v_mo v_se v_ik v_ba v_wP v_wZ v_wD v_wS v_wR v_wU v_wO v_wG v_wT v_P v_Q v_Z v_D v_S v_R v_U v_O v_G v_T v_kl v_kmo v_kse v_kP v_kQ v_kZ v_kD v_kS v_kR v_kU v_kO v_kG v_kT v_A v_X0 v_X1 v_X2 v_X3 v_pc v_pm v_lc v_lm
                    unfold zKL at w ⊢
                    simp (disch := omega) only [true_and, and_true, true_or, or_true, Int.add_zero, z_up_fn, z_up_ni, z_up_eq, z_up_qi, z_rw_fn, z_rw_in, z_rw_out, if_pos, if_neg, ↓reduceIte]
                    omega
                  · intro k
                    have w := v_kl k
                    unfold zKL at w
                    have q := v_kR k
                    clear v_sc v_st v_mo v_se v_ik v_ba v_wP v_wZ v_wD v_wS v_wR v_wU v_wO v_wG v_wT v_P v_Q v_Z v_D v_S v_R v_U v_O v_G v_T v_kl v_kmo v_kse v_kP v_kQ v_kZ v_kD v_kS v_kR v_kU v_kO v_kG v_kT v_A v_X0 v_X1 v_X2 v_X3 v_pc v_pm v_lc v_lm
                    refine ⟨q.1, q.2.1, q.2.2.1, fun p p0 p1 => ?_⟩
                    have p2 : p < σ 113 4 := p1
                    have r := q.2.2.2 p p0 p2
                    simp (disch := first | omega | (simp (disch := omega) only [z_up_fn, z_up_ni, z_up_eq, z_up_qi, z_rw_fn] <;> omega) | fail) only [true_and, and_true, true_or, or_true, Int.add_zero, z_up_fn, z_up_ni, z_up_eq, z_up_qi, z_rw_fn, z_rw_in, z_rw_out, if_pos, if_neg, ↓reduceIte]
                    exact r
              · apply zOK_mk2
                · simp (disch := first | omega | (simp (disch := omega) only [z_up_fn, z_up_ni, z_up_eq, z_up_qi, z_rw_fn] <;> omega) | fail) only [e_98_0, e_98_4, e_98_26, e_98_18, e_98_32, e_98_48, e_98_40, e_98_59, e_98_83, e_98_67, e_98_86, s_37, s_has_4, s_136, s_137, e_86_0_7, e_131_0, e_132_0, s_addRule0, Option.bind_some, Int.add_zero, z_wid, or_true, true_or, z_up_fn, z_up_ni, z_up_eq, z_up_qi, z_rw_fn, z_rw_in, z_rw_out, if_pos, if_neg, ↓reduceIte]
                  exact w_ret rfl
                · intro k hk
                  simp (disch := omega) only [z_up_fn, z_rw_fn]
                · intro τ hτ
                  simp (disch := first | omega | (simp (disch := omega) only [hτ] <;> omega) | fail) only [e_165_0, e_165_6, e_165_84, e_165_14, e_165_22, e_165_43, e_165_64, e_165_99, e_165_243, s_149, s_153, s_160, e_150_0, e_151_0, hτ, Option.bind_some, Int.add_zero, z_wid, or_true, true_or, z_up_fn, z_up_ni, z_up_eq, z_up_qi, z_rw_fn, z_rw_in, z_rw_out, if_pos, if_neg, ↓reduceIte]
                  exact w_ret rfl
                · exact w_ref h 2
            · apply zOK_mk2
              · simp (disch := first | omega | (simp (disch := omega) only [z_up_fn, z_up_ni, z_up_eq, z_up_qi, z_rw_fn] <;> omega) | fail) only [e_98_0, e_98_4, e_98_26, e_98_18, e_98_32, e_98_48, e_98_40, e_98_59, e_98_83, e_98_67, e_98_86, s_37, s_has_4, s_136, s_137, e_86_0_7, e_131_0, e_132_0, s_addRule0, Option.bind_some, Int.add_zero, z_wid, or_true, true_or, z_up_fn, z_up_ni, z_up_eq, z_up_qi, z_rw_fn, z_rw_in, z_rw_out, if_pos, if_neg, ↓reduceIte]
                exact w_ret rfl
              · intro k hk
                simp (disch := omega) only [z_up_fn, z_rw_fn]
              · intro τ hτ
                simp (disch := first | omega | (simp (disch := omega) only [hτ] <;> omega) | fail) only [e_165_0, e_165_6, e_165_84, e_165_14, e_165_22, e_165_43, e_165_64, e_165_99, e_165_243, s_149, s_153, s_160, e_150_0, e_151_0, hτ, Option.bind_some, Int.add_zero, z_wid, or_true, true_or, z_up_fn, z_up_ni, z_up_eq, z_up_qi, z_rw_fn, z_rw_in, z_rw_out, if_pos, if_neg, ↓reduceIte]
                exact w_ret rfl
              · exact w_ref h 1
          · apply zOK_mk2
            · simp (disch := first | omega | (simp (disch := omega) only [z_up_fn, z_up_ni, z_up_eq, z_up_qi, z_rw_fn] <;> omega) | fail) only [e_98_0, e_98_4, e_98_26, e_98_18, e_98_32, e_98_48, e_98_40, e_98_59, e_98_83, e_98_67, e_98_86, s_37, s_has_4, s_136, s_137, e_86_0_7, e_131_0, e_132_0, s_addRule0, Option.bind_some, Int.add_zero, z_wid, or_true, true_or, z_up_fn, z_up_ni, z_up_eq, z_up_qi, z_rw_fn, z_rw_in, z_rw_out, if_pos, if_neg, ↓reduceIte]
              exact w_ret rfl
            · intro k hk
              simp (disch := omega) only [z_up_fn, z_rw_fn]
            · intro τ hτ
              simp (disch := first | omega | (simp (disch := omega) only [hτ] <;> omega) | fail) only [e_165_0, e_165_6, e_165_84, e_165_14, e_165_22, e_165_43, e_165_64, e_165_99, e_165_243, s_149, s_153, s_160, e_150_0, e_151_0, hτ, Option.bind_some, Int.add_zero, z_wid, or_true, true_or, z_up_fn, z_up_ni, z_up_eq, z_up_qi, z_rw_fn, z_rw_in, z_rw_out, if_pos, if_neg, ↓reduceIte]
              exact w_ret rfl
            · exact w_ref h 1
        · apply zOK_mk2
          · simp (disch := first | omega | (simp (disch := omega) only [z_up_fn, z_up_ni, z_up_eq, z_up_qi, z_rw_fn] <;> omega) | fail) only [e_98_0, e_98_4, e_98_26, e_98_18, e_98_32, e_98_48, e_98_40, e_98_59, e_98_83, e_98_67, e_98_86, s_37, s_has_4, s_136, s_137, e_86_0_7, e_131_0, e_132_0, s_addRule0, Option.bind_some, Int.add_zero, z_wid, or_true, true_or, z_up_fn, z_up_ni, z_up_eq, z_up_qi, z_rw_fn, z_rw_in, z_rw_out, if_pos, if_neg, ↓reduceIte]
            exact w_ret rfl
          · intro k hk
            simp (disch := omega) only [z_up_fn, z_rw_fn]
          · intro τ hτ
            simp (disch := first | omega | (simp (disch := omega) only [hτ] <;> omega) | fail) only [e_165_0, e_165_6, e_165_84, e_165_14, e_165_22, e_165_43, e_165_64, e_165_99, e_165_243, s_149, s_153, s_160, e_150_0, e_151_0, hτ, Option.bind_some, Int.add_zero, z_wid, or_true, true_or, z_up_fn, z_up_ni, z_up_eq, z_up_qi, z_rw_fn, z_rw_in, z_rw_out, if_pos, if_neg, ↓reduceIte]
            exact w_ret rfl
          · exact w_ref h 1
      · apply zOK_mk2
        · simp (disch := first | omega | (simp (disch := omega) only [z_up_fn, z_up_ni, z_up_eq, z_up_qi, z_rw_fn] <;> omega) | fail) only [e_98_0, e_98_4, e_98_26, e_98_18, e_98_32, e_98_48, e_98_40, e_98_59, e_98_83, e_98_67, e_98_86, s_37, s_has_4, s_136, s_137, e_86_0_7, e_131_0, e_132_0, s_addRule0, Option.bind_some, Int.add_zero, z_wid, or_true, true_or, z_up_fn, z_up_ni, z_up_eq, z_up_qi, z_rw_fn, z_rw_in, z_rw_out, if_pos, if_neg, ↓reduceIte]
          exact w_ret rfl
        · intro k hk
          simp (disch := omega) only [z_up_fn, z_rw_fn]
        · intro τ hτ
          simp (disch := first | omega | (simp (disch := omega) only [hτ] <;> omega) | fail) only [e_165_0, e_165_6, e_165_84, e_165_14, e_165_22, e_165_43, e_165_64, e_165_99, e_165_243, s_149, s_153, s_160, e_150_0, e_151_0, hτ, Option.bind_some, Int.add_zero, z_wid, or_true, true_or, z_up_fn, z_up_ni, z_up_eq, z_up_qi, z_rw_fn, z_rw_in, z_rw_out, if_pos, if_neg, ↓reduceIte]
          exact w_ret rfl
        · exact w_ref h 1
    · apply zOK_mk2
      · simp (disch := first | omega | (simp (disch := omega) only [z_up_fn, z_up_ni, z_up_eq, z_up_qi, z_rw_fn] <;> omega) | fail) only [e_98_0, e_98_4, e_98_26, e_98_18, e_98_32, e_98_48, e_98_40, e_98_59, e_98_83, e_98_67, e_98_86, s_37, s_has_4, s_136, s_137, e_86_0_7, e_131_0, e_132_0, s_addRule0, Option.bind_some, Int.add_zero, z_wid, or_true, true_or, z_up_fn, z_up_ni, z_up_eq, z_up_qi, z_rw_fn, z_rw_in, z_rw_out, if_pos, if_neg, ↓reduceIte]
        exact w_ret rfl
      · intro k hk
        simp (disch := omega) only [z_up_fn, z_rw_fn]
      · intro τ hτ
        simp (disch := first | omega | (simp (disch := omega) only [hτ] <;> omega) | fail) only [e_165_0, e_165_6, e_165_84, e_165_14, e_165_22, e_165_43, e_165_64, e_165_99, e_165_243, s_149, s_153, s_160, e_150_0, e_151_0, hτ, Option.bind_some, Int.add_zero, z_wid, or_true, true_or, z_up_fn, z_up_ni, z_up_eq, z_up_qi, z_rw_fn, z_rw_in, z_rw_out, if_pos, if_neg, ↓reduceIte]
        exact w_ret rfl
      · exact w_ref h 1
  · apply zOK_mk2
    · simp (disch := first | omega | (simp (disch := omega) only [z_up_fn, z_up_ni, z_up_eq, z_up_qi, z_rw_fn] <;> omega) | fail) only [e_98_0, e_98_4, e_98_26, e_98_18, e_98_32, e_98_48, e_98_40, e_98_59, e_98_83, e_98_67, e_98_86, s_37, s_has_4, s_136, s_137, e_86_0_7, e_131_0, e_132_0, s_addRule0, Option.bind_some, Int.add_zero, z_wid, or_true, true_or, z_up_fn, z_up_ni, z_up_eq, z_up_qi, z_rw_fn, z_rw_in, z_rw_out, if_pos, if_neg, ↓reduceIte]
      exact w_ret rfl
    · intro k hk
      simp (disch := omega) only [z_up_fn, z_rw_fn]
    · intro τ hτ
      simp (disch := first | omega | (simp (disch := omega) only [hτ] <;> omega) | fail) only [e_165_0, e_165_6, e_165_84, e_165_14, e_165_22, e_165_43, e_165_64, e_165_99, e_165_243, s_149, s_153, s_160, e_150_0, e_151_0, hτ, Option.bind_some, Int.add_zero, z_wid, or_true, true_or, z_up_fn, z_up_ni, z_up_eq, z_up_qi, z_rw_fn, z_rw_in, z_rw_out, if_pos, if_neg, ↓reduceIte]
      exact w_ret rfl
    · exact w_ref h 1
theorem o_rule1 (d : Nat) (s : Int → Int) (L : Int) (σ : Nat → Int → Int) (h : zV s L σ) (x2 x3 x4 x5 : Int) (h4 : x4 < 2147483648) (h5 : x5 < 2147483648) : zOK s L (d + 9) 98 165 [some (.inl 1), some (.inl x2), some (.inl x3), some (.inl x4), some (.inl x5)] [some (.inl 1), some (.inl x2), some (.inl x3), some (.inl x4), some (.inl x5), none] σ := by
  have hwR := zV_wR h
  have hR := (zV_R h).1
  have hR1 := (zV_R h).2.1
  have hR2 := (zV_R h).2.2.1
  have hwZ := zV_wZ h
  have hZ := (zV_Z h).1
  have hZ1 := (zV_Z h).2.1
  have hZ2 := (zV_Z h).2.2.1
  have hM := zV_mo h
  by_cases c1 : 0 ≤ x2 ∧ x2 ≤ 5
  · by_cases c2 : 0 ≤ x3 ∧ x3 < σ 4 3
    · by_cases c3 : 0 ≤ x4 ∧ x4 / 100 ≤ x4 % 100 ∧ x4 % 100 ≤ 19
      · by_cases c4 : 0 ≤ x5
        · have w5 := w_mins c4 h5
          by_cases c5 : x5 / 10000 ≤ 1439
          · by_cases c6 : x5 / 10000 ≤ x5 % 10000 ∧ x5 % 10000 ≤ 1439
            · by_cases c7 : σ 10 3 < 12
              · apply zOK_mk2
                · simp (disch := first | omega | (simp (disch := omega) only [z_up_fn, z_up_ni, z_up_eq, z_up_qi, z_rw_fn] <;> omega) | fail) only [e_98_0, e_98_4, e_98_26, e_98_18, e_98_32, e_98_48, e_98_40, e_98_59, e_98_83, e_98_67, e_98_86, s_37, s_has_4, s_136, s_137, e_86_0_7, e_131_0, e_132_0, s_addRule1, Option.bind_some, Int.add_zero, z_wid, or_true, true_or, z_up_fn, z_up_ni, z_up_eq, z_up_qi, z_rw_fn, z_rw_in, z_rw_out, if_pos, if_neg, ↓reduceIte]
                  exact w_ret rfl
                · intro k hk
                  simp (disch := omega) only [z_up_fn, z_rw_fn]
                · intro τ hτ
                  simp (disch := first | omega | (simp (disch := omega) only [hτ] <;> omega) | fail) only [e_165_0, e_165_6, e_165_84, e_165_14, e_165_22, e_165_43, e_165_64, e_165_99, e_165_243, s_149, s_153, s_160, e_150_0, e_151_0, hτ, Option.bind_some, Int.add_zero, z_wid, or_true, true_or, z_up_fn, z_up_ni, z_up_eq, z_up_qi, z_rw_fn, z_rw_in, z_rw_out, if_pos, if_neg, ↓reduceIte]
                  exact w_ret (by omega)
                · obtain ⟨v_sc, v_st, v_mo, v_se, v_ik, v_ba, v_wP, v_wZ, v_wD, v_wS, v_wR, v_wU, v_wO, v_wG, v_wT, v_P, v_Q, v_Z, v_D, v_S, v_R, v_U, v_O, v_G, v_T, v_kl, v_kmo, v_kse, v_kP, v_kQ, v_kZ, v_kD, v_kS, v_kR, v_kU, v_kO, v_kG, v_kT, v_A, v_X0, v_X1, v_X2, v_X3, v_pc, v_pm, v_lc, v_lm⟩ := h
                  have e := hR.symm
                  refine ⟨v_sc, ?_, v_mo, v_se, v_ik, v_ba, v_wP, v_wZ, v_wD, v_wS, v_wR, v_wU, v_wO, v_wG, v_wT, v_P, v_Q, v_Z, v_D, v_S, ?_, v_U, v_O, v_G, v_T, ?_, v_kmo, v_kse, v_kP, v_kQ, v_kZ, v_kD, v_kS, ?_, v_kU, v_kO, v_kG, v_kT, v_A, v_X0, v_X1, v_X2, v_X3, v_pc, v_pm, v_lc, v_lm⟩
                  · rfl
                  · clear v_sc v_st v_mo v_se v_ik v_ba v_wP v_wZ v_wD v_wS v_wR v_wU v_wO v_wG v_wT v_Q v_D v_U v_O v_G v_T v_kl v_kmo v_kse v_kP v_kQ v_kZ v_kD v_kS v_kR v_kU v_kO v_kG v_kT v_A v_X0 v_X1 v_X2 v_X3 v_pc v_pm v_lc v_lm
                    refine ⟨?_, ?_, ?_, fun p p0 p1 => ?_⟩
                    · simp (disch := omega) only [true_and, and_true, true_or, or_true, Int.add_zero, z_up_fn, z_up_ni, z_up_eq, z_up_qi, z_rw_fn, z_rw_in, z_rw_out, if_pos, if_neg, ↓reduceIte]; omega
                    · simp (disch := omega) only [true_and, and_true, true_or, or_true, Int.add_zero, z_up_fn, z_up_ni, z_up_eq, z_up_qi, z_rw_fn, z_rw_in, z_rw_out, if_pos, if_neg, ↓reduceIte]; omega
                    · simp (disch := omega) only [true_and, and_true, true_or, or_true, Int.add_zero, z_up_fn, z_up_ni, z_up_eq, z_up_qi, z_rw_fn, z_rw_in, z_rw_out, if_pos, if_neg, ↓reduceIte]; omega
                    · have p1 : p < σ 71 21 + 1 := p1
                      by_cases c : p = σ 71 21
                      · subst c
                        simp (disch := omega) only [true_and, and_true, true_or, or_true, Int.add_zero, z_up_fn, z_up_ni, z_up_eq, z_up_qi, z_rw_fn, z_rw_in, z_rw_out, if_pos, if_neg, ↓reduceIte, r_addRule1_0, r_addRule1_1, r_addRule1_2, r_addRule1_3, r_addRule1_4, r_addRule1_5, r_addRule1_6, r_addRule1_7, r_addRule1_8]
                        omega
                      · have q := v_R.2.2.2 p p0 (by omega)
                        simp (disch := omega) only [true_and, and_true, true_or, or_true, Int.add_zero, z_up_fn, z_up_ni, z_up_eq, z_up_qi, z_rw_fn, z_rw_in, z_rw_out, if_pos, if_neg, ↓reduceIte]
                        omega
                  · intro k
                    have w := v_kl k
                    clear v_sc v_st v_mo v_se v_ik v_ba v_wP v_wZ v_wD v_wS v_wR v_wU v_wO v_wG v_wT v_P v_Q v_Z v_D v_S v_R v_U v_O v_G v_T v_kl v_kmo v_kse v_kP v_kQ v_kZ v_kD v_kS v_kR v_kU v_kO v_kG v_kT v_A v_X0 v_X1 v_X2 v_X3 v_pc v_pm v_lc v_lm
                    unfold zKL at w ⊢
                    simp (disch := omega) only [true_and, and_true, true_or, or_true, Int.add_zero, z_up_fn, z_up_ni, z_up_eq, z_up_qi, z_rw_fn, z_rw_in, z_rw_out, if_pos, if_neg, ↓reduceIte]
                    omega
                  · intro k
                    have w := v_kl k
                    unfold zKL at w
                    have q := v_kR k
                    clear v_sc v_st v_mo v_se v_ik v_ba v_wP v_wZ v_wD v_wS v_wR v_wU v_wO v_wG v_wT v_P v_Q v_Z v_D v_S v_R v_U v_O v_G v_T v_kl v_kmo v_kse v_kP v_kQ v_kZ v_kD v_kS v_kR v_kU v_kO v_kG v_kT v_A v_X0 v_X1 v_X2 v_X3 v_pc v_pm v_lc v_lm
                    refine ⟨q.1, q.2.1, q.2.2.1, fun p p0 p1 => ?_⟩
                    have p2 : p < σ 113 4 := p1
                    have r := q.2.2.2 p p0 p2
                    simp (disch := first | omega | (simp (disch := omega) only [z_up_fn, z_up_ni, z_up_eq, z_up_qi, z_rw_fn] <;> omega) | fail) only [true_and, and_true, true_or, or_true, Int.add_zero, z_up_fn, z_up_ni, z_up_eq, z_up_qi, z_rw_fn, z_rw_in, z_rw_out, if_pos, if_neg, ↓reduceIte]
                    exact r
              · apply zOK_mk2
                · simp (disch := first | omega | (simp (disch := omega) only [z_up_fn, z_up_ni, z_up_eq, z_up_qi, z_rw_fn] <;> omega) | fail) only [e_98_0, e_98_4, e_98_26, e_98_18, e_98_32, e_98_48, e_98_40, e_98_59, e_98_83, e_98_67, e_98_86, s_37, s_has_4, s_136, s_137, e_86_0_7, e_131_0, e_132_0, s_addRule1, Option.bind_some, Int.add_zero, z_wid, or_true, true_or, z_up_fn, z_up_ni, z_up_eq, z_up_qi, z_rw_fn, z_rw_in, z_rw_out, if_pos, if_neg, ↓reduceIte]
                  exact w_ret rfl
                · intro k hk
                  simp (disch := omega) only [z_up_fn, z_rw_fn]
                · intro τ hτ
                  simp (disch := first | omega | (simp (disch := omega) only [hτ] <;> omega) | fail) only [e_165_0, e_165_6, e_165_84, e_165_14, e_165_22, e_165_43, e_165_64, e_165_99, e_165_243, s_149, s_153, s_160, e_150_0, e_151_0, hτ, Option.bind_some, Int.add_zero, z_wid, or_true, true_or, z_up_fn, z_up_ni, z_up_eq, z_up_qi, z_rw_fn, z_rw_in, z_rw_out, if_pos, if_neg, ↓reduceIte]
                  exact w_ret rfl
                · exact w_ref h 2
            · apply zOK_mk2
              · simp (disch := first | omega | (simp (disch := omega) only [z_up_fn, z_up_ni, z_up_eq, z_up_qi, z_rw_fn] <;> omega) | fail) only [e_98_0, e_98_4, e_98_26, e_98_18, e_98_32, e_98_48, e_98_40, e_98_59, e_98_83, e_98_67, e_98_86, s_37, s_has_4, s_136, s_137, e_86_0_7, e_131_0, e_132_0, s_addRule1, Option.bind_some, Int.add_zero, z_wid, or_true, true_or, z_up_fn, z_up_ni, z_up_eq, z_up_qi, z_rw_fn, z_rw_in, z_rw_out, if_pos, if_neg, ↓reduceIte]
                exact w_ret rfl
              · intro k hk
                simp (disch := omega) only [z_up_fn, z_rw_fn]
              · intro τ hτ
                simp (disch := first | omega | (simp (disch := omega) only [hτ] <;> omega) | fail) only [e_165_0, e_165_6, e_165_84, e_165_14, e_165_22, e_165_43, e_165_64, e_165_99, e_165_243, s_149, s_153, s_160, e_150_0, e_151_0, hτ, Option.bind_some, Int.add_zero, z_wid, or_true, true_or, z_up_fn, z_up_ni, z_up_eq, z_up_qi, z_rw_fn, z_rw_in, z_rw_out, if_pos, if_neg, ↓reduceIte]
                exact w_ret rfl
              · exact w_ref h 1
          · apply zOK_mk2
            · simp (disch := first | omega | (simp (disch := omega) only [z_up_fn, z_up_ni, z_up_eq, z_up_qi, z_rw_fn] <;> omega) | fail) only [e_98_0, e_98_4, e_98_26, e_98_18, e_98_32, e_98_48, e_98_40, e_98_59, e_98_83, e_98_67, e_98_86, s_37, s_has_4, s_136, s_137, e_86_0_7, e_131_0, e_132_0, s_addRule1, Option.bind_some, Int.add_zero, z_wid, or_true, true_or, z_up_fn, z_up_ni, z_up_eq, z_up_qi, z_rw_fn, z_rw_in, z_rw_out, if_pos, if_neg, ↓reduceIte]
              exact w_ret rfl
            · intro k hk
              simp (disch := omega) only [z_up_fn, z_rw_fn]
            · intro τ hτ
              simp (disch := first | omega | (simp (disch := omega) only [hτ] <;> omega) | fail) only [e_165_0, e_165_6, e_165_84, e_165_14, e_165_22, e_165_43, e_165_64, e_165_99, e_165_243, s_149, s_153, s_160, e_150_0, e_151_0, hτ, Option.bind_some, Int.add_zero, z_wid, or_true, true_or, z_up_fn, z_up_ni, z_up_eq, z_up_qi, z_rw_fn, z_rw_in, z_rw_out, if_pos, if_neg, ↓reduceIte]
              exact w_ret rfl
            · exact w_ref h 1
        · apply zOK_mk2
          · simp (disch := first | omega | (simp (disch := omega) only [z_up_fn, z_up_ni, z_up_eq, z_up_qi, z_rw_fn] <;> omega) | fail) only [e_98_0, e_98_4, e_98_26, e_98_18, e_98_32, e_98_48, e_98_40, e_98_59, e_98_83, e_98_67, e_98_86, s_37, s_has_4, s_136, s_137, e_86_0_7, e_131_0, e_132_0, s_addRule1, Option.bind_some, Int.add_zero, z_wid, or_true, true_or, z_up_fn, z_up_ni, z_up_eq, z_up_qi, z_rw_fn, z_rw_in, z_rw_out, if_pos, if_neg, ↓reduceIte]
            exact w_ret rfl
          · intro k hk
            simp (disch := omega) only [z_up_fn, z_rw_fn]
          · intro τ hτ
            simp (disch := first | omega | (simp (disch := omega) only [hτ] <;> omega) | fail) only [e_165_0, e_165_6, e_165_84, e_165_14, e_165_22, e_165_43, e_165_64, e_165_99, e_165_243, s_149, s_153, s_160, e_150_0, e_151_0, hτ, Option.bind_some, Int.add_zero, z_wid, or_true, true_or, z_up_fn, z_up_ni, z_up_eq, z_up_qi, z_rw_fn, z_rw_in, z_rw_out, if_pos, if_neg, ↓reduceIte]
            exact w_ret rfl
          · exact w_ref h 1
      · apply zOK_mk2
        · simp (disch := first | omega | (simp (disch := omega) only [z_up_fn, z_up_ni, z_up_eq, z_up_qi, z_rw_fn] <;> omega) | fail) only [e_98_0, e_98_4, e_98_26, e_98_18, e_98_32, e_98_48, e_98_40, e_98_59, e_98_83, e_98_67, e_98_86, s_37, s_has_4, s_136, s_137, e_86_0_7, e_131_0, e_132_0, s_addRule1, Option.bind_some, Int.add_zero, z_wid, or_true, true_or, z_up_fn, z_up_ni, z_up_eq, z_up_qi, z_rw_fn, z_rw_in, z_rw_out, if_pos, if_neg, ↓reduceIte]
          exact w_ret rfl
        · intro k hk
          simp (disch := omega) only [z_up_fn, z_rw_fn]
        · intro τ hτ
          simp (disch := first | omega | (simp (disch := omega) only [hτ] <;> omega) | fail) only [e_165_0, e_165_6, e_165_84, e_165_14, e_165_22, e_165_43, e_165_64, e_165_99, e_165_243, s_149, s_153, s_160, e_150_0, e_151_0, hτ, Option.bind_some, Int.add_zero, z_wid, or_true, true_or, z_up_fn, z_up_ni, z_up_eq, z_up_qi, z_rw_fn, z_rw_in, z_rw_out, if_pos, if_neg, ↓reduceIte]
          exact w_ret rfl
        · exact w_ref h 1
    · apply zOK_mk2
      · simp (disch := first | omega | (simp (disch := omega) only [z_up_fn, z_up_ni, z_up_eq, z_up_qi, z_rw_fn] <;> omega) | fail) only [e_98_0, e_98_4, e_98_26, e_98_18, e_98_32, e_98_48, e_98_40, e_98_59, e_98_83, e_98_67, e_98_86, s_37, s_has_4, s_136, s_137, e_86_0_7, e_131_0, e_132_0, s_addRule1, Option.bind_some, Int.add_zero, z_wid, or_true, true_or, z_up_fn, z_up_ni, z_up_eq, z_up_qi, z_rw_fn, z_rw_in, z_rw_out, if_pos, if_neg, ↓reduceIte]
        exact w_ret rfl
      · intro k hk
        simp (disch := omega) only [z_up_fn, z_rw_fn]
      · intro τ hτ
        simp (disch := first | omega | (simp (disch := omega) only [hτ] <;> omega) | fail) only [e_165_0, e_165_6, e_165_84, e_165_14, e_165_22, e_165_43, e_165_64, e_165_99, e_165_243, s_149, s_153, s_160, e_150_0, e_151_0, hτ, Option.bind_some, Int.add_zero, z_wid, or_true, true_or, z_up_fn, z_up_ni, z_up_eq, z_up_qi, z_rw_fn, z_rw_in, z_rw_out, if_pos, if_neg, ↓reduceIte]
        exact w_ret rfl
      · exact w_ref h 1
  · apply zOK_mk2
    · simp (disch := first | omega | (simp (disch := omega) only [z_up_fn, z_up_ni, z_up_eq, z_up_qi, z_rw_fn] <;> omega) | fail) only [e_98_0, e_98_4, e_98_26, e_98_18, e_98_32, e_98_48, e_98_40, e_98_59, e_98_83, e_98_67, e_98_86, s_37, s_has_4, s_136, s_137, e_86_0_7, e_131_0, e_132_0, s_addRule1, Option.bind_some, Int.add_zero, z_wid, or_true, true_or, z_up_fn, z_up_ni, z_up_eq, z_up_qi, z_rw_fn, z_rw_in, z_rw_out, if_pos, if_neg, ↓reduceIte]
      exact w_ret rfl
    · intro k hk
      simp (disch := omega) only [z_up_fn, z_rw_fn]
    · intro τ hτ
      simp (disch := first | omega | (simp (disch := omega) only [hτ] <;> omega) | fail) only [e_165_0, e_165_6, e_165_84, e_165_14, e_165_22, e_165_43, e_165_64, e_165_99, e_165_243, s_149, s_153, s_160, e_150_0, e_151_0, hτ, Option.bind_some, Int.add_zero, z_wid, or_true, true_or, z_up_fn, z_up_ni, z_up_eq, z_up_qi, z_rw_fn, z_rw_in, z_rw_out, if_pos, if_neg, ↓reduceIte]
      exact w_ret rfl
    · exact w_ref h 1
theorem o_room (d : Nat) (s : Int → Int) (L : Int) (σ : Nat → Int → Int) (h : zV s L σ) (x : Int) : zOK s L (d + 9) 104 192 [some (.inl x)] [some (.inl x)] σ := by
  have hwO := zV_wO h
  have hO := (zV_O h).1
  have hO1 := (zV_O h).2.1
  have hO2 := (zV_O h).2.2.1
  by_cases c1 : 1 ≤ x ∧ x ≤ 9
  · by_cases c2 : σ 14 3 < 4
    · apply zOK_mk2
      · simp (disch := first | omega | (simp (disch := omega) only [z_up_fn, z_up_ni, z_up_eq, z_up_qi, z_rw_fn] <;> omega) | fail) only [e_104_0, e_104_7, e_104_15, e_104_26, e_104_42, e_104_34, e_104_51, e_104_54, s_133, e_86_0_3, e_41_0, e_131_0, e_132_0, s_addRoom, Option.bind_some, Int.add_zero, z_wid, or_true, true_or, z_up_fn, z_up_ni, z_up_eq, z_up_qi, z_rw_fn, z_rw_in, z_rw_out, if_pos, if_neg, ↓reduceIte]
        exact w_ret rfl
      · intro k hk
        simp (disch := omega) only [z_up_fn, z_rw_fn]
      · intro τ hτ
        simp (disch := first | omega | (simp (disch := omega) only [hτ] <;> omega) | fail) only [e_192_0, e_192_7, e_192_15, e_192_29, e_192_65, s_149, e_150_0, e_151_0, hτ, Option.bind_some, Int.add_zero, z_wid, or_true, true_or, z_up_fn, z_up_ni, z_up_eq, z_up_qi, z_rw_fn, z_rw_in, z_rw_out, if_pos, if_neg, ↓reduceIte]
        exact w_ret (by omega)
      · obtain ⟨v_sc, v_st, v_mo, v_se, v_ik, v_ba, v_wP, v_wZ, v_wD, v_wS, v_wR, v_wU, v_wO, v_wG, v_wT, v_P, v_Q, v_Z, v_D, v_S, v_R, v_U, v_O, v_G, v_T, v_kl, v_kmo, v_kse, v_kP, v_kQ, v_kZ, v_kD, v_kS, v_kR, v_kU, v_kO, v_kG, v_kT, v_A, v_X0, v_X1, v_X2, v_X3, v_pc, v_pm, v_lc, v_lm⟩ := h
        have e := hO.symm
        refine ⟨v_sc, ?_, v_mo, v_se, v_ik, v_ba, v_wP, v_wZ, v_wD, v_wS, v_wR, v_wU, v_wO, v_wG, v_wT, v_P, v_Q, v_Z, v_D, v_S, v_R, v_U, ?_, v_G, v_T, ?_, v_kmo, v_kse, v_kP, v_kQ, v_kZ, v_kD, v_kS, v_kR, v_kU, ?_, v_kG, v_kT, v_A, v_X0, v_X1, v_X2, v_X3, v_pc, v_pm, ?_, ?_⟩
        · rfl
        · clear v_sc v_st v_mo v_se v_ik v_ba v_wP v_wZ v_wD v_wS v_wR v_wU v_wO v_wG v_wT v_Q v_D v_R v_U v_G v_T v_kl v_kmo v_kse v_kP v_kQ v_kZ v_kD v_kS v_kR v_kU v_kO v_kG v_kT v_A v_X0 v_X1 v_X2 v_X3 v_pc v_pm v_lc v_lm
          refine ⟨?_, ?_, ?_, fun p p0 p1 => ?_⟩
          · simp (disch := omega) only [true_and, and_true, true_or, or_true, Int.add_zero, z_up_fn, z_up_ni, z_up_eq, z_up_qi, z_rw_fn, z_rw_in, z_rw_out, if_pos, if_neg, ↓reduceIte]; omega
          · simp (disch := omega) only [true_and, and_true, true_or, or_true, Int.add_zero, z_up_fn, z_up_ni, z_up_eq, z_up_qi, z_rw_fn, z_rw_in, z_rw_out, if_pos, if_neg, ↓reduceIte]; omega
          · simp (disch := omega) only [true_and, and_true, true_or, or_true, Int.add_zero, z_up_fn, z_up_ni, z_up_eq, z_up_qi, z_rw_fn, z_rw_in, z_rw_out, if_pos, if_neg, ↓reduceIte]; omega
          · have p1 : p < σ 71 36 + 1 := p1
            by_cases c : p = σ 71 36
            · subst c
              simp (disch := omega) only [true_and, and_true, true_or, or_true, Int.add_zero, z_up_fn, z_up_ni, z_up_eq, z_up_qi, z_rw_fn, z_rw_in, z_rw_out, if_pos, if_neg, ↓reduceIte, r_addRoom_0]
              omega
            · have q := v_O.2.2.2 p p0 (by omega)
              simp (disch := omega) only [true_and, and_true, true_or, or_true, Int.add_zero, z_up_fn, z_up_ni, z_up_eq, z_up_qi, z_rw_fn, z_rw_in, z_rw_out, if_pos, if_neg, ↓reduceIte]
              omega
        · intro k
          have w := v_kl k
          clear v_sc v_st v_mo v_se v_ik v_ba v_wP v_wZ v_wD v_wS v_wR v_wU v_wO v_wG v_wT v_P v_Q v_Z v_D v_S v_R v_U v_O v_G v_T v_kl v_kmo v_kse v_kP v_kQ v_kZ v_kD v_kS v_kR v_kU v_kO v_kG v_kT v_A v_X0 v_X1 v_X2 v_X3 v_pc v_pm v_lc v_lm
          unfold zKL at w ⊢
          simp (disch := omega) only [true_and, and_true, true_or, or_true, Int.add_zero, z_up_fn, z_up_ni, z_up_eq, z_up_qi, z_rw_fn, z_rw_in, z_rw_out, if_pos, if_neg, ↓reduceIte]
          omega
        · intro k
          have w := v_kl k
          unfold zKL at w
          have q := v_kO k
          clear v_sc v_st v_mo v_se v_ik v_ba v_wP v_wZ v_wD v_wS v_wR v_wU v_wO v_wG v_wT v_P v_Q v_Z v_D v_S v_R v_U v_O v_G v_T v_kl v_kmo v_kse v_kP v_kQ v_kZ v_kD v_kS v_kR v_kU v_kO v_kG v_kT v_A v_X0 v_X1 v_X2 v_X3 v_pc v_pm v_lc v_lm
          refine ⟨q.1, q.2.1, q.2.2.1, fun p p0 p1 => ?_⟩
          have p2 : p < σ 113 7 := p1
          have r := q.2.2.2 p p0 p2
          simp (disch := first | omega | (simp (disch := omega) only [z_up_fn, z_up_ni, z_up_eq, z_up_qi, z_rw_fn] <;> omega) | fail) only [true_and, and_true, true_or, or_true, Int.add_zero, z_up_fn, z_up_ni, z_up_eq, z_up_qi, z_rw_fn, z_rw_in, z_rw_out, if_pos, if_neg, ↓reduceIte]
          exact r
        · exact ⟨v_lc.1, Or.inl rfl, fun k => absurd (show (0 : Int) = 1 from k) (by decide)⟩
        · exact ⟨Or.inl rfl, fun k => absurd (show (0 : Int) = 1 from k) (by decide)⟩
    · apply zOK_mk2
      · simp (disch := first | omega | (simp (disch := omega) only [z_up_fn, z_up_ni, z_up_eq, z_up_qi, z_rw_fn] <;> omega) | fail) only [e_104_0, e_104_7, e_104_15, e_104_26, e_104_42, e_104_34, e_104_51, e_104_54, s_133, e_86_0_3, e_41_0, e_131_0, e_132_0, s_addRoom, Option.bind_some, Int.add_zero, z_wid, or_true, true_or, z_up_fn, z_up_ni, z_up_eq, z_up_qi, z_rw_fn, z_rw_in, z_rw_out, if_pos, if_neg, ↓reduceIte]
        exact w_ret rfl
      · intro k hk
        simp (disch := omega) only [z_up_fn, z_rw_fn]
      · intro τ hτ
        simp (disch := first | omega | (simp (disch := omega) only [hτ] <;> omega) | fail) only [e_192_0, e_192_7, e_192_15, e_192_29, e_192_65, s_149, e_150_0, e_151_0, hτ, Option.bind_some, Int.add_zero, z_wid, or_true, true_or, z_up_fn, z_up_ni, z_up_eq, z_up_qi, z_rw_fn, z_rw_in, z_rw_out, if_pos, if_neg, ↓reduceIte]
        exact w_ret rfl
      · exact w_ref h 2
  · apply zOK_mk2
    · simp (disch := first | omega | (simp (disch := omega) only [z_up_fn, z_up_ni, z_up_eq, z_up_qi, z_rw_fn] <;> omega) | fail) only [e_104_0, e_104_7, e_104_15, e_104_26, e_104_42, e_104_34, e_104_51, e_104_54, s_133, e_86_0_3, e_41_0, e_131_0, e_132_0, s_addRoom, Option.bind_some, Int.add_zero, z_wid, or_true, true_or, z_up_fn, z_up_ni, z_up_eq, z_up_qi, z_rw_fn, z_rw_in, z_rw_out, if_pos, if_neg, ↓reduceIte]
      exact w_ret rfl
    · intro k hk
      simp (disch := omega) only [z_up_fn, z_rw_fn]
    · intro τ hτ
      simp (disch := first | omega | (simp (disch := omega) only [hτ] <;> omega) | fail) only [e_192_0, e_192_7, e_192_15, e_192_29, e_192_65, s_149, e_150_0, e_151_0, hτ, Option.bind_some, Int.add_zero, z_wid, or_true, true_or, z_up_fn, z_up_ni, z_up_eq, z_up_qi, z_rw_fn, z_rw_in, z_rw_out, if_pos, if_neg, ↓reduceIte]
      exact w_ret rfl
    · exact w_ref h 1
theorem o_group (d : Nat) (s : Int → Int) (L : Int) (σ : Nat → Int → Int) (h : zV s L σ) (x y z : Int) (h3 : z < 2147483648) : zOK s L (d + 9) 105 193 [some (.inl x), some (.inl y), some (.inl z)] [some (.inl x), some (.inl y), some (.inl z)] σ := by
  have hwG := zV_wG h
  have hG := (zV_G h).1
  have hG1 := (zV_G h).2.1
  have hG2 := (zV_G h).2.2.1
  by_cases c1 : 0 ≤ x ∧ x ≤ 7
  · by_cases c2 : 1 ≤ y ∧ y ≤ 9
    · by_cases c3 : 0 ≤ z ∧ z / 100 ≤ z % 100 ∧ z % 100 ≤ 19
      · have w := w_days c3.1 h3
        by_cases c4 : σ 16 3 < 6
        · apply zOK_mk2
          · simp (disch := first | omega | (simp (disch := omega) only [z_up_fn, z_up_ni, z_up_eq, z_up_qi, z_rw_fn] <;> omega) | fail) only [e_105_0, e_105_4, e_105_29, e_105_14, e_105_21, e_105_40, e_105_56, e_105_48, e_105_67, e_105_70, s_134, s_133, s_136, e_86_0_6, e_41_0, e_131_0, e_132_0, s_addGroup, Option.bind_some, Int.add_zero, z_wid, or_true, true_or, z_up_fn, z_up_ni, z_up_eq, z_up_qi, z_rw_fn, z_rw_in, z_rw_out, if_pos, if_neg, ↓reduceIte]
            exact w_ret rfl
          · intro k hk
            simp (disch := omega) only [z_up_fn, z_rw_fn]
          · intro τ hτ
            simp (disch := first | omega | (simp (disch := omega) only [hτ] <;> omega) | fail) only [e_193_0, e_193_7, e_193_32, e_193_17, e_193_24, e_193_47, e_193_119, s_149, s_160, e_150_0, e_151_0, hτ, Option.bind_some, Int.add_zero, z_wid, or_true, true_or, z_up_fn, z_up_ni, z_up_eq, z_up_qi, z_rw_fn, z_rw_in, z_rw_out, if_pos, if_neg, ↓reduceIte]
            exact w_ret (by omega)
          · obtain ⟨v_sc, v_st, v_mo, v_se, v_ik, v_ba, v_wP, v_wZ, v_wD, v_wS, v_wR, v_wU, v_wO, v_wG, v_wT, v_P, v_Q, v_Z, v_D, v_S, v_R, v_U, v_O, v_G, v_T, v_kl, v_kmo, v_kse, v_kP, v_kQ, v_kZ, v_kD, v_kS, v_kR, v_kU, v_kO, v_kG, v_kT, v_A, v_X0, v_X1, v_X2, v_X3, v_pc, v_pm, v_lc, v_lm⟩ := h
            have e := hG.symm
            refine ⟨v_sc, ?_, v_mo, v_se, v_ik, v_ba, v_wP, v_wZ, v_wD, v_wS, v_wR, v_wU, v_wO, v_wG, v_wT, v_P, v_Q, v_Z, v_D, v_S, v_R, v_U, v_O, ?_, v_T, ?_, v_kmo, v_kse, v_kP, v_kQ, v_kZ, v_kD, v_kS, v_kR, v_kU, v_kO, ?_, v_kT, v_A, v_X0, v_X1, v_X2, v_X3, v_pc, v_pm, ?_, ?_⟩
            · rfl
            · clear v_sc v_st v_mo v_se v_ik v_ba v_wP v_wZ v_wD v_wS v_wR v_wU v_wO v_wG v_wT v_Q v_D v_R v_U v_O v_T v_kl v_kmo v_kse v_kP v_kQ v_kZ v_kD v_kS v_kR v_kU v_kO v_kG v_kT v_A v_X0 v_X1 v_X2 v_X3 v_pc v_pm v_lc v_lm
              refine ⟨?_, ?_, ?_, fun p p0 p1 => ?_⟩
              · simp (disch := omega) only [true_and, and_true, true_or, or_true, Int.add_zero, z_up_fn, z_up_ni, z_up_eq, z_up_qi, z_rw_fn, z_rw_in, z_rw_out, if_pos, if_neg, ↓reduceIte]; omega
              · simp (disch := omega) only [true_and, and_true, true_or, or_true, Int.add_zero, z_up_fn, z_up_ni, z_up_eq, z_up_qi, z_rw_fn, z_rw_in, z_rw_out, if_pos, if_neg, ↓reduceIte]; omega
              · simp (disch := omega) only [true_and, and_true, true_or, or_true, Int.add_zero, z_up_fn, z_up_ni, z_up_eq, z_up_qi, z_rw_fn, z_rw_in, z_rw_out, if_pos, if_neg, ↓reduceIte]; omega
              · have p1 : p < σ 71 38 + 1 := p1
                by_cases c : p = σ 71 38
                · subst c
                  simp (disch := omega) only [true_and, and_true, true_or, or_true, Int.add_zero, z_up_fn, z_up_ni, z_up_eq, z_up_qi, z_rw_fn, z_rw_in, z_rw_out, if_pos, if_neg, ↓reduceIte, r_addGroup_0, r_addGroup_1, r_addGroup_2, r_addGroup_3]
                  omega
                · have q := v_G.2.2.2 p p0 (by omega)
                  simp (disch := omega) only [true_and, and_true, true_or, or_true, Int.add_zero, z_up_fn, z_up_ni, z_up_eq, z_up_qi, z_rw_fn, z_rw_in, z_rw_out, if_pos, if_neg, ↓reduceIte]
                  omega
            · intro k
              have w := v_kl k
              clear v_sc v_st v_mo v_se v_ik v_ba v_wP v_wZ v_wD v_wS v_wR v_wU v_wO v_wG v_wT v_P v_Q v_Z v_D v_S v_R v_U v_O v_G v_T v_kl v_kmo v_kse v_kP v_kQ v_kZ v_kD v_kS v_kR v_kU v_kO v_kG v_kT v_A v_X0 v_X1 v_X2 v_X3 v_pc v_pm v_lc v_lm
              unfold zKL at w ⊢
              simp (disch := omega) only [true_and, and_true, true_or, or_true, Int.add_zero, z_up_fn, z_up_ni, z_up_eq, z_up_qi, z_rw_fn, z_rw_in, z_rw_out, if_pos, if_neg, ↓reduceIte]
              omega
            · intro k
              have w := v_kl k
              unfold zKL at w
              have q := v_kG k
              clear v_sc v_st v_mo v_se v_ik v_ba v_wP v_wZ v_wD v_wS v_wR v_wU v_wO v_wG v_wT v_P v_Q v_Z v_D v_S v_R v_U v_O v_G v_T v_kl v_kmo v_kse v_kP v_kQ v_kZ v_kD v_kS v_kR v_kU v_kO v_kG v_kT v_A v_X0 v_X1 v_X2 v_X3 v_pc v_pm v_lc v_lm
              refine ⟨q.1, q.2.1, q.2.2.1, fun p p0 p1 => ?_⟩
              have p2 : p < σ 113 8 := p1
              have r := q.2.2.2 p p0 p2
              simp (disch := first | omega | (simp (disch := omega) only [z_up_fn, z_up_ni, z_up_eq, z_up_qi, z_rw_fn] <;> omega) | fail) only [true_and, and_true, true_or, or_true, Int.add_zero, z_up_fn, z_up_ni, z_up_eq, z_up_qi, z_rw_fn, z_rw_in, z_rw_out, if_pos, if_neg, ↓reduceIte]
              exact r
            · exact ⟨v_lc.1, Or.inl rfl, fun k => absurd (show (0 : Int) = 1 from k) (by decide)⟩
            · exact ⟨Or.inl rfl, fun k => absurd (show (0 : Int) = 1 from k) (by decide)⟩
        · apply zOK_mk2
          · simp (disch := first | omega | (simp (disch := omega) only [z_up_fn, z_up_ni, z_up_eq, z_up_qi, z_rw_fn] <;> omega) | fail) only [e_105_0, e_105_4, e_105_29, e_105_14, e_105_21, e_105_40, e_105_56, e_105_48, e_105_67, e_105_70, s_134, s_133, s_136, e_86_0_6, e_41_0, e_131_0, e_132_0, s_addGroup, Option.bind_some, Int.add_zero, z_wid, or_true, true_or, z_up_fn, z_up_ni, z_up_eq, z_up_qi, z_rw_fn, z_rw_in, z_rw_out, if_pos, if_neg, ↓reduceIte]
            exact w_ret rfl
          · intro k hk
            simp (disch := omega) only [z_up_fn, z_rw_fn]
          · intro τ hτ
            simp (disch := first | omega | (simp (disch := omega) only [hτ] <;> omega) | fail) only [e_193_0, e_193_7, e_193_32, e_193_17, e_193_24, e_193_47, e_193_119, s_149, s_160, e_150_0, e_151_0, hτ, Option.bind_some, Int.add_zero, z_wid, or_true, true_or, z_up_fn, z_up_ni, z_up_eq, z_up_qi, z_rw_fn, z_rw_in, z_rw_out, if_pos, if_neg, ↓reduceIte]
            exact w_ret rfl
          · exact w_ref h 2
      · apply zOK_mk2
        · simp (disch := first | omega | (simp (disch := omega) only [z_up_fn, z_up_ni, z_up_eq, z_up_qi, z_rw_fn] <;> omega) | fail) only [e_105_0, e_105_4, e_105_29, e_105_14, e_105_21, e_105_40, e_105_56, e_105_48, e_105_67, e_105_70, s_134, s_133, s_136, e_86_0_6, e_41_0, e_131_0, e_132_0, s_addGroup, Option.bind_some, Int.add_zero, z_wid, or_true, true_or, z_up_fn, z_up_ni, z_up_eq, z_up_qi, z_rw_fn, z_rw_in, z_rw_out, if_pos, if_neg, ↓reduceIte]
          exact w_ret rfl
        · intro k hk
          simp (disch := omega) only [z_up_fn, z_rw_fn]
        · intro τ hτ
          simp (disch := first | omega | (simp (disch := omega) only [hτ] <;> omega) | fail) only [e_193_0, e_193_7, e_193_32, e_193_17, e_193_24, e_193_47, e_193_119, s_149, s_160, e_150_0, e_151_0, hτ, Option.bind_some, Int.add_zero, z_wid, or_true, true_or, z_up_fn, z_up_ni, z_up_eq, z_up_qi, z_rw_fn, z_rw_in, z_rw_out, if_pos, if_neg, ↓reduceIte]
          exact w_ret rfl
        · exact w_ref h 1
    · apply zOK_mk2
      · simp (disch := first | omega | (simp (disch := omega) only [z_up_fn, z_up_ni, z_up_eq, z_up_qi, z_rw_fn] <;> omega) | fail) only [e_105_0, e_105_4, e_105_29, e_105_14, e_105_21, e_105_40, e_105_56, e_105_48, e_105_67, e_105_70, s_134, s_133, s_136, e_86_0_6, e_41_0, e_131_0, e_132_0, s_addGroup, Option.bind_some, Int.add_zero, z_wid, or_true, true_or, z_up_fn, z_up_ni, z_up_eq, z_up_qi, z_rw_fn, z_rw_in, z_rw_out, if_pos, if_neg, ↓reduceIte]
        exact w_ret rfl
      · intro k hk
        simp (disch := omega) only [z_up_fn, z_rw_fn]
      · intro τ hτ
        simp (disch := first | omega | (simp (disch := omega) only [hτ] <;> omega) | fail) only [e_193_0, e_193_7, e_193_32, e_193_17, e_193_24, e_193_47, e_193_119, s_149, s_160, e_150_0, e_151_0, hτ, Option.bind_some, Int.add_zero, z_wid, or_true, true_or, z_up_fn, z_up_ni, z_up_eq, z_up_qi, z_rw_fn, z_rw_in, z_rw_out, if_pos, if_neg, ↓reduceIte]
        exact w_ret rfl
      · exact w_ref h 1
  · apply zOK_mk2
    · simp (disch := first | omega | (simp (disch := omega) only [z_up_fn, z_up_ni, z_up_eq, z_up_qi, z_rw_fn] <;> omega) | fail) only [e_105_0, e_105_4, e_105_29, e_105_14, e_105_21, e_105_40, e_105_56, e_105_48, e_105_67, e_105_70, s_134, s_133, s_136, e_86_0_6, e_41_0, e_131_0, e_132_0, s_addGroup, Option.bind_some, Int.add_zero, z_wid, or_true, true_or, z_up_fn, z_up_ni, z_up_eq, z_up_qi, z_rw_fn, z_rw_in, z_rw_out, if_pos, if_neg, ↓reduceIte]
      exact w_ret rfl
    · intro k hk
      simp (disch := omega) only [z_up_fn, z_rw_fn]
    · intro τ hτ
      simp (disch := first | omega | (simp (disch := omega) only [hτ] <;> omega) | fail) only [e_193_0, e_193_7, e_193_32, e_193_17, e_193_24, e_193_47, e_193_119, s_149, s_160, e_150_0, e_151_0, hτ, Option.bind_some, Int.add_zero, z_wid, or_true, true_or, z_up_fn, z_up_ni, z_up_eq, z_up_qi, z_rw_fn, z_rw_in, z_rw_out, if_pos, if_neg, ↓reduceIte]
      exact w_ret rfl
    · exact w_ref h 1
theorem w_shl {n : Int} (h0 : 0 ≤ n) (h1 : n ≤ 12) : 1 ≤ z_shl 1 n ∧ z_shl 1 n ≤ 4096 := by
  have h : n = 0 ∨ n = 1 ∨ n = 2 ∨ n = 3 ∨ n = 4 ∨ n = 5 ∨ n = 6 ∨ n = 7 ∨ n = 8 ∨ n = 9 ∨ n = 10 ∨ n = 11 ∨ n = 12 := by omega
  rcases h with h | h | h | h | h | h | h | h | h | h | h | h | h <;> subst h <;> decide
