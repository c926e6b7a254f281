theorem o_row0 (d : Nat) (s : Int → Int) (L : Int) (σ : Nat → Int → Int) (h : zV s L σ) (x2 x3 : Int) (b3 : x3 < 2147483648) : zOK s L (d + 9) 128 227 [some (.inl 0), some (.inl x2), some (.inl x3), none, none, none, none, none, none] [some (.inl 0), some (.inl x2), some (.inl x3), none] σ := by
  have hwS := zV_wS h
  have hS := (zV_S h).1
  have hS1 := (zV_S h).2.1
  have hS2 := (zV_S h).2.2.1
  have hwP := zV_wP h
  have hP := (zV_P h).1
  have hP1 := (zV_P h).2.1
  have hP2 := (zV_P h).2.2.1
  have hX := zV_X0 h
  have hX1 := hX.1
  have hX2 := hX.2.1
  have hX3 := hX.2.2.1
  have hX4 := hX.2.2.2.1
  have hX5 := hX.2.2.2.2.1
  have hX6 := hX.2.2.2.2.2.1
  have n0 : 0 ≤ x3 → x3 + 4 ≤ σ 63 2 → σ 122 (x3) = σ 64 (x3) := by
    intro p q
    have g := (hX.2.2.2.2.2.2 (x3) (by omega) (by omega)).1
    rw [show (40 * 0 + (x3) : Int) = x3 by omega] at g
    exact g.symm
  have n1 : 0 ≤ x3 → x3 + 4 ≤ σ 63 2 → σ 122 (x3 + 1) = σ 64 (x3 + 1) := by
    intro p q
    have g := (hX.2.2.2.2.2.2 (x3 + 1) (by omega) (by omega)).1
    rw [show (40 * 0 + (x3 + 1) : Int) = x3 + 1 by omega] at g
    exact g.symm
  have n2 : 0 ≤ x3 → x3 + 4 ≤ σ 63 2 → σ 122 (x3 + 2) = σ 64 (x3 + 2) := by
    intro p q
    have g := (hX.2.2.2.2.2.2 (x3 + 2) (by omega) (by omega)).1
    rw [show (40 * 0 + (x3 + 2) : Int) = x3 + 2 by omega] at g
    exact g.symm
  have n3 : 0 ≤ x3 → x3 + 4 ≤ σ 63 2 → σ 122 (x3 + 3) = σ 64 (x3 + 3) := by
    intro p q
    have g := (hX.2.2.2.2.2.2 (x3 + 3) (by omega) (by omega)).1
    rw [show (40 * 0 + (x3 + 3) : Int) = x3 + 3 by omega] at g
    exact g.symm
  by_cases c1 : 0 ≤ x2
  · by_cases c2 : x2 ≤ 2
    · by_cases c3 : σ 8 3 < 20
      · by_cases c4 : ¬ σ 63 1 = -1
        · by_cases c5 : σ 63 1 = x2
          · by_cases c6 : 0 ≤ x3
            · by_cases c7 : x3 + 4 ≤ σ 63 2
              · have h3 : σ 64 (x3 + 2) < 2147483648 := by
                  have := (hX.2.2.2.2.2.2 (x3 + 2) (by omega) (by omega)).2
                  omega
                by_cases c8 : ((0 ≤ σ 64 x3 ∧ σ 64 x3 < σ 2 3) ∧ (0 ≤ σ 64 (x3 + 1) ∧ σ 64 (x3 + 1) ≤ 5) ∧ (0 ≤ σ 64 (x3 + 2) ∧ σ 64 (x3 + 2) / 100 ≤ σ 64 (x3 + 2) % 100 ∧ σ 64 (x3 + 2) % 100 ≤ 19) ∧ (0 ≤ σ 64 (x3 + 3) ∧ σ 64 (x3 + 3) ≤ 11) ∧ (σ 64 (x3 + 1) = 2 → σ 64 (x3 + 3) < σ 2 3))
                · have w3 := w_days c8.2.2.1.1 h3
                  have q2 := zV_Q h (σ 64 x3) c8.1.1 (by omega)
                  have r2 := z_cnt_rng (σ 80) (σ 64 x3) (σ 71 13).toNat
                  apply zOK_mk2
                  · simp (disch := first | omega | (simp (disch := omega) only [z_up_fn, z_up_ni, z_up_eq, z_up_qi, z_rw_fn] <;> omega) | fail) only [ite_self, e_128_0, e_128_4, e_128_19, e_128_11, e_128_30, e_128_45_0, e_128_45_1, e_128_45_2, e_128_45_3, e_128_38, e_128_53_0, e_128_53_1, e_128_53_2, e_128_53_3, e_128_74_0, e_128_66, e_128_74_1, e_128_74_2, e_128_74_3, e_128_83, e_128_90_0, e_128_90_1, e_128_90_2, e_128_90_3, e_128_100_0, e_128_100_1, e_128_100_2, e_128_100_3, e_128_110_0, e_128_110_1, e_128_110_2, e_128_110_3, e_128_120, e_128_134, e_128_142, e_128_159, e_128_162, s_138, e_75_0, e_86_0_2, e_77_0_0, e_78_0_0, e_78_4_0, e_79_0_0, e_80_0_0, e_81_0_0, e_81_5_0, s_142, s_addPass, e_131_0, e_132_0, w_ix0, w_iy0, Option.bind_some, Int.add_zero, z_wid, or_true, true_or, z_up_fn, z_up_ni, z_up_eq, z_up_qi, z_rw_fn, z_rw_in, z_rw_out, if_pos, if_neg, ↓reduceIte]
                    exact w_ret rfl
                  · intro k hk
                    simp (disch := omega) only [z_up_fn, z_rw_fn]
                  · intro τ hτ
                    simp (disch := first | omega | (simp (disch := omega) only [hτ] <;> omega) | fail) only [e_227_0, e_227_6, e_227_23, e_227_15, e_227_38, e_227_55, e_227_86, e_227_72, e_227_95, e_227_142, e_227_191, e_227_183, s_149, s_161, e_162_0, e_162_97, e_150_0, e_151_0, Int.reduceMul, Int.reduceAdd, Int.zero_add, n0, n1, n2, n3, hτ, Option.bind_some, Int.add_zero, z_wid, or_true, true_or, z_up_fn, z_up_ni, z_up_eq, z_up_qi, z_rw_fn, z_rw_in, z_rw_out, if_pos, if_neg, ↓reduceIte]
                    exact w_ret (by omega)
                  · skip
                    exact w_pass h _ _ _ _ h3 c8 c3
                · apply zOK_mk2
                  · simp (disch := first | omega | (simp (disch := omega) only [z_up_fn, z_up_ni, z_up_eq, z_up_qi, z_rw_fn] <;> omega) | fail) only [ite_self, e_128_0, e_128_4, e_128_19, e_128_11, e_128_30, e_128_45_0, e_128_45_1, e_128_45_2, e_128_45_3, e_128_38, e_128_53_0, e_128_53_1, e_128_53_2, e_128_53_3, e_128_74_0, e_128_66, e_128_74_1, e_128_74_2, e_128_74_3, e_128_83, e_128_90_0, e_128_90_1, e_128_90_2, e_128_90_3, e_128_100_0, e_128_100_1, e_128_100_2, e_128_100_3, e_128_110_0, e_128_110_1, e_128_110_2, e_128_110_3, e_128_120, e_128_134, e_128_142, e_128_159, e_128_162, s_138, e_75_0, e_86_0_2, e_77_0_0, e_78_0_0, e_78_4_0, e_79_0_0, e_80_0_0, e_81_0_0, e_81_5_0, s_142, s_addPass, e_131_0, e_132_0, w_ix0, w_iy0, Option.bind_some, Int.add_zero, z_wid, or_true, true_or, z_up_fn, z_up_ni, z_up_eq, z_up_qi, z_rw_fn, z_rw_in, z_rw_out, if_pos, if_neg, ↓reduceIte]
                    exact w_ret rfl
                  · intro k hk
                    simp (disch := omega) only [z_up_fn, z_rw_fn]
                  · intro τ hτ
                    simp (disch := first | omega | (simp (disch := omega) only [hτ] <;> omega) | fail) only [e_227_0, e_227_6, e_227_23, e_227_15, e_227_38, e_227_55, e_227_86, e_227_72, e_227_95, e_227_142, e_227_191, e_227_183, s_149, s_161, e_162_0, e_162_97, e_150_0, e_151_0, Int.reduceMul, Int.reduceAdd, Int.zero_add, n0, n1, n2, n3, hτ, Option.bind_some, Int.add_zero, z_wid, or_true, true_or, z_up_fn, z_up_ni, z_up_eq, z_up_qi, z_rw_fn, z_rw_in, z_rw_out, if_pos, if_neg, ↓reduceIte]
                    exact w_ret rfl
                  · exact w_ref h 3
              · apply zOK_mk2
                · simp (disch := first | omega | (simp (disch := omega) only [z_up_fn, z_up_ni, z_up_eq, z_up_qi, z_rw_fn] <;> omega) | fail) only [ite_self, e_128_0, e_128_4, e_128_19, e_128_11, e_128_30, e_128_45_0, e_128_45_1, e_128_45_2, e_128_45_3, e_128_38, e_128_53_0, e_128_53_1, e_128_53_2, e_128_53_3, e_128_74_0, e_128_66, e_128_74_1, e_128_74_2, e_128_74_3, e_128_83, e_128_90_0, e_128_90_1, e_128_90_2, e_128_90_3, e_128_100_0, e_128_100_1, e_128_100_2, e_128_100_3, e_128_110_0, e_128_110_1, e_128_110_2, e_128_110_3, e_128_120, e_128_134, e_128_142, e_128_159, e_128_162, s_138, e_75_0, e_86_0_2, e_77_0_0, e_78_0_0, e_78_4_0, e_79_0_0, e_80_0_0, e_81_0_0, e_81_5_0, s_142, s_addPass, e_131_0, e_132_0, w_ix0, w_iy0, Option.bind_some, Int.add_zero, z_wid, or_true, true_or, z_up_fn, z_up_ni, z_up_eq, z_up_qi, z_rw_fn, z_rw_in, z_rw_out, if_pos, if_neg, ↓reduceIte]
                  exact w_ret rfl
                · intro k hk
                  simp (disch := omega) only [z_up_fn, z_rw_fn]
                · intro τ hτ
                  simp (disch := first | omega | (simp (disch := omega) only [hτ] <;> omega) | fail) only [e_227_0, e_227_6, e_227_23, e_227_15, e_227_38, e_227_55, e_227_86, e_227_72, e_227_95, e_227_142, e_227_191, e_227_183, s_149, s_161, e_162_0, e_162_97, e_150_0, e_151_0, Int.reduceMul, Int.reduceAdd, Int.zero_add, n0, n1, n2, n3, hτ, Option.bind_some, Int.add_zero, z_wid, or_true, true_or, z_up_fn, z_up_ni, z_up_eq, z_up_qi, z_rw_fn, z_rw_in, z_rw_out, if_pos, if_neg, ↓reduceIte]
                  exact w_ret rfl
                · exact w_ref h 12
            · apply zOK_mk2
              · simp (disch := first | omega | (simp (disch := omega) only [z_up_fn, z_up_ni, z_up_eq, z_up_qi, z_rw_fn] <;> omega) | fail) only [ite_self, e_128_0, e_128_4, e_128_19, e_128_11, e_128_30, e_128_45_0, e_128_45_1, e_128_45_2, e_128_45_3, e_128_38, e_128_53_0, e_128_53_1, e_128_53_2, e_128_53_3, e_128_74_0, e_128_66, e_128_74_1, e_128_74_2, e_128_74_3, e_128_83, e_128_90_0, e_128_90_1, e_128_90_2, e_128_90_3, e_128_100_0, e_128_100_1, e_128_100_2, e_128_100_3, e_128_110_0, e_128_110_1, e_128_110_2, e_128_110_3, e_128_120, e_128_134, e_128_142, e_128_159, e_128_162, s_138, e_75_0, e_86_0_2, e_77_0_0, e_78_0_0, e_78_4_0, e_79_0_0, e_80_0_0, e_81_0_0, e_81_5_0, s_142, s_addPass, e_131_0, e_132_0, w_ix0, w_iy0, Option.bind_some, Int.add_zero, z_wid, or_true, true_or, z_up_fn, z_up_ni, z_up_eq, z_up_qi, z_rw_fn, z_rw_in, z_rw_out, if_pos, if_neg, ↓reduceIte]
                exact w_ret rfl
              · intro k hk
                simp (disch := omega) only [z_up_fn, z_rw_fn]
              · intro τ hτ
                simp (disch := first | omega | (simp (disch := omega) only [hτ] <;> omega) | fail) only [e_227_0, e_227_6, e_227_23, e_227_15, e_227_38, e_227_55, e_227_86, e_227_72, e_227_95, e_227_142, e_227_191, e_227_183, s_149, s_161, e_162_0, e_162_97, e_150_0, e_151_0, Int.reduceMul, Int.reduceAdd, Int.zero_add, n0, n1, n2, n3, hτ, Option.bind_some, Int.add_zero, z_wid, or_true, true_or, z_up_fn, z_up_ni, z_up_eq, z_up_qi, z_rw_fn, z_rw_in, z_rw_out, if_pos, if_neg, ↓reduceIte]
                exact w_ret rfl
              · exact w_ref h 12
          · apply zOK_mk2
            · simp (disch := first | omega | (simp (disch := omega) only [z_up_fn, z_up_ni, z_up_eq, z_up_qi, z_rw_fn] <;> omega) | fail) only [ite_self, e_128_0, e_128_4, e_128_19, e_128_11, e_128_30, e_128_45_0, e_128_45_1, e_128_45_2, e_128_45_3, e_128_38, e_128_53_0, e_128_53_1, e_128_53_2, e_128_53_3, e_128_74_0, e_128_66, e_128_74_1, e_128_74_2, e_128_74_3, e_128_83, e_128_90_0, e_128_90_1, e_128_90_2, e_128_90_3, e_128_100_0, e_128_100_1, e_128_100_2, e_128_100_3, e_128_110_0, e_128_110_1, e_128_110_2, e_128_110_3, e_128_120, e_128_134, e_128_142, e_128_159, e_128_162, s_138, e_75_0, e_86_0_2, e_77_0_0, e_78_0_0, e_78_4_0, e_79_0_0, e_80_0_0, e_81_0_0, e_81_5_0, s_142, s_addPass, e_131_0, e_132_0, w_ix0, w_iy0, Option.bind_some, Int.add_zero, z_wid, or_true, true_or, z_up_fn, z_up_ni, z_up_eq, z_up_qi, z_rw_fn, z_rw_in, z_rw_out, if_pos, if_neg, ↓reduceIte]
              exact w_ret rfl
            · intro k hk
              simp (disch := omega) only [z_up_fn, z_rw_fn]
            · intro τ hτ
              simp (disch := first | omega | (simp (disch := omega) only [hτ] <;> omega) | fail) only [e_227_0, e_227_6, e_227_23, e_227_15, e_227_38, e_227_55, e_227_86, e_227_72, e_227_95, e_227_142, e_227_191, e_227_183, s_149, s_161, e_162_0, e_162_97, e_150_0, e_151_0, Int.reduceMul, Int.reduceAdd, Int.zero_add, n0, n1, n2, n3, hτ, Option.bind_some, Int.add_zero, z_wid, or_true, true_or, z_up_fn, z_up_ni, z_up_eq, z_up_qi, z_rw_fn, z_rw_in, z_rw_out, if_pos, if_neg, ↓reduceIte]
              exact w_ret rfl
            · exact w_ref h 11
        · apply zOK_mk2
          · simp (disch := first | omega | (simp (disch := omega) only [z_up_fn, z_up_ni, z_up_eq, z_up_qi, z_rw_fn] <;> omega) | fail) only [ite_self, e_128_0, e_128_4, e_128_19, e_128_11, e_128_30, e_128_45_0, e_128_45_1, e_128_45_2, e_128_45_3, e_128_38, e_128_53_0, e_128_53_1, e_128_53_2, e_128_53_3, e_128_74_0, e_128_66, e_128_74_1, e_128_74_2, e_128_74_3, e_128_83, e_128_90_0, e_128_90_1, e_128_90_2, e_128_90_3, e_128_100_0, e_128_100_1, e_128_100_2, e_128_100_3, e_128_110_0, e_128_110_1, e_128_110_2, e_128_110_3, e_128_120, e_128_134, e_128_142, e_128_159, e_128_162, s_138, e_75_0, e_86_0_2, e_77_0_0, e_78_0_0, e_78_4_0, e_79_0_0, e_80_0_0, e_81_0_0, e_81_5_0, s_142, s_addPass, e_131_0, e_132_0, w_ix0, w_iy0, Option.bind_some, Int.add_zero, z_wid, or_true, true_or, z_up_fn, z_up_ni, z_up_eq, z_up_qi, z_rw_fn, z_rw_in, z_rw_out, if_pos, if_neg, ↓reduceIte]
            exact w_ret rfl
          · intro k hk
            simp (disch := omega) only [z_up_fn, z_rw_fn]
          · intro τ hτ
            simp (disch := first | omega | (simp (disch := omega) only [hτ] <;> omega) | fail) only [e_227_0, e_227_6, e_227_23, e_227_15, e_227_38, e_227_55, e_227_86, e_227_72, e_227_95, e_227_142, e_227_191, e_227_183, s_149, s_161, e_162_0, e_162_97, e_150_0, e_151_0, Int.reduceMul, Int.reduceAdd, Int.zero_add, n0, n1, n2, n3, hτ, Option.bind_some, Int.add_zero, z_wid, or_true, true_or, z_up_fn, z_up_ni, z_up_eq, z_up_qi, z_rw_fn, z_rw_in, z_rw_out, if_pos, if_neg, ↓reduceIte]
            exact w_ret rfl
          · exact w_ref h 10
      · apply zOK_mk2
        · simp (disch := first | omega | (simp (disch := omega) only [z_up_fn, z_up_ni, z_up_eq, z_up_qi, z_rw_fn] <;> omega) | fail) only [ite_self, e_128_0, e_128_4, e_128_19, e_128_11, e_128_30, e_128_45_0, e_128_45_1, e_128_45_2, e_128_45_3, e_128_38, e_128_53_0, e_128_53_1, e_128_53_2, e_128_53_3, e_128_74_0, e_128_66, e_128_74_1, e_128_74_2, e_128_74_3, e_128_83, e_128_90_0, e_128_90_1, e_128_90_2, e_128_90_3, e_128_100_0, e_128_100_1, e_128_100_2, e_128_100_3, e_128_110_0, e_128_110_1, e_128_110_2, e_128_110_3, e_128_120, e_128_134, e_128_142, e_128_159, e_128_162, s_138, e_75_0, e_86_0_2, e_77_0_0, e_78_0_0, e_78_4_0, e_79_0_0, e_80_0_0, e_81_0_0, e_81_5_0, s_142, s_addPass, e_131_0, e_132_0, w_ix0, w_iy0, Option.bind_some, Int.add_zero, z_wid, or_true, true_or, z_up_fn, z_up_ni, z_up_eq, z_up_qi, z_rw_fn, z_rw_in, z_rw_out, if_pos, if_neg, ↓reduceIte]
          exact w_ret rfl
        · intro k hk
          simp (disch := omega) only [z_up_fn, z_rw_fn]
        · intro τ hτ
          simp (disch := first | omega | (simp (disch := omega) only [hτ] <;> omega) | fail) only [e_227_0, e_227_6, e_227_23, e_227_15, e_227_38, e_227_55, e_227_86, e_227_72, e_227_95, e_227_142, e_227_191, e_227_183, s_149, s_161, e_162_0, e_162_97, e_150_0, e_151_0, Int.reduceMul, Int.reduceAdd, Int.zero_add, n0, n1, n2, n3, hτ, Option.bind_some, Int.add_zero, z_wid, or_true, true_or, z_up_fn, z_up_ni, z_up_eq, z_up_qi, z_rw_fn, z_rw_in, z_rw_out, if_pos, if_neg, ↓reduceIte]
          exact w_ret rfl
        · exact w_ref h 2
    · apply zOK_mk2
      · simp (disch := first | omega | (simp (disch := omega) only [z_up_fn, z_up_ni, z_up_eq, z_up_qi, z_rw_fn] <;> omega) | fail) only [ite_self, e_128_0, e_128_4, e_128_19, e_128_11, e_128_30, e_128_45_0, e_128_45_1, e_128_45_2, e_128_45_3, e_128_38, e_128_53_0, e_128_53_1, e_128_53_2, e_128_53_3, e_128_74_0, e_128_66, e_128_74_1, e_128_74_2, e_128_74_3, e_128_83, e_128_90_0, e_128_90_1, e_128_90_2, e_128_90_3, e_128_100_0, e_128_100_1, e_128_100_2, e_128_100_3, e_128_110_0, e_128_110_1, e_128_110_2, e_128_110_3, e_128_120, e_128_134, e_128_142, e_128_159, e_128_162, s_138, e_75_0, e_86_0_2, e_77_0_0, e_78_0_0, e_78_4_0, e_79_0_0, e_80_0_0, e_81_0_0, e_81_5_0, s_142, s_addPass, e_131_0, e_132_0, w_ix0, w_iy0, Option.bind_some, Int.add_zero, z_wid, or_true, true_or, z_up_fn, z_up_ni, z_up_eq, z_up_qi, z_rw_fn, z_rw_in, z_rw_out, if_pos, if_neg, ↓reduceIte]
        exact w_ret rfl
      · intro k hk
        simp (disch := omega) only [z_up_fn, z_rw_fn]
      · intro τ hτ
        simp (disch := first | omega | (simp (disch := omega) only [hτ] <;> omega) | fail) only [e_227_0, e_227_6, e_227_23, e_227_15, e_227_38, e_227_55, e_227_86, e_227_72, e_227_95, e_227_142, e_227_191, e_227_183, s_149, s_161, e_162_0, e_162_97, e_150_0, e_151_0, Int.reduceMul, Int.reduceAdd, Int.zero_add, n0, n1, n2, n3, hτ, Option.bind_some, Int.add_zero, z_wid, or_true, true_or, z_up_fn, z_up_ni, z_up_eq, z_up_qi, z_rw_fn, z_rw_in, z_rw_out, if_pos, if_neg, ↓reduceIte]
        exact w_ret rfl
      · exact w_ref h 1
  · apply zOK_mk2
    · simp (disch := first | omega | (simp (disch := omega) only [z_up_fn, z_up_ni, z_up_eq, z_up_qi, z_rw_fn] <;> omega) | fail) only [ite_self, e_128_0, e_128_4, e_128_19, e_128_11, e_128_30, e_128_45_0, e_128_45_1, e_128_45_2, e_128_45_3, e_128_38, e_128_53_0, e_128_53_1, e_128_53_2, e_128_53_3, e_128_74_0, e_128_66, e_128_74_1, e_128_74_2, e_128_74_3, e_128_83, e_128_90_0, e_128_90_1, e_128_90_2, e_128_90_3, e_128_100_0, e_128_100_1, e_128_100_2, e_128_100_3, e_128_110_0, e_128_110_1, e_128_110_2, e_128_110_3, e_128_120, e_128_134, e_128_142, e_128_159, e_128_162, s_138, e_75_0, e_86_0_2, e_77_0_0, e_78_0_0, e_78_4_0, e_79_0_0, e_80_0_0, e_81_0_0, e_81_5_0, s_142, s_addPass, e_131_0, e_132_0, w_ix0, w_iy0, Option.bind_some, Int.add_zero, z_wid, or_true, true_or, z_up_fn, z_up_ni, z_up_eq, z_up_qi, z_rw_fn, z_rw_in, z_rw_out, if_pos, if_neg, ↓reduceIte]
      exact w_ret rfl
    · intro k hk
      simp (disch := omega) only [z_up_fn, z_rw_fn]
    · intro τ hτ
      simp (disch := first | omega | (simp (disch := omega) only [hτ] <;> omega) | fail) only [e_227_0, e_227_6, e_227_23, e_227_15, e_227_38, e_227_55, e_227_86, e_227_72, e_227_95, e_227_142, e_227_191, e_227_183, s_149, s_161, e_162_0, e_162_97, e_150_0, e_151_0, Int.reduceMul, Int.reduceAdd, Int.zero_add, n0, n1, n2, n3, hτ, Option.bind_some, Int.add_zero, z_wid, or_true, true_or, z_up_fn, z_up_ni, z_up_eq, z_up_qi, z_rw_fn, z_rw_in, z_rw_out, if_pos, if_neg, ↓reduceIte]
      exact w_ret rfl
    · exact w_ref h 1
theorem o_row1 (d : Nat) (s : Int → Int) (L : Int) (σ : Nat → Int → Int) (h : zV s L σ) (x2 x3 : Int) (b3 : x3 < 2147483648) : zOK s L (d + 9) 128 227 [some (.inl 1), some (.inl x2), some (.inl x3), none, none, none, none, none, none] [some (.inl 1), some (.inl x2), some (.inl x3), none] σ := by
  have hwS := zV_wS h
  have hS := (zV_S h).1
  have hS1 := (zV_S h).2.1
  have hS2 := (zV_S h).2.2.1
  have hwP := zV_wP h
  have hP := (zV_P h).1
  have hP1 := (zV_P h).2.1
  have hP2 := (zV_P h).2.2.1
  have hX := zV_X1 h
  have hX1 := hX.1
  have hX2 := hX.2.1
  have hX3 := hX.2.2.1
  have hX4 := hX.2.2.2.1
  have hX5 := hX.2.2.2.2.1
  have hX6 := hX.2.2.2.2.2.1
  have n0 : 0 ≤ x3 → x3 + 4 ≤ σ 65 2 → σ 122 (40 + x3) = σ 66 (x3) := by
    intro p q
    have g := (hX.2.2.2.2.2.2 (x3) (by omega) (by omega)).1
    rw [show (40 * 1 + (x3) : Int) = 40 + x3 by omega] at g
    exact g.symm
  have n1 : 0 ≤ x3 → x3 + 4 ≤ σ 65 2 → σ 122 (40 + x3 + 1) = σ 66 (x3 + 1) := by
    intro p q
    have g := (hX.2.2.2.2.2.2 (x3 + 1) (by omega) (by omega)).1
    rw [show (40 * 1 + (x3 + 1) : Int) = 40 + x3 + 1 by omega] at g
    exact g.symm
  have n2 : 0 ≤ x3 → x3 + 4 ≤ σ 65 2 → σ 122 (40 + x3 + 2) = σ 66 (x3 + 2) := by
    intro p q
    have g := (hX.2.2.2.2.2.2 (x3 + 2) (by omega) (by omega)).1
    rw [show (40 * 1 + (x3 + 2) : Int) = 40 + x3 + 2 by omega] at g
    exact g.symm
  have n3 : 0 ≤ x3 → x3 + 4 ≤ σ 65 2 → σ 122 (40 + x3 + 3) = σ 66 (x3 + 3) := by
    intro p q
    have g := (hX.2.2.2.2.2.2 (x3 + 3) (by omega) (by omega)).1
    rw [show (40 * 1 + (x3 + 3) : Int) = 40 + x3 + 3 by omega] at g
    exact g.symm
  by_cases c1 : 0 ≤ x2
  · by_cases c2 : x2 ≤ 2
    · by_cases c3 : σ 8 3 < 20
      · by_cases c4 : ¬ σ 65 1 = -1
        · by_cases c5 : σ 65 1 = x2
          · by_cases c6 : 0 ≤ x3
            · by_cases c7 : x3 + 4 ≤ σ 65 2
              · have h3 : σ 66 (x3 + 2) < 2147483648 := by
                  have := (hX.2.2.2.2.2.2 (x3 + 2) (by omega) (by omega)).2
                  omega
                by_cases c8 : ((0 ≤ σ 66 x3 ∧ σ 66 x3 < σ 2 3) ∧ (0 ≤ σ 66 (x3 + 1) ∧ σ 66 (x3 + 1) ≤ 5) ∧ (0 ≤ σ 66 (x3 + 2) ∧ σ 66 (x3 + 2) / 100 ≤ σ 66 (x3 + 2) % 100 ∧ σ 66 (x3 + 2) % 100 ≤ 19) ∧ (0 ≤ σ 66 (x3 + 3) ∧ σ 66 (x3 + 3) ≤ 11) ∧ (σ 66 (x3 + 1) = 2 → σ 66 (x3 + 3) < σ 2 3))
                · have w3 := w_days c8.2.2.1.1 h3
                  have q2 := zV_Q h (σ 66 x3) c8.1.1 (by omega)
                  have r2 := z_cnt_rng (σ 80) (σ 66 x3) (σ 71 13).toNat
                  apply zOK_mk2
                  · simp (disch := first | omega | (simp (disch := omega) only [z_up_fn, z_up_ni, z_up_eq, z_up_qi, z_rw_fn] <;> omega) | fail) only [ite_self, e_128_0, e_128_4, e_128_19, e_128_11, e_128_30, e_128_45_0, e_128_45_1, e_128_45_2, e_128_45_3, e_128_38, e_128_53_0, e_128_53_1, e_128_53_2, e_128_53_3, e_128_74_0, e_128_66, e_128_74_1, e_128_74_2, e_128_74_3, e_128_83, e_128_90_0, e_128_90_1, e_128_90_2, e_128_90_3, e_128_100_0, e_128_100_1, e_128_100_2, e_128_100_3, e_128_110_0, e_128_110_1, e_128_110_2, e_128_110_3, e_128_120, e_128_134, e_128_142, e_128_159, e_128_162, s_138, e_75_0, e_86_0_2, e_77_0_1, e_78_0_1, e_78_4_1, e_79_0_1, e_80_0_1, e_81_0_1, e_81_5_1, s_142, s_addPass, e_131_0, e_132_0, w_ix1, w_iy1, Option.bind_some, Int.add_zero, z_wid, or_true, true_or, z_up_fn, z_up_ni, z_up_eq, z_up_qi, z_rw_fn, z_rw_in, z_rw_out, if_pos, if_neg, ↓reduceIte]
                    exact w_ret rfl
                  · intro k hk
                    simp (disch := omega) only [z_up_fn, z_rw_fn]
                  · intro τ hτ
                    simp (disch := first | omega | (simp (disch := omega) only [hτ] <;> omega) | fail) only [e_227_0, e_227_6, e_227_23, e_227_15, e_227_38, e_227_55, e_227_86, e_227_72, e_227_95, e_227_142, e_227_191, e_227_183, s_149, s_161, e_162_0, e_162_97, e_150_0, e_151_0, Int.reduceMul, Int.reduceAdd, Int.zero_add, n0, n1, n2, n3, hτ, Option.bind_some, Int.add_zero, z_wid, or_true, true_or, z_up_fn, z_up_ni, z_up_eq, z_up_qi, z_rw_fn, z_rw_in, z_rw_out, if_pos, if_neg, ↓reduceIte]
                    exact w_ret (by omega)
                  · skip
                    exact w_pass h _ _ _ _ h3 c8 c3
                · apply zOK_mk2
                  · simp (disch := first | omega | (simp (disch := omega) only [z_up_fn, z_up_ni, z_up_eq, z_up_qi, z_rw_fn] <;> omega) | fail) only [ite_self, e_128_0, e_128_4, e_128_19, e_128_11, e_128_30, e_128_45_0, e_128_45_1, e_128_45_2, e_128_45_3, e_128_38, e_128_53_0, e_128_53_1, e_128_53_2, e_128_53_3, e_128_74_0, e_128_66, e_128_74_1, e_128_74_2, e_128_74_3, e_128_83, e_128_90_0, e_128_90_1, e_128_90_2, e_128_90_3, e_128_100_0, e_128_100_1, e_128_100_2, e_128_100_3, e_128_110_0, e_128_110_1, e_128_110_2, e_128_110_3, e_128_120, e_128_134, e_128_142, e_128_159, e_128_162, s_138, e_75_0, e_86_0_2, e_77_0_1, e_78_0_1, e_78_4_1, e_79_0_1, e_80_0_1, e_81_0_1, e_81_5_1, s_142, s_addPass, e_131_0, e_132_0, w_ix1, w_iy1, Option.bind_some, Int.add_zero, z_wid, or_true, true_or, z_up_fn, z_up_ni, z_up_eq, z_up_qi, z_rw_fn, z_rw_in, z_rw_out, if_pos, if_neg, ↓reduceIte]
                    exact w_ret rfl
                  · intro k hk
                    simp (disch := omega) only [z_up_fn, z_rw_fn]
                  · intro τ hτ
                    simp (disch := first | omega | (simp (disch := omega) only [hτ] <;> omega) | fail) only [e_227_0, e_227_6, e_227_23, e_227_15, e_227_38, e_227_55, e_227_86, e_227_72, e_227_95, e_227_142, e_227_191, e_227_183, s_149, s_161, e_162_0, e_162_97, e_150_0, e_151_0, Int.reduceMul, Int.reduceAdd, Int.zero_add, n0, n1, n2, n3, hτ, Option.bind_some, Int.add_zero, z_wid, or_true, true_or, z_up_fn, z_up_ni, z_up_eq, z_up_qi, z_rw_fn, z_rw_in, z_rw_out, if_pos, if_neg, ↓reduceIte]
                    exact w_ret rfl
                  · exact w_ref h 3
              · apply zOK_mk2
                · simp (disch := first | omega | (simp (disch := omega) only [z_up_fn, z_up_ni, z_up_eq, z_up_qi, z_rw_fn] <;> omega) | fail) only [ite_self, e_128_0, e_128_4, e_128_19, e_128_11, e_128_30, e_128_45_0, e_128_45_1, e_128_45_2, e_128_45_3, e_128_38, e_128_53_0, e_128_53_1, e_128_53_2, e_128_53_3, e_128_74_0, e_128_66, e_128_74_1, e_128_74_2, e_128_74_3, e_128_83, e_128_90_0, e_128_90_1, e_128_90_2, e_128_90_3, e_128_100_0, e_128_100_1, e_128_100_2, e_128_100_3, e_128_110_0, e_128_110_1, e_128_110_2, e_128_110_3, e_128_120, e_128_134, e_128_142, e_128_159, e_128_162, s_138, e_75_0, e_86_0_2, e_77_0_1, e_78_0_1, e_78_4_1, e_79_0_1, e_80_0_1, e_81_0_1, e_81_5_1, s_142, s_addPass, e_131_0, e_132_0, w_ix1, w_iy1, Option.bind_some, Int.add_zero, z_wid, or_true, true_or, z_up_fn, z_up_ni, z_up_eq, z_up_qi, z_rw_fn, z_rw_in, z_rw_out, if_pos, if_neg, ↓reduceIte]
                  exact w_ret rfl
                · intro k hk
                  simp (disch := omega) only [z_up_fn, z_rw_fn]
                · intro τ hτ
                  simp (disch := first | omega | (simp (disch := omega) only [hτ] <;> omega) | fail) only [e_227_0, e_227_6, e_227_23, e_227_15, e_227_38, e_227_55, e_227_86, e_227_72, e_227_95, e_227_142, e_227_191, e_227_183, s_149, s_161, e_162_0, e_162_97, e_150_0, e_151_0, Int.reduceMul, Int.reduceAdd, Int.zero_add, n0, n1, n2, n3, hτ, Option.bind_some, Int.add_zero, z_wid, or_true, true_or, z_up_fn, z_up_ni, z_up_eq, z_up_qi, z_rw_fn, z_rw_in, z_rw_out, if_pos, if_neg, ↓reduceIte]
                  exact w_ret rfl
                · exact w_ref h 12
            · apply zOK_mk2
              · simp (disch := first | omega | (simp (disch := omega) only [z_up_fn, z_up_ni, z_up_eq, z_up_qi, z_rw_fn] <;> omega) | fail) only [ite_self, e_128_0, e_128_4, e_128_19, e_128_11, e_128_30, e_128_45_0, e_128_45_1, e_128_45_2, e_128_45_3, e_128_38, e_128_53_0, e_128_53_1, e_128_53_2, e_128_53_3, e_128_74_0, e_128_66, e_128_74_1, e_128_74_2, e_128_74_3, e_128_83, e_128_90_0, e_128_90_1, e_128_90_2, e_128_90_3, e_128_100_0, e_128_100_1, e_128_100_2, e_128_100_3, e_128_110_0, e_128_110_1, e_128_110_2, e_128_110_3, e_128_120, e_128_134, e_128_142, e_128_159, e_128_162, s_138, e_75_0, e_86_0_2, e_77_0_1, e_78_0_1, e_78_4_1, e_79_0_1, e_80_0_1, e_81_0_1, e_81_5_1, s_142, s_addPass, e_131_0, e_132_0, w_ix1, w_iy1, Option.bind_some, Int.add_zero, z_wid, or_true, true_or, z_up_fn, z_up_ni, z_up_eq, z_up_qi, z_rw_fn, z_rw_in, z_rw_out, if_pos, if_neg, ↓reduceIte]
                exact w_ret rfl
              · intro k hk
                simp (disch := omega) only [z_up_fn, z_rw_fn]
              · intro τ hτ
                simp (disch := first | omega | (simp (disch := omega) only [hτ] <;> omega) | fail) only [e_227_0, e_227_6, e_227_23, e_227_15, e_227_38, e_227_55, e_227_86, e_227_72, e_227_95, e_227_142, e_227_191, e_227_183, s_149, s_161, e_162_0, e_162_97, e_150_0, e_151_0, Int.reduceMul, Int.reduceAdd, Int.zero_add, n0, n1, n2, n3, hτ, Option.bind_some, Int.add_zero, z_wid, or_true, true_or, z_up_fn, z_up_ni, z_up_eq, z_up_qi, z_rw_fn, z_rw_in, z_rw_out, if_pos, if_neg, ↓reduceIte]
                exact w_ret rfl
              · exact w_ref h 12
          · apply zOK_mk2
            · simp (disch := first | omega | (simp (disch := omega) only [z_up_fn, z_up_ni, z_up_eq, z_up_qi, z_rw_fn] <;> omega) | fail) only [ite_self, e_128_0, e_128_4, e_128_19, e_128_11, e_128_30, e_128_45_0, e_128_45_1, e_128_45_2, e_128_45_3, e_128_38, e_128_53_0, e_128_53_1, e_128_53_2, e_128_53_3, e_128_74_0, e_128_66, e_128_74_1, e_128_74_2, e_128_74_3, e_128_83, e_128_90_0, e_128_90_1, e_128_90_2, e_128_90_3, e_128_100_0, e_128_100_1, e_128_100_2, e_128_100_3, e_128_110_0, e_128_110_1, e_128_110_2, e_128_110_3, e_128_120, e_128_134, e_128_142, e_128_159, e_128_162, s_138, e_75_0, e_86_0_2, e_77_0_1, e_78_0_1, e_78_4_1, e_79_0_1, e_80_0_1, e_81_0_1, e_81_5_1, s_142, s_addPass, e_131_0, e_132_0, w_ix1, w_iy1, Option.bind_some, Int.add_zero, z_wid, or_true, true_or, z_up_fn, z_up_ni, z_up_eq, z_up_qi, z_rw_fn, z_rw_in, z_rw_out, if_pos, if_neg, ↓reduceIte]
              exact w_ret rfl
            · intro k hk
              simp (disch := omega) only [z_up_fn, z_rw_fn]
            · intro τ hτ
              simp (disch := first | omega | (simp (disch := omega) only [hτ] <;> omega) | fail) only [e_227_0, e_227_6, e_227_23, e_227_15, e_227_38, e_227_55, e_227_86, e_227_72, e_227_95, e_227_142, e_227_191, e_227_183, s_149, s_161, e_162_0, e_162_97, e_150_0, e_151_0, Int.reduceMul, Int.reduceAdd, Int.zero_add, n0, n1, n2, n3, hτ, Option.bind_some, Int.add_zero, z_wid, or_true, true_or, z_up_fn, z_up_ni, z_up_eq, z_up_qi, z_rw_fn, z_rw_in, z_rw_out, if_pos, if_neg, ↓reduceIte]
              exact w_ret rfl
            · exact w_ref h 11
        · apply zOK_mk2
          · simp (disch := first | omega | (simp (disch := omega) only [z_up_fn, z_up_ni, z_up_eq, z_up_qi, z_rw_fn] <;> omega) | fail) only [ite_self, e_128_0, e_128_4, e_128_19, e_128_11, e_128_30, e_128_45_0, e_128_45_1, e_128_45_2, e_128_45_3, e_128_38, e_128_53_0, e_128_53_1, e_128_53_2, e_128_53_3, e_128_74_0, e_128_66, e_128_74_1, e_128_74_2, e_128_74_3, e_128_83, e_128_90_0, e_128_90_1, e_128_90_2, e_128_90_3, e_128_100_0, e_128_100_1, e_128_100_2, e_128_100_3, e_128_110_0, e_128_110_1, e_128_110_2, e_128_110_3, e_128_120, e_128_134, e_128_142, e_128_159, e_128_162, s_138, e_75_0, e_86_0_2, e_77_0_1, e_78_0_1, e_78_4_1, e_79_0_1, e_80_0_1, e_81_0_1, e_81_5_1, s_142, s_addPass, e_131_0, e_132_0, w_ix1, w_iy1, Option.bind_some, Int.add_zero, z_wid, or_true, true_or, z_up_fn, z_up_ni, z_up_eq, z_up_qi, z_rw_fn, z_rw_in, z_rw_out, if_pos, if_neg, ↓reduceIte]
            exact w_ret rfl
          · intro k hk
            simp (disch := omega) only [z_up_fn, z_rw_fn]
          · intro τ hτ
            simp (disch := first | omega | (simp (disch := omega) only [hτ] <;> omega) | fail) only [e_227_0, e_227_6, e_227_23, e_227_15, e_227_38, e_227_55, e_227_86, e_227_72, e_227_95, e_227_142, e_227_191, e_227_183, s_149, s_161, e_162_0, e_162_97, e_150_0, e_151_0, Int.reduceMul, Int.reduceAdd, Int.zero_add, n0, n1, n2, n3, hτ, Option.bind_some, Int.add_zero, z_wid, or_true, true_or, z_up_fn, z_up_ni, z_up_eq, z_up_qi, z_rw_fn, z_rw_in, z_rw_out, if_pos, if_neg, ↓reduceIte]
            exact w_ret rfl
          · exact w_ref h 10
      · apply zOK_mk2
        · simp (disch := first | omega | (simp (disch := omega) only [z_up_fn, z_up_ni, z_up_eq, z_up_qi, z_rw_fn] <;> omega) | fail) only [ite_self, e_128_0, e_128_4, e_128_19, e_128_11, e_128_30, e_128_45_0, e_128_45_1, e_128_45_2, e_128_45_3, e_128_38, e_128_53_0, e_128_53_1, e_128_53_2, e_128_53_3, e_128_74_0, e_128_66, e_128_74_1, e_128_74_2, e_128_74_3, e_128_83, e_128_90_0, e_128_90_1, e_128_90_2, e_128_90_3, e_128_100_0, e_128_100_1, e_128_100_2, e_128_100_3, e_128_110_0, e_128_110_1, e_128_110_2, e_128_110_3, e_128_120, e_128_134, e_128_142, e_128_159, e_128_162, s_138, e_75_0, e_86_0_2, e_77_0_1, e_78_0_1, e_78_4_1, e_79_0_1, e_80_0_1, e_81_0_1, e_81_5_1, s_142, s_addPass, e_131_0, e_132_0, w_ix1, w_iy1, Option.bind_some, Int.add_zero, z_wid, or_true, true_or, z_up_fn, z_up_ni, z_up_eq, z_up_qi, z_rw_fn, z_rw_in, z_rw_out, if_pos, if_neg, ↓reduceIte]
          exact w_ret rfl
        · intro k hk
          simp (disch := omega) only [z_up_fn, z_rw_fn]
        · intro τ hτ
          simp (disch := first | omega | (simp (disch := omega) only [hτ] <;> omega) | fail) only [e_227_0, e_227_6, e_227_23, e_227_15, e_227_38, e_227_55, e_227_86, e_227_72, e_227_95, e_227_142, e_227_191, e_227_183, s_149, s_161, e_162_0, e_162_97, e_150_0, e_151_0, Int.reduceMul, Int.reduceAdd, Int.zero_add, n0, n1, n2, n3, hτ, Option.bind_some, Int.add_zero, z_wid, or_true, true_or, z_up_fn, z_up_ni, z_up_eq, z_up_qi, z_rw_fn, z_rw_in, z_rw_out, if_pos, if_neg, ↓reduceIte]
          exact w_ret rfl
        · exact w_ref h 2
    · apply zOK_mk2
      · simp (disch := first | omega | (simp (disch := omega) only [z_up_fn, z_up_ni, z_up_eq, z_up_qi, z_rw_fn] <;> omega) | fail) only [ite_self, e_128_0, e_128_4, e_128_19, e_128_11, e_128_30, e_128_45_0, e_128_45_1, e_128_45_2, e_128_45_3, e_128_38, e_128_53_0, e_128_53_1, e_128_53_2, e_128_53_3, e_128_74_0, e_128_66, e_128_74_1, e_128_74_2, e_128_74_3, e_128_83, e_128_90_0, e_128_90_1, e_128_90_2, e_128_90_3, e_128_100_0, e_128_100_1, e_128_100_2, e_128_100_3, e_128_110_0, e_128_110_1, e_128_110_2, e_128_110_3, e_128_120, e_128_134, e_128_142, e_128_159, e_128_162, s_138, e_75_0, e_86_0_2, e_77_0_1, e_78_0_1, e_78_4_1, e_79_0_1, e_80_0_1, e_81_0_1, e_81_5_1, s_142, s_addPass, e_131_0, e_132_0, w_ix1, w_iy1, Option.bind_some, Int.add_zero, z_wid, or_true, true_or, z_up_fn, z_up_ni, z_up_eq, z_up_qi, z_rw_fn, z_rw_in, z_rw_out, if_pos, if_neg, ↓reduceIte]
        exact w_ret rfl
      · intro k hk
        simp (disch := omega) only [z_up_fn, z_rw_fn]
      · intro τ hτ
        simp (disch := first | omega | (simp (disch := omega) only [hτ] <;> omega) | fail) only [e_227_0, e_227_6, e_227_23, e_227_15, e_227_38, e_227_55, e_227_86, e_227_72, e_227_95, e_227_142, e_227_191, e_227_183, s_149, s_161, e_162_0, e_162_97, e_150_0, e_151_0, Int.reduceMul, Int.reduceAdd, Int.zero_add, n0, n1, n2, n3, hτ, Option.bind_some, Int.add_zero, z_wid, or_true, true_or, z_up_fn, z_up_ni, z_up_eq, z_up_qi, z_rw_fn, z_rw_in, z_rw_out, if_pos, if_neg, ↓reduceIte]
        exact w_ret rfl
      · exact w_ref h 1
  · apply zOK_mk2
    · simp (disch := first | omega | (simp (disch := omega) only [z_up_fn, z_up_ni, z_up_eq, z_up_qi, z_rw_fn] <;> omega) | fail) only [ite_self, e_128_0, e_128_4, e_128_19, e_128_11, e_128_30, e_128_45_0, e_128_45_1, e_128_45_2, e_128_45_3, e_128_38, e_128_53_0, e_128_53_1, e_128_53_2, e_128_53_3, e_128_74_0, e_128_66, e_128_74_1, e_128_74_2, e_128_74_3, e_128_83, e_128_90_0, e_128_90_1, e_128_90_2, e_128_90_3, e_128_100_0, e_128_100_1, e_128_100_2, e_128_100_3, e_128_110_0, e_128_110_1, e_128_110_2, e_128_110_3, e_128_120, e_128_134, e_128_142, e_128_159, e_128_162, s_138, e_75_0, e_86_0_2, e_77_0_1, e_78_0_1, e_78_4_1, e_79_0_1, e_80_0_1, e_81_0_1, e_81_5_1, s_142, s_addPass, e_131_0, e_132_0, w_ix1, w_iy1, Option.bind_some, Int.add_zero, z_wid, or_true, true_or, z_up_fn, z_up_ni, z_up_eq, z_up_qi, z_rw_fn, z_rw_in, z_rw_out, if_pos, if_neg, ↓reduceIte]
      exact w_ret rfl
    · intro k hk
      simp (disch := omega) only [z_up_fn, z_rw_fn]
    · intro τ hτ
      simp (disch := first | omega | (simp (disch := omega) only [hτ] <;> omega) | fail) only [e_227_0, e_227_6, e_227_23, e_227_15, e_227_38, e_227_55, e_227_86, e_227_72, e_227_95, e_227_142, e_227_191, e_227_183, s_149, s_161, e_162_0, e_162_97, e_150_0, e_151_0, Int.reduceMul, Int.reduceAdd, Int.zero_add, n0, n1, n2, n3, hτ, Option.bind_some, Int.add_zero, z_wid, or_true, true_or, z_up_fn, z_up_ni, z_up_eq, z_up_qi, z_rw_fn, z_rw_in, z_rw_out, if_pos, if_neg, ↓reduceIte]
      exact w_ret rfl
    · exact w_ref h 1
theorem o_row2 (d : Nat) (s : Int → Int) (L : Int) (σ : Nat → Int → Int) (h : zV s L σ) (x2 x3 : Int) (b3 : x3 < 2147483648) : zOK s L (d + 9) 128 227 [some (.inl 2), some (.inl x2), some (.inl x3), none, none, none, none, none, none] [some (.inl 2), some (.inl x2), some (.inl x3), none] σ := by
  have hwS := zV_wS h
  have hS := (zV_S h).1
  have hS1 := (zV_S h).2.1
  have hS2 := (zV_S h).2.2.1
  have hwP := zV_wP h
  have hP := (zV_P h).1
  have hP1 := (zV_P h).2.1
  have hP2 := (zV_P h).2.2.1
  have hX := zV_X2 h
  have hX1 := hX.1
  have hX2 := hX.2.1
  have hX3 := hX.2.2.1
  have hX4 := hX.2.2.2.1
  have hX5 := hX.2.2.2.2.1
  have hX6 := hX.2.2.2.2.2.1
  have n0 : 0 ≤ x3 → x3 + 4 ≤ σ 67 2 → σ 122 (80 + x3) = σ 68 (x3) := by
    intro p q
    have g := (hX.2.2.2.2.2.2 (x3) (by omega) (by omega)).1
    rw [show (40 * 2 + (x3) : Int) = 80 + x3 by omega] at g
    exact g.symm
  have n1 : 0 ≤ x3 → x3 + 4 ≤ σ 67 2 → σ 122 (80 + x3 + 1) = σ 68 (x3 + 1) := by
    intro p q
    have g := (hX.2.2.2.2.2.2 (x3 + 1) (by omega) (by omega)).1
    rw [show (40 * 2 + (x3 + 1) : Int) = 80 + x3 + 1 by omega] at g
    exact g.symm
  have n2 : 0 ≤ x3 → x3 + 4 ≤ σ 67 2 → σ 122 (80 + x3 + 2) = σ 68 (x3 + 2) := by
    intro p q
    have g := (hX.2.2.2.2.2.2 (x3 + 2) (by omega) (by omega)).1
    rw [show (40 * 2 + (x3 + 2) : Int) = 80 + x3 + 2 by omega] at g
    exact g.symm
  have n3 : 0 ≤ x3 → x3 + 4 ≤ σ 67 2 → σ 122 (80 + x3 + 3) = σ 68 (x3 + 3) := by
    intro p q
    have g := (hX.2.2.2.2.2.2 (x3 + 3) (by omega) (by omega)).1
    rw [show (40 * 2 + (x3 + 3) : Int) = 80 + x3 + 3 by omega] at g
    exact g.symm
  by_cases c1 : 0 ≤ x2
  · by_cases c2 : x2 ≤ 2
    · by_cases c3 : σ 8 3 < 20
      · by_cases c4 : ¬ σ 67 1 = -1
        · by_cases c5 : σ 67 1 = x2
          · by_cases c6 : 0 ≤ x3
            · by_cases c7 : x3 + 4 ≤ σ 67 2
              · have h3 : σ 68 (x3 + 2) < 2147483648 := by
                  have := (hX.2.2.2.2.2.2 (x3 + 2) (by omega) (by omega)).2
                  omega
                by_cases c8 : ((0 ≤ σ 68 x3 ∧ σ 68 x3 < σ 2 3) ∧ (0 ≤ σ 68 (x3 + 1) ∧ σ 68 (x3 + 1) ≤ 5) ∧ (0 ≤ σ 68 (x3 + 2) ∧ σ 68 (x3 + 2) / 100 ≤ σ 68 (x3 + 2) % 100 ∧ σ 68 (x3 + 2) % 100 ≤ 19) ∧ (0 ≤ σ 68 (x3 + 3) ∧ σ 68 (x3 + 3) ≤ 11) ∧ (σ 68 (x3 + 1) = 2 → σ 68 (x3 + 3) < σ 2 3))
                · have w3 := w_days c8.2.2.1.1 h3
                  have q2 := zV_Q h (σ 68 x3) c8.1.1 (by omega)
                  have r2 := z_cnt_rng (σ 80) (σ 68 x3) (σ 71 13).toNat
                  apply zOK_mk2
                  · simp (disch := first | omega | (simp (disch := omega) only [z_up_fn, z_up_ni, z_up_eq, z_up_qi, z_rw_fn] <;> omega) | fail) only [ite_self, e_128_0, e_128_4, e_128_19, e_128_11, e_128_30, e_128_45_0, e_128_45_1, e_128_45_2, e_128_45_3, e_128_38, e_128_53_0, e_128_53_1, e_128_53_2, e_128_53_3, e_128_74_0, e_128_66, e_128_74_1, e_128_74_2, e_128_74_3, e_128_83, e_128_90_0, e_128_90_1, e_128_90_2, e_128_90_3, e_128_100_0, e_128_100_1, e_128_100_2, e_128_100_3, e_128_110_0, e_128_110_1, e_128_110_2, e_128_110_3, e_128_120, e_128_134, e_128_142, e_128_159, e_128_162, s_138, e_75_0, e_86_0_2, e_77_0_2, e_78_0_2, e_78_4_2, e_79_0_2, e_80_0_2, e_81_0_2, e_81_5_2, s_142, s_addPass, e_131_0, e_132_0, w_ix2, w_iy2, Option.bind_some, Int.add_zero, z_wid, or_true, true_or, z_up_fn, z_up_ni, z_up_eq, z_up_qi, z_rw_fn, z_rw_in, z_rw_out, if_pos, if_neg, ↓reduceIte]
                    exact w_ret rfl
                  · intro k hk
                    simp (disch := omega) only [z_up_fn, z_rw_fn]
                  · intro τ hτ
                    simp (disch := first | omega | (simp (disch := omega) only [hτ] <;> omega) | fail) only [e_227_0, e_227_6, e_227_23, e_227_15, e_227_38, e_227_55, e_227_86, e_227_72, e_227_95, e_227_142, e_227_191, e_227_183, s_149, s_161, e_162_0, e_162_97, e_150_0, e_151_0, Int.reduceMul, Int.reduceAdd, Int.zero_add, n0, n1, n2, n3, hτ, Option.bind_some, Int.add_zero, z_wid, or_true, true_or, z_up_fn, z_up_ni, z_up_eq, z_up_qi, z_rw_fn, z_rw_in, z_rw_out, if_pos, if_neg, ↓reduceIte]
                    exact w_ret (by omega)
                  · skip
                    exact w_pass h _ _ _ _ h3 c8 c3
                · apply zOK_mk2
                  · simp (disch := first | omega | (simp (disch := omega) only [z_up_fn, z_up_ni, z_up_eq, z_up_qi, z_rw_fn] <;> omega) | fail) only [ite_self, e_128_0, e_128_4, e_128_19, e_128_11, e_128_30, e_128_45_0, e_128_45_1, e_128_45_2, e_128_45_3, e_128_38, e_128_53_0, e_128_53_1, e_128_53_2, e_128_53_3, e_128_74_0, e_128_66, e_128_74_1, e_128_74_2, e_128_74_3, e_128_83, e_128_90_0, e_128_90_1, e_128_90_2, e_128_90_3, e_128_100_0, e_128_100_1, e_128_100_2, e_128_100_3, e_128_110_0, e_128_110_1, e_128_110_2, e_128_110_3, e_128_120, e_128_134, e_128_142, e_128_159, e_128_162, s_138, e_75_0, e_86_0_2, e_77_0_2, e_78_0_2, e_78_4_2, e_79_0_2, e_80_0_2, e_81_0_2, e_81_5_2, s_142, s_addPass, e_131_0, e_132_0, w_ix2, w_iy2, Option.bind_some, Int.add_zero, z_wid, or_true, true_or, z_up_fn, z_up_ni, z_up_eq, z_up_qi, z_rw_fn, z_rw_in, z_rw_out, if_pos, if_neg, ↓reduceIte]
                    exact w_ret rfl
                  · intro k hk
                    simp (disch := omega) only [z_up_fn, z_rw_fn]
                  · intro τ hτ
                    simp (disch := first | omega | (simp (disch := omega) only [hτ] <;> omega) | fail) only [e_227_0, e_227_6, e_227_23, e_227_15, e_227_38, e_227_55, e_227_86, e_227_72, e_227_95, e_227_142, e_227_191, e_227_183, s_149, s_161, e_162_0, e_162_97, e_150_0, e_151_0, Int.reduceMul, Int.reduceAdd, Int.zero_add, n0, n1, n2, n3, hτ, Option.bind_some, Int.add_zero, z_wid, or_true, true_or, z_up_fn, z_up_ni, z_up_eq, z_up_qi, z_rw_fn, z_rw_in, z_rw_out, if_pos, if_neg, ↓reduceIte]
                    exact w_ret rfl
                  · exact w_ref h 3
              · apply zOK_mk2
                · simp (disch := first | omega | (simp (disch := omega) only [z_up_fn, z_up_ni, z_up_eq, z_up_qi, z_rw_fn] <;> omega) | fail) only [ite_self, e_128_0, e_128_4, e_128_19, e_128_11, e_128_30, e_128_45_0, e_128_45_1, e_128_45_2, e_128_45_3, e_128_38, e_128_53_0, e_128_53_1, e_128_53_2, e_128_53_3, e_128_74_0, e_128_66, e_128_74_1, e_128_74_2, e_128_74_3, e_128_83, e_128_90_0, e_128_90_1, e_128_90_2, e_128_90_3, e_128_100_0, e_128_100_1, e_128_100_2, e_128_100_3, e_128_110_0, e_128_110_1, e_128_110_2, e_128_110_3, e_128_120, e_128_134, e_128_142, e_128_159, e_128_162, s_138, e_75_0, e_86_0_2, e_77_0_2, e_78_0_2, e_78_4_2, e_79_0_2, e_80_0_2, e_81_0_2, e_81_5_2, s_142, s_addPass, e_131_0, e_132_0, w_ix2, w_iy2, Option.bind_some, Int.add_zero, z_wid, or_true, true_or, z_up_fn, z_up_ni, z_up_eq, z_up_qi, z_rw_fn, z_rw_in, z_rw_out, if_pos, if_neg, ↓reduceIte]
                  exact w_ret rfl
                · intro k hk
                  simp (disch := omega) only [z_up_fn, z_rw_fn]
                · intro τ hτ
                  simp (disch := first | omega | (simp (disch := omega) only [hτ] <;> omega) | fail) only [e_227_0, e_227_6, e_227_23, e_227_15, e_227_38, e_227_55, e_227_86, e_227_72, e_227_95, e_227_142, e_227_191, e_227_183, s_149, s_161, e_162_0, e_162_97, e_150_0, e_151_0, Int.reduceMul, Int.reduceAdd, Int.zero_add, n0, n1, n2, n3, hτ, Option.bind_some, Int.add_zero, z_wid, or_true, true_or, z_up_fn, z_up_ni, z_up_eq, z_up_qi, z_rw_fn, z_rw_in, z_rw_out, if_pos, if_neg, ↓reduceIte]
                  exact w_ret rfl
                · exact w_ref h 12
            · apply zOK_mk2
              · simp (disch := first | omega | (simp (disch := omega) only [z_up_fn, z_up_ni, z_up_eq, z_up_qi, z_rw_fn] <;> omega) | fail) only [ite_self, e_128_0, e_128_4, e_128_19, e_128_11, e_128_30, e_128_45_0, e_128_45_1, e_128_45_2, e_128_45_3, e_128_38, e_128_53_0, e_128_53_1, e_128_53_2, e_128_53_3, e_128_74_0, e_128_66, e_128_74_1, e_128_74_2, e_128_74_3, e_128_83, e_128_90_0, e_128_90_1, e_128_90_2, e_128_90_3, e_128_100_0, e_128_100_1, e_128_100_2, e_128_100_3, e_128_110_0, e_128_110_1, e_128_110_2, e_128_110_3, e_128_120, e_128_134, e_128_142, e_128_159, e_128_162, s_138, e_75_0, e_86_0_2, e_77_0_2, e_78_0_2, e_78_4_2, e_79_0_2, e_80_0_2, e_81_0_2, e_81_5_2, s_142, s_addPass, e_131_0, e_132_0, w_ix2, w_iy2, Option.bind_some, Int.add_zero, z_wid, or_true, true_or, z_up_fn, z_up_ni, z_up_eq, z_up_qi, z_rw_fn, z_rw_in, z_rw_out, if_pos, if_neg, ↓reduceIte]
                exact w_ret rfl
              · intro k hk
                simp (disch := omega) only [z_up_fn, z_rw_fn]
              · intro τ hτ
                simp (disch := first | omega | (simp (disch := omega) only [hτ] <;> omega) | fail) only [e_227_0, e_227_6, e_227_23, e_227_15, e_227_38, e_227_55, e_227_86, e_227_72, e_227_95, e_227_142, e_227_191, e_227_183, s_149, s_161, e_162_0, e_162_97, e_150_0, e_151_0, Int.reduceMul, Int.reduceAdd, Int.zero_add, n0, n1, n2, n3, hτ, Option.bind_some, Int.add_zero, z_wid, or_true, true_or, z_up_fn, z_up_ni, z_up_eq, z_up_qi, z_rw_fn, z_rw_in, z_rw_out, if_pos, if_neg, ↓reduceIte]
                exact w_ret rfl
              · exact w_ref h 12
          · apply zOK_mk2
            · simp (disch := first | omega | (simp (disch := omega) only [z_up_fn, z_up_ni, z_up_eq, z_up_qi, z_rw_fn] <;> omega) | fail) only [ite_self, e_128_0, e_128_4, e_128_19, e_128_11, e_128_30, e_128_45_0, e_128_45_1, e_128_45_2, e_128_45_3, e_128_38, e_128_53_0, e_128_53_1, e_128_53_2, e_128_53_3, e_128_74_0, e_128_66, e_128_74_1, e_128_74_2, e_128_74_3, e_128_83, e_128_90_0, e_128_90_1, e_128_90_2, e_128_90_3, e_128_100_0, e_128_100_1, e_128_100_2, e_128_100_3, e_128_110_0, e_128_110_1, e_128_110_2, e_128_110_3, e_128_120, e_128_134, e_128_142, e_128_159, e_128_162, s_138, e_75_0, e_86_0_2, e_77_0_2, e_78_0_2, e_78_4_2, e_79_0_2, e_80_0_2, e_81_0_2, e_81_5_2, s_142, s_addPass, e_131_0, e_132_0, w_ix2, w_iy2, Option.bind_some, Int.add_zero, z_wid, or_true, true_or, z_up_fn, z_up_ni, z_up_eq, z_up_qi, z_rw_fn, z_rw_in, z_rw_out, if_pos, if_neg, ↓reduceIte]
              exact w_ret rfl
            · intro k hk
              simp (disch := omega) only [z_up_fn, z_rw_fn]
            · intro τ hτ
              simp (disch := first | omega | (simp (disch := omega) only [hτ] <;> omega) | fail) only [e_227_0, e_227_6, e_227_23, e_227_15, e_227_38, e_227_55, e_227_86, e_227_72, e_227_95, e_227_142, e_227_191, e_227_183, s_149, s_161, e_162_0, e_162_97, e_150_0, e_151_0, Int.reduceMul, Int.reduceAdd, Int.zero_add, n0, n1, n2, n3, hτ, Option.bind_some, Int.add_zero, z_wid, or_true, true_or, z_up_fn, z_up_ni, z_up_eq, z_up_qi, z_rw_fn, z_rw_in, z_rw_out, if_pos, if_neg, ↓reduceIte]
              exact w_ret rfl
            · exact w_ref h 11
        · apply zOK_mk2
          · simp (disch := first | omega | (simp (disch := omega) only [z_up_fn, z_up_ni, z_up_eq, z_up_qi, z_rw_fn] <;> omega) | fail) only [ite_self, e_128_0, e_128_4, e_128_19, e_128_11, e_128_30, e_128_45_0, e_128_45_1, e_128_45_2, e_128_45_3, e_128_38, e_128_53_0, e_128_53_1, e_128_53_2, e_128_53_3, e_128_74_0, e_128_66, e_128_74_1, e_128_74_2, e_128_74_3, e_128_83, e_128_90_0, e_128_90_1, e_128_90_2, e_128_90_3, e_128_100_0, e_128_100_1, e_128_100_2, e_128_100_3, e_128_110_0, e_128_110_1, e_128_110_2, e_128_110_3, e_128_120, e_128_134, e_128_142, e_128_159, e_128_162, s_138, e_75_0, e_86_0_2, e_77_0_2, e_78_0_2, e_78_4_2, e_79_0_2, e_80_0_2, e_81_0_2, e_81_5_2, s_142, s_addPass, e_131_0, e_132_0, w_ix2, w_iy2, Option.bind_some, Int.add_zero, z_wid, or_true, true_or, z_up_fn, z_up_ni, z_up_eq, z_up_qi, z_rw_fn, z_rw_in, z_rw_out, if_pos, if_neg, ↓reduceIte]
            exact w_ret rfl
          · intro k hk
            simp (disch := omega) only [z_up_fn, z_rw_fn]
          · intro τ hτ
            simp (disch := first | omega | (simp (disch := omega) only [hτ] <;> omega) | fail) only [e_227_0, e_227_6, e_227_23, e_227_15, e_227_38, e_227_55, e_227_86, e_227_72, e_227_95, e_227_142, e_227_191, e_227_183, s_149, s_161, e_162_0, e_162_97, e_150_0, e_151_0, Int.reduceMul, Int.reduceAdd, Int.zero_add, n0, n1, n2, n3, hτ, Option.bind_some, Int.add_zero, z_wid, or_true, true_or, z_up_fn, z_up_ni, z_up_eq, z_up_qi, z_rw_fn, z_rw_in, z_rw_out, if_pos, if_neg, ↓reduceIte]
            exact w_ret rfl
          · exact w_ref h 10
      · apply zOK_mk2
        · simp (disch := first | omega | (simp (disch := omega) only [z_up_fn, z_up_ni, z_up_eq, z_up_qi, z_rw_fn] <;> omega) | fail) only [ite_self, e_128_0, e_128_4, e_128_19, e_128_11, e_128_30, e_128_45_0, e_128_45_1, e_128_45_2, e_128_45_3, e_128_38, e_128_53_0, e_128_53_1, e_128_53_2, e_128_53_3, e_128_74_0, e_128_66, e_128_74_1, e_128_74_2, e_128_74_3, e_128_83, e_128_90_0, e_128_90_1, e_128_90_2, e_128_90_3, e_128_100_0, e_128_100_1, e_128_100_2, e_128_100_3, e_128_110_0, e_128_110_1, e_128_110_2, e_128_110_3, e_128_120, e_128_134, e_128_142, e_128_159, e_128_162, s_138, e_75_0, e_86_0_2, e_77_0_2, e_78_0_2, e_78_4_2, e_79_0_2, e_80_0_2, e_81_0_2, e_81_5_2, s_142, s_addPass, e_131_0, e_132_0, w_ix2, w_iy2, Option.bind_some, Int.add_zero, z_wid, or_true, true_or, z_up_fn, z_up_ni, z_up_eq, z_up_qi, z_rw_fn, z_rw_in, z_rw_out, if_pos, if_neg, ↓reduceIte]
          exact w_ret rfl
        · intro k hk
          simp (disch := omega) only [z_up_fn, z_rw_fn]
        · intro τ hτ
          simp (disch := first | omega | (simp (disch := omega) only [hτ] <;> omega) | fail) only [e_227_0, e_227_6, e_227_23, e_227_15, e_227_38, e_227_55, e_227_86, e_227_72, e_227_95, e_227_142, e_227_191, e_227_183, s_149, s_161, e_162_0, e_162_97, e_150_0, e_151_0, Int.reduceMul, Int.reduceAdd, Int.zero_add, n0, n1, n2, n3, hτ, Option.bind_some, Int.add_zero, z_wid, or_true, true_or, z_up_fn, z_up_ni, z_up_eq, z_up_qi, z_rw_fn, z_rw_in, z_rw_out, if_pos, if_neg, ↓reduceIte]
          exact w_ret rfl
        · exact w_ref h 2
    · apply zOK_mk2
      · simp (disch := first | omega | (simp (disch := omega) only [z_up_fn, z_up_ni, z_up_eq, z_up_qi, z_rw_fn] <;> omega) | fail) only [ite_self, e_128_0, e_128_4, e_128_19, e_128_11, e_128_30, e_128_45_0, e_128_45_1, e_128_45_2, e_128_45_3, e_128_38, e_128_53_0, e_128_53_1, e_128_53_2, e_128_53_3, e_128_74_0, e_128_66, e_128_74_1, e_128_74_2, e_128_74_3, e_128_83, e_128_90_0, e_128_90_1, e_128_90_2, e_128_90_3, e_128_100_0, e_128_100_1, e_128_100_2, e_128_100_3, e_128_110_0, e_128_110_1, e_128_110_2, e_128_110_3, e_128_120, e_128_134, e_128_142, e_128_159, e_128_162, s_138, e_75_0, e_86_0_2, e_77_0_2, e_78_0_2, e_78_4_2, e_79_0_2, e_80_0_2, e_81_0_2, e_81_5_2, s_142, s_addPass, e_131_0, e_132_0, w_ix2, w_iy2, Option.bind_some, Int.add_zero, z_wid, or_true, true_or, z_up_fn, z_up_ni, z_up_eq, z_up_qi, z_rw_fn, z_rw_in, z_rw_out, if_pos, if_neg, ↓reduceIte]
        exact w_ret rfl
      · intro k hk
        simp (disch := omega) only [z_up_fn, z_rw_fn]
      · intro τ hτ
        simp (disch := first | omega | (simp (disch := omega) only [hτ] <;> omega) | fail) only [e_227_0, e_227_6, e_227_23, e_227_15, e_227_38, e_227_55, e_227_86, e_227_72, e_227_95, e_227_142, e_227_191, e_227_183, s_149, s_161, e_162_0, e_162_97, e_150_0, e_151_0, Int.reduceMul, Int.reduceAdd, Int.zero_add, n0, n1, n2, n3, hτ, Option.bind_some, Int.add_zero, z_wid, or_true, true_or, z_up_fn, z_up_ni, z_up_eq, z_up_qi, z_rw_fn, z_rw_in, z_rw_out, if_pos, if_neg, ↓reduceIte]
        exact w_ret rfl
      · exact w_ref h 1
  · apply zOK_mk2
    · simp (disch := first | omega | (simp (disch := omega) only [z_up_fn, z_up_ni, z_up_eq, z_up_qi, z_rw_fn] <;> omega) | fail) only [ite_self, e_128_0, e_128_4, e_128_19, e_128_11, e_128_30, e_128_45_0, e_128_45_1, e_128_45_2, e_128_45_3, e_128_38, e_128_53_0, e_128_53_1, e_128_53_2, e_128_53_3, e_128_74_0, e_128_66, e_128_74_1, e_128_74_2, e_128_74_3, e_128_83, e_128_90_0, e_128_90_1, e_128_90_2, e_128_90_3, e_128_100_0, e_128_100_1, e_128_100_2, e_128_100_3, e_128_110_0, e_128_110_1, e_128_110_2, e_128_110_3, e_128_120, e_128_134, e_128_142, e_128_159, e_128_162, s_138, e_75_0, e_86_0_2, e_77_0_2, e_78_0_2, e_78_4_2, e_79_0_2, e_80_0_2, e_81_0_2, e_81_5_2, s_142, s_addPass, e_131_0, e_132_0, w_ix2, w_iy2, Option.bind_some, Int.add_zero, z_wid, or_true, true_or, z_up_fn, z_up_ni, z_up_eq, z_up_qi, z_rw_fn, z_rw_in, z_rw_out, if_pos, if_neg, ↓reduceIte]
      exact w_ret rfl
    · intro k hk
      simp (disch := omega) only [z_up_fn, z_rw_fn]
    · intro τ hτ
      simp (disch := first | omega | (simp (disch := omega) only [hτ] <;> omega) | fail) only [e_227_0, e_227_6, e_227_23, e_227_15, e_227_38, e_227_55, e_227_86, e_227_72, e_227_95, e_227_142, e_227_191, e_227_183, s_149, s_161, e_162_0, e_162_97, e_150_0, e_151_0, Int.reduceMul, Int.reduceAdd, Int.zero_add, n0, n1, n2, n3, hτ, Option.bind_some, Int.add_zero, z_wid, or_true, true_or, z_up_fn, z_up_ni, z_up_eq, z_up_qi, z_rw_fn, z_rw_in, z_rw_out, if_pos, if_neg, ↓reduceIte]
      exact w_ret rfl
    · exact w_ref h 1
theorem o_row3 (d : Nat) (s : Int → Int) (L : Int) (σ : Nat → Int → Int) (h : zV s L σ) (x2 x3 : Int) (b3 : x3 < 2147483648) : zOK s L (d + 9) 128 227 [some (.inl 3), some (.inl x2), some (.inl x3), none, none, none, none, none, none] [some (.inl 3), some (.inl x2), some (.inl x3), none] σ := by
  have hwS := zV_wS h
  have hS := (zV_S h).1
  have hS1 := (zV_S h).2.1
  have hS2 := (zV_S h).2.2.1
  have hwP := zV_wP h
  have hP := (zV_P h).1
  have hP1 := (zV_P h).2.1
  have hP2 := (zV_P h).2.2.1
  have hX := zV_X3 h
  have hX1 := hX.1
  have hX2 := hX.2.1
  have hX3 := hX.2.2.1
  have hX4 := hX.2.2.2.1
  have hX5 := hX.2.2.2.2.1
  have hX6 := hX.2.2.2.2.2.1
  have n0 : 0 ≤ x3 → x3 + 4 ≤ σ 69 2 → σ 122 (120 + x3) = σ 70 (x3) := by
    intro p q
    have g := (hX.2.2.2.2.2.2 (x3) (by omega) (by omega)).1
    rw [show (40 * 3 + (x3) : Int) = 120 + x3 by omega] at g
    exact g.symm
  have n1 : 0 ≤ x3 → x3 + 4 ≤ σ 69 2 → σ 122 (120 + x3 + 1) = σ 70 (x3 + 1) := by
    intro p q
    have g := (hX.2.2.2.2.2.2 (x3 + 1) (by omega) (by omega)).1
    rw [show (40 * 3 + (x3 + 1) : Int) = 120 + x3 + 1 by omega] at g
    exact g.symm
  have n2 : 0 ≤ x3 → x3 + 4 ≤ σ 69 2 → σ 122 (120 + x3 + 2) = σ 70 (x3 + 2) := by
    intro p q
    have g := (hX.2.2.2.2.2.2 (x3 + 2) (by omega) (by omega)).1
    rw [show (40 * 3 + (x3 + 2) : Int) = 120 + x3 + 2 by omega] at g
    exact g.symm
  have n3 : 0 ≤ x3 → x3 + 4 ≤ σ 69 2 → σ 122 (120 + x3 + 3) = σ 70 (x3 + 3) := by
    intro p q
    have g := (hX.2.2.2.2.2.2 (x3 + 3) (by omega) (by omega)).1
    rw [show (40 * 3 + (x3 + 3) : Int) = 120 + x3 + 3 by omega] at g
    exact g.symm
  by_cases c1 : 0 ≤ x2
  · by_cases c2 : x2 ≤ 2
    · by_cases c3 : σ 8 3 < 20
      · by_cases c4 : ¬ σ 69 1 = -1
        · by_cases c5 : σ 69 1 = x2
          · by_cases c6 : 0 ≤ x3
            · by_cases c7 : x3 + 4 ≤ σ 69 2
              · have h3 : σ 70 (x3 + 2) < 2147483648 := by
                  have := (hX.2.2.2.2.2.2 (x3 + 2) (by omega) (by omega)).2
                  omega
                by_cases c8 : ((0 ≤ σ 70 x3 ∧ σ 70 x3 < σ 2 3) ∧ (0 ≤ σ 70 (x3 + 1) ∧ σ 70 (x3 + 1) ≤ 5) ∧ (0 ≤ σ 70 (x3 + 2) ∧ σ 70 (x3 + 2) / 100 ≤ σ 70 (x3 + 2) % 100 ∧ σ 70 (x3 + 2) % 100 ≤ 19) ∧ (0 ≤ σ 70 (x3 + 3) ∧ σ 70 (x3 + 3) ≤ 11) ∧ (σ 70 (x3 + 1) = 2 → σ 70 (x3 + 3) < σ 2 3))
                · have w3 := w_days c8.2.2.1.1 h3
                  have q2 := zV_Q h (σ 70 x3) c8.1.1 (by omega)
                  have r2 := z_cnt_rng (σ 80) (σ 70 x3) (σ 71 13).toNat
                  apply zOK_mk2
                  · simp (disch := first | omega | (simp (disch := omega) only [z_up_fn, z_up_ni, z_up_eq, z_up_qi, z_rw_fn] <;> omega) | fail) only [ite_self, e_128_0, e_128_4, e_128_19, e_128_11, e_128_30, e_128_45_0, e_128_45_1, e_128_45_2, e_128_45_3, e_128_38, e_128_53_0, e_128_53_1, e_128_53_2, e_128_53_3, e_128_74_0, e_128_66, e_128_74_1, e_128_74_2, e_128_74_3, e_128_83, e_128_90_0, e_128_90_1, e_128_90_2, e_128_90_3, e_128_100_0, e_128_100_1, e_128_100_2, e_128_100_3, e_128_110_0, e_128_110_1, e_128_110_2, e_128_110_3, e_128_120, e_128_134, e_128_142, e_128_159, e_128_162, s_138, e_75_0, e_86_0_2, e_77_0_3, e_78_0_3, e_78_4_3, e_79_0_3, e_80_0_3, e_81_0_3, e_81_5_3, s_142, s_addPass, e_131_0, e_132_0, w_ix3, w_iy3, Option.bind_some, Int.add_zero, z_wid, or_true, true_or, z_up_fn, z_up_ni, z_up_eq, z_up_qi, z_rw_fn, z_rw_in, z_rw_out, if_pos, if_neg, ↓reduceIte]
                    exact w_ret rfl
                  · intro k hk
                    simp (disch := omega) only [z_up_fn, z_rw_fn]
                  · intro τ hτ
                    simp (disch := first | omega | (simp (disch := omega) only [hτ] <;> omega) | fail) only [e_227_0, e_227_6, e_227_23, e_227_15, e_227_38, e_227_55, e_227_86, e_227_72, e_227_95, e_227_142, e_227_191, e_227_183, s_149, s_161, e_162_0, e_162_97, e_150_0, e_151_0, Int.reduceMul, Int.reduceAdd, Int.zero_add, n0, n1, n2, n3, hτ, Option.bind_some, Int.add_zero, z_wid, or_true, true_or, z_up_fn, z_up_ni, z_up_eq, z_up_qi, z_rw_fn, z_rw_in, z_rw_out, if_pos, if_neg, ↓reduceIte]
                    exact w_ret (by omega)
                  · skip
                    exact w_pass h _ _ _ _ h3 c8 c3
                · apply zOK_mk2
                  · simp (disch := first | omega | (simp (disch := omega) only [z_up_fn, z_up_ni, z_up_eq, z_up_qi, z_rw_fn] <;> omega) | fail) only [ite_self, e_128_0, e_128_4, e_128_19, e_128_11, e_128_30, e_128_45_0, e_128_45_1, e_128_45_2, e_128_45_3, e_128_38, e_128_53_0, e_128_53_1, e_128_53_2, e_128_53_3, e_128_74_0, e_128_66, e_128_74_1, e_128_74_2, e_128_74_3, e_128_83, e_128_90_0, e_128_90_1, e_128_90_2, e_128_90_3, e_128_100_0, e_128_100_1, e_128_100_2, e_128_100_3, e_128_110_0, e_128_110_1, e_128_110_2, e_128_110_3, e_128_120, e_128_134, e_128_142, e_128_159, e_128_162, s_138, e_75_0, e_86_0_2, e_77_0_3, e_78_0_3, e_78_4_3, e_79_0_3, e_80_0_3, e_81_0_3, e_81_5_3, s_142, s_addPass, e_131_0, e_132_0, w_ix3, w_iy3, Option.bind_some, Int.add_zero, z_wid, or_true, true_or, z_up_fn, z_up_ni, z_up_eq, z_up_qi, z_rw_fn, z_rw_in, z_rw_out, if_pos, if_neg, ↓reduceIte]
                    exact w_ret rfl
                  · intro k hk
                    simp (disch := omega) only [z_up_fn, z_rw_fn]
                  · intro τ hτ
                    simp (disch := first | omega | (simp (disch := omega) only [hτ] <;> omega) | fail) only [e_227_0, e_227_6, e_227_23, e_227_15, e_227_38, e_227_55, e_227_86, e_227_72, e_227_95, e_227_142, e_227_191, e_227_183, s_149, s_161, e_162_0, e_162_97, e_150_0, e_151_0, Int.reduceMul, Int.reduceAdd, Int.zero_add, n0, n1, n2, n3, hτ, Option.bind_some, Int.add_zero, z_wid, or_true, true_or, z_up_fn, z_up_ni, z_up_eq, z_up_qi, z_rw_fn, z_rw_in, z_rw_out, if_pos, if_neg, ↓reduceIte]
                    exact w_ret rfl
                  · exact w_ref h 3
              · apply zOK_mk2
                · simp (disch := first | omega | (simp (disch := omega) only [z_up_fn, z_up_ni, z_up_eq, z_up_qi, z_rw_fn] <;> omega) | fail) only [ite_self, e_128_0, e_128_4, e_128_19, e_128_11, e_128_30, e_128_45_0, e_128_45_1, e_128_45_2, e_128_45_3, e_128_38, e_128_53_0, e_128_53_1, e_128_53_2, e_128_53_3, e_128_74_0, e_128_66, e_128_74_1, e_128_74_2, e_128_74_3, e_128_83, e_128_90_0, e_128_90_1, e_128_90_2, e_128_90_3, e_128_100_0, e_128_100_1, e_128_100_2, e_128_100_3, e_128_110_0, e_128_110_1, e_128_110_2, e_128_110_3, e_128_120, e_128_134, e_128_142, e_128_159, e_128_162, s_138, e_75_0, e_86_0_2, e_77_0_3, e_78_0_3, e_78_4_3, e_79_0_3, e_80_0_3, e_81_0_3, e_81_5_3, s_142, s_addPass, e_131_0, e_132_0, w_ix3, w_iy3, Option.bind_some, Int.add_zero, z_wid, or_true, true_or, z_up_fn, z_up_ni, z_up_eq, z_up_qi, z_rw_fn, z_rw_in, z_rw_out, if_pos, if_neg, ↓reduceIte]
                  exact w_ret rfl
                · intro k hk
                  simp (disch := omega) only [z_up_fn, z_rw_fn]
                · intro τ hτ
                  simp (disch := first | omega | (simp (disch := omega) only [hτ] <;> omega) | fail) only [e_227_0, e_227_6, e_227_23, e_227_15, e_227_38, e_227_55, e_227_86, e_227_72, e_227_95, e_227_142, e_227_191, e_227_183, s_149, s_161, e_162_0, e_162_97, e_150_0, e_151_0, Int.reduceMul, Int.reduceAdd, Int.zero_add, n0, n1, n2, n3, hτ, Option.bind_some, Int.add_zero, z_wid, or_true, true_or, z_up_fn, z_up_ni, z_up_eq, z_up_qi, z_rw_fn, z_rw_in, z_rw_out, if_pos, if_neg, ↓reduceIte]
                  exact w_ret rfl
                · exact w_ref h 12
            · apply zOK_mk2
              · simp (disch := first | omega | (simp (disch := omega) only [z_up_fn, z_up_ni, z_up_eq, z_up_qi, z_rw_fn] <;> omega) | fail) only [ite_self, e_128_0, e_128_4, e_128_19, e_128_11, e_128_30, e_128_45_0, e_128_45_1, e_128_45_2, e_128_45_3, e_128_38, e_128_53_0, e_128_53_1, e_128_53_2, e_128_53_3, e_128_74_0, e_128_66, e_128_74_1, e_128_74_2, e_128_74_3, e_128_83, e_128_90_0, e_128_90_1, e_128_90_2, e_128_90_3, e_128_100_0, e_128_100_1, e_128_100_2, e_128_100_3, e_128_110_0, e_128_110_1, e_128_110_2, e_128_110_3, e_128_120, e_128_134, e_128_142, e_128_159, e_128_162, s_138, e_75_0, e_86_0_2, e_77_0_3, e_78_0_3, e_78_4_3, e_79_0_3, e_80_0_3, e_81_0_3, e_81_5_3, s_142, s_addPass, e_131_0, e_132_0, w_ix3, w_iy3, Option.bind_some, Int.add_zero, z_wid, or_true, true_or, z_up_fn, z_up_ni, z_up_eq, z_up_qi, z_rw_fn, z_rw_in, z_rw_out, if_pos, if_neg, ↓reduceIte]
                exact w_ret rfl
              · intro k hk
                simp (disch := omega) only [z_up_fn, z_rw_fn]
              · intro τ hτ
                simp (disch := first | omega | (simp (disch := omega) only [hτ] <;> omega) | fail) only [e_227_0, e_227_6, e_227_23, e_227_15, e_227_38, e_227_55, e_227_86, e_227_72, e_227_95, e_227_142, e_227_191, e_227_183, s_149, s_161, e_162_0, e_162_97, e_150_0, e_151_0, Int.reduceMul, Int.reduceAdd, Int.zero_add, n0, n1, n2, n3, hτ, Option.bind_some, Int.add_zero, z_wid, or_true, true_or, z_up_fn, z_up_ni, z_up_eq, z_up_qi, z_rw_fn, z_rw_in, z_rw_out, if_pos, if_neg, ↓reduceIte]
                exact w_ret rfl
              · exact w_ref h 12
          · apply zOK_mk2
            · simp (disch := first | omega | (simp (disch := omega) only [z_up_fn, z_up_ni, z_up_eq, z_up_qi, z_rw_fn] <;> omega) | fail) only [ite_self, e_128_0, e_128_4, e_128_19, e_128_11, e_128_30, e_128_45_0, e_128_45_1, e_128_45_2, e_128_45_3, e_128_38, e_128_53_0, e_128_53_1, e_128_53_2, e_128_53_3, e_128_74_0, e_128_66, e_128_74_1, e_128_74_2, e_128_74_3, e_128_83, e_128_90_0, e_128_90_1, e_128_90_2, e_128_90_3, e_128_100_0, e_128_100_1, e_128_100_2, e_128_100_3, e_128_110_0, e_128_110_1, e_128_110_2, e_128_110_3, e_128_120, e_128_134, e_128_142, e_128_159, e_128_162, s_138, e_75_0, e_86_0_2, e_77_0_3, e_78_0_3, e_78_4_3, e_79_0_3, e_80_0_3, e_81_0_3, e_81_5_3, s_142, s_addPass, e_131_0, e_132_0, w_ix3, w_iy3, Option.bind_some, Int.add_zero, z_wid, or_true, true_or, z_up_fn, z_up_ni, z_up_eq, z_up_qi, z_rw_fn, z_rw_in, z_rw_out, if_pos, if_neg, ↓reduceIte]
              exact w_ret rfl
            · intro k hk
              simp (disch := omega) only [z_up_fn, z_rw_fn]
            · intro τ hτ
              simp (disch := first | omega | (simp (disch := omega) only [hτ] <;> omega) | fail) only [e_227_0, e_227_6, e_227_23, e_227_15, e_227_38, e_227_55, e_227_86, e_227_72, e_227_95, e_227_142, e_227_191, e_227_183, s_149, s_161, e_162_0, e_162_97, e_150_0, e_151_0, Int.reduceMul, Int.reduceAdd, Int.zero_add, n0, n1, n2, n3, hτ, Option.bind_some, Int.add_zero, z_wid, or_true, true_or, z_up_fn, z_up_ni, z_up_eq, z_up_qi, z_rw_fn, z_rw_in, z_rw_out, if_pos, if_neg, ↓reduceIte]
              exact w_ret rfl
            · exact w_ref h 11
        · apply zOK_mk2
          · simp (disch := first | omega | (simp (disch := omega) only [z_up_fn, z_up_ni, z_up_eq, z_up_qi, z_rw_fn] <;> omega) | fail) only [ite_self, e_128_0, e_128_4, e_128_19, e_128_11, e_128_30, e_128_45_0, e_128_45_1, e_128_45_2, e_128_45_3, e_128_38, e_128_53_0, e_128_53_1, e_128_53_2, e_128_53_3, e_128_74_0, e_128_66, e_128_74_1, e_128_74_2, e_128_74_3, e_128_83, e_128_90_0, e_128_90_1, e_128_90_2, e_128_90_3, e_128_100_0, e_128_100_1, e_128_100_2, e_128_100_3, e_128_110_0, e_128_110_1, e_128_110_2, e_128_110_3, e_128_120, e_128_134, e_128_142, e_128_159, e_128_162, s_138, e_75_0, e_86_0_2, e_77_0_3, e_78_0_3, e_78_4_3, e_79_0_3, e_80_0_3, e_81_0_3, e_81_5_3, s_142, s_addPass, e_131_0, e_132_0, w_ix3, w_iy3, Option.bind_some, Int.add_zero, z_wid, or_true, true_or, z_up_fn, z_up_ni, z_up_eq, z_up_qi, z_rw_fn, z_rw_in, z_rw_out, if_pos, if_neg, ↓reduceIte]
            exact w_ret rfl
          · intro k hk
            simp (disch := omega) only [z_up_fn, z_rw_fn]
          · intro τ hτ
            simp (disch := first | omega | (simp (disch := omega) only [hτ] <;> omega) | fail) only [e_227_0, e_227_6, e_227_23, e_227_15, e_227_38, e_227_55, e_227_86, e_227_72, e_227_95, e_227_142, e_227_191, e_227_183, s_149, s_161, e_162_0, e_162_97, e_150_0, e_151_0, Int.reduceMul, Int.reduceAdd, Int.zero_add, n0, n1, n2, n3, hτ, Option.bind_some, Int.add_zero, z_wid, or_true, true_or, z_up_fn, z_up_ni, z_up_eq, z_up_qi, z_rw_fn, z_rw_in, z_rw_out, if_pos, if_neg, ↓reduceIte]
            exact w_ret rfl
          · exact w_ref h 10
      · apply zOK_mk2
        · simp (disch := first | omega | (simp (disch := omega) only [z_up_fn, z_up_ni, z_up_eq, z_up_qi, z_rw_fn] <;> omega) | fail) only [ite_self, e_128_0, e_128_4, e_128_19, e_128_11, e_128_30, e_128_45_0, e_128_45_1, e_128_45_2, e_128_45_3, e_128_38, e_128_53_0, e_128_53_1, e_128_53_2, e_128_53_3, e_128_74_0, e_128_66, e_128_74_1, e_128_74_2, e_128_74_3, e_128_83, e_128_90_0, e_128_90_1, e_128_90_2, e_128_90_3, e_128_100_0, e_128_100_1, e_128_100_2, e_128_100_3, e_128_110_0, e_128_110_1, e_128_110_2, e_128_110_3, e_128_120, e_128_134, e_128_142, e_128_159, e_128_162, s_138, e_75_0, e_86_0_2, e_77_0_3, e_78_0_3, e_78_4_3, e_79_0_3, e_80_0_3, e_81_0_3, e_81_5_3, s_142, s_addPass, e_131_0, e_132_0, w_ix3, w_iy3, Option.bind_some, Int.add_zero, z_wid, or_true, true_or, z_up_fn, z_up_ni, z_up_eq, z_up_qi, z_rw_fn, z_rw_in, z_rw_out, if_pos, if_neg, ↓reduceIte]
          exact w_ret rfl
        · intro k hk
          simp (disch := omega) only [z_up_fn, z_rw_fn]
        · intro τ hτ
          simp (disch := first | omega | (simp (disch := omega) only [hτ] <;> omega) | fail) only [e_227_0, e_227_6, e_227_23, e_227_15, e_227_38, e_227_55, e_227_86, e_227_72, e_227_95, e_227_142, e_227_191, e_227_183, s_149, s_161, e_162_0, e_162_97, e_150_0, e_151_0, Int.reduceMul, Int.reduceAdd, Int.zero_add, n0, n1, n2, n3, hτ, Option.bind_some, Int.add_zero, z_wid, or_true, true_or, z_up_fn, z_up_ni, z_up_eq, z_up_qi, z_rw_fn, z_rw_in, z_rw_out, if_pos, if_neg, ↓reduceIte]
          exact w_ret rfl
        · exact w_ref h 2
    · apply zOK_mk2
      · simp (disch := first | omega | (simp (disch := omega) only [z_up_fn, z_up_ni, z_up_eq, z_up_qi, z_rw_fn] <;> omega) | fail) only [ite_self, e_128_0, e_128_4, e_128_19, e_128_11, e_128_30, e_128_45_0, e_128_45_1, e_128_45_2, e_128_45_3, e_128_38, e_128_53_0, e_128_53_1, e_128_53_2, e_128_53_3, e_128_74_0, e_128_66, e_128_74_1, e_128_74_2, e_128_74_3, e_128_83, e_128_90_0, e_128_90_1, e_128_90_2, e_128_90_3, e_128_100_0, e_128_100_1, e_128_100_2, e_128_100_3, e_128_110_0, e_128_110_1, e_128_110_2, e_128_110_3, e_128_120, e_128_134, e_128_142, e_128_159, e_128_162, s_138, e_75_0, e_86_0_2, e_77_0_3, e_78_0_3, e_78_4_3, e_79_0_3, e_80_0_3, e_81_0_3, e_81_5_3, s_142, s_addPass, e_131_0, e_132_0, w_ix3, w_iy3, Option.bind_some, Int.add_zero, z_wid, or_true, true_or, z_up_fn, z_up_ni, z_up_eq, z_up_qi, z_rw_fn, z_rw_in, z_rw_out, if_pos, if_neg, ↓reduceIte]
        exact w_ret rfl
      · intro k hk
        simp (disch := omega) only [z_up_fn, z_rw_fn]
      · intro τ hτ
        simp (disch := first | omega | (simp (disch := omega) only [hτ] <;> omega) | fail) only [e_227_0, e_227_6, e_227_23, e_227_15, e_227_38, e_227_55, e_227_86, e_227_72, e_227_95, e_227_142, e_227_191, e_227_183, s_149, s_161, e_162_0, e_162_97, e_150_0, e_151_0, Int.reduceMul, Int.reduceAdd, Int.zero_add, n0, n1, n2, n3, hτ, Option.bind_some, Int.add_zero, z_wid, or_true, true_or, z_up_fn, z_up_ni, z_up_eq, z_up_qi, z_rw_fn, z_rw_in, z_rw_out, if_pos, if_neg, ↓reduceIte]
        exact w_ret rfl
      · exact w_ref h 1
  · apply zOK_mk2
    · simp (disch := first | omega | (simp (disch := omega) only [z_up_fn, z_up_ni, z_up_eq, z_up_qi, z_rw_fn] <;> omega) | fail) only [ite_self, e_128_0, e_128_4, e_128_19, e_128_11, e_128_30, e_128_45_0, e_128_45_1, e_128_45_2, e_128_45_3, e_128_38, e_128_53_0, e_128_53_1, e_128_53_2, e_128_53_3, e_128_74_0, e_128_66, e_128_74_1, e_128_74_2, e_128_74_3, e_128_83, e_128_90_0, e_128_90_1, e_128_90_2, e_128_90_3, e_128_100_0, e_128_100_1, e_128_100_2, e_128_100_3, e_128_110_0, e_128_110_1, e_128_110_2, e_128_110_3, e_128_120, e_128_134, e_128_142, e_128_159, e_128_162, s_138, e_75_0, e_86_0_2, e_77_0_3, e_78_0_3, e_78_4_3, e_79_0_3, e_80_0_3, e_81_0_3, e_81_5_3, s_142, s_addPass, e_131_0, e_132_0, w_ix3, w_iy3, Option.bind_some, Int.add_zero, z_wid, or_true, true_or, z_up_fn, z_up_ni, z_up_eq, z_up_qi, z_rw_fn, z_rw_in, z_rw_out, if_pos, if_neg, ↓reduceIte]
      exact w_ret rfl
    · intro k hk
      simp (disch := omega) only [z_up_fn, z_rw_fn]
    · intro τ hτ
      simp (disch := first | omega | (simp (disch := omega) only [hτ] <;> omega) | fail) only [e_227_0, e_227_6, e_227_23, e_227_15, e_227_38, e_227_55, e_227_86, e_227_72, e_227_95, e_227_142, e_227_191, e_227_183, s_149, s_161, e_162_0, e_162_97, e_150_0, e_151_0, Int.reduceMul, Int.reduceAdd, Int.zero_add, n0, n1, n2, n3, hτ, Option.bind_some, Int.add_zero, z_wid, or_true, true_or, z_up_fn, z_up_ni, z_up_eq, z_up_qi, z_rw_fn, z_rw_in, z_rw_out, if_pos, if_neg, ↓reduceIte]
      exact w_ret rfl
    · exact w_ref h 1
theorem o_rowx (d : Nat) (s : Int → Int) (L : Int) (σ : Nat → Int → Int) (h : zV s L σ) (x1 x2 x3 : Int) (c : ¬ (0 ≤ x1 ∧ x1 ≤ 3)) : zOK s L (d + 9) 128 227 [some (.inl x1), some (.inl x2), some (.inl x3), none, none, none, none, none, none] [some (.inl x1), some (.inl x2), some (.inl x3), none] σ := by
  apply zOK_mk2
  · simp (disch := first | omega | (simp (disch := omega) only [z_up_fn, z_up_ni, z_up_eq, z_up_qi, z_rw_fn] <;> omega) | fail) only [e_128_0, e_128_4, e_128_19, s_138, e_132_0, Option.bind_some, Int.add_zero, z_wid, or_true, true_or, z_up_fn, z_up_ni, z_up_eq, z_up_qi, z_rw_fn, z_rw_in, z_rw_out, if_pos, if_neg, ↓reduceIte]
    exact w_ret rfl
  · intro k hk
    simp (disch := omega) only [z_up_fn]
  · intro τ hτ
    simp (disch := first | omega | (simp (disch := omega) only [hτ] <;> omega) | fail) only [e_227_0, e_227_6, e_227_23, s_149, e_150_0, hτ, Option.bind_some, Int.add_zero, z_wid, or_true, true_or, z_up_fn, z_up_ni, z_up_eq, z_up_qi, z_rw_fn, z_rw_in, z_rw_out, if_pos, if_neg, ↓reduceIte]
    exact w_ret rfl
  · exact w_ref h 1
theorem o_row (d : Nat) (s : Int → Int) (L : Int) (σ : Nat → Int → Int) (h : zV s L σ) (x1 x2 x3 : Int) (b3 : x3 < 2147483648) : zOK s L (d + 9) 128 227 [some (.inl x1), some (.inl x2), some (.inl x3), none, none, none, none, none, none] [some (.inl x1), some (.inl x2), some (.inl x3), none] σ := by
  by_cases c : 0 ≤ x1 ∧ x1 ≤ 3
  · have e : x1 = 0 ∨ x1 = 1 ∨ x1 = 2 ∨ x1 = 3 := by omega
    rcases e with e | e | e | e <;> subst e
    · exact o_row0 d s L σ h x2 x3 b3
    · exact o_row1 d s L σ h x2 x3 b3
    · exact o_row2 d s L σ h x2 x3 b3
    · exact o_row3 d s L σ h x2 x3 b3
  · exact o_rowx d s L σ h x1 x2 x3 c
