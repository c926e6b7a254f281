theorem o_strip (d : Nat) (s : Int → Int) (L : Int) (σ : Nat → Int → Int) (h : zV s L σ) (x1 x2 : Int) : zOK s L (d + 9) 107 200 [some (.inl x1), some (.inl x2), none] [some (.inl x1), some (.inl x2), none, none, none] σ := by
  have hwP := zV_wP h
  have hP := (zV_P h).1
  have hP1 := (zV_P h).2.1
  have hP2 := (zV_P h).2.2.1
  have hwT := zV_wT h
  have hT := (zV_T h).1
  have hT1 := (zV_T h).2.1
  have hT2 := (zV_T h).2.2.1
  have hT0 := zV_T h
  have t0 : 0 ≤ x1 ∧ x1 < σ 18 3 → zBTr (σ 19) (σ 104) (σ 105) (σ 106) (σ 71 2) x1 := fun p => hT0.2.2.2 x1 p.1 (by omega)
  have g66 : ∀ e : Nat, zE (e + 1) 66 0 [some (.inr 22), some (.inl x1), some (.inl x2), none] [] (zS, σ) = some (.inl (if 0 ≤ x1 ∧ x1 < σ 18 3 then (if 0 ≤ x2 then (if w_ri (σ 105) (σ 104) x1 x2 = -1 then 0 else 1) else 0) else 0), (zS, σ)) := fun e => s_66 e σ x1 x2 (by omega) (by omega) t0
  have g69 : ∀ e : Nat, 0 ≤ x1 ∧ x1 < σ 18 3 → 0 ≤ x2 → ¬ w_ri (σ 105) (σ 104) x1 x2 = -1 → z_b (σ 106 x1) (w_ri (σ 105) (σ 104) x1 x2) = 0 → zE (e + 3) 69 0 [some (.inr 22), some (.inl x1), some (.inl x2), none] [] (zS, σ) = some (.inl (w_rr (σ 105) (σ 104) (σ 106) x1 x2), (zS, σ)) := fun e p q r t => s_69 e σ x1 x2 (by omega) hT0 p q r t
  have gz : ¬ w_ri (σ 105) (σ 104) x1 x2 = -1 → 0 ≤ x1 ∧ x1 < σ 18 3 → z_b (σ 19 (6 * x1 + 5)) x2 = z_b (σ 106 x1) (w_ri (σ 105) (σ 104) x1 x2) := by
    intro p q
    have r := w_ri_rng σ x1 x2 (t0 q)
    omega
  by_cases c1 : 0 ≤ x1 ∧ x1 < σ 18 3
  · have t1 := t0 c1
    have t2 := t1.1
    have t3 := t1.2.1
    have t4 := t1.2.2.1
    have t5 := t1.2.2.2.1
    have t6 := t1.2.2.2.2.1
    have t7 := t1.2.2.2.2.2.1
    have t8 := w_ri_rng σ x1 x2 t1
    by_cases c2 : 0 ≤ x2
    · by_cases c3 : x2 < σ 2 3
      · by_cases c4 : ¬ w_ri (σ 105) (σ 104) x1 x2 = -1
        · by_cases c5 : z_b (σ 106 x1) (w_ri (σ 105) (σ 104) x1 x2) = 0
          · apply zOK_mk2
            · simp (disch := first | omega | (simp (disch := omega) only [z_up_fn, z_up_ni, z_up_eq, z_up_qi, z_rw_fn] <;> omega) | fail) only [e_107_0, e_107_12, e_107_20, e_107_33, e_107_54, e_107_41, e_107_67, e_107_72, g66, s_67, g69, gz, e_68_0, e_68_9, e_68_16, s_get_18, s_set_18, e_131_0, e_132_0, Option.bind_some, Int.add_zero, z_wid, or_true, true_or, z_up_fn, z_up_ni, z_up_eq, z_up_qi, z_rw_fn, z_rw_in, z_rw_out, if_pos, if_neg, ↓reduceIte]
              exact w_ret rfl
            · intro k hk
              simp (disch := omega) only [z_up_fn, z_rw_fn]
            · intro τ hτ
              simp (disch := first | omega | (simp (disch := omega) only [hτ] <;> omega) | fail) only [s_200, e_200_0, e_200_11, e_200_19, e_200_27, s_149, s_152, e_150_0, hτ, Option.bind_some, Int.add_zero, z_wid, or_true, true_or, z_up_fn, z_up_ni, z_up_eq, z_up_qi, z_rw_fn, z_rw_in, z_rw_out, if_pos, if_neg, ↓reduceIte]
              exact w_ret (by omega)
            · obtain ⟨v_sc, v_st, v_mo, v_se, v_ik, v_ba, v_wP, v_wZ, v_wD, v_wS, v_wR, v_wU, v_wO, v_wG, v_wT, v_P, v_Q, v_Z, v_D, v_S, v_R, v_U, v_O, v_G, v_T, v_kl, v_kmo, v_kse, v_kP, v_kQ, v_kZ, v_kD, v_kS, v_kR, v_kU, v_kO, v_kG, v_kT, v_A, v_X0, v_X1, v_X2, v_X3, v_pc, v_pm, v_lc, v_lm⟩ := h
              have e := hT.symm
              refine ⟨v_sc, ?_, v_mo, v_se, v_ik, v_ba, v_wP, v_wZ, v_wD, v_wS, v_wR, v_wU, v_wO, v_wG, v_wT, v_P, v_Q, v_Z, v_D, v_S, v_R, v_U, v_O, v_G, ?_, v_kl, v_kmo, v_kse, v_kP, v_kQ, v_kZ, v_kD, v_kS, v_kR, v_kU, v_kO, v_kG, v_kT, v_A, v_X0, v_X1, v_X2, v_X3, v_pc, v_pm, v_lc, v_lm⟩
              · rfl
              · refine ⟨?_, ?_, ?_, fun r r0 r1 => ?_⟩
                · simp (disch := omega) only [true_and, and_true, true_or, or_true, Int.add_zero, z_up_fn, z_up_ni, z_up_eq, z_up_qi, z_rw_fn, z_rw_in, z_rw_out, if_pos, if_neg, ↓reduceIte]; omega
                · simp (disch := omega) only [true_and, and_true, true_or, or_true, Int.add_zero, z_up_fn, z_up_ni, z_up_eq, z_up_qi, z_rw_fn, z_rw_in, z_rw_out, if_pos, if_neg, ↓reduceIte]; omega
                · simp (disch := omega) only [true_and, and_true, true_or, or_true, Int.add_zero, z_up_fn, z_up_ni, z_up_eq, z_up_qi, z_rw_fn, z_rw_in, z_rw_out, if_pos, if_neg, ↓reduceIte]; omega
                · have r1 : r < σ 71 43 := r1
                  have q := v_T.2.2.2 r r0 r1
                  have hn : σ 71 2 ≤ 12 := hP2
                  clear v_sc v_st v_mo v_se v_ik v_ba v_wP v_wZ v_wD v_wS v_wR v_wU v_wO v_wG v_wT v_P v_Q v_Z v_D v_S v_R v_U v_O v_G v_T v_kl v_kmo v_kse v_kP v_kQ v_kZ v_kD v_kS v_kR v_kU v_kO v_kG v_kT v_A v_X0 v_X1 v_X2 v_X3 v_pc v_pm v_lc v_lm
                  by_cases c : r = x1
                  · subst c
                    obtain ⟨k0, k1, k2, k3, k4, k5⟩ : 0 ≤ w_ri (σ 105) (σ 104) r x2 ∧ w_ri (σ 105) (σ 104) r x2 < σ 104 r ∧ σ 105 (5 * r + w_ri (σ 105) (σ 104) r x2) = x2 ∧ 0 ≤ x2 ∧ x2 < σ 71 2 ∧ z_b (σ 19 (6 * r + 5)) x2 = z_b (σ 106 r) (w_ri (σ 105) (σ 104) r x2) := by
                      rcases t8 with t8 | t8
                      · exact absurd t8 c4
                      · exact t8
                    obtain ⟨h1, h2, h3, h4, h5, h6, h7, h8⟩ := q
                    have o1 := w_or12 _ x2 h3 h4 k3 (by omega)
                    have o2 := w_or5 _ _ h5 h6 k0 (by omega)
                    refine ⟨?_, ?_, ?_, ?_, ?_, ?_, fun i i0 i1 => ?_, fun i i0 i1 => ?_⟩
                    · simp (disch := omega) only [true_and, and_true, true_or, or_true, Int.add_zero, z_up_fn, z_up_ni, z_up_eq, z_up_qi, z_rw_fn, z_rw_in, z_rw_out, if_pos, if_neg, ↓reduceIte]; omega
                    · simp (disch := omega) only [true_and, and_true, true_or, or_true, Int.add_zero, z_up_fn, z_up_ni, z_up_eq, z_up_qi, z_rw_fn, z_rw_in, z_rw_out, if_pos, if_neg, ↓reduceIte]; omega
                    · simp (disch := omega) only [true_and, and_true, true_or, or_true, Int.add_zero, z_up_fn, z_up_ni, z_up_eq, z_up_qi, z_rw_fn, z_rw_in, z_rw_out, if_pos, if_neg, ↓reduceIte]; exact o1.1
                    · simp (disch := omega) only [true_and, and_true, true_or, or_true, Int.add_zero, z_up_fn, z_up_ni, z_up_eq, z_up_qi, z_rw_fn, z_rw_in, z_rw_out, if_pos, if_neg, ↓reduceIte]; exact o1.2
                    · simp (disch := omega) only [true_and, and_true, true_or, or_true, Int.add_zero, z_up_fn, z_up_ni, z_up_eq, z_up_qi, z_rw_fn, z_rw_in, z_rw_out, if_pos, if_neg, ↓reduceIte]; exact o2.1
                    · simp (disch := omega) only [true_and, and_true, true_or, or_true, Int.add_zero, z_up_fn, z_up_ni, z_up_eq, z_up_qi, z_rw_fn, z_rw_in, z_rw_out, if_pos, if_neg, ↓reduceIte]; exact o2.2
                    · have i0 : σ 104 r ≤ i := i0
                      have g := h7 i i0 i1
                      simp (disch := omega) only [true_and, and_true, true_or, or_true, Int.add_zero, z_up_fn, z_up_ni, z_up_eq, z_up_qi, z_rw_fn, z_rw_in, z_rw_out, if_pos, if_neg, ↓reduceIte]
                      exact g
                    · have i1 : i < σ 104 r := i1
                      have g := h8 i i0 i1
                      obtain ⟨g1, g2, g3, g4, g5⟩ := g
                      refine ⟨?_, ?_, ?_, ?_, ?_⟩
                      · simp (disch := omega) only [true_and, and_true, true_or, or_true, Int.add_zero, z_up_fn, z_up_ni, z_up_eq, z_up_qi, z_rw_fn, z_rw_in, z_rw_out, if_pos, if_neg, ↓reduceIte]; exact g1
                      · simp (disch := omega) only [true_and, and_true, true_or, or_true, Int.add_zero, z_up_fn, z_up_ni, z_up_eq, z_up_qi, z_rw_fn, z_rw_in, z_rw_out, if_pos, if_neg, ↓reduceIte]; exact g2
                      · simp (disch := omega) only [true_and, and_true, true_or, or_true, Int.add_zero, z_up_fn, z_up_ni, z_up_eq, z_up_qi, z_rw_fn, z_rw_in, z_rw_out, if_pos, if_neg, ↓reduceIte]; exact g3
                      · simp (disch := omega) only [true_and, and_true, true_or, or_true, Int.add_zero, z_up_fn, z_up_ni, z_up_eq, z_up_qi, z_rw_fn, z_rw_in, z_rw_out, if_pos, if_neg, ↓reduceIte]
                        rw [w_zbor _ x2 _ h3 (by omega) k3 (by omega) g2 (by omega), w_zbor _ _ i h5 (by omega) k0 (by omega) i0 (by omega), g4]
                        by_cases f : i = w_ri (σ 105) (σ 104) r x2
                        · rw [if_pos f, if_pos (by rw [f]; exact k2)]
                        · rw [if_neg f, if_neg]
                          intro w
                          by_cases lt : i < w_ri (σ 105) (σ 104) r x2
                          · have y := (h8 _ k0 k1).2.2.2.2 i i0 lt
                            rw [k2] at y
                            exact y w
                          · have y := g5 _ k0 (by omega)
                            rw [k2] at y
                            exact y w.symm
                      · simp (disch := omega) only [true_and, and_true, true_or, or_true, Int.add_zero, z_up_fn, z_up_ni, z_up_eq, z_up_qi, z_rw_fn, z_rw_in, z_rw_out, if_pos, if_neg, ↓reduceIte]
                        exact g5
                  · refine w_BTr ?_ ?_ ?_ ?_ q
                    · intro i i0 i1
                      simp (disch := omega) only [true_and, and_true, true_or, or_true, Int.add_zero, z_up_fn, z_up_ni, z_up_eq, z_up_qi, z_rw_fn, z_rw_in, z_rw_out, if_pos, if_neg, ↓reduceIte]
                    · simp (disch := omega) only [true_and, and_true, true_or, or_true, Int.add_zero, z_up_fn, z_up_ni, z_up_eq, z_up_qi, z_rw_fn, z_rw_in, z_rw_out, if_pos, if_neg, ↓reduceIte]
                    · intro i i0 i1
                      simp (disch := omega) only [true_and, and_true, true_or, or_true, Int.add_zero, z_up_fn, z_up_ni, z_up_eq, z_up_qi, z_rw_fn, z_rw_in, z_rw_out, if_pos, if_neg, ↓reduceIte]
                    · simp (disch := omega) only [true_and, and_true, true_or, or_true, Int.add_zero, z_up_fn, z_up_ni, z_up_eq, z_up_qi, z_rw_fn, z_rw_in, z_rw_out, if_pos, if_neg, ↓reduceIte]
          · apply zOK_mk2
            · simp (disch := first | omega | (simp (disch := omega) only [z_up_fn, z_up_ni, z_up_eq, z_up_qi, z_rw_fn] <;> omega) | fail) only [e_107_0, e_107_12, e_107_20, e_107_33, e_107_54, e_107_41, e_107_67, e_107_72, g66, s_67, g69, gz, e_68_0, e_68_9, e_68_16, s_get_18, s_set_18, e_131_0, e_132_0, Option.bind_some, Int.add_zero, z_wid, or_true, true_or, z_up_fn, z_up_ni, z_up_eq, z_up_qi, z_rw_fn, z_rw_in, z_rw_out, if_pos, if_neg, ↓reduceIte]
              exact w_ret rfl
            · intro k hk
              simp (disch := omega) only [z_up_fn, z_rw_fn]
            · intro τ hτ
              simp (disch := first | omega | (simp (disch := omega) only [hτ] <;> omega) | fail) only [s_200, e_200_0, e_200_11, e_200_19, e_200_27, s_149, s_152, e_150_0, hτ, Option.bind_some, Int.add_zero, z_wid, or_true, true_or, z_up_fn, z_up_ni, z_up_eq, z_up_qi, z_rw_fn, z_rw_in, z_rw_out, if_pos, if_neg, ↓reduceIte]
              exact w_ret rfl
            · exact w_ref h 3
        · apply zOK_mk2
          · simp (disch := first | omega | (simp (disch := omega) only [z_up_fn, z_up_ni, z_up_eq, z_up_qi, z_rw_fn] <;> omega) | fail) only [e_107_0, e_107_12, e_107_20, e_107_33, e_107_54, e_107_41, e_107_67, e_107_72, g66, s_67, g69, gz, e_68_0, e_68_9, e_68_16, s_get_18, s_set_18, e_131_0, e_132_0, Option.bind_some, Int.add_zero, z_wid, or_true, true_or, z_up_fn, z_up_ni, z_up_eq, z_up_qi, z_rw_fn, z_rw_in, z_rw_out, if_pos, if_neg, ↓reduceIte]
            exact w_ret rfl
          · intro k hk
            simp (disch := omega) only [z_up_fn, z_rw_fn]
          · intro τ hτ
            simp (disch := first | omega | (simp (disch := omega) only [hτ] <;> omega) | fail) only [s_200, e_200_0, e_200_11, e_200_19, e_200_27, s_149, s_152, e_150_0, hτ, Option.bind_some, Int.add_zero, z_wid, or_true, true_or, z_up_fn, z_up_ni, z_up_eq, z_up_qi, z_rw_fn, z_rw_in, z_rw_out, if_pos, if_neg, ↓reduceIte]
            exact w_ret rfl
          · exact w_ref h 1
      · apply zOK_mk2
        · simp (disch := first | omega | (simp (disch := omega) only [z_up_fn, z_up_ni, z_up_eq, z_up_qi, z_rw_fn] <;> omega) | fail) only [e_107_0, e_107_12, e_107_20, e_107_33, e_107_54, e_107_41, e_107_67, e_107_72, g66, s_67, g69, gz, e_68_0, e_68_9, e_68_16, s_get_18, s_set_18, e_131_0, e_132_0, Option.bind_some, Int.add_zero, z_wid, or_true, true_or, z_up_fn, z_up_ni, z_up_eq, z_up_qi, z_rw_fn, z_rw_in, z_rw_out, if_pos, if_neg, ↓reduceIte]
          exact w_ret rfl
        · intro k hk
          simp (disch := omega) only [z_up_fn, z_rw_fn]
        · intro τ hτ
          simp (disch := first | omega | (simp (disch := omega) only [hτ] <;> omega) | fail) only [s_200, e_200_0, e_200_11, e_200_19, e_200_27, s_149, s_152, e_150_0, hτ, Option.bind_some, Int.add_zero, z_wid, or_true, true_or, z_up_fn, z_up_ni, z_up_eq, z_up_qi, z_rw_fn, z_rw_in, z_rw_out, if_pos, if_neg, ↓reduceIte]
          exact w_ret rfl
        · exact w_ref h 1
    · apply zOK_mk2
      · simp (disch := first | omega | (simp (disch := omega) only [z_up_fn, z_up_ni, z_up_eq, z_up_qi, z_rw_fn] <;> omega) | fail) only [e_107_0, e_107_12, e_107_20, e_107_33, e_107_54, e_107_41, e_107_67, e_107_72, g66, s_67, g69, gz, e_68_0, e_68_9, e_68_16, s_get_18, s_set_18, e_131_0, e_132_0, Option.bind_some, Int.add_zero, z_wid, or_true, true_or, z_up_fn, z_up_ni, z_up_eq, z_up_qi, z_rw_fn, z_rw_in, z_rw_out, if_pos, if_neg, ↓reduceIte]
        exact w_ret rfl
      · intro k hk
        simp (disch := omega) only [z_up_fn, z_rw_fn]
      · intro τ hτ
        simp (disch := first | omega | (simp (disch := omega) only [hτ] <;> omega) | fail) only [s_200, e_200_0, e_200_11, e_200_19, e_200_27, s_149, s_152, e_150_0, hτ, Option.bind_some, Int.add_zero, z_wid, or_true, true_or, z_up_fn, z_up_ni, z_up_eq, z_up_qi, z_rw_fn, z_rw_in, z_rw_out, if_pos, if_neg, ↓reduceIte]
        exact w_ret rfl
      · exact w_ref h 1
  · apply zOK_mk2
    · simp (disch := first | omega | (simp (disch := omega) only [z_up_fn, z_up_ni, z_up_eq, z_up_qi, z_rw_fn] <;> omega) | fail) only [e_107_0, e_107_12, e_107_20, e_107_33, e_107_54, e_107_41, e_107_67, e_107_72, g66, s_67, g69, gz, e_68_0, e_68_9, e_68_16, s_get_18, s_set_18, e_131_0, e_132_0, Option.bind_some, Int.add_zero, z_wid, or_true, true_or, z_up_fn, z_up_ni, z_up_eq, z_up_qi, z_rw_fn, z_rw_in, z_rw_out, if_pos, if_neg, ↓reduceIte]
      exact w_ret rfl
    · intro k hk
      simp (disch := omega) only [z_up_fn, z_rw_fn]
    · intro τ hτ
      simp (disch := first | omega | (simp (disch := omega) only [hτ] <;> omega) | fail) only [s_200, e_200_0, e_200_11, e_200_19, e_200_27, s_149, s_152, e_150_0, hτ, Option.bind_some, Int.add_zero, z_wid, or_true, true_or, z_up_fn, z_up_ni, z_up_eq, z_up_qi, z_rw_fn, z_rw_in, z_rw_out, if_pos, if_neg, ↓reduceIte]
      exact w_ret rfl
    · exact w_ref h 1
