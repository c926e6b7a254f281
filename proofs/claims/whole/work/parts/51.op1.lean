theorem o_person (d : Nat) (s : Int → Int) (L : Int) (σ : Nat → Int → Int) (h : zV s L σ) (x : Int) : zOK s L (d + 9) 93 157 [some (.inl x)] [some (.inl x)] σ := by
  have hwP := zV_wP h
  have hP := (zV_P h).1
  have hP1 := (zV_P h).2.1
  have hP2 := (zV_P h).2.2.1
  by_cases c1 : 0 ≤ x ∧ x ≤ 7
  · by_cases c2 : σ 2 3 < 12
    · apply zOK_mk2
      · simp (disch := first | omega | (simp (disch := omega) only [z_up_fn, z_up_ni, z_up_eq, z_up_qi, z_rw_fn] <;> omega)) only [e_93_0, e_93_4, e_93_12, e_93_23, e_93_41, e_93_31, e_93_44, s_134, e_86_0_0, e_131_0, e_132_0, s_addPerson, Option.bind_some, z_wid, or_true, true_or, z_up_fn, z_up_ni, z_up_eq, z_up_qi, z_rw_fn, z_rw_in, z_rw_out, if_pos, if_neg, ↓reduceIte]
        exact w_ret rfl
      · intro k hk
        simp (disch := omega) only [z_up_fn, z_rw_fn]
      · intro τ hτ
        simp (disch := first | omega | (simp (disch := omega) only [hτ] <;> omega)) only [e_157_0, e_157_7, e_157_15, e_157_30, e_157_81, s_149, e_150_0, e_151_0, hτ, Option.bind_some, z_wid, or_true, true_or, z_up_fn, z_up_ni, z_up_eq, z_up_qi, z_rw_fn, z_rw_in, z_rw_out, if_pos, if_neg, ↓reduceIte]
        exact w_ret (by omega)
      · obtain ⟨v_sc, v_st, v_mo, v_se, v_ik, v_ba, v_wP, v_wZ, v_wD, v_wS, v_wR, v_wU, v_wO, v_wG, v_wT, v_P, v_Q, v_Z, v_D, v_S, v_R, v_U, v_O, v_G, v_T, v_kl, v_kmo, v_kse, v_kP, v_kQ, v_kZ, v_kD, v_kS, v_kR, v_kU, v_kO, v_kG, v_kT, v_A, v_X0, v_X1, v_X2, v_X3, v_pc, v_pm, v_lc, v_lm⟩ := h
        have e := hP.symm
        refine ⟨v_sc, ?_, v_mo, v_se, v_ik, v_ba, v_wP, v_wZ, v_wD, v_wS, v_wR, v_wU, v_wO, v_wG, v_wT, ?_, ?_, ?_, v_D, ?_, v_R, v_U, v_O, v_G, ?_, ?_, v_kmo, v_kse, ?_, v_kQ, v_kZ, v_kD, v_kS, v_kR, v_kU, v_kO, v_kG, v_kT, v_A, v_X0, v_X1, v_X2, v_X3, v_pc, v_pm, v_lc, v_lm⟩
        · rfl
        · clear v_sc v_st v_mo v_se v_ik v_ba v_wP v_wZ v_wD v_wS v_wR v_wU v_wO v_wG v_wT v_Q v_D v_R v_U v_O v_G v_T v_kl v_kmo v_kse v_kP v_kQ v_kZ v_kD v_kS v_kR v_kU v_kO v_kG v_kT v_A v_X0 v_X1 v_X2 v_X3 v_pc v_pm v_lc v_lm
          refine ⟨?_, ?_, ?_, fun p p0 p1 => ?_⟩
          · simp (disch := omega) only [true_and, and_true, true_or, or_true, z_up_fn, z_up_ni, z_up_eq, z_up_qi, z_rw_fn, z_rw_in, z_rw_out, if_pos, if_neg, ↓reduceIte]; omega
          · simp (disch := omega) only [true_and, and_true, true_or, or_true, z_up_fn, z_up_ni, z_up_eq, z_up_qi, z_rw_fn, z_rw_in, z_rw_out, if_pos, if_neg, ↓reduceIte]; omega
          · simp (disch := omega) only [true_and, and_true, true_or, or_true, z_up_fn, z_up_ni, z_up_eq, z_up_qi, z_rw_fn, z_rw_in, z_rw_out, if_pos, if_neg, ↓reduceIte]; omega
          · have p1 : p < σ 71 2 + 1 := p1
            by_cases c : p = σ 71 2
            · subst c
              have q := v_Z.2.1
              simp (disch := omega) only [true_and, and_true, true_or, or_true, z_up_fn, z_up_ni, z_up_eq, z_up_qi, z_rw_fn, z_rw_in, z_rw_out, if_pos, if_neg, ↓reduceIte, r_addPerson_0, r_addPerson_1, r_addPerson_2, r_addPerson_3]
              omega
            · have q := v_P.2.2.2 p p0 (by omega)
              simp (disch := omega) only [true_and, and_true, true_or, or_true, z_up_fn, z_up_ni, z_up_eq, z_up_qi, z_rw_fn, z_rw_in, z_rw_out, if_pos, if_neg, ↓reduceIte]
              omega
        · intro p p0 p1
          have p1 : p < σ 71 2 + 1 := p1
          by_cases c : p = σ 71 2
          · subst c
            simp (disch := omega) only [true_and, and_true, true_or, or_true, z_up_fn, z_up_ni, z_up_eq, z_up_qi, z_rw_fn, z_rw_in, z_rw_out, if_pos, if_neg, ↓reduceIte, r_addPerson_0, r_addPerson_1, r_addPerson_2, r_addPerson_3]
            refine (z_cnt_none fun i i0 i1 => ?_).symm
            have q := v_S.2.2.2 i i0 (by have := v_S.2.1; omega)
            omega
          · have q := v_Q p p0 (by omega)
            simp (disch := omega) only [true_and, and_true, true_or, or_true, z_up_fn, z_up_ni, z_up_eq, z_up_qi, z_rw_fn, z_rw_in, z_rw_out, if_pos, if_neg, ↓reduceIte]
            exact q
        · refine ⟨v_Z.1, v_Z.2.1, v_Z.2.2.1, fun z z0 z1 => ?_⟩
          have z1 : z < σ 71 6 := z1
          have q := v_Z.2.2.2 z z0 z1
          have e2 : (σ 71 2 + 1).toNat = (σ 71 2).toNat + 1 := by omega
          simp (disch := omega) only [true_and, and_true, true_or, or_true, z_up_fn, z_up_ni, z_up_eq, z_up_qi, z_rw_fn, z_rw_in, z_rw_out, if_pos, if_neg, ↓reduceIte]
          rw [e2]
          unfold z_cnt
          rw [z_cnt_congr (g := σ 73) (fun i i0 i1 => by simp (disch := omega) only [true_and, and_true, true_or, or_true, z_up_fn, z_up_ni, z_up_eq, z_up_qi, z_rw_fn, z_rw_in, z_rw_out, if_pos, if_neg, ↓reduceIte]), show (((σ 71 2).toNat : Int)) = σ 71 2 by omega]
          simp (disch := omega) only [true_and, and_true, true_or, or_true, z_up_fn, z_up_ni, z_up_eq, z_up_qi, z_rw_fn, z_rw_in, z_rw_out, if_pos, if_neg, ↓reduceIte]
          omega
        · exact w_S_mono (by simp (disch := omega) only [true_and, and_true, true_or, or_true, z_up_fn, z_up_ni, z_up_eq, z_up_qi, z_rw_fn, z_rw_in, z_rw_out, if_pos, if_neg, ↓reduceIte]; omega) v_S
        · exact w_T_mono (by simp (disch := omega) only [true_and, and_true, true_or, or_true, z_up_fn, z_up_ni, z_up_eq, z_up_qi, z_rw_fn, z_rw_in, z_rw_out, if_pos, if_neg, ↓reduceIte]; omega) v_T
        · intro k
          have w := v_kl k
          clear v_sc v_st v_mo v_se v_ik v_ba v_wP v_wZ v_wD v_wS v_wR v_wU v_wO v_wG v_wT v_P v_Q v_Z v_D v_S v_R v_U v_O v_G v_T v_kl v_kmo v_kse v_kP v_kQ v_kZ v_kD v_kS v_kR v_kU v_kO v_kG v_kT v_A v_X0 v_X1 v_X2 v_X3 v_pc v_pm v_lc v_lm
          unfold zKL at w ⊢
          simp (disch := omega) only [true_and, and_true, true_or, or_true, z_up_fn, z_up_ni, z_up_eq, z_up_qi, z_rw_fn, z_rw_in, z_rw_out, if_pos, if_neg, ↓reduceIte]
          omega
        · intro k
          have w := v_kl k
          unfold zKL at w
          have q := v_kP k
          clear v_sc v_st v_mo v_se v_ik v_ba v_wP v_wZ v_wD v_wS v_wR v_wU v_wO v_wG v_wT v_P v_Q v_Z v_D v_S v_R v_U v_O v_G v_T v_kl v_kmo v_kse v_kP v_kQ v_kZ v_kD v_kS v_kR v_kU v_kO v_kG v_kT v_A v_X0 v_X1 v_X2 v_X3 v_pc v_pm v_lc v_lm
          refine ⟨q.1, q.2.1, q.2.2.1, fun p p0 p1 => ?_⟩
          have p2 : p < σ 113 0 := p1
          have r := q.2.2.2 p p0 p2
          simp (disch := first | omega | (simp (disch := omega) only [z_up_fn, z_up_ni, z_up_eq, z_up_qi, z_rw_fn] <;> omega)) only [true_and, and_true, true_or, or_true, z_up_fn, z_up_ni, z_up_eq, z_up_qi, z_rw_fn, z_rw_in, z_rw_out, if_pos, if_neg, ↓reduceIte]
          exact r
    · apply zOK_mk2
      · simp (disch := first | omega | (simp (disch := omega) only [z_up_fn, z_up_ni, z_up_eq, z_up_qi, z_rw_fn] <;> omega)) only [e_93_0, e_93_4, e_93_12, e_93_23, e_93_41, e_93_31, e_93_44, s_134, e_86_0_0, e_131_0, e_132_0, s_addPerson, Option.bind_some, z_wid, or_true, true_or, z_up_fn, z_up_ni, z_up_eq, z_up_qi, z_rw_fn, z_rw_in, z_rw_out, if_pos, if_neg, ↓reduceIte]
        exact w_ret rfl
      · intro k hk
        simp (disch := omega) only [z_up_fn, z_rw_fn]
      · intro τ hτ
        simp (disch := first | omega | (simp (disch := omega) only [hτ] <;> omega)) only [e_157_0, e_157_7, e_157_15, e_157_30, e_157_81, s_149, e_150_0, e_151_0, hτ, Option.bind_some, z_wid, or_true, true_or, z_up_fn, z_up_ni, z_up_eq, z_up_qi, z_rw_fn, z_rw_in, z_rw_out, if_pos, if_neg, ↓reduceIte]
        exact w_ret rfl
      · exact w_ref h 2
  · apply zOK_mk2
    · simp (disch := first | omega | (simp (disch := omega) only [z_up_fn, z_up_ni, z_up_eq, z_up_qi, z_rw_fn] <;> omega)) only [e_93_0, e_93_4, e_93_12, e_93_23, e_93_41, e_93_31, e_93_44, s_134, e_86_0_0, e_131_0, e_132_0, s_addPerson, Option.bind_some, z_wid, or_true, true_or, z_up_fn, z_up_ni, z_up_eq, z_up_qi, z_rw_fn, z_rw_in, z_rw_out, if_pos, if_neg, ↓reduceIte]
      exact w_ret rfl
    · intro k hk
      simp (disch := omega) only [z_up_fn, z_rw_fn]
    · intro τ hτ
      simp (disch := first | omega | (simp (disch := omega) only [hτ] <;> omega)) only [e_157_0, e_157_7, e_157_15, e_157_30, e_157_81, s_149, e_150_0, e_151_0, hτ, Option.bind_some, z_wid, or_true, true_or, z_up_fn, z_up_ni, z_up_eq, z_up_qi, z_rw_fn, z_rw_in, z_rw_out, if_pos, if_neg, ↓reduceIte]
      exact w_ret rfl
    · exact w_ref h 1
