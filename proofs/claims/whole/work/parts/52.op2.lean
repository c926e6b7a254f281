theorem o_zone (d : Nat) (s : Int → Int) (L : Int) (σ : Nat → Int → Int) (h : zV s L σ) (x : Int) : zOK s L (d + 9) 94 158 [some (.inl x)] [some (.inl x)] σ := by
  have hwZ := zV_wZ h
  have hZ := (zV_Z h).1
  have hZ1 := (zV_Z h).2.1
  have hZ2 := (zV_Z h).2.2.1
  by_cases c1 : 0 ≤ x ∧ x ≤ 99
  · by_cases c2 : σ 4 3 < 6
    · apply zOK_mk2
      · simp (disch := first | omega | (simp (disch := omega) only [z_up_fn, z_up_ni, z_up_eq, z_up_qi, z_rw_fn] <;> omega)) only [e_94_0, e_94_7, e_94_15, e_94_26, e_94_44, e_94_34, e_94_47, s_133, e_86_0_1, e_131_0, e_132_0, s_addZone, Option.bind_some, z_wid, or_true, true_or, z_up_fn, z_up_ni, z_up_eq, z_up_qi, z_rw_fn, z_rw_in, z_rw_out, if_pos, if_neg, ↓reduceIte]
        exact w_ret rfl
      · intro k hk
        simp (disch := omega) only [z_up_fn, z_rw_fn]
      · intro τ hτ
        simp (disch := first | omega | (simp (disch := omega) only [hτ] <;> omega)) only [e_158_0, e_158_7, e_158_15, e_158_30, e_158_81, s_149, e_150_0, e_151_0, hτ, Option.bind_some, z_wid, or_true, true_or, z_up_fn, z_up_ni, z_up_eq, z_up_qi, z_rw_fn, z_rw_in, z_rw_out, if_pos, if_neg, ↓reduceIte]
        exact w_ret (by omega)
      · obtain ⟨v_sc, v_st, v_mo, v_se, v_ik, v_ba, v_wP, v_wZ, v_wD, v_wS, v_wR, v_wU, v_wO, v_wG, v_wT, v_P, v_Q, v_Z, v_D, v_S, v_R, v_U, v_O, v_G, v_T, v_kl, v_kmo, v_kse, v_kP, v_kQ, v_kZ, v_kD, v_kS, v_kR, v_kU, v_kO, v_kG, v_kT, v_A, v_X0, v_X1, v_X2, v_X3, v_pc, v_pm, v_lc, v_lm⟩ := h
        have e := hZ.symm
        refine ⟨v_sc, ?_, v_mo, v_se, v_ik, v_ba, v_wP, v_wZ, v_wD, v_wS, v_wR, v_wU, v_wO, v_wG, v_wT, ?_, v_Q, ?_, ?_, v_S, v_R, v_U, v_O, v_G, v_T, ?_, v_kmo, v_kse, v_kP, v_kQ, ?_, v_kD, v_kS, v_kR, v_kU, v_kO, v_kG, v_kT, v_A, v_X0, v_X1, v_X2, v_X3, v_pc, v_pm, v_lc, v_lm⟩
        · rfl
        · exact w_P_mono (by simp (disch := omega) only [true_and, and_true, true_or, or_true, z_up_fn, z_up_ni, z_up_eq, z_up_qi, z_rw_fn, z_rw_in, z_rw_out, if_pos, if_neg, ↓reduceIte]; omega) v_P
        · clear v_sc v_st v_mo v_se v_ik v_ba v_wP v_wZ v_wD v_wS v_wR v_wU v_wO v_wG v_wT v_Q v_D v_R v_U v_O v_G v_T v_kl v_kmo v_kse v_kP v_kQ v_kZ v_kD v_kS v_kR v_kU v_kO v_kG v_kT v_A v_X0 v_X1 v_X2 v_X3 v_pc v_pm v_lc v_lm
          refine ⟨?_, ?_, ?_, fun p p0 p1 => ?_⟩
          · simp (disch := omega) only [true_and, and_true, true_or, or_true, z_up_fn, z_up_ni, z_up_eq, z_up_qi, z_rw_fn, z_rw_in, z_rw_out, if_pos, if_neg, ↓reduceIte]; omega
          · simp (disch := omega) only [true_and, and_true, true_or, or_true, z_up_fn, z_up_ni, z_up_eq, z_up_qi, z_rw_fn, z_rw_in, z_rw_out, if_pos, if_neg, ↓reduceIte]; omega
          · simp (disch := omega) only [true_and, and_true, true_or, or_true, z_up_fn, z_up_ni, z_up_eq, z_up_qi, z_rw_fn, z_rw_in, z_rw_out, if_pos, if_neg, ↓reduceIte]; omega
          · have p1 : p < σ 71 6 + 1 := p1
            by_cases c : p = σ 71 6
            · subst c
              have q := z_cnt_none (f := σ 73) (v := σ 71 6) (n := (σ 71 2).toNat) (fun i i0 i1 => by have q := v_P.2.2.2 i i0 (by omega); omega)
              simp (disch := omega) only [true_and, and_true, true_or, or_true, z_up_fn, z_up_ni, z_up_eq, z_up_qi, z_rw_fn, z_rw_in, z_rw_out, if_pos, if_neg, ↓reduceIte, r_addZone_0, r_addZone_1, r_addZone_2, r_addZone_3]
              omega
            · have q := v_Z.2.2.2 p p0 (by omega)
              simp (disch := omega) only [true_and, and_true, true_or, or_true, z_up_fn, z_up_ni, z_up_eq, z_up_qi, z_rw_fn, z_rw_in, z_rw_out, if_pos, if_neg, ↓reduceIte]
              omega
        · exact w_D_mono (by simp (disch := omega) only [true_and, and_true, true_or, or_true, z_up_fn, z_up_ni, z_up_eq, z_up_qi, z_rw_fn, z_rw_in, z_rw_out, if_pos, if_neg, ↓reduceIte]; omega) v_D
        · intro k
          have w := v_kl k
          clear v_sc v_st v_mo v_se v_ik v_ba v_wP v_wZ v_wD v_wS v_wR v_wU v_wO v_wG v_wT v_P v_Q v_Z v_D v_S v_R v_U v_O v_G v_T v_kl v_kmo v_kse v_kP v_kQ v_kZ v_kD v_kS v_kR v_kU v_kO v_kG v_kT v_A v_X0 v_X1 v_X2 v_X3 v_pc v_pm v_lc v_lm
          unfold zKL at w ⊢
          simp (disch := omega) only [true_and, and_true, true_or, or_true, z_up_fn, z_up_ni, z_up_eq, z_up_qi, z_rw_fn, z_rw_in, z_rw_out, if_pos, if_neg, ↓reduceIte]
          omega
        · intro k
          have w := v_kl k
          unfold zKL at w
          have q := v_kZ k
          clear v_sc v_st v_mo v_se v_ik v_ba v_wP v_wZ v_wD v_wS v_wR v_wU v_wO v_wG v_wT v_P v_Q v_Z v_D v_S v_R v_U v_O v_G v_T v_kl v_kmo v_kse v_kP v_kQ v_kZ v_kD v_kS v_kR v_kU v_kO v_kG v_kT v_A v_X0 v_X1 v_X2 v_X3 v_pc v_pm v_lc v_lm
          refine ⟨q.1, q.2.1, q.2.2.1, fun p p0 p1 => ?_⟩
          have p2 : p < σ 113 1 := p1
          have r := q.2.2.2 p p0 p2
          simp (disch := first | omega | (simp (disch := omega) only [z_up_fn, z_up_ni, z_up_eq, z_up_qi, z_rw_fn] <;> omega)) only [true_and, and_true, true_or, or_true, z_up_fn, z_up_ni, z_up_eq, z_up_qi, z_rw_fn, z_rw_in, z_rw_out, if_pos, if_neg, ↓reduceIte]
          exact r
    · apply zOK_mk2
      · simp (disch := first | omega | (simp (disch := omega) only [z_up_fn, z_up_ni, z_up_eq, z_up_qi, z_rw_fn] <;> omega)) only [e_94_0, e_94_7, e_94_15, e_94_26, e_94_44, e_94_34, e_94_47, s_133, e_86_0_1, e_131_0, e_132_0, s_addZone, Option.bind_some, z_wid, or_true, true_or, z_up_fn, z_up_ni, z_up_eq, z_up_qi, z_rw_fn, z_rw_in, z_rw_out, if_pos, if_neg, ↓reduceIte]
        exact w_ret rfl
      · intro k hk
        simp (disch := omega) only [z_up_fn, z_rw_fn]
      · intro τ hτ
        simp (disch := first | omega | (simp (disch := omega) only [hτ] <;> omega)) only [e_158_0, e_158_7, e_158_15, e_158_30, e_158_81, s_149, e_150_0, e_151_0, hτ, Option.bind_some, z_wid, or_true, true_or, z_up_fn, z_up_ni, z_up_eq, z_up_qi, z_rw_fn, z_rw_in, z_rw_out, if_pos, if_neg, ↓reduceIte]
        exact w_ret rfl
      · exact w_ref h 2
  · apply zOK_mk2
    · simp (disch := first | omega | (simp (disch := omega) only [z_up_fn, z_up_ni, z_up_eq, z_up_qi, z_rw_fn] <;> omega)) only [e_94_0, e_94_7, e_94_15, e_94_26, e_94_44, e_94_34, e_94_47, s_133, e_86_0_1, e_131_0, e_132_0, s_addZone, Option.bind_some, z_wid, or_true, true_or, z_up_fn, z_up_ni, z_up_eq, z_up_qi, z_rw_fn, z_rw_in, z_rw_out, if_pos, if_neg, ↓reduceIte]
      exact w_ret rfl
    · intro k hk
      simp (disch := omega) only [z_up_fn, z_rw_fn]
    · intro τ hτ
      simp (disch := first | omega | (simp (disch := omega) only [hτ] <;> omega)) only [e_158_0, e_158_7, e_158_15, e_158_30, e_158_81, s_149, e_150_0, e_151_0, hτ, Option.bind_some, z_wid, or_true, true_or, z_up_fn, z_up_ni, z_up_eq, z_up_qi, z_rw_fn, z_rw_in, z_rw_out, if_pos, if_neg, ↓reduceIte]
      exact w_ret rfl
    · exact w_ref h 1
theorem o_door (d : Nat) (s : Int → Int) (L : Int) (σ : Nat → Int → Int) (h : zV s L σ) (x y : Int) : zOK s L (d + 9) 95 159 [some (.inl x), some (.inl y)] [some (.inl x), some (.inl y)] σ := by
  have hwD := zV_wD h
  have hD := (zV_D h).1
  have hD1 := (zV_D h).2.1
  have hD2 := (zV_D h).2.2.1
  have hwZ := zV_wZ h
  have hZ := (zV_Z h).1
  have hZ1 := (zV_Z h).2.1
  have hZ2 := (zV_Z h).2.2.1
  by_cases c1 : -1 ≤ x ∧ x < σ 4 3
  · by_cases c2 : -1 ≤ y ∧ y < σ 4 3
    · by_cases c3 : ¬ x = y
      · by_cases c4 : σ 6 3 < 12
        · apply zOK_mk2
          · simp (disch := first | omega | (simp (disch := omega) only [z_up_fn, z_up_ni, z_up_eq, z_up_qi, z_rw_fn] <;> omega)) only [e_95_0, e_95_5, e_95_26, e_95_13, e_95_37, e_95_56, e_95_45, e_95_59, s_139, e_86_0_4, e_131_0, e_132_0, s_addDoor, Option.bind_some, z_wid, or_true, true_or, z_up_fn, z_up_ni, z_up_eq, z_up_qi, z_rw_fn, z_rw_in, z_rw_out, if_pos, if_neg, ↓reduceIte]
            exact w_ret rfl
          · intro k hk
            simp (disch := omega) only [z_up_fn, z_rw_fn]
          · intro τ hτ
            simp (disch := first | omega | (simp (disch := omega) only [hτ] <;> omega)) only [e_159_0, e_159_11, e_159_38, e_159_25, e_159_53, e_159_94, s_149, e_150_0, e_151_0, hτ, Option.bind_some, z_wid, or_true, true_or, z_up_fn, z_up_ni, z_up_eq, z_up_qi, z_rw_fn, z_rw_in, z_rw_out, if_pos, if_neg, ↓reduceIte]
            exact w_ret (by omega)
          · obtain ⟨v_sc, v_st, v_mo, v_se, v_ik, v_ba, v_wP, v_wZ, v_wD, v_wS, v_wR, v_wU, v_wO, v_wG, v_wT, v_P, v_Q, v_Z, v_D, v_S, v_R, v_U, v_O, v_G, v_T, v_kl, v_kmo, v_kse, v_kP, v_kQ, v_kZ, v_kD, v_kS, v_kR, v_kU, v_kO, v_kG, v_kT, v_A, v_X0, v_X1, v_X2, v_X3, v_pc, v_pm, v_lc, v_lm⟩ := h
            have e := hD.symm
            refine ⟨v_sc, ?_, v_mo, v_se, v_ik, v_ba, v_wP, v_wZ, v_wD, v_wS, v_wR, v_wU, v_wO, v_wG, v_wT, v_P, v_Q, v_Z, ?_, v_S, v_R, v_U, v_O, v_G, v_T, ?_, v_kmo, v_kse, v_kP, v_kQ, v_kZ, ?_, v_kS, v_kR, v_kU, v_kO, v_kG, v_kT, v_A, v_X0, v_X1, v_X2, v_X3, v_pc, v_pm, v_lc, v_lm⟩
            · rfl
            · clear v_sc v_st v_mo v_se v_ik v_ba v_wP v_wZ v_wD v_wS v_wR v_wU v_wO v_wG v_wT v_Q v_R v_U v_O v_G v_T v_kl v_kmo v_kse v_kP v_kQ v_kZ v_kD v_kS v_kR v_kU v_kO v_kG v_kT v_A v_X0 v_X1 v_X2 v_X3 v_pc v_pm v_lc v_lm
              refine ⟨?_, ?_, ?_, fun p p0 p1 => ?_⟩
              · simp (disch := omega) only [true_and, and_true, true_or, or_true, z_up_fn, z_up_ni, z_up_eq, z_up_qi, z_rw_fn, z_rw_in, z_rw_out, if_pos, if_neg, ↓reduceIte]; omega
              · simp (disch := omega) only [true_and, and_true, true_or, or_true, z_up_fn, z_up_ni, z_up_eq, z_up_qi, z_rw_fn, z_rw_in, z_rw_out, if_pos, if_neg, ↓reduceIte]; omega
              · simp (disch := omega) only [true_and, and_true, true_or, or_true, z_up_fn, z_up_ni, z_up_eq, z_up_qi, z_rw_fn, z_rw_in, z_rw_out, if_pos, if_neg, ↓reduceIte]; omega
              · have p1 : p < σ 71 10 + 1 := p1
                by_cases c : p = σ 71 10
                · subst c
                  simp (disch := omega) only [true_and, and_true, true_or, or_true, z_up_fn, z_up_ni, z_up_eq, z_up_qi, z_rw_fn, z_rw_in, z_rw_out, if_pos, if_neg, ↓reduceIte, r_addDoor_0, r_addDoor_1]
                  omega
                · have q := v_D.2.2.2 p p0 (by omega)
                  simp (disch := omega) only [true_and, and_true, true_or, or_true, z_up_fn, z_up_ni, z_up_eq, z_up_qi, z_rw_fn, z_rw_in, z_rw_out, if_pos, if_neg, ↓reduceIte]
                  omega
            · intro k
              have w := v_kl k
              clear v_sc v_st v_mo v_se v_ik v_ba v_wP v_wZ v_wD v_wS v_wR v_wU v_wO v_wG v_wT v_P v_Q v_Z v_D v_S v_R v_U v_O v_G v_T v_kl v_kmo v_kse v_kP v_kQ v_kZ v_kD v_kS v_kR v_kU v_kO v_kG v_kT v_A v_X0 v_X1 v_X2 v_X3 v_pc v_pm v_lc v_lm
              unfold zKL at w ⊢
              simp (disch := omega) only [true_and, and_true, true_or, or_true, z_up_fn, z_up_ni, z_up_eq, z_up_qi, z_rw_fn, z_rw_in, z_rw_out, if_pos, if_neg, ↓reduceIte]
              omega
            · intro k
              have w := v_kl k
              unfold zKL at w
              have q := v_kD k
              clear v_sc v_st v_mo v_se v_ik v_ba v_wP v_wZ v_wD v_wS v_wR v_wU v_wO v_wG v_wT v_P v_Q v_Z v_D v_S v_R v_U v_O v_G v_T v_kl v_kmo v_kse v_kP v_kQ v_kZ v_kD v_kS v_kR v_kU v_kO v_kG v_kT v_A v_X0 v_X1 v_X2 v_X3 v_pc v_pm v_lc v_lm
              refine ⟨q.1, q.2.1, q.2.2.1, fun p p0 p1 => ?_⟩
              have p2 : p < σ 113 2 := p1
              have r := q.2.2.2 p p0 p2
              simp (disch := first | omega | (simp (disch := omega) only [z_up_fn, z_up_ni, z_up_eq, z_up_qi, z_rw_fn] <;> omega)) only [true_and, and_true, true_or, or_true, z_up_fn, z_up_ni, z_up_eq, z_up_qi, z_rw_fn, z_rw_in, z_rw_out, if_pos, if_neg, ↓reduceIte]
              exact r
        · apply zOK_mk2
          · simp (disch := first | omega | (simp (disch := omega) only [z_up_fn, z_up_ni, z_up_eq, z_up_qi, z_rw_fn] <;> omega)) only [e_95_0, e_95_5, e_95_26, e_95_13, e_95_37, e_95_56, e_95_45, e_95_59, s_139, e_86_0_4, e_131_0, e_132_0, s_addDoor, Option.bind_some, z_wid, or_true, true_or, z_up_fn, z_up_ni, z_up_eq, z_up_qi, z_rw_fn, z_rw_in, z_rw_out, if_pos, if_neg, ↓reduceIte]
            exact w_ret rfl
          · intro k hk
            simp (disch := omega) only [z_up_fn, z_rw_fn]
          · intro τ hτ
            simp (disch := first | omega | (simp (disch := omega) only [hτ] <;> omega)) only [e_159_0, e_159_11, e_159_38, e_159_25, e_159_53, e_159_94, s_149, e_150_0, e_151_0, hτ, Option.bind_some, z_wid, or_true, true_or, z_up_fn, z_up_ni, z_up_eq, z_up_qi, z_rw_fn, z_rw_in, z_rw_out, if_pos, if_neg, ↓reduceIte]
            exact w_ret rfl
          · exact w_ref h 2
      · apply zOK_mk2
        · simp (disch := first | omega | (simp (disch := omega) only [z_up_fn, z_up_ni, z_up_eq, z_up_qi, z_rw_fn] <;> omega)) only [e_95_0, e_95_5, e_95_26, e_95_13, e_95_37, e_95_56, e_95_45, e_95_59, s_139, e_86_0_4, e_131_0, e_132_0, s_addDoor, Option.bind_some, z_wid, or_true, true_or, z_up_fn, z_up_ni, z_up_eq, z_up_qi, z_rw_fn, z_rw_in, z_rw_out, if_pos, if_neg, ↓reduceIte]
          exact w_ret rfl
        · intro k hk
          simp (disch := omega) only [z_up_fn, z_rw_fn]
        · intro τ hτ
          simp (disch := first | omega | (simp (disch := omega) only [hτ] <;> omega)) only [e_159_0, e_159_11, e_159_38, e_159_25, e_159_53, e_159_94, s_149, e_150_0, e_151_0, hτ, Option.bind_some, z_wid, or_true, true_or, z_up_fn, z_up_ni, z_up_eq, z_up_qi, z_rw_fn, z_rw_in, z_rw_out, if_pos, if_neg, ↓reduceIte]
          exact w_ret rfl
        · exact w_ref h 1
    · apply zOK_mk2
      · simp (disch := first | omega | (simp (disch := omega) only [z_up_fn, z_up_ni, z_up_eq, z_up_qi, z_rw_fn] <;> omega)) only [e_95_0, e_95_5, e_95_26, e_95_13, e_95_37, e_95_56, e_95_45, e_95_59, s_139, e_86_0_4, e_131_0, e_132_0, s_addDoor, Option.bind_some, z_wid, or_true, true_or, z_up_fn, z_up_ni, z_up_eq, z_up_qi, z_rw_fn, z_rw_in, z_rw_out, if_pos, if_neg, ↓reduceIte]
        exact w_ret rfl
      · intro k hk
        simp (disch := omega) only [z_up_fn, z_rw_fn]
      · intro τ hτ
        simp (disch := first | omega | (simp (disch := omega) only [hτ] <;> omega)) only [e_159_0, e_159_11, e_159_38, e_159_25, e_159_53, e_159_94, s_149, e_150_0, e_151_0, hτ, Option.bind_some, z_wid, or_true, true_or, z_up_fn, z_up_ni, z_up_eq, z_up_qi, z_rw_fn, z_rw_in, z_rw_out, if_pos, if_neg, ↓reduceIte]
        exact w_ret rfl
      · exact w_ref h 1
  · apply zOK_mk2
    · simp (disch := first | omega | (simp (disch := omega) only [z_up_fn, z_up_ni, z_up_eq, z_up_qi, z_rw_fn] <;> omega)) only [e_95_0, e_95_5, e_95_26, e_95_13, e_95_37, e_95_56, e_95_45, e_95_59, s_139, e_86_0_4, e_131_0, e_132_0, s_addDoor, Option.bind_some, z_wid, or_true, true_or, z_up_fn, z_up_ni, z_up_eq, z_up_qi, z_rw_fn, z_rw_in, z_rw_out, if_pos, if_neg, ↓reduceIte]
      exact w_ret rfl
    · intro k hk
      simp (disch := omega) only [z_up_fn, z_rw_fn]
    · intro τ hτ
      simp (disch := first | omega | (simp (disch := omega) only [hτ] <;> omega)) only [e_159_0, e_159_11, e_159_38, e_159_25, e_159_53, e_159_94, s_149, e_150_0, e_151_0, hτ, Option.bind_some, z_wid, or_true, true_or, z_up_fn, z_up_ni, z_up_eq, z_up_qi, z_rw_fn, z_rw_in, z_rw_out, if_pos, if_neg, ↓reduceIte]
      exact w_ret rfl
    · exact w_ref h 1
theorem o_lose (d : Nat) (s : Int → Int) (L : Int) (σ : Nat → Int → Int) (h : zV s L σ) (x y : Int) : zOK s L (d + 9) 97 164 [some (.inl x), some (.inl y)] [some (.inl x), some (.inl y)] σ := by
  have hwS := zV_wS h
  have hS := (zV_S h).1
  have hS1 := (zV_S h).2.1
  have hS2 := (zV_S h).2.2.1
  have hM := zV_mo h
  by_cases c1 : 0 ≤ x ∧ x < σ 8 3
  · have q := (zV_S h).2.2.2 x c1.1 (by omega)
    by_cases c2 : 0 ≤ y ∧ y ≤ 28799
    · by_cases c3 : σ 85 x = -1
      · apply zOK_mk2
        · simp (disch := first | omega | (simp (disch := omega) only [z_up_fn, z_up_ni, z_up_eq, z_up_qi, z_rw_fn] <;> omega)) only [e_97_0, e_97_11, e_97_26, e_97_18, e_97_39, e_97_62, e_97_48, e_97_82, e_97_87, s_has_8, s_get_8, s_set_8, s_135, e_131_0, e_132_0, Option.bind_some, z_wid, or_true, true_or, z_up_fn, z_up_ni, z_up_eq, z_up_qi, z_rw_fn, z_rw_in, z_rw_out, if_pos, if_neg, ↓reduceIte]
          exact w_ret rfl
        · intro k hk
          simp (disch := omega) only [z_up_fn, z_rw_fn]
        · intro τ hτ
          simp (disch := first | omega | (simp (disch := omega) only [hτ] <;> omega)) only [e_164_0, e_164_5, e_164_20, e_164_12, e_164_59, e_164_36, s_155, s_156, e_150_0, e_151_0, hτ, Option.bind_some, z_wid, or_true, true_or, z_up_fn, z_up_ni, z_up_eq, z_up_qi, z_rw_fn, z_rw_in, z_rw_out, if_pos, if_neg, ↓reduceIte]
          exact w_ret rfl
        · obtain ⟨v_sc, v_st, v_mo, v_se, v_ik, v_ba, v_wP, v_wZ, v_wD, v_wS, v_wR, v_wU, v_wO, v_wG, v_wT, v_P, v_Q, v_Z, v_D, v_S, v_R, v_U, v_O, v_G, v_T, v_kl, v_kmo, v_kse, v_kP, v_kQ, v_kZ, v_kD, v_kS, v_kR, v_kU, v_kO, v_kG, v_kT, v_A, v_X0, v_X1, v_X2, v_X3, v_pc, v_pm, v_lc, v_lm⟩ := h
          refine ⟨v_sc, ?_, v_mo, v_se, v_ik, v_ba, v_wP, v_wZ, v_wD, v_wS, v_wR, v_wU, v_wO, v_wG, v_wT, v_P, v_Q, v_Z, v_D, ?_, v_R, v_U, v_O, v_G, v_T, v_kl, v_kmo, v_kse, v_kP, v_kQ, v_kZ, v_kD, v_kS, v_kR, v_kU, v_kO, v_kG, v_kT, v_A, v_X0, v_X1, v_X2, v_X3, v_pc, v_pm, v_lc, v_lm⟩
          · rfl
          · refine ⟨v_S.1, v_S.2.1, v_S.2.2.1, fun p p0 p1 => ?_⟩
            have p1 : p < σ 71 13 := p1
            by_cases c : p = x
            · subst c
              simp (disch := omega) only [true_and, and_true, true_or, or_true, z_up_fn, z_up_ni, z_up_eq, z_up_qi, z_rw_fn, z_rw_in, z_rw_out, if_pos, if_neg, ↓reduceIte]
              omega
            · have q := v_S.2.2.2 p p0 p1
              simp (disch := omega) only [true_and, and_true, true_or, or_true, z_up_fn, z_up_ni, z_up_eq, z_up_qi, z_rw_fn, z_rw_in, z_rw_out, if_pos, if_neg, ↓reduceIte]
              exact q
      · apply zOK_mk2
        · simp (disch := first | omega | (simp (disch := omega) only [z_up_fn, z_up_ni, z_up_eq, z_up_qi, z_rw_fn] <;> omega)) only [e_97_0, e_97_11, e_97_26, e_97_18, e_97_39, e_97_62, e_97_48, e_97_82, e_97_87, s_has_8, s_get_8, s_set_8, s_135, e_131_0, e_132_0, Option.bind_some, z_wid, or_true, true_or, z_up_fn, z_up_ni, z_up_eq, z_up_qi, z_rw_fn, z_rw_in, z_rw_out, if_pos, if_neg, ↓reduceIte]
          exact w_ret rfl
        · intro k hk
          simp (disch := omega) only [z_up_fn, z_rw_fn]
        · intro τ hτ
          simp (disch := first | omega | (simp (disch := omega) only [hτ] <;> omega)) only [e_164_0, e_164_5, e_164_20, e_164_12, e_164_59, e_164_36, s_155, s_156, e_150_0, e_151_0, hτ, Option.bind_some, z_wid, or_true, true_or, z_up_fn, z_up_ni, z_up_eq, z_up_qi, z_rw_fn, z_rw_in, z_rw_out, if_pos, if_neg, ↓reduceIte]
          exact w_ret rfl
        · exact w_ref h 3
    · apply zOK_mk2
      · simp (disch := first | omega | (simp (disch := omega) only [z_up_fn, z_up_ni, z_up_eq, z_up_qi, z_rw_fn] <;> omega)) only [e_97_0, e_97_11, e_97_26, e_97_18, e_97_39, e_97_62, e_97_48, e_97_82, e_97_87, s_has_8, s_get_8, s_set_8, s_135, e_131_0, e_132_0, Option.bind_some, z_wid, or_true, true_or, z_up_fn, z_up_ni, z_up_eq, z_up_qi, z_rw_fn, z_rw_in, z_rw_out, if_pos, if_neg, ↓reduceIte]
        exact w_ret rfl
      · intro k hk
        simp (disch := omega) only [z_up_fn, z_rw_fn]
      · intro τ hτ
        simp (disch := first | omega | (simp (disch := omega) only [hτ] <;> omega)) only [e_164_0, e_164_5, e_164_20, e_164_12, e_164_59, e_164_36, s_155, s_156, e_150_0, e_151_0, hτ, Option.bind_some, z_wid, or_true, true_or, z_up_fn, z_up_ni, z_up_eq, z_up_qi, z_rw_fn, z_rw_in, z_rw_out, if_pos, if_neg, ↓reduceIte]
        exact w_ret rfl
      · exact w_ref h 1
  · apply zOK_mk2
    · simp (disch := first | omega | (simp (disch := omega) only [z_up_fn, z_up_ni, z_up_eq, z_up_qi, z_rw_fn] <;> omega)) only [e_97_0, e_97_11, e_97_26, e_97_18, e_97_39, e_97_62, e_97_48, e_97_82, e_97_87, s_has_8, s_get_8, s_set_8, s_135, e_131_0, e_132_0, Option.bind_some, z_wid, or_true, true_or, z_up_fn, z_up_ni, z_up_eq, z_up_qi, z_rw_fn, z_rw_in, z_rw_out, if_pos, if_neg, ↓reduceIte]
      exact w_ret rfl
    · intro k hk
      simp (disch := omega) only [z_up_fn, z_rw_fn]
    · intro τ hτ
      simp (disch := first | omega | (simp (disch := omega) only [hτ] <;> omega)) only [e_164_0, e_164_5, e_164_20, e_164_12, e_164_59, e_164_36, s_155, s_156, e_150_0, e_151_0, hτ, Option.bind_some, z_wid, or_true, true_or, z_up_fn, z_up_ni, z_up_eq, z_up_qi, z_rw_fn, z_rw_in, z_rw_out, if_pos, if_neg, ↓reduceIte]
      exact w_ret rfl
    · exact w_ref h 1
theorem o_end (d : Nat) (s : Int → Int) (L : Int) (σ : Nat → Int → Int) (h : zV s L σ) (x : Int) : zOK s L (d + 9) 99 166 [some (.inl x)] [some (.inl x)] σ := by
  have hwR := zV_wR h
  have hR := (zV_R h).1
  have hR1 := (zV_R h).2.1
  have hR2 := (zV_R h).2.2.1
  have hM := zV_mo h
  by_cases c1 : 0 ≤ x ∧ x < σ 10 3
  · have q := (zV_R h).2.2.2 x c1.1 (by omega)
    by_cases c2 : σ 93 x = -1
    · apply zOK_mk2
      · simp (disch := first | omega | (simp (disch := omega) only [z_up_fn, z_up_ni, z_up_eq, z_up_qi, z_rw_fn] <;> omega)) only [e_99_0, e_99_11, e_99_19, e_99_33, e_99_63, e_99_42, e_99_68, s_has_10, s_get_10, s_set_10, e_131_0, e_132_0, Option.bind_some, z_wid, or_true, true_or, z_up_fn, z_up_ni, z_up_eq, z_up_qi, z_rw_fn, z_rw_in, z_rw_out, if_pos, if_neg, ↓reduceIte]
        exact w_ret rfl
      · intro k hk
        simp (disch := omega) only [z_up_fn, z_rw_fn]
      · intro τ hτ
        simp (disch := first | omega | (simp (disch := omega) only [hτ] <;> omega)) only [e_166_0, e_166_11, e_166_19, e_166_51, e_166_35, s_149, e_150_0, e_151_0, hτ, Option.bind_some, z_wid, or_true, true_or, z_up_fn, z_up_ni, z_up_eq, z_up_qi, z_rw_fn, z_rw_in, z_rw_out, if_pos, if_neg, ↓reduceIte]
        exact w_ret rfl
      · obtain ⟨v_sc, v_st, v_mo, v_se, v_ik, v_ba, v_wP, v_wZ, v_wD, v_wS, v_wR, v_wU, v_wO, v_wG, v_wT, v_P, v_Q, v_Z, v_D, v_S, v_R, v_U, v_O, v_G, v_T, v_kl, v_kmo, v_kse, v_kP, v_kQ, v_kZ, v_kD, v_kS, v_kR, v_kU, v_kO, v_kG, v_kT, v_A, v_X0, v_X1, v_X2, v_X3, v_pc, v_pm, v_lc, v_lm⟩ := h
        refine ⟨v_sc, ?_, v_mo, v_se, v_ik, v_ba, v_wP, v_wZ, v_wD, v_wS, v_wR, v_wU, v_wO, v_wG, v_wT, v_P, v_Q, v_Z, v_D, v_S, ?_, v_U, v_O, v_G, v_T, v_kl, v_kmo, v_kse, v_kP, v_kQ, v_kZ, v_kD, v_kS, v_kR, v_kU, v_kO, v_kG, v_kT, v_A, v_X0, v_X1, v_X2, v_X3, v_pc, v_pm, v_lc, v_lm⟩
        · rfl
        · refine ⟨v_R.1, v_R.2.1, v_R.2.2.1, fun p p0 p1 => ?_⟩
          have p1 : p < σ 71 21 := p1
          by_cases c : p = x
          · subst c
            simp (disch := omega) only [true_and, and_true, true_or, or_true, z_up_fn, z_up_ni, z_up_eq, z_up_qi, z_rw_fn, z_rw_in, z_rw_out, if_pos, if_neg, ↓reduceIte]
            omega
          · have q := v_R.2.2.2 p p0 p1
            simp (disch := omega) only [true_and, and_true, true_or, or_true, z_up_fn, z_up_ni, z_up_eq, z_up_qi, z_rw_fn, z_rw_in, z_rw_out, if_pos, if_neg, ↓reduceIte]
            exact q
    · apply zOK_mk2
      · simp (disch := first | omega | (simp (disch := omega) only [z_up_fn, z_up_ni, z_up_eq, z_up_qi, z_rw_fn] <;> omega)) only [e_99_0, e_99_11, e_99_19, e_99_33, e_99_63, e_99_42, e_99_68, s_has_10, s_get_10, s_set_10, e_131_0, e_132_0, Option.bind_some, z_wid, or_true, true_or, z_up_fn, z_up_ni, z_up_eq, z_up_qi, z_rw_fn, z_rw_in, z_rw_out, if_pos, if_neg, ↓reduceIte]
        exact w_ret rfl
      · intro k hk
        simp (disch := omega) only [z_up_fn, z_rw_fn]
      · intro τ hτ
        simp (disch := first | omega | (simp (disch := omega) only [hτ] <;> omega)) only [e_166_0, e_166_11, e_166_19, e_166_51, e_166_35, s_149, e_150_0, e_151_0, hτ, Option.bind_some, z_wid, or_true, true_or, z_up_fn, z_up_ni, z_up_eq, z_up_qi, z_rw_fn, z_rw_in, z_rw_out, if_pos, if_neg, ↓reduceIte]
        exact w_ret rfl
      · exact w_ref h 3
  · apply zOK_mk2
    · simp (disch := first | omega | (simp (disch := omega) only [z_up_fn, z_up_ni, z_up_eq, z_up_qi, z_rw_fn] <;> omega)) only [e_99_0, e_99_11, e_99_19, e_99_33, e_99_63, e_99_42, e_99_68, s_has_10, s_get_10, s_set_10, e_131_0, e_132_0, Option.bind_some, z_wid, or_true, true_or, z_up_fn, z_up_ni, z_up_eq, z_up_qi, z_rw_fn, z_rw_in, z_rw_out, if_pos, if_neg, ↓reduceIte]
      exact w_ret rfl
    · intro k hk
      simp (disch := omega) only [z_up_fn, z_rw_fn]
    · intro τ hτ
      simp (disch := first | omega | (simp (disch := omega) only [hτ] <;> omega)) only [e_166_0, e_166_11, e_166_19, e_166_51, e_166_35, s_149, e_150_0, e_151_0, hτ, Option.bind_some, z_wid, or_true, true_or, z_up_fn, z_up_ni, z_up_eq, z_up_qi, z_rw_fn, z_rw_in, z_rw_out, if_pos, if_neg, ↓reduceIte]
      exact w_ret rfl
    · exact w_ref h 1
theorem o_clock (d : Nat) (s : Int → Int) (L : Int) (σ : Nat → Int → Int) (h : zV s L σ) (x : Int) : zOK s L (d + 9) 100 167 [some (.inl x)] [some (.inl x)] σ := by
  have hM := zV_mo h
  by_cases c1 : 0 ≤ x ∧ x ≤ 5000
  · by_cases c2 : σ 71 1 + x ≤ 28799
    · apply zOK_mk2
      · simp (disch := first | omega | (simp (disch := omega) only [z_up_fn, z_up_ni, z_up_eq, z_up_qi, z_rw_fn] <;> omega)) only [e_100_0, e_100_8, e_100_16, e_100_29, e_100_37, e_100_62, s_133, s_135, e_131_0, e_132_0, Option.bind_some, z_wid, or_true, true_or, z_up_fn, z_up_ni, z_up_eq, z_up_qi, z_rw_fn, z_rw_in, z_rw_out, if_pos, if_neg, ↓reduceIte]
        exact w_ret rfl
      · intro k hk
        simp (disch := omega) only [z_up_fn, z_rw_fn]
      · intro τ hτ
        simp (disch := first | omega | (simp (disch := omega) only [hτ] <;> omega)) only [e_167_0, e_167_8, e_167_16, e_167_34, e_167_53, s_149, e_150_0, e_151_0, hτ, Option.bind_some, z_wid, or_true, true_or, z_up_fn, z_up_ni, z_up_eq, z_up_qi, z_rw_fn, z_rw_in, z_rw_out, if_pos, if_neg, ↓reduceIte]
        exact w_ret (by omega)
      · obtain ⟨v_sc, v_st, v_mo, v_se, v_ik, v_ba, v_wP, v_wZ, v_wD, v_wS, v_wR, v_wU, v_wO, v_wG, v_wT, v_P, v_Q, v_Z, v_D, v_S, v_R, v_U, v_O, v_G, v_T, v_kl, v_kmo, v_kse, v_kP, v_kQ, v_kZ, v_kD, v_kS, v_kR, v_kU, v_kO, v_kG, v_kT, v_A, v_X0, v_X1, v_X2, v_X3, v_pc, v_pm, v_lc, v_lm⟩ := h
        refine ⟨v_sc, ?_, ?_, v_se, v_ik, v_ba, v_wP, v_wZ, v_wD, v_wS, v_wR, v_wU, v_wO, v_wG, v_wT, v_P, v_Q, v_Z, v_D, v_S, v_R, v_U, v_O, v_G, v_T, v_kl, v_kmo, v_kse, v_kP, v_kQ, v_kZ, v_kD, v_kS, v_kR, v_kU, v_kO, v_kG, v_kT, v_A, v_X0, v_X1, v_X2, v_X3, v_pc, v_pm, v_lc, v_lm⟩
        · rfl
        · simp (disch := omega) only [true_and, and_true, true_or, or_true, z_up_fn, z_up_ni, z_up_eq, z_up_qi, z_rw_fn, z_rw_in, z_rw_out, if_pos, if_neg, ↓reduceIte]
          omega
    · apply zOK_mk2
      · simp (disch := first | omega | (simp (disch := omega) only [z_up_fn, z_up_ni, z_up_eq, z_up_qi, z_rw_fn] <;> omega)) only [e_100_0, e_100_8, e_100_16, e_100_29, e_100_37, e_100_62, s_133, s_135, e_131_0, e_132_0, Option.bind_some, z_wid, or_true, true_or, z_up_fn, z_up_ni, z_up_eq, z_up_qi, z_rw_fn, z_rw_in, z_rw_out, if_pos, if_neg, ↓reduceIte]
        exact w_ret rfl
      · intro k hk
        simp (disch := omega) only [z_up_fn, z_rw_fn]
      · intro τ hτ
        simp (disch := first | omega | (simp (disch := omega) only [hτ] <;> omega)) only [e_167_0, e_167_8, e_167_16, e_167_34, e_167_53, s_149, e_150_0, e_151_0, hτ, Option.bind_some, z_wid, or_true, true_or, z_up_fn, z_up_ni, z_up_eq, z_up_qi, z_rw_fn, z_rw_in, z_rw_out, if_pos, if_neg, ↓reduceIte]
        exact w_ret rfl
      · exact w_ref h 2
  · apply zOK_mk2
    · simp (disch := first | omega | (simp (disch := omega) only [z_up_fn, z_up_ni, z_up_eq, z_up_qi, z_rw_fn] <;> omega)) only [e_100_0, e_100_8, e_100_16, e_100_29, e_100_37, e_100_62, s_133, s_135, e_131_0, e_132_0, Option.bind_some, z_wid, or_true, true_or, z_up_fn, z_up_ni, z_up_eq, z_up_qi, z_rw_fn, z_rw_in, z_rw_out, if_pos, if_neg, ↓reduceIte]
      exact w_ret rfl
    · intro k hk
      simp (disch := omega) only [z_up_fn, z_rw_fn]
    · intro τ hτ
      simp (disch := first | omega | (simp (disch := omega) only [hτ] <;> omega)) only [e_167_0, e_167_8, e_167_16, e_167_34, e_167_53, s_149, e_150_0, e_151_0, hτ, Option.bind_some, z_wid, or_true, true_or, z_up_fn, z_up_ni, z_up_eq, z_up_qi, z_rw_fn, z_rw_in, z_rw_out, if_pos, if_neg, ↓reduceIte]
      exact w_ret rfl
    · exact w_ref h 1
theorem o_seats (d : Nat) (s : Int → Int) (L : Int) (σ : Nat → Int → Int) (h : zV s L σ) (x : Int) : zOK s L (d + 9) 103 179 [some (.inl x), none] [some (.inl x), none] σ := by
  have hE := zV_se h
  by_cases c1 : 1 ≤ x ∧ x ≤ 12
  · apply zOK_mk2
    · simp (disch := first | omega | (simp (disch := omega) only [z_up_fn, z_up_ni, z_up_eq, z_up_qi, z_rw_fn] <;> omega)) only [e_103_0, e_103_7, e_103_15, e_103_37, s_133, e_131_0, e_132_0, Option.bind_some, z_wid, or_true, true_or, z_up_fn, z_up_ni, z_up_eq, z_up_qi, z_rw_fn, z_rw_in, z_rw_out, if_pos, if_neg, ↓reduceIte]
      exact w_ret rfl
    · intro k hk
      simp (disch := omega) only [z_up_fn, z_rw_fn]
    · intro τ hτ
      simp (disch := first | omega | (simp (disch := omega) only [hτ] <;> omega)) only [e_179_0, e_179_7, e_179_15, e_179_31, s_149, e_150_0, e_151_0, hτ, Option.bind_some, z_wid, or_true, true_or, z_up_fn, z_up_ni, z_up_eq, z_up_qi, z_rw_fn, z_rw_in, z_rw_out, if_pos, if_neg, ↓reduceIte]
      exact w_ret (by omega)
    · obtain ⟨v_sc, v_st, v_mo, v_se, v_ik, v_ba, v_wP, v_wZ, v_wD, v_wS, v_wR, v_wU, v_wO, v_wG, v_wT, v_P, v_Q, v_Z, v_D, v_S, v_R, v_U, v_O, v_G, v_T, v_kl, v_kmo, v_kse, v_kP, v_kQ, v_kZ, v_kD, v_kS, v_kR, v_kU, v_kO, v_kG, v_kT, v_A, v_X0, v_X1, v_X2, v_X3, v_pc, v_pm, v_lc, v_lm⟩ := h
      refine ⟨v_sc, ?_, v_mo, ?_, v_ik, v_ba, v_wP, v_wZ, v_wD, v_wS, v_wR, v_wU, v_wO, v_wG, v_wT, v_P, v_Q, v_Z, v_D, v_S, v_R, v_U, v_O, v_G, v_T, v_kl, v_kmo, v_kse, v_kP, v_kQ, v_kZ, v_kD, v_kS, v_kR, v_kU, v_kO, v_kG, v_kT, v_A, v_X0, v_X1, v_X2, v_X3, v_pc, v_pm, v_lc, v_lm⟩
      · rfl
      · simp (disch := omega) only [true_and, and_true, true_or, or_true, z_up_fn, z_up_ni, z_up_eq, z_up_qi, z_rw_fn, z_rw_in, z_rw_out, if_pos, if_neg, ↓reduceIte]
        omega
  · apply zOK_mk2
    · simp (disch := first | omega | (simp (disch := omega) only [z_up_fn, z_up_ni, z_up_eq, z_up_qi, z_rw_fn] <;> omega)) only [e_103_0, e_103_7, e_103_15, e_103_37, s_133, e_131_0, e_132_0, Option.bind_some, z_wid, or_true, true_or, z_up_fn, z_up_ni, z_up_eq, z_up_qi, z_rw_fn, z_rw_in, z_rw_out, if_pos, if_neg, ↓reduceIte]
      exact w_ret rfl
    · intro k hk
      simp (disch := omega) only [z_up_fn, z_rw_fn]
    · intro τ hτ
      simp (disch := first | omega | (simp (disch := omega) only [hτ] <;> omega)) only [e_179_0, e_179_7, e_179_15, e_179_31, s_149, e_150_0, e_151_0, hτ, Option.bind_some, z_wid, or_true, true_or, z_up_fn, z_up_ni, z_up_eq, z_up_qi, z_rw_fn, z_rw_in, z_rw_out, if_pos, if_neg, ↓reduceIte]
      exact w_ret rfl
    · exact w_ref h 1
