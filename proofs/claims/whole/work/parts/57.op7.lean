theorem z_cnt_set {σ : Nat → Int → Int} {k : Nat} {i v w : Int} (h0 : 0 ≤ i) : ∀ {n : Nat}, i < n → z_cnt (z_up σ k i v k) w n = z_cnt (σ k) w n - (if σ k i = w then 1 else 0) + (if v = w then 1 else 0)
  | 0, h1 => by omega
  | n + 1, h1 => by
    unfold z_cnt
    by_cases c : i = n
    · subst c
      rw [z_cnt_up (by omega), z_up_eq]
      omega
    · rw [z_cnt_set h0 (n := n) (by omega), z_up_ni (by omega)]
      omega
theorem w_cnt_set {σ : Nat → Int → Int} {k : Nat} {i v w : Int} {n : Nat} (h0 : 0 ≤ i) (h1 : i < n) : z_cnt (z_up σ k i v k) w n = z_cnt (σ k) w n - (if σ k i = w then 1 else 0) + (if v = w then 1 else 0) := z_cnt_set h0 h1
theorem s_set_4n (d : Nat) (σ : Nat → Int → Int) (x2 x3 : Int) : zE d 89 0 [some (.inr 8), some (.inl (-1)), some (.inl x2), some (.inl x3)] [] (zS, σ) = some (.inl 0, (zS, σ)) := by
  rw [e_89_0_3]
  rw [if_pos (by decide)]
theorem w_not_rng (σ : Nat → Int → Int) (v u p : Int) : 0 ≤ w_not σ v u p ∧ w_not σ v u p ≤ 8 := by
  have a : 0 ≤ w_shut σ p u (σ 71 1) (σ 71 1) ∧ w_shut σ p u (σ 71 1) (σ 71 1) ≤ 5 := by
    unfold w_shut
    repeat' split
    all_goals omega
  unfold w_not
  repeat' split
  all_goals omega
theorem o_go (d : Nat) (s : Int → Int) (L : Int) (σ : Nat → Int → Int) (h : zV s L σ) (v u p : Int) : zOK s L (d + 9) 101 177 [some (.inl v), some (.inl u), some (.inl p), none] [some (.inl v), some (.inl u), some (.inl p), none, none, none] σ := by
  have hwP := zV_wP h
  have hP := (zV_P h).1
  have hP1 := (zV_P h).2.1
  have hP2 := (zV_P h).2.2.1
  have hwZ := zV_wZ h
  have hZ := (zV_Z h).1
  have hZ1 := (zV_Z h).2.1
  have hZ2 := (zV_Z h).2.2.1
  have hwD := zV_wD h
  have hD := (zV_D h).1
  have hD1 := (zV_D h).2.1
  have hD2 := (zV_D h).2.2.1
  have hwS := zV_wS h
  have hS := (zV_S h).1
  have hS1 := (zV_S h).2.1
  have hS2 := (zV_S h).2.2.1
  by_cases c1 : 0 ≤ v ∧ v < σ 2 3
  · by_cases c2 : 0 ≤ u ∧ u < σ 6 3
    · by_cases c3 : 0 ≤ p ∧ p < σ 8 3
      · have g1 := s_33 (d + 1) h v u p (by omega) (by omega) (by omega)
        have g2 := fun τ hτ => s_174 (d + 1) (τ := τ) h hτ v u p (by omega) (by omega) (by omega)
        have rg := w_not_rng σ v u p
        by_cases c4 : w_not σ v u p = 0
        · obtain ⟨n0, n1, n2, n3⟩ := (zV_P h).2.2.2 v (by omega) (by omega)
          obtain ⟨u0, u1, u2⟩ := (zV_D h).2.2.2 u (by omega) (by omega)
          have nf : σ 73 v = σ 78 u := by
            by_cases e : σ 73 v = σ 78 u
            · exact e
            · exfalso
              unfold w_not at c4
              rw [if_pos e] at c4
              repeat' split at c4
              all_goals omega
          by_cases c5 : σ 73 v = -1
          · by_cases c6 : σ 79 u = -1
            · exfalso
              omega
            · have n5 : σ 78 u = -1 := by omega
              obtain ⟨t0, t1, t2, t3, t4⟩ := (zV_Z h).2.2.2 (σ 79 u) (by omega) (by omega)
              have tr := z_cnt_rng (σ 73) (σ 79 u) (σ 71 2).toNat
              apply zOK_mk2
              · simp (disch := first | omega | (simp (disch := omega) only [z_up_fn, z_up_ni, z_up_eq, z_up_qi, z_rw_fn] <;> omega) | fail) only [e_101_0, e_101_7, e_101_20, e_101_45, e_101_35, e_101_52, e_101_55, e_115_0, e_115_11, e_115_25, e_115_39, e_115_54, s_has_2, s_has_6, s_has_8, e_131_0, e_132_0, g1, c4, e_35_0, e_35_9, e_35_19, e_35_31, e_35_41, e_35_52, e_35_63, e_35_73, e_35_84, e_36_0_0, e_36_9_0, e_36_14, e_36_0_1, e_36_9_1, s_get_6, s_get_4, s_get_2, s_set_4, s_set_4n, s_set_2, e_110_0, e_110_11, e_110_20, e_110_37, s_133, u0, u1, n1, n2, n5, t1, t2, c5, Option.bind_some, Int.add_zero, z_wid, or_true, true_or, z_up_fn, z_up_ni, z_up_eq, z_up_qi, z_rw_fn, z_rw_in, z_rw_out, if_pos, if_neg, ↓reduceIte]
                exact w_ret rfl
              · intro k hk
                simp (disch := omega) only [z_up_fn, z_rw_fn]
              · intro τ hτ
                simp (disch := first | omega | (simp (disch := omega) only [hτ] <;> omega) | fail) only [e_177_0, e_177_7, e_177_108, e_177_33, e_177_111, e_175_0, e_175_5, e_175_13, e_175_21, e_175_31, s_152, s_154, s_155, e_150_0, e_151_0, e_176_0, g2 τ hτ, c4, hτ, t1, t2, c5, Option.bind_some, Int.add_zero, z_wid, or_true, true_or, z_up_fn, z_up_ni, z_up_eq, z_up_qi, z_rw_fn, z_rw_in, z_rw_out, if_pos, if_neg, ↓reduceIte]
                exact w_ret rfl
              · obtain ⟨v_sc, v_st, v_mo, v_se, v_ik, v_ba, v_wP, v_wZ, v_wD, v_wS, v_wR, v_wU, v_wO, v_wG, v_wT, v_P, v_Q, v_Z, v_D, v_S, v_R, v_U, v_O, v_G, v_T, v_kl, v_kmo, v_kse, v_kP, v_kQ, v_kZ, v_kD, v_kS, v_kR, v_kU, v_kO, v_kG, v_kT, v_A, v_X0, v_X1, v_X2, v_X3, v_pc, v_pm, v_lc, v_lm⟩ := h
                refine ⟨v_sc, ?_, v_mo, v_se, v_ik, v_ba, v_wP, v_wZ, v_wD, v_wS, v_wR, v_wU, v_wO, v_wG, v_wT, ?_, ?_, ?_, v_D, v_S, v_R, v_U, v_O, v_G, v_T, v_kl, v_kmo, v_kse, v_kP, v_kQ, v_kZ, v_kD, v_kS, v_kR, v_kU, v_kO, v_kG, v_kT, v_A, v_X0, v_X1, v_X2, v_X3, v_pc, v_pm, v_lc, v_lm⟩
                · rfl
                · clear v_sc v_st v_mo v_se v_ik v_ba v_wP v_wZ v_wD v_wS v_wR v_wU v_wO v_wG v_wT v_Q v_D v_S v_R v_U v_O v_G v_T v_kl v_kmo v_kse v_kP v_kQ v_kZ v_kD v_kS v_kR v_kU v_kO v_kG v_kT v_A v_X0 v_X1 v_X2 v_X3 v_pc v_pm v_lc v_lm
                  refine ⟨v_P.1, v_P.2.1, v_P.2.2.1, fun x x0 x1 => ?_⟩
                  have x1 : x < σ 71 2 := x1
                  have q := v_P.2.2.2 x x0 x1
                  by_cases c : x = v
                  · subst c
                    simp (disch := omega) only [true_and, and_true, true_or, or_true, Int.add_zero, z_up_fn, z_up_ni, z_up_eq, z_up_qi, z_rw_fn, z_rw_in, z_rw_out, if_pos, if_neg, ↓reduceIte]
                    omega
                  · simp (disch := omega) only [true_and, and_true, true_or, or_true, Int.add_zero, z_up_fn, z_up_ni, z_up_eq, z_up_qi, z_rw_fn, z_rw_in, z_rw_out, if_pos, if_neg, ↓reduceIte]
                    exact q
                · clear v_sc v_st v_mo v_se v_ik v_ba v_wP v_wZ v_wD v_wS v_wR v_wU v_wO v_wG v_wT v_Z v_D v_S v_R v_U v_O v_G v_T v_kl v_kmo v_kse v_kP v_kQ v_kZ v_kD v_kS v_kR v_kU v_kO v_kG v_kT v_A v_X0 v_X1 v_X2 v_X3 v_pc v_pm v_lc v_lm
                  intro x x0 x1
                  have x1 : x < σ 71 2 := x1
                  have q := v_Q x x0 x1
                  simp (disch := omega) only [true_and, and_true, true_or, or_true, Int.add_zero, z_up_fn, z_up_ni, z_up_eq, z_up_qi, z_rw_fn, z_rw_in, z_rw_out, if_pos, if_neg, ↓reduceIte]
                  exact q
                · clear v_sc v_st v_mo v_se v_ik v_ba v_wP v_wZ v_wD v_wS v_wR v_wU v_wO v_wG v_wT v_Q v_D v_S v_R v_U v_O v_G v_T v_kl v_kmo v_kse v_kP v_kQ v_kZ v_kD v_kS v_kR v_kU v_kO v_kG v_kT v_A v_X0 v_X1 v_X2 v_X3 v_pc v_pm v_lc v_lm
                  refine ⟨v_Z.1, v_Z.2.1, v_Z.2.2.1, fun z z0 z1 => ?_⟩
                  have z1 : z < σ 71 6 := z1
                  have q := v_Z.2.2.2 z z0 z1
                  have ct := z_cnt_set (σ := σ) (k := 73) (i := v) (v := σ 79 u) (w := z) c1.1 (n := (σ 71 2).toNat) (by omega)
                  by_cases czt : z = σ 79 u
                  · subst czt
                    simp (disch := omega) only [true_and, and_true, true_or, or_true, Int.add_zero, z_up_fn, z_up_ni, z_up_eq, z_up_qi, z_rw_fn, z_rw_in, z_rw_out, if_pos, if_neg, ↓reduceIte, w_cnt_set]
                    omega
                  · simp (disch := omega) only [true_and, and_true, true_or, or_true, Int.add_zero, z_up_fn, z_up_ni, z_up_eq, z_up_qi, z_rw_fn, z_rw_in, z_rw_out, if_pos, if_neg, ↓reduceIte, w_cnt_set]
                    omega
          · by_cases c6 : σ 79 u = -1
            · have n5 : σ 78 u = σ 73 v := by omega
              obtain ⟨f0, f1, f2, f3, f4⟩ := (zV_Z h).2.2.2 (σ 73 v) (by omega) (by omega)
              have fr := z_cnt_rng (σ 73) (σ 73 v) (σ 71 2).toNat
              apply zOK_mk2
              · simp (disch := first | omega | (simp (disch := omega) only [z_up_fn, z_up_ni, z_up_eq, z_up_qi, z_rw_fn] <;> omega) | fail) only [e_101_0, e_101_7, e_101_20, e_101_45, e_101_35, e_101_52, e_101_55, e_115_0, e_115_11, e_115_25, e_115_39, e_115_54, s_has_2, s_has_6, s_has_8, e_131_0, e_132_0, g1, c4, e_35_0, e_35_9, e_35_19, e_35_31, e_35_41, e_35_52, e_35_63, e_35_73, e_35_84, e_36_0_0, e_36_9_0, e_36_14, e_36_0_1, e_36_9_1, s_get_6, s_get_4, s_get_2, s_set_4, s_set_4n, s_set_2, e_110_0, e_110_11, e_110_20, e_110_37, s_133, u0, u1, n1, n2, n5, f1, f3, c6, Option.bind_some, Int.add_zero, z_wid, or_true, true_or, z_up_fn, z_up_ni, z_up_eq, z_up_qi, z_rw_fn, z_rw_in, z_rw_out, if_pos, if_neg, ↓reduceIte]
                exact w_ret rfl
              · intro k hk
                simp (disch := omega) only [z_up_fn, z_rw_fn]
              · intro τ hτ
                simp (disch := first | omega | (simp (disch := omega) only [hτ] <;> omega) | fail) only [e_177_0, e_177_7, e_177_108, e_177_33, e_177_111, e_175_0, e_175_5, e_175_13, e_175_21, e_175_31, s_152, s_154, s_155, e_150_0, e_151_0, e_176_0, g2 τ hτ, c4, hτ, f1, f3, c6, Option.bind_some, Int.add_zero, z_wid, or_true, true_or, z_up_fn, z_up_ni, z_up_eq, z_up_qi, z_rw_fn, z_rw_in, z_rw_out, if_pos, if_neg, ↓reduceIte]
                exact w_ret rfl
              · obtain ⟨v_sc, v_st, v_mo, v_se, v_ik, v_ba, v_wP, v_wZ, v_wD, v_wS, v_wR, v_wU, v_wO, v_wG, v_wT, v_P, v_Q, v_Z, v_D, v_S, v_R, v_U, v_O, v_G, v_T, v_kl, v_kmo, v_kse, v_kP, v_kQ, v_kZ, v_kD, v_kS, v_kR, v_kU, v_kO, v_kG, v_kT, v_A, v_X0, v_X1, v_X2, v_X3, v_pc, v_pm, v_lc, v_lm⟩ := h
                refine ⟨v_sc, ?_, v_mo, v_se, v_ik, v_ba, v_wP, v_wZ, v_wD, v_wS, v_wR, v_wU, v_wO, v_wG, v_wT, ?_, ?_, ?_, v_D, v_S, v_R, v_U, v_O, v_G, v_T, v_kl, v_kmo, v_kse, v_kP, v_kQ, v_kZ, v_kD, v_kS, v_kR, v_kU, v_kO, v_kG, v_kT, v_A, v_X0, v_X1, v_X2, v_X3, v_pc, v_pm, v_lc, v_lm⟩
                · rfl
                · clear v_sc v_st v_mo v_se v_ik v_ba v_wP v_wZ v_wD v_wS v_wR v_wU v_wO v_wG v_wT v_Q v_D v_S v_R v_U v_O v_G v_T v_kl v_kmo v_kse v_kP v_kQ v_kZ v_kD v_kS v_kR v_kU v_kO v_kG v_kT v_A v_X0 v_X1 v_X2 v_X3 v_pc v_pm v_lc v_lm
                  refine ⟨v_P.1, v_P.2.1, v_P.2.2.1, fun x x0 x1 => ?_⟩
                  have x1 : x < σ 71 2 := x1
                  have q := v_P.2.2.2 x x0 x1
                  by_cases c : x = v
                  · subst c
                    simp (disch := omega) only [true_and, and_true, true_or, or_true, Int.add_zero, z_up_fn, z_up_ni, z_up_eq, z_up_qi, z_rw_fn, z_rw_in, z_rw_out, if_pos, if_neg, ↓reduceIte]
                    omega
                  · simp (disch := omega) only [true_and, and_true, true_or, or_true, Int.add_zero, z_up_fn, z_up_ni, z_up_eq, z_up_qi, z_rw_fn, z_rw_in, z_rw_out, if_pos, if_neg, ↓reduceIte]
                    exact q
                · clear v_sc v_st v_mo v_se v_ik v_ba v_wP v_wZ v_wD v_wS v_wR v_wU v_wO v_wG v_wT v_Z v_D v_S v_R v_U v_O v_G v_T v_kl v_kmo v_kse v_kP v_kQ v_kZ v_kD v_kS v_kR v_kU v_kO v_kG v_kT v_A v_X0 v_X1 v_X2 v_X3 v_pc v_pm v_lc v_lm
                  intro x x0 x1
                  have x1 : x < σ 71 2 := x1
                  have q := v_Q x x0 x1
                  simp (disch := omega) only [true_and, and_true, true_or, or_true, Int.add_zero, z_up_fn, z_up_ni, z_up_eq, z_up_qi, z_rw_fn, z_rw_in, z_rw_out, if_pos, if_neg, ↓reduceIte]
                  exact q
                · clear v_sc v_st v_mo v_se v_ik v_ba v_wP v_wZ v_wD v_wS v_wR v_wU v_wO v_wG v_wT v_Q v_D v_S v_R v_U v_O v_G v_T v_kl v_kmo v_kse v_kP v_kQ v_kZ v_kD v_kS v_kR v_kU v_kO v_kG v_kT v_A v_X0 v_X1 v_X2 v_X3 v_pc v_pm v_lc v_lm
                  refine ⟨v_Z.1, v_Z.2.1, v_Z.2.2.1, fun z z0 z1 => ?_⟩
                  have z1 : z < σ 71 6 := z1
                  have q := v_Z.2.2.2 z z0 z1
                  have ct := z_cnt_set (σ := σ) (k := 73) (i := v) (v := σ 79 u) (w := z) c1.1 (n := (σ 71 2).toNat) (by omega)
                  by_cases czf : z = σ 73 v
                  · subst czf
                    simp (disch := omega) only [true_and, and_true, true_or, or_true, Int.add_zero, z_up_fn, z_up_ni, z_up_eq, z_up_qi, z_rw_fn, z_rw_in, z_rw_out, if_pos, if_neg, ↓reduceIte, w_cnt_set]
                    omega
                  · simp (disch := omega) only [true_and, and_true, true_or, or_true, Int.add_zero, z_up_fn, z_up_ni, z_up_eq, z_up_qi, z_rw_fn, z_rw_in, z_rw_out, if_pos, if_neg, ↓reduceIte, w_cnt_set]
                    omega
            · have n5 : σ 78 u = σ 73 v := by omega
              obtain ⟨t0, t1, t2, t3, t4⟩ := (zV_Z h).2.2.2 (σ 79 u) (by omega) (by omega)
              have tr := z_cnt_rng (σ 73) (σ 79 u) (σ 71 2).toNat
              obtain ⟨f0, f1, f2, f3, f4⟩ := (zV_Z h).2.2.2 (σ 73 v) (by omega) (by omega)
              have fr := z_cnt_rng (σ 73) (σ 73 v) (σ 71 2).toNat
              apply zOK_mk2
              · simp (disch := first | omega | (simp (disch := omega) only [z_up_fn, z_up_ni, z_up_eq, z_up_qi, z_rw_fn] <;> omega) | fail) only [e_101_0, e_101_7, e_101_20, e_101_45, e_101_35, e_101_52, e_101_55, e_115_0, e_115_11, e_115_25, e_115_39, e_115_54, s_has_2, s_has_6, s_has_8, e_131_0, e_132_0, g1, c4, e_35_0, e_35_9, e_35_19, e_35_31, e_35_41, e_35_52, e_35_63, e_35_73, e_35_84, e_36_0_0, e_36_9_0, e_36_14, e_36_0_1, e_36_9_1, s_get_6, s_get_4, s_get_2, s_set_4, s_set_4n, s_set_2, e_110_0, e_110_11, e_110_20, e_110_37, s_133, u0, u1, n1, n2, n5, t1, t2, f1, f3, Option.bind_some, Int.add_zero, z_wid, or_true, true_or, z_up_fn, z_up_ni, z_up_eq, z_up_qi, z_rw_fn, z_rw_in, z_rw_out, if_pos, if_neg, ↓reduceIte]
                exact w_ret rfl
              · intro k hk
                simp (disch := omega) only [z_up_fn, z_rw_fn]
              · intro τ hτ
                simp (disch := first | omega | (simp (disch := omega) only [hτ] <;> omega) | fail) only [e_177_0, e_177_7, e_177_108, e_177_33, e_177_111, e_175_0, e_175_5, e_175_13, e_175_21, e_175_31, s_152, s_154, s_155, e_150_0, e_151_0, e_176_0, g2 τ hτ, c4, hτ, t1, t2, f1, f3, Option.bind_some, Int.add_zero, z_wid, or_true, true_or, z_up_fn, z_up_ni, z_up_eq, z_up_qi, z_rw_fn, z_rw_in, z_rw_out, if_pos, if_neg, ↓reduceIte]
                exact w_ret rfl
              · obtain ⟨v_sc, v_st, v_mo, v_se, v_ik, v_ba, v_wP, v_wZ, v_wD, v_wS, v_wR, v_wU, v_wO, v_wG, v_wT, v_P, v_Q, v_Z, v_D, v_S, v_R, v_U, v_O, v_G, v_T, v_kl, v_kmo, v_kse, v_kP, v_kQ, v_kZ, v_kD, v_kS, v_kR, v_kU, v_kO, v_kG, v_kT, v_A, v_X0, v_X1, v_X2, v_X3, v_pc, v_pm, v_lc, v_lm⟩ := h
                refine ⟨v_sc, ?_, v_mo, v_se, v_ik, v_ba, v_wP, v_wZ, v_wD, v_wS, v_wR, v_wU, v_wO, v_wG, v_wT, ?_, ?_, ?_, v_D, v_S, v_R, v_U, v_O, v_G, v_T, v_kl, v_kmo, v_kse, v_kP, v_kQ, v_kZ, v_kD, v_kS, v_kR, v_kU, v_kO, v_kG, v_kT, v_A, v_X0, v_X1, v_X2, v_X3, v_pc, v_pm, v_lc, v_lm⟩
                · rfl
                · clear v_sc v_st v_mo v_se v_ik v_ba v_wP v_wZ v_wD v_wS v_wR v_wU v_wO v_wG v_wT v_Q v_D v_S v_R v_U v_O v_G v_T v_kl v_kmo v_kse v_kP v_kQ v_kZ v_kD v_kS v_kR v_kU v_kO v_kG v_kT v_A v_X0 v_X1 v_X2 v_X3 v_pc v_pm v_lc v_lm
                  refine ⟨v_P.1, v_P.2.1, v_P.2.2.1, fun x x0 x1 => ?_⟩
                  have x1 : x < σ 71 2 := x1
                  have q := v_P.2.2.2 x x0 x1
                  by_cases c : x = v
                  · subst c
                    simp (disch := omega) only [true_and, and_true, true_or, or_true, Int.add_zero, z_up_fn, z_up_ni, z_up_eq, z_up_qi, z_rw_fn, z_rw_in, z_rw_out, if_pos, if_neg, ↓reduceIte]
                    omega
                  · simp (disch := omega) only [true_and, and_true, true_or, or_true, Int.add_zero, z_up_fn, z_up_ni, z_up_eq, z_up_qi, z_rw_fn, z_rw_in, z_rw_out, if_pos, if_neg, ↓reduceIte]
                    exact q
                · clear v_sc v_st v_mo v_se v_ik v_ba v_wP v_wZ v_wD v_wS v_wR v_wU v_wO v_wG v_wT v_Z v_D v_S v_R v_U v_O v_G v_T v_kl v_kmo v_kse v_kP v_kQ v_kZ v_kD v_kS v_kR v_kU v_kO v_kG v_kT v_A v_X0 v_X1 v_X2 v_X3 v_pc v_pm v_lc v_lm
                  intro x x0 x1
                  have x1 : x < σ 71 2 := x1
                  have q := v_Q x x0 x1
                  simp (disch := omega) only [true_and, and_true, true_or, or_true, Int.add_zero, z_up_fn, z_up_ni, z_up_eq, z_up_qi, z_rw_fn, z_rw_in, z_rw_out, if_pos, if_neg, ↓reduceIte]
                  exact q
                · clear v_sc v_st v_mo v_se v_ik v_ba v_wP v_wZ v_wD v_wS v_wR v_wU v_wO v_wG v_wT v_Q v_D v_S v_R v_U v_O v_G v_T v_kl v_kmo v_kse v_kP v_kQ v_kZ v_kD v_kS v_kR v_kU v_kO v_kG v_kT v_A v_X0 v_X1 v_X2 v_X3 v_pc v_pm v_lc v_lm
                  refine ⟨v_Z.1, v_Z.2.1, v_Z.2.2.1, fun z z0 z1 => ?_⟩
                  have z1 : z < σ 71 6 := z1
                  have q := v_Z.2.2.2 z z0 z1
                  have ct := z_cnt_set (σ := σ) (k := 73) (i := v) (v := σ 79 u) (w := z) c1.1 (n := (σ 71 2).toNat) (by omega)
                  by_cases czt : z = σ 79 u
                  · subst czt
                    simp (disch := omega) only [true_and, and_true, true_or, or_true, Int.add_zero, z_up_fn, z_up_ni, z_up_eq, z_up_qi, z_rw_fn, z_rw_in, z_rw_out, if_pos, if_neg, ↓reduceIte, w_cnt_set]
                    omega
                  · by_cases czf : z = σ 73 v
                    · subst czf
                      simp (disch := omega) only [true_and, and_true, true_or, or_true, Int.add_zero, z_up_fn, z_up_ni, z_up_eq, z_up_qi, z_rw_fn, z_rw_in, z_rw_out, if_pos, if_neg, ↓reduceIte, w_cnt_set]
                      omega
                    · simp (disch := omega) only [true_and, and_true, true_or, or_true, Int.add_zero, z_up_fn, z_up_ni, z_up_eq, z_up_qi, z_rw_fn, z_rw_in, z_rw_out, if_pos, if_neg, ↓reduceIte, w_cnt_set]
                      omega
        · apply zOK_mk2
          · simp (disch := first | omega | (simp (disch := omega) only [z_up_fn, z_up_ni, z_up_eq, z_up_qi, z_rw_fn] <;> omega) | fail) only [e_101_0, e_101_7, e_101_20, e_101_45, e_101_35, e_101_52, e_101_55, e_115_0, e_115_11, e_115_25, e_115_39, e_115_54, s_has_2, s_has_6, s_has_8, e_131_0, e_132_0, g1, Option.bind_some, Int.add_zero, z_wid, or_true, true_or, z_up_fn, z_up_ni, z_up_eq, z_up_qi, z_rw_fn, z_rw_in, z_rw_out, if_pos, if_neg, ↓reduceIte]
            exact w_ret rfl
          · intro k hk
            simp (disch := omega) only [z_up_fn, z_rw_fn]
          · intro τ hτ
            simp (disch := first | omega | (simp (disch := omega) only [hτ] <;> omega) | fail) only [e_177_0, e_177_7, e_177_108, e_177_33, e_177_111, e_175_0, e_175_5, e_175_13, e_175_21, e_175_31, s_152, s_154, s_155, e_150_0, e_151_0, e_176_0, g2 τ hτ, hτ, Option.bind_some, Int.add_zero, z_wid, or_true, true_or, z_up_fn, z_up_ni, z_up_eq, z_up_qi, z_rw_fn, z_rw_in, z_rw_out, if_pos, if_neg, ↓reduceIte]
            exact w_ret rfl
          · exact w_ref h (20 + w_not σ v u p)
      · apply zOK_mk2
        · simp (disch := first | omega | (simp (disch := omega) only [z_up_fn, z_up_ni, z_up_eq, z_up_qi, z_rw_fn] <;> omega) | fail) only [e_101_0, e_101_7, e_101_20, e_101_45, e_101_35, e_101_52, e_101_55, e_115_0, e_115_11, e_115_25, e_115_39, e_115_54, s_has_2, s_has_6, s_has_8, e_131_0, e_132_0, Option.bind_some, Int.add_zero, z_wid, or_true, true_or, z_up_fn, z_up_ni, z_up_eq, z_up_qi, z_rw_fn, z_rw_in, z_rw_out, if_pos, if_neg, ↓reduceIte]
          exact w_ret rfl
        · intro k hk
          simp (disch := omega) only [z_up_fn, z_rw_fn]
        · intro τ hτ
          simp (disch := first | omega | (simp (disch := omega) only [hτ] <;> omega) | fail) only [e_177_0, e_177_7, e_177_108, e_177_33, e_177_111, e_175_0, e_175_5, e_175_13, e_175_21, e_175_31, s_152, s_154, s_155, e_150_0, e_151_0, e_176_0, hτ, Option.bind_some, Int.add_zero, z_wid, or_true, true_or, z_up_fn, z_up_ni, z_up_eq, z_up_qi, z_rw_fn, z_rw_in, z_rw_out, if_pos, if_neg, ↓reduceIte]
          exact w_ret rfl
        · exact w_ref h 1
    · apply zOK_mk2
      · simp (disch := first | omega | (simp (disch := omega) only [z_up_fn, z_up_ni, z_up_eq, z_up_qi, z_rw_fn] <;> omega) | fail) only [e_101_0, e_101_7, e_101_20, e_101_45, e_101_35, e_101_52, e_101_55, e_115_0, e_115_11, e_115_25, e_115_39, e_115_54, s_has_2, s_has_6, s_has_8, e_131_0, e_132_0, Option.bind_some, Int.add_zero, z_wid, or_true, true_or, z_up_fn, z_up_ni, z_up_eq, z_up_qi, z_rw_fn, z_rw_in, z_rw_out, if_pos, if_neg, ↓reduceIte]
        exact w_ret rfl
      · intro k hk
        simp (disch := omega) only [z_up_fn, z_rw_fn]
      · intro τ hτ
        simp (disch := first | omega | (simp (disch := omega) only [hτ] <;> omega) | fail) only [e_177_0, e_177_7, e_177_108, e_177_33, e_177_111, e_175_0, e_175_5, e_175_13, e_175_21, e_175_31, s_152, s_154, s_155, e_150_0, e_151_0, e_176_0, hτ, Option.bind_some, Int.add_zero, z_wid, or_true, true_or, z_up_fn, z_up_ni, z_up_eq, z_up_qi, z_rw_fn, z_rw_in, z_rw_out, if_pos, if_neg, ↓reduceIte]
        exact w_ret rfl
      · exact w_ref h 1
  · apply zOK_mk2
    · simp (disch := first | omega | (simp (disch := omega) only [z_up_fn, z_up_ni, z_up_eq, z_up_qi, z_rw_fn] <;> omega) | fail) only [e_101_0, e_101_7, e_101_20, e_101_45, e_101_35, e_101_52, e_101_55, e_115_0, e_115_11, e_115_25, e_115_39, e_115_54, s_has_2, s_has_6, s_has_8, e_131_0, e_132_0, Option.bind_some, Int.add_zero, z_wid, or_true, true_or, z_up_fn, z_up_ni, z_up_eq, z_up_qi, z_rw_fn, z_rw_in, z_rw_out, if_pos, if_neg, ↓reduceIte]
      exact w_ret rfl
    · intro k hk
      simp (disch := omega) only [z_up_fn, z_rw_fn]
    · intro τ hτ
      simp (disch := first | omega | (simp (disch := omega) only [hτ] <;> omega) | fail) only [e_177_0, e_177_7, e_177_108, e_177_33, e_177_111, e_175_0, e_175_5, e_175_13, e_175_21, e_175_31, s_152, s_154, s_155, e_150_0, e_151_0, e_176_0, hτ, Option.bind_some, Int.add_zero, z_wid, or_true, true_or, z_up_fn, z_up_ni, z_up_eq, z_up_qi, z_rw_fn, z_rw_in, z_rw_out, if_pos, if_neg, ↓reduceIte]
      exact w_ret rfl
    · exact w_ref h 1
