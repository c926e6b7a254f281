theorem o_act_0_0 (d : Nat) (s : Int → Int) (L : Int) (σ : Nat → Int → Int) (h : zV s L σ) (x1 x3 : Int) (c1 : 0 ≤ x1 ∧ x1 < σ 8 3) (hk : σ 81 x1 = 0) : zOK s L (d + 29) 124 223 [some (.inl x1), some (.inl 0), some (.inl x3)] [some (.inl x1), some (.inl 0), some (.inl x3)] σ := by
  have hwS := zV_wS h
  have hS := (zV_S h).1
  have hS1 := (zV_S h).2.1
  have hS2 := (zV_S h).2.2.1
  have q := (zV_S h).2.2.2 x1 c1.1 (by omega)
  have q1 : σ 9 (7 * x1 + 1) = 0 := by rw [q.2.1]; exact hk
  have q2 : σ 9 (7 * x1 + 2) = σ 82 x1 := q.2.2.1
  have q4 : σ 9 (7 * x1 + 4) = σ 84 x1 := q.2.2.2.2.1
  apply zOK_mk2
  · simp (disch := first | omega | (simp (disch := omega) only [z_up_fn, z_up_ni, z_up_eq, z_up_qi, z_rw_fn] <;> omega) | fail) only [e_124_0, e_124_11, e_124_28, e_124_20, e_124_47, e_124_50, s_has_8, s_133, e_3_0, e_3_20, e_3_33, e_3_46, e_3_61, s_get_8, q1, q2, q4, w_nt0, c_act_0_0, e_131_0, Option.bind_some, Int.add_zero, z_wid, or_true, true_or, z_up_fn, z_up_ni, z_up_eq, z_up_qi, z_rw_fn, z_rw_in, z_rw_out, if_pos, if_neg, ↓reduceIte]
    exact w_ret rfl
  · intro k hk
    unfold w_nt
    simp (disch := omega) only [z_up_fn, z_rw_fn]
  · intro τ hτ
    simp (disch := first | omega | (simp (disch := omega) only [hτ] <;> omega) | fail) only [e_223_0, e_223_5, e_223_22, e_223_14, e_223_43, e_223_57, e_223_71, e_223_80, s_155, s_149, w_mt0, m_act_0_0, hτ, Option.bind_some, Int.add_zero, z_wid, or_true, true_or, z_up_fn, z_up_ni, z_up_eq, z_up_qi, z_rw_fn, z_rw_in, z_rw_out, if_pos, if_neg, ↓reduceIte, Int.reduceEq]
    exact w_ret rfl
  · exact w_act h x1 0 _ _ _ (by decide)
theorem o_act_0_1 (d : Nat) (s : Int → Int) (L : Int) (σ : Nat → Int → Int) (h : zV s L σ) (x1 x3 : Int) (c1 : 0 ≤ x1 ∧ x1 < σ 8 3) (hk : σ 81 x1 = 0) : zOK s L (d + 29) 124 223 [some (.inl x1), some (.inl 1), some (.inl x3)] [some (.inl x1), some (.inl 1), some (.inl x3)] σ := by
  have hwS := zV_wS h
  have hS := (zV_S h).1
  have hS1 := (zV_S h).2.1
  have hS2 := (zV_S h).2.2.1
  have q := (zV_S h).2.2.2 x1 c1.1 (by omega)
  have q1 : σ 9 (7 * x1 + 1) = 0 := by rw [q.2.1]; exact hk
  have q2 : σ 9 (7 * x1 + 2) = σ 82 x1 := q.2.2.1
  have q4 : σ 9 (7 * x1 + 4) = σ 84 x1 := q.2.2.2.2.1
  apply zOK_mk2
  · simp (disch := first | omega | (simp (disch := omega) only [z_up_fn, z_up_ni, z_up_eq, z_up_qi, z_rw_fn] <;> omega) | fail) only [e_124_0, e_124_11, e_124_28, e_124_20, e_124_47, e_124_50, s_has_8, s_133, e_3_0, e_3_20, e_3_33, e_3_46, e_3_61, s_get_8, q1, q2, q4, w_nt0, c_act_0_1, e_131_0, Option.bind_some, Int.add_zero, z_wid, or_true, true_or, z_up_fn, z_up_ni, z_up_eq, z_up_qi, z_rw_fn, z_rw_in, z_rw_out, if_pos, if_neg, ↓reduceIte]
    exact w_ret rfl
  · intro k hk
    unfold w_nt
    simp (disch := omega) only [z_up_fn, z_rw_fn]
  · intro τ hτ
    simp (disch := first | omega | (simp (disch := omega) only [hτ] <;> omega) | fail) only [e_223_0, e_223_5, e_223_22, e_223_14, e_223_43, e_223_57, e_223_71, e_223_80, s_155, s_149, w_mt0, m_act_0_1, hτ, Option.bind_some, Int.add_zero, z_wid, or_true, true_or, z_up_fn, z_up_ni, z_up_eq, z_up_qi, z_rw_fn, z_rw_in, z_rw_out, if_pos, if_neg, ↓reduceIte, Int.reduceEq]
    exact w_ret rfl
  · exact w_act h x1 0 _ _ _ (by decide)
theorem o_act_0_2 (d : Nat) (s : Int → Int) (L : Int) (σ : Nat → Int → Int) (h : zV s L σ) (x1 x3 : Int) (c1 : 0 ≤ x1 ∧ x1 < σ 8 3) (hk : σ 81 x1 = 0) : zOK s L (d + 29) 124 223 [some (.inl x1), some (.inl 2), some (.inl x3)] [some (.inl x1), some (.inl 2), some (.inl x3)] σ := by
  have hwS := zV_wS h
  have hS := (zV_S h).1
  have hS1 := (zV_S h).2.1
  have hS2 := (zV_S h).2.2.1
  have q := (zV_S h).2.2.2 x1 c1.1 (by omega)
  have q1 : σ 9 (7 * x1 + 1) = 0 := by rw [q.2.1]; exact hk
  have q2 : σ 9 (7 * x1 + 2) = σ 82 x1 := q.2.2.1
  have q4 : σ 9 (7 * x1 + 4) = σ 84 x1 := q.2.2.2.2.1
  apply zOK_mk2
  · simp (disch := first | omega | (simp (disch := omega) only [z_up_fn, z_up_ni, z_up_eq, z_up_qi, z_rw_fn] <;> omega) | fail) only [e_124_0, e_124_11, e_124_28, e_124_20, e_124_47, e_124_50, s_has_8, s_133, e_3_0, e_3_20, e_3_33, e_3_46, e_3_61, s_get_8, q1, q2, q4, w_nt0, c_act_0_2, e_131_0, Option.bind_some, Int.add_zero, z_wid, or_true, true_or, z_up_fn, z_up_ni, z_up_eq, z_up_qi, z_rw_fn, z_rw_in, z_rw_out, if_pos, if_neg, ↓reduceIte]
    exact w_ret rfl
  · intro k hk
    unfold w_nt
    simp (disch := omega) only [z_up_fn, z_rw_fn]
  · intro τ hτ
    simp (disch := first | omega | (simp (disch := omega) only [hτ] <;> omega) | fail) only [e_223_0, e_223_5, e_223_22, e_223_14, e_223_43, e_223_57, e_223_71, e_223_80, s_155, s_149, w_mt0, m_act_0_2, hτ, Option.bind_some, Int.add_zero, z_wid, or_true, true_or, z_up_fn, z_up_ni, z_up_eq, z_up_qi, z_rw_fn, z_rw_in, z_rw_out, if_pos, if_neg, ↓reduceIte, Int.reduceEq]
    exact w_ret rfl
  · exact w_act h x1 0 _ _ _ (by decide)
theorem o_act_0_3 (d : Nat) (s : Int → Int) (L : Int) (σ : Nat → Int → Int) (h : zV s L σ) (x1 x3 : Int) (c1 : 0 ≤ x1 ∧ x1 < σ 8 3) (hk : σ 81 x1 = 0) : zOK s L (d + 29) 124 223 [some (.inl x1), some (.inl 3), some (.inl x3)] [some (.inl x1), some (.inl 3), some (.inl x3)] σ := by
  have hwS := zV_wS h
  have hS := (zV_S h).1
  have hS1 := (zV_S h).2.1
  have hS2 := (zV_S h).2.2.1
  have q := (zV_S h).2.2.2 x1 c1.1 (by omega)
  have q1 : σ 9 (7 * x1 + 1) = 0 := by rw [q.2.1]; exact hk
  have q2 : σ 9 (7 * x1 + 2) = σ 82 x1 := q.2.2.1
  have q4 : σ 9 (7 * x1 + 4) = σ 84 x1 := q.2.2.2.2.1
  apply zOK_mk2
  · simp (disch := first | omega | (simp (disch := omega) only [z_up_fn, z_up_ni, z_up_eq, z_up_qi, z_rw_fn] <;> omega) | fail) only [e_124_0, e_124_11, e_124_28, e_124_20, e_124_47, e_124_50, s_has_8, s_133, e_3_0, e_3_20, e_3_33, e_3_46, e_3_61, s_get_8, q1, q2, q4, w_nt0, c_act_0_3, e_131_0, Option.bind_some, Int.add_zero, z_wid, or_true, true_or, z_up_fn, z_up_ni, z_up_eq, z_up_qi, z_rw_fn, z_rw_in, z_rw_out, if_pos, if_neg, ↓reduceIte]
    exact w_ret rfl
  · intro k hk
    unfold w_nt
    simp (disch := omega) only [z_up_fn, z_rw_fn]
  · intro τ hτ
    simp (disch := first | omega | (simp (disch := omega) only [hτ] <;> omega) | fail) only [e_223_0, e_223_5, e_223_22, e_223_14, e_223_43, e_223_57, e_223_71, e_223_80, s_155, s_149, w_mt0, m_act_0_3, hτ, Option.bind_some, Int.add_zero, z_wid, or_true, true_or, z_up_fn, z_up_ni, z_up_eq, z_up_qi, z_rw_fn, z_rw_in, z_rw_out, if_pos, if_neg, ↓reduceIte, Int.reduceEq]
    exact w_ret rfl
  · exact w_act h x1 0 _ _ _ (by decide)
theorem o_act_1_0 (d : Nat) (s : Int → Int) (L : Int) (σ : Nat → Int → Int) (h : zV s L σ) (x1 x3 : Int) (c1 : 0 ≤ x1 ∧ x1 < σ 8 3) (hk : σ 81 x1 = 1) : zOK s L (d + 29) 124 223 [some (.inl x1), some (.inl 0), some (.inl x3)] [some (.inl x1), some (.inl 0), some (.inl x3)] σ := by
  have hwS := zV_wS h
  have hS := (zV_S h).1
  have hS1 := (zV_S h).2.1
  have hS2 := (zV_S h).2.2.1
  have q := (zV_S h).2.2.2 x1 c1.1 (by omega)
  have q1 : σ 9 (7 * x1 + 1) = 1 := by rw [q.2.1]; exact hk
  have q2 : σ 9 (7 * x1 + 2) = σ 82 x1 := q.2.2.1
  have q4 : σ 9 (7 * x1 + 4) = σ 84 x1 := q.2.2.2.2.1
  apply zOK_mk2
  · simp (disch := first | omega | (simp (disch := omega) only [z_up_fn, z_up_ni, z_up_eq, z_up_qi, z_rw_fn] <;> omega) | fail) only [e_124_0, e_124_11, e_124_28, e_124_20, e_124_47, e_124_50, s_has_8, s_133, e_3_0, e_3_20, e_3_33, e_3_46, e_3_61, s_get_8, q1, q2, q4, w_nt0, c_act_1_0, e_131_0, Option.bind_some, Int.add_zero, z_wid, or_true, true_or, z_up_fn, z_up_ni, z_up_eq, z_up_qi, z_rw_fn, z_rw_in, z_rw_out, if_pos, if_neg, ↓reduceIte]
    exact w_ret rfl
  · intro k hk
    unfold w_nt
    simp (disch := omega) only [z_up_fn, z_rw_fn]
  · intro τ hτ
    simp (disch := first | omega | (simp (disch := omega) only [hτ] <;> omega) | fail) only [e_223_0, e_223_5, e_223_22, e_223_14, e_223_43, e_223_57, e_223_71, e_223_80, s_155, s_149, w_mt0, m_act_1_0, hτ, Option.bind_some, Int.add_zero, z_wid, or_true, true_or, z_up_fn, z_up_ni, z_up_eq, z_up_qi, z_rw_fn, z_rw_in, z_rw_out, if_pos, if_neg, ↓reduceIte, Int.reduceEq]
    exact w_ret rfl
  · exact w_act h x1 1 _ _ _ (by decide)
theorem o_act_1_1 (d : Nat) (s : Int → Int) (L : Int) (σ : Nat → Int → Int) (h : zV s L σ) (x1 x3 : Int) (c1 : 0 ≤ x1 ∧ x1 < σ 8 3) (hk : σ 81 x1 = 1) : zOK s L (d + 29) 124 223 [some (.inl x1), some (.inl 1), some (.inl x3)] [some (.inl x1), some (.inl 1), some (.inl x3)] σ := by
  have hwS := zV_wS h
  have hS := (zV_S h).1
  have hS1 := (zV_S h).2.1
  have hS2 := (zV_S h).2.2.1
  have q := (zV_S h).2.2.2 x1 c1.1 (by omega)
  have q1 : σ 9 (7 * x1 + 1) = 1 := by rw [q.2.1]; exact hk
  have q2 : σ 9 (7 * x1 + 2) = σ 82 x1 := q.2.2.1
  have q4 : σ 9 (7 * x1 + 4) = σ 84 x1 := q.2.2.2.2.1
  apply zOK_mk2
  · simp (disch := first | omega | (simp (disch := omega) only [z_up_fn, z_up_ni, z_up_eq, z_up_qi, z_rw_fn] <;> omega) | fail) only [e_124_0, e_124_11, e_124_28, e_124_20, e_124_47, e_124_50, s_has_8, s_133, e_3_0, e_3_20, e_3_33, e_3_46, e_3_61, s_get_8, q1, q2, q4, w_nt0, c_act_1_1, e_131_0, Option.bind_some, Int.add_zero, z_wid, or_true, true_or, z_up_fn, z_up_ni, z_up_eq, z_up_qi, z_rw_fn, z_rw_in, z_rw_out, if_pos, if_neg, ↓reduceIte]
    exact w_ret rfl
  · intro k hk
    unfold w_nt
    simp (disch := omega) only [z_up_fn, z_rw_fn]
  · intro τ hτ
    simp (disch := first | omega | (simp (disch := omega) only [hτ] <;> omega) | fail) only [e_223_0, e_223_5, e_223_22, e_223_14, e_223_43, e_223_57, e_223_71, e_223_80, s_155, s_149, w_mt0, m_act_1_1, hτ, Option.bind_some, Int.add_zero, z_wid, or_true, true_or, z_up_fn, z_up_ni, z_up_eq, z_up_qi, z_rw_fn, z_rw_in, z_rw_out, if_pos, if_neg, ↓reduceIte, Int.reduceEq]
    exact w_ret rfl
  · exact w_act h x1 1 _ _ _ (by decide)
theorem o_act_1_2 (d : Nat) (s : Int → Int) (L : Int) (σ : Nat → Int → Int) (h : zV s L σ) (x1 x3 : Int) (c1 : 0 ≤ x1 ∧ x1 < σ 8 3) (hk : σ 81 x1 = 1) : zOK s L (d + 29) 124 223 [some (.inl x1), some (.inl 2), some (.inl x3)] [some (.inl x1), some (.inl 2), some (.inl x3)] σ := by
  have hwS := zV_wS h
  have hS := (zV_S h).1
  have hS1 := (zV_S h).2.1
  have hS2 := (zV_S h).2.2.1
  have q := (zV_S h).2.2.2 x1 c1.1 (by omega)
  have q1 : σ 9 (7 * x1 + 1) = 1 := by rw [q.2.1]; exact hk
  have q2 : σ 9 (7 * x1 + 2) = σ 82 x1 := q.2.2.1
  have q4 : σ 9 (7 * x1 + 4) = σ 84 x1 := q.2.2.2.2.1
  apply zOK_mk2
  · simp (disch := first | omega | (simp (disch := omega) only [z_up_fn, z_up_ni, z_up_eq, z_up_qi, z_rw_fn] <;> omega) | fail) only [e_124_0, e_124_11, e_124_28, e_124_20, e_124_47, e_124_50, s_has_8, s_133, e_3_0, e_3_20, e_3_33, e_3_46, e_3_61, s_get_8, q1, q2, q4, w_nt0, c_act_1_2, e_131_0, Option.bind_some, Int.add_zero, z_wid, or_true, true_or, z_up_fn, z_up_ni, z_up_eq, z_up_qi, z_rw_fn, z_rw_in, z_rw_out, if_pos, if_neg, ↓reduceIte]
    exact w_ret rfl
  · intro k hk
    unfold w_nt
    simp (disch := omega) only [z_up_fn, z_rw_fn]
  · intro τ hτ
    simp (disch := first | omega | (simp (disch := omega) only [hτ] <;> omega) | fail) only [e_223_0, e_223_5, e_223_22, e_223_14, e_223_43, e_223_57, e_223_71, e_223_80, s_155, s_149, w_mt0, m_act_1_2, hτ, Option.bind_some, Int.add_zero, z_wid, or_true, true_or, z_up_fn, z_up_ni, z_up_eq, z_up_qi, z_rw_fn, z_rw_in, z_rw_out, if_pos, if_neg, ↓reduceIte, Int.reduceEq]
    exact w_ret rfl
  · exact w_act h x1 1 _ _ _ (by decide)
theorem o_act_1_3 (d : Nat) (s : Int → Int) (L : Int) (σ : Nat → Int → Int) (h : zV s L σ) (x1 x3 : Int) (c1 : 0 ≤ x1 ∧ x1 < σ 8 3) (hk : σ 81 x1 = 1) : zOK s L (d + 29) 124 223 [some (.inl x1), some (.inl 3), some (.inl x3)] [some (.inl x1), some (.inl 3), some (.inl x3)] σ := by
  have hwS := zV_wS h
  have hS := (zV_S h).1
  have hS1 := (zV_S h).2.1
  have hS2 := (zV_S h).2.2.1
  have q := (zV_S h).2.2.2 x1 c1.1 (by omega)
  have q1 : σ 9 (7 * x1 + 1) = 1 := by rw [q.2.1]; exact hk
  have q2 : σ 9 (7 * x1 + 2) = σ 82 x1 := q.2.2.1
  have q4 : σ 9 (7 * x1 + 4) = σ 84 x1 := q.2.2.2.2.1
  apply zOK_mk2
  · simp (disch := first | omega | (simp (disch := omega) only [z_up_fn, z_up_ni, z_up_eq, z_up_qi, z_rw_fn] <;> omega) | fail) only [e_124_0, e_124_11, e_124_28, e_124_20, e_124_47, e_124_50, s_has_8, s_133, e_3_0, e_3_20, e_3_33, e_3_46, e_3_61, s_get_8, q1, q2, q4, w_nt0, c_act_1_3, e_131_0, Option.bind_some, Int.add_zero, z_wid, or_true, true_or, z_up_fn, z_up_ni, z_up_eq, z_up_qi, z_rw_fn, z_rw_in, z_rw_out, if_pos, if_neg, ↓reduceIte]
    exact w_ret rfl
  · intro k hk
    unfold w_nt
    simp (disch := omega) only [z_up_fn, z_rw_fn]
  · intro τ hτ
    simp (disch := first | omega | (simp (disch := omega) only [hτ] <;> omega) | fail) only [e_223_0, e_223_5, e_223_22, e_223_14, e_223_43, e_223_57, e_223_71, e_223_80, s_155, s_149, w_mt0, m_act_1_3, hτ, Option.bind_some, Int.add_zero, z_wid, or_true, true_or, z_up_fn, z_up_ni, z_up_eq, z_up_qi, z_rw_fn, z_rw_in, z_rw_out, if_pos, if_neg, ↓reduceIte, Int.reduceEq]
    exact w_ret rfl
  · exact w_act h x1 1 _ _ _ (by decide)
theorem o_act_2_0 (d : Nat) (s : Int → Int) (L : Int) (σ : Nat → Int → Int) (h : zV s L σ) (x1 x3 : Int) (c1 : 0 ≤ x1 ∧ x1 < σ 8 3) (hk : σ 81 x1 = 2) : zOK s L (d + 29) 124 223 [some (.inl x1), some (.inl 0), some (.inl x3)] [some (.inl x1), some (.inl 0), some (.inl x3)] σ := by
  have hwS := zV_wS h
  have hS := (zV_S h).1
  have hS1 := (zV_S h).2.1
  have hS2 := (zV_S h).2.2.1
  have q := (zV_S h).2.2.2 x1 c1.1 (by omega)
  have q1 : σ 9 (7 * x1 + 1) = 2 := by rw [q.2.1]; exact hk
  have q2 : σ 9 (7 * x1 + 2) = σ 82 x1 := q.2.2.1
  have q4 : σ 9 (7 * x1 + 4) = σ 84 x1 := q.2.2.2.2.1
  apply zOK_mk2
  · simp (disch := first | omega | (simp (disch := omega) only [z_up_fn, z_up_ni, z_up_eq, z_up_qi, z_rw_fn] <;> omega) | fail) only [e_124_0, e_124_11, e_124_28, e_124_20, e_124_47, e_124_50, s_has_8, s_133, e_3_0, e_3_20, e_3_33, e_3_46, e_3_61, s_get_8, q1, q2, q4, w_nt0, c_act_2_0, e_131_0, Option.bind_some, Int.add_zero, z_wid, or_true, true_or, z_up_fn, z_up_ni, z_up_eq, z_up_qi, z_rw_fn, z_rw_in, z_rw_out, if_pos, if_neg, ↓reduceIte]
    exact w_ret rfl
  · intro k hk
    unfold w_nt
    simp (disch := omega) only [z_up_fn, z_rw_fn]
  · intro τ hτ
    simp (disch := first | omega | (simp (disch := omega) only [hτ] <;> omega) | fail) only [e_223_0, e_223_5, e_223_22, e_223_14, e_223_43, e_223_57, e_223_71, e_223_80, s_155, s_149, w_mt0, m_act_2_0, hτ, Option.bind_some, Int.add_zero, z_wid, or_true, true_or, z_up_fn, z_up_ni, z_up_eq, z_up_qi, z_rw_fn, z_rw_in, z_rw_out, if_pos, if_neg, ↓reduceIte, Int.reduceEq]
    exact w_ret rfl
  · exact w_act h x1 2 _ _ _ (by decide)
theorem o_act_2_1 (d : Nat) (s : Int → Int) (L : Int) (σ : Nat → Int → Int) (h : zV s L σ) (x1 x3 : Int) (c1 : 0 ≤ x1 ∧ x1 < σ 8 3) (hk : σ 81 x1 = 2) : zOK s L (d + 29) 124 223 [some (.inl x1), some (.inl 1), some (.inl x3)] [some (.inl x1), some (.inl 1), some (.inl x3)] σ := by
  have hwS := zV_wS h
  have hS := (zV_S h).1
  have hS1 := (zV_S h).2.1
  have hS2 := (zV_S h).2.2.1
  have q := (zV_S h).2.2.2 x1 c1.1 (by omega)
  have q1 : σ 9 (7 * x1 + 1) = 2 := by rw [q.2.1]; exact hk
  have q2 : σ 9 (7 * x1 + 2) = σ 82 x1 := q.2.2.1
  have q4 : σ 9 (7 * x1 + 4) = σ 84 x1 := q.2.2.2.2.1
  apply zOK_mk2
  · simp (disch := first | omega | (simp (disch := omega) only [z_up_fn, z_up_ni, z_up_eq, z_up_qi, z_rw_fn] <;> omega) | fail) only [e_124_0, e_124_11, e_124_28, e_124_20, e_124_47, e_124_50, s_has_8, s_133, e_3_0, e_3_20, e_3_33, e_3_46, e_3_61, s_get_8, q1, q2, q4, w_nt0, c_act_2_1, e_131_0, Option.bind_some, Int.add_zero, z_wid, or_true, true_or, z_up_fn, z_up_ni, z_up_eq, z_up_qi, z_rw_fn, z_rw_in, z_rw_out, if_pos, if_neg, ↓reduceIte]
    exact w_ret rfl
  · intro k hk
    unfold w_nt
    simp (disch := omega) only [z_up_fn, z_rw_fn]
  · intro τ hτ
    simp (disch := first | omega | (simp (disch := omega) only [hτ] <;> omega) | fail) only [e_223_0, e_223_5, e_223_22, e_223_14, e_223_43, e_223_57, e_223_71, e_223_80, s_155, s_149, w_mt0, m_act_2_1, hτ, Option.bind_some, Int.add_zero, z_wid, or_true, true_or, z_up_fn, z_up_ni, z_up_eq, z_up_qi, z_rw_fn, z_rw_in, z_rw_out, if_pos, if_neg, ↓reduceIte, Int.reduceEq]
    exact w_ret rfl
  · exact w_act h x1 2 _ _ _ (by decide)
theorem o_act_2_2 (d : Nat) (s : Int → Int) (L : Int) (σ : Nat → Int → Int) (h : zV s L σ) (x1 x3 : Int) (c1 : 0 ≤ x1 ∧ x1 < σ 8 3) (hk : σ 81 x1 = 2) : zOK s L (d + 29) 124 223 [some (.inl x1), some (.inl 2), some (.inl x3)] [some (.inl x1), some (.inl 2), some (.inl x3)] σ := by
  have hwS := zV_wS h
  have hS := (zV_S h).1
  have hS1 := (zV_S h).2.1
  have hS2 := (zV_S h).2.2.1
  have q := (zV_S h).2.2.2 x1 c1.1 (by omega)
  have q1 : σ 9 (7 * x1 + 1) = 2 := by rw [q.2.1]; exact hk
  have q2 : σ 9 (7 * x1 + 2) = σ 82 x1 := q.2.2.1
  have q4 : σ 9 (7 * x1 + 4) = σ 84 x1 := q.2.2.2.2.1
  apply zOK_mk2
  · simp (disch := first | omega | (simp (disch := omega) only [z_up_fn, z_up_ni, z_up_eq, z_up_qi, z_rw_fn] <;> omega) | fail) only [e_124_0, e_124_11, e_124_28, e_124_20, e_124_47, e_124_50, s_has_8, s_133, e_3_0, e_3_20, e_3_33, e_3_46, e_3_61, s_get_8, q1, q2, q4, w_nt0, c_act_2_2, e_131_0, Option.bind_some, Int.add_zero, z_wid, or_true, true_or, z_up_fn, z_up_ni, z_up_eq, z_up_qi, z_rw_fn, z_rw_in, z_rw_out, if_pos, if_neg, ↓reduceIte]
    exact w_ret rfl
  · intro k hk
    unfold w_nt
    simp (disch := omega) only [z_up_fn, z_rw_fn]
  · intro τ hτ
    simp (disch := first | omega | (simp (disch := omega) only [hτ] <;> omega) | fail) only [e_223_0, e_223_5, e_223_22, e_223_14, e_223_43, e_223_57, e_223_71, e_223_80, s_155, s_149, w_mt0, m_act_2_2, hτ, Option.bind_some, Int.add_zero, z_wid, or_true, true_or, z_up_fn, z_up_ni, z_up_eq, z_up_qi, z_rw_fn, z_rw_in, z_rw_out, if_pos, if_neg, ↓reduceIte, Int.reduceEq]
    exact w_ret rfl
  · exact w_act h x1 2 _ _ _ (by decide)
theorem o_act_2_3 (d : Nat) (s : Int → Int) (L : Int) (σ : Nat → Int → Int) (h : zV s L σ) (x1 x3 : Int) (c1 : 0 ≤ x1 ∧ x1 < σ 8 3) (hk : σ 81 x1 = 2) : zOK s L (d + 29) 124 223 [some (.inl x1), some (.inl 3), some (.inl x3)] [some (.inl x1), some (.inl 3), some (.inl x3)] σ := by
  have hwS := zV_wS h
  have hS := (zV_S h).1
  have hS1 := (zV_S h).2.1
  have hS2 := (zV_S h).2.2.1
  have q := (zV_S h).2.2.2 x1 c1.1 (by omega)
  have q1 : σ 9 (7 * x1 + 1) = 2 := by rw [q.2.1]; exact hk
  have q2 : σ 9 (7 * x1 + 2) = σ 82 x1 := q.2.2.1
  have q4 : σ 9 (7 * x1 + 4) = σ 84 x1 := q.2.2.2.2.1
  apply zOK_mk2
  · simp (disch := first | omega | (simp (disch := omega) only [z_up_fn, z_up_ni, z_up_eq, z_up_qi, z_rw_fn] <;> omega) | fail) only [e_124_0, e_124_11, e_124_28, e_124_20, e_124_47, e_124_50, s_has_8, s_133, e_3_0, e_3_20, e_3_33, e_3_46, e_3_61, s_get_8, q1, q2, q4, w_nt0, c_act_2_3, e_131_0, Option.bind_some, Int.add_zero, z_wid, or_true, true_or, z_up_fn, z_up_ni, z_up_eq, z_up_qi, z_rw_fn, z_rw_in, z_rw_out, if_pos, if_neg, ↓reduceIte]
    exact w_ret rfl
  · intro k hk
    unfold w_nt
    simp (disch := omega) only [z_up_fn, z_rw_fn]
  · intro τ hτ
    simp (disch := first | omega | (simp (disch := omega) only [hτ] <;> omega) | fail) only [e_223_0, e_223_5, e_223_22, e_223_14, e_223_43, e_223_57, e_223_71, e_223_80, s_155, s_149, w_mt0, m_act_2_3, hτ, Option.bind_some, Int.add_zero, z_wid, or_true, true_or, z_up_fn, z_up_ni, z_up_eq, z_up_qi, z_rw_fn, z_rw_in, z_rw_out, if_pos, if_neg, ↓reduceIte, Int.reduceEq]
    exact w_ret rfl
  · exact w_act h x1 2 _ _ _ (by decide)
theorem o_act_3_0 (d : Nat) (s : Int → Int) (L : Int) (σ : Nat → Int → Int) (h : zV s L σ) (x1 x3 : Int) (c1 : 0 ≤ x1 ∧ x1 < σ 8 3) (hk : σ 81 x1 = 3) : zOK s L (d + 29) 124 223 [some (.inl x1), some (.inl 0), some (.inl x3)] [some (.inl x1), some (.inl 0), some (.inl x3)] σ := by
  have hwS := zV_wS h
  have hS := (zV_S h).1
  have hS1 := (zV_S h).2.1
  have hS2 := (zV_S h).2.2.1
  have q := (zV_S h).2.2.2 x1 c1.1 (by omega)
  have q1 : σ 9 (7 * x1 + 1) = 3 := by rw [q.2.1]; exact hk
  have q2 : σ 9 (7 * x1 + 2) = σ 82 x1 := q.2.2.1
  have q4 : σ 9 (7 * x1 + 4) = σ 84 x1 := q.2.2.2.2.1
  apply zOK_mk2
  · simp (disch := first | omega | (simp (disch := omega) only [z_up_fn, z_up_ni, z_up_eq, z_up_qi, z_rw_fn] <;> omega) | fail) only [e_124_0, e_124_11, e_124_28, e_124_20, e_124_47, e_124_50, s_has_8, s_133, e_3_0, e_3_20, e_3_33, e_3_46, e_3_61, s_get_8, q1, q2, q4, w_nt0, c_act_3_0, e_131_0, Option.bind_some, Int.add_zero, z_wid, or_true, true_or, z_up_fn, z_up_ni, z_up_eq, z_up_qi, z_rw_fn, z_rw_in, z_rw_out, if_pos, if_neg, ↓reduceIte]
    exact w_ret rfl
  · intro k hk
    unfold w_nt
    simp (disch := omega) only [z_up_fn, z_rw_fn]
  · intro τ hτ
    simp (disch := first | omega | (simp (disch := omega) only [hτ] <;> omega) | fail) only [e_223_0, e_223_5, e_223_22, e_223_14, e_223_43, e_223_57, e_223_71, e_223_80, s_155, s_149, w_mt0, m_act_3_0, hτ, Option.bind_some, Int.add_zero, z_wid, or_true, true_or, z_up_fn, z_up_ni, z_up_eq, z_up_qi, z_rw_fn, z_rw_in, z_rw_out, if_pos, if_neg, ↓reduceIte, Int.reduceEq]
    exact w_ret rfl
  · exact w_act h x1 3 _ _ _ (by decide)
theorem o_act_3_1 (d : Nat) (s : Int → Int) (L : Int) (σ : Nat → Int → Int) (h : zV s L σ) (x1 x3 : Int) (c1 : 0 ≤ x1 ∧ x1 < σ 8 3) (hk : σ 81 x1 = 3) : zOK s L (d + 29) 124 223 [some (.inl x1), some (.inl 1), some (.inl x3)] [some (.inl x1), some (.inl 1), some (.inl x3)] σ := by
  have hwS := zV_wS h
  have hS := (zV_S h).1
  have hS1 := (zV_S h).2.1
  have hS2 := (zV_S h).2.2.1
  have q := (zV_S h).2.2.2 x1 c1.1 (by omega)
  have q1 : σ 9 (7 * x1 + 1) = 3 := by rw [q.2.1]; exact hk
  have q2 : σ 9 (7 * x1 + 2) = σ 82 x1 := q.2.2.1
  have q4 : σ 9 (7 * x1 + 4) = σ 84 x1 := q.2.2.2.2.1
  apply zOK_mk2
  · simp (disch := first | omega | (simp (disch := omega) only [z_up_fn, z_up_ni, z_up_eq, z_up_qi, z_rw_fn] <;> omega) | fail) only [e_124_0, e_124_11, e_124_28, e_124_20, e_124_47, e_124_50, s_has_8, s_133, e_3_0, e_3_20, e_3_33, e_3_46, e_3_61, s_get_8, q1, q2, q4, w_nt0, c_act_3_1, e_131_0, Option.bind_some, Int.add_zero, z_wid, or_true, true_or, z_up_fn, z_up_ni, z_up_eq, z_up_qi, z_rw_fn, z_rw_in, z_rw_out, if_pos, if_neg, ↓reduceIte]
    exact w_ret rfl
  · intro k hk
    unfold w_nt
    simp (disch := omega) only [z_up_fn, z_rw_fn]
  · intro τ hτ
    simp (disch := first | omega | (simp (disch := omega) only [hτ] <;> omega) | fail) only [e_223_0, e_223_5, e_223_22, e_223_14, e_223_43, e_223_57, e_223_71, e_223_80, s_155, s_149, w_mt0, m_act_3_1, hτ, Option.bind_some, Int.add_zero, z_wid, or_true, true_or, z_up_fn, z_up_ni, z_up_eq, z_up_qi, z_rw_fn, z_rw_in, z_rw_out, if_pos, if_neg, ↓reduceIte, Int.reduceEq]
    exact w_ret rfl
  · exact w_act h x1 3 _ _ _ (by decide)
theorem o_act_3_2 (d : Nat) (s : Int → Int) (L : Int) (σ : Nat → Int → Int) (h : zV s L σ) (x1 x3 : Int) (c1 : 0 ≤ x1 ∧ x1 < σ 8 3) (hk : σ 81 x1 = 3) : zOK s L (d + 29) 124 223 [some (.inl x1), some (.inl 2), some (.inl x3)] [some (.inl x1), some (.inl 2), some (.inl x3)] σ := by
  have hwS := zV_wS h
  have hS := (zV_S h).1
  have hS1 := (zV_S h).2.1
  have hS2 := (zV_S h).2.2.1
  have q := (zV_S h).2.2.2 x1 c1.1 (by omega)
  have q1 : σ 9 (7 * x1 + 1) = 3 := by rw [q.2.1]; exact hk
  have q2 : σ 9 (7 * x1 + 2) = σ 82 x1 := q.2.2.1
  have q4 : σ 9 (7 * x1 + 4) = σ 84 x1 := q.2.2.2.2.1
  apply zOK_mk2
  · simp (disch := first | omega | (simp (disch := omega) only [z_up_fn, z_up_ni, z_up_eq, z_up_qi, z_rw_fn] <;> omega) | fail) only [e_124_0, e_124_11, e_124_28, e_124_20, e_124_47, e_124_50, s_has_8, s_133, e_3_0, e_3_20, e_3_33, e_3_46, e_3_61, s_get_8, q1, q2, q4, w_nt0, c_act_3_2, e_131_0, Option.bind_some, Int.add_zero, z_wid, or_true, true_or, z_up_fn, z_up_ni, z_up_eq, z_up_qi, z_rw_fn, z_rw_in, z_rw_out, if_pos, if_neg, ↓reduceIte]
    exact w_ret rfl
  · intro k hk
    unfold w_nt
    simp (disch := omega) only [z_up_fn, z_rw_fn]
  · intro τ hτ
    simp (disch := first | omega | (simp (disch := omega) only [hτ] <;> omega) | fail) only [e_223_0, e_223_5, e_223_22, e_223_14, e_223_43, e_223_57, e_223_71, e_223_80, s_155, s_149, w_mt0, m_act_3_2, hτ, Option.bind_some, Int.add_zero, z_wid, or_true, true_or, z_up_fn, z_up_ni, z_up_eq, z_up_qi, z_rw_fn, z_rw_in, z_rw_out, if_pos, if_neg, ↓reduceIte, Int.reduceEq]
    exact w_ret rfl
  · exact w_act h x1 3 _ _ _ (by decide)
theorem o_act_3_3 (d : Nat) (s : Int → Int) (L : Int) (σ : Nat → Int → Int) (h : zV s L σ) (x1 x3 : Int) (c1 : 0 ≤ x1 ∧ x1 < σ 8 3) (hk : σ 81 x1 = 3) : zOK s L (d + 29) 124 223 [some (.inl x1), some (.inl 3), some (.inl x3)] [some (.inl x1), some (.inl 3), some (.inl x3)] σ := by
  have hwS := zV_wS h
  have hS := (zV_S h).1
  have hS1 := (zV_S h).2.1
  have hS2 := (zV_S h).2.2.1
  have q := (zV_S h).2.2.2 x1 c1.1 (by omega)
  have q1 : σ 9 (7 * x1 + 1) = 3 := by rw [q.2.1]; exact hk
  have q2 : σ 9 (7 * x1 + 2) = σ 82 x1 := q.2.2.1
  have q4 : σ 9 (7 * x1 + 4) = σ 84 x1 := q.2.2.2.2.1
  apply zOK_mk2
  · simp (disch := first | omega | (simp (disch := omega) only [z_up_fn, z_up_ni, z_up_eq, z_up_qi, z_rw_fn] <;> omega) | fail) only [e_124_0, e_124_11, e_124_28, e_124_20, e_124_47, e_124_50, s_has_8, s_133, e_3_0, e_3_20, e_3_33, e_3_46, e_3_61, s_get_8, q1, q2, q4, w_nt0, c_act_3_3, e_131_0, Option.bind_some, Int.add_zero, z_wid, or_true, true_or, z_up_fn, z_up_ni, z_up_eq, z_up_qi, z_rw_fn, z_rw_in, z_rw_out, if_pos, if_neg, ↓reduceIte]
    exact w_ret rfl
  · intro k hk
    unfold w_nt
    simp (disch := omega) only [z_up_fn, z_rw_fn]
  · intro τ hτ
    simp (disch := first | omega | (simp (disch := omega) only [hτ] <;> omega) | fail) only [e_223_0, e_223_5, e_223_22, e_223_14, e_223_43, e_223_57, e_223_71, e_223_80, s_155, s_149, w_mt0, m_act_3_3, hτ, Option.bind_some, Int.add_zero, z_wid, or_true, true_or, z_up_fn, z_up_ni, z_up_eq, z_up_qi, z_rw_fn, z_rw_in, z_rw_out, if_pos, if_neg, ↓reduceIte, Int.reduceEq]
    exact w_ret rfl
  · exact w_act h x1 3 _ _ _ (by decide)
theorem o_act_4_0 (d : Nat) (s : Int → Int) (L : Int) (σ : Nat → Int → Int) (h : zV s L σ) (x1 x3 : Int) (c1 : 0 ≤ x1 ∧ x1 < σ 8 3) (hk : σ 81 x1 = 4) : zOK s L (d + 29) 124 223 [some (.inl x1), some (.inl 0), some (.inl x3)] [some (.inl x1), some (.inl 0), some (.inl x3)] σ := by
  have hwS := zV_wS h
  have hS := (zV_S h).1
  have hS1 := (zV_S h).2.1
  have hS2 := (zV_S h).2.2.1
  have q := (zV_S h).2.2.2 x1 c1.1 (by omega)
  have q1 : σ 9 (7 * x1 + 1) = 4 := by rw [q.2.1]; exact hk
  have q2 : σ 9 (7 * x1 + 2) = σ 82 x1 := q.2.2.1
  have q4 : σ 9 (7 * x1 + 4) = σ 84 x1 := q.2.2.2.2.1
  apply zOK_mk2
  · simp (disch := first | omega | (simp (disch := omega) only [z_up_fn, z_up_ni, z_up_eq, z_up_qi, z_rw_fn] <;> omega) | fail) only [e_124_0, e_124_11, e_124_28, e_124_20, e_124_47, e_124_50, s_has_8, s_133, e_3_0, e_3_20, e_3_33, e_3_46, e_3_61, s_get_8, q1, q2, q4, w_nt0, c_act_4_0, e_131_0, Option.bind_some, Int.add_zero, z_wid, or_true, true_or, z_up_fn, z_up_ni, z_up_eq, z_up_qi, z_rw_fn, z_rw_in, z_rw_out, if_pos, if_neg, ↓reduceIte]
    exact w_ret rfl
  · intro k hk
    unfold w_nt
    simp (disch := omega) only [z_up_fn, z_rw_fn]
  · intro τ hτ
    simp (disch := first | omega | (simp (disch := omega) only [hτ] <;> omega) | fail) only [e_223_0, e_223_5, e_223_22, e_223_14, e_223_43, e_223_57, e_223_71, e_223_80, s_155, s_149, w_mt0, m_act_4_0, hτ, Option.bind_some, Int.add_zero, z_wid, or_true, true_or, z_up_fn, z_up_ni, z_up_eq, z_up_qi, z_rw_fn, z_rw_in, z_rw_out, if_pos, if_neg, ↓reduceIte, Int.reduceEq]
    exact w_ret rfl
  · exact w_act h x1 4 _ _ _ (by decide)
theorem o_act_4_1 (d : Nat) (s : Int → Int) (L : Int) (σ : Nat → Int → Int) (h : zV s L σ) (x1 x3 : Int) (c1 : 0 ≤ x1 ∧ x1 < σ 8 3) (hk : σ 81 x1 = 4) : zOK s L (d + 29) 124 223 [some (.inl x1), some (.inl 1), some (.inl x3)] [some (.inl x1), some (.inl 1), some (.inl x3)] σ := by
  have hwS := zV_wS h
  have hS := (zV_S h).1
  have hS1 := (zV_S h).2.1
  have hS2 := (zV_S h).2.2.1
  have q := (zV_S h).2.2.2 x1 c1.1 (by omega)
  have q1 : σ 9 (7 * x1 + 1) = 4 := by rw [q.2.1]; exact hk
  have q2 : σ 9 (7 * x1 + 2) = σ 82 x1 := q.2.2.1
  have q4 : σ 9 (7 * x1 + 4) = σ 84 x1 := q.2.2.2.2.1
  apply zOK_mk2
  · simp (disch := first | omega | (simp (disch := omega) only [z_up_fn, z_up_ni, z_up_eq, z_up_qi, z_rw_fn] <;> omega) | fail) only [e_124_0, e_124_11, e_124_28, e_124_20, e_124_47, e_124_50, s_has_8, s_133, e_3_0, e_3_20, e_3_33, e_3_46, e_3_61, s_get_8, q1, q2, q4, w_nt0, c_act_4_1, e_131_0, Option.bind_some, Int.add_zero, z_wid, or_true, true_or, z_up_fn, z_up_ni, z_up_eq, z_up_qi, z_rw_fn, z_rw_in, z_rw_out, if_pos, if_neg, ↓reduceIte]
    exact w_ret rfl
  · intro k hk
    unfold w_nt
    simp (disch := omega) only [z_up_fn, z_rw_fn]
  · intro τ hτ
    simp (disch := first | omega | (simp (disch := omega) only [hτ] <;> omega) | fail) only [e_223_0, e_223_5, e_223_22, e_223_14, e_223_43, e_223_57, e_223_71, e_223_80, s_155, s_149, w_mt0, m_act_4_1, hτ, Option.bind_some, Int.add_zero, z_wid, or_true, true_or, z_up_fn, z_up_ni, z_up_eq, z_up_qi, z_rw_fn, z_rw_in, z_rw_out, if_pos, if_neg, ↓reduceIte, Int.reduceEq]
    exact w_ret rfl
  · exact w_act h x1 4 _ _ _ (by decide)
theorem o_act_4_2 (d : Nat) (s : Int → Int) (L : Int) (σ : Nat → Int → Int) (h : zV s L σ) (x1 x3 : Int) (c1 : 0 ≤ x1 ∧ x1 < σ 8 3) (hk : σ 81 x1 = 4) : zOK s L (d + 29) 124 223 [some (.inl x1), some (.inl 2), some (.inl x3)] [some (.inl x1), some (.inl 2), some (.inl x3)] σ := by
  have hwS := zV_wS h
  have hS := (zV_S h).1
  have hS1 := (zV_S h).2.1
  have hS2 := (zV_S h).2.2.1
  have q := (zV_S h).2.2.2 x1 c1.1 (by omega)
  have q1 : σ 9 (7 * x1 + 1) = 4 := by rw [q.2.1]; exact hk
  have q2 : σ 9 (7 * x1 + 2) = σ 82 x1 := q.2.2.1
  have q4 : σ 9 (7 * x1 + 4) = σ 84 x1 := q.2.2.2.2.1
  apply zOK_mk2
  · simp (disch := first | omega | (simp (disch := omega) only [z_up_fn, z_up_ni, z_up_eq, z_up_qi, z_rw_fn] <;> omega) | fail) only [e_124_0, e_124_11, e_124_28, e_124_20, e_124_47, e_124_50, s_has_8, s_133, e_3_0, e_3_20, e_3_33, e_3_46, e_3_61, s_get_8, q1, q2, q4, w_nt0, c_act_4_2, e_131_0, Option.bind_some, Int.add_zero, z_wid, or_true, true_or, z_up_fn, z_up_ni, z_up_eq, z_up_qi, z_rw_fn, z_rw_in, z_rw_out, if_pos, if_neg, ↓reduceIte]
    exact w_ret rfl
  · intro k hk
    unfold w_nt
    simp (disch := omega) only [z_up_fn, z_rw_fn]
  · intro τ hτ
    simp (disch := first | omega | (simp (disch := omega) only [hτ] <;> omega) | fail) only [e_223_0, e_223_5, e_223_22, e_223_14, e_223_43, e_223_57, e_223_71, e_223_80, s_155, s_149, w_mt0, m_act_4_2, hτ, Option.bind_some, Int.add_zero, z_wid, or_true, true_or, z_up_fn, z_up_ni, z_up_eq, z_up_qi, z_rw_fn, z_rw_in, z_rw_out, if_pos, if_neg, ↓reduceIte, Int.reduceEq]
    exact w_ret rfl
  · exact w_act h x1 4 _ _ _ (by decide)
theorem o_act_4_3 (d : Nat) (s : Int → Int) (L : Int) (σ : Nat → Int → Int) (h : zV s L σ) (x1 x3 : Int) (c1 : 0 ≤ x1 ∧ x1 < σ 8 3) (hk : σ 81 x1 = 4) : zOK s L (d + 29) 124 223 [some (.inl x1), some (.inl 3), some (.inl x3)] [some (.inl x1), some (.inl 3), some (.inl x3)] σ := by
  have hwS := zV_wS h
  have hS := (zV_S h).1
  have hS1 := (zV_S h).2.1
  have hS2 := (zV_S h).2.2.1
  have q := (zV_S h).2.2.2 x1 c1.1 (by omega)
  have q1 : σ 9 (7 * x1 + 1) = 4 := by rw [q.2.1]; exact hk
  have q2 : σ 9 (7 * x1 + 2) = σ 82 x1 := q.2.2.1
  have q4 : σ 9 (7 * x1 + 4) = σ 84 x1 := q.2.2.2.2.1
  apply zOK_mk2
  · simp (disch := first | omega | (simp (disch := omega) only [z_up_fn, z_up_ni, z_up_eq, z_up_qi, z_rw_fn] <;> omega) | fail) only [e_124_0, e_124_11, e_124_28, e_124_20, e_124_47, e_124_50, s_has_8, s_133, e_3_0, e_3_20, e_3_33, e_3_46, e_3_61, s_get_8, q1, q2, q4, w_nt0, c_act_4_3, e_131_0, Option.bind_some, Int.add_zero, z_wid, or_true, true_or, z_up_fn, z_up_ni, z_up_eq, z_up_qi, z_rw_fn, z_rw_in, z_rw_out, if_pos, if_neg, ↓reduceIte]
    exact w_ret rfl
  · intro k hk
    unfold w_nt
    simp (disch := omega) only [z_up_fn, z_rw_fn]
  · intro τ hτ
    simp (disch := first | omega | (simp (disch := omega) only [hτ] <;> omega) | fail) only [e_223_0, e_223_5, e_223_22, e_223_14, e_223_43, e_223_57, e_223_71, e_223_80, s_155, s_149, w_mt0, m_act_4_3, hτ, Option.bind_some, Int.add_zero, z_wid, or_true, true_or, z_up_fn, z_up_ni, z_up_eq, z_up_qi, z_rw_fn, z_rw_in, z_rw_out, if_pos, if_neg, ↓reduceIte, Int.reduceEq]
    exact w_ret rfl
  · exact w_act h x1 4 _ _ _ (by decide)
theorem o_act_5_0 (d : Nat) (s : Int → Int) (L : Int) (σ : Nat → Int → Int) (h : zV s L σ) (x1 x3 : Int) (c1 : 0 ≤ x1 ∧ x1 < σ 8 3) (hk : σ 81 x1 = 5) : zOK s L (d + 29) 124 223 [some (.inl x1), some (.inl 0), some (.inl x3)] [some (.inl x1), some (.inl 0), some (.inl x3)] σ := by
  have hwS := zV_wS h
  have hS := (zV_S h).1
  have hS1 := (zV_S h).2.1
  have hS2 := (zV_S h).2.2.1
  have q := (zV_S h).2.2.2 x1 c1.1 (by omega)
  have q1 : σ 9 (7 * x1 + 1) = 5 := by rw [q.2.1]; exact hk
  have q2 : σ 9 (7 * x1 + 2) = σ 82 x1 := q.2.2.1
  have q4 : σ 9 (7 * x1 + 4) = σ 84 x1 := q.2.2.2.2.1
  apply zOK_mk2
  · simp (disch := first | omega | (simp (disch := omega) only [z_up_fn, z_up_ni, z_up_eq, z_up_qi, z_rw_fn] <;> omega) | fail) only [e_124_0, e_124_11, e_124_28, e_124_20, e_124_47, e_124_50, s_has_8, s_133, e_3_0, e_3_20, e_3_33, e_3_46, e_3_61, s_get_8, q1, q2, q4, w_nt0, c_act_5_0, e_131_0, Option.bind_some, Int.add_zero, z_wid, or_true, true_or, z_up_fn, z_up_ni, z_up_eq, z_up_qi, z_rw_fn, z_rw_in, z_rw_out, if_pos, if_neg, ↓reduceIte]
    exact w_ret rfl
  · intro k hk
    unfold w_nt
    simp (disch := omega) only [z_up_fn, z_rw_fn]
  · intro τ hτ
    simp (disch := first | omega | (simp (disch := omega) only [hτ] <;> omega) | fail) only [e_223_0, e_223_5, e_223_22, e_223_14, e_223_43, e_223_57, e_223_71, e_223_80, s_155, s_149, w_mt0, m_act_5_0, hτ, Option.bind_some, Int.add_zero, z_wid, or_true, true_or, z_up_fn, z_up_ni, z_up_eq, z_up_qi, z_rw_fn, z_rw_in, z_rw_out, if_pos, if_neg, ↓reduceIte, Int.reduceEq]
    exact w_ret rfl
  · exact w_act h x1 5 _ _ _ (by decide)
theorem o_act_5_1 (d : Nat) (s : Int → Int) (L : Int) (σ : Nat → Int → Int) (h : zV s L σ) (x1 x3 : Int) (c1 : 0 ≤ x1 ∧ x1 < σ 8 3) (hk : σ 81 x1 = 5) : zOK s L (d + 29) 124 223 [some (.inl x1), some (.inl 1), some (.inl x3)] [some (.inl x1), some (.inl 1), some (.inl x3)] σ := by
  have hwS := zV_wS h
  have hS := (zV_S h).1
  have hS1 := (zV_S h).2.1
  have hS2 := (zV_S h).2.2.1
  have q := (zV_S h).2.2.2 x1 c1.1 (by omega)
  have q1 : σ 9 (7 * x1 + 1) = 5 := by rw [q.2.1]; exact hk
  have q2 : σ 9 (7 * x1 + 2) = σ 82 x1 := q.2.2.1
  have q4 : σ 9 (7 * x1 + 4) = σ 84 x1 := q.2.2.2.2.1
  apply zOK_mk2
  · simp (disch := first | omega | (simp (disch := omega) only [z_up_fn, z_up_ni, z_up_eq, z_up_qi, z_rw_fn] <;> omega) | fail) only [e_124_0, e_124_11, e_124_28, e_124_20, e_124_47, e_124_50, s_has_8, s_133, e_3_0, e_3_20, e_3_33, e_3_46, e_3_61, s_get_8, q1, q2, q4, w_nt0, c_act_5_1, e_131_0, Option.bind_some, Int.add_zero, z_wid, or_true, true_or, z_up_fn, z_up_ni, z_up_eq, z_up_qi, z_rw_fn, z_rw_in, z_rw_out, if_pos, if_neg, ↓reduceIte]
    exact w_ret rfl
  · intro k hk
    unfold w_nt
    simp (disch := omega) only [z_up_fn, z_rw_fn]
  · intro τ hτ
    simp (disch := first | omega | (simp (disch := omega) only [hτ] <;> omega) | fail) only [e_223_0, e_223_5, e_223_22, e_223_14, e_223_43, e_223_57, e_223_71, e_223_80, s_155, s_149, w_mt0, m_act_5_1, hτ, Option.bind_some, Int.add_zero, z_wid, or_true, true_or, z_up_fn, z_up_ni, z_up_eq, z_up_qi, z_rw_fn, z_rw_in, z_rw_out, if_pos, if_neg, ↓reduceIte, Int.reduceEq]
    exact w_ret rfl
  · exact w_act h x1 5 _ _ _ (by decide)
theorem o_act_5_2 (d : Nat) (s : Int → Int) (L : Int) (σ : Nat → Int → Int) (h : zV s L σ) (x1 x3 : Int) (c1 : 0 ≤ x1 ∧ x1 < σ 8 3) (hk : σ 81 x1 = 5) : zOK s L (d + 29) 124 223 [some (.inl x1), some (.inl 2), some (.inl x3)] [some (.inl x1), some (.inl 2), some (.inl x3)] σ := by
  have hwS := zV_wS h
  have hS := (zV_S h).1
  have hS1 := (zV_S h).2.1
  have hS2 := (zV_S h).2.2.1
  have q := (zV_S h).2.2.2 x1 c1.1 (by omega)
  have q1 : σ 9 (7 * x1 + 1) = 5 := by rw [q.2.1]; exact hk
  have q2 : σ 9 (7 * x1 + 2) = σ 82 x1 := q.2.2.1
  have q4 : σ 9 (7 * x1 + 4) = σ 84 x1 := q.2.2.2.2.1
  apply zOK_mk2
  · simp (disch := first | omega | (simp (disch := omega) only [z_up_fn, z_up_ni, z_up_eq, z_up_qi, z_rw_fn] <;> omega) | fail) only [e_124_0, e_124_11, e_124_28, e_124_20, e_124_47, e_124_50, s_has_8, s_133, e_3_0, e_3_20, e_3_33, e_3_46, e_3_61, s_get_8, q1, q2, q4, w_nt0, c_act_5_2, e_131_0, Option.bind_some, Int.add_zero, z_wid, or_true, true_or, z_up_fn, z_up_ni, z_up_eq, z_up_qi, z_rw_fn, z_rw_in, z_rw_out, if_pos, if_neg, ↓reduceIte]
    exact w_ret rfl
  · intro k hk
    unfold w_nt
    simp (disch := omega) only [z_up_fn, z_rw_fn]
  · intro τ hτ
    simp (disch := first | omega | (simp (disch := omega) only [hτ] <;> omega) | fail) only [e_223_0, e_223_5, e_223_22, e_223_14, e_223_43, e_223_57, e_223_71, e_223_80, s_155, s_149, w_mt0, m_act_5_2, hτ, Option.bind_some, Int.add_zero, z_wid, or_true, true_or, z_up_fn, z_up_ni, z_up_eq, z_up_qi, z_rw_fn, z_rw_in, z_rw_out, if_pos, if_neg, ↓reduceIte, Int.reduceEq]
    exact w_ret rfl
  · exact w_act h x1 5 _ _ _ (by decide)
theorem o_act_5_3 (d : Nat) (s : Int → Int) (L : Int) (σ : Nat → Int → Int) (h : zV s L σ) (x1 x3 : Int) (c1 : 0 ≤ x1 ∧ x1 < σ 8 3) (hk : σ 81 x1 = 5) : zOK s L (d + 29) 124 223 [some (.inl x1), some (.inl 3), some (.inl x3)] [some (.inl x1), some (.inl 3), some (.inl x3)] σ := by
  have hwS := zV_wS h
  have hS := (zV_S h).1
  have hS1 := (zV_S h).2.1
  have hS2 := (zV_S h).2.2.1
  have q := (zV_S h).2.2.2 x1 c1.1 (by omega)
  have q1 : σ 9 (7 * x1 + 1) = 5 := by rw [q.2.1]; exact hk
  have q2 : σ 9 (7 * x1 + 2) = σ 82 x1 := q.2.2.1
  have q4 : σ 9 (7 * x1 + 4) = σ 84 x1 := q.2.2.2.2.1
  apply zOK_mk2
  · simp (disch := first | omega | (simp (disch := omega) only [z_up_fn, z_up_ni, z_up_eq, z_up_qi, z_rw_fn] <;> omega) | fail) only [e_124_0, e_124_11, e_124_28, e_124_20, e_124_47, e_124_50, s_has_8, s_133, e_3_0, e_3_20, e_3_33, e_3_46, e_3_61, s_get_8, q1, q2, q4, w_nt0, c_act_5_3, e_131_0, Option.bind_some, Int.add_zero, z_wid, or_true, true_or, z_up_fn, z_up_ni, z_up_eq, z_up_qi, z_rw_fn, z_rw_in, z_rw_out, if_pos, if_neg, ↓reduceIte]
    exact w_ret rfl
  · intro k hk
    unfold w_nt
    simp (disch := omega) only [z_up_fn, z_rw_fn]
  · intro τ hτ
    simp (disch := first | omega | (simp (disch := omega) only [hτ] <;> omega) | fail) only [e_223_0, e_223_5, e_223_22, e_223_14, e_223_43, e_223_57, e_223_71, e_223_80, s_155, s_149, w_mt0, m_act_5_3, hτ, Option.bind_some, Int.add_zero, z_wid, or_true, true_or, z_up_fn, z_up_ni, z_up_eq, z_up_qi, z_rw_fn, z_rw_in, z_rw_out, if_pos, if_neg, ↓reduceIte, Int.reduceEq]
    exact w_ret rfl
  · exact w_act h x1 5 _ _ _ (by decide)
theorem o_actx (d : Nat) (s : Int → Int) (L : Int) (σ : Nat → Int → Int) (h : zV s L σ) (x1 x2 x3 : Int) (hn : ¬ (0 ≤ x1 ∧ x1 < σ 8 3)) : zOK s L (d + 9) 124 223 [some (.inl x1), some (.inl x2), some (.inl x3)] [some (.inl x1), some (.inl x2), some (.inl x3)] σ := by
  have hwS := zV_wS h
  have hS := (zV_S h).1
  have hS1 := (zV_S h).2.1
  have hS2 := (zV_S h).2.2.1
  apply zOK_mk2
  · simp (disch := first | omega | (simp (disch := omega) only [z_up_fn, z_up_ni, z_up_eq, z_up_qi, z_rw_fn] <;> omega) | fail) only [e_124_0, e_124_11, e_124_28, e_124_20, e_124_47, e_124_50, s_has_8, s_133, e_131_0, e_132_0, Option.bind_some, Int.add_zero, z_wid, or_true, true_or, z_up_fn, z_up_ni, z_up_eq, z_up_qi, z_rw_fn, z_rw_in, z_rw_out, if_pos, if_neg, ↓reduceIte]
    exact w_ret rfl
  · intro k hk
    simp (disch := omega) only [z_up_fn, z_rw_fn]
  · intro τ hτ
    simp (disch := first | omega | (simp (disch := omega) only [hτ] <;> omega) | fail) only [e_223_0, e_223_5, e_223_22, e_223_14, e_223_43, e_223_57, e_223_71, e_223_80, s_155, s_149, e_150_0, hτ, Option.bind_some, Int.add_zero, z_wid, or_true, true_or, z_up_fn, z_up_ni, z_up_eq, z_up_qi, z_rw_fn, z_rw_in, z_rw_out, if_pos, if_neg, ↓reduceIte]
    exact w_ret (by omega)
  · skip
    exact w_ref h 1
theorem o_acty (d : Nat) (s : Int → Int) (L : Int) (σ : Nat → Int → Int) (h : zV s L σ) (x1 x2 x3 : Int) (hn : ¬ (0 ≤ x2 ∧ x2 ≤ 3)) : zOK s L (d + 9) 124 223 [some (.inl x1), some (.inl x2), some (.inl x3)] [some (.inl x1), some (.inl x2), some (.inl x3)] σ := by
  have hwS := zV_wS h
  have hS := (zV_S h).1
  have hS1 := (zV_S h).2.1
  have hS2 := (zV_S h).2.2.1
  by_cases c1 : 0 ≤ x1 ∧ x1 < σ 8 3
  · apply zOK_mk2
    · simp (disch := first | omega | (simp (disch := omega) only [z_up_fn, z_up_ni, z_up_eq, z_up_qi, z_rw_fn] <;> omega) | fail) only [e_124_0, e_124_11, e_124_28, e_124_20, e_124_47, e_124_50, s_has_8, s_133, e_131_0, e_132_0, Option.bind_some, Int.add_zero, z_wid, or_true, true_or, z_up_fn, z_up_ni, z_up_eq, z_up_qi, z_rw_fn, z_rw_in, z_rw_out, if_pos, if_neg, ↓reduceIte]
      exact w_ret rfl
    · intro k hk
      simp (disch := omega) only [z_up_fn, z_rw_fn]
    · intro τ hτ
      simp (disch := first | omega | (simp (disch := omega) only [hτ] <;> omega) | fail) only [e_223_0, e_223_5, e_223_22, e_223_14, e_223_43, e_223_57, e_223_71, e_223_80, s_155, s_149, e_150_0, hτ, Option.bind_some, Int.add_zero, z_wid, or_true, true_or, z_up_fn, z_up_ni, z_up_eq, z_up_qi, z_rw_fn, z_rw_in, z_rw_out, if_pos, if_neg, ↓reduceIte]
      exact w_ret (by omega)
    · skip
      exact w_ref h 1
  · apply zOK_mk2
    · simp (disch := first | omega | (simp (disch := omega) only [z_up_fn, z_up_ni, z_up_eq, z_up_qi, z_rw_fn] <;> omega) | fail) only [e_124_0, e_124_11, e_124_28, e_124_20, e_124_47, e_124_50, s_has_8, s_133, e_131_0, e_132_0, Option.bind_some, Int.add_zero, z_wid, or_true, true_or, z_up_fn, z_up_ni, z_up_eq, z_up_qi, z_rw_fn, z_rw_in, z_rw_out, if_pos, if_neg, ↓reduceIte]
      exact w_ret rfl
    · intro k hk
      simp (disch := omega) only [z_up_fn, z_rw_fn]
    · intro τ hτ
      simp (disch := first | omega | (simp (disch := omega) only [hτ] <;> omega) | fail) only [e_223_0, e_223_5, e_223_22, e_223_14, e_223_43, e_223_57, e_223_71, e_223_80, s_155, s_149, e_150_0, hτ, Option.bind_some, Int.add_zero, z_wid, or_true, true_or, z_up_fn, z_up_ni, z_up_eq, z_up_qi, z_rw_fn, z_rw_in, z_rw_out, if_pos, if_neg, ↓reduceIte]
      exact w_ret rfl
    · exact w_ref h 1
theorem o_act (d : Nat) (s : Int → Int) (L : Int) (σ : Nat → Int → Int) (h : zV s L σ) (x1 x2 x3 : Int) : zOK s L (d + 29) 124 223 [some (.inl x1), some (.inl x2), some (.inl x3)] [some (.inl x1), some (.inl x2), some (.inl x3)] σ := by
  by_cases c1 : 0 ≤ x1 ∧ x1 < σ 8 3
  · by_cases c2 : 0 ≤ x2 ∧ x2 ≤ 3
    · have q := (zV_S h).2.2.2 x1 c1.1 (by have := (zV_S h).1; omega)
      have e : x2 = 0 ∨ x2 = 1 ∨ x2 = 2 ∨ x2 = 3 := by omega
      have f : σ 81 x1 = 0 ∨ σ 81 x1 = 1 ∨ σ 81 x1 = 2 ∨ σ 81 x1 = 3 ∨ σ 81 x1 = 4 ∨ σ 81 x1 = 5 := by omega
      rcases e with e | e | e | e <;> subst e <;> rcases f with f | f | f | f | f | f
      · exact o_act_0_0 d s L σ h x1 x3 c1 f
      · exact o_act_1_0 d s L σ h x1 x3 c1 f
      · exact o_act_2_0 d s L σ h x1 x3 c1 f
      · exact o_act_3_0 d s L σ h x1 x3 c1 f
      · exact o_act_4_0 d s L σ h x1 x3 c1 f
      · exact o_act_5_0 d s L σ h x1 x3 c1 f
      · exact o_act_0_1 d s L σ h x1 x3 c1 f
      · exact o_act_1_1 d s L σ h x1 x3 c1 f
      · exact o_act_2_1 d s L σ h x1 x3 c1 f
      · exact o_act_3_1 d s L σ h x1 x3 c1 f
      · exact o_act_4_1 d s L σ h x1 x3 c1 f
      · exact o_act_5_1 d s L σ h x1 x3 c1 f
      · exact o_act_0_2 d s L σ h x1 x3 c1 f
      · exact o_act_1_2 d s L σ h x1 x3 c1 f
      · exact o_act_2_2 d s L σ h x1 x3 c1 f
      · exact o_act_3_2 d s L σ h x1 x3 c1 f
      · exact o_act_4_2 d s L σ h x1 x3 c1 f
      · exact o_act_5_2 d s L σ h x1 x3 c1 f
      · exact o_act_0_3 d s L σ h x1 x3 c1 f
      · exact o_act_1_3 d s L σ h x1 x3 c1 f
      · exact o_act_2_3 d s L σ h x1 x3 c1 f
      · exact o_act_3_3 d s L σ h x1 x3 c1 f
      · exact o_act_4_3 d s L σ h x1 x3 c1 f
      · exact o_act_5_3 d s L σ h x1 x3 c1 f
    · exact o_acty (d + 20) s L σ h x1 x2 x3 c2
  · exact o_actx (d + 20) s L σ h x1 x2 x3 c1
