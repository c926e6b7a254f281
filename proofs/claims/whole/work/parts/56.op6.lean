theorem o_opens (d : Nat) (s : Int → Int) (L : Int) (σ : Nat → Int → Int) (h : zV s L σ) (p u m a : Int) : zOK s L (d + 9) 113 172 [some (.inl p), some (.inl u), some (.inl m), some (.inl a)] [some (.inl p), some (.inl u), some (.inl m), some (.inl a)] σ := by
  have hwS := zV_wS h
  have hS := (zV_S h).1
  have hS1 := (zV_S h).2.1
  have hS2 := (zV_S h).2.2.1
  have hwD := zV_wD h
  have hD := (zV_D h).1
  have hD1 := (zV_D h).2.1
  have hD2 := (zV_D h).2.2.1
  by_cases c1 : 0 ≤ p ∧ p < σ 8 3
  · by_cases c2 : 0 ≤ u ∧ u < σ 6 3
    · by_cases c3 : 0 ≤ m ∧ m ≤ 28799
      · by_cases c4 : 0 ≤ a ∧ a ≤ 28799
        · have g1 := s_25 (d + 3) h p u m a (by omega) (by omega) c3
          have g2 := s_171 (d + 3) h (fun _ _ => rfl) p u m a (by omega) (by omega) c3
          apply zOK_ro h
          · simp (disch := omega) only [e_113_0, e_113_11, e_113_25, e_113_34, e_113_42, e_113_59, s_has_8, s_has_6, s_135, g1, Option.bind_some, Int.add_zero, z_wid, or_true, true_or, z_up_fn, z_up_ni, z_up_eq, z_up_qi, z_rw_fn, z_rw_in, z_rw_out, if_pos, if_neg, ↓reduceIte] <;> exact w_ret rfl
          · simp (disch := omega) only [e_172_0, e_172_5, e_172_13, e_172_20, e_172_28, e_172_40, s_155, s_154, s_156, g2, Option.bind_some, Int.add_zero, z_wid, or_true, true_or, z_up_fn, z_up_ni, z_up_eq, z_up_qi, z_rw_fn, z_rw_in, z_rw_out, if_pos, if_neg, ↓reduceIte] <;> exact w_ret (by rfl)
        · apply zOK_ro h
          · simp (disch := omega) only [e_113_0, e_113_11, e_113_25, e_113_34, e_113_42, e_113_59, s_has_8, s_has_6, s_135, Option.bind_some, Int.add_zero, z_wid, or_true, true_or, z_up_fn, z_up_ni, z_up_eq, z_up_qi, z_rw_fn, z_rw_in, z_rw_out, if_pos, if_neg, ↓reduceIte] <;> exact w_ret rfl
          · simp (disch := omega) only [e_172_0, e_172_5, e_172_13, e_172_20, e_172_28, e_172_40, s_155, s_154, s_156, Option.bind_some, Int.add_zero, z_wid, or_true, true_or, z_up_fn, z_up_ni, z_up_eq, z_up_qi, z_rw_fn, z_rw_in, z_rw_out, if_pos, if_neg, ↓reduceIte] <;> exact w_ret (by rfl)
      · apply zOK_ro h
        · simp (disch := omega) only [e_113_0, e_113_11, e_113_25, e_113_34, e_113_42, e_113_59, s_has_8, s_has_6, s_135, Option.bind_some, Int.add_zero, z_wid, or_true, true_or, z_up_fn, z_up_ni, z_up_eq, z_up_qi, z_rw_fn, z_rw_in, z_rw_out, if_pos, if_neg, ↓reduceIte] <;> exact w_ret rfl
        · simp (disch := omega) only [e_172_0, e_172_5, e_172_13, e_172_20, e_172_28, e_172_40, s_155, s_154, s_156, Option.bind_some, Int.add_zero, z_wid, or_true, true_or, z_up_fn, z_up_ni, z_up_eq, z_up_qi, z_rw_fn, z_rw_in, z_rw_out, if_pos, if_neg, ↓reduceIte] <;> exact w_ret (by rfl)
    · apply zOK_ro h
      · simp (disch := omega) only [e_113_0, e_113_11, e_113_25, e_113_34, e_113_42, e_113_59, s_has_8, s_has_6, s_135, Option.bind_some, Int.add_zero, z_wid, or_true, true_or, z_up_fn, z_up_ni, z_up_eq, z_up_qi, z_rw_fn, z_rw_in, z_rw_out, if_pos, if_neg, ↓reduceIte] <;> exact w_ret rfl
      · simp (disch := omega) only [e_172_0, e_172_5, e_172_13, e_172_20, e_172_28, e_172_40, s_155, s_154, s_156, Option.bind_some, Int.add_zero, z_wid, or_true, true_or, z_up_fn, z_up_ni, z_up_eq, z_up_qi, z_rw_fn, z_rw_in, z_rw_out, if_pos, if_neg, ↓reduceIte] <;> exact w_ret (by rfl)
  · apply zOK_ro h
    · simp (disch := omega) only [e_113_0, e_113_11, e_113_25, e_113_34, e_113_42, e_113_59, s_has_8, s_has_6, s_135, Option.bind_some, Int.add_zero, z_wid, or_true, true_or, z_up_fn, z_up_ni, z_up_eq, z_up_qi, z_rw_fn, z_rw_in, z_rw_out, if_pos, if_neg, ↓reduceIte] <;> exact w_ret rfl
    · simp (disch := omega) only [e_172_0, e_172_5, e_172_13, e_172_20, e_172_28, e_172_40, s_155, s_154, s_156, Option.bind_some, Int.add_zero, z_wid, or_true, true_or, z_up_fn, z_up_ni, z_up_eq, z_up_qi, z_rw_fn, z_rw_in, z_rw_out, if_pos, if_neg, ↓reduceIte] <;> exact w_ret (by rfl)
theorem o_why (d : Nat) (s : Int → Int) (L : Int) (σ : Nat → Int → Int) (h : zV s L σ) (p u m a : Int) : zOK s L (d + 9) 114 173 [some (.inl p), some (.inl u), some (.inl m), some (.inl a)] [some (.inl p), some (.inl u), some (.inl m), some (.inl a)] σ := by
  have hwS := zV_wS h
  have hS := (zV_S h).1
  have hS1 := (zV_S h).2.1
  have hS2 := (zV_S h).2.2.1
  have hwZ := zV_wZ h
  have hZ := (zV_Z h).1
  have hZ1 := (zV_Z h).2.1
  have hZ2 := (zV_Z h).2.2.1
  by_cases c1 : 0 ≤ p ∧ p < σ 8 3
  · by_cases c2 : 0 ≤ u ∧ u < σ 4 3
    · by_cases c3 : 0 ≤ m ∧ m ≤ 28799
      · by_cases c4 : 0 ≤ a ∧ a ≤ 28799
        · have g1 := s_30 (d + 5) h p u m a (by omega) c3
          have g2 := s_170 (d + 5) h (fun _ _ => rfl) p u m a (by omega) c3
          apply zOK_ro h
          · simp (disch := omega) only [e_114_0, e_114_11, e_114_25, e_114_34, e_114_42, e_114_59, s_has_8, s_has_4, s_135, g1, Option.bind_some, Int.add_zero, z_wid, or_true, true_or, z_up_fn, z_up_ni, z_up_eq, z_up_qi, z_rw_fn, z_rw_in, z_rw_out, if_pos, if_neg, ↓reduceIte] <;> exact w_ret rfl
          · simp (disch := omega) only [e_173_0, e_173_5, e_173_13, e_173_20, e_173_28, e_173_40, s_155, s_153, s_156, g2, Option.bind_some, Int.add_zero, z_wid, or_true, true_or, z_up_fn, z_up_ni, z_up_eq, z_up_qi, z_rw_fn, z_rw_in, z_rw_out, if_pos, if_neg, ↓reduceIte] <;> exact w_ret (by rfl)
        · apply zOK_ro h
          · simp (disch := omega) only [e_114_0, e_114_11, e_114_25, e_114_34, e_114_42, e_114_59, s_has_8, s_has_4, s_135, Option.bind_some, Int.add_zero, z_wid, or_true, true_or, z_up_fn, z_up_ni, z_up_eq, z_up_qi, z_rw_fn, z_rw_in, z_rw_out, if_pos, if_neg, ↓reduceIte] <;> exact w_ret rfl
          · simp (disch := omega) only [e_173_0, e_173_5, e_173_13, e_173_20, e_173_28, e_173_40, s_155, s_153, s_156, Option.bind_some, Int.add_zero, z_wid, or_true, true_or, z_up_fn, z_up_ni, z_up_eq, z_up_qi, z_rw_fn, z_rw_in, z_rw_out, if_pos, if_neg, ↓reduceIte] <;> exact w_ret (by rfl)
      · apply zOK_ro h
        · simp (disch := omega) only [e_114_0, e_114_11, e_114_25, e_114_34, e_114_42, e_114_59, s_has_8, s_has_4, s_135, Option.bind_some, Int.add_zero, z_wid, or_true, true_or, z_up_fn, z_up_ni, z_up_eq, z_up_qi, z_rw_fn, z_rw_in, z_rw_out, if_pos, if_neg, ↓reduceIte] <;> exact w_ret rfl
        · simp (disch := omega) only [e_173_0, e_173_5, e_173_13, e_173_20, e_173_28, e_173_40, s_155, s_153, s_156, Option.bind_some, Int.add_zero, z_wid, or_true, true_or, z_up_fn, z_up_ni, z_up_eq, z_up_qi, z_rw_fn, z_rw_in, z_rw_out, if_pos, if_neg, ↓reduceIte] <;> exact w_ret (by rfl)
    · apply zOK_ro h
      · simp (disch := omega) only [e_114_0, e_114_11, e_114_25, e_114_34, e_114_42, e_114_59, s_has_8, s_has_4, s_135, Option.bind_some, Int.add_zero, z_wid, or_true, true_or, z_up_fn, z_up_ni, z_up_eq, z_up_qi, z_rw_fn, z_rw_in, z_rw_out, if_pos, if_neg, ↓reduceIte] <;> exact w_ret rfl
      · simp (disch := omega) only [e_173_0, e_173_5, e_173_13, e_173_20, e_173_28, e_173_40, s_155, s_153, s_156, Option.bind_some, Int.add_zero, z_wid, or_true, true_or, z_up_fn, z_up_ni, z_up_eq, z_up_qi, z_rw_fn, z_rw_in, z_rw_out, if_pos, if_neg, ↓reduceIte] <;> exact w_ret (by rfl)
  · apply zOK_ro h
    · simp (disch := omega) only [e_114_0, e_114_11, e_114_25, e_114_34, e_114_42, e_114_59, s_has_8, s_has_4, s_135, Option.bind_some, Int.add_zero, z_wid, or_true, true_or, z_up_fn, z_up_ni, z_up_eq, z_up_qi, z_rw_fn, z_rw_in, z_rw_out, if_pos, if_neg, ↓reduceIte] <;> exact w_ret rfl
    · simp (disch := omega) only [e_173_0, e_173_5, e_173_13, e_173_20, e_173_28, e_173_40, s_155, s_153, s_156, Option.bind_some, Int.add_zero, z_wid, or_true, true_or, z_up_fn, z_up_ni, z_up_eq, z_up_qi, z_rw_fn, z_rw_in, z_rw_out, if_pos, if_neg, ↓reduceIte] <;> exact w_ret (by rfl)
theorem o_may (d : Nat) (s : Int → Int) (L : Int) (σ : Nat → Int → Int) (h : zV s L σ) (v u p : Int) : zOK s L (d + 9) 115 175 [some (.inl v), some (.inl u), some (.inl p)] [some (.inl v), some (.inl u), some (.inl p)] σ := by
  have hwS := zV_wS h
  have hS := (zV_S h).1
  have hS1 := (zV_S h).2.1
  have hS2 := (zV_S h).2.2.1
  have hwP := zV_wP h
  have hP := (zV_P h).1
  have hP1 := (zV_P h).2.1
  have hP2 := (zV_P h).2.2.1
  have hwD := zV_wD h
  have hD := (zV_D h).1
  have hD1 := (zV_D h).2.1
  have hD2 := (zV_D h).2.2.1
  by_cases c1 : 0 ≤ v ∧ v < σ 2 3
  · by_cases c2 : 0 ≤ u ∧ u < σ 6 3
    · by_cases c3 : 0 ≤ p ∧ p < σ 8 3
      · have g1 := s_33 (d + 2) h v u p (by omega) (by omega) (by omega)
        have g2 := s_174 (d + 2) h (fun _ _ => rfl) v u p (by omega) (by omega) (by omega)
        apply zOK_ro h
        · simp (disch := omega) only [e_115_0, e_115_11, e_115_25, e_115_39, e_115_54, s_has_2, s_has_6, s_has_8, g1, Option.bind_some, Int.add_zero, z_wid, or_true, true_or, z_up_fn, z_up_ni, z_up_eq, z_up_qi, z_rw_fn, z_rw_in, z_rw_out, if_pos, if_neg, ↓reduceIte] <;> exact w_ret rfl
        · simp (disch := omega) only [e_175_0, e_175_5, e_175_13, e_175_21, e_175_31, s_152, s_154, s_155, g2, Option.bind_some, Int.add_zero, z_wid, or_true, true_or, z_up_fn, z_up_ni, z_up_eq, z_up_qi, z_rw_fn, z_rw_in, z_rw_out, if_pos, if_neg, ↓reduceIte] <;> exact w_ret (by rfl)
      · apply zOK_ro h
        · simp (disch := omega) only [e_115_0, e_115_11, e_115_25, e_115_39, e_115_54, s_has_2, s_has_6, s_has_8, Option.bind_some, Int.add_zero, z_wid, or_true, true_or, z_up_fn, z_up_ni, z_up_eq, z_up_qi, z_rw_fn, z_rw_in, z_rw_out, if_pos, if_neg, ↓reduceIte] <;> exact w_ret rfl
        · simp (disch := omega) only [e_175_0, e_175_5, e_175_13, e_175_21, e_175_31, s_152, s_154, s_155, Option.bind_some, Int.add_zero, z_wid, or_true, true_or, z_up_fn, z_up_ni, z_up_eq, z_up_qi, z_rw_fn, z_rw_in, z_rw_out, if_pos, if_neg, ↓reduceIte] <;> exact w_ret (by rfl)
    · apply zOK_ro h
      · simp (disch := omega) only [e_115_0, e_115_11, e_115_25, e_115_39, e_115_54, s_has_2, s_has_6, s_has_8, Option.bind_some, Int.add_zero, z_wid, or_true, true_or, z_up_fn, z_up_ni, z_up_eq, z_up_qi, z_rw_fn, z_rw_in, z_rw_out, if_pos, if_neg, ↓reduceIte] <;> exact w_ret rfl
      · simp (disch := omega) only [e_175_0, e_175_5, e_175_13, e_175_21, e_175_31, s_152, s_154, s_155, Option.bind_some, Int.add_zero, z_wid, or_true, true_or, z_up_fn, z_up_ni, z_up_eq, z_up_qi, z_rw_fn, z_rw_in, z_rw_out, if_pos, if_neg, ↓reduceIte] <;> exact w_ret (by rfl)
  · apply zOK_ro h
    · simp (disch := omega) only [e_115_0, e_115_11, e_115_25, e_115_39, e_115_54, s_has_2, s_has_6, s_has_8, Option.bind_some, Int.add_zero, z_wid, or_true, true_or, z_up_fn, z_up_ni, z_up_eq, z_up_qi, z_rw_fn, z_rw_in, z_rw_out, if_pos, if_neg, ↓reduceIte] <;> exact w_ret rfl
    · simp (disch := omega) only [e_175_0, e_175_5, e_175_13, e_175_21, e_175_31, s_152, s_154, s_155, Option.bind_some, Int.add_zero, z_wid, or_true, true_or, z_up_fn, z_up_ni, z_up_eq, z_up_qi, z_rw_fn, z_rw_in, z_rw_out, if_pos, if_neg, ↓reduceIte] <;> exact w_ret (by rfl)
theorem o_count (d : Nat) (s : Int → Int) (L : Int) (σ : Nat → Int → Int) (h : zV s L σ) (x : Int) : zOK s L (d + 9) 123 210 [some (.inl x)] [some (.inl x)] σ := by
  have hwP := zV_wP h
  have hP := (zV_P h).1
  have hP1 := (zV_P h).2.1
  have hP2 := (zV_P h).2.2.1
  have hwZ := zV_wZ h
  have hZ := (zV_Z h).1
  have hZ1 := (zV_Z h).2.1
  have hZ2 := (zV_Z h).2.2.1
  have hwD := zV_wD h
  have hD := (zV_D h).1
  have hD1 := (zV_D h).2.1
  have hD2 := (zV_D h).2.2.1
  have hwS := zV_wS h
  have hS := (zV_S h).1
  have hS1 := (zV_S h).2.1
  have hS2 := (zV_S h).2.2.1
  have hwR := zV_wR h
  have hR := (zV_R h).1
  have hR1 := (zV_R h).2.1
  have hR2 := (zV_R h).2.2.1
  have hwU := zV_wU h
  have hU := (zV_U h).1
  have hU1 := (zV_U h).2.1
  have hU2 := (zV_U h).2.2.1
  have hwO := zV_wO h
  have hO := (zV_O h).1
  have hO1 := (zV_O h).2.1
  have hO2 := (zV_O h).2.2.1
  have hwG := zV_wG h
  have hG := (zV_G h).1
  have hG1 := (zV_G h).2.1
  have hG2 := (zV_G h).2.2.1
  have hwT := zV_wT h
  have hT := (zV_T h).1
  have hT1 := (zV_T h).2.1
  have hT2 := (zV_T h).2.2.1
  have hM := zV_mo h
  have hE := zV_se h
  have hA := zV_A h
  by_cases c1 : 0 ≤ x ∧ x ≤ 12
  · have c3 : x = 0 ∨ x = 1 ∨ x = 2 ∨ x = 3 ∨ x = 4 ∨ x = 5 ∨ x = 6 ∨ x = 7 ∨ x = 8 ∨ x = 9 ∨ x = 10 ∨ x = 11 ∨ x = 12 := by omega
    rcases c3 with c3 | c3 | c3 | c3 | c3 | c3 | c3 | c3 | c3 | c3 | c3 | c3 | c3 <;> subst c3
    · apply zOK_ro h
      · simp (disch := omega) only [e_123_0, e_123_78, e_123_89, e_123_100, e_123_111, e_123_122, e_123_141, e_123_152, e_123_163, e_123_174, e_123_182, e_123_198, e_85_0_0, e_85_0_1, e_85_0_2, e_85_0_3, e_85_0_4, e_85_0_5, e_85_0_6, e_85_0_7, e_85_0_8, e_1_0, s_19, Option.bind_some, Int.add_zero, z_wid, or_true, true_or, z_up_fn, z_up_ni, z_up_eq, z_up_qi, z_rw_fn, z_rw_in, z_rw_out, if_pos, if_neg, ↓reduceIte] <;> exact w_ret rfl
      · simp (disch := omega) only [e_210_0, e_210_123, s_169, Option.bind_some, Int.add_zero, z_wid, or_true, true_or, z_up_fn, z_up_ni, z_up_eq, z_up_qi, z_rw_fn, z_rw_in, z_rw_out, if_pos, if_neg, ↓reduceIte] <;> exact w_ret (by exact hP.symm)
    · apply zOK_ro h
      · simp (disch := omega) only [e_123_0, e_123_78, e_123_89, e_123_100, e_123_111, e_123_122, e_123_141, e_123_152, e_123_163, e_123_174, e_123_182, e_123_198, e_85_0_0, e_85_0_1, e_85_0_2, e_85_0_3, e_85_0_4, e_85_0_5, e_85_0_6, e_85_0_7, e_85_0_8, e_1_0, s_19, Option.bind_some, Int.add_zero, z_wid, or_true, true_or, z_up_fn, z_up_ni, z_up_eq, z_up_qi, z_rw_fn, z_rw_in, z_rw_out, if_pos, if_neg, ↓reduceIte] <;> exact w_ret rfl
      · simp (disch := omega) only [e_210_0, e_210_123, s_169, Option.bind_some, Int.add_zero, z_wid, or_true, true_or, z_up_fn, z_up_ni, z_up_eq, z_up_qi, z_rw_fn, z_rw_in, z_rw_out, if_pos, if_neg, ↓reduceIte] <;> exact w_ret (by exact hZ.symm)
    · apply zOK_ro h
      · simp (disch := omega) only [e_123_0, e_123_78, e_123_89, e_123_100, e_123_111, e_123_122, e_123_141, e_123_152, e_123_163, e_123_174, e_123_182, e_123_198, e_85_0_0, e_85_0_1, e_85_0_2, e_85_0_3, e_85_0_4, e_85_0_5, e_85_0_6, e_85_0_7, e_85_0_8, e_1_0, s_19, Option.bind_some, Int.add_zero, z_wid, or_true, true_or, z_up_fn, z_up_ni, z_up_eq, z_up_qi, z_rw_fn, z_rw_in, z_rw_out, if_pos, if_neg, ↓reduceIte] <;> exact w_ret rfl
      · simp (disch := omega) only [e_210_0, e_210_123, s_169, Option.bind_some, Int.add_zero, z_wid, or_true, true_or, z_up_fn, z_up_ni, z_up_eq, z_up_qi, z_rw_fn, z_rw_in, z_rw_out, if_pos, if_neg, ↓reduceIte] <;> exact w_ret (by exact hD.symm)
    · apply zOK_ro h
      · simp (disch := omega) only [e_123_0, e_123_78, e_123_89, e_123_100, e_123_111, e_123_122, e_123_141, e_123_152, e_123_163, e_123_174, e_123_182, e_123_198, e_85_0_0, e_85_0_1, e_85_0_2, e_85_0_3, e_85_0_4, e_85_0_5, e_85_0_6, e_85_0_7, e_85_0_8, e_1_0, s_19, Option.bind_some, Int.add_zero, z_wid, or_true, true_or, z_up_fn, z_up_ni, z_up_eq, z_up_qi, z_rw_fn, z_rw_in, z_rw_out, if_pos, if_neg, ↓reduceIte] <;> exact w_ret rfl
      · simp (disch := omega) only [e_210_0, e_210_123, s_169, Option.bind_some, Int.add_zero, z_wid, or_true, true_or, z_up_fn, z_up_ni, z_up_eq, z_up_qi, z_rw_fn, z_rw_in, z_rw_out, if_pos, if_neg, ↓reduceIte] <;> exact w_ret (by exact hS.symm)
    · apply zOK_ro h
      · simp (disch := omega) only [e_123_0, e_123_78, e_123_89, e_123_100, e_123_111, e_123_122, e_123_141, e_123_152, e_123_163, e_123_174, e_123_182, e_123_198, e_85_0_0, e_85_0_1, e_85_0_2, e_85_0_3, e_85_0_4, e_85_0_5, e_85_0_6, e_85_0_7, e_85_0_8, e_1_0, s_19, Option.bind_some, Int.add_zero, z_wid, or_true, true_or, z_up_fn, z_up_ni, z_up_eq, z_up_qi, z_rw_fn, z_rw_in, z_rw_out, if_pos, if_neg, ↓reduceIte] <;> exact w_ret rfl
      · simp (disch := omega) only [e_210_0, e_210_123, s_169, Option.bind_some, Int.add_zero, z_wid, or_true, true_or, z_up_fn, z_up_ni, z_up_eq, z_up_qi, z_rw_fn, z_rw_in, z_rw_out, if_pos, if_neg, ↓reduceIte] <;> exact w_ret (by exact hR.symm)
    · apply zOK_ro h
      · simp (disch := omega) only [e_123_0, e_123_78, e_123_89, e_123_100, e_123_111, e_123_122, e_123_141, e_123_152, e_123_163, e_123_174, e_123_182, e_123_198, e_85_0_0, e_85_0_1, e_85_0_2, e_85_0_3, e_85_0_4, e_85_0_5, e_85_0_6, e_85_0_7, e_85_0_8, e_1_0, s_19, Option.bind_some, Int.add_zero, z_wid, or_true, true_or, z_up_fn, z_up_ni, z_up_eq, z_up_qi, z_rw_fn, z_rw_in, z_rw_out, if_pos, if_neg, ↓reduceIte] <;> exact w_ret rfl
      · simp (disch := omega) only [e_210_0, e_210_123, s_169, Option.bind_some, Int.add_zero, z_wid, or_true, true_or, z_up_fn, z_up_ni, z_up_eq, z_up_qi, z_rw_fn, z_rw_in, z_rw_out, if_pos, if_neg, ↓reduceIte] <;> exact w_ret (by exact hM.1.symm)
    · apply zOK_ro h
      · simp (disch := omega) only [e_123_0, e_123_78, e_123_89, e_123_100, e_123_111, e_123_122, e_123_141, e_123_152, e_123_163, e_123_174, e_123_182, e_123_198, e_85_0_0, e_85_0_1, e_85_0_2, e_85_0_3, e_85_0_4, e_85_0_5, e_85_0_6, e_85_0_7, e_85_0_8, e_1_0, s_19, Option.bind_some, Int.add_zero, z_wid, or_true, true_or, z_up_fn, z_up_ni, z_up_eq, z_up_qi, z_rw_fn, z_rw_in, z_rw_out, if_pos, if_neg, ↓reduceIte] <;> exact w_ret rfl
      · simp (disch := omega) only [e_210_0, e_210_123, s_169, Option.bind_some, Int.add_zero, z_wid, or_true, true_or, z_up_fn, z_up_ni, z_up_eq, z_up_qi, z_rw_fn, z_rw_in, z_rw_out, if_pos, if_neg, ↓reduceIte] <;> exact w_ret (by exact hU.symm)
    · apply zOK_ro h
      · simp (disch := omega) only [e_123_0, e_123_78, e_123_89, e_123_100, e_123_111, e_123_122, e_123_141, e_123_152, e_123_163, e_123_174, e_123_182, e_123_198, e_85_0_0, e_85_0_1, e_85_0_2, e_85_0_3, e_85_0_4, e_85_0_5, e_85_0_6, e_85_0_7, e_85_0_8, e_1_0, s_19, Option.bind_some, Int.add_zero, z_wid, or_true, true_or, z_up_fn, z_up_ni, z_up_eq, z_up_qi, z_rw_fn, z_rw_in, z_rw_out, if_pos, if_neg, ↓reduceIte] <;> exact w_ret rfl
      · simp (disch := omega) only [e_210_0, e_210_123, s_169, Option.bind_some, Int.add_zero, z_wid, or_true, true_or, z_up_fn, z_up_ni, z_up_eq, z_up_qi, z_rw_fn, z_rw_in, z_rw_out, if_pos, if_neg, ↓reduceIte] <;> exact w_ret (by exact hO.symm)
    · apply zOK_ro h
      · simp (disch := omega) only [e_123_0, e_123_78, e_123_89, e_123_100, e_123_111, e_123_122, e_123_141, e_123_152, e_123_163, e_123_174, e_123_182, e_123_198, e_85_0_0, e_85_0_1, e_85_0_2, e_85_0_3, e_85_0_4, e_85_0_5, e_85_0_6, e_85_0_7, e_85_0_8, e_1_0, s_19, Option.bind_some, Int.add_zero, z_wid, or_true, true_or, z_up_fn, z_up_ni, z_up_eq, z_up_qi, z_rw_fn, z_rw_in, z_rw_out, if_pos, if_neg, ↓reduceIte] <;> exact w_ret rfl
      · simp (disch := omega) only [e_210_0, e_210_123, s_169, Option.bind_some, Int.add_zero, z_wid, or_true, true_or, z_up_fn, z_up_ni, z_up_eq, z_up_qi, z_rw_fn, z_rw_in, z_rw_out, if_pos, if_neg, ↓reduceIte] <;> exact w_ret (by exact hG.symm)
    · apply zOK_ro h
      · simp (disch := omega) only [e_123_0, e_123_78, e_123_89, e_123_100, e_123_111, e_123_122, e_123_141, e_123_152, e_123_163, e_123_174, e_123_182, e_123_198, e_85_0_0, e_85_0_1, e_85_0_2, e_85_0_3, e_85_0_4, e_85_0_5, e_85_0_6, e_85_0_7, e_85_0_8, e_1_0, s_19, Option.bind_some, Int.add_zero, z_wid, or_true, true_or, z_up_fn, z_up_ni, z_up_eq, z_up_qi, z_rw_fn, z_rw_in, z_rw_out, if_pos, if_neg, ↓reduceIte] <;> exact w_ret rfl
      · simp (disch := omega) only [e_210_0, e_210_123, s_169, Option.bind_some, Int.add_zero, z_wid, or_true, true_or, z_up_fn, z_up_ni, z_up_eq, z_up_qi, z_rw_fn, z_rw_in, z_rw_out, if_pos, if_neg, ↓reduceIte] <;> exact w_ret (by exact hT.symm)
    · apply zOK_ro h
      · simp (disch := omega) only [e_123_0, e_123_78, e_123_89, e_123_100, e_123_111, e_123_122, e_123_141, e_123_152, e_123_163, e_123_174, e_123_182, e_123_198, e_85_0_0, e_85_0_1, e_85_0_2, e_85_0_3, e_85_0_4, e_85_0_5, e_85_0_6, e_85_0_7, e_85_0_8, e_1_0, s_19, Option.bind_some, Int.add_zero, z_wid, or_true, true_or, z_up_fn, z_up_ni, z_up_eq, z_up_qi, z_rw_fn, z_rw_in, z_rw_out, if_pos, if_neg, ↓reduceIte] <;> exact w_ret rfl
      · simp (disch := omega) only [e_210_0, e_210_123, s_169, Option.bind_some, Int.add_zero, z_wid, or_true, true_or, z_up_fn, z_up_ni, z_up_eq, z_up_qi, z_rw_fn, z_rw_in, z_rw_out, if_pos, if_neg, ↓reduceIte] <;> exact w_ret (by rw [hP]; exact z_cnt_congr (fun i i0 i1 => ((zV_P h).2.2.2 i i0 (by omega)).2.1.symm))
    · apply zOK_ro h
      · simp (disch := omega) only [e_123_0, e_123_78, e_123_89, e_123_100, e_123_111, e_123_122, e_123_141, e_123_152, e_123_163, e_123_174, e_123_182, e_123_198, e_85_0_0, e_85_0_1, e_85_0_2, e_85_0_3, e_85_0_4, e_85_0_5, e_85_0_6, e_85_0_7, e_85_0_8, e_1_0, s_19, Option.bind_some, Int.add_zero, z_wid, or_true, true_or, z_up_fn, z_up_ni, z_up_eq, z_up_qi, z_rw_fn, z_rw_in, z_rw_out, if_pos, if_neg, ↓reduceIte] <;> exact w_ret rfl
      · simp (disch := omega) only [e_210_0, e_210_123, s_169, Option.bind_some, Int.add_zero, z_wid, or_true, true_or, z_up_fn, z_up_ni, z_up_eq, z_up_qi, z_rw_fn, z_rw_in, z_rw_out, if_pos, if_neg, ↓reduceIte] <;> exact w_ret (by exact hE.1.symm)
    · apply zOK_ro h
      · simp (disch := omega) only [e_123_0, e_123_78, e_123_89, e_123_100, e_123_111, e_123_122, e_123_141, e_123_152, e_123_163, e_123_174, e_123_182, e_123_198, e_85_0_0, e_85_0_1, e_85_0_2, e_85_0_3, e_85_0_4, e_85_0_5, e_85_0_6, e_85_0_7, e_85_0_8, e_1_0, s_19, Option.bind_some, Int.add_zero, z_wid, or_true, true_or, z_up_fn, z_up_ni, z_up_eq, z_up_qi, z_rw_fn, z_rw_in, z_rw_out, if_pos, if_neg, ↓reduceIte] <;> exact w_ret rfl
      · simp (disch := omega) only [e_210_0, e_210_123, s_169, Option.bind_some, Int.add_zero, z_wid, or_true, true_or, z_up_fn, z_up_ni, z_up_eq, z_up_qi, z_rw_fn, z_rw_in, z_rw_out, if_pos, if_neg, ↓reduceIte] <;> exact w_ret (by exact hA.1.symm)
  · apply zOK_ro h
    · simp (disch := omega) only [e_123_0, e_123_78, e_123_89, e_123_100, e_123_111, e_123_122, e_123_141, e_123_152, e_123_163, e_123_174, e_123_182, e_123_198, e_85_0_0, e_85_0_1, e_85_0_2, e_85_0_3, e_85_0_4, e_85_0_5, e_85_0_6, e_85_0_7, e_85_0_8, e_1_0, s_19, Option.bind_some, Int.add_zero, z_wid, or_true, true_or, z_up_fn, z_up_ni, z_up_eq, z_up_qi, z_rw_fn, z_rw_in, z_rw_out, if_pos, if_neg, ↓reduceIte] <;> exact w_ret rfl
    · simp (disch := omega) only [e_210_0, e_210_123, s_169, Option.bind_some, Int.add_zero, z_wid, or_true, true_or, z_up_fn, z_up_ni, z_up_eq, z_up_qi, z_rw_fn, z_rw_in, z_rw_out, if_pos, if_neg, ↓reduceIte] <;> exact w_ret (by rfl)
