theorem w_xs20 : ∀ n : Fin 201, (z_xor ((n.val : Int) - 100) 20 < 0 ↔ (n.val : Int) - 100 < 0) := by decide +kernel
theorem w_xs6 : ∀ n : Fin 201, (z_xor ((n.val : Int) - 100) 6 < 0 ↔ (n.val : Int) - 100 < 0) := by decide +kernel
theorem w_xs4 : ∀ n : Fin 201, (z_xor ((n.val : Int) - 100) 4 < 0 ↔ (n.val : Int) - 100 < 0) := by decide +kernel
theorem w_xs2 : ∀ n : Fin 201, (z_xor ((n.val : Int) - 100) 2 < 0 ↔ (n.val : Int) - 100 < 0) := by decide +kernel
theorem w_xs (x y : Int) (hx : -100 ≤ x ∧ x ≤ 100) (hy : y = 20 ∨ y = 6 ∨ y = 4 ∨ y = 2) : z_xor x y < 0 ↔ x < 0 := by
  have e : x = (((x + 100).toNat : Nat) : Int) - 100 := by omega
  have b : (x + 100).toNat < 201 := by omega
  rcases hy with hy | hy | hy | hy <;> subst hy
  · have q := w_xs20 ⟨_, b⟩
    rw [e]; exact q
  · have q := w_xs6 ⟨_, b⟩
    rw [e]; exact q
  · have q := w_xs4 ⟨_, b⟩
    rw [e]; exact q
  · have q := w_xs2 ⟨_, b⟩
    rw [e]; exact q
theorem w_tm (x y : Int) (hx : -100 ≤ x ∧ x ≤ 100) (hy : y = 20 ∨ y = 6 ∨ y = 4 ∨ y = 2) : Int.tmod x y = (if 0 ≤ x ∨ x % y = 0 then x % y else x % y - y) := by
  rw [Int.tmod_eq_emod]
  rcases hy with hy | hy | hy | hy <;> subst hy <;> (repeat' split) <;> omega
theorem s_228 (d : Nat) (σ : Nat → Int → Int) (x y : Int) (hx : -100 ≤ x ∧ x ≤ 100) (hy : y = 20 ∨ y = 6 ∨ y = 4 ∨ y = 2) : zE d 228 0 [some (.inl x), some (.inl y)] [] (zS, σ) = some (.inl (x % y), (zS, σ)) := by
  rw [e_228_0, if_neg (by omega), if_neg (by omega), w_tm x y hx hy]
  congr 2
  have b : 0 ≤ x % y ∧ x % y < y := ⟨Int.emod_nonneg _ (by omega), Int.emod_lt_of_pos _ (by omega)⟩
  rw [z_wid (by split <;> omega) (by split <;> omega), Int.tmod_eq_emod_of_nonneg (by split <;> omega)]
  congr 1
  split
  · rcases hy with hy | hy | hy | hy <;> subst hy <;> omega
  · rcases hy with hy | hy | hy | hy <;> subst hy <;> omega
theorem s_234 (d : Nat) (σ : Nat → Int → Int) (x y : Int) (hx : -100 ≤ x ∧ x ≤ 100) (hy : y = 20 ∨ y = 6 ∨ y = 4 ∨ y = 2) : zE d 234 0 [some (.inl x), some (.inl y), none] [] (zS, σ) = some (.inl (x % y), (zS, σ)) := by
  rw [e_234_0, if_neg (by omega), w_tm x y hx hy]
  have b : 0 ≤ x % y ∧ x % y < y := ⟨Int.emod_nonneg _ (by omega), Int.emod_lt_of_pos _ (by omega)⟩
  by_cases c : x < 0
  · rw [if_pos ((w_xs x y hx hy).2 c)]
    by_cases c2 : x % y = 0
    · rw [if_pos (Or.inr c2), if_pos c2]
    · rw [if_neg (by omega), if_neg (by omega), z_wid (by omega) (by omega)]
      congr 3
      omega
  · rw [if_neg (fun q => c ((w_xs x y hx hy).1 q)), if_pos (by omega)]
theorem w_of3a (k : Int) (h : k = 3 ∨ k = 4) : w_of k 3 = 1 := by
  rcases h with h | h <;> subst h <;> decide
theorem w_of3b (k : Int) (h : ¬ (k = 3 ∨ k = 4)) : w_of k 3 = 0 := by
  unfold w_of
  repeat' split
  all_goals omega
theorem o_forge0 (d : Nat) (s : Int → Int) (L : Int) (σ : Nat → Int → Int) (h : zV s L σ) (x2 x3 : Int) : zOK s L (d + 9) 129 231 [some (.inl 0), some (.inl x2), some (.inl x3)] [some (.inl 0), some (.inl x2), some (.inl x3), none] σ := by
  have hwS := zV_wS h
  have hS := (zV_S h).1
  have hS1 := (zV_S h).2.1
  have hS2 := (zV_S h).2.2.1
  have m0 : 0 ≤ x3 % 20 ∧ x3 % 20 < 20 := by omega
  have m1 : 0 ≤ x2 % 6 ∧ x2 % 6 < 6 := by omega
  have k1 : x3 % 20 < σ 8 3 → σ 9 (7 * (x3 % 20) + 1) = σ 81 (x3 % 20) := fun p => ((zV_S h).2.2.2 (x3 % 20) m0.1 (by omega)).2.1
  have k2 : x3 % 20 < σ 8 3 → 0 ≤ σ 81 (x3 % 20) ∧ σ 81 (x3 % 20) ≤ 5 := by
    intro p
    have q := (zV_S h).2.2.2 (x3 % 20) m0.1 (by omega)
    omega
  by_cases c1 : -100 ≤ x2 ∧ x2 ≤ 100
  · by_cases c2 : -100 ≤ x3 ∧ x3 ≤ 100
    · by_cases c3 : x3 % 20 < σ 8 3
      · have k3 := k2 c3
        by_cases c4 : ¬ w_of (σ 81 (x3 % 20)) (x2 % 6) = 0
        · apply zOK_mk2
          · simp (disch := first | omega | (simp (disch := omega) only [z_up_fn, z_up_ni, z_up_eq, z_up_qi, z_rw_fn] <;> omega) | fail) only [ite_self, Int.reduceAdd, e_129_0, e_129_8, e_129_16, e_129_25, e_129_33, e_129_81, e_129_101, e_129_109, e_129_116, e_129_127, e_129_137, e_129_151, e_129_163, e_129_169, e_129_192, e_129_87, e_129_120, e_129_131, e_129_140, e_129_178, e_129_186, e_129_90, e_143_0, e_143_6, e_144_0, e_144_11, e_144_20, e_144_33, e_144_39, e_144_56, e_144_47, e_145_0, e_145_6_0, e_145_6_1, e_145_6_2, e_145_6_3, e_145_12_0, e_145_12_1, e_145_12_2, e_145_12_3, e_145_31_0, e_145_25, e_145_31_1, e_145_31_2, e_145_31_3, e_145_52, e_145_40, e_145_43, e_146_0, e_146_6_0, e_146_6_1, e_146_6_2, e_146_6_3, e_146_12_0, e_146_12_1, e_146_12_2, e_146_12_3, e_146_32_0, e_146_25, e_146_32_1, e_146_32_2, e_146_32_3, e_146_49, e_146_57, e_146_60, e_147_0, e_147_11, e_147_19, e_147_32, e_147_38, e_147_55, e_147_46, s_133, s_234, s_has_8, s_get_8, s_39, e_131_0, e_132_0, k1, Option.bind_some, Int.add_zero, z_wid, or_true, true_or, z_up_fn, z_up_ni, z_up_eq, z_up_qi, z_rw_fn, z_rw_in, z_rw_out, if_pos, if_neg, ↓reduceIte]
            exact w_ret rfl
          · intro k hk
            simp (disch := omega) only [z_up_fn, z_rw_fn]
          · intro τ hτ
            simp (disch := first | omega | (simp (disch := omega) only [hτ] <;> omega) | fail) only [e_231_0, e_231_7, e_231_37, e_231_18, e_231_29, e_231_44, e_231_115, e_231_99, e_231_152, e_231_160, e_231_168, e_231_179, e_231_233, e_231_242, e_231_197, e_231_253, e_231_265, e_231_271, e_231_118, e_231_141, e_231_171, e_231_182, e_231_280, e_231_288, e_231_132, e_229_0, e_229_42, e_229_73, e_229_25, e_229_113, e_230_0, e_230_43, e_230_57, e_230_26, e_230_84, e_230_75, s_149, s_228, s_168, e_150_0, e_151_0, Int.reduceMul, Int.reduceAdd, Int.zero_add, ite_self, hτ, Option.bind_some, Int.add_zero, z_wid, or_true, true_or, z_up_fn, z_up_ni, z_up_eq, z_up_qi, z_rw_fn, z_rw_in, z_rw_out, if_pos, if_neg, ↓reduceIte]
            exact w_ret (by omega)
          · skip
            exact w_ref h 0
        · apply zOK_mk2
          · simp (disch := first | omega | (simp (disch := omega) only [z_up_fn, z_up_ni, z_up_eq, z_up_qi, z_rw_fn] <;> omega) | fail) only [ite_self, Int.reduceAdd, e_129_0, e_129_8, e_129_16, e_129_25, e_129_33, e_129_81, e_129_101, e_129_109, e_129_116, e_129_127, e_129_137, e_129_151, e_129_163, e_129_169, e_129_192, e_129_87, e_129_120, e_129_131, e_129_140, e_129_178, e_129_186, e_129_90, e_143_0, e_143_6, e_144_0, e_144_11, e_144_20, e_144_33, e_144_39, e_144_56, e_144_47, e_145_0, e_145_6_0, e_145_6_1, e_145_6_2, e_145_6_3, e_145_12_0, e_145_12_1, e_145_12_2, e_145_12_3, e_145_31_0, e_145_25, e_145_31_1, e_145_31_2, e_145_31_3, e_145_52, e_145_40, e_145_43, e_146_0, e_146_6_0, e_146_6_1, e_146_6_2, e_146_6_3, e_146_12_0, e_146_12_1, e_146_12_2, e_146_12_3, e_146_32_0, e_146_25, e_146_32_1, e_146_32_2, e_146_32_3, e_146_49, e_146_57, e_146_60, e_147_0, e_147_11, e_147_19, e_147_32, e_147_38, e_147_55, e_147_46, s_133, s_234, s_has_8, s_get_8, s_39, e_131_0, e_132_0, k1, Option.bind_some, Int.add_zero, z_wid, or_true, true_or, z_up_fn, z_up_ni, z_up_eq, z_up_qi, z_rw_fn, z_rw_in, z_rw_out, if_pos, if_neg, ↓reduceIte]
            exact w_ret rfl
          · intro k hk
            simp (disch := omega) only [z_up_fn, z_rw_fn]
          · intro τ hτ
            simp (disch := first | omega | (simp (disch := omega) only [hτ] <;> omega) | fail) only [e_231_0, e_231_7, e_231_37, e_231_18, e_231_29, e_231_44, e_231_115, e_231_99, e_231_152, e_231_160, e_231_168, e_231_179, e_231_233, e_231_242, e_231_197, e_231_253, e_231_265, e_231_271, e_231_118, e_231_141, e_231_171, e_231_182, e_231_280, e_231_288, e_231_132, e_229_0, e_229_42, e_229_73, e_229_25, e_229_113, e_230_0, e_230_43, e_230_57, e_230_26, e_230_84, e_230_75, s_149, s_228, s_168, e_150_0, e_151_0, Int.reduceMul, Int.reduceAdd, Int.zero_add, ite_self, hτ, Option.bind_some, Int.add_zero, z_wid, or_true, true_or, z_up_fn, z_up_ni, z_up_eq, z_up_qi, z_rw_fn, z_rw_in, z_rw_out, if_pos, if_neg, ↓reduceIte]
            exact w_ret rfl
          · exact w_ref h 11
      · apply zOK_mk2
        · simp (disch := first | omega | (simp (disch := omega) only [z_up_fn, z_up_ni, z_up_eq, z_up_qi, z_rw_fn] <;> omega) | fail) only [ite_self, Int.reduceAdd, e_129_0, e_129_8, e_129_16, e_129_25, e_129_33, e_129_81, e_129_101, e_129_109, e_129_116, e_129_127, e_129_137, e_129_151, e_129_163, e_129_169, e_129_192, e_129_87, e_129_120, e_129_131, e_129_140, e_129_178, e_129_186, e_129_90, e_143_0, e_143_6, e_144_0, e_144_11, e_144_20, e_144_33, e_144_39, e_144_56, e_144_47, e_145_0, e_145_6_0, e_145_6_1, e_145_6_2, e_145_6_3, e_145_12_0, e_145_12_1, e_145_12_2, e_145_12_3, e_145_31_0, e_145_25, e_145_31_1, e_145_31_2, e_145_31_3, e_145_52, e_145_40, e_145_43, e_146_0, e_146_6_0, e_146_6_1, e_146_6_2, e_146_6_3, e_146_12_0, e_146_12_1, e_146_12_2, e_146_12_3, e_146_32_0, e_146_25, e_146_32_1, e_146_32_2, e_146_32_3, e_146_49, e_146_57, e_146_60, e_147_0, e_147_11, e_147_19, e_147_32, e_147_38, e_147_55, e_147_46, s_133, s_234, s_has_8, s_get_8, s_39, e_131_0, e_132_0, k1, Option.bind_some, Int.add_zero, z_wid, or_true, true_or, z_up_fn, z_up_ni, z_up_eq, z_up_qi, z_rw_fn, z_rw_in, z_rw_out, if_pos, if_neg, ↓reduceIte]
          exact w_ret rfl
        · intro k hk
          simp (disch := omega) only [z_up_fn, z_rw_fn]
        · intro τ hτ
          simp (disch := first | omega | (simp (disch := omega) only [hτ] <;> omega) | fail) only [e_231_0, e_231_7, e_231_37, e_231_18, e_231_29, e_231_44, e_231_115, e_231_99, e_231_152, e_231_160, e_231_168, e_231_179, e_231_233, e_231_242, e_231_197, e_231_253, e_231_265, e_231_271, e_231_118, e_231_141, e_231_171, e_231_182, e_231_280, e_231_288, e_231_132, e_229_0, e_229_42, e_229_73, e_229_25, e_229_113, e_230_0, e_230_43, e_230_57, e_230_26, e_230_84, e_230_75, s_149, s_228, s_168, e_150_0, e_151_0, Int.reduceMul, Int.reduceAdd, Int.zero_add, ite_self, hτ, Option.bind_some, Int.add_zero, z_wid, or_true, true_or, z_up_fn, z_up_ni, z_up_eq, z_up_qi, z_rw_fn, z_rw_in, z_rw_out, if_pos, if_neg, ↓reduceIte]
          exact w_ret rfl
        · exact w_ref h 10
    · apply zOK_mk2
      · simp (disch := first | omega | (simp (disch := omega) only [z_up_fn, z_up_ni, z_up_eq, z_up_qi, z_rw_fn] <;> omega) | fail) only [ite_self, Int.reduceAdd, e_129_0, e_129_8, e_129_16, e_129_25, e_129_33, e_129_81, e_129_101, e_129_109, e_129_116, e_129_127, e_129_137, e_129_151, e_129_163, e_129_169, e_129_192, e_129_87, e_129_120, e_129_131, e_129_140, e_129_178, e_129_186, e_129_90, e_143_0, e_143_6, e_144_0, e_144_11, e_144_20, e_144_33, e_144_39, e_144_56, e_144_47, e_145_0, e_145_6_0, e_145_6_1, e_145_6_2, e_145_6_3, e_145_12_0, e_145_12_1, e_145_12_2, e_145_12_3, e_145_31_0, e_145_25, e_145_31_1, e_145_31_2, e_145_31_3, e_145_52, e_145_40, e_145_43, e_146_0, e_146_6_0, e_146_6_1, e_146_6_2, e_146_6_3, e_146_12_0, e_146_12_1, e_146_12_2, e_146_12_3, e_146_32_0, e_146_25, e_146_32_1, e_146_32_2, e_146_32_3, e_146_49, e_146_57, e_146_60, e_147_0, e_147_11, e_147_19, e_147_32, e_147_38, e_147_55, e_147_46, s_133, s_234, s_has_8, s_get_8, s_39, e_131_0, e_132_0, k1, Option.bind_some, Int.add_zero, z_wid, or_true, true_or, z_up_fn, z_up_ni, z_up_eq, z_up_qi, z_rw_fn, z_rw_in, z_rw_out, if_pos, if_neg, ↓reduceIte]
        exact w_ret rfl
      · intro k hk
        simp (disch := omega) only [z_up_fn, z_rw_fn]
      · intro τ hτ
        simp (disch := first | omega | (simp (disch := omega) only [hτ] <;> omega) | fail) only [e_231_0, e_231_7, e_231_37, e_231_18, e_231_29, e_231_44, e_231_115, e_231_99, e_231_152, e_231_160, e_231_168, e_231_179, e_231_233, e_231_242, e_231_197, e_231_253, e_231_265, e_231_271, e_231_118, e_231_141, e_231_171, e_231_182, e_231_280, e_231_288, e_231_132, e_229_0, e_229_42, e_229_73, e_229_25, e_229_113, e_230_0, e_230_43, e_230_57, e_230_26, e_230_84, e_230_75, s_149, s_228, s_168, e_150_0, e_151_0, Int.reduceMul, Int.reduceAdd, Int.zero_add, ite_self, hτ, Option.bind_some, Int.add_zero, z_wid, or_true, true_or, z_up_fn, z_up_ni, z_up_eq, z_up_qi, z_rw_fn, z_rw_in, z_rw_out, if_pos, if_neg, ↓reduceIte]
        exact w_ret rfl
      · exact w_ref h 1
  · apply zOK_mk2
    · simp (disch := first | omega | (simp (disch := omega) only [z_up_fn, z_up_ni, z_up_eq, z_up_qi, z_rw_fn] <;> omega) | fail) only [ite_self, Int.reduceAdd, e_129_0, e_129_8, e_129_16, e_129_25, e_129_33, e_129_81, e_129_101, e_129_109, e_129_116, e_129_127, e_129_137, e_129_151, e_129_163, e_129_169, e_129_192, e_129_87, e_129_120, e_129_131, e_129_140, e_129_178, e_129_186, e_129_90, e_143_0, e_143_6, e_144_0, e_144_11, e_144_20, e_144_33, e_144_39, e_144_56, e_144_47, e_145_0, e_145_6_0, e_145_6_1, e_145_6_2, e_145_6_3, e_145_12_0, e_145_12_1, e_145_12_2, e_145_12_3, e_145_31_0, e_145_25, e_145_31_1, e_145_31_2, e_145_31_3, e_145_52, e_145_40, e_145_43, e_146_0, e_146_6_0, e_146_6_1, e_146_6_2, e_146_6_3, e_146_12_0, e_146_12_1, e_146_12_2, e_146_12_3, e_146_32_0, e_146_25, e_146_32_1, e_146_32_2, e_146_32_3, e_146_49, e_146_57, e_146_60, e_147_0, e_147_11, e_147_19, e_147_32, e_147_38, e_147_55, e_147_46, s_133, s_234, s_has_8, s_get_8, s_39, e_131_0, e_132_0, k1, Option.bind_some, Int.add_zero, z_wid, or_true, true_or, z_up_fn, z_up_ni, z_up_eq, z_up_qi, z_rw_fn, z_rw_in, z_rw_out, if_pos, if_neg, ↓reduceIte]
      exact w_ret rfl
    · intro k hk
      simp (disch := omega) only [z_up_fn, z_rw_fn]
    · intro τ hτ
      simp (disch := first | omega | (simp (disch := omega) only [hτ] <;> omega) | fail) only [e_231_0, e_231_7, e_231_37, e_231_18, e_231_29, e_231_44, e_231_115, e_231_99, e_231_152, e_231_160, e_231_168, e_231_179, e_231_233, e_231_242, e_231_197, e_231_253, e_231_265, e_231_271, e_231_118, e_231_141, e_231_171, e_231_182, e_231_280, e_231_288, e_231_132, e_229_0, e_229_42, e_229_73, e_229_25, e_229_113, e_230_0, e_230_43, e_230_57, e_230_26, e_230_84, e_230_75, s_149, s_228, s_168, e_150_0, e_151_0, Int.reduceMul, Int.reduceAdd, Int.zero_add, ite_self, hτ, Option.bind_some, Int.add_zero, z_wid, or_true, true_or, z_up_fn, z_up_ni, z_up_eq, z_up_qi, z_rw_fn, z_rw_in, z_rw_out, if_pos, if_neg, ↓reduceIte]
      exact w_ret rfl
    · exact w_ref h 1
theorem o_forge1 (d : Nat) (s : Int → Int) (L : Int) (σ : Nat → Int → Int) (h : zV s L σ) (x2 x3 : Int) : zOK s L (d + 9) 129 231 [some (.inl 1), some (.inl x2), some (.inl x3)] [some (.inl 1), some (.inl x2), some (.inl x3), none] σ := by
  by_cases c1 : -100 ≤ x2 ∧ x2 ≤ 100
  · by_cases c2 : -100 ≤ x3 ∧ x3 ≤ 100
    · by_cases c3 : 0 ≤ x2
      · apply zOK_mk2
        · simp (disch := first | omega | (simp (disch := omega) only [z_up_fn, z_up_ni, z_up_eq, z_up_qi, z_rw_fn] <;> omega) | fail) only [ite_self, Int.reduceAdd, e_129_0, e_129_8, e_129_16, e_129_25, e_129_33, e_129_81, e_129_101, e_129_109, e_129_116, e_129_127, e_129_137, e_129_151, e_129_163, e_129_169, e_129_192, e_129_87, e_129_120, e_129_131, e_129_140, e_129_178, e_129_186, e_129_90, e_143_0, e_143_6, e_144_0, e_144_11, e_144_20, e_144_33, e_144_39, e_144_56, e_144_47, e_145_0, e_145_6_0, e_145_6_1, e_145_6_2, e_145_6_3, e_145_12_0, e_145_12_1, e_145_12_2, e_145_12_3, e_145_31_0, e_145_25, e_145_31_1, e_145_31_2, e_145_31_3, e_145_52, e_145_40, e_145_43, e_146_0, e_146_6_0, e_146_6_1, e_146_6_2, e_146_6_3, e_146_12_0, e_146_12_1, e_146_12_2, e_146_12_3, e_146_32_0, e_146_25, e_146_32_1, e_146_32_2, e_146_32_3, e_146_49, e_146_57, e_146_60, e_147_0, e_147_11, e_147_19, e_147_32, e_147_38, e_147_55, e_147_46, s_133, s_234, s_has_8, s_get_8, s_39, e_131_0, e_132_0, Option.bind_some, Int.add_zero, z_wid, or_true, true_or, z_up_fn, z_up_ni, z_up_eq, z_up_qi, z_rw_fn, z_rw_in, z_rw_out, if_pos, if_neg, ↓reduceIte]
          exact w_ret rfl
        · intro k hk
          simp (disch := omega) only [z_up_fn, z_rw_fn]
        · intro τ hτ
          simp (disch := first | omega | (simp (disch := omega) only [hτ] <;> omega) | fail) only [e_231_0, e_231_7, e_231_37, e_231_18, e_231_29, e_231_44, e_231_115, e_231_99, e_231_152, e_231_160, e_231_168, e_231_179, e_231_233, e_231_242, e_231_197, e_231_253, e_231_265, e_231_271, e_231_118, e_231_141, e_231_171, e_231_182, e_231_280, e_231_288, e_231_132, e_229_0, e_229_42, e_229_73, e_229_25, e_229_113, e_230_0, e_230_43, e_230_57, e_230_26, e_230_84, e_230_75, s_149, s_228, s_168, e_150_0, e_151_0, Int.reduceMul, Int.reduceAdd, Int.zero_add, ite_self, hτ, Option.bind_some, Int.add_zero, z_wid, or_true, true_or, z_up_fn, z_up_ni, z_up_eq, z_up_qi, z_rw_fn, z_rw_in, z_rw_out, if_pos, if_neg, ↓reduceIte]
          exact w_ret (by omega)
        · skip
          exact w_ref h 0
      · apply zOK_mk2
        · simp (disch := first | omega | (simp (disch := omega) only [z_up_fn, z_up_ni, z_up_eq, z_up_qi, z_rw_fn] <;> omega) | fail) only [ite_self, Int.reduceAdd, e_129_0, e_129_8, e_129_16, e_129_25, e_129_33, e_129_81, e_129_101, e_129_109, e_129_116, e_129_127, e_129_137, e_129_151, e_129_163, e_129_169, e_129_192, e_129_87, e_129_120, e_129_131, e_129_140, e_129_178, e_129_186, e_129_90, e_143_0, e_143_6, e_144_0, e_144_11, e_144_20, e_144_33, e_144_39, e_144_56, e_144_47, e_145_0, e_145_6_0, e_145_6_1, e_145_6_2, e_145_6_3, e_145_12_0, e_145_12_1, e_145_12_2, e_145_12_3, e_145_31_0, e_145_25, e_145_31_1, e_145_31_2, e_145_31_3, e_145_52, e_145_40, e_145_43, e_146_0, e_146_6_0, e_146_6_1, e_146_6_2, e_146_6_3, e_146_12_0, e_146_12_1, e_146_12_2, e_146_12_3, e_146_32_0, e_146_25, e_146_32_1, e_146_32_2, e_146_32_3, e_146_49, e_146_57, e_146_60, e_147_0, e_147_11, e_147_19, e_147_32, e_147_38, e_147_55, e_147_46, s_133, s_234, s_has_8, s_get_8, s_39, e_131_0, e_132_0, Option.bind_some, Int.add_zero, z_wid, or_true, true_or, z_up_fn, z_up_ni, z_up_eq, z_up_qi, z_rw_fn, z_rw_in, z_rw_out, if_pos, if_neg, ↓reduceIte]
          exact w_ret rfl
        · intro k hk
          simp (disch := omega) only [z_up_fn, z_rw_fn]
        · intro τ hτ
          simp (disch := first | omega | (simp (disch := omega) only [hτ] <;> omega) | fail) only [e_231_0, e_231_7, e_231_37, e_231_18, e_231_29, e_231_44, e_231_115, e_231_99, e_231_152, e_231_160, e_231_168, e_231_179, e_231_233, e_231_242, e_231_197, e_231_253, e_231_265, e_231_271, e_231_118, e_231_141, e_231_171, e_231_182, e_231_280, e_231_288, e_231_132, e_229_0, e_229_42, e_229_73, e_229_25, e_229_113, e_230_0, e_230_43, e_230_57, e_230_26, e_230_84, e_230_75, s_149, s_228, s_168, e_150_0, e_151_0, Int.reduceMul, Int.reduceAdd, Int.zero_add, ite_self, hτ, Option.bind_some, Int.add_zero, z_wid, or_true, true_or, z_up_fn, z_up_ni, z_up_eq, z_up_qi, z_rw_fn, z_rw_in, z_rw_out, if_pos, if_neg, ↓reduceIte]
          exact w_ret rfl
        · exact w_ref h 13
    · apply zOK_mk2
      · simp (disch := first | omega | (simp (disch := omega) only [z_up_fn, z_up_ni, z_up_eq, z_up_qi, z_rw_fn] <;> omega) | fail) only [ite_self, Int.reduceAdd, e_129_0, e_129_8, e_129_16, e_129_25, e_129_33, e_129_81, e_129_101, e_129_109, e_129_116, e_129_127, e_129_137, e_129_151, e_129_163, e_129_169, e_129_192, e_129_87, e_129_120, e_129_131, e_129_140, e_129_178, e_129_186, e_129_90, e_143_0, e_143_6, e_144_0, e_144_11, e_144_20, e_144_33, e_144_39, e_144_56, e_144_47, e_145_0, e_145_6_0, e_145_6_1, e_145_6_2, e_145_6_3, e_145_12_0, e_145_12_1, e_145_12_2, e_145_12_3, e_145_31_0, e_145_25, e_145_31_1, e_145_31_2, e_145_31_3, e_145_52, e_145_40, e_145_43, e_146_0, e_146_6_0, e_146_6_1, e_146_6_2, e_146_6_3, e_146_12_0, e_146_12_1, e_146_12_2, e_146_12_3, e_146_32_0, e_146_25, e_146_32_1, e_146_32_2, e_146_32_3, e_146_49, e_146_57, e_146_60, e_147_0, e_147_11, e_147_19, e_147_32, e_147_38, e_147_55, e_147_46, s_133, s_234, s_has_8, s_get_8, s_39, e_131_0, e_132_0, Option.bind_some, Int.add_zero, z_wid, or_true, true_or, z_up_fn, z_up_ni, z_up_eq, z_up_qi, z_rw_fn, z_rw_in, z_rw_out, if_pos, if_neg, ↓reduceIte]
        exact w_ret rfl
      · intro k hk
        simp (disch := omega) only [z_up_fn, z_rw_fn]
      · intro τ hτ
        simp (disch := first | omega | (simp (disch := omega) only [hτ] <;> omega) | fail) only [e_231_0, e_231_7, e_231_37, e_231_18, e_231_29, e_231_44, e_231_115, e_231_99, e_231_152, e_231_160, e_231_168, e_231_179, e_231_233, e_231_242, e_231_197, e_231_253, e_231_265, e_231_271, e_231_118, e_231_141, e_231_171, e_231_182, e_231_280, e_231_288, e_231_132, e_229_0, e_229_42, e_229_73, e_229_25, e_229_113, e_230_0, e_230_43, e_230_57, e_230_26, e_230_84, e_230_75, s_149, s_228, s_168, e_150_0, e_151_0, Int.reduceMul, Int.reduceAdd, Int.zero_add, ite_self, hτ, Option.bind_some, Int.add_zero, z_wid, or_true, true_or, z_up_fn, z_up_ni, z_up_eq, z_up_qi, z_rw_fn, z_rw_in, z_rw_out, if_pos, if_neg, ↓reduceIte]
        exact w_ret rfl
      · exact w_ref h 1
  · apply zOK_mk2
    · simp (disch := first | omega | (simp (disch := omega) only [z_up_fn, z_up_ni, z_up_eq, z_up_qi, z_rw_fn] <;> omega) | fail) only [ite_self, Int.reduceAdd, e_129_0, e_129_8, e_129_16, e_129_25, e_129_33, e_129_81, e_129_101, e_129_109, e_129_116, e_129_127, e_129_137, e_129_151, e_129_163, e_129_169, e_129_192, e_129_87, e_129_120, e_129_131, e_129_140, e_129_178, e_129_186, e_129_90, e_143_0, e_143_6, e_144_0, e_144_11, e_144_20, e_144_33, e_144_39, e_144_56, e_144_47, e_145_0, e_145_6_0, e_145_6_1, e_145_6_2, e_145_6_3, e_145_12_0, e_145_12_1, e_145_12_2, e_145_12_3, e_145_31_0, e_145_25, e_145_31_1, e_145_31_2, e_145_31_3, e_145_52, e_145_40, e_145_43, e_146_0, e_146_6_0, e_146_6_1, e_146_6_2, e_146_6_3, e_146_12_0, e_146_12_1, e_146_12_2, e_146_12_3, e_146_32_0, e_146_25, e_146_32_1, e_146_32_2, e_146_32_3, e_146_49, e_146_57, e_146_60, e_147_0, e_147_11, e_147_19, e_147_32, e_147_38, e_147_55, e_147_46, s_133, s_234, s_has_8, s_get_8, s_39, e_131_0, e_132_0, Option.bind_some, Int.add_zero, z_wid, or_true, true_or, z_up_fn, z_up_ni, z_up_eq, z_up_qi, z_rw_fn, z_rw_in, z_rw_out, if_pos, if_neg, ↓reduceIte]
      exact w_ret rfl
    · intro k hk
      simp (disch := omega) only [z_up_fn, z_rw_fn]
    · intro τ hτ
      simp (disch := first | omega | (simp (disch := omega) only [hτ] <;> omega) | fail) only [e_231_0, e_231_7, e_231_37, e_231_18, e_231_29, e_231_44, e_231_115, e_231_99, e_231_152, e_231_160, e_231_168, e_231_179, e_231_233, e_231_242, e_231_197, e_231_253, e_231_265, e_231_271, e_231_118, e_231_141, e_231_171, e_231_182, e_231_280, e_231_288, e_231_132, e_229_0, e_229_42, e_229_73, e_229_25, e_229_113, e_230_0, e_230_43, e_230_57, e_230_26, e_230_84, e_230_75, s_149, s_228, s_168, e_150_0, e_151_0, Int.reduceMul, Int.reduceAdd, Int.zero_add, ite_self, hτ, Option.bind_some, Int.add_zero, z_wid, or_true, true_or, z_up_fn, z_up_ni, z_up_eq, z_up_qi, z_rw_fn, z_rw_in, z_rw_out, if_pos, if_neg, ↓reduceIte]
      exact w_ret rfl
    · exact w_ref h 1
theorem o_forge2s0 (d : Nat) (s : Int → Int) (L : Int) (σ : Nat → Int → Int) (h : zV s L σ) (x2 x3 : Int) (hs : x3 % 4 = 0) : zOK s L (d + 9) 129 231 [some (.inl 2), some (.inl x2), some (.inl x3)] [some (.inl 2), some (.inl x2), some (.inl x3), none] σ := by
  have hX := zV_X0 h
  have hX1 := hX.1
  have hX2 := hX.2.1
  have hX3 := hX.2.2.1
  have hX4 := hX.2.2.2.1
  have hX5 := hX.2.2.2.2.1
  have hX6 := hX.2.2.2.2.2.1
  have n0 : 0 ≤ x2 → x2 < σ 63 2 → σ 122 (x2) = σ 64 x2 := by
    intro p q
    have g := (hX.2.2.2.2.2.2 x2 (by omega) (by omega)).1
    rw [show (40 * 0 + x2 : Int) = x2 by omega] at g
    exact g.symm
  by_cases c1 : -100 ≤ x2 ∧ x2 ≤ 100
  · by_cases c2 : -100 ≤ x3 ∧ x3 ≤ 100
    · by_cases c3 : ¬ σ 63 1 = -1
      · by_cases c4 : σ 63 1 = 1
        · by_cases c5 : 0 ≤ x2 ∧ x2 < σ 63 2
          · apply zOK_mk2
            · simp (disch := first | omega | (simp (disch := omega) only [z_up_fn, z_up_ni, z_up_eq, z_up_qi, z_rw_fn] <;> omega) | fail) only [ite_self, Int.reduceAdd, e_129_0, e_129_8, e_129_16, e_129_25, e_129_33, e_129_81, e_129_101, e_129_109, e_129_116, e_129_127, e_129_137, e_129_151, e_129_163, e_129_169, e_129_192, e_129_87, e_129_120, e_129_131, e_129_140, e_129_178, e_129_186, e_129_90, e_143_0, e_143_6, e_144_0, e_144_11, e_144_20, e_144_33, e_144_39, e_144_56, e_144_47, e_145_0, e_145_6_0, e_145_6_1, e_145_6_2, e_145_6_3, e_145_12_0, e_145_12_1, e_145_12_2, e_145_12_3, e_145_31_0, e_145_25, e_145_31_1, e_145_31_2, e_145_31_3, e_145_52, e_145_40, e_145_43, e_146_0, e_146_6_0, e_146_6_1, e_146_6_2, e_146_6_3, e_146_12_0, e_146_12_1, e_146_12_2, e_146_12_3, e_146_32_0, e_146_25, e_146_32_1, e_146_32_2, e_146_32_3, e_146_49, e_146_57, e_146_60, e_147_0, e_147_11, e_147_19, e_147_32, e_147_38, e_147_55, e_147_46, s_133, s_234, s_has_8, s_get_8, s_39, e_131_0, e_132_0, w_ix0, w_iy0, hs, e_77_0_0, e_78_0_0, e_78_4_0, e_79_0_0, e_80_0_0, e_81_0_0, e_81_5_0, Option.bind_some, Int.add_zero, z_wid, or_true, true_or, z_up_fn, z_up_ni, z_up_eq, z_up_qi, z_rw_fn, z_rw_in, z_rw_out, if_pos, if_neg, ↓reduceIte]
              exact w_ret rfl
            · intro k hk
              simp (disch := omega) only [z_up_fn, z_rw_fn]
            · intro τ hτ
              simp (disch := first | omega | (simp (disch := omega) only [hτ] <;> omega) | fail) only [e_231_0, e_231_7, e_231_37, e_231_18, e_231_29, e_231_44, e_231_115, e_231_99, e_231_152, e_231_160, e_231_168, e_231_179, e_231_233, e_231_242, e_231_197, e_231_253, e_231_265, e_231_271, e_231_118, e_231_141, e_231_171, e_231_182, e_231_280, e_231_288, e_231_132, e_229_0, e_229_42, e_229_73, e_229_25, e_229_113, e_230_0, e_230_43, e_230_57, e_230_26, e_230_84, e_230_75, s_149, s_228, s_168, e_150_0, e_151_0, Int.reduceMul, Int.reduceAdd, Int.zero_add, ite_self, hs, n0, hτ, Option.bind_some, Int.add_zero, z_wid, or_true, true_or, z_up_fn, z_up_ni, z_up_eq, z_up_qi, z_rw_fn, z_rw_in, z_rw_out, if_pos, if_neg, ↓reduceIte]
              exact w_ret (by omega)
            · skip
              exact w_ref h 0
          · apply zOK_mk2
            · simp (disch := first | omega | (simp (disch := omega) only [z_up_fn, z_up_ni, z_up_eq, z_up_qi, z_rw_fn] <;> omega) | fail) only [ite_self, Int.reduceAdd, e_129_0, e_129_8, e_129_16, e_129_25, e_129_33, e_129_81, e_129_101, e_129_109, e_129_116, e_129_127, e_129_137, e_129_151, e_129_163, e_129_169, e_129_192, e_129_87, e_129_120, e_129_131, e_129_140, e_129_178, e_129_186, e_129_90, e_143_0, e_143_6, e_144_0, e_144_11, e_144_20, e_144_33, e_144_39, e_144_56, e_144_47, e_145_0, e_145_6_0, e_145_6_1, e_145_6_2, e_145_6_3, e_145_12_0, e_145_12_1, e_145_12_2, e_145_12_3, e_145_31_0, e_145_25, e_145_31_1, e_145_31_2, e_145_31_3, e_145_52, e_145_40, e_145_43, e_146_0, e_146_6_0, e_146_6_1, e_146_6_2, e_146_6_3, e_146_12_0, e_146_12_1, e_146_12_2, e_146_12_3, e_146_32_0, e_146_25, e_146_32_1, e_146_32_2, e_146_32_3, e_146_49, e_146_57, e_146_60, e_147_0, e_147_11, e_147_19, e_147_32, e_147_38, e_147_55, e_147_46, s_133, s_234, s_has_8, s_get_8, s_39, e_131_0, e_132_0, w_ix0, w_iy0, hs, e_77_0_0, e_78_0_0, e_78_4_0, e_79_0_0, e_80_0_0, e_81_0_0, e_81_5_0, Option.bind_some, Int.add_zero, z_wid, or_true, true_or, z_up_fn, z_up_ni, z_up_eq, z_up_qi, z_rw_fn, z_rw_in, z_rw_out, if_pos, if_neg, ↓reduceIte]
              exact w_ret rfl
            · intro k hk
              simp (disch := omega) only [z_up_fn, z_rw_fn]
            · intro τ hτ
              simp (disch := first | omega | (simp (disch := omega) only [hτ] <;> omega) | fail) only [e_231_0, e_231_7, e_231_37, e_231_18, e_231_29, e_231_44, e_231_115, e_231_99, e_231_152, e_231_160, e_231_168, e_231_179, e_231_233, e_231_242, e_231_197, e_231_253, e_231_265, e_231_271, e_231_118, e_231_141, e_231_171, e_231_182, e_231_280, e_231_288, e_231_132, e_229_0, e_229_42, e_229_73, e_229_25, e_229_113, e_230_0, e_230_43, e_230_57, e_230_26, e_230_84, e_230_75, s_149, s_228, s_168, e_150_0, e_151_0, Int.reduceMul, Int.reduceAdd, Int.zero_add, ite_self, hs, n0, hτ, Option.bind_some, Int.add_zero, z_wid, or_true, true_or, z_up_fn, z_up_ni, z_up_eq, z_up_qi, z_rw_fn, z_rw_in, z_rw_out, if_pos, if_neg, ↓reduceIte]
              exact w_ret rfl
            · exact w_ref h 12
        · apply zOK_mk2
          · simp (disch := first | omega | (simp (disch := omega) only [z_up_fn, z_up_ni, z_up_eq, z_up_qi, z_rw_fn] <;> omega) | fail) only [ite_self, Int.reduceAdd, e_129_0, e_129_8, e_129_16, e_129_25, e_129_33, e_129_81, e_129_101, e_129_109, e_129_116, e_129_127, e_129_137, e_129_151, e_129_163, e_129_169, e_129_192, e_129_87, e_129_120, e_129_131, e_129_140, e_129_178, e_129_186, e_129_90, e_143_0, e_143_6, e_144_0, e_144_11, e_144_20, e_144_33, e_144_39, e_144_56, e_144_47, e_145_0, e_145_6_0, e_145_6_1, e_145_6_2, e_145_6_3, e_145_12_0, e_145_12_1, e_145_12_2, e_145_12_3, e_145_31_0, e_145_25, e_145_31_1, e_145_31_2, e_145_31_3, e_145_52, e_145_40, e_145_43, e_146_0, e_146_6_0, e_146_6_1, e_146_6_2, e_146_6_3, e_146_12_0, e_146_12_1, e_146_12_2, e_146_12_3, e_146_32_0, e_146_25, e_146_32_1, e_146_32_2, e_146_32_3, e_146_49, e_146_57, e_146_60, e_147_0, e_147_11, e_147_19, e_147_32, e_147_38, e_147_55, e_147_46, s_133, s_234, s_has_8, s_get_8, s_39, e_131_0, e_132_0, w_ix0, w_iy0, hs, e_77_0_0, e_78_0_0, e_78_4_0, e_79_0_0, e_80_0_0, e_81_0_0, e_81_5_0, Option.bind_some, Int.add_zero, z_wid, or_true, true_or, z_up_fn, z_up_ni, z_up_eq, z_up_qi, z_rw_fn, z_rw_in, z_rw_out, if_pos, if_neg, ↓reduceIte]
            exact w_ret rfl
          · intro k hk
            simp (disch := omega) only [z_up_fn, z_rw_fn]
          · intro τ hτ
            simp (disch := first | omega | (simp (disch := omega) only [hτ] <;> omega) | fail) only [e_231_0, e_231_7, e_231_37, e_231_18, e_231_29, e_231_44, e_231_115, e_231_99, e_231_152, e_231_160, e_231_168, e_231_179, e_231_233, e_231_242, e_231_197, e_231_253, e_231_265, e_231_271, e_231_118, e_231_141, e_231_171, e_231_182, e_231_280, e_231_288, e_231_132, e_229_0, e_229_42, e_229_73, e_229_25, e_229_113, e_230_0, e_230_43, e_230_57, e_230_26, e_230_84, e_230_75, s_149, s_228, s_168, e_150_0, e_151_0, Int.reduceMul, Int.reduceAdd, Int.zero_add, ite_self, hs, n0, hτ, Option.bind_some, Int.add_zero, z_wid, or_true, true_or, z_up_fn, z_up_ni, z_up_eq, z_up_qi, z_rw_fn, z_rw_in, z_rw_out, if_pos, if_neg, ↓reduceIte]
            exact w_ret rfl
          · exact w_ref h 11
      · apply zOK_mk2
        · simp (disch := first | omega | (simp (disch := omega) only [z_up_fn, z_up_ni, z_up_eq, z_up_qi, z_rw_fn] <;> omega) | fail) only [ite_self, Int.reduceAdd, e_129_0, e_129_8, e_129_16, e_129_25, e_129_33, e_129_81, e_129_101, e_129_109, e_129_116, e_129_127, e_129_137, e_129_151, e_129_163, e_129_169, e_129_192, e_129_87, e_129_120, e_129_131, e_129_140, e_129_178, e_129_186, e_129_90, e_143_0, e_143_6, e_144_0, e_144_11, e_144_20, e_144_33, e_144_39, e_144_56, e_144_47, e_145_0, e_145_6_0, e_145_6_1, e_145_6_2, e_145_6_3, e_145_12_0, e_145_12_1, e_145_12_2, e_145_12_3, e_145_31_0, e_145_25, e_145_31_1, e_145_31_2, e_145_31_3, e_145_52, e_145_40, e_145_43, e_146_0, e_146_6_0, e_146_6_1, e_146_6_2, e_146_6_3, e_146_12_0, e_146_12_1, e_146_12_2, e_146_12_3, e_146_32_0, e_146_25, e_146_32_1, e_146_32_2, e_146_32_3, e_146_49, e_146_57, e_146_60, e_147_0, e_147_11, e_147_19, e_147_32, e_147_38, e_147_55, e_147_46, s_133, s_234, s_has_8, s_get_8, s_39, e_131_0, e_132_0, w_ix0, w_iy0, hs, e_77_0_0, e_78_0_0, e_78_4_0, e_79_0_0, e_80_0_0, e_81_0_0, e_81_5_0, Option.bind_some, Int.add_zero, z_wid, or_true, true_or, z_up_fn, z_up_ni, z_up_eq, z_up_qi, z_rw_fn, z_rw_in, z_rw_out, if_pos, if_neg, ↓reduceIte]
          exact w_ret rfl
        · intro k hk
          simp (disch := omega) only [z_up_fn, z_rw_fn]
        · intro τ hτ
          simp (disch := first | omega | (simp (disch := omega) only [hτ] <;> omega) | fail) only [e_231_0, e_231_7, e_231_37, e_231_18, e_231_29, e_231_44, e_231_115, e_231_99, e_231_152, e_231_160, e_231_168, e_231_179, e_231_233, e_231_242, e_231_197, e_231_253, e_231_265, e_231_271, e_231_118, e_231_141, e_231_171, e_231_182, e_231_280, e_231_288, e_231_132, e_229_0, e_229_42, e_229_73, e_229_25, e_229_113, e_230_0, e_230_43, e_230_57, e_230_26, e_230_84, e_230_75, s_149, s_228, s_168, e_150_0, e_151_0, Int.reduceMul, Int.reduceAdd, Int.zero_add, ite_self, hs, n0, hτ, Option.bind_some, Int.add_zero, z_wid, or_true, true_or, z_up_fn, z_up_ni, z_up_eq, z_up_qi, z_rw_fn, z_rw_in, z_rw_out, if_pos, if_neg, ↓reduceIte]
          exact w_ret rfl
        · exact w_ref h 10
    · apply zOK_mk2
      · simp (disch := first | omega | (simp (disch := omega) only [z_up_fn, z_up_ni, z_up_eq, z_up_qi, z_rw_fn] <;> omega) | fail) only [ite_self, Int.reduceAdd, e_129_0, e_129_8, e_129_16, e_129_25, e_129_33, e_129_81, e_129_101, e_129_109, e_129_116, e_129_127, e_129_137, e_129_151, e_129_163, e_129_169, e_129_192, e_129_87, e_129_120, e_129_131, e_129_140, e_129_178, e_129_186, e_129_90, e_143_0, e_143_6, e_144_0, e_144_11, e_144_20, e_144_33, e_144_39, e_144_56, e_144_47, e_145_0, e_145_6_0, e_145_6_1, e_145_6_2, e_145_6_3, e_145_12_0, e_145_12_1, e_145_12_2, e_145_12_3, e_145_31_0, e_145_25, e_145_31_1, e_145_31_2, e_145_31_3, e_145_52, e_145_40, e_145_43, e_146_0, e_146_6_0, e_146_6_1, e_146_6_2, e_146_6_3, e_146_12_0, e_146_12_1, e_146_12_2, e_146_12_3, e_146_32_0, e_146_25, e_146_32_1, e_146_32_2, e_146_32_3, e_146_49, e_146_57, e_146_60, e_147_0, e_147_11, e_147_19, e_147_32, e_147_38, e_147_55, e_147_46, s_133, s_234, s_has_8, s_get_8, s_39, e_131_0, e_132_0, w_ix0, w_iy0, hs, e_77_0_0, e_78_0_0, e_78_4_0, e_79_0_0, e_80_0_0, e_81_0_0, e_81_5_0, Option.bind_some, Int.add_zero, z_wid, or_true, true_or, z_up_fn, z_up_ni, z_up_eq, z_up_qi, z_rw_fn, z_rw_in, z_rw_out, if_pos, if_neg, ↓reduceIte]
        exact w_ret rfl
      · intro k hk
        simp (disch := omega) only [z_up_fn, z_rw_fn]
      · intro τ hτ
        simp (disch := first | omega | (simp (disch := omega) only [hτ] <;> omega) | fail) only [e_231_0, e_231_7, e_231_37, e_231_18, e_231_29, e_231_44, e_231_115, e_231_99, e_231_152, e_231_160, e_231_168, e_231_179, e_231_233, e_231_242, e_231_197, e_231_253, e_231_265, e_231_271, e_231_118, e_231_141, e_231_171, e_231_182, e_231_280, e_231_288, e_231_132, e_229_0, e_229_42, e_229_73, e_229_25, e_229_113, e_230_0, e_230_43, e_230_57, e_230_26, e_230_84, e_230_75, s_149, s_228, s_168, e_150_0, e_151_0, Int.reduceMul, Int.reduceAdd, Int.zero_add, ite_self, hs, n0, hτ, Option.bind_some, Int.add_zero, z_wid, or_true, true_or, z_up_fn, z_up_ni, z_up_eq, z_up_qi, z_rw_fn, z_rw_in, z_rw_out, if_pos, if_neg, ↓reduceIte]
        exact w_ret rfl
      · exact w_ref h 1
  · apply zOK_mk2
    · simp (disch := first | omega | (simp (disch := omega) only [z_up_fn, z_up_ni, z_up_eq, z_up_qi, z_rw_fn] <;> omega) | fail) only [ite_self, Int.reduceAdd, e_129_0, e_129_8, e_129_16, e_129_25, e_129_33, e_129_81, e_129_101, e_129_109, e_129_116, e_129_127, e_129_137, e_129_151, e_129_163, e_129_169, e_129_192, e_129_87, e_129_120, e_129_131, e_129_140, e_129_178, e_129_186, e_129_90, e_143_0, e_143_6, e_144_0, e_144_11, e_144_20, e_144_33, e_144_39, e_144_56, e_144_47, e_145_0, e_145_6_0, e_145_6_1, e_145_6_2, e_145_6_3, e_145_12_0, e_145_12_1, e_145_12_2, e_145_12_3, e_145_31_0, e_145_25, e_145_31_1, e_145_31_2, e_145_31_3, e_145_52, e_145_40, e_145_43, e_146_0, e_146_6_0, e_146_6_1, e_146_6_2, e_146_6_3, e_146_12_0, e_146_12_1, e_146_12_2, e_146_12_3, e_146_32_0, e_146_25, e_146_32_1, e_146_32_2, e_146_32_3, e_146_49, e_146_57, e_146_60, e_147_0, e_147_11, e_147_19, e_147_32, e_147_38, e_147_55, e_147_46, s_133, s_234, s_has_8, s_get_8, s_39, e_131_0, e_132_0, w_ix0, w_iy0, hs, e_77_0_0, e_78_0_0, e_78_4_0, e_79_0_0, e_80_0_0, e_81_0_0, e_81_5_0, Option.bind_some, Int.add_zero, z_wid, or_true, true_or, z_up_fn, z_up_ni, z_up_eq, z_up_qi, z_rw_fn, z_rw_in, z_rw_out, if_pos, if_neg, ↓reduceIte]
      exact w_ret rfl
    · intro k hk
      simp (disch := omega) only [z_up_fn, z_rw_fn]
    · intro τ hτ
      simp (disch := first | omega | (simp (disch := omega) only [hτ] <;> omega) | fail) only [e_231_0, e_231_7, e_231_37, e_231_18, e_231_29, e_231_44, e_231_115, e_231_99, e_231_152, e_231_160, e_231_168, e_231_179, e_231_233, e_231_242, e_231_197, e_231_253, e_231_265, e_231_271, e_231_118, e_231_141, e_231_171, e_231_182, e_231_280, e_231_288, e_231_132, e_229_0, e_229_42, e_229_73, e_229_25, e_229_113, e_230_0, e_230_43, e_230_57, e_230_26, e_230_84, e_230_75, s_149, s_228, s_168, e_150_0, e_151_0, Int.reduceMul, Int.reduceAdd, Int.zero_add, ite_self, hs, n0, hτ, Option.bind_some, Int.add_zero, z_wid, or_true, true_or, z_up_fn, z_up_ni, z_up_eq, z_up_qi, z_rw_fn, z_rw_in, z_rw_out, if_pos, if_neg, ↓reduceIte]
      exact w_ret rfl
    · exact w_ref h 1
theorem o_forge3s0n0 (d : Nat) (s : Int → Int) (L : Int) (σ : Nat → Int → Int) (h : zV s L σ) (x3 : Int) (hs : x3 % 4 = 0) : zOK s L (d + 9) 129 231 [some (.inl 3), some (.inl 0), some (.inl x3)] [some (.inl 3), some (.inl 0), some (.inl x3), none] σ := by
  have hX := zV_X0 h
  have hX1 := hX.1
  have hX2 := hX.2.1
  have hX3 := hX.2.2.1
  have hX4 := hX.2.2.2.1
  have hX5 := hX.2.2.2.2.1
  have hX6 := hX.2.2.2.2.2.1
  by_cases c1 : -100 ≤ x3 ∧ x3 ≤ 100
  · by_cases c2 : ¬ σ 63 1 = -1
    · by_cases c3 : σ 63 1 = 0
      · by_cases c4 : 1 ≤ σ 63 2
        · apply zOK_mk2
          · simp (disch := first | omega | (simp (disch := omega) only [z_up_fn, z_up_ni, z_up_eq, z_up_qi, z_rw_fn] <;> omega) | fail) only [ite_self, Int.reduceAdd, e_129_0, e_129_8, e_129_16, e_129_25, e_129_33, e_129_81, e_129_101, e_129_109, e_129_116, e_129_127, e_129_137, e_129_151, e_129_163, e_129_169, e_129_192, e_129_87, e_129_120, e_129_131, e_129_140, e_129_178, e_129_186, e_129_90, e_143_0, e_143_6, e_144_0, e_144_11, e_144_20, e_144_33, e_144_39, e_144_56, e_144_47, e_145_0, e_145_6_0, e_145_6_1, e_145_6_2, e_145_6_3, e_145_12_0, e_145_12_1, e_145_12_2, e_145_12_3, e_145_31_0, e_145_25, e_145_31_1, e_145_31_2, e_145_31_3, e_145_52, e_145_40, e_145_43, e_146_0, e_146_6_0, e_146_6_1, e_146_6_2, e_146_6_3, e_146_12_0, e_146_12_1, e_146_12_2, e_146_12_3, e_146_32_0, e_146_25, e_146_32_1, e_146_32_2, e_146_32_3, e_146_49, e_146_57, e_146_60, e_147_0, e_147_11, e_147_19, e_147_32, e_147_38, e_147_55, e_147_46, s_133, s_234, s_has_8, s_get_8, s_39, e_131_0, e_132_0, w_ix0, w_iy0, hs, e_77_0_0, e_78_0_0, e_78_4_0, e_79_0_0, e_80_0_0, e_81_0_0, e_81_5_0, e_83_0_0, e_83_5_0, e_83_27_0, Int.reduceLT, Int.reduceLE, and_self, and_true, true_and, Option.bind_some, Int.add_zero, z_wid, or_true, true_or, z_up_fn, z_up_ni, z_up_eq, z_up_qi, z_rw_fn, z_rw_in, z_rw_out, if_pos, if_neg, ↓reduceIte]
            exact w_ret rfl
          · intro k hk
            simp (disch := omega) only [z_up_fn, z_rw_fn]
          · intro τ hτ
            simp (disch := first | omega | (simp (disch := omega) only [hτ] <;> omega) | fail) only [e_231_0, e_231_7, e_231_37, e_231_18, e_231_29, e_231_44, e_231_115, e_231_99, e_231_152, e_231_160, e_231_168, e_231_179, e_231_233, e_231_242, e_231_197, e_231_253, e_231_265, e_231_271, e_231_118, e_231_141, e_231_171, e_231_182, e_231_280, e_231_288, e_231_132, e_229_0, e_229_42, e_229_73, e_229_25, e_229_113, e_230_0, e_230_43, e_230_57, e_230_26, e_230_84, e_230_75, s_149, s_228, s_168, e_150_0, e_151_0, Int.reduceMul, Int.reduceAdd, Int.zero_add, ite_self, hs, e_229_0, e_229_42, e_229_73, e_229_79, e_229_25, e_229_113, Int.reduceLT, Int.reduceLE, and_self, and_true, true_and, hτ, Option.bind_some, Int.add_zero, z_wid, or_true, true_or, z_up_fn, z_up_ni, z_up_eq, z_up_qi, z_rw_fn, z_rw_in, z_rw_out, if_pos, if_neg, ↓reduceIte]
            exact w_ret rfl
          · skip
            exact w_ref h 0
        · apply zOK_mk2
          · simp (disch := first | omega | (simp (disch := omega) only [z_up_fn, z_up_ni, z_up_eq, z_up_qi, z_rw_fn] <;> omega) | fail) only [ite_self, Int.reduceAdd, e_129_0, e_129_8, e_129_16, e_129_25, e_129_33, e_129_81, e_129_101, e_129_109, e_129_116, e_129_127, e_129_137, e_129_151, e_129_163, e_129_169, e_129_192, e_129_87, e_129_120, e_129_131, e_129_140, e_129_178, e_129_186, e_129_90, e_143_0, e_143_6, e_144_0, e_144_11, e_144_20, e_144_33, e_144_39, e_144_56, e_144_47, e_145_0, e_145_6_0, e_145_6_1, e_145_6_2, e_145_6_3, e_145_12_0, e_145_12_1, e_145_12_2, e_145_12_3, e_145_31_0, e_145_25, e_145_31_1, e_145_31_2, e_145_31_3, e_145_52, e_145_40, e_145_43, e_146_0, e_146_6_0, e_146_6_1, e_146_6_2, e_146_6_3, e_146_12_0, e_146_12_1, e_146_12_2, e_146_12_3, e_146_32_0, e_146_25, e_146_32_1, e_146_32_2, e_146_32_3, e_146_49, e_146_57, e_146_60, e_147_0, e_147_11, e_147_19, e_147_32, e_147_38, e_147_55, e_147_46, s_133, s_234, s_has_8, s_get_8, s_39, e_131_0, e_132_0, w_ix0, w_iy0, hs, e_77_0_0, e_78_0_0, e_78_4_0, e_79_0_0, e_80_0_0, e_81_0_0, e_81_5_0, e_83_0_0, e_83_5_0, e_83_27_0, Int.reduceLT, Int.reduceLE, and_self, and_true, true_and, Option.bind_some, Int.add_zero, z_wid, or_true, true_or, z_up_fn, z_up_ni, z_up_eq, z_up_qi, z_rw_fn, z_rw_in, z_rw_out, if_pos, if_neg, ↓reduceIte]
            exact w_ret rfl
          · intro k hk
            simp (disch := omega) only [z_up_fn, z_rw_fn]
          · intro τ hτ
            simp (disch := first | omega | (simp (disch := omega) only [hτ] <;> omega) | fail) only [e_231_0, e_231_7, e_231_37, e_231_18, e_231_29, e_231_44, e_231_115, e_231_99, e_231_152, e_231_160, e_231_168, e_231_179, e_231_233, e_231_242, e_231_197, e_231_253, e_231_265, e_231_271, e_231_118, e_231_141, e_231_171, e_231_182, e_231_280, e_231_288, e_231_132, e_229_0, e_229_42, e_229_73, e_229_25, e_229_113, e_230_0, e_230_43, e_230_57, e_230_26, e_230_84, e_230_75, s_149, s_228, s_168, e_150_0, e_151_0, Int.reduceMul, Int.reduceAdd, Int.zero_add, ite_self, hs, e_229_0, e_229_42, e_229_73, e_229_79, e_229_25, e_229_113, Int.reduceLT, Int.reduceLE, and_self, and_true, true_and, hτ, Option.bind_some, Int.add_zero, z_wid, or_true, true_or, z_up_fn, z_up_ni, z_up_eq, z_up_qi, z_rw_fn, z_rw_in, z_rw_out, if_pos, if_neg, ↓reduceIte]
            exact w_ret rfl
          · exact w_ref h 12
      · apply zOK_mk2
        · simp (disch := first | omega | (simp (disch := omega) only [z_up_fn, z_up_ni, z_up_eq, z_up_qi, z_rw_fn] <;> omega) | fail) only [ite_self, Int.reduceAdd, e_129_0, e_129_8, e_129_16, e_129_25, e_129_33, e_129_81, e_129_101, e_129_109, e_129_116, e_129_127, e_129_137, e_129_151, e_129_163, e_129_169, e_129_192, e_129_87, e_129_120, e_129_131, e_129_140, e_129_178, e_129_186, e_129_90, e_143_0, e_143_6, e_144_0, e_144_11, e_144_20, e_144_33, e_144_39, e_144_56, e_144_47, e_145_0, e_145_6_0, e_145_6_1, e_145_6_2, e_145_6_3, e_145_12_0, e_145_12_1, e_145_12_2, e_145_12_3, e_145_31_0, e_145_25, e_145_31_1, e_145_31_2, e_145_31_3, e_145_52, e_145_40, e_145_43, e_146_0, e_146_6_0, e_146_6_1, e_146_6_2, e_146_6_3, e_146_12_0, e_146_12_1, e_146_12_2, e_146_12_3, e_146_32_0, e_146_25, e_146_32_1, e_146_32_2, e_146_32_3, e_146_49, e_146_57, e_146_60, e_147_0, e_147_11, e_147_19, e_147_32, e_147_38, e_147_55, e_147_46, s_133, s_234, s_has_8, s_get_8, s_39, e_131_0, e_132_0, w_ix0, w_iy0, hs, e_77_0_0, e_78_0_0, e_78_4_0, e_79_0_0, e_80_0_0, e_81_0_0, e_81_5_0, e_83_0_0, e_83_5_0, e_83_27_0, Int.reduceLT, Int.reduceLE, and_self, and_true, true_and, Option.bind_some, Int.add_zero, z_wid, or_true, true_or, z_up_fn, z_up_ni, z_up_eq, z_up_qi, z_rw_fn, z_rw_in, z_rw_out, if_pos, if_neg, ↓reduceIte]
          exact w_ret rfl
        · intro k hk
          simp (disch := omega) only [z_up_fn, z_rw_fn]
        · intro τ hτ
          simp (disch := first | omega | (simp (disch := omega) only [hτ] <;> omega) | fail) only [e_231_0, e_231_7, e_231_37, e_231_18, e_231_29, e_231_44, e_231_115, e_231_99, e_231_152, e_231_160, e_231_168, e_231_179, e_231_233, e_231_242, e_231_197, e_231_253, e_231_265, e_231_271, e_231_118, e_231_141, e_231_171, e_231_182, e_231_280, e_231_288, e_231_132, e_229_0, e_229_42, e_229_73, e_229_25, e_229_113, e_230_0, e_230_43, e_230_57, e_230_26, e_230_84, e_230_75, s_149, s_228, s_168, e_150_0, e_151_0, Int.reduceMul, Int.reduceAdd, Int.zero_add, ite_self, hs, e_229_0, e_229_42, e_229_73, e_229_79, e_229_25, e_229_113, Int.reduceLT, Int.reduceLE, and_self, and_true, true_and, hτ, Option.bind_some, Int.add_zero, z_wid, or_true, true_or, z_up_fn, z_up_ni, z_up_eq, z_up_qi, z_rw_fn, z_rw_in, z_rw_out, if_pos, if_neg, ↓reduceIte]
          exact w_ret rfl
        · exact w_ref h 11
    · apply zOK_mk2
      · simp (disch := first | omega | (simp (disch := omega) only [z_up_fn, z_up_ni, z_up_eq, z_up_qi, z_rw_fn] <;> omega) | fail) only [ite_self, Int.reduceAdd, e_129_0, e_129_8, e_129_16, e_129_25, e_129_33, e_129_81, e_129_101, e_129_109, e_129_116, e_129_127, e_129_137, e_129_151, e_129_163, e_129_169, e_129_192, e_129_87, e_129_120, e_129_131, e_129_140, e_129_178, e_129_186, e_129_90, e_143_0, e_143_6, e_144_0, e_144_11, e_144_20, e_144_33, e_144_39, e_144_56, e_144_47, e_145_0, e_145_6_0, e_145_6_1, e_145_6_2, e_145_6_3, e_145_12_0, e_145_12_1, e_145_12_2, e_145_12_3, e_145_31_0, e_145_25, e_145_31_1, e_145_31_2, e_145_31_3, e_145_52, e_145_40, e_145_43, e_146_0, e_146_6_0, e_146_6_1, e_146_6_2, e_146_6_3, e_146_12_0, e_146_12_1, e_146_12_2, e_146_12_3, e_146_32_0, e_146_25, e_146_32_1, e_146_32_2, e_146_32_3, e_146_49, e_146_57, e_146_60, e_147_0, e_147_11, e_147_19, e_147_32, e_147_38, e_147_55, e_147_46, s_133, s_234, s_has_8, s_get_8, s_39, e_131_0, e_132_0, w_ix0, w_iy0, hs, e_77_0_0, e_78_0_0, e_78_4_0, e_79_0_0, e_80_0_0, e_81_0_0, e_81_5_0, e_83_0_0, e_83_5_0, e_83_27_0, Int.reduceLT, Int.reduceLE, and_self, and_true, true_and, Option.bind_some, Int.add_zero, z_wid, or_true, true_or, z_up_fn, z_up_ni, z_up_eq, z_up_qi, z_rw_fn, z_rw_in, z_rw_out, if_pos, if_neg, ↓reduceIte]
        exact w_ret rfl
      · intro k hk
        simp (disch := omega) only [z_up_fn, z_rw_fn]
      · intro τ hτ
        simp (disch := first | omega | (simp (disch := omega) only [hτ] <;> omega) | fail) only [e_231_0, e_231_7, e_231_37, e_231_18, e_231_29, e_231_44, e_231_115, e_231_99, e_231_152, e_231_160, e_231_168, e_231_179, e_231_233, e_231_242, e_231_197, e_231_253, e_231_265, e_231_271, e_231_118, e_231_141, e_231_171, e_231_182, e_231_280, e_231_288, e_231_132, e_229_0, e_229_42, e_229_73, e_229_25, e_229_113, e_230_0, e_230_43, e_230_57, e_230_26, e_230_84, e_230_75, s_149, s_228, s_168, e_150_0, e_151_0, Int.reduceMul, Int.reduceAdd, Int.zero_add, ite_self, hs, e_229_0, e_229_42, e_229_73, e_229_79, e_229_25, e_229_113, Int.reduceLT, Int.reduceLE, and_self, and_true, true_and, hτ, Option.bind_some, Int.add_zero, z_wid, or_true, true_or, z_up_fn, z_up_ni, z_up_eq, z_up_qi, z_rw_fn, z_rw_in, z_rw_out, if_pos, if_neg, ↓reduceIte]
        exact w_ret rfl
      · exact w_ref h 10
  · apply zOK_mk2
    · simp (disch := first | omega | (simp (disch := omega) only [z_up_fn, z_up_ni, z_up_eq, z_up_qi, z_rw_fn] <;> omega) | fail) only [ite_self, Int.reduceAdd, e_129_0, e_129_8, e_129_16, e_129_25, e_129_33, e_129_81, e_129_101, e_129_109, e_129_116, e_129_127, e_129_137, e_129_151, e_129_163, e_129_169, e_129_192, e_129_87, e_129_120, e_129_131, e_129_140, e_129_178, e_129_186, e_129_90, e_143_0, e_143_6, e_144_0, e_144_11, e_144_20, e_144_33, e_144_39, e_144_56, e_144_47, e_145_0, e_145_6_0, e_145_6_1, e_145_6_2, e_145_6_3, e_145_12_0, e_145_12_1, e_145_12_2, e_145_12_3, e_145_31_0, e_145_25, e_145_31_1, e_145_31_2, e_145_31_3, e_145_52, e_145_40, e_145_43, e_146_0, e_146_6_0, e_146_6_1, e_146_6_2, e_146_6_3, e_146_12_0, e_146_12_1, e_146_12_2, e_146_12_3, e_146_32_0, e_146_25, e_146_32_1, e_146_32_2, e_146_32_3, e_146_49, e_146_57, e_146_60, e_147_0, e_147_11, e_147_19, e_147_32, e_147_38, e_147_55, e_147_46, s_133, s_234, s_has_8, s_get_8, s_39, e_131_0, e_132_0, w_ix0, w_iy0, hs, e_77_0_0, e_78_0_0, e_78_4_0, e_79_0_0, e_80_0_0, e_81_0_0, e_81_5_0, e_83_0_0, e_83_5_0, e_83_27_0, Int.reduceLT, Int.reduceLE, and_self, and_true, true_and, Option.bind_some, Int.add_zero, z_wid, or_true, true_or, z_up_fn, z_up_ni, z_up_eq, z_up_qi, z_rw_fn, z_rw_in, z_rw_out, if_pos, if_neg, ↓reduceIte]
      exact w_ret rfl
    · intro k hk
      simp (disch := omega) only [z_up_fn, z_rw_fn]
    · intro τ hτ
      simp (disch := first | omega | (simp (disch := omega) only [hτ] <;> omega) | fail) only [e_231_0, e_231_7, e_231_37, e_231_18, e_231_29, e_231_44, e_231_115, e_231_99, e_231_152, e_231_160, e_231_168, e_231_179, e_231_233, e_231_242, e_231_197, e_231_253, e_231_265, e_231_271, e_231_118, e_231_141, e_231_171, e_231_182, e_231_280, e_231_288, e_231_132, e_229_0, e_229_42, e_229_73, e_229_25, e_229_113, e_230_0, e_230_43, e_230_57, e_230_26, e_230_84, e_230_75, s_149, s_228, s_168, e_150_0, e_151_0, Int.reduceMul, Int.reduceAdd, Int.zero_add, ite_self, hs, e_229_0, e_229_42, e_229_73, e_229_79, e_229_25, e_229_113, Int.reduceLT, Int.reduceLE, and_self, and_true, true_and, hτ, Option.bind_some, Int.add_zero, z_wid, or_true, true_or, z_up_fn, z_up_ni, z_up_eq, z_up_qi, z_rw_fn, z_rw_in, z_rw_out, if_pos, if_neg, ↓reduceIte]
      exact w_ret rfl
    · exact w_ref h 1
theorem o_forge3s0n1 (d : Nat) (s : Int → Int) (L : Int) (σ : Nat → Int → Int) (h : zV s L σ) (x3 : Int) (hs : x3 % 4 = 0) : zOK s L (d + 9) 129 231 [some (.inl 3), some (.inl 1), some (.inl x3)] [some (.inl 3), some (.inl 1), some (.inl x3), none] σ := by
  have hX := zV_X0 h
  have hX1 := hX.1
  have hX2 := hX.2.1
  have hX3 := hX.2.2.1
  have hX4 := hX.2.2.2.1
  have hX5 := hX.2.2.2.2.1
  have hX6 := hX.2.2.2.2.2.1
  have n1 : σ 122 1 = σ 64 1 := (hX.2.2.2.2.2.2 1 (by omega) (by omega)).1.symm
  by_cases c1 : -100 ≤ x3 ∧ x3 ≤ 100
  · by_cases c2 : ¬ σ 63 1 = -1
    · by_cases c3 : σ 63 1 = 0
      · by_cases c4 : 2 ≤ σ 63 2
        · apply zOK_mk2
          · simp (disch := first | omega | (simp (disch := omega) only [z_up_fn, z_up_ni, z_up_eq, z_up_qi, z_rw_fn] <;> omega) | fail) only [ite_self, Int.reduceAdd, e_129_0, e_129_8, e_129_16, e_129_25, e_129_33, e_129_81, e_129_101, e_129_109, e_129_116, e_129_127, e_129_137, e_129_151, e_129_163, e_129_169, e_129_192, e_129_87, e_129_120, e_129_131, e_129_140, e_129_178, e_129_186, e_129_90, e_143_0, e_143_6, e_144_0, e_144_11, e_144_20, e_144_33, e_144_39, e_144_56, e_144_47, e_145_0, e_145_6_0, e_145_6_1, e_145_6_2, e_145_6_3, e_145_12_0, e_145_12_1, e_145_12_2, e_145_12_3, e_145_31_0, e_145_25, e_145_31_1, e_145_31_2, e_145_31_3, e_145_52, e_145_40, e_145_43, e_146_0, e_146_6_0, e_146_6_1, e_146_6_2, e_146_6_3, e_146_12_0, e_146_12_1, e_146_12_2, e_146_12_3, e_146_32_0, e_146_25, e_146_32_1, e_146_32_2, e_146_32_3, e_146_49, e_146_57, e_146_60, e_147_0, e_147_11, e_147_19, e_147_32, e_147_38, e_147_55, e_147_46, s_133, s_234, s_has_8, s_get_8, s_39, e_131_0, e_132_0, w_ix0, w_iy0, hs, e_77_0_0, e_78_0_0, e_78_4_0, e_79_0_0, e_80_0_0, e_81_0_0, e_81_5_0, e_83_0_0, e_83_5_0, e_83_27_0, Int.reduceLT, Int.reduceLE, and_self, and_true, true_and, Option.bind_some, Int.add_zero, z_wid, or_true, true_or, z_up_fn, z_up_ni, z_up_eq, z_up_qi, z_rw_fn, z_rw_in, z_rw_out, if_pos, if_neg, ↓reduceIte]
            exact w_ret rfl
          · intro k hk
            simp (disch := omega) only [z_up_fn, z_rw_fn]
          · intro τ hτ
            simp (disch := first | omega | (simp (disch := omega) only [hτ] <;> omega) | fail) only [e_231_0, e_231_7, e_231_37, e_231_18, e_231_29, e_231_44, e_231_115, e_231_99, e_231_152, e_231_160, e_231_168, e_231_179, e_231_233, e_231_242, e_231_197, e_231_253, e_231_265, e_231_271, e_231_118, e_231_141, e_231_171, e_231_182, e_231_280, e_231_288, e_231_132, e_229_0, e_229_42, e_229_73, e_229_25, e_229_113, e_230_0, e_230_43, e_230_57, e_230_26, e_230_84, e_230_75, s_149, s_228, s_168, e_150_0, e_151_0, Int.reduceMul, Int.reduceAdd, Int.zero_add, ite_self, hs, e_229_0, e_229_42, e_229_73, e_229_79, e_229_25, e_229_113, Int.reduceLT, Int.reduceLE, and_self, and_true, true_and, n1, hτ, Option.bind_some, Int.add_zero, z_wid, or_true, true_or, z_up_fn, z_up_ni, z_up_eq, z_up_qi, z_rw_fn, z_rw_in, z_rw_out, if_pos, if_neg, ↓reduceIte]
            exact w_ret rfl
          · skip
            exact w_ref h 0
        · apply zOK_mk2
          · simp (disch := first | omega | (simp (disch := omega) only [z_up_fn, z_up_ni, z_up_eq, z_up_qi, z_rw_fn] <;> omega) | fail) only [ite_self, Int.reduceAdd, e_129_0, e_129_8, e_129_16, e_129_25, e_129_33, e_129_81, e_129_101, e_129_109, e_129_116, e_129_127, e_129_137, e_129_151, e_129_163, e_129_169, e_129_192, e_129_87, e_129_120, e_129_131, e_129_140, e_129_178, e_129_186, e_129_90, e_143_0, e_143_6, e_144_0, e_144_11, e_144_20, e_144_33, e_144_39, e_144_56, e_144_47, e_145_0, e_145_6_0, e_145_6_1, e_145_6_2, e_145_6_3, e_145_12_0, e_145_12_1, e_145_12_2, e_145_12_3, e_145_31_0, e_145_25, e_145_31_1, e_145_31_2, e_145_31_3, e_145_52, e_145_40, e_145_43, e_146_0, e_146_6_0, e_146_6_1, e_146_6_2, e_146_6_3, e_146_12_0, e_146_12_1, e_146_12_2, e_146_12_3, e_146_32_0, e_146_25, e_146_32_1, e_146_32_2, e_146_32_3, e_146_49, e_146_57, e_146_60, e_147_0, e_147_11, e_147_19, e_147_32, e_147_38, e_147_55, e_147_46, s_133, s_234, s_has_8, s_get_8, s_39, e_131_0, e_132_0, w_ix0, w_iy0, hs, e_77_0_0, e_78_0_0, e_78_4_0, e_79_0_0, e_80_0_0, e_81_0_0, e_81_5_0, e_83_0_0, e_83_5_0, e_83_27_0, Int.reduceLT, Int.reduceLE, and_self, and_true, true_and, Option.bind_some, Int.add_zero, z_wid, or_true, true_or, z_up_fn, z_up_ni, z_up_eq, z_up_qi, z_rw_fn, z_rw_in, z_rw_out, if_pos, if_neg, ↓reduceIte]
            exact w_ret rfl
          · intro k hk
            simp (disch := omega) only [z_up_fn, z_rw_fn]
          · intro τ hτ
            simp (disch := first | omega | (simp (disch := omega) only [hτ] <;> omega) | fail) only [e_231_0, e_231_7, e_231_37, e_231_18, e_231_29, e_231_44, e_231_115, e_231_99, e_231_152, e_231_160, e_231_168, e_231_179, e_231_233, e_231_242, e_231_197, e_231_253, e_231_265, e_231_271, e_231_118, e_231_141, e_231_171, e_231_182, e_231_280, e_231_288, e_231_132, e_229_0, e_229_42, e_229_73, e_229_25, e_229_113, e_230_0, e_230_43, e_230_57, e_230_26, e_230_84, e_230_75, s_149, s_228, s_168, e_150_0, e_151_0, Int.reduceMul, Int.reduceAdd, Int.zero_add, ite_self, hs, e_229_0, e_229_42, e_229_73, e_229_79, e_229_25, e_229_113, Int.reduceLT, Int.reduceLE, and_self, and_true, true_and, n1, hτ, Option.bind_some, Int.add_zero, z_wid, or_true, true_or, z_up_fn, z_up_ni, z_up_eq, z_up_qi, z_rw_fn, z_rw_in, z_rw_out, if_pos, if_neg, ↓reduceIte]
            exact w_ret rfl
          · exact w_ref h 12
      · apply zOK_mk2
        · simp (disch := first | omega | (simp (disch := omega) only [z_up_fn, z_up_ni, z_up_eq, z_up_qi, z_rw_fn] <;> omega) | fail) only [ite_self, Int.reduceAdd, e_129_0, e_129_8, e_129_16, e_129_25, e_129_33, e_129_81, e_129_101, e_129_109, e_129_116, e_129_127, e_129_137, e_129_151, e_129_163, e_129_169, e_129_192, e_129_87, e_129_120, e_129_131, e_129_140, e_129_178, e_129_186, e_129_90, e_143_0, e_143_6, e_144_0, e_144_11, e_144_20, e_144_33, e_144_39, e_144_56, e_144_47, e_145_0, e_145_6_0, e_145_6_1, e_145_6_2, e_145_6_3, e_145_12_0, e_145_12_1, e_145_12_2, e_145_12_3, e_145_31_0, e_145_25, e_145_31_1, e_145_31_2, e_145_31_3, e_145_52, e_145_40, e_145_43, e_146_0, e_146_6_0, e_146_6_1, e_146_6_2, e_146_6_3, e_146_12_0, e_146_12_1, e_146_12_2, e_146_12_3, e_146_32_0, e_146_25, e_146_32_1, e_146_32_2, e_146_32_3, e_146_49, e_146_57, e_146_60, e_147_0, e_147_11, e_147_19, e_147_32, e_147_38, e_147_55, e_147_46, s_133, s_234, s_has_8, s_get_8, s_39, e_131_0, e_132_0, w_ix0, w_iy0, hs, e_77_0_0, e_78_0_0, e_78_4_0, e_79_0_0, e_80_0_0, e_81_0_0, e_81_5_0, e_83_0_0, e_83_5_0, e_83_27_0, Int.reduceLT, Int.reduceLE, and_self, and_true, true_and, Option.bind_some, Int.add_zero, z_wid, or_true, true_or, z_up_fn, z_up_ni, z_up_eq, z_up_qi, z_rw_fn, z_rw_in, z_rw_out, if_pos, if_neg, ↓reduceIte]
          exact w_ret rfl
        · intro k hk
          simp (disch := omega) only [z_up_fn, z_rw_fn]
        · intro τ hτ
          simp (disch := first | omega | (simp (disch := omega) only [hτ] <;> omega) | fail) only [e_231_0, e_231_7, e_231_37, e_231_18, e_231_29, e_231_44, e_231_115, e_231_99, e_231_152, e_231_160, e_231_168, e_231_179, e_231_233, e_231_242, e_231_197, e_231_253, e_231_265, e_231_271, e_231_118, e_231_141, e_231_171, e_231_182, e_231_280, e_231_288, e_231_132, e_229_0, e_229_42, e_229_73, e_229_25, e_229_113, e_230_0, e_230_43, e_230_57, e_230_26, e_230_84, e_230_75, s_149, s_228, s_168, e_150_0, e_151_0, Int.reduceMul, Int.reduceAdd, Int.zero_add, ite_self, hs, e_229_0, e_229_42, e_229_73, e_229_79, e_229_25, e_229_113, Int.reduceLT, Int.reduceLE, and_self, and_true, true_and, n1, hτ, Option.bind_some, Int.add_zero, z_wid, or_true, true_or, z_up_fn, z_up_ni, z_up_eq, z_up_qi, z_rw_fn, z_rw_in, z_rw_out, if_pos, if_neg, ↓reduceIte]
          exact w_ret rfl
        · exact w_ref h 11
    · apply zOK_mk2
      · simp (disch := first | omega | (simp (disch := omega) only [z_up_fn, z_up_ni, z_up_eq, z_up_qi, z_rw_fn] <;> omega) | fail) only [ite_self, Int.reduceAdd, e_129_0, e_129_8, e_129_16, e_129_25, e_129_33, e_129_81, e_129_101, e_129_109, e_129_116, e_129_127, e_129_137, e_129_151, e_129_163, e_129_169, e_129_192, e_129_87, e_129_120, e_129_131, e_129_140, e_129_178, e_129_186, e_129_90, e_143_0, e_143_6, e_144_0, e_144_11, e_144_20, e_144_33, e_144_39, e_144_56, e_144_47, e_145_0, e_145_6_0, e_145_6_1, e_145_6_2, e_145_6_3, e_145_12_0, e_145_12_1, e_145_12_2, e_145_12_3, e_145_31_0, e_145_25, e_145_31_1, e_145_31_2, e_145_31_3, e_145_52, e_145_40, e_145_43, e_146_0, e_146_6_0, e_146_6_1, e_146_6_2, e_146_6_3, e_146_12_0, e_146_12_1, e_146_12_2, e_146_12_3, e_146_32_0, e_146_25, e_146_32_1, e_146_32_2, e_146_32_3, e_146_49, e_146_57, e_146_60, e_147_0, e_147_11, e_147_19, e_147_32, e_147_38, e_147_55, e_147_46, s_133, s_234, s_has_8, s_get_8, s_39, e_131_0, e_132_0, w_ix0, w_iy0, hs, e_77_0_0, e_78_0_0, e_78_4_0, e_79_0_0, e_80_0_0, e_81_0_0, e_81_5_0, e_83_0_0, e_83_5_0, e_83_27_0, Int.reduceLT, Int.reduceLE, and_self, and_true, true_and, Option.bind_some, Int.add_zero, z_wid, or_true, true_or, z_up_fn, z_up_ni, z_up_eq, z_up_qi, z_rw_fn, z_rw_in, z_rw_out, if_pos, if_neg, ↓reduceIte]
        exact w_ret rfl
      · intro k hk
        simp (disch := omega) only [z_up_fn, z_rw_fn]
      · intro τ hτ
        simp (disch := first | omega | (simp (disch := omega) only [hτ] <;> omega) | fail) only [e_231_0, e_231_7, e_231_37, e_231_18, e_231_29, e_231_44, e_231_115, e_231_99, e_231_152, e_231_160, e_231_168, e_231_179, e_231_233, e_231_242, e_231_197, e_231_253, e_231_265, e_231_271, e_231_118, e_231_141, e_231_171, e_231_182, e_231_280, e_231_288, e_231_132, e_229_0, e_229_42, e_229_73, e_229_25, e_229_113, e_230_0, e_230_43, e_230_57, e_230_26, e_230_84, e_230_75, s_149, s_228, s_168, e_150_0, e_151_0, Int.reduceMul, Int.reduceAdd, Int.zero_add, ite_self, hs, e_229_0, e_229_42, e_229_73, e_229_79, e_229_25, e_229_113, Int.reduceLT, Int.reduceLE, and_self, and_true, true_and, n1, hτ, Option.bind_some, Int.add_zero, z_wid, or_true, true_or, z_up_fn, z_up_ni, z_up_eq, z_up_qi, z_rw_fn, z_rw_in, z_rw_out, if_pos, if_neg, ↓reduceIte]
        exact w_ret rfl
      · exact w_ref h 10
  · apply zOK_mk2
    · simp (disch := first | omega | (simp (disch := omega) only [z_up_fn, z_up_ni, z_up_eq, z_up_qi, z_rw_fn] <;> omega) | fail) only [ite_self, Int.reduceAdd, e_129_0, e_129_8, e_129_16, e_129_25, e_129_33, e_129_81, e_129_101, e_129_109, e_129_116, e_129_127, e_129_137, e_129_151, e_129_163, e_129_169, e_129_192, e_129_87, e_129_120, e_129_131, e_129_140, e_129_178, e_129_186, e_129_90, e_143_0, e_143_6, e_144_0, e_144_11, e_144_20, e_144_33, e_144_39, e_144_56, e_144_47, e_145_0, e_145_6_0, e_145_6_1, e_145_6_2, e_145_6_3, e_145_12_0, e_145_12_1, e_145_12_2, e_145_12_3, e_145_31_0, e_145_25, e_145_31_1, e_145_31_2, e_145_31_3, e_145_52, e_145_40, e_145_43, e_146_0, e_146_6_0, e_146_6_1, e_146_6_2, e_146_6_3, e_146_12_0, e_146_12_1, e_146_12_2, e_146_12_3, e_146_32_0, e_146_25, e_146_32_1, e_146_32_2, e_146_32_3, e_146_49, e_146_57, e_146_60, e_147_0, e_147_11, e_147_19, e_147_32, e_147_38, e_147_55, e_147_46, s_133, s_234, s_has_8, s_get_8, s_39, e_131_0, e_132_0, w_ix0, w_iy0, hs, e_77_0_0, e_78_0_0, e_78_4_0, e_79_0_0, e_80_0_0, e_81_0_0, e_81_5_0, e_83_0_0, e_83_5_0, e_83_27_0, Int.reduceLT, Int.reduceLE, and_self, and_true, true_and, Option.bind_some, Int.add_zero, z_wid, or_true, true_or, z_up_fn, z_up_ni, z_up_eq, z_up_qi, z_rw_fn, z_rw_in, z_rw_out, if_pos, if_neg, ↓reduceIte]
      exact w_ret rfl
    · intro k hk
      simp (disch := omega) only [z_up_fn, z_rw_fn]
    · intro τ hτ
      simp (disch := first | omega | (simp (disch := omega) only [hτ] <;> omega) | fail) only [e_231_0, e_231_7, e_231_37, e_231_18, e_231_29, e_231_44, e_231_115, e_231_99, e_231_152, e_231_160, e_231_168, e_231_179, e_231_233, e_231_242, e_231_197, e_231_253, e_231_265, e_231_271, e_231_118, e_231_141, e_231_171, e_231_182, e_231_280, e_231_288, e_231_132, e_229_0, e_229_42, e_229_73, e_229_25, e_229_113, e_230_0, e_230_43, e_230_57, e_230_26, e_230_84, e_230_75, s_149, s_228, s_168, e_150_0, e_151_0, Int.reduceMul, Int.reduceAdd, Int.zero_add, ite_self, hs, e_229_0, e_229_42, e_229_73, e_229_79, e_229_25, e_229_113, Int.reduceLT, Int.reduceLE, and_self, and_true, true_and, n1, hτ, Option.bind_some, Int.add_zero, z_wid, or_true, true_or, z_up_fn, z_up_ni, z_up_eq, z_up_qi, z_rw_fn, z_rw_in, z_rw_out, if_pos, if_neg, ↓reduceIte]
      exact w_ret rfl
    · exact w_ref h 1
theorem o_forge3s0n2 (d : Nat) (s : Int → Int) (L : Int) (σ : Nat → Int → Int) (h : zV s L σ) (x3 : Int) (hs : x3 % 4 = 0) : zOK s L (d + 9) 129 231 [some (.inl 3), some (.inl 2), some (.inl x3)] [some (.inl 3), some (.inl 2), some (.inl x3), none] σ := by
  have hX := zV_X0 h
  have hX1 := hX.1
  have hX2 := hX.2.1
  have hX3 := hX.2.2.1
  have hX4 := hX.2.2.2.1
  have hX5 := hX.2.2.2.2.1
  have hX6 := hX.2.2.2.2.2.1
  have n1 : σ 122 1 = σ 64 1 := (hX.2.2.2.2.2.2 1 (by omega) (by omega)).1.symm
  have n2 : σ 122 2 = σ 64 2 := (hX.2.2.2.2.2.2 2 (by omega) (by omega)).1.symm
  by_cases c1 : -100 ≤ x3 ∧ x3 ≤ 100
  · by_cases c2 : ¬ σ 63 1 = -1
    · by_cases c3 : σ 63 1 = 0
      · by_cases c4 : 3 ≤ σ 63 2
        · apply zOK_mk2
          · simp (disch := first | omega | (simp (disch := omega) only [z_up_fn, z_up_ni, z_up_eq, z_up_qi, z_rw_fn] <;> omega) | fail) only [ite_self, Int.reduceAdd, e_129_0, e_129_8, e_129_16, e_129_25, e_129_33, e_129_81, e_129_101, e_129_109, e_129_116, e_129_127, e_129_137, e_129_151, e_129_163, e_129_169, e_129_192, e_129_87, e_129_120, e_129_131, e_129_140, e_129_178, e_129_186, e_129_90, e_143_0, e_143_6, e_144_0, e_144_11, e_144_20, e_144_33, e_144_39, e_144_56, e_144_47, e_145_0, e_145_6_0, e_145_6_1, e_145_6_2, e_145_6_3, e_145_12_0, e_145_12_1, e_145_12_2, e_145_12_3, e_145_31_0, e_145_25, e_145_31_1, e_145_31_2, e_145_31_3, e_145_52, e_145_40, e_145_43, e_146_0, e_146_6_0, e_146_6_1, e_146_6_2, e_146_6_3, e_146_12_0, e_146_12_1, e_146_12_2, e_146_12_3, e_146_32_0, e_146_25, e_146_32_1, e_146_32_2, e_146_32_3, e_146_49, e_146_57, e_146_60, e_147_0, e_147_11, e_147_19, e_147_32, e_147_38, e_147_55, e_147_46, s_133, s_234, s_has_8, s_get_8, s_39, e_131_0, e_132_0, w_ix0, w_iy0, hs, e_77_0_0, e_78_0_0, e_78_4_0, e_79_0_0, e_80_0_0, e_81_0_0, e_81_5_0, e_83_0_0, e_83_5_0, e_83_27_0, Int.reduceLT, Int.reduceLE, and_self, and_true, true_and, Option.bind_some, Int.add_zero, z_wid, or_true, true_or, z_up_fn, z_up_ni, z_up_eq, z_up_qi, z_rw_fn, z_rw_in, z_rw_out, if_pos, if_neg, ↓reduceIte]
            exact w_ret rfl
          · intro k hk
            simp (disch := omega) only [z_up_fn, z_rw_fn]
          · intro τ hτ
            simp (disch := first | omega | (simp (disch := omega) only [hτ] <;> omega) | fail) only [e_231_0, e_231_7, e_231_37, e_231_18, e_231_29, e_231_44, e_231_115, e_231_99, e_231_152, e_231_160, e_231_168, e_231_179, e_231_233, e_231_242, e_231_197, e_231_253, e_231_265, e_231_271, e_231_118, e_231_141, e_231_171, e_231_182, e_231_280, e_231_288, e_231_132, e_229_0, e_229_42, e_229_73, e_229_25, e_229_113, e_230_0, e_230_43, e_230_57, e_230_26, e_230_84, e_230_75, s_149, s_228, s_168, e_150_0, e_151_0, Int.reduceMul, Int.reduceAdd, Int.zero_add, ite_self, hs, e_229_0, e_229_42, e_229_73, e_229_79, e_229_25, e_229_113, Int.reduceLT, Int.reduceLE, and_self, and_true, true_and, n1, n2, hτ, Option.bind_some, Int.add_zero, z_wid, or_true, true_or, z_up_fn, z_up_ni, z_up_eq, z_up_qi, z_rw_fn, z_rw_in, z_rw_out, if_pos, if_neg, ↓reduceIte]
            exact w_ret rfl
          · skip
            exact w_ref h 0
        · apply zOK_mk2
          · simp (disch := first | omega | (simp (disch := omega) only [z_up_fn, z_up_ni, z_up_eq, z_up_qi, z_rw_fn] <;> omega) | fail) only [ite_self, Int.reduceAdd, e_129_0, e_129_8, e_129_16, e_129_25, e_129_33, e_129_81, e_129_101, e_129_109, e_129_116, e_129_127, e_129_137, e_129_151, e_129_163, e_129_169, e_129_192, e_129_87, e_129_120, e_129_131, e_129_140, e_129_178, e_129_186, e_129_90, e_143_0, e_143_6, e_144_0, e_144_11, e_144_20, e_144_33, e_144_39, e_144_56, e_144_47, e_145_0, e_145_6_0, e_145_6_1, e_145_6_2, e_145_6_3, e_145_12_0, e_145_12_1, e_145_12_2, e_145_12_3, e_145_31_0, e_145_25, e_145_31_1, e_145_31_2, e_145_31_3, e_145_52, e_145_40, e_145_43, e_146_0, e_146_6_0, e_146_6_1, e_146_6_2, e_146_6_3, e_146_12_0, e_146_12_1, e_146_12_2, e_146_12_3, e_146_32_0, e_146_25, e_146_32_1, e_146_32_2, e_146_32_3, e_146_49, e_146_57, e_146_60, e_147_0, e_147_11, e_147_19, e_147_32, e_147_38, e_147_55, e_147_46, s_133, s_234, s_has_8, s_get_8, s_39, e_131_0, e_132_0, w_ix0, w_iy0, hs, e_77_0_0, e_78_0_0, e_78_4_0, e_79_0_0, e_80_0_0, e_81_0_0, e_81_5_0, e_83_0_0, e_83_5_0, e_83_27_0, Int.reduceLT, Int.reduceLE, and_self, and_true, true_and, Option.bind_some, Int.add_zero, z_wid, or_true, true_or, z_up_fn, z_up_ni, z_up_eq, z_up_qi, z_rw_fn, z_rw_in, z_rw_out, if_pos, if_neg, ↓reduceIte]
            exact w_ret rfl
          · intro k hk
            simp (disch := omega) only [z_up_fn, z_rw_fn]
          · intro τ hτ
            simp (disch := first | omega | (simp (disch := omega) only [hτ] <;> omega) | fail) only [e_231_0, e_231_7, e_231_37, e_231_18, e_231_29, e_231_44, e_231_115, e_231_99, e_231_152, e_231_160, e_231_168, e_231_179, e_231_233, e_231_242, e_231_197, e_231_253, e_231_265, e_231_271, e_231_118, e_231_141, e_231_171, e_231_182, e_231_280, e_231_288, e_231_132, e_229_0, e_229_42, e_229_73, e_229_25, e_229_113, e_230_0, e_230_43, e_230_57, e_230_26, e_230_84, e_230_75, s_149, s_228, s_168, e_150_0, e_151_0, Int.reduceMul, Int.reduceAdd, Int.zero_add, ite_self, hs, e_229_0, e_229_42, e_229_73, e_229_79, e_229_25, e_229_113, Int.reduceLT, Int.reduceLE, and_self, and_true, true_and, n1, n2, hτ, Option.bind_some, Int.add_zero, z_wid, or_true, true_or, z_up_fn, z_up_ni, z_up_eq, z_up_qi, z_rw_fn, z_rw_in, z_rw_out, if_pos, if_neg, ↓reduceIte]
            exact w_ret rfl
          · exact w_ref h 12
      · apply zOK_mk2
        · simp (disch := first | omega | (simp (disch := omega) only [z_up_fn, z_up_ni, z_up_eq, z_up_qi, z_rw_fn] <;> omega) | fail) only [ite_self, Int.reduceAdd, e_129_0, e_129_8, e_129_16, e_129_25, e_129_33, e_129_81, e_129_101, e_129_109, e_129_116, e_129_127, e_129_137, e_129_151, e_129_163, e_129_169, e_129_192, e_129_87, e_129_120, e_129_131, e_129_140, e_129_178, e_129_186, e_129_90, e_143_0, e_143_6, e_144_0, e_144_11, e_144_20, e_144_33, e_144_39, e_144_56, e_144_47, e_145_0, e_145_6_0, e_145_6_1, e_145_6_2, e_145_6_3, e_145_12_0, e_145_12_1, e_145_12_2, e_145_12_3, e_145_31_0, e_145_25, e_145_31_1, e_145_31_2, e_145_31_3, e_145_52, e_145_40, e_145_43, e_146_0, e_146_6_0, e_146_6_1, e_146_6_2, e_146_6_3, e_146_12_0, e_146_12_1, e_146_12_2, e_146_12_3, e_146_32_0, e_146_25, e_146_32_1, e_146_32_2, e_146_32_3, e_146_49, e_146_57, e_146_60, e_147_0, e_147_11, e_147_19, e_147_32, e_147_38, e_147_55, e_147_46, s_133, s_234, s_has_8, s_get_8, s_39, e_131_0, e_132_0, w_ix0, w_iy0, hs, e_77_0_0, e_78_0_0, e_78_4_0, e_79_0_0, e_80_0_0, e_81_0_0, e_81_5_0, e_83_0_0, e_83_5_0, e_83_27_0, Int.reduceLT, Int.reduceLE, and_self, and_true, true_and, Option.bind_some, Int.add_zero, z_wid, or_true, true_or, z_up_fn, z_up_ni, z_up_eq, z_up_qi, z_rw_fn, z_rw_in, z_rw_out, if_pos, if_neg, ↓reduceIte]
          exact w_ret rfl
        · intro k hk
          simp (disch := omega) only [z_up_fn, z_rw_fn]
        · intro τ hτ
          simp (disch := first | omega | (simp (disch := omega) only [hτ] <;> omega) | fail) only [e_231_0, e_231_7, e_231_37, e_231_18, e_231_29, e_231_44, e_231_115, e_231_99, e_231_152, e_231_160, e_231_168, e_231_179, e_231_233, e_231_242, e_231_197, e_231_253, e_231_265, e_231_271, e_231_118, e_231_141, e_231_171, e_231_182, e_231_280, e_231_288, e_231_132, e_229_0, e_229_42, e_229_73, e_229_25, e_229_113, e_230_0, e_230_43, e_230_57, e_230_26, e_230_84, e_230_75, s_149, s_228, s_168, e_150_0, e_151_0, Int.reduceMul, Int.reduceAdd, Int.zero_add, ite_self, hs, e_229_0, e_229_42, e_229_73, e_229_79, e_229_25, e_229_113, Int.reduceLT, Int.reduceLE, and_self, and_true, true_and, n1, n2, hτ, Option.bind_some, Int.add_zero, z_wid, or_true, true_or, z_up_fn, z_up_ni, z_up_eq, z_up_qi, z_rw_fn, z_rw_in, z_rw_out, if_pos, if_neg, ↓reduceIte]
          exact w_ret rfl
        · exact w_ref h 11
    · apply zOK_mk2
      · simp (disch := first | omega | (simp (disch := omega) only [z_up_fn, z_up_ni, z_up_eq, z_up_qi, z_rw_fn] <;> omega) | fail) only [ite_self, Int.reduceAdd, e_129_0, e_129_8, e_129_16, e_129_25, e_129_33, e_129_81, e_129_101, e_129_109, e_129_116, e_129_127, e_129_137, e_129_151, e_129_163, e_129_169, e_129_192, e_129_87, e_129_120, e_129_131, e_129_140, e_129_178, e_129_186, e_129_90, e_143_0, e_143_6, e_144_0, e_144_11, e_144_20, e_144_33, e_144_39, e_144_56, e_144_47, e_145_0, e_145_6_0, e_145_6_1, e_145_6_2, e_145_6_3, e_145_12_0, e_145_12_1, e_145_12_2, e_145_12_3, e_145_31_0, e_145_25, e_145_31_1, e_145_31_2, e_145_31_3, e_145_52, e_145_40, e_145_43, e_146_0, e_146_6_0, e_146_6_1, e_146_6_2, e_146_6_3, e_146_12_0, e_146_12_1, e_146_12_2, e_146_12_3, e_146_32_0, e_146_25, e_146_32_1, e_146_32_2, e_146_32_3, e_146_49, e_146_57, e_146_60, e_147_0, e_147_11, e_147_19, e_147_32, e_147_38, e_147_55, e_147_46, s_133, s_234, s_has_8, s_get_8, s_39, e_131_0, e_132_0, w_ix0, w_iy0, hs, e_77_0_0, e_78_0_0, e_78_4_0, e_79_0_0, e_80_0_0, e_81_0_0, e_81_5_0, e_83_0_0, e_83_5_0, e_83_27_0, Int.reduceLT, Int.reduceLE, and_self, and_true, true_and, Option.bind_some, Int.add_zero, z_wid, or_true, true_or, z_up_fn, z_up_ni, z_up_eq, z_up_qi, z_rw_fn, z_rw_in, z_rw_out, if_pos, if_neg, ↓reduceIte]
        exact w_ret rfl
      · intro k hk
        simp (disch := omega) only [z_up_fn, z_rw_fn]
      · intro τ hτ
        simp (disch := first | omega | (simp (disch := omega) only [hτ] <;> omega) | fail) only [e_231_0, e_231_7, e_231_37, e_231_18, e_231_29, e_231_44, e_231_115, e_231_99, e_231_152, e_231_160, e_231_168, e_231_179, e_231_233, e_231_242, e_231_197, e_231_253, e_231_265, e_231_271, e_231_118, e_231_141, e_231_171, e_231_182, e_231_280, e_231_288, e_231_132, e_229_0, e_229_42, e_229_73, e_229_25, e_229_113, e_230_0, e_230_43, e_230_57, e_230_26, e_230_84, e_230_75, s_149, s_228, s_168, e_150_0, e_151_0, Int.reduceMul, Int.reduceAdd, Int.zero_add, ite_self, hs, e_229_0, e_229_42, e_229_73, e_229_79, e_229_25, e_229_113, Int.reduceLT, Int.reduceLE, and_self, and_true, true_and, n1, n2, hτ, Option.bind_some, Int.add_zero, z_wid, or_true, true_or, z_up_fn, z_up_ni, z_up_eq, z_up_qi, z_rw_fn, z_rw_in, z_rw_out, if_pos, if_neg, ↓reduceIte]
        exact w_ret rfl
      · exact w_ref h 10
  · apply zOK_mk2
    · simp (disch := first | omega | (simp (disch := omega) only [z_up_fn, z_up_ni, z_up_eq, z_up_qi, z_rw_fn] <;> omega) | fail) only [ite_self, Int.reduceAdd, e_129_0, e_129_8, e_129_16, e_129_25, e_129_33, e_129_81, e_129_101, e_129_109, e_129_116, e_129_127, e_129_137, e_129_151, e_129_163, e_129_169, e_129_192, e_129_87, e_129_120, e_129_131, e_129_140, e_129_178, e_129_186, e_129_90, e_143_0, e_143_6, e_144_0, e_144_11, e_144_20, e_144_33, e_144_39, e_144_56, e_144_47, e_145_0, e_145_6_0, e_145_6_1, e_145_6_2, e_145_6_3, e_145_12_0, e_145_12_1, e_145_12_2, e_145_12_3, e_145_31_0, e_145_25, e_145_31_1, e_145_31_2, e_145_31_3, e_145_52, e_145_40, e_145_43, e_146_0, e_146_6_0, e_146_6_1, e_146_6_2, e_146_6_3, e_146_12_0, e_146_12_1, e_146_12_2, e_146_12_3, e_146_32_0, e_146_25, e_146_32_1, e_146_32_2, e_146_32_3, e_146_49, e_146_57, e_146_60, e_147_0, e_147_11, e_147_19, e_147_32, e_147_38, e_147_55, e_147_46, s_133, s_234, s_has_8, s_get_8, s_39, e_131_0, e_132_0, w_ix0, w_iy0, hs, e_77_0_0, e_78_0_0, e_78_4_0, e_79_0_0, e_80_0_0, e_81_0_0, e_81_5_0, e_83_0_0, e_83_5_0, e_83_27_0, Int.reduceLT, Int.reduceLE, and_self, and_true, true_and, Option.bind_some, Int.add_zero, z_wid, or_true, true_or, z_up_fn, z_up_ni, z_up_eq, z_up_qi, z_rw_fn, z_rw_in, z_rw_out, if_pos, if_neg, ↓reduceIte]
      exact w_ret rfl
    · intro k hk
      simp (disch := omega) only [z_up_fn, z_rw_fn]
    · intro τ hτ
      simp (disch := first | omega | (simp (disch := omega) only [hτ] <;> omega) | fail) only [e_231_0, e_231_7, e_231_37, e_231_18, e_231_29, e_231_44, e_231_115, e_231_99, e_231_152, e_231_160, e_231_168, e_231_179, e_231_233, e_231_242, e_231_197, e_231_253, e_231_265, e_231_271, e_231_118, e_231_141, e_231_171, e_231_182, e_231_280, e_231_288, e_231_132, e_229_0, e_229_42, e_229_73, e_229_25, e_229_113, e_230_0, e_230_43, e_230_57, e_230_26, e_230_84, e_230_75, s_149, s_228, s_168, e_150_0, e_151_0, Int.reduceMul, Int.reduceAdd, Int.zero_add, ite_self, hs, e_229_0, e_229_42, e_229_73, e_229_79, e_229_25, e_229_113, Int.reduceLT, Int.reduceLE, and_self, and_true, true_and, n1, n2, hτ, Option.bind_some, Int.add_zero, z_wid, or_true, true_or, z_up_fn, z_up_ni, z_up_eq, z_up_qi, z_rw_fn, z_rw_in, z_rw_out, if_pos, if_neg, ↓reduceIte]
      exact w_ret rfl
    · exact w_ref h 1
theorem o_forge3s0n3 (d : Nat) (s : Int → Int) (L : Int) (σ : Nat → Int → Int) (h : zV s L σ) (x3 : Int) (hs : x3 % 4 = 0) : zOK s L (d + 9) 129 231 [some (.inl 3), some (.inl 3), some (.inl x3)] [some (.inl 3), some (.inl 3), some (.inl x3), none] σ := by
  have hX := zV_X0 h
  have hX1 := hX.1
  have hX2 := hX.2.1
  have hX3 := hX.2.2.1
  have hX4 := hX.2.2.2.1
  have hX5 := hX.2.2.2.2.1
  have hX6 := hX.2.2.2.2.2.1
  have n1 : σ 122 1 = σ 64 1 := (hX.2.2.2.2.2.2 1 (by omega) (by omega)).1.symm
  have n2 : σ 122 2 = σ 64 2 := (hX.2.2.2.2.2.2 2 (by omega) (by omega)).1.symm
  have n3 : σ 122 3 = σ 64 3 := (hX.2.2.2.2.2.2 3 (by omega) (by omega)).1.symm
  by_cases c1 : -100 ≤ x3 ∧ x3 ≤ 100
  · by_cases c2 : ¬ σ 63 1 = -1
    · by_cases c3 : σ 63 1 = 0
      · by_cases c4 : 4 ≤ σ 63 2
        · apply zOK_mk2
          · simp (disch := first | omega | (simp (disch := omega) only [z_up_fn, z_up_ni, z_up_eq, z_up_qi, z_rw_fn] <;> omega) | fail) only [ite_self, Int.reduceAdd, e_129_0, e_129_8, e_129_16, e_129_25, e_129_33, e_129_81, e_129_101, e_129_109, e_129_116, e_129_127, e_129_137, e_129_151, e_129_163, e_129_169, e_129_192, e_129_87, e_129_120, e_129_131, e_129_140, e_129_178, e_129_186, e_129_90, e_143_0, e_143_6, e_144_0, e_144_11, e_144_20, e_144_33, e_144_39, e_144_56, e_144_47, e_145_0, e_145_6_0, e_145_6_1, e_145_6_2, e_145_6_3, e_145_12_0, e_145_12_1, e_145_12_2, e_145_12_3, e_145_31_0, e_145_25, e_145_31_1, e_145_31_2, e_145_31_3, e_145_52, e_145_40, e_145_43, e_146_0, e_146_6_0, e_146_6_1, e_146_6_2, e_146_6_3, e_146_12_0, e_146_12_1, e_146_12_2, e_146_12_3, e_146_32_0, e_146_25, e_146_32_1, e_146_32_2, e_146_32_3, e_146_49, e_146_57, e_146_60, e_147_0, e_147_11, e_147_19, e_147_32, e_147_38, e_147_55, e_147_46, s_133, s_234, s_has_8, s_get_8, s_39, e_131_0, e_132_0, w_ix0, w_iy0, hs, e_77_0_0, e_78_0_0, e_78_4_0, e_79_0_0, e_80_0_0, e_81_0_0, e_81_5_0, e_83_0_0, e_83_5_0, e_83_27_0, Int.reduceLT, Int.reduceLE, and_self, and_true, true_and, Option.bind_some, Int.add_zero, z_wid, or_true, true_or, z_up_fn, z_up_ni, z_up_eq, z_up_qi, z_rw_fn, z_rw_in, z_rw_out, if_pos, if_neg, ↓reduceIte]
            exact w_ret rfl
          · intro k hk
            simp (disch := omega) only [z_up_fn, z_rw_fn]
          · intro τ hτ
            simp (disch := first | omega | (simp (disch := omega) only [hτ] <;> omega) | fail) only [e_231_0, e_231_7, e_231_37, e_231_18, e_231_29, e_231_44, e_231_115, e_231_99, e_231_152, e_231_160, e_231_168, e_231_179, e_231_233, e_231_242, e_231_197, e_231_253, e_231_265, e_231_271, e_231_118, e_231_141, e_231_171, e_231_182, e_231_280, e_231_288, e_231_132, e_229_0, e_229_42, e_229_73, e_229_25, e_229_113, e_230_0, e_230_43, e_230_57, e_230_26, e_230_84, e_230_75, s_149, s_228, s_168, e_150_0, e_151_0, Int.reduceMul, Int.reduceAdd, Int.zero_add, ite_self, hs, e_229_0, e_229_42, e_229_73, e_229_79, e_229_25, e_229_113, Int.reduceLT, Int.reduceLE, and_self, and_true, true_and, n1, n2, n3, hτ, Option.bind_some, Int.add_zero, z_wid, or_true, true_or, z_up_fn, z_up_ni, z_up_eq, z_up_qi, z_rw_fn, z_rw_in, z_rw_out, if_pos, if_neg, ↓reduceIte]
            exact w_ret rfl
          · skip
            exact w_ref h 0
        · apply zOK_mk2
          · simp (disch := first | omega | (simp (disch := omega) only [z_up_fn, z_up_ni, z_up_eq, z_up_qi, z_rw_fn] <;> omega) | fail) only [ite_self, Int.reduceAdd, e_129_0, e_129_8, e_129_16, e_129_25, e_129_33, e_129_81, e_129_101, e_129_109, e_129_116, e_129_127, e_129_137, e_129_151, e_129_163, e_129_169, e_129_192, e_129_87, e_129_120, e_129_131, e_129_140, e_129_178, e_129_186, e_129_90, e_143_0, e_143_6, e_144_0, e_144_11, e_144_20, e_144_33, e_144_39, e_144_56, e_144_47, e_145_0, e_145_6_0, e_145_6_1, e_145_6_2, e_145_6_3, e_145_12_0, e_145_12_1, e_145_12_2, e_145_12_3, e_145_31_0, e_145_25, e_145_31_1, e_145_31_2, e_145_31_3, e_145_52, e_145_40, e_145_43, e_146_0, e_146_6_0, e_146_6_1, e_146_6_2, e_146_6_3, e_146_12_0, e_146_12_1, e_146_12_2, e_146_12_3, e_146_32_0, e_146_25, e_146_32_1, e_146_32_2, e_146_32_3, e_146_49, e_146_57, e_146_60, e_147_0, e_147_11, e_147_19, e_147_32, e_147_38, e_147_55, e_147_46, s_133, s_234, s_has_8, s_get_8, s_39, e_131_0, e_132_0, w_ix0, w_iy0, hs, e_77_0_0, e_78_0_0, e_78_4_0, e_79_0_0, e_80_0_0, e_81_0_0, e_81_5_0, e_83_0_0, e_83_5_0, e_83_27_0, Int.reduceLT, Int.reduceLE, and_self, and_true, true_and, Option.bind_some, Int.add_zero, z_wid, or_true, true_or, z_up_fn, z_up_ni, z_up_eq, z_up_qi, z_rw_fn, z_rw_in, z_rw_out, if_pos, if_neg, ↓reduceIte]
            exact w_ret rfl
          · intro k hk
            simp (disch := omega) only [z_up_fn, z_rw_fn]
          · intro τ hτ
            simp (disch := first | omega | (simp (disch := omega) only [hτ] <;> omega) | fail) only [e_231_0, e_231_7, e_231_37, e_231_18, e_231_29, e_231_44, e_231_115, e_231_99, e_231_152, e_231_160, e_231_168, e_231_179, e_231_233, e_231_242, e_231_197, e_231_253, e_231_265, e_231_271, e_231_118, e_231_141, e_231_171, e_231_182, e_231_280, e_231_288, e_231_132, e_229_0, e_229_42, e_229_73, e_229_25, e_229_113, e_230_0, e_230_43, e_230_57, e_230_26, e_230_84, e_230_75, s_149, s_228, s_168, e_150_0, e_151_0, Int.reduceMul, Int.reduceAdd, Int.zero_add, ite_self, hs, e_229_0, e_229_42, e_229_73, e_229_79, e_229_25, e_229_113, Int.reduceLT, Int.reduceLE, and_self, and_true, true_and, n1, n2, n3, hτ, Option.bind_some, Int.add_zero, z_wid, or_true, true_or, z_up_fn, z_up_ni, z_up_eq, z_up_qi, z_rw_fn, z_rw_in, z_rw_out, if_pos, if_neg, ↓reduceIte]
            exact w_ret rfl
          · exact w_ref h 12
      · apply zOK_mk2
        · simp (disch := first | omega | (simp (disch := omega) only [z_up_fn, z_up_ni, z_up_eq, z_up_qi, z_rw_fn] <;> omega) | fail) only [ite_self, Int.reduceAdd, e_129_0, e_129_8, e_129_16, e_129_25, e_129_33, e_129_81, e_129_101, e_129_109, e_129_116, e_129_127, e_129_137, e_129_151, e_129_163, e_129_169, e_129_192, e_129_87, e_129_120, e_129_131, e_129_140, e_129_178, e_129_186, e_129_90, e_143_0, e_143_6, e_144_0, e_144_11, e_144_20, e_144_33, e_144_39, e_144_56, e_144_47, e_145_0, e_145_6_0, e_145_6_1, e_145_6_2, e_145_6_3, e_145_12_0, e_145_12_1, e_145_12_2, e_145_12_3, e_145_31_0, e_145_25, e_145_31_1, e_145_31_2, e_145_31_3, e_145_52, e_145_40, e_145_43, e_146_0, e_146_6_0, e_146_6_1, e_146_6_2, e_146_6_3, e_146_12_0, e_146_12_1, e_146_12_2, e_146_12_3, e_146_32_0, e_146_25, e_146_32_1, e_146_32_2, e_146_32_3, e_146_49, e_146_57, e_146_60, e_147_0, e_147_11, e_147_19, e_147_32, e_147_38, e_147_55, e_147_46, s_133, s_234, s_has_8, s_get_8, s_39, e_131_0, e_132_0, w_ix0, w_iy0, hs, e_77_0_0, e_78_0_0, e_78_4_0, e_79_0_0, e_80_0_0, e_81_0_0, e_81_5_0, e_83_0_0, e_83_5_0, e_83_27_0, Int.reduceLT, Int.reduceLE, and_self, and_true, true_and, Option.bind_some, Int.add_zero, z_wid, or_true, true_or, z_up_fn, z_up_ni, z_up_eq, z_up_qi, z_rw_fn, z_rw_in, z_rw_out, if_pos, if_neg, ↓reduceIte]
          exact w_ret rfl
        · intro k hk
          simp (disch := omega) only [z_up_fn, z_rw_fn]
        · intro τ hτ
          simp (disch := first | omega | (simp (disch := omega) only [hτ] <;> omega) | fail) only [e_231_0, e_231_7, e_231_37, e_231_18, e_231_29, e_231_44, e_231_115, e_231_99, e_231_152, e_231_160, e_231_168, e_231_179, e_231_233, e_231_242, e_231_197, e_231_253, e_231_265, e_231_271, e_231_118, e_231_141, e_231_171, e_231_182, e_231_280, e_231_288, e_231_132, e_229_0, e_229_42, e_229_73, e_229_25, e_229_113, e_230_0, e_230_43, e_230_57, e_230_26, e_230_84, e_230_75, s_149, s_228, s_168, e_150_0, e_151_0, Int.reduceMul, Int.reduceAdd, Int.zero_add, ite_self, hs, e_229_0, e_229_42, e_229_73, e_229_79, e_229_25, e_229_113, Int.reduceLT, Int.reduceLE, and_self, and_true, true_and, n1, n2, n3, hτ, Option.bind_some, Int.add_zero, z_wid, or_true, true_or, z_up_fn, z_up_ni, z_up_eq, z_up_qi, z_rw_fn, z_rw_in, z_rw_out, if_pos, if_neg, ↓reduceIte]
          exact w_ret rfl
        · exact w_ref h 11
    · apply zOK_mk2
      · simp (disch := first | omega | (simp (disch := omega) only [z_up_fn, z_up_ni, z_up_eq, z_up_qi, z_rw_fn] <;> omega) | fail) only [ite_self, Int.reduceAdd, e_129_0, e_129_8, e_129_16, e_129_25, e_129_33, e_129_81, e_129_101, e_129_109, e_129_116, e_129_127, e_129_137, e_129_151, e_129_163, e_129_169, e_129_192, e_129_87, e_129_120, e_129_131, e_129_140, e_129_178, e_129_186, e_129_90, e_143_0, e_143_6, e_144_0, e_144_11, e_144_20, e_144_33, e_144_39, e_144_56, e_144_47, e_145_0, e_145_6_0, e_145_6_1, e_145_6_2, e_145_6_3, e_145_12_0, e_145_12_1, e_145_12_2, e_145_12_3, e_145_31_0, e_145_25, e_145_31_1, e_145_31_2, e_145_31_3, e_145_52, e_145_40, e_145_43, e_146_0, e_146_6_0, e_146_6_1, e_146_6_2, e_146_6_3, e_146_12_0, e_146_12_1, e_146_12_2, e_146_12_3, e_146_32_0, e_146_25, e_146_32_1, e_146_32_2, e_146_32_3, e_146_49, e_146_57, e_146_60, e_147_0, e_147_11, e_147_19, e_147_32, e_147_38, e_147_55, e_147_46, s_133, s_234, s_has_8, s_get_8, s_39, e_131_0, e_132_0, w_ix0, w_iy0, hs, e_77_0_0, e_78_0_0, e_78_4_0, e_79_0_0, e_80_0_0, e_81_0_0, e_81_5_0, e_83_0_0, e_83_5_0, e_83_27_0, Int.reduceLT, Int.reduceLE, and_self, and_true, true_and, Option.bind_some, Int.add_zero, z_wid, or_true, true_or, z_up_fn, z_up_ni, z_up_eq, z_up_qi, z_rw_fn, z_rw_in, z_rw_out, if_pos, if_neg, ↓reduceIte]
        exact w_ret rfl
      · intro k hk
        simp (disch := omega) only [z_up_fn, z_rw_fn]
      · intro τ hτ
        simp (disch := first | omega | (simp (disch := omega) only [hτ] <;> omega) | fail) only [e_231_0, e_231_7, e_231_37, e_231_18, e_231_29, e_231_44, e_231_115, e_231_99, e_231_152, e_231_160, e_231_168, e_231_179, e_231_233, e_231_242, e_231_197, e_231_253, e_231_265, e_231_271, e_231_118, e_231_141, e_231_171, e_231_182, e_231_280, e_231_288, e_231_132, e_229_0, e_229_42, e_229_73, e_229_25, e_229_113, e_230_0, e_230_43, e_230_57, e_230_26, e_230_84, e_230_75, s_149, s_228, s_168, e_150_0, e_151_0, Int.reduceMul, Int.reduceAdd, Int.zero_add, ite_self, hs, e_229_0, e_229_42, e_229_73, e_229_79, e_229_25, e_229_113, Int.reduceLT, Int.reduceLE, and_self, and_true, true_and, n1, n2, n3, hτ, Option.bind_some, Int.add_zero, z_wid, or_true, true_or, z_up_fn, z_up_ni, z_up_eq, z_up_qi, z_rw_fn, z_rw_in, z_rw_out, if_pos, if_neg, ↓reduceIte]
        exact w_ret rfl
      · exact w_ref h 10
  · apply zOK_mk2
    · simp (disch := first | omega | (simp (disch := omega) only [z_up_fn, z_up_ni, z_up_eq, z_up_qi, z_rw_fn] <;> omega) | fail) only [ite_self, Int.reduceAdd, e_129_0, e_129_8, e_129_16, e_129_25, e_129_33, e_129_81, e_129_101, e_129_109, e_129_116, e_129_127, e_129_137, e_129_151, e_129_163, e_129_169, e_129_192, e_129_87, e_129_120, e_129_131, e_129_140, e_129_178, e_129_186, e_129_90, e_143_0, e_143_6, e_144_0, e_144_11, e_144_20, e_144_33, e_144_39, e_144_56, e_144_47, e_145_0, e_145_6_0, e_145_6_1, e_145_6_2, e_145_6_3, e_145_12_0, e_145_12_1, e_145_12_2, e_145_12_3, e_145_31_0, e_145_25, e_145_31_1, e_145_31_2, e_145_31_3, e_145_52, e_145_40, e_145_43, e_146_0, e_146_6_0, e_146_6_1, e_146_6_2, e_146_6_3, e_146_12_0, e_146_12_1, e_146_12_2, e_146_12_3, e_146_32_0, e_146_25, e_146_32_1, e_146_32_2, e_146_32_3, e_146_49, e_146_57, e_146_60, e_147_0, e_147_11, e_147_19, e_147_32, e_147_38, e_147_55, e_147_46, s_133, s_234, s_has_8, s_get_8, s_39, e_131_0, e_132_0, w_ix0, w_iy0, hs, e_77_0_0, e_78_0_0, e_78_4_0, e_79_0_0, e_80_0_0, e_81_0_0, e_81_5_0, e_83_0_0, e_83_5_0, e_83_27_0, Int.reduceLT, Int.reduceLE, and_self, and_true, true_and, Option.bind_some, Int.add_zero, z_wid, or_true, true_or, z_up_fn, z_up_ni, z_up_eq, z_up_qi, z_rw_fn, z_rw_in, z_rw_out, if_pos, if_neg, ↓reduceIte]
      exact w_ret rfl
    · intro k hk
      simp (disch := omega) only [z_up_fn, z_rw_fn]
    · intro τ hτ
      simp (disch := first | omega | (simp (disch := omega) only [hτ] <;> omega) | fail) only [e_231_0, e_231_7, e_231_37, e_231_18, e_231_29, e_231_44, e_231_115, e_231_99, e_231_152, e_231_160, e_231_168, e_231_179, e_231_233, e_231_242, e_231_197, e_231_253, e_231_265, e_231_271, e_231_118, e_231_141, e_231_171, e_231_182, e_231_280, e_231_288, e_231_132, e_229_0, e_229_42, e_229_73, e_229_25, e_229_113, e_230_0, e_230_43, e_230_57, e_230_26, e_230_84, e_230_75, s_149, s_228, s_168, e_150_0, e_151_0, Int.reduceMul, Int.reduceAdd, Int.zero_add, ite_self, hs, e_229_0, e_229_42, e_229_73, e_229_79, e_229_25, e_229_113, Int.reduceLT, Int.reduceLE, and_self, and_true, true_and, n1, n2, n3, hτ, Option.bind_some, Int.add_zero, z_wid, or_true, true_or, z_up_fn, z_up_ni, z_up_eq, z_up_qi, z_rw_fn, z_rw_in, z_rw_out, if_pos, if_neg, ↓reduceIte]
      exact w_ret rfl
    · exact w_ref h 1
theorem o_forge3s0x (d : Nat) (s : Int → Int) (L : Int) (σ : Nat → Int → Int) (h : zV s L σ) (x2 x3 : Int) (hs : x3 % 4 = 0) (hn : x2 < 0) : zOK s L (d + 9) 129 231 [some (.inl 3), some (.inl x2), some (.inl x3)] [some (.inl 3), some (.inl x2), some (.inl x3), none] σ := by
  have hX := zV_X0 h
  have hX1 := hX.1
  have hX2 := hX.2.1
  have hX3 := hX.2.2.1
  have hX4 := hX.2.2.2.1
  have hX5 := hX.2.2.2.2.1
  have hX6 := hX.2.2.2.2.2.1
  by_cases c1 : -100 ≤ x2 ∧ x2 ≤ 100
  · by_cases c2 : -100 ≤ x3 ∧ x3 ≤ 100
    · by_cases c3 : ¬ σ 63 1 = -1
      · by_cases c4 : σ 63 1 = 0
        · apply zOK_mk2
          · simp (disch := first | omega | (simp (disch := omega) only [z_up_fn, z_up_ni, z_up_eq, z_up_qi, z_rw_fn] <;> omega) | fail) only [ite_self, Int.reduceAdd, e_129_0, e_129_8, e_129_16, e_129_25, e_129_33, e_129_81, e_129_101, e_129_109, e_129_116, e_129_127, e_129_137, e_129_151, e_129_163, e_129_169, e_129_192, e_129_87, e_129_120, e_129_131, e_129_140, e_129_178, e_129_186, e_129_90, e_143_0, e_143_6, e_144_0, e_144_11, e_144_20, e_144_33, e_144_39, e_144_56, e_144_47, e_145_0, e_145_6_0, e_145_6_1, e_145_6_2, e_145_6_3, e_145_12_0, e_145_12_1, e_145_12_2, e_145_12_3, e_145_31_0, e_145_25, e_145_31_1, e_145_31_2, e_145_31_3, e_145_52, e_145_40, e_145_43, e_146_0, e_146_6_0, e_146_6_1, e_146_6_2, e_146_6_3, e_146_12_0, e_146_12_1, e_146_12_2, e_146_12_3, e_146_32_0, e_146_25, e_146_32_1, e_146_32_2, e_146_32_3, e_146_49, e_146_57, e_146_60, e_147_0, e_147_11, e_147_19, e_147_32, e_147_38, e_147_55, e_147_46, s_133, s_234, s_has_8, s_get_8, s_39, e_131_0, e_132_0, w_ix0, w_iy0, hs, e_77_0_0, e_78_0_0, e_78_4_0, e_79_0_0, e_80_0_0, e_81_0_0, e_81_5_0, Option.bind_some, Int.add_zero, z_wid, or_true, true_or, z_up_fn, z_up_ni, z_up_eq, z_up_qi, z_rw_fn, z_rw_in, z_rw_out, if_pos, if_neg, ↓reduceIte]
            exact w_ret rfl
          · intro k hk
            simp (disch := omega) only [z_up_fn, z_rw_fn]
          · intro τ hτ
            simp (disch := first | omega | (simp (disch := omega) only [hτ] <;> omega) | fail) only [e_231_0, e_231_7, e_231_37, e_231_18, e_231_29, e_231_44, e_231_115, e_231_99, e_231_152, e_231_160, e_231_168, e_231_179, e_231_233, e_231_242, e_231_197, e_231_253, e_231_265, e_231_271, e_231_118, e_231_141, e_231_171, e_231_182, e_231_280, e_231_288, e_231_132, e_229_0, e_229_42, e_229_73, e_229_25, e_229_113, e_230_0, e_230_43, e_230_57, e_230_26, e_230_84, e_230_75, s_149, s_228, s_168, e_150_0, e_151_0, Int.reduceMul, Int.reduceAdd, Int.zero_add, ite_self, hs, ite_self, hτ, Option.bind_some, Int.add_zero, z_wid, or_true, true_or, z_up_fn, z_up_ni, z_up_eq, z_up_qi, z_rw_fn, z_rw_in, z_rw_out, if_pos, if_neg, ↓reduceIte]
            exact w_ret (by omega)
          · skip
            exact w_ref h 12
        · apply zOK_mk2
          · simp (disch := first | omega | (simp (disch := omega) only [z_up_fn, z_up_ni, z_up_eq, z_up_qi, z_rw_fn] <;> omega) | fail) only [ite_self, Int.reduceAdd, e_129_0, e_129_8, e_129_16, e_129_25, e_129_33, e_129_81, e_129_101, e_129_109, e_129_116, e_129_127, e_129_137, e_129_151, e_129_163, e_129_169, e_129_192, e_129_87, e_129_120, e_129_131, e_129_140, e_129_178, e_129_186, e_129_90, e_143_0, e_143_6, e_144_0, e_144_11, e_144_20, e_144_33, e_144_39, e_144_56, e_144_47, e_145_0, e_145_6_0, e_145_6_1, e_145_6_2, e_145_6_3, e_145_12_0, e_145_12_1, e_145_12_2, e_145_12_3, e_145_31_0, e_145_25, e_145_31_1, e_145_31_2, e_145_31_3, e_145_52, e_145_40, e_145_43, e_146_0, e_146_6_0, e_146_6_1, e_146_6_2, e_146_6_3, e_146_12_0, e_146_12_1, e_146_12_2, e_146_12_3, e_146_32_0, e_146_25, e_146_32_1, e_146_32_2, e_146_32_3, e_146_49, e_146_57, e_146_60, e_147_0, e_147_11, e_147_19, e_147_32, e_147_38, e_147_55, e_147_46, s_133, s_234, s_has_8, s_get_8, s_39, e_131_0, e_132_0, w_ix0, w_iy0, hs, e_77_0_0, e_78_0_0, e_78_4_0, e_79_0_0, e_80_0_0, e_81_0_0, e_81_5_0, Option.bind_some, Int.add_zero, z_wid, or_true, true_or, z_up_fn, z_up_ni, z_up_eq, z_up_qi, z_rw_fn, z_rw_in, z_rw_out, if_pos, if_neg, ↓reduceIte]
            exact w_ret rfl
          · intro k hk
            simp (disch := omega) only [z_up_fn, z_rw_fn]
          · intro τ hτ
            simp (disch := first | omega | (simp (disch := omega) only [hτ] <;> omega) | fail) only [e_231_0, e_231_7, e_231_37, e_231_18, e_231_29, e_231_44, e_231_115, e_231_99, e_231_152, e_231_160, e_231_168, e_231_179, e_231_233, e_231_242, e_231_197, e_231_253, e_231_265, e_231_271, e_231_118, e_231_141, e_231_171, e_231_182, e_231_280, e_231_288, e_231_132, e_229_0, e_229_42, e_229_73, e_229_25, e_229_113, e_230_0, e_230_43, e_230_57, e_230_26, e_230_84, e_230_75, s_149, s_228, s_168, e_150_0, e_151_0, Int.reduceMul, Int.reduceAdd, Int.zero_add, ite_self, hs, ite_self, hτ, Option.bind_some, Int.add_zero, z_wid, or_true, true_or, z_up_fn, z_up_ni, z_up_eq, z_up_qi, z_rw_fn, z_rw_in, z_rw_out, if_pos, if_neg, ↓reduceIte]
            exact w_ret rfl
          · exact w_ref h 11
      · apply zOK_mk2
        · simp (disch := first | omega | (simp (disch := omega) only [z_up_fn, z_up_ni, z_up_eq, z_up_qi, z_rw_fn] <;> omega) | fail) only [ite_self, Int.reduceAdd, e_129_0, e_129_8, e_129_16, e_129_25, e_129_33, e_129_81, e_129_101, e_129_109, e_129_116, e_129_127, e_129_137, e_129_151, e_129_163, e_129_169, e_129_192, e_129_87, e_129_120, e_129_131, e_129_140, e_129_178, e_129_186, e_129_90, e_143_0, e_143_6, e_144_0, e_144_11, e_144_20, e_144_33, e_144_39, e_144_56, e_144_47, e_145_0, e_145_6_0, e_145_6_1, e_145_6_2, e_145_6_3, e_145_12_0, e_145_12_1, e_145_12_2, e_145_12_3, e_145_31_0, e_145_25, e_145_31_1, e_145_31_2, e_145_31_3, e_145_52, e_145_40, e_145_43, e_146_0, e_146_6_0, e_146_6_1, e_146_6_2, e_146_6_3, e_146_12_0, e_146_12_1, e_146_12_2, e_146_12_3, e_146_32_0, e_146_25, e_146_32_1, e_146_32_2, e_146_32_3, e_146_49, e_146_57, e_146_60, e_147_0, e_147_11, e_147_19, e_147_32, e_147_38, e_147_55, e_147_46, s_133, s_234, s_has_8, s_get_8, s_39, e_131_0, e_132_0, w_ix0, w_iy0, hs, e_77_0_0, e_78_0_0, e_78_4_0, e_79_0_0, e_80_0_0, e_81_0_0, e_81_5_0, Option.bind_some, Int.add_zero, z_wid, or_true, true_or, z_up_fn, z_up_ni, z_up_eq, z_up_qi, z_rw_fn, z_rw_in, z_rw_out, if_pos, if_neg, ↓reduceIte]
          exact w_ret rfl
        · intro k hk
          simp (disch := omega) only [z_up_fn, z_rw_fn]
        · intro τ hτ
          simp (disch := first | omega | (simp (disch := omega) only [hτ] <;> omega) | fail) only [e_231_0, e_231_7, e_231_37, e_231_18, e_231_29, e_231_44, e_231_115, e_231_99, e_231_152, e_231_160, e_231_168, e_231_179, e_231_233, e_231_242, e_231_197, e_231_253, e_231_265, e_231_271, e_231_118, e_231_141, e_231_171, e_231_182, e_231_280, e_231_288, e_231_132, e_229_0, e_229_42, e_229_73, e_229_25, e_229_113, e_230_0, e_230_43, e_230_57, e_230_26, e_230_84, e_230_75, s_149, s_228, s_168, e_150_0, e_151_0, Int.reduceMul, Int.reduceAdd, Int.zero_add, ite_self, hs, ite_self, hτ, Option.bind_some, Int.add_zero, z_wid, or_true, true_or, z_up_fn, z_up_ni, z_up_eq, z_up_qi, z_rw_fn, z_rw_in, z_rw_out, if_pos, if_neg, ↓reduceIte]
          exact w_ret rfl
        · exact w_ref h 10
    · apply zOK_mk2
      · simp (disch := first | omega | (simp (disch := omega) only [z_up_fn, z_up_ni, z_up_eq, z_up_qi, z_rw_fn] <;> omega) | fail) only [ite_self, Int.reduceAdd, e_129_0, e_129_8, e_129_16, e_129_25, e_129_33, e_129_81, e_129_101, e_129_109, e_129_116, e_129_127, e_129_137, e_129_151, e_129_163, e_129_169, e_129_192, e_129_87, e_129_120, e_129_131, e_129_140, e_129_178, e_129_186, e_129_90, e_143_0, e_143_6, e_144_0, e_144_11, e_144_20, e_144_33, e_144_39, e_144_56, e_144_47, e_145_0, e_145_6_0, e_145_6_1, e_145_6_2, e_145_6_3, e_145_12_0, e_145_12_1, e_145_12_2, e_145_12_3, e_145_31_0, e_145_25, e_145_31_1, e_145_31_2, e_145_31_3, e_145_52, e_145_40, e_145_43, e_146_0, e_146_6_0, e_146_6_1, e_146_6_2, e_146_6_3, e_146_12_0, e_146_12_1, e_146_12_2, e_146_12_3, e_146_32_0, e_146_25, e_146_32_1, e_146_32_2, e_146_32_3, e_146_49, e_146_57, e_146_60, e_147_0, e_147_11, e_147_19, e_147_32, e_147_38, e_147_55, e_147_46, s_133, s_234, s_has_8, s_get_8, s_39, e_131_0, e_132_0, w_ix0, w_iy0, hs, e_77_0_0, e_78_0_0, e_78_4_0, e_79_0_0, e_80_0_0, e_81_0_0, e_81_5_0, Option.bind_some, Int.add_zero, z_wid, or_true, true_or, z_up_fn, z_up_ni, z_up_eq, z_up_qi, z_rw_fn, z_rw_in, z_rw_out, if_pos, if_neg, ↓reduceIte]
        exact w_ret rfl
      · intro k hk
        simp (disch := omega) only [z_up_fn, z_rw_fn]
      · intro τ hτ
        simp (disch := first | omega | (simp (disch := omega) only [hτ] <;> omega) | fail) only [e_231_0, e_231_7, e_231_37, e_231_18, e_231_29, e_231_44, e_231_115, e_231_99, e_231_152, e_231_160, e_231_168, e_231_179, e_231_233, e_231_242, e_231_197, e_231_253, e_231_265, e_231_271, e_231_118, e_231_141, e_231_171, e_231_182, e_231_280, e_231_288, e_231_132, e_229_0, e_229_42, e_229_73, e_229_25, e_229_113, e_230_0, e_230_43, e_230_57, e_230_26, e_230_84, e_230_75, s_149, s_228, s_168, e_150_0, e_151_0, Int.reduceMul, Int.reduceAdd, Int.zero_add, ite_self, hs, ite_self, hτ, Option.bind_some, Int.add_zero, z_wid, or_true, true_or, z_up_fn, z_up_ni, z_up_eq, z_up_qi, z_rw_fn, z_rw_in, z_rw_out, if_pos, if_neg, ↓reduceIte]
        exact w_ret rfl
      · exact w_ref h 1
  · apply zOK_mk2
    · simp (disch := first | omega | (simp (disch := omega) only [z_up_fn, z_up_ni, z_up_eq, z_up_qi, z_rw_fn] <;> omega) | fail) only [ite_self, Int.reduceAdd, e_129_0, e_129_8, e_129_16, e_129_25, e_129_33, e_129_81, e_129_101, e_129_109, e_129_116, e_129_127, e_129_137, e_129_151, e_129_163, e_129_169, e_129_192, e_129_87, e_129_120, e_129_131, e_129_140, e_129_178, e_129_186, e_129_90, e_143_0, e_143_6, e_144_0, e_144_11, e_144_20, e_144_33, e_144_39, e_144_56, e_144_47, e_145_0, e_145_6_0, e_145_6_1, e_145_6_2, e_145_6_3, e_145_12_0, e_145_12_1, e_145_12_2, e_145_12_3, e_145_31_0, e_145_25, e_145_31_1, e_145_31_2, e_145_31_3, e_145_52, e_145_40, e_145_43, e_146_0, e_146_6_0, e_146_6_1, e_146_6_2, e_146_6_3, e_146_12_0, e_146_12_1, e_146_12_2, e_146_12_3, e_146_32_0, e_146_25, e_146_32_1, e_146_32_2, e_146_32_3, e_146_49, e_146_57, e_146_60, e_147_0, e_147_11, e_147_19, e_147_32, e_147_38, e_147_55, e_147_46, s_133, s_234, s_has_8, s_get_8, s_39, e_131_0, e_132_0, w_ix0, w_iy0, hs, e_77_0_0, e_78_0_0, e_78_4_0, e_79_0_0, e_80_0_0, e_81_0_0, e_81_5_0, Option.bind_some, Int.add_zero, z_wid, or_true, true_or, z_up_fn, z_up_ni, z_up_eq, z_up_qi, z_rw_fn, z_rw_in, z_rw_out, if_pos, if_neg, ↓reduceIte]
      exact w_ret rfl
    · intro k hk
      simp (disch := omega) only [z_up_fn, z_rw_fn]
    · intro τ hτ
      simp (disch := first | omega | (simp (disch := omega) only [hτ] <;> omega) | fail) only [e_231_0, e_231_7, e_231_37, e_231_18, e_231_29, e_231_44, e_231_115, e_231_99, e_231_152, e_231_160, e_231_168, e_231_179, e_231_233, e_231_242, e_231_197, e_231_253, e_231_265, e_231_271, e_231_118, e_231_141, e_231_171, e_231_182, e_231_280, e_231_288, e_231_132, e_229_0, e_229_42, e_229_73, e_229_25, e_229_113, e_230_0, e_230_43, e_230_57, e_230_26, e_230_84, e_230_75, s_149, s_228, s_168, e_150_0, e_151_0, Int.reduceMul, Int.reduceAdd, Int.zero_add, ite_self, hs, ite_self, hτ, Option.bind_some, Int.add_zero, z_wid, or_true, true_or, z_up_fn, z_up_ni, z_up_eq, z_up_qi, z_rw_fn, z_rw_in, z_rw_out, if_pos, if_neg, ↓reduceIte]
      exact w_ret rfl
    · exact w_ref h 1
theorem o_forge3s0y (d : Nat) (s : Int → Int) (L : Int) (σ : Nat → Int → Int) (h : zV s L σ) (x2 x3 : Int) (hs : x3 % 4 = 0) (hn : 3 < x2 ∧ x2 + 1 ≤ σ 63 2) : zOK s L (d + 9) 129 231 [some (.inl 3), some (.inl x2), some (.inl x3)] [some (.inl 3), some (.inl x2), some (.inl x3), none] σ := by
  have hX := zV_X0 h
  have hX1 := hX.1
  have hX2 := hX.2.1
  have hX3 := hX.2.2.1
  have hX4 := hX.2.2.2.1
  have hX5 := hX.2.2.2.2.1
  have hX6 := hX.2.2.2.2.2.1
  by_cases c1 : -100 ≤ x2 ∧ x2 ≤ 100
  · by_cases c2 : -100 ≤ x3 ∧ x3 ≤ 100
    · by_cases c3 : ¬ σ 63 1 = -1
      · by_cases c4 : σ 63 1 = 0
        · apply zOK_mk2
          · simp (disch := first | omega | (simp (disch := omega) only [z_up_fn, z_up_ni, z_up_eq, z_up_qi, z_rw_fn] <;> omega) | fail) only [ite_self, Int.reduceAdd, e_129_0, e_129_8, e_129_16, e_129_25, e_129_33, e_129_81, e_129_101, e_129_109, e_129_116, e_129_127, e_129_137, e_129_151, e_129_163, e_129_169, e_129_192, e_129_87, e_129_120, e_129_131, e_129_140, e_129_178, e_129_186, e_129_90, e_143_0, e_143_6, e_144_0, e_144_11, e_144_20, e_144_33, e_144_39, e_144_56, e_144_47, e_145_0, e_145_6_0, e_145_6_1, e_145_6_2, e_145_6_3, e_145_12_0, e_145_12_1, e_145_12_2, e_145_12_3, e_145_31_0, e_145_25, e_145_31_1, e_145_31_2, e_145_31_3, e_145_52, e_145_40, e_145_43, e_146_0, e_146_6_0, e_146_6_1, e_146_6_2, e_146_6_3, e_146_12_0, e_146_12_1, e_146_12_2, e_146_12_3, e_146_32_0, e_146_25, e_146_32_1, e_146_32_2, e_146_32_3, e_146_49, e_146_57, e_146_60, e_147_0, e_147_11, e_147_19, e_147_32, e_147_38, e_147_55, e_147_46, s_133, s_234, s_has_8, s_get_8, s_39, e_131_0, e_132_0, w_ix0, w_iy0, hs, e_77_0_0, e_78_0_0, e_78_4_0, e_79_0_0, e_80_0_0, e_81_0_0, e_81_5_0, Option.bind_some, Int.add_zero, z_wid, or_true, true_or, z_up_fn, z_up_ni, z_up_eq, z_up_qi, z_rw_fn, z_rw_in, z_rw_out, if_pos, if_neg, ↓reduceIte]
            exact w_ret rfl
          · intro k hk
            simp (disch := omega) only [z_up_fn, z_rw_fn]
          · intro τ hτ
            simp (disch := first | omega | (simp (disch := omega) only [hτ] <;> omega) | fail) only [e_231_0, e_231_7, e_231_37, e_231_18, e_231_29, e_231_44, e_231_115, e_231_99, e_231_152, e_231_160, e_231_168, e_231_179, e_231_233, e_231_242, e_231_197, e_231_253, e_231_265, e_231_271, e_231_118, e_231_141, e_231_171, e_231_182, e_231_280, e_231_288, e_231_132, e_229_0, e_229_42, e_229_73, e_229_25, e_229_113, e_230_0, e_230_43, e_230_57, e_230_26, e_230_84, e_230_75, s_149, s_228, s_168, e_150_0, e_151_0, Int.reduceMul, Int.reduceAdd, Int.zero_add, ite_self, hs, ite_self, hτ, Option.bind_some, Int.add_zero, z_wid, or_true, true_or, z_up_fn, z_up_ni, z_up_eq, z_up_qi, z_rw_fn, z_rw_in, z_rw_out, if_pos, if_neg, ↓reduceIte]
            exact w_ret (by omega)
          · skip
            exact w_ref h 12
        · apply zOK_mk2
          · simp (disch := first | omega | (simp (disch := omega) only [z_up_fn, z_up_ni, z_up_eq, z_up_qi, z_rw_fn] <;> omega) | fail) only [ite_self, Int.reduceAdd, e_129_0, e_129_8, e_129_16, e_129_25, e_129_33, e_129_81, e_129_101, e_129_109, e_129_116, e_129_127, e_129_137, e_129_151, e_129_163, e_129_169, e_129_192, e_129_87, e_129_120, e_129_131, e_129_140, e_129_178, e_129_186, e_129_90, e_143_0, e_143_6, e_144_0, e_144_11, e_144_20, e_144_33, e_144_39, e_144_56, e_144_47, e_145_0, e_145_6_0, e_145_6_1, e_145_6_2, e_145_6_3, e_145_12_0, e_145_12_1, e_145_12_2, e_145_12_3, e_145_31_0, e_145_25, e_145_31_1, e_145_31_2, e_145_31_3, e_145_52, e_145_40, e_145_43, e_146_0, e_146_6_0, e_146_6_1, e_146_6_2, e_146_6_3, e_146_12_0, e_146_12_1, e_146_12_2, e_146_12_3, e_146_32_0, e_146_25, e_146_32_1, e_146_32_2, e_146_32_3, e_146_49, e_146_57, e_146_60, e_147_0, e_147_11, e_147_19, e_147_32, e_147_38, e_147_55, e_147_46, s_133, s_234, s_has_8, s_get_8, s_39, e_131_0, e_132_0, w_ix0, w_iy0, hs, e_77_0_0, e_78_0_0, e_78_4_0, e_79_0_0, e_80_0_0, e_81_0_0, e_81_5_0, Option.bind_some, Int.add_zero, z_wid, or_true, true_or, z_up_fn, z_up_ni, z_up_eq, z_up_qi, z_rw_fn, z_rw_in, z_rw_out, if_pos, if_neg, ↓reduceIte]
            exact w_ret rfl
          · intro k hk
            simp (disch := omega) only [z_up_fn, z_rw_fn]
          · intro τ hτ
            simp (disch := first | omega | (simp (disch := omega) only [hτ] <;> omega) | fail) only [e_231_0, e_231_7, e_231_37, e_231_18, e_231_29, e_231_44, e_231_115, e_231_99, e_231_152, e_231_160, e_231_168, e_231_179, e_231_233, e_231_242, e_231_197, e_231_253, e_231_265, e_231_271, e_231_118, e_231_141, e_231_171, e_231_182, e_231_280, e_231_288, e_231_132, e_229_0, e_229_42, e_229_73, e_229_25, e_229_113, e_230_0, e_230_43, e_230_57, e_230_26, e_230_84, e_230_75, s_149, s_228, s_168, e_150_0, e_151_0, Int.reduceMul, Int.reduceAdd, Int.zero_add, ite_self, hs, ite_self, hτ, Option.bind_some, Int.add_zero, z_wid, or_true, true_or, z_up_fn, z_up_ni, z_up_eq, z_up_qi, z_rw_fn, z_rw_in, z_rw_out, if_pos, if_neg, ↓reduceIte]
            exact w_ret rfl
          · exact w_ref h 11
      · apply zOK_mk2
        · simp (disch := first | omega | (simp (disch := omega) only [z_up_fn, z_up_ni, z_up_eq, z_up_qi, z_rw_fn] <;> omega) | fail) only [ite_self, Int.reduceAdd, e_129_0, e_129_8, e_129_16, e_129_25, e_129_33, e_129_81, e_129_101, e_129_109, e_129_116, e_129_127, e_129_137, e_129_151, e_129_163, e_129_169, e_129_192, e_129_87, e_129_120, e_129_131, e_129_140, e_129_178, e_129_186, e_129_90, e_143_0, e_143_6, e_144_0, e_144_11, e_144_20, e_144_33, e_144_39, e_144_56, e_144_47, e_145_0, e_145_6_0, e_145_6_1, e_145_6_2, e_145_6_3, e_145_12_0, e_145_12_1, e_145_12_2, e_145_12_3, e_145_31_0, e_145_25, e_145_31_1, e_145_31_2, e_145_31_3, e_145_52, e_145_40, e_145_43, e_146_0, e_146_6_0, e_146_6_1, e_146_6_2, e_146_6_3, e_146_12_0, e_146_12_1, e_146_12_2, e_146_12_3, e_146_32_0, e_146_25, e_146_32_1, e_146_32_2, e_146_32_3, e_146_49, e_146_57, e_146_60, e_147_0, e_147_11, e_147_19, e_147_32, e_147_38, e_147_55, e_147_46, s_133, s_234, s_has_8, s_get_8, s_39, e_131_0, e_132_0, w_ix0, w_iy0, hs, e_77_0_0, e_78_0_0, e_78_4_0, e_79_0_0, e_80_0_0, e_81_0_0, e_81_5_0, Option.bind_some, Int.add_zero, z_wid, or_true, true_or, z_up_fn, z_up_ni, z_up_eq, z_up_qi, z_rw_fn, z_rw_in, z_rw_out, if_pos, if_neg, ↓reduceIte]
          exact w_ret rfl
        · intro k hk
          simp (disch := omega) only [z_up_fn, z_rw_fn]
        · intro τ hτ
          simp (disch := first | omega | (simp (disch := omega) only [hτ] <;> omega) | fail) only [e_231_0, e_231_7, e_231_37, e_231_18, e_231_29, e_231_44, e_231_115, e_231_99, e_231_152, e_231_160, e_231_168, e_231_179, e_231_233, e_231_242, e_231_197, e_231_253, e_231_265, e_231_271, e_231_118, e_231_141, e_231_171, e_231_182, e_231_280, e_231_288, e_231_132, e_229_0, e_229_42, e_229_73, e_229_25, e_229_113, e_230_0, e_230_43, e_230_57, e_230_26, e_230_84, e_230_75, s_149, s_228, s_168, e_150_0, e_151_0, Int.reduceMul, Int.reduceAdd, Int.zero_add, ite_self, hs, ite_self, hτ, Option.bind_some, Int.add_zero, z_wid, or_true, true_or, z_up_fn, z_up_ni, z_up_eq, z_up_qi, z_rw_fn, z_rw_in, z_rw_out, if_pos, if_neg, ↓reduceIte]
          exact w_ret rfl
        · exact w_ref h 10
    · apply zOK_mk2
      · simp (disch := first | omega | (simp (disch := omega) only [z_up_fn, z_up_ni, z_up_eq, z_up_qi, z_rw_fn] <;> omega) | fail) only [ite_self, Int.reduceAdd, e_129_0, e_129_8, e_129_16, e_129_25, e_129_33, e_129_81, e_129_101, e_129_109, e_129_116, e_129_127, e_129_137, e_129_151, e_129_163, e_129_169, e_129_192, e_129_87, e_129_120, e_129_131, e_129_140, e_129_178, e_129_186, e_129_90, e_143_0, e_143_6, e_144_0, e_144_11, e_144_20, e_144_33, e_144_39, e_144_56, e_144_47, e_145_0, e_145_6_0, e_145_6_1, e_145_6_2, e_145_6_3, e_145_12_0, e_145_12_1, e_145_12_2, e_145_12_3, e_145_31_0, e_145_25, e_145_31_1, e_145_31_2, e_145_31_3, e_145_52, e_145_40, e_145_43, e_146_0, e_146_6_0, e_146_6_1, e_146_6_2, e_146_6_3, e_146_12_0, e_146_12_1, e_146_12_2, e_146_12_3, e_146_32_0, e_146_25, e_146_32_1, e_146_32_2, e_146_32_3, e_146_49, e_146_57, e_146_60, e_147_0, e_147_11, e_147_19, e_147_32, e_147_38, e_147_55, e_147_46, s_133, s_234, s_has_8, s_get_8, s_39, e_131_0, e_132_0, w_ix0, w_iy0, hs, e_77_0_0, e_78_0_0, e_78_4_0, e_79_0_0, e_80_0_0, e_81_0_0, e_81_5_0, Option.bind_some, Int.add_zero, z_wid, or_true, true_or, z_up_fn, z_up_ni, z_up_eq, z_up_qi, z_rw_fn, z_rw_in, z_rw_out, if_pos, if_neg, ↓reduceIte]
        exact w_ret rfl
      · intro k hk
        simp (disch := omega) only [z_up_fn, z_rw_fn]
      · intro τ hτ
        simp (disch := first | omega | (simp (disch := omega) only [hτ] <;> omega) | fail) only [e_231_0, e_231_7, e_231_37, e_231_18, e_231_29, e_231_44, e_231_115, e_231_99, e_231_152, e_231_160, e_231_168, e_231_179, e_231_233, e_231_242, e_231_197, e_231_253, e_231_265, e_231_271, e_231_118, e_231_141, e_231_171, e_231_182, e_231_280, e_231_288, e_231_132, e_229_0, e_229_42, e_229_73, e_229_25, e_229_113, e_230_0, e_230_43, e_230_57, e_230_26, e_230_84, e_230_75, s_149, s_228, s_168, e_150_0, e_151_0, Int.reduceMul, Int.reduceAdd, Int.zero_add, ite_self, hs, ite_self, hτ, Option.bind_some, Int.add_zero, z_wid, or_true, true_or, z_up_fn, z_up_ni, z_up_eq, z_up_qi, z_rw_fn, z_rw_in, z_rw_out, if_pos, if_neg, ↓reduceIte]
        exact w_ret rfl
      · exact w_ref h 1
  · apply zOK_mk2
    · simp (disch := first | omega | (simp (disch := omega) only [z_up_fn, z_up_ni, z_up_eq, z_up_qi, z_rw_fn] <;> omega) | fail) only [ite_self, Int.reduceAdd, e_129_0, e_129_8, e_129_16, e_129_25, e_129_33, e_129_81, e_129_101, e_129_109, e_129_116, e_129_127, e_129_137, e_129_151, e_129_163, e_129_169, e_129_192, e_129_87, e_129_120, e_129_131, e_129_140, e_129_178, e_129_186, e_129_90, e_143_0, e_143_6, e_144_0, e_144_11, e_144_20, e_144_33, e_144_39, e_144_56, e_144_47, e_145_0, e_145_6_0, e_145_6_1, e_145_6_2, e_145_6_3, e_145_12_0, e_145_12_1, e_145_12_2, e_145_12_3, e_145_31_0, e_145_25, e_145_31_1, e_145_31_2, e_145_31_3, e_145_52, e_145_40, e_145_43, e_146_0, e_146_6_0, e_146_6_1, e_146_6_2, e_146_6_3, e_146_12_0, e_146_12_1, e_146_12_2, e_146_12_3, e_146_32_0, e_146_25, e_146_32_1, e_146_32_2, e_146_32_3, e_146_49, e_146_57, e_146_60, e_147_0, e_147_11, e_147_19, e_147_32, e_147_38, e_147_55, e_147_46, s_133, s_234, s_has_8, s_get_8, s_39, e_131_0, e_132_0, w_ix0, w_iy0, hs, e_77_0_0, e_78_0_0, e_78_4_0, e_79_0_0, e_80_0_0, e_81_0_0, e_81_5_0, Option.bind_some, Int.add_zero, z_wid, or_true, true_or, z_up_fn, z_up_ni, z_up_eq, z_up_qi, z_rw_fn, z_rw_in, z_rw_out, if_pos, if_neg, ↓reduceIte]
      exact w_ret rfl
    · intro k hk
      simp (disch := omega) only [z_up_fn, z_rw_fn]
    · intro τ hτ
      simp (disch := first | omega | (simp (disch := omega) only [hτ] <;> omega) | fail) only [e_231_0, e_231_7, e_231_37, e_231_18, e_231_29, e_231_44, e_231_115, e_231_99, e_231_152, e_231_160, e_231_168, e_231_179, e_231_233, e_231_242, e_231_197, e_231_253, e_231_265, e_231_271, e_231_118, e_231_141, e_231_171, e_231_182, e_231_280, e_231_288, e_231_132, e_229_0, e_229_42, e_229_73, e_229_25, e_229_113, e_230_0, e_230_43, e_230_57, e_230_26, e_230_84, e_230_75, s_149, s_228, s_168, e_150_0, e_151_0, Int.reduceMul, Int.reduceAdd, Int.zero_add, ite_self, hs, ite_self, hτ, Option.bind_some, Int.add_zero, z_wid, or_true, true_or, z_up_fn, z_up_ni, z_up_eq, z_up_qi, z_rw_fn, z_rw_in, z_rw_out, if_pos, if_neg, ↓reduceIte]
      exact w_ret rfl
    · exact w_ref h 1
theorem o_forge3s0z (d : Nat) (s : Int → Int) (L : Int) (σ : Nat → Int → Int) (h : zV s L σ) (x2 x3 : Int) (hs : x3 % 4 = 0) (hn : 3 < x2 ∧ ¬ x2 + 1 ≤ σ 63 2) : zOK s L (d + 9) 129 231 [some (.inl 3), some (.inl x2), some (.inl x3)] [some (.inl 3), some (.inl x2), some (.inl x3), none] σ := by
  have hX := zV_X0 h
  have hX1 := hX.1
  have hX2 := hX.2.1
  have hX3 := hX.2.2.1
  have hX4 := hX.2.2.2.1
  have hX5 := hX.2.2.2.2.1
  have hX6 := hX.2.2.2.2.2.1
  by_cases c1 : -100 ≤ x2 ∧ x2 ≤ 100
  · by_cases c2 : -100 ≤ x3 ∧ x3 ≤ 100
    · by_cases c3 : ¬ σ 63 1 = -1
      · by_cases c4 : σ 63 1 = 0
        · apply zOK_mk2
          · simp (disch := first | omega | (simp (disch := omega) only [z_up_fn, z_up_ni, z_up_eq, z_up_qi, z_rw_fn] <;> omega) | fail) only [ite_self, Int.reduceAdd, e_129_0, e_129_8, e_129_16, e_129_25, e_129_33, e_129_81, e_129_101, e_129_109, e_129_116, e_129_127, e_129_137, e_129_151, e_129_163, e_129_169, e_129_192, e_129_87, e_129_120, e_129_131, e_129_140, e_129_178, e_129_186, e_129_90, e_143_0, e_143_6, e_144_0, e_144_11, e_144_20, e_144_33, e_144_39, e_144_56, e_144_47, e_145_0, e_145_6_0, e_145_6_1, e_145_6_2, e_145_6_3, e_145_12_0, e_145_12_1, e_145_12_2, e_145_12_3, e_145_31_0, e_145_25, e_145_31_1, e_145_31_2, e_145_31_3, e_145_52, e_145_40, e_145_43, e_146_0, e_146_6_0, e_146_6_1, e_146_6_2, e_146_6_3, e_146_12_0, e_146_12_1, e_146_12_2, e_146_12_3, e_146_32_0, e_146_25, e_146_32_1, e_146_32_2, e_146_32_3, e_146_49, e_146_57, e_146_60, e_147_0, e_147_11, e_147_19, e_147_32, e_147_38, e_147_55, e_147_46, s_133, s_234, s_has_8, s_get_8, s_39, e_131_0, e_132_0, w_ix0, w_iy0, hs, e_77_0_0, e_78_0_0, e_78_4_0, e_79_0_0, e_80_0_0, e_81_0_0, e_81_5_0, Option.bind_some, Int.add_zero, z_wid, or_true, true_or, z_up_fn, z_up_ni, z_up_eq, z_up_qi, z_rw_fn, z_rw_in, z_rw_out, if_pos, if_neg, ↓reduceIte]
            exact w_ret rfl
          · intro k hk
            simp (disch := omega) only [z_up_fn, z_rw_fn]
          · intro τ hτ
            simp (disch := first | omega | (simp (disch := omega) only [hτ] <;> omega) | fail) only [e_231_0, e_231_7, e_231_37, e_231_18, e_231_29, e_231_44, e_231_115, e_231_99, e_231_152, e_231_160, e_231_168, e_231_179, e_231_233, e_231_242, e_231_197, e_231_253, e_231_265, e_231_271, e_231_118, e_231_141, e_231_171, e_231_182, e_231_280, e_231_288, e_231_132, e_229_0, e_229_42, e_229_73, e_229_25, e_229_113, e_230_0, e_230_43, e_230_57, e_230_26, e_230_84, e_230_75, s_149, s_228, s_168, e_150_0, e_151_0, Int.reduceMul, Int.reduceAdd, Int.zero_add, ite_self, hs, ite_self, hτ, Option.bind_some, Int.add_zero, z_wid, or_true, true_or, z_up_fn, z_up_ni, z_up_eq, z_up_qi, z_rw_fn, z_rw_in, z_rw_out, if_pos, if_neg, ↓reduceIte]
            exact w_ret (by omega)
          · skip
            exact w_ref h 12
        · apply zOK_mk2
          · simp (disch := first | omega | (simp (disch := omega) only [z_up_fn, z_up_ni, z_up_eq, z_up_qi, z_rw_fn] <;> omega) | fail) only [ite_self, Int.reduceAdd, e_129_0, e_129_8, e_129_16, e_129_25, e_129_33, e_129_81, e_129_101, e_129_109, e_129_116, e_129_127, e_129_137, e_129_151, e_129_163, e_129_169, e_129_192, e_129_87, e_129_120, e_129_131, e_129_140, e_129_178, e_129_186, e_129_90, e_143_0, e_143_6, e_144_0, e_144_11, e_144_20, e_144_33, e_144_39, e_144_56, e_144_47, e_145_0, e_145_6_0, e_145_6_1, e_145_6_2, e_145_6_3, e_145_12_0, e_145_12_1, e_145_12_2, e_145_12_3, e_145_31_0, e_145_25, e_145_31_1, e_145_31_2, e_145_31_3, e_145_52, e_145_40, e_145_43, e_146_0, e_146_6_0, e_146_6_1, e_146_6_2, e_146_6_3, e_146_12_0, e_146_12_1, e_146_12_2, e_146_12_3, e_146_32_0, e_146_25, e_146_32_1, e_146_32_2, e_146_32_3, e_146_49, e_146_57, e_146_60, e_147_0, e_147_11, e_147_19, e_147_32, e_147_38, e_147_55, e_147_46, s_133, s_234, s_has_8, s_get_8, s_39, e_131_0, e_132_0, w_ix0, w_iy0, hs, e_77_0_0, e_78_0_0, e_78_4_0, e_79_0_0, e_80_0_0, e_81_0_0, e_81_5_0, Option.bind_some, Int.add_zero, z_wid, or_true, true_or, z_up_fn, z_up_ni, z_up_eq, z_up_qi, z_rw_fn, z_rw_in, z_rw_out, if_pos, if_neg, ↓reduceIte]
            exact w_ret rfl
          · intro k hk
            simp (disch := omega) only [z_up_fn, z_rw_fn]
          · intro τ hτ
            simp (disch := first | omega | (simp (disch := omega) only [hτ] <;> omega) | fail) only [e_231_0, e_231_7, e_231_37, e_231_18, e_231_29, e_231_44, e_231_115, e_231_99, e_231_152, e_231_160, e_231_168, e_231_179, e_231_233, e_231_242, e_231_197, e_231_253, e_231_265, e_231_271, e_231_118, e_231_141, e_231_171, e_231_182, e_231_280, e_231_288, e_231_132, e_229_0, e_229_42, e_229_73, e_229_25, e_229_113, e_230_0, e_230_43, e_230_57, e_230_26, e_230_84, e_230_75, s_149, s_228, s_168, e_150_0, e_151_0, Int.reduceMul, Int.reduceAdd, Int.zero_add, ite_self, hs, ite_self, hτ, Option.bind_some, Int.add_zero, z_wid, or_true, true_or, z_up_fn, z_up_ni, z_up_eq, z_up_qi, z_rw_fn, z_rw_in, z_rw_out, if_pos, if_neg, ↓reduceIte]
            exact w_ret rfl
          · exact w_ref h 11
      · apply zOK_mk2
        · simp (disch := first | omega | (simp (disch := omega) only [z_up_fn, z_up_ni, z_up_eq, z_up_qi, z_rw_fn] <;> omega) | fail) only [ite_self, Int.reduceAdd, e_129_0, e_129_8, e_129_16, e_129_25, e_129_33, e_129_81, e_129_101, e_129_109, e_129_116, e_129_127, e_129_137, e_129_151, e_129_163, e_129_169, e_129_192, e_129_87, e_129_120, e_129_131, e_129_140, e_129_178, e_129_186, e_129_90, e_143_0, e_143_6, e_144_0, e_144_11, e_144_20, e_144_33, e_144_39, e_144_56, e_144_47, e_145_0, e_145_6_0, e_145_6_1, e_145_6_2, e_145_6_3, e_145_12_0, e_145_12_1, e_145_12_2, e_145_12_3, e_145_31_0, e_145_25, e_145_31_1, e_145_31_2, e_145_31_3, e_145_52, e_145_40, e_145_43, e_146_0, e_146_6_0, e_146_6_1, e_146_6_2, e_146_6_3, e_146_12_0, e_146_12_1, e_146_12_2, e_146_12_3, e_146_32_0, e_146_25, e_146_32_1, e_146_32_2, e_146_32_3, e_146_49, e_146_57, e_146_60, e_147_0, e_147_11, e_147_19, e_147_32, e_147_38, e_147_55, e_147_46, s_133, s_234, s_has_8, s_get_8, s_39, e_131_0, e_132_0, w_ix0, w_iy0, hs, e_77_0_0, e_78_0_0, e_78_4_0, e_79_0_0, e_80_0_0, e_81_0_0, e_81_5_0, Option.bind_some, Int.add_zero, z_wid, or_true, true_or, z_up_fn, z_up_ni, z_up_eq, z_up_qi, z_rw_fn, z_rw_in, z_rw_out, if_pos, if_neg, ↓reduceIte]
          exact w_ret rfl
        · intro k hk
          simp (disch := omega) only [z_up_fn, z_rw_fn]
        · intro τ hτ
          simp (disch := first | omega | (simp (disch := omega) only [hτ] <;> omega) | fail) only [e_231_0, e_231_7, e_231_37, e_231_18, e_231_29, e_231_44, e_231_115, e_231_99, e_231_152, e_231_160, e_231_168, e_231_179, e_231_233, e_231_242, e_231_197, e_231_253, e_231_265, e_231_271, e_231_118, e_231_141, e_231_171, e_231_182, e_231_280, e_231_288, e_231_132, e_229_0, e_229_42, e_229_73, e_229_25, e_229_113, e_230_0, e_230_43, e_230_57, e_230_26, e_230_84, e_230_75, s_149, s_228, s_168, e_150_0, e_151_0, Int.reduceMul, Int.reduceAdd, Int.zero_add, ite_self, hs, ite_self, hτ, Option.bind_some, Int.add_zero, z_wid, or_true, true_or, z_up_fn, z_up_ni, z_up_eq, z_up_qi, z_rw_fn, z_rw_in, z_rw_out, if_pos, if_neg, ↓reduceIte]
          exact w_ret rfl
        · exact w_ref h 10
    · apply zOK_mk2
      · simp (disch := first | omega | (simp (disch := omega) only [z_up_fn, z_up_ni, z_up_eq, z_up_qi, z_rw_fn] <;> omega) | fail) only [ite_self, Int.reduceAdd, e_129_0, e_129_8, e_129_16, e_129_25, e_129_33, e_129_81, e_129_101, e_129_109, e_129_116, e_129_127, e_129_137, e_129_151, e_129_163, e_129_169, e_129_192, e_129_87, e_129_120, e_129_131, e_129_140, e_129_178, e_129_186, e_129_90, e_143_0, e_143_6, e_144_0, e_144_11, e_144_20, e_144_33, e_144_39, e_144_56, e_144_47, e_145_0, e_145_6_0, e_145_6_1, e_145_6_2, e_145_6_3, e_145_12_0, e_145_12_1, e_145_12_2, e_145_12_3, e_145_31_0, e_145_25, e_145_31_1, e_145_31_2, e_145_31_3, e_145_52, e_145_40, e_145_43, e_146_0, e_146_6_0, e_146_6_1, e_146_6_2, e_146_6_3, e_146_12_0, e_146_12_1, e_146_12_2, e_146_12_3, e_146_32_0, e_146_25, e_146_32_1, e_146_32_2, e_146_32_3, e_146_49, e_146_57, e_146_60, e_147_0, e_147_11, e_147_19, e_147_32, e_147_38, e_147_55, e_147_46, s_133, s_234, s_has_8, s_get_8, s_39, e_131_0, e_132_0, w_ix0, w_iy0, hs, e_77_0_0, e_78_0_0, e_78_4_0, e_79_0_0, e_80_0_0, e_81_0_0, e_81_5_0, Option.bind_some, Int.add_zero, z_wid, or_true, true_or, z_up_fn, z_up_ni, z_up_eq, z_up_qi, z_rw_fn, z_rw_in, z_rw_out, if_pos, if_neg, ↓reduceIte]
        exact w_ret rfl
      · intro k hk
        simp (disch := omega) only [z_up_fn, z_rw_fn]
      · intro τ hτ
        simp (disch := first | omega | (simp (disch := omega) only [hτ] <;> omega) | fail) only [e_231_0, e_231_7, e_231_37, e_231_18, e_231_29, e_231_44, e_231_115, e_231_99, e_231_152, e_231_160, e_231_168, e_231_179, e_231_233, e_231_242, e_231_197, e_231_253, e_231_265, e_231_271, e_231_118, e_231_141, e_231_171, e_231_182, e_231_280, e_231_288, e_231_132, e_229_0, e_229_42, e_229_73, e_229_25, e_229_113, e_230_0, e_230_43, e_230_57, e_230_26, e_230_84, e_230_75, s_149, s_228, s_168, e_150_0, e_151_0, Int.reduceMul, Int.reduceAdd, Int.zero_add, ite_self, hs, ite_self, hτ, Option.bind_some, Int.add_zero, z_wid, or_true, true_or, z_up_fn, z_up_ni, z_up_eq, z_up_qi, z_rw_fn, z_rw_in, z_rw_out, if_pos, if_neg, ↓reduceIte]
        exact w_ret rfl
      · exact w_ref h 1
  · apply zOK_mk2
    · simp (disch := first | omega | (simp (disch := omega) only [z_up_fn, z_up_ni, z_up_eq, z_up_qi, z_rw_fn] <;> omega) | fail) only [ite_self, Int.reduceAdd, e_129_0, e_129_8, e_129_16, e_129_25, e_129_33, e_129_81, e_129_101, e_129_109, e_129_116, e_129_127, e_129_137, e_129_151, e_129_163, e_129_169, e_129_192, e_129_87, e_129_120, e_129_131, e_129_140, e_129_178, e_129_186, e_129_90, e_143_0, e_143_6, e_144_0, e_144_11, e_144_20, e_144_33, e_144_39, e_144_56, e_144_47, e_145_0, e_145_6_0, e_145_6_1, e_145_6_2, e_145_6_3, e_145_12_0, e_145_12_1, e_145_12_2, e_145_12_3, e_145_31_0, e_145_25, e_145_31_1, e_145_31_2, e_145_31_3, e_145_52, e_145_40, e_145_43, e_146_0, e_146_6_0, e_146_6_1, e_146_6_2, e_146_6_3, e_146_12_0, e_146_12_1, e_146_12_2, e_146_12_3, e_146_32_0, e_146_25, e_146_32_1, e_146_32_2, e_146_32_3, e_146_49, e_146_57, e_146_60, e_147_0, e_147_11, e_147_19, e_147_32, e_147_38, e_147_55, e_147_46, s_133, s_234, s_has_8, s_get_8, s_39, e_131_0, e_132_0, w_ix0, w_iy0, hs, e_77_0_0, e_78_0_0, e_78_4_0, e_79_0_0, e_80_0_0, e_81_0_0, e_81_5_0, Option.bind_some, Int.add_zero, z_wid, or_true, true_or, z_up_fn, z_up_ni, z_up_eq, z_up_qi, z_rw_fn, z_rw_in, z_rw_out, if_pos, if_neg, ↓reduceIte]
      exact w_ret rfl
    · intro k hk
      simp (disch := omega) only [z_up_fn, z_rw_fn]
    · intro τ hτ
      simp (disch := first | omega | (simp (disch := omega) only [hτ] <;> omega) | fail) only [e_231_0, e_231_7, e_231_37, e_231_18, e_231_29, e_231_44, e_231_115, e_231_99, e_231_152, e_231_160, e_231_168, e_231_179, e_231_233, e_231_242, e_231_197, e_231_253, e_231_265, e_231_271, e_231_118, e_231_141, e_231_171, e_231_182, e_231_280, e_231_288, e_231_132, e_229_0, e_229_42, e_229_73, e_229_25, e_229_113, e_230_0, e_230_43, e_230_57, e_230_26, e_230_84, e_230_75, s_149, s_228, s_168, e_150_0, e_151_0, Int.reduceMul, Int.reduceAdd, Int.zero_add, ite_self, hs, ite_self, hτ, Option.bind_some, Int.add_zero, z_wid, or_true, true_or, z_up_fn, z_up_ni, z_up_eq, z_up_qi, z_rw_fn, z_rw_in, z_rw_out, if_pos, if_neg, ↓reduceIte]
      exact w_ret rfl
    · exact w_ref h 1
theorem o_forge2s1 (d : Nat) (s : Int → Int) (L : Int) (σ : Nat → Int → Int) (h : zV s L σ) (x2 x3 : Int) (hs : x3 % 4 = 1) : zOK s L (d + 9) 129 231 [some (.inl 2), some (.inl x2), some (.inl x3)] [some (.inl 2), some (.inl x2), some (.inl x3), none] σ := by
  have hX := zV_X1 h
  have hX1 := hX.1
  have hX2 := hX.2.1
  have hX3 := hX.2.2.1
  have hX4 := hX.2.2.2.1
  have hX5 := hX.2.2.2.2.1
  have hX6 := hX.2.2.2.2.2.1
  have n0 : 0 ≤ x2 → x2 < σ 65 2 → σ 122 (40 + x2) = σ 66 x2 := by
    intro p q
    have g := (hX.2.2.2.2.2.2 x2 (by omega) (by omega)).1
    rw [show (40 * 1 + x2 : Int) = 40 + x2 by omega] at g
    exact g.symm
  by_cases c1 : -100 ≤ x2 ∧ x2 ≤ 100
  · by_cases c2 : -100 ≤ x3 ∧ x3 ≤ 100
    · by_cases c3 : ¬ σ 65 1 = -1
      · by_cases c4 : σ 65 1 = 1
        · by_cases c5 : 0 ≤ x2 ∧ x2 < σ 65 2
          · apply zOK_mk2
            · simp (disch := first | omega | (simp (disch := omega) only [z_up_fn, z_up_ni, z_up_eq, z_up_qi, z_rw_fn] <;> omega) | fail) only [ite_self, Int.reduceAdd, e_129_0, e_129_8, e_129_16, e_129_25, e_129_33, e_129_81, e_129_101, e_129_109, e_129_116, e_129_127, e_129_137, e_129_151, e_129_163, e_129_169, e_129_192, e_129_87, e_129_120, e_129_131, e_129_140, e_129_178, e_129_186, e_129_90, e_143_0, e_143_6, e_144_0, e_144_11, e_144_20, e_144_33, e_144_39, e_144_56, e_144_47, e_145_0, e_145_6_0, e_145_6_1, e_145_6_2, e_145_6_3, e_145_12_0, e_145_12_1, e_145_12_2, e_145_12_3, e_145_31_0, e_145_25, e_145_31_1, e_145_31_2, e_145_31_3, e_145_52, e_145_40, e_145_43, e_146_0, e_146_6_0, e_146_6_1, e_146_6_2, e_146_6_3, e_146_12_0, e_146_12_1, e_146_12_2, e_146_12_3, e_146_32_0, e_146_25, e_146_32_1, e_146_32_2, e_146_32_3, e_146_49, e_146_57, e_146_60, e_147_0, e_147_11, e_147_19, e_147_32, e_147_38, e_147_55, e_147_46, s_133, s_234, s_has_8, s_get_8, s_39, e_131_0, e_132_0, w_ix1, w_iy1, hs, e_77_0_1, e_78_0_1, e_78_4_1, e_79_0_1, e_80_0_1, e_81_0_1, e_81_5_1, Option.bind_some, Int.add_zero, z_wid, or_true, true_or, z_up_fn, z_up_ni, z_up_eq, z_up_qi, z_rw_fn, z_rw_in, z_rw_out, if_pos, if_neg, ↓reduceIte]
              exact w_ret rfl
            · intro k hk
              simp (disch := omega) only [z_up_fn, z_rw_fn]
            · intro τ hτ
              simp (disch := first | omega | (simp (disch := omega) only [hτ] <;> omega) | fail) only [e_231_0, e_231_7, e_231_37, e_231_18, e_231_29, e_231_44, e_231_115, e_231_99, e_231_152, e_231_160, e_231_168, e_231_179, e_231_233, e_231_242, e_231_197, e_231_253, e_231_265, e_231_271, e_231_118, e_231_141, e_231_171, e_231_182, e_231_280, e_231_288, e_231_132, e_229_0, e_229_42, e_229_73, e_229_25, e_229_113, e_230_0, e_230_43, e_230_57, e_230_26, e_230_84, e_230_75, s_149, s_228, s_168, e_150_0, e_151_0, Int.reduceMul, Int.reduceAdd, Int.zero_add, ite_self, hs, n0, hτ, Option.bind_some, Int.add_zero, z_wid, or_true, true_or, z_up_fn, z_up_ni, z_up_eq, z_up_qi, z_rw_fn, z_rw_in, z_rw_out, if_pos, if_neg, ↓reduceIte]
              exact w_ret (by omega)
            · skip
              exact w_ref h 0
          · apply zOK_mk2
            · simp (disch := first | omega | (simp (disch := omega) only [z_up_fn, z_up_ni, z_up_eq, z_up_qi, z_rw_fn] <;> omega) | fail) only [ite_self, Int.reduceAdd, e_129_0, e_129_8, e_129_16, e_129_25, e_129_33, e_129_81, e_129_101, e_129_109, e_129_116, e_129_127, e_129_137, e_129_151, e_129_163, e_129_169, e_129_192, e_129_87, e_129_120, e_129_131, e_129_140, e_129_178, e_129_186, e_129_90, e_143_0, e_143_6, e_144_0, e_144_11, e_144_20, e_144_33, e_144_39, e_144_56, e_144_47, e_145_0, e_145_6_0, e_145_6_1, e_145_6_2, e_145_6_3, e_145_12_0, e_145_12_1, e_145_12_2, e_145_12_3, e_145_31_0, e_145_25, e_145_31_1, e_145_31_2, e_145_31_3, e_145_52, e_145_40, e_145_43, e_146_0, e_146_6_0, e_146_6_1, e_146_6_2, e_146_6_3, e_146_12_0, e_146_12_1, e_146_12_2, e_146_12_3, e_146_32_0, e_146_25, e_146_32_1, e_146_32_2, e_146_32_3, e_146_49, e_146_57, e_146_60, e_147_0, e_147_11, e_147_19, e_147_32, e_147_38, e_147_55, e_147_46, s_133, s_234, s_has_8, s_get_8, s_39, e_131_0, e_132_0, w_ix1, w_iy1, hs, e_77_0_1, e_78_0_1, e_78_4_1, e_79_0_1, e_80_0_1, e_81_0_1, e_81_5_1, Option.bind_some, Int.add_zero, z_wid, or_true, true_or, z_up_fn, z_up_ni, z_up_eq, z_up_qi, z_rw_fn, z_rw_in, z_rw_out, if_pos, if_neg, ↓reduceIte]
              exact w_ret rfl
            · intro k hk
              simp (disch := omega) only [z_up_fn, z_rw_fn]
            · intro τ hτ
              simp (disch := first | omega | (simp (disch := omega) only [hτ] <;> omega) | fail) only [e_231_0, e_231_7, e_231_37, e_231_18, e_231_29, e_231_44, e_231_115, e_231_99, e_231_152, e_231_160, e_231_168, e_231_179, e_231_233, e_231_242, e_231_197, e_231_253, e_231_265, e_231_271, e_231_118, e_231_141, e_231_171, e_231_182, e_231_280, e_231_288, e_231_132, e_229_0, e_229_42, e_229_73, e_229_25, e_229_113, e_230_0, e_230_43, e_230_57, e_230_26, e_230_84, e_230_75, s_149, s_228, s_168, e_150_0, e_151_0, Int.reduceMul, Int.reduceAdd, Int.zero_add, ite_self, hs, n0, hτ, Option.bind_some, Int.add_zero, z_wid, or_true, true_or, z_up_fn, z_up_ni, z_up_eq, z_up_qi, z_rw_fn, z_rw_in, z_rw_out, if_pos, if_neg, ↓reduceIte]
              exact w_ret rfl
            · exact w_ref h 12
        · apply zOK_mk2
          · simp (disch := first | omega | (simp (disch := omega) only [z_up_fn, z_up_ni, z_up_eq, z_up_qi, z_rw_fn] <;> omega) | fail) only [ite_self, Int.reduceAdd, e_129_0, e_129_8, e_129_16, e_129_25, e_129_33, e_129_81, e_129_101, e_129_109, e_129_116, e_129_127, e_129_137, e_129_151, e_129_163, e_129_169, e_129_192, e_129_87, e_129_120, e_129_131, e_129_140, e_129_178, e_129_186, e_129_90, e_143_0, e_143_6, e_144_0, e_144_11, e_144_20, e_144_33, e_144_39, e_144_56, e_144_47, e_145_0, e_145_6_0, e_145_6_1, e_145_6_2, e_145_6_3, e_145_12_0, e_145_12_1, e_145_12_2, e_145_12_3, e_145_31_0, e_145_25, e_145_31_1, e_145_31_2, e_145_31_3, e_145_52, e_145_40, e_145_43, e_146_0, e_146_6_0, e_146_6_1, e_146_6_2, e_146_6_3, e_146_12_0, e_146_12_1, e_146_12_2, e_146_12_3, e_146_32_0, e_146_25, e_146_32_1, e_146_32_2, e_146_32_3, e_146_49, e_146_57, e_146_60, e_147_0, e_147_11, e_147_19, e_147_32, e_147_38, e_147_55, e_147_46, s_133, s_234, s_has_8, s_get_8, s_39, e_131_0, e_132_0, w_ix1, w_iy1, hs, e_77_0_1, e_78_0_1, e_78_4_1, e_79_0_1, e_80_0_1, e_81_0_1, e_81_5_1, Option.bind_some, Int.add_zero, z_wid, or_true, true_or, z_up_fn, z_up_ni, z_up_eq, z_up_qi, z_rw_fn, z_rw_in, z_rw_out, if_pos, if_neg, ↓reduceIte]
            exact w_ret rfl
          · intro k hk
            simp (disch := omega) only [z_up_fn, z_rw_fn]
          · intro τ hτ
            simp (disch := first | omega | (simp (disch := omega) only [hτ] <;> omega) | fail) only [e_231_0, e_231_7, e_231_37, e_231_18, e_231_29, e_231_44, e_231_115, e_231_99, e_231_152, e_231_160, e_231_168, e_231_179, e_231_233, e_231_242, e_231_197, e_231_253, e_231_265, e_231_271, e_231_118, e_231_141, e_231_171, e_231_182, e_231_280, e_231_288, e_231_132, e_229_0, e_229_42, e_229_73, e_229_25, e_229_113, e_230_0, e_230_43, e_230_57, e_230_26, e_230_84, e_230_75, s_149, s_228, s_168, e_150_0, e_151_0, Int.reduceMul, Int.reduceAdd, Int.zero_add, ite_self, hs, n0, hτ, Option.bind_some, Int.add_zero, z_wid, or_true, true_or, z_up_fn, z_up_ni, z_up_eq, z_up_qi, z_rw_fn, z_rw_in, z_rw_out, if_pos, if_neg, ↓reduceIte]
            exact w_ret rfl
          · exact w_ref h 11
      · apply zOK_mk2
        · simp (disch := first | omega | (simp (disch := omega) only [z_up_fn, z_up_ni, z_up_eq, z_up_qi, z_rw_fn] <;> omega) | fail) only [ite_self, Int.reduceAdd, e_129_0, e_129_8, e_129_16, e_129_25, e_129_33, e_129_81, e_129_101, e_129_109, e_129_116, e_129_127, e_129_137, e_129_151, e_129_163, e_129_169, e_129_192, e_129_87, e_129_120, e_129_131, e_129_140, e_129_178, e_129_186, e_129_90, e_143_0, e_143_6, e_144_0, e_144_11, e_144_20, e_144_33, e_144_39, e_144_56, e_144_47, e_145_0, e_145_6_0, e_145_6_1, e_145_6_2, e_145_6_3, e_145_12_0, e_145_12_1, e_145_12_2, e_145_12_3, e_145_31_0, e_145_25, e_145_31_1, e_145_31_2, e_145_31_3, e_145_52, e_145_40, e_145_43, e_146_0, e_146_6_0, e_146_6_1, e_146_6_2, e_146_6_3, e_146_12_0, e_146_12_1, e_146_12_2, e_146_12_3, e_146_32_0, e_146_25, e_146_32_1, e_146_32_2, e_146_32_3, e_146_49, e_146_57, e_146_60, e_147_0, e_147_11, e_147_19, e_147_32, e_147_38, e_147_55, e_147_46, s_133, s_234, s_has_8, s_get_8, s_39, e_131_0, e_132_0, w_ix1, w_iy1, hs, e_77_0_1, e_78_0_1, e_78_4_1, e_79_0_1, e_80_0_1, e_81_0_1, e_81_5_1, Option.bind_some, Int.add_zero, z_wid, or_true, true_or, z_up_fn, z_up_ni, z_up_eq, z_up_qi, z_rw_fn, z_rw_in, z_rw_out, if_pos, if_neg, ↓reduceIte]
          exact w_ret rfl
        · intro k hk
          simp (disch := omega) only [z_up_fn, z_rw_fn]
        · intro τ hτ
          simp (disch := first | omega | (simp (disch := omega) only [hτ] <;> omega) | fail) only [e_231_0, e_231_7, e_231_37, e_231_18, e_231_29, e_231_44, e_231_115, e_231_99, e_231_152, e_231_160, e_231_168, e_231_179, e_231_233, e_231_242, e_231_197, e_231_253, e_231_265, e_231_271, e_231_118, e_231_141, e_231_171, e_231_182, e_231_280, e_231_288, e_231_132, e_229_0, e_229_42, e_229_73, e_229_25, e_229_113, e_230_0, e_230_43, e_230_57, e_230_26, e_230_84, e_230_75, s_149, s_228, s_168, e_150_0, e_151_0, Int.reduceMul, Int.reduceAdd, Int.zero_add, ite_self, hs, n0, hτ, Option.bind_some, Int.add_zero, z_wid, or_true, true_or, z_up_fn, z_up_ni, z_up_eq, z_up_qi, z_rw_fn, z_rw_in, z_rw_out, if_pos, if_neg, ↓reduceIte]
          exact w_ret rfl
        · exact w_ref h 10
    · apply zOK_mk2
      · simp (disch := first | omega | (simp (disch := omega) only [z_up_fn, z_up_ni, z_up_eq, z_up_qi, z_rw_fn] <;> omega) | fail) only [ite_self, Int.reduceAdd, e_129_0, e_129_8, e_129_16, e_129_25, e_129_33, e_129_81, e_129_101, e_129_109, e_129_116, e_129_127, e_129_137, e_129_151, e_129_163, e_129_169, e_129_192, e_129_87, e_129_120, e_129_131, e_129_140, e_129_178, e_129_186, e_129_90, e_143_0, e_143_6, e_144_0, e_144_11, e_144_20, e_144_33, e_144_39, e_144_56, e_144_47, e_145_0, e_145_6_0, e_145_6_1, e_145_6_2, e_145_6_3, e_145_12_0, e_145_12_1, e_145_12_2, e_145_12_3, e_145_31_0, e_145_25, e_145_31_1, e_145_31_2, e_145_31_3, e_145_52, e_145_40, e_145_43, e_146_0, e_146_6_0, e_146_6_1, e_146_6_2, e_146_6_3, e_146_12_0, e_146_12_1, e_146_12_2, e_146_12_3, e_146_32_0, e_146_25, e_146_32_1, e_146_32_2, e_146_32_3, e_146_49, e_146_57, e_146_60, e_147_0, e_147_11, e_147_19, e_147_32, e_147_38, e_147_55, e_147_46, s_133, s_234, s_has_8, s_get_8, s_39, e_131_0, e_132_0, w_ix1, w_iy1, hs, e_77_0_1, e_78_0_1, e_78_4_1, e_79_0_1, e_80_0_1, e_81_0_1, e_81_5_1, Option.bind_some, Int.add_zero, z_wid, or_true, true_or, z_up_fn, z_up_ni, z_up_eq, z_up_qi, z_rw_fn, z_rw_in, z_rw_out, if_pos, if_neg, ↓reduceIte]
        exact w_ret rfl
      · intro k hk
        simp (disch := omega) only [z_up_fn, z_rw_fn]
      · intro τ hτ
        simp (disch := first | omega | (simp (disch := omega) only [hτ] <;> omega) | fail) only [e_231_0, e_231_7, e_231_37, e_231_18, e_231_29, e_231_44, e_231_115, e_231_99, e_231_152, e_231_160, e_231_168, e_231_179, e_231_233, e_231_242, e_231_197, e_231_253, e_231_265, e_231_271, e_231_118, e_231_141, e_231_171, e_231_182, e_231_280, e_231_288, e_231_132, e_229_0, e_229_42, e_229_73, e_229_25, e_229_113, e_230_0, e_230_43, e_230_57, e_230_26, e_230_84, e_230_75, s_149, s_228, s_168, e_150_0, e_151_0, Int.reduceMul, Int.reduceAdd, Int.zero_add, ite_self, hs, n0, hτ, Option.bind_some, Int.add_zero, z_wid, or_true, true_or, z_up_fn, z_up_ni, z_up_eq, z_up_qi, z_rw_fn, z_rw_in, z_rw_out, if_pos, if_neg, ↓reduceIte]
        exact w_ret rfl
      · exact w_ref h 1
  · apply zOK_mk2
    · simp (disch := first | omega | (simp (disch := omega) only [z_up_fn, z_up_ni, z_up_eq, z_up_qi, z_rw_fn] <;> omega) | fail) only [ite_self, Int.reduceAdd, e_129_0, e_129_8, e_129_16, e_129_25, e_129_33, e_129_81, e_129_101, e_129_109, e_129_116, e_129_127, e_129_137, e_129_151, e_129_163, e_129_169, e_129_192, e_129_87, e_129_120, e_129_131, e_129_140, e_129_178, e_129_186, e_129_90, e_143_0, e_143_6, e_144_0, e_144_11, e_144_20, e_144_33, e_144_39, e_144_56, e_144_47, e_145_0, e_145_6_0, e_145_6_1, e_145_6_2, e_145_6_3, e_145_12_0, e_145_12_1, e_145_12_2, e_145_12_3, e_145_31_0, e_145_25, e_145_31_1, e_145_31_2, e_145_31_3, e_145_52, e_145_40, e_145_43, e_146_0, e_146_6_0, e_146_6_1, e_146_6_2, e_146_6_3, e_146_12_0, e_146_12_1, e_146_12_2, e_146_12_3, e_146_32_0, e_146_25, e_146_32_1, e_146_32_2, e_146_32_3, e_146_49, e_146_57, e_146_60, e_147_0, e_147_11, e_147_19, e_147_32, e_147_38, e_147_55, e_147_46, s_133, s_234, s_has_8, s_get_8, s_39, e_131_0, e_132_0, w_ix1, w_iy1, hs, e_77_0_1, e_78_0_1, e_78_4_1, e_79_0_1, e_80_0_1, e_81_0_1, e_81_5_1, Option.bind_some, Int.add_zero, z_wid, or_true, true_or, z_up_fn, z_up_ni, z_up_eq, z_up_qi, z_rw_fn, z_rw_in, z_rw_out, if_pos, if_neg, ↓reduceIte]
      exact w_ret rfl
    · intro k hk
      simp (disch := omega) only [z_up_fn, z_rw_fn]
    · intro τ hτ
      simp (disch := first | omega | (simp (disch := omega) only [hτ] <;> omega) | fail) only [e_231_0, e_231_7, e_231_37, e_231_18, e_231_29, e_231_44, e_231_115, e_231_99, e_231_152, e_231_160, e_231_168, e_231_179, e_231_233, e_231_242, e_231_197, e_231_253, e_231_265, e_231_271, e_231_118, e_231_141, e_231_171, e_231_182, e_231_280, e_231_288, e_231_132, e_229_0, e_229_42, e_229_73, e_229_25, e_229_113, e_230_0, e_230_43, e_230_57, e_230_26, e_230_84, e_230_75, s_149, s_228, s_168, e_150_0, e_151_0, Int.reduceMul, Int.reduceAdd, Int.zero_add, ite_self, hs, n0, hτ, Option.bind_some, Int.add_zero, z_wid, or_true, true_or, z_up_fn, z_up_ni, z_up_eq, z_up_qi, z_rw_fn, z_rw_in, z_rw_out, if_pos, if_neg, ↓reduceIte]
      exact w_ret rfl
    · exact w_ref h 1
theorem o_forge3s1n0 (d : Nat) (s : Int → Int) (L : Int) (σ : Nat → Int → Int) (h : zV s L σ) (x3 : Int) (hs : x3 % 4 = 1) : zOK s L (d + 9) 129 231 [some (.inl 3), some (.inl 0), some (.inl x3)] [some (.inl 3), some (.inl 0), some (.inl x3), none] σ := by
  have hX := zV_X1 h
  have hX1 := hX.1
  have hX2 := hX.2.1
  have hX3 := hX.2.2.1
  have hX4 := hX.2.2.2.1
  have hX5 := hX.2.2.2.2.1
  have hX6 := hX.2.2.2.2.2.1
  by_cases c1 : -100 ≤ x3 ∧ x3 ≤ 100
  · by_cases c2 : ¬ σ 65 1 = -1
    · by_cases c3 : σ 65 1 = 0
      · by_cases c4 : 1 ≤ σ 65 2
        · apply zOK_mk2
          · simp (disch := first | omega | (simp (disch := omega) only [z_up_fn, z_up_ni, z_up_eq, z_up_qi, z_rw_fn] <;> omega) | fail) only [ite_self, Int.reduceAdd, e_129_0, e_129_8, e_129_16, e_129_25, e_129_33, e_129_81, e_129_101, e_129_109, e_129_116, e_129_127, e_129_137, e_129_151, e_129_163, e_129_169, e_129_192, e_129_87, e_129_120, e_129_131, e_129_140, e_129_178, e_129_186, e_129_90, e_143_0, e_143_6, e_144_0, e_144_11, e_144_20, e_144_33, e_144_39, e_144_56, e_144_47, e_145_0, e_145_6_0, e_145_6_1, e_145_6_2, e_145_6_3, e_145_12_0, e_145_12_1, e_145_12_2, e_145_12_3, e_145_31_0, e_145_25, e_145_31_1, e_145_31_2, e_145_31_3, e_145_52, e_145_40, e_145_43, e_146_0, e_146_6_0, e_146_6_1, e_146_6_2, e_146_6_3, e_146_12_0, e_146_12_1, e_146_12_2, e_146_12_3, e_146_32_0, e_146_25, e_146_32_1, e_146_32_2, e_146_32_3, e_146_49, e_146_57, e_146_60, e_147_0, e_147_11, e_147_19, e_147_32, e_147_38, e_147_55, e_147_46, s_133, s_234, s_has_8, s_get_8, s_39, e_131_0, e_132_0, w_ix1, w_iy1, hs, e_77_0_1, e_78_0_1, e_78_4_1, e_79_0_1, e_80_0_1, e_81_0_1, e_81_5_1, e_83_0_1, e_83_5_1, e_83_27_1, Int.reduceLT, Int.reduceLE, and_self, and_true, true_and, Option.bind_some, Int.add_zero, z_wid, or_true, true_or, z_up_fn, z_up_ni, z_up_eq, z_up_qi, z_rw_fn, z_rw_in, z_rw_out, if_pos, if_neg, ↓reduceIte]
            exact w_ret rfl
          · intro k hk
            simp (disch := omega) only [z_up_fn, z_rw_fn]
          · intro τ hτ
            simp (disch := first | omega | (simp (disch := omega) only [hτ] <;> omega) | fail) only [e_231_0, e_231_7, e_231_37, e_231_18, e_231_29, e_231_44, e_231_115, e_231_99, e_231_152, e_231_160, e_231_168, e_231_179, e_231_233, e_231_242, e_231_197, e_231_253, e_231_265, e_231_271, e_231_118, e_231_141, e_231_171, e_231_182, e_231_280, e_231_288, e_231_132, e_229_0, e_229_42, e_229_73, e_229_25, e_229_113, e_230_0, e_230_43, e_230_57, e_230_26, e_230_84, e_230_75, s_149, s_228, s_168, e_150_0, e_151_0, Int.reduceMul, Int.reduceAdd, Int.zero_add, ite_self, hs, e_229_0, e_229_42, e_229_73, e_229_79, e_229_25, e_229_113, Int.reduceLT, Int.reduceLE, and_self, and_true, true_and, hτ, Option.bind_some, Int.add_zero, z_wid, or_true, true_or, z_up_fn, z_up_ni, z_up_eq, z_up_qi, z_rw_fn, z_rw_in, z_rw_out, if_pos, if_neg, ↓reduceIte]
            exact w_ret rfl
          · skip
            exact w_ref h 0
        · apply zOK_mk2
          · simp (disch := first | omega | (simp (disch := omega) only [z_up_fn, z_up_ni, z_up_eq, z_up_qi, z_rw_fn] <;> omega) | fail) only [ite_self, Int.reduceAdd, e_129_0, e_129_8, e_129_16, e_129_25, e_129_33, e_129_81, e_129_101, e_129_109, e_129_116, e_129_127, e_129_137, e_129_151, e_129_163, e_129_169, e_129_192, e_129_87, e_129_120, e_129_131, e_129_140, e_129_178, e_129_186, e_129_90, e_143_0, e_143_6, e_144_0, e_144_11, e_144_20, e_144_33, e_144_39, e_144_56, e_144_47, e_145_0, e_145_6_0, e_145_6_1, e_145_6_2, e_145_6_3, e_145_12_0, e_145_12_1, e_145_12_2, e_145_12_3, e_145_31_0, e_145_25, e_145_31_1, e_145_31_2, e_145_31_3, e_145_52, e_145_40, e_145_43, e_146_0, e_146_6_0, e_146_6_1, e_146_6_2, e_146_6_3, e_146_12_0, e_146_12_1, e_146_12_2, e_146_12_3, e_146_32_0, e_146_25, e_146_32_1, e_146_32_2, e_146_32_3, e_146_49, e_146_57, e_146_60, e_147_0, e_147_11, e_147_19, e_147_32, e_147_38, e_147_55, e_147_46, s_133, s_234, s_has_8, s_get_8, s_39, e_131_0, e_132_0, w_ix1, w_iy1, hs, e_77_0_1, e_78_0_1, e_78_4_1, e_79_0_1, e_80_0_1, e_81_0_1, e_81_5_1, e_83_0_1, e_83_5_1, e_83_27_1, Int.reduceLT, Int.reduceLE, and_self, and_true, true_and, Option.bind_some, Int.add_zero, z_wid, or_true, true_or, z_up_fn, z_up_ni, z_up_eq, z_up_qi, z_rw_fn, z_rw_in, z_rw_out, if_pos, if_neg, ↓reduceIte]
            exact w_ret rfl
          · intro k hk
            simp (disch := omega) only [z_up_fn, z_rw_fn]
          · intro τ hτ
            simp (disch := first | omega | (simp (disch := omega) only [hτ] <;> omega) | fail) only [e_231_0, e_231_7, e_231_37, e_231_18, e_231_29, e_231_44, e_231_115, e_231_99, e_231_152, e_231_160, e_231_168, e_231_179, e_231_233, e_231_242, e_231_197, e_231_253, e_231_265, e_231_271, e_231_118, e_231_141, e_231_171, e_231_182, e_231_280, e_231_288, e_231_132, e_229_0, e_229_42, e_229_73, e_229_25, e_229_113, e_230_0, e_230_43, e_230_57, e_230_26, e_230_84, e_230_75, s_149, s_228, s_168, e_150_0, e_151_0, Int.reduceMul, Int.reduceAdd, Int.zero_add, ite_self, hs, e_229_0, e_229_42, e_229_73, e_229_79, e_229_25, e_229_113, Int.reduceLT, Int.reduceLE, and_self, and_true, true_and, hτ, Option.bind_some, Int.add_zero, z_wid, or_true, true_or, z_up_fn, z_up_ni, z_up_eq, z_up_qi, z_rw_fn, z_rw_in, z_rw_out, if_pos, if_neg, ↓reduceIte]
            exact w_ret rfl
          · exact w_ref h 12
      · apply zOK_mk2
        · simp (disch := first | omega | (simp (disch := omega) only [z_up_fn, z_up_ni, z_up_eq, z_up_qi, z_rw_fn] <;> omega) | fail) only [ite_self, Int.reduceAdd, e_129_0, e_129_8, e_129_16, e_129_25, e_129_33, e_129_81, e_129_101, e_129_109, e_129_116, e_129_127, e_129_137, e_129_151, e_129_163, e_129_169, e_129_192, e_129_87, e_129_120, e_129_131, e_129_140, e_129_178, e_129_186, e_129_90, e_143_0, e_143_6, e_144_0, e_144_11, e_144_20, e_144_33, e_144_39, e_144_56, e_144_47, e_145_0, e_145_6_0, e_145_6_1, e_145_6_2, e_145_6_3, e_145_12_0, e_145_12_1, e_145_12_2, e_145_12_3, e_145_31_0, e_145_25, e_145_31_1, e_145_31_2, e_145_31_3, e_145_52, e_145_40, e_145_43, e_146_0, e_146_6_0, e_146_6_1, e_146_6_2, e_146_6_3, e_146_12_0, e_146_12_1, e_146_12_2, e_146_12_3, e_146_32_0, e_146_25, e_146_32_1, e_146_32_2, e_146_32_3, e_146_49, e_146_57, e_146_60, e_147_0, e_147_11, e_147_19, e_147_32, e_147_38, e_147_55, e_147_46, s_133, s_234, s_has_8, s_get_8, s_39, e_131_0, e_132_0, w_ix1, w_iy1, hs, e_77_0_1, e_78_0_1, e_78_4_1, e_79_0_1, e_80_0_1, e_81_0_1, e_81_5_1, e_83_0_1, e_83_5_1, e_83_27_1, Int.reduceLT, Int.reduceLE, and_self, and_true, true_and, Option.bind_some, Int.add_zero, z_wid, or_true, true_or, z_up_fn, z_up_ni, z_up_eq, z_up_qi, z_rw_fn, z_rw_in, z_rw_out, if_pos, if_neg, ↓reduceIte]
          exact w_ret rfl
        · intro k hk
          simp (disch := omega) only [z_up_fn, z_rw_fn]
        · intro τ hτ
          simp (disch := first | omega | (simp (disch := omega) only [hτ] <;> omega) | fail) only [e_231_0, e_231_7, e_231_37, e_231_18, e_231_29, e_231_44, e_231_115, e_231_99, e_231_152, e_231_160, e_231_168, e_231_179, e_231_233, e_231_242, e_231_197, e_231_253, e_231_265, e_231_271, e_231_118, e_231_141, e_231_171, e_231_182, e_231_280, e_231_288, e_231_132, e_229_0, e_229_42, e_229_73, e_229_25, e_229_113, e_230_0, e_230_43, e_230_57, e_230_26, e_230_84, e_230_75, s_149, s_228, s_168, e_150_0, e_151_0, Int.reduceMul, Int.reduceAdd, Int.zero_add, ite_self, hs, e_229_0, e_229_42, e_229_73, e_229_79, e_229_25, e_229_113, Int.reduceLT, Int.reduceLE, and_self, and_true, true_and, hτ, Option.bind_some, Int.add_zero, z_wid, or_true, true_or, z_up_fn, z_up_ni, z_up_eq, z_up_qi, z_rw_fn, z_rw_in, z_rw_out, if_pos, if_neg, ↓reduceIte]
          exact w_ret rfl
        · exact w_ref h 11
    · apply zOK_mk2
      · simp (disch := first | omega | (simp (disch := omega) only [z_up_fn, z_up_ni, z_up_eq, z_up_qi, z_rw_fn] <;> omega) | fail) only [ite_self, Int.reduceAdd, e_129_0, e_129_8, e_129_16, e_129_25, e_129_33, e_129_81, e_129_101, e_129_109, e_129_116, e_129_127, e_129_137, e_129_151, e_129_163, e_129_169, e_129_192, e_129_87, e_129_120, e_129_131, e_129_140, e_129_178, e_129_186, e_129_90, e_143_0, e_143_6, e_144_0, e_144_11, e_144_20, e_144_33, e_144_39, e_144_56, e_144_47, e_145_0, e_145_6_0, e_145_6_1, e_145_6_2, e_145_6_3, e_145_12_0, e_145_12_1, e_145_12_2, e_145_12_3, e_145_31_0, e_145_25, e_145_31_1, e_145_31_2, e_145_31_3, e_145_52, e_145_40, e_145_43, e_146_0, e_146_6_0, e_146_6_1, e_146_6_2, e_146_6_3, e_146_12_0, e_146_12_1, e_146_12_2, e_146_12_3, e_146_32_0, e_146_25, e_146_32_1, e_146_32_2, e_146_32_3, e_146_49, e_146_57, e_146_60, e_147_0, e_147_11, e_147_19, e_147_32, e_147_38, e_147_55, e_147_46, s_133, s_234, s_has_8, s_get_8, s_39, e_131_0, e_132_0, w_ix1, w_iy1, hs, e_77_0_1, e_78_0_1, e_78_4_1, e_79_0_1, e_80_0_1, e_81_0_1, e_81_5_1, e_83_0_1, e_83_5_1, e_83_27_1, Int.reduceLT, Int.reduceLE, and_self, and_true, true_and, Option.bind_some, Int.add_zero, z_wid, or_true, true_or, z_up_fn, z_up_ni, z_up_eq, z_up_qi, z_rw_fn, z_rw_in, z_rw_out, if_pos, if_neg, ↓reduceIte]
        exact w_ret rfl
      · intro k hk
        simp (disch := omega) only [z_up_fn, z_rw_fn]
      · intro τ hτ
        simp (disch := first | omega | (simp (disch := omega) only [hτ] <;> omega) | fail) only [e_231_0, e_231_7, e_231_37, e_231_18, e_231_29, e_231_44, e_231_115, e_231_99, e_231_152, e_231_160, e_231_168, e_231_179, e_231_233, e_231_242, e_231_197, e_231_253, e_231_265, e_231_271, e_231_118, e_231_141, e_231_171, e_231_182, e_231_280, e_231_288, e_231_132, e_229_0, e_229_42, e_229_73, e_229_25, e_229_113, e_230_0, e_230_43, e_230_57, e_230_26, e_230_84, e_230_75, s_149, s_228, s_168, e_150_0, e_151_0, Int.reduceMul, Int.reduceAdd, Int.zero_add, ite_self, hs, e_229_0, e_229_42, e_229_73, e_229_79, e_229_25, e_229_113, Int.reduceLT, Int.reduceLE, and_self, and_true, true_and, hτ, Option.bind_some, Int.add_zero, z_wid, or_true, true_or, z_up_fn, z_up_ni, z_up_eq, z_up_qi, z_rw_fn, z_rw_in, z_rw_out, if_pos, if_neg, ↓reduceIte]
        exact w_ret rfl
      · exact w_ref h 10
  · apply zOK_mk2
    · simp (disch := first | omega | (simp (disch := omega) only [z_up_fn, z_up_ni, z_up_eq, z_up_qi, z_rw_fn] <;> omega) | fail) only [ite_self, Int.reduceAdd, e_129_0, e_129_8, e_129_16, e_129_25, e_129_33, e_129_81, e_129_101, e_129_109, e_129_116, e_129_127, e_129_137, e_129_151, e_129_163, e_129_169, e_129_192, e_129_87, e_129_120, e_129_131, e_129_140, e_129_178, e_129_186, e_129_90, e_143_0, e_143_6, e_144_0, e_144_11, e_144_20, e_144_33, e_144_39, e_144_56, e_144_47, e_145_0, e_145_6_0, e_145_6_1, e_145_6_2, e_145_6_3, e_145_12_0, e_145_12_1, e_145_12_2, e_145_12_3, e_145_31_0, e_145_25, e_145_31_1, e_145_31_2, e_145_31_3, e_145_52, e_145_40, e_145_43, e_146_0, e_146_6_0, e_146_6_1, e_146_6_2, e_146_6_3, e_146_12_0, e_146_12_1, e_146_12_2, e_146_12_3, e_146_32_0, e_146_25, e_146_32_1, e_146_32_2, e_146_32_3, e_146_49, e_146_57, e_146_60, e_147_0, e_147_11, e_147_19, e_147_32, e_147_38, e_147_55, e_147_46, s_133, s_234, s_has_8, s_get_8, s_39, e_131_0, e_132_0, w_ix1, w_iy1, hs, e_77_0_1, e_78_0_1, e_78_4_1, e_79_0_1, e_80_0_1, e_81_0_1, e_81_5_1, e_83_0_1, e_83_5_1, e_83_27_1, Int.reduceLT, Int.reduceLE, and_self, and_true, true_and, Option.bind_some, Int.add_zero, z_wid, or_true, true_or, z_up_fn, z_up_ni, z_up_eq, z_up_qi, z_rw_fn, z_rw_in, z_rw_out, if_pos, if_neg, ↓reduceIte]
      exact w_ret rfl
    · intro k hk
      simp (disch := omega) only [z_up_fn, z_rw_fn]
    · intro τ hτ
      simp (disch := first | omega | (simp (disch := omega) only [hτ] <;> omega) | fail) only [e_231_0, e_231_7, e_231_37, e_231_18, e_231_29, e_231_44, e_231_115, e_231_99, e_231_152, e_231_160, e_231_168, e_231_179, e_231_233, e_231_242, e_231_197, e_231_253, e_231_265, e_231_271, e_231_118, e_231_141, e_231_171, e_231_182, e_231_280, e_231_288, e_231_132, e_229_0, e_229_42, e_229_73, e_229_25, e_229_113, e_230_0, e_230_43, e_230_57, e_230_26, e_230_84, e_230_75, s_149, s_228, s_168, e_150_0, e_151_0, Int.reduceMul, Int.reduceAdd, Int.zero_add, ite_self, hs, e_229_0, e_229_42, e_229_73, e_229_79, e_229_25, e_229_113, Int.reduceLT, Int.reduceLE, and_self, and_true, true_and, hτ, Option.bind_some, Int.add_zero, z_wid, or_true, true_or, z_up_fn, z_up_ni, z_up_eq, z_up_qi, z_rw_fn, z_rw_in, z_rw_out, if_pos, if_neg, ↓reduceIte]
      exact w_ret rfl
    · exact w_ref h 1
theorem o_forge3s1n1 (d : Nat) (s : Int → Int) (L : Int) (σ : Nat → Int → Int) (h : zV s L σ) (x3 : Int) (hs : x3 % 4 = 1) : zOK s L (d + 9) 129 231 [some (.inl 3), some (.inl 1), some (.inl x3)] [some (.inl 3), some (.inl 1), some (.inl x3), none] σ := by
  have hX := zV_X1 h
  have hX1 := hX.1
  have hX2 := hX.2.1
  have hX3 := hX.2.2.1
  have hX4 := hX.2.2.2.1
  have hX5 := hX.2.2.2.2.1
  have hX6 := hX.2.2.2.2.2.1
  have n1 : σ 122 41 = σ 66 1 := (hX.2.2.2.2.2.2 1 (by omega) (by omega)).1.symm
  by_cases c1 : -100 ≤ x3 ∧ x3 ≤ 100
  · by_cases c2 : ¬ σ 65 1 = -1
    · by_cases c3 : σ 65 1 = 0
      · by_cases c4 : 2 ≤ σ 65 2
        · apply zOK_mk2
          · simp (disch := first | omega | (simp (disch := omega) only [z_up_fn, z_up_ni, z_up_eq, z_up_qi, z_rw_fn] <;> omega) | fail) only [ite_self, Int.reduceAdd, e_129_0, e_129_8, e_129_16, e_129_25, e_129_33, e_129_81, e_129_101, e_129_109, e_129_116, e_129_127, e_129_137, e_129_151, e_129_163, e_129_169, e_129_192, e_129_87, e_129_120, e_129_131, e_129_140, e_129_178, e_129_186, e_129_90, e_143_0, e_143_6, e_144_0, e_144_11, e_144_20, e_144_33, e_144_39, e_144_56, e_144_47, e_145_0, e_145_6_0, e_145_6_1, e_145_6_2, e_145_6_3, e_145_12_0, e_145_12_1, e_145_12_2, e_145_12_3, e_145_31_0, e_145_25, e_145_31_1, e_145_31_2, e_145_31_3, e_145_52, e_145_40, e_145_43, e_146_0, e_146_6_0, e_146_6_1, e_146_6_2, e_146_6_3, e_146_12_0, e_146_12_1, e_146_12_2, e_146_12_3, e_146_32_0, e_146_25, e_146_32_1, e_146_32_2, e_146_32_3, e_146_49, e_146_57, e_146_60, e_147_0, e_147_11, e_147_19, e_147_32, e_147_38, e_147_55, e_147_46, s_133, s_234, s_has_8, s_get_8, s_39, e_131_0, e_132_0, w_ix1, w_iy1, hs, e_77_0_1, e_78_0_1, e_78_4_1, e_79_0_1, e_80_0_1, e_81_0_1, e_81_5_1, e_83_0_1, e_83_5_1, e_83_27_1, Int.reduceLT, Int.reduceLE, and_self, and_true, true_and, Option.bind_some, Int.add_zero, z_wid, or_true, true_or, z_up_fn, z_up_ni, z_up_eq, z_up_qi, z_rw_fn, z_rw_in, z_rw_out, if_pos, if_neg, ↓reduceIte]
            exact w_ret rfl
          · intro k hk
            simp (disch := omega) only [z_up_fn, z_rw_fn]
          · intro τ hτ
            simp (disch := first | omega | (simp (disch := omega) only [hτ] <;> omega) | fail) only [e_231_0, e_231_7, e_231_37, e_231_18, e_231_29, e_231_44, e_231_115, e_231_99, e_231_152, e_231_160, e_231_168, e_231_179, e_231_233, e_231_242, e_231_197, e_231_253, e_231_265, e_231_271, e_231_118, e_231_141, e_231_171, e_231_182, e_231_280, e_231_288, e_231_132, e_229_0, e_229_42, e_229_73, e_229_25, e_229_113, e_230_0, e_230_43, e_230_57, e_230_26, e_230_84, e_230_75, s_149, s_228, s_168, e_150_0, e_151_0, Int.reduceMul, Int.reduceAdd, Int.zero_add, ite_self, hs, e_229_0, e_229_42, e_229_73, e_229_79, e_229_25, e_229_113, Int.reduceLT, Int.reduceLE, and_self, and_true, true_and, n1, hτ, Option.bind_some, Int.add_zero, z_wid, or_true, true_or, z_up_fn, z_up_ni, z_up_eq, z_up_qi, z_rw_fn, z_rw_in, z_rw_out, if_pos, if_neg, ↓reduceIte]
            exact w_ret rfl
          · skip
            exact w_ref h 0
        · apply zOK_mk2
          · simp (disch := first | omega | (simp (disch := omega) only [z_up_fn, z_up_ni, z_up_eq, z_up_qi, z_rw_fn] <;> omega) | fail) only [ite_self, Int.reduceAdd, e_129_0, e_129_8, e_129_16, e_129_25, e_129_33, e_129_81, e_129_101, e_129_109, e_129_116, e_129_127, e_129_137, e_129_151, e_129_163, e_129_169, e_129_192, e_129_87, e_129_120, e_129_131, e_129_140, e_129_178, e_129_186, e_129_90, e_143_0, e_143_6, e_144_0, e_144_11, e_144_20, e_144_33, e_144_39, e_144_56, e_144_47, e_145_0, e_145_6_0, e_145_6_1, e_145_6_2, e_145_6_3, e_145_12_0, e_145_12_1, e_145_12_2, e_145_12_3, e_145_31_0, e_145_25, e_145_31_1, e_145_31_2, e_145_31_3, e_145_52, e_145_40, e_145_43, e_146_0, e_146_6_0, e_146_6_1, e_146_6_2, e_146_6_3, e_146_12_0, e_146_12_1, e_146_12_2, e_146_12_3, e_146_32_0, e_146_25, e_146_32_1, e_146_32_2, e_146_32_3, e_146_49, e_146_57, e_146_60, e_147_0, e_147_11, e_147_19, e_147_32, e_147_38, e_147_55, e_147_46, s_133, s_234, s_has_8, s_get_8, s_39, e_131_0, e_132_0, w_ix1, w_iy1, hs, e_77_0_1, e_78_0_1, e_78_4_1, e_79_0_1, e_80_0_1, e_81_0_1, e_81_5_1, e_83_0_1, e_83_5_1, e_83_27_1, Int.reduceLT, Int.reduceLE, and_self, and_true, true_and, Option.bind_some, Int.add_zero, z_wid, or_true, true_or, z_up_fn, z_up_ni, z_up_eq, z_up_qi, z_rw_fn, z_rw_in, z_rw_out, if_pos, if_neg, ↓reduceIte]
            exact w_ret rfl
          · intro k hk
            simp (disch := omega) only [z_up_fn, z_rw_fn]
          · intro τ hτ
            simp (disch := first | omega | (simp (disch := omega) only [hτ] <;> omega) | fail) only [e_231_0, e_231_7, e_231_37, e_231_18, e_231_29, e_231_44, e_231_115, e_231_99, e_231_152, e_231_160, e_231_168, e_231_179, e_231_233, e_231_242, e_231_197, e_231_253, e_231_265, e_231_271, e_231_118, e_231_141, e_231_171, e_231_182, e_231_280, e_231_288, e_231_132, e_229_0, e_229_42, e_229_73, e_229_25, e_229_113, e_230_0, e_230_43, e_230_57, e_230_26, e_230_84, e_230_75, s_149, s_228, s_168, e_150_0, e_151_0, Int.reduceMul, Int.reduceAdd, Int.zero_add, ite_self, hs, e_229_0, e_229_42, e_229_73, e_229_79, e_229_25, e_229_113, Int.reduceLT, Int.reduceLE, and_self, and_true, true_and, n1, hτ, Option.bind_some, Int.add_zero, z_wid, or_true, true_or, z_up_fn, z_up_ni, z_up_eq, z_up_qi, z_rw_fn, z_rw_in, z_rw_out, if_pos, if_neg, ↓reduceIte]
            exact w_ret rfl
          · exact w_ref h 12
      · apply zOK_mk2
        · simp (disch := first | omega | (simp (disch := omega) only [z_up_fn, z_up_ni, z_up_eq, z_up_qi, z_rw_fn] <;> omega) | fail) only [ite_self, Int.reduceAdd, e_129_0, e_129_8, e_129_16, e_129_25, e_129_33, e_129_81, e_129_101, e_129_109, e_129_116, e_129_127, e_129_137, e_129_151, e_129_163, e_129_169, e_129_192, e_129_87, e_129_120, e_129_131, e_129_140, e_129_178, e_129_186, e_129_90, e_143_0, e_143_6, e_144_0, e_144_11, e_144_20, e_144_33, e_144_39, e_144_56, e_144_47, e_145_0, e_145_6_0, e_145_6_1, e_145_6_2, e_145_6_3, e_145_12_0, e_145_12_1, e_145_12_2, e_145_12_3, e_145_31_0, e_145_25, e_145_31_1, e_145_31_2, e_145_31_3, e_145_52, e_145_40, e_145_43, e_146_0, e_146_6_0, e_146_6_1, e_146_6_2, e_146_6_3, e_146_12_0, e_146_12_1, e_146_12_2, e_146_12_3, e_146_32_0, e_146_25, e_146_32_1, e_146_32_2, e_146_32_3, e_146_49, e_146_57, e_146_60, e_147_0, e_147_11, e_147_19, e_147_32, e_147_38, e_147_55, e_147_46, s_133, s_234, s_has_8, s_get_8, s_39, e_131_0, e_132_0, w_ix1, w_iy1, hs, e_77_0_1, e_78_0_1, e_78_4_1, e_79_0_1, e_80_0_1, e_81_0_1, e_81_5_1, e_83_0_1, e_83_5_1, e_83_27_1, Int.reduceLT, Int.reduceLE, and_self, and_true, true_and, Option.bind_some, Int.add_zero, z_wid, or_true, true_or, z_up_fn, z_up_ni, z_up_eq, z_up_qi, z_rw_fn, z_rw_in, z_rw_out, if_pos, if_neg, ↓reduceIte]
          exact w_ret rfl
        · intro k hk
          simp (disch := omega) only [z_up_fn, z_rw_fn]
        · intro τ hτ
          simp (disch := first | omega | (simp (disch := omega) only [hτ] <;> omega) | fail) only [e_231_0, e_231_7, e_231_37, e_231_18, e_231_29, e_231_44, e_231_115, e_231_99, e_231_152, e_231_160, e_231_168, e_231_179, e_231_233, e_231_242, e_231_197, e_231_253, e_231_265, e_231_271, e_231_118, e_231_141, e_231_171, e_231_182, e_231_280, e_231_288, e_231_132, e_229_0, e_229_42, e_229_73, e_229_25, e_229_113, e_230_0, e_230_43, e_230_57, e_230_26, e_230_84, e_230_75, s_149, s_228, s_168, e_150_0, e_151_0, Int.reduceMul, Int.reduceAdd, Int.zero_add, ite_self, hs, e_229_0, e_229_42, e_229_73, e_229_79, e_229_25, e_229_113, Int.reduceLT, Int.reduceLE, and_self, and_true, true_and, n1, hτ, Option.bind_some, Int.add_zero, z_wid, or_true, true_or, z_up_fn, z_up_ni, z_up_eq, z_up_qi, z_rw_fn, z_rw_in, z_rw_out, if_pos, if_neg, ↓reduceIte]
          exact w_ret rfl
        · exact w_ref h 11
    · apply zOK_mk2
      · simp (disch := first | omega | (simp (disch := omega) only [z_up_fn, z_up_ni, z_up_eq, z_up_qi, z_rw_fn] <;> omega) | fail) only [ite_self, Int.reduceAdd, e_129_0, e_129_8, e_129_16, e_129_25, e_129_33, e_129_81, e_129_101, e_129_109, e_129_116, e_129_127, e_129_137, e_129_151, e_129_163, e_129_169, e_129_192, e_129_87, e_129_120, e_129_131, e_129_140, e_129_178, e_129_186, e_129_90, e_143_0, e_143_6, e_144_0, e_144_11, e_144_20, e_144_33, e_144_39, e_144_56, e_144_47, e_145_0, e_145_6_0, e_145_6_1, e_145_6_2, e_145_6_3, e_145_12_0, e_145_12_1, e_145_12_2, e_145_12_3, e_145_31_0, e_145_25, e_145_31_1, e_145_31_2, e_145_31_3, e_145_52, e_145_40, e_145_43, e_146_0, e_146_6_0, e_146_6_1, e_146_6_2, e_146_6_3, e_146_12_0, e_146_12_1, e_146_12_2, e_146_12_3, e_146_32_0, e_146_25, e_146_32_1, e_146_32_2, e_146_32_3, e_146_49, e_146_57, e_146_60, e_147_0, e_147_11, e_147_19, e_147_32, e_147_38, e_147_55, e_147_46, s_133, s_234, s_has_8, s_get_8, s_39, e_131_0, e_132_0, w_ix1, w_iy1, hs, e_77_0_1, e_78_0_1, e_78_4_1, e_79_0_1, e_80_0_1, e_81_0_1, e_81_5_1, e_83_0_1, e_83_5_1, e_83_27_1, Int.reduceLT, Int.reduceLE, and_self, and_true, true_and, Option.bind_some, Int.add_zero, z_wid, or_true, true_or, z_up_fn, z_up_ni, z_up_eq, z_up_qi, z_rw_fn, z_rw_in, z_rw_out, if_pos, if_neg, ↓reduceIte]
        exact w_ret rfl
      · intro k hk
        simp (disch := omega) only [z_up_fn, z_rw_fn]
      · intro τ hτ
        simp (disch := first | omega | (simp (disch := omega) only [hτ] <;> omega) | fail) only [e_231_0, e_231_7, e_231_37, e_231_18, e_231_29, e_231_44, e_231_115, e_231_99, e_231_152, e_231_160, e_231_168, e_231_179, e_231_233, e_231_242, e_231_197, e_231_253, e_231_265, e_231_271, e_231_118, e_231_141, e_231_171, e_231_182, e_231_280, e_231_288, e_231_132, e_229_0, e_229_42, e_229_73, e_229_25, e_229_113, e_230_0, e_230_43, e_230_57, e_230_26, e_230_84, e_230_75, s_149, s_228, s_168, e_150_0, e_151_0, Int.reduceMul, Int.reduceAdd, Int.zero_add, ite_self, hs, e_229_0, e_229_42, e_229_73, e_229_79, e_229_25, e_229_113, Int.reduceLT, Int.reduceLE, and_self, and_true, true_and, n1, hτ, Option.bind_some, Int.add_zero, z_wid, or_true, true_or, z_up_fn, z_up_ni, z_up_eq, z_up_qi, z_rw_fn, z_rw_in, z_rw_out, if_pos, if_neg, ↓reduceIte]
        exact w_ret rfl
      · exact w_ref h 10
  · apply zOK_mk2
    · simp (disch := first | omega | (simp (disch := omega) only [z_up_fn, z_up_ni, z_up_eq, z_up_qi, z_rw_fn] <;> omega) | fail) only [ite_self, Int.reduceAdd, e_129_0, e_129_8, e_129_16, e_129_25, e_129_33, e_129_81, e_129_101, e_129_109, e_129_116, e_129_127, e_129_137, e_129_151, e_129_163, e_129_169, e_129_192, e_129_87, e_129_120, e_129_131, e_129_140, e_129_178, e_129_186, e_129_90, e_143_0, e_143_6, e_144_0, e_144_11, e_144_20, e_144_33, e_144_39, e_144_56, e_144_47, e_145_0, e_145_6_0, e_145_6_1, e_145_6_2, e_145_6_3, e_145_12_0, e_145_12_1, e_145_12_2, e_145_12_3, e_145_31_0, e_145_25, e_145_31_1, e_145_31_2, e_145_31_3, e_145_52, e_145_40, e_145_43, e_146_0, e_146_6_0, e_146_6_1, e_146_6_2, e_146_6_3, e_146_12_0, e_146_12_1, e_146_12_2, e_146_12_3, e_146_32_0, e_146_25, e_146_32_1, e_146_32_2, e_146_32_3, e_146_49, e_146_57, e_146_60, e_147_0, e_147_11, e_147_19, e_147_32, e_147_38, e_147_55, e_147_46, s_133, s_234, s_has_8, s_get_8, s_39, e_131_0, e_132_0, w_ix1, w_iy1, hs, e_77_0_1, e_78_0_1, e_78_4_1, e_79_0_1, e_80_0_1, e_81_0_1, e_81_5_1, e_83_0_1, e_83_5_1, e_83_27_1, Int.reduceLT, Int.reduceLE, and_self, and_true, true_and, Option.bind_some, Int.add_zero, z_wid, or_true, true_or, z_up_fn, z_up_ni, z_up_eq, z_up_qi, z_rw_fn, z_rw_in, z_rw_out, if_pos, if_neg, ↓reduceIte]
      exact w_ret rfl
    · intro k hk
      simp (disch := omega) only [z_up_fn, z_rw_fn]
    · intro τ hτ
      simp (disch := first | omega | (simp (disch := omega) only [hτ] <;> omega) | fail) only [e_231_0, e_231_7, e_231_37, e_231_18, e_231_29, e_231_44, e_231_115, e_231_99, e_231_152, e_231_160, e_231_168, e_231_179, e_231_233, e_231_242, e_231_197, e_231_253, e_231_265, e_231_271, e_231_118, e_231_141, e_231_171, e_231_182, e_231_280, e_231_288, e_231_132, e_229_0, e_229_42, e_229_73, e_229_25, e_229_113, e_230_0, e_230_43, e_230_57, e_230_26, e_230_84, e_230_75, s_149, s_228, s_168, e_150_0, e_151_0, Int.reduceMul, Int.reduceAdd, Int.zero_add, ite_self, hs, e_229_0, e_229_42, e_229_73, e_229_79, e_229_25, e_229_113, Int.reduceLT, Int.reduceLE, and_self, and_true, true_and, n1, hτ, Option.bind_some, Int.add_zero, z_wid, or_true, true_or, z_up_fn, z_up_ni, z_up_eq, z_up_qi, z_rw_fn, z_rw_in, z_rw_out, if_pos, if_neg, ↓reduceIte]
      exact w_ret rfl
    · exact w_ref h 1
theorem o_forge3s1n2 (d : Nat) (s : Int → Int) (L : Int) (σ : Nat → Int → Int) (h : zV s L σ) (x3 : Int) (hs : x3 % 4 = 1) : zOK s L (d + 9) 129 231 [some (.inl 3), some (.inl 2), some (.inl x3)] [some (.inl 3), some (.inl 2), some (.inl x3), none] σ := by
  have hX := zV_X1 h
  have hX1 := hX.1
  have hX2 := hX.2.1
  have hX3 := hX.2.2.1
  have hX4 := hX.2.2.2.1
  have hX5 := hX.2.2.2.2.1
  have hX6 := hX.2.2.2.2.2.1
  have n1 : σ 122 41 = σ 66 1 := (hX.2.2.2.2.2.2 1 (by omega) (by omega)).1.symm
  have n2 : σ 122 42 = σ 66 2 := (hX.2.2.2.2.2.2 2 (by omega) (by omega)).1.symm
  by_cases c1 : -100 ≤ x3 ∧ x3 ≤ 100
  · by_cases c2 : ¬ σ 65 1 = -1
    · by_cases c3 : σ 65 1 = 0
      · by_cases c4 : 3 ≤ σ 65 2
        · apply zOK_mk2
          · simp (disch := first | omega | (simp (disch := omega) only [z_up_fn, z_up_ni, z_up_eq, z_up_qi, z_rw_fn] <;> omega) | fail) only [ite_self, Int.reduceAdd, e_129_0, e_129_8, e_129_16, e_129_25, e_129_33, e_129_81, e_129_101, e_129_109, e_129_116, e_129_127, e_129_137, e_129_151, e_129_163, e_129_169, e_129_192, e_129_87, e_129_120, e_129_131, e_129_140, e_129_178, e_129_186, e_129_90, e_143_0, e_143_6, e_144_0, e_144_11, e_144_20, e_144_33, e_144_39, e_144_56, e_144_47, e_145_0, e_145_6_0, e_145_6_1, e_145_6_2, e_145_6_3, e_145_12_0, e_145_12_1, e_145_12_2, e_145_12_3, e_145_31_0, e_145_25, e_145_31_1, e_145_31_2, e_145_31_3, e_145_52, e_145_40, e_145_43, e_146_0, e_146_6_0, e_146_6_1, e_146_6_2, e_146_6_3, e_146_12_0, e_146_12_1, e_146_12_2, e_146_12_3, e_146_32_0, e_146_25, e_146_32_1, e_146_32_2, e_146_32_3, e_146_49, e_146_57, e_146_60, e_147_0, e_147_11, e_147_19, e_147_32, e_147_38, e_147_55, e_147_46, s_133, s_234, s_has_8, s_get_8, s_39, e_131_0, e_132_0, w_ix1, w_iy1, hs, e_77_0_1, e_78_0_1, e_78_4_1, e_79_0_1, e_80_0_1, e_81_0_1, e_81_5_1, e_83_0_1, e_83_5_1, e_83_27_1, Int.reduceLT, Int.reduceLE, and_self, and_true, true_and, Option.bind_some, Int.add_zero, z_wid, or_true, true_or, z_up_fn, z_up_ni, z_up_eq, z_up_qi, z_rw_fn, z_rw_in, z_rw_out, if_pos, if_neg, ↓reduceIte]
            exact w_ret rfl
          · intro k hk
            simp (disch := omega) only [z_up_fn, z_rw_fn]
          · intro τ hτ
            simp (disch := first | omega | (simp (disch := omega) only [hτ] <;> omega) | fail) only [e_231_0, e_231_7, e_231_37, e_231_18, e_231_29, e_231_44, e_231_115, e_231_99, e_231_152, e_231_160, e_231_168, e_231_179, e_231_233, e_231_242, e_231_197, e_231_253, e_231_265, e_231_271, e_231_118, e_231_141, e_231_171, e_231_182, e_231_280, e_231_288, e_231_132, e_229_0, e_229_42, e_229_73, e_229_25, e_229_113, e_230_0, e_230_43, e_230_57, e_230_26, e_230_84, e_230_75, s_149, s_228, s_168, e_150_0, e_151_0, Int.reduceMul, Int.reduceAdd, Int.zero_add, ite_self, hs, e_229_0, e_229_42, e_229_73, e_229_79, e_229_25, e_229_113, Int.reduceLT, Int.reduceLE, and_self, and_true, true_and, n1, n2, hτ, Option.bind_some, Int.add_zero, z_wid, or_true, true_or, z_up_fn, z_up_ni, z_up_eq, z_up_qi, z_rw_fn, z_rw_in, z_rw_out, if_pos, if_neg, ↓reduceIte]
            exact w_ret rfl
          · skip
            exact w_ref h 0
        · apply zOK_mk2
          · simp (disch := first | omega | (simp (disch := omega) only [z_up_fn, z_up_ni, z_up_eq, z_up_qi, z_rw_fn] <;> omega) | fail) only [ite_self, Int.reduceAdd, e_129_0, e_129_8, e_129_16, e_129_25, e_129_33, e_129_81, e_129_101, e_129_109, e_129_116, e_129_127, e_129_137, e_129_151, e_129_163, e_129_169, e_129_192, e_129_87, e_129_120, e_129_131, e_129_140, e_129_178, e_129_186, e_129_90, e_143_0, e_143_6, e_144_0, e_144_11, e_144_20, e_144_33, e_144_39, e_144_56, e_144_47, e_145_0, e_145_6_0, e_145_6_1, e_145_6_2, e_145_6_3, e_145_12_0, e_145_12_1, e_145_12_2, e_145_12_3, e_145_31_0, e_145_25, e_145_31_1, e_145_31_2, e_145_31_3, e_145_52, e_145_40, e_145_43, e_146_0, e_146_6_0, e_146_6_1, e_146_6_2, e_146_6_3, e_146_12_0, e_146_12_1, e_146_12_2, e_146_12_3, e_146_32_0, e_146_25, e_146_32_1, e_146_32_2, e_146_32_3, e_146_49, e_146_57, e_146_60, e_147_0, e_147_11, e_147_19, e_147_32, e_147_38, e_147_55, e_147_46, s_133, s_234, s_has_8, s_get_8, s_39, e_131_0, e_132_0, w_ix1, w_iy1, hs, e_77_0_1, e_78_0_1, e_78_4_1, e_79_0_1, e_80_0_1, e_81_0_1, e_81_5_1, e_83_0_1, e_83_5_1, e_83_27_1, Int.reduceLT, Int.reduceLE, and_self, and_true, true_and, Option.bind_some, Int.add_zero, z_wid, or_true, true_or, z_up_fn, z_up_ni, z_up_eq, z_up_qi, z_rw_fn, z_rw_in, z_rw_out, if_pos, if_neg, ↓reduceIte]
            exact w_ret rfl
          · intro k hk
            simp (disch := omega) only [z_up_fn, z_rw_fn]
          · intro τ hτ
            simp (disch := first | omega | (simp (disch := omega) only [hτ] <;> omega) | fail) only [e_231_0, e_231_7, e_231_37, e_231_18, e_231_29, e_231_44, e_231_115, e_231_99, e_231_152, e_231_160, e_231_168, e_231_179, e_231_233, e_231_242, e_231_197, e_231_253, e_231_265, e_231_271, e_231_118, e_231_141, e_231_171, e_231_182, e_231_280, e_231_288, e_231_132, e_229_0, e_229_42, e_229_73, e_229_25, e_229_113, e_230_0, e_230_43, e_230_57, e_230_26, e_230_84, e_230_75, s_149, s_228, s_168, e_150_0, e_151_0, Int.reduceMul, Int.reduceAdd, Int.zero_add, ite_self, hs, e_229_0, e_229_42, e_229_73, e_229_79, e_229_25, e_229_113, Int.reduceLT, Int.reduceLE, and_self, and_true, true_and, n1, n2, hτ, Option.bind_some, Int.add_zero, z_wid, or_true, true_or, z_up_fn, z_up_ni, z_up_eq, z_up_qi, z_rw_fn, z_rw_in, z_rw_out, if_pos, if_neg, ↓reduceIte]
            exact w_ret rfl
          · exact w_ref h 12
      · apply zOK_mk2
        · simp (disch := first | omega | (simp (disch := omega) only [z_up_fn, z_up_ni, z_up_eq, z_up_qi, z_rw_fn] <;> omega) | fail) only [ite_self, Int.reduceAdd, e_129_0, e_129_8, e_129_16, e_129_25, e_129_33, e_129_81, e_129_101, e_129_109, e_129_116, e_129_127, e_129_137, e_129_151, e_129_163, e_129_169, e_129_192, e_129_87, e_129_120, e_129_131, e_129_140, e_129_178, e_129_186, e_129_90, e_143_0, e_143_6, e_144_0, e_144_11, e_144_20, e_144_33, e_144_39, e_144_56, e_144_47, e_145_0, e_145_6_0, e_145_6_1, e_145_6_2, e_145_6_3, e_145_12_0, e_145_12_1, e_145_12_2, e_145_12_3, e_145_31_0, e_145_25, e_145_31_1, e_145_31_2, e_145_31_3, e_145_52, e_145_40, e_145_43, e_146_0, e_146_6_0, e_146_6_1, e_146_6_2, e_146_6_3, e_146_12_0, e_146_12_1, e_146_12_2, e_146_12_3, e_146_32_0, e_146_25, e_146_32_1, e_146_32_2, e_146_32_3, e_146_49, e_146_57, e_146_60, e_147_0, e_147_11, e_147_19, e_147_32, e_147_38, e_147_55, e_147_46, s_133, s_234, s_has_8, s_get_8, s_39, e_131_0, e_132_0, w_ix1, w_iy1, hs, e_77_0_1, e_78_0_1, e_78_4_1, e_79_0_1, e_80_0_1, e_81_0_1, e_81_5_1, e_83_0_1, e_83_5_1, e_83_27_1, Int.reduceLT, Int.reduceLE, and_self, and_true, true_and, Option.bind_some, Int.add_zero, z_wid, or_true, true_or, z_up_fn, z_up_ni, z_up_eq, z_up_qi, z_rw_fn, z_rw_in, z_rw_out, if_pos, if_neg, ↓reduceIte]
          exact w_ret rfl
        · intro k hk
          simp (disch := omega) only [z_up_fn, z_rw_fn]
        · intro τ hτ
          simp (disch := first | omega | (simp (disch := omega) only [hτ] <;> omega) | fail) only [e_231_0, e_231_7, e_231_37, e_231_18, e_231_29, e_231_44, e_231_115, e_231_99, e_231_152, e_231_160, e_231_168, e_231_179, e_231_233, e_231_242, e_231_197, e_231_253, e_231_265, e_231_271, e_231_118, e_231_141, e_231_171, e_231_182, e_231_280, e_231_288, e_231_132, e_229_0, e_229_42, e_229_73, e_229_25, e_229_113, e_230_0, e_230_43, e_230_57, e_230_26, e_230_84, e_230_75, s_149, s_228, s_168, e_150_0, e_151_0, Int.reduceMul, Int.reduceAdd, Int.zero_add, ite_self, hs, e_229_0, e_229_42, e_229_73, e_229_79, e_229_25, e_229_113, Int.reduceLT, Int.reduceLE, and_self, and_true, true_and, n1, n2, hτ, Option.bind_some, Int.add_zero, z_wid, or_true, true_or, z_up_fn, z_up_ni, z_up_eq, z_up_qi, z_rw_fn, z_rw_in, z_rw_out, if_pos, if_neg, ↓reduceIte]
          exact w_ret rfl
        · exact w_ref h 11
    · apply zOK_mk2
      · simp (disch := first | omega | (simp (disch := omega) only [z_up_fn, z_up_ni, z_up_eq, z_up_qi, z_rw_fn] <;> omega) | fail) only [ite_self, Int.reduceAdd, e_129_0, e_129_8, e_129_16, e_129_25, e_129_33, e_129_81, e_129_101, e_129_109, e_129_116, e_129_127, e_129_137, e_129_151, e_129_163, e_129_169, e_129_192, e_129_87, e_129_120, e_129_131, e_129_140, e_129_178, e_129_186, e_129_90, e_143_0, e_143_6, e_144_0, e_144_11, e_144_20, e_144_33, e_144_39, e_144_56, e_144_47, e_145_0, e_145_6_0, e_145_6_1, e_145_6_2, e_145_6_3, e_145_12_0, e_145_12_1, e_145_12_2, e_145_12_3, e_145_31_0, e_145_25, e_145_31_1, e_145_31_2, e_145_31_3, e_145_52, e_145_40, e_145_43, e_146_0, e_146_6_0, e_146_6_1, e_146_6_2, e_146_6_3, e_146_12_0, e_146_12_1, e_146_12_2, e_146_12_3, e_146_32_0, e_146_25, e_146_32_1, e_146_32_2, e_146_32_3, e_146_49, e_146_57, e_146_60, e_147_0, e_147_11, e_147_19, e_147_32, e_147_38, e_147_55, e_147_46, s_133, s_234, s_has_8, s_get_8, s_39, e_131_0, e_132_0, w_ix1, w_iy1, hs, e_77_0_1, e_78_0_1, e_78_4_1, e_79_0_1, e_80_0_1, e_81_0_1, e_81_5_1, e_83_0_1, e_83_5_1, e_83_27_1, Int.reduceLT, Int.reduceLE, and_self, and_true, true_and, Option.bind_some, Int.add_zero, z_wid, or_true, true_or, z_up_fn, z_up_ni, z_up_eq, z_up_qi, z_rw_fn, z_rw_in, z_rw_out, if_pos, if_neg, ↓reduceIte]
        exact w_ret rfl
      · intro k hk
        simp (disch := omega) only [z_up_fn, z_rw_fn]
      · intro τ hτ
        simp (disch := first | omega | (simp (disch := omega) only [hτ] <;> omega) | fail) only [e_231_0, e_231_7, e_231_37, e_231_18, e_231_29, e_231_44, e_231_115, e_231_99, e_231_152, e_231_160, e_231_168, e_231_179, e_231_233, e_231_242, e_231_197, e_231_253, e_231_265, e_231_271, e_231_118, e_231_141, e_231_171, e_231_182, e_231_280, e_231_288, e_231_132, e_229_0, e_229_42, e_229_73, e_229_25, e_229_113, e_230_0, e_230_43, e_230_57, e_230_26, e_230_84, e_230_75, s_149, s_228, s_168, e_150_0, e_151_0, Int.reduceMul, Int.reduceAdd, Int.zero_add, ite_self, hs, e_229_0, e_229_42, e_229_73, e_229_79, e_229_25, e_229_113, Int.reduceLT, Int.reduceLE, and_self, and_true, true_and, n1, n2, hτ, Option.bind_some, Int.add_zero, z_wid, or_true, true_or, z_up_fn, z_up_ni, z_up_eq, z_up_qi, z_rw_fn, z_rw_in, z_rw_out, if_pos, if_neg, ↓reduceIte]
        exact w_ret rfl
      · exact w_ref h 10
  · apply zOK_mk2
    · simp (disch := first | omega | (simp (disch := omega) only [z_up_fn, z_up_ni, z_up_eq, z_up_qi, z_rw_fn] <;> omega) | fail) only [ite_self, Int.reduceAdd, e_129_0, e_129_8, e_129_16, e_129_25, e_129_33, e_129_81, e_129_101, e_129_109, e_129_116, e_129_127, e_129_137, e_129_151, e_129_163, e_129_169, e_129_192, e_129_87, e_129_120, e_129_131, e_129_140, e_129_178, e_129_186, e_129_90, e_143_0, e_143_6, e_144_0, e_144_11, e_144_20, e_144_33, e_144_39, e_144_56, e_144_47, e_145_0, e_145_6_0, e_145_6_1, e_145_6_2, e_145_6_3, e_145_12_0, e_145_12_1, e_145_12_2, e_145_12_3, e_145_31_0, e_145_25, e_145_31_1, e_145_31_2, e_145_31_3, e_145_52, e_145_40, e_145_43, e_146_0, e_146_6_0, e_146_6_1, e_146_6_2, e_146_6_3, e_146_12_0, e_146_12_1, e_146_12_2, e_146_12_3, e_146_32_0, e_146_25, e_146_32_1, e_146_32_2, e_146_32_3, e_146_49, e_146_57, e_146_60, e_147_0, e_147_11, e_147_19, e_147_32, e_147_38, e_147_55, e_147_46, s_133, s_234, s_has_8, s_get_8, s_39, e_131_0, e_132_0, w_ix1, w_iy1, hs, e_77_0_1, e_78_0_1, e_78_4_1, e_79_0_1, e_80_0_1, e_81_0_1, e_81_5_1, e_83_0_1, e_83_5_1, e_83_27_1, Int.reduceLT, Int.reduceLE, and_self, and_true, true_and, Option.bind_some, Int.add_zero, z_wid, or_true, true_or, z_up_fn, z_up_ni, z_up_eq, z_up_qi, z_rw_fn, z_rw_in, z_rw_out, if_pos, if_neg, ↓reduceIte]
      exact w_ret rfl
    · intro k hk
      simp (disch := omega) only [z_up_fn, z_rw_fn]
    · intro τ hτ
      simp (disch := first | omega | (simp (disch := omega) only [hτ] <;> omega) | fail) only [e_231_0, e_231_7, e_231_37, e_231_18, e_231_29, e_231_44, e_231_115, e_231_99, e_231_152, e_231_160, e_231_168, e_231_179, e_231_233, e_231_242, e_231_197, e_231_253, e_231_265, e_231_271, e_231_118, e_231_141, e_231_171, e_231_182, e_231_280, e_231_288, e_231_132, e_229_0, e_229_42, e_229_73, e_229_25, e_229_113, e_230_0, e_230_43, e_230_57, e_230_26, e_230_84, e_230_75, s_149, s_228, s_168, e_150_0, e_151_0, Int.reduceMul, Int.reduceAdd, Int.zero_add, ite_self, hs, e_229_0, e_229_42, e_229_73, e_229_79, e_229_25, e_229_113, Int.reduceLT, Int.reduceLE, and_self, and_true, true_and, n1, n2, hτ, Option.bind_some, Int.add_zero, z_wid, or_true, true_or, z_up_fn, z_up_ni, z_up_eq, z_up_qi, z_rw_fn, z_rw_in, z_rw_out, if_pos, if_neg, ↓reduceIte]
      exact w_ret rfl
    · exact w_ref h 1
theorem o_forge3s1n3 (d : Nat) (s : Int → Int) (L : Int) (σ : Nat → Int → Int) (h : zV s L σ) (x3 : Int) (hs : x3 % 4 = 1) : zOK s L (d + 9) 129 231 [some (.inl 3), some (.inl 3), some (.inl x3)] [some (.inl 3), some (.inl 3), some (.inl x3), none] σ := by
  have hX := zV_X1 h
  have hX1 := hX.1
  have hX2 := hX.2.1
  have hX3 := hX.2.2.1
  have hX4 := hX.2.2.2.1
  have hX5 := hX.2.2.2.2.1
  have hX6 := hX.2.2.2.2.2.1
  have n1 : σ 122 41 = σ 66 1 := (hX.2.2.2.2.2.2 1 (by omega) (by omega)).1.symm
  have n2 : σ 122 42 = σ 66 2 := (hX.2.2.2.2.2.2 2 (by omega) (by omega)).1.symm
  have n3 : σ 122 43 = σ 66 3 := (hX.2.2.2.2.2.2 3 (by omega) (by omega)).1.symm
  by_cases c1 : -100 ≤ x3 ∧ x3 ≤ 100
  · by_cases c2 : ¬ σ 65 1 = -1
    · by_cases c3 : σ 65 1 = 0
      · by_cases c4 : 4 ≤ σ 65 2
        · apply zOK_mk2
          · simp (disch := first | omega | (simp (disch := omega) only [z_up_fn, z_up_ni, z_up_eq, z_up_qi, z_rw_fn] <;> omega) | fail) only [ite_self, Int.reduceAdd, e_129_0, e_129_8, e_129_16, e_129_25, e_129_33, e_129_81, e_129_101, e_129_109, e_129_116, e_129_127, e_129_137, e_129_151, e_129_163, e_129_169, e_129_192, e_129_87, e_129_120, e_129_131, e_129_140, e_129_178, e_129_186, e_129_90, e_143_0, e_143_6, e_144_0, e_144_11, e_144_20, e_144_33, e_144_39, e_144_56, e_144_47, e_145_0, e_145_6_0, e_145_6_1, e_145_6_2, e_145_6_3, e_145_12_0, e_145_12_1, e_145_12_2, e_145_12_3, e_145_31_0, e_145_25, e_145_31_1, e_145_31_2, e_145_31_3, e_145_52, e_145_40, e_145_43, e_146_0, e_146_6_0, e_146_6_1, e_146_6_2, e_146_6_3, e_146_12_0, e_146_12_1, e_146_12_2, e_146_12_3, e_146_32_0, e_146_25, e_146_32_1, e_146_32_2, e_146_32_3, e_146_49, e_146_57, e_146_60, e_147_0, e_147_11, e_147_19, e_147_32, e_147_38, e_147_55, e_147_46, s_133, s_234, s_has_8, s_get_8, s_39, e_131_0, e_132_0, w_ix1, w_iy1, hs, e_77_0_1, e_78_0_1, e_78_4_1, e_79_0_1, e_80_0_1, e_81_0_1, e_81_5_1, e_83_0_1, e_83_5_1, e_83_27_1, Int.reduceLT, Int.reduceLE, and_self, and_true, true_and, Option.bind_some, Int.add_zero, z_wid, or_true, true_or, z_up_fn, z_up_ni, z_up_eq, z_up_qi, z_rw_fn, z_rw_in, z_rw_out, if_pos, if_neg, ↓reduceIte]
            exact w_ret rfl
          · intro k hk
            simp (disch := omega) only [z_up_fn, z_rw_fn]
          · intro τ hτ
            simp (disch := first | omega | (simp (disch := omega) only [hτ] <;> omega) | fail) only [e_231_0, e_231_7, e_231_37, e_231_18, e_231_29, e_231_44, e_231_115, e_231_99, e_231_152, e_231_160, e_231_168, e_231_179, e_231_233, e_231_242, e_231_197, e_231_253, e_231_265, e_231_271, e_231_118, e_231_141, e_231_171, e_231_182, e_231_280, e_231_288, e_231_132, e_229_0, e_229_42, e_229_73, e_229_25, e_229_113, e_230_0, e_230_43, e_230_57, e_230_26, e_230_84, e_230_75, s_149, s_228, s_168, e_150_0, e_151_0, Int.reduceMul, Int.reduceAdd, Int.zero_add, ite_self, hs, e_229_0, e_229_42, e_229_73, e_229_79, e_229_25, e_229_113, Int.reduceLT, Int.reduceLE, and_self, and_true, true_and, n1, n2, n3, hτ, Option.bind_some, Int.add_zero, z_wid, or_true, true_or, z_up_fn, z_up_ni, z_up_eq, z_up_qi, z_rw_fn, z_rw_in, z_rw_out, if_pos, if_neg, ↓reduceIte]
            exact w_ret rfl
          · skip
            exact w_ref h 0
        · apply zOK_mk2
          · simp (disch := first | omega | (simp (disch := omega) only [z_up_fn, z_up_ni, z_up_eq, z_up_qi, z_rw_fn] <;> omega) | fail) only [ite_self, Int.reduceAdd, e_129_0, e_129_8, e_129_16, e_129_25, e_129_33, e_129_81, e_129_101, e_129_109, e_129_116, e_129_127, e_129_137, e_129_151, e_129_163, e_129_169, e_129_192, e_129_87, e_129_120, e_129_131, e_129_140, e_129_178, e_129_186, e_129_90, e_143_0, e_143_6, e_144_0, e_144_11, e_144_20, e_144_33, e_144_39, e_144_56, e_144_47, e_145_0, e_145_6_0, e_145_6_1, e_145_6_2, e_145_6_3, e_145_12_0, e_145_12_1, e_145_12_2, e_145_12_3, e_145_31_0, e_145_25, e_145_31_1, e_145_31_2, e_145_31_3, e_145_52, e_145_40, e_145_43, e_146_0, e_146_6_0, e_146_6_1, e_146_6_2, e_146_6_3, e_146_12_0, e_146_12_1, e_146_12_2, e_146_12_3, e_146_32_0, e_146_25, e_146_32_1, e_146_32_2, e_146_32_3, e_146_49, e_146_57, e_146_60, e_147_0, e_147_11, e_147_19, e_147_32, e_147_38, e_147_55, e_147_46, s_133, s_234, s_has_8, s_get_8, s_39, e_131_0, e_132_0, w_ix1, w_iy1, hs, e_77_0_1, e_78_0_1, e_78_4_1, e_79_0_1, e_80_0_1, e_81_0_1, e_81_5_1, e_83_0_1, e_83_5_1, e_83_27_1, Int.reduceLT, Int.reduceLE, and_self, and_true, true_and, Option.bind_some, Int.add_zero, z_wid, or_true, true_or, z_up_fn, z_up_ni, z_up_eq, z_up_qi, z_rw_fn, z_rw_in, z_rw_out, if_pos, if_neg, ↓reduceIte]
            exact w_ret rfl
          · intro k hk
            simp (disch := omega) only [z_up_fn, z_rw_fn]
          · intro τ hτ
            simp (disch := first | omega | (simp (disch := omega) only [hτ] <;> omega) | fail) only [e_231_0, e_231_7, e_231_37, e_231_18, e_231_29, e_231_44, e_231_115, e_231_99, e_231_152, e_231_160, e_231_168, e_231_179, e_231_233, e_231_242, e_231_197, e_231_253, e_231_265, e_231_271, e_231_118, e_231_141, e_231_171, e_231_182, e_231_280, e_231_288, e_231_132, e_229_0, e_229_42, e_229_73, e_229_25, e_229_113, e_230_0, e_230_43, e_230_57, e_230_26, e_230_84, e_230_75, s_149, s_228, s_168, e_150_0, e_151_0, Int.reduceMul, Int.reduceAdd, Int.zero_add, ite_self, hs, e_229_0, e_229_42, e_229_73, e_229_79, e_229_25, e_229_113, Int.reduceLT, Int.reduceLE, and_self, and_true, true_and, n1, n2, n3, hτ, Option.bind_some, Int.add_zero, z_wid, or_true, true_or, z_up_fn, z_up_ni, z_up_eq, z_up_qi, z_rw_fn, z_rw_in, z_rw_out, if_pos, if_neg, ↓reduceIte]
            exact w_ret rfl
          · exact w_ref h 12
      · apply zOK_mk2
        · simp (disch := first | omega | (simp (disch := omega) only [z_up_fn, z_up_ni, z_up_eq, z_up_qi, z_rw_fn] <;> omega) | fail) only [ite_self, Int.reduceAdd, e_129_0, e_129_8, e_129_16, e_129_25, e_129_33, e_129_81, e_129_101, e_129_109, e_129_116, e_129_127, e_129_137, e_129_151, e_129_163, e_129_169, e_129_192, e_129_87, e_129_120, e_129_131, e_129_140, e_129_178, e_129_186, e_129_90, e_143_0, e_143_6, e_144_0, e_144_11, e_144_20, e_144_33, e_144_39, e_144_56, e_144_47, e_145_0, e_145_6_0, e_145_6_1, e_145_6_2, e_145_6_3, e_145_12_0, e_145_12_1, e_145_12_2, e_145_12_3, e_145_31_0, e_145_25, e_145_31_1, e_145_31_2, e_145_31_3, e_145_52, e_145_40, e_145_43, e_146_0, e_146_6_0, e_146_6_1, e_146_6_2, e_146_6_3, e_146_12_0, e_146_12_1, e_146_12_2, e_146_12_3, e_146_32_0, e_146_25, e_146_32_1, e_146_32_2, e_146_32_3, e_146_49, e_146_57, e_146_60, e_147_0, e_147_11, e_147_19, e_147_32, e_147_38, e_147_55, e_147_46, s_133, s_234, s_has_8, s_get_8, s_39, e_131_0, e_132_0, w_ix1, w_iy1, hs, e_77_0_1, e_78_0_1, e_78_4_1, e_79_0_1, e_80_0_1, e_81_0_1, e_81_5_1, e_83_0_1, e_83_5_1, e_83_27_1, Int.reduceLT, Int.reduceLE, and_self, and_true, true_and, Option.bind_some, Int.add_zero, z_wid, or_true, true_or, z_up_fn, z_up_ni, z_up_eq, z_up_qi, z_rw_fn, z_rw_in, z_rw_out, if_pos, if_neg, ↓reduceIte]
          exact w_ret rfl
        · intro k hk
          simp (disch := omega) only [z_up_fn, z_rw_fn]
        · intro τ hτ
          simp (disch := first | omega | (simp (disch := omega) only [hτ] <;> omega) | fail) only [e_231_0, e_231_7, e_231_37, e_231_18, e_231_29, e_231_44, e_231_115, e_231_99, e_231_152, e_231_160, e_231_168, e_231_179, e_231_233, e_231_242, e_231_197, e_231_253, e_231_265, e_231_271, e_231_118, e_231_141, e_231_171, e_231_182, e_231_280, e_231_288, e_231_132, e_229_0, e_229_42, e_229_73, e_229_25, e_229_113, e_230_0, e_230_43, e_230_57, e_230_26, e_230_84, e_230_75, s_149, s_228, s_168, e_150_0, e_151_0, Int.reduceMul, Int.reduceAdd, Int.zero_add, ite_self, hs, e_229_0, e_229_42, e_229_73, e_229_79, e_229_25, e_229_113, Int.reduceLT, Int.reduceLE, and_self, and_true, true_and, n1, n2, n3, hτ, Option.bind_some, Int.add_zero, z_wid, or_true, true_or, z_up_fn, z_up_ni, z_up_eq, z_up_qi, z_rw_fn, z_rw_in, z_rw_out, if_pos, if_neg, ↓reduceIte]
          exact w_ret rfl
        · exact w_ref h 11
    · apply zOK_mk2
      · simp (disch := first | omega | (simp (disch := omega) only [z_up_fn, z_up_ni, z_up_eq, z_up_qi, z_rw_fn] <;> omega) | fail) only [ite_self, Int.reduceAdd, e_129_0, e_129_8, e_129_16, e_129_25, e_129_33, e_129_81, e_129_101, e_129_109, e_129_116, e_129_127, e_129_137, e_129_151, e_129_163, e_129_169, e_129_192, e_129_87, e_129_120, e_129_131, e_129_140, e_129_178, e_129_186, e_129_90, e_143_0, e_143_6, e_144_0, e_144_11, e_144_20, e_144_33, e_144_39, e_144_56, e_144_47, e_145_0, e_145_6_0, e_145_6_1, e_145_6_2, e_145_6_3, e_145_12_0, e_145_12_1, e_145_12_2, e_145_12_3, e_145_31_0, e_145_25, e_145_31_1, e_145_31_2, e_145_31_3, e_145_52, e_145_40, e_145_43, e_146_0, e_146_6_0, e_146_6_1, e_146_6_2, e_146_6_3, e_146_12_0, e_146_12_1, e_146_12_2, e_146_12_3, e_146_32_0, e_146_25, e_146_32_1, e_146_32_2, e_146_32_3, e_146_49, e_146_57, e_146_60, e_147_0, e_147_11, e_147_19, e_147_32, e_147_38, e_147_55, e_147_46, s_133, s_234, s_has_8, s_get_8, s_39, e_131_0, e_132_0, w_ix1, w_iy1, hs, e_77_0_1, e_78_0_1, e_78_4_1, e_79_0_1, e_80_0_1, e_81_0_1, e_81_5_1, e_83_0_1, e_83_5_1, e_83_27_1, Int.reduceLT, Int.reduceLE, and_self, and_true, true_and, Option.bind_some, Int.add_zero, z_wid, or_true, true_or, z_up_fn, z_up_ni, z_up_eq, z_up_qi, z_rw_fn, z_rw_in, z_rw_out, if_pos, if_neg, ↓reduceIte]
        exact w_ret rfl
      · intro k hk
        simp (disch := omega) only [z_up_fn, z_rw_fn]
      · intro τ hτ
        simp (disch := first | omega | (simp (disch := omega) only [hτ] <;> omega) | fail) only [e_231_0, e_231_7, e_231_37, e_231_18, e_231_29, e_231_44, e_231_115, e_231_99, e_231_152, e_231_160, e_231_168, e_231_179, e_231_233, e_231_242, e_231_197, e_231_253, e_231_265, e_231_271, e_231_118, e_231_141, e_231_171, e_231_182, e_231_280, e_231_288, e_231_132, e_229_0, e_229_42, e_229_73, e_229_25, e_229_113, e_230_0, e_230_43, e_230_57, e_230_26, e_230_84, e_230_75, s_149, s_228, s_168, e_150_0, e_151_0, Int.reduceMul, Int.reduceAdd, Int.zero_add, ite_self, hs, e_229_0, e_229_42, e_229_73, e_229_79, e_229_25, e_229_113, Int.reduceLT, Int.reduceLE, and_self, and_true, true_and, n1, n2, n3, hτ, Option.bind_some, Int.add_zero, z_wid, or_true, true_or, z_up_fn, z_up_ni, z_up_eq, z_up_qi, z_rw_fn, z_rw_in, z_rw_out, if_pos, if_neg, ↓reduceIte]
        exact w_ret rfl
      · exact w_ref h 10
  · apply zOK_mk2
    · simp (disch := first | omega | (simp (disch := omega) only [z_up_fn, z_up_ni, z_up_eq, z_up_qi, z_rw_fn] <;> omega) | fail) only [ite_self, Int.reduceAdd, e_129_0, e_129_8, e_129_16, e_129_25, e_129_33, e_129_81, e_129_101, e_129_109, e_129_116, e_129_127, e_129_137, e_129_151, e_129_163, e_129_169, e_129_192, e_129_87, e_129_120, e_129_131, e_129_140, e_129_178, e_129_186, e_129_90, e_143_0, e_143_6, e_144_0, e_144_11, e_144_20, e_144_33, e_144_39, e_144_56, e_144_47, e_145_0, e_145_6_0, e_145_6_1, e_145_6_2, e_145_6_3, e_145_12_0, e_145_12_1, e_145_12_2, e_145_12_3, e_145_31_0, e_145_25, e_145_31_1, e_145_31_2, e_145_31_3, e_145_52, e_145_40, e_145_43, e_146_0, e_146_6_0, e_146_6_1, e_146_6_2, e_146_6_3, e_146_12_0, e_146_12_1, e_146_12_2, e_146_12_3, e_146_32_0, e_146_25, e_146_32_1, e_146_32_2, e_146_32_3, e_146_49, e_146_57, e_146_60, e_147_0, e_147_11, e_147_19, e_147_32, e_147_38, e_147_55, e_147_46, s_133, s_234, s_has_8, s_get_8, s_39, e_131_0, e_132_0, w_ix1, w_iy1, hs, e_77_0_1, e_78_0_1, e_78_4_1, e_79_0_1, e_80_0_1, e_81_0_1, e_81_5_1, e_83_0_1, e_83_5_1, e_83_27_1, Int.reduceLT, Int.reduceLE, and_self, and_true, true_and, Option.bind_some, Int.add_zero, z_wid, or_true, true_or, z_up_fn, z_up_ni, z_up_eq, z_up_qi, z_rw_fn, z_rw_in, z_rw_out, if_pos, if_neg, ↓reduceIte]
      exact w_ret rfl
    · intro k hk
      simp (disch := omega) only [z_up_fn, z_rw_fn]
    · intro τ hτ
      simp (disch := first | omega | (simp (disch := omega) only [hτ] <;> omega) | fail) only [e_231_0, e_231_7, e_231_37, e_231_18, e_231_29, e_231_44, e_231_115, e_231_99, e_231_152, e_231_160, e_231_168, e_231_179, e_231_233, e_231_242, e_231_197, e_231_253, e_231_265, e_231_271, e_231_118, e_231_141, e_231_171, e_231_182, e_231_280, e_231_288, e_231_132, e_229_0, e_229_42, e_229_73, e_229_25, e_229_113, e_230_0, e_230_43, e_230_57, e_230_26, e_230_84, e_230_75, s_149, s_228, s_168, e_150_0, e_151_0, Int.reduceMul, Int.reduceAdd, Int.zero_add, ite_self, hs, e_229_0, e_229_42, e_229_73, e_229_79, e_229_25, e_229_113, Int.reduceLT, Int.reduceLE, and_self, and_true, true_and, n1, n2, n3, hτ, Option.bind_some, Int.add_zero, z_wid, or_true, true_or, z_up_fn, z_up_ni, z_up_eq, z_up_qi, z_rw_fn, z_rw_in, z_rw_out, if_pos, if_neg, ↓reduceIte]
      exact w_ret rfl
    · exact w_ref h 1
theorem o_forge3s1x (d : Nat) (s : Int → Int) (L : Int) (σ : Nat → Int → Int) (h : zV s L σ) (x2 x3 : Int) (hs : x3 % 4 = 1) (hn : x2 < 0) : zOK s L (d + 9) 129 231 [some (.inl 3), some (.inl x2), some (.inl x3)] [some (.inl 3), some (.inl x2), some (.inl x3), none] σ := by
  have hX := zV_X1 h
  have hX1 := hX.1
  have hX2 := hX.2.1
  have hX3 := hX.2.2.1
  have hX4 := hX.2.2.2.1
  have hX5 := hX.2.2.2.2.1
  have hX6 := hX.2.2.2.2.2.1
  by_cases c1 : -100 ≤ x2 ∧ x2 ≤ 100
  · by_cases c2 : -100 ≤ x3 ∧ x3 ≤ 100
    · by_cases c3 : ¬ σ 65 1 = -1
      · by_cases c4 : σ 65 1 = 0
        · apply zOK_mk2
          · simp (disch := first | omega | (simp (disch := omega) only [z_up_fn, z_up_ni, z_up_eq, z_up_qi, z_rw_fn] <;> omega) | fail) only [ite_self, Int.reduceAdd, e_129_0, e_129_8, e_129_16, e_129_25, e_129_33, e_129_81, e_129_101, e_129_109, e_129_116, e_129_127, e_129_137, e_129_151, e_129_163, e_129_169, e_129_192, e_129_87, e_129_120, e_129_131, e_129_140, e_129_178, e_129_186, e_129_90, e_143_0, e_143_6, e_144_0, e_144_11, e_144_20, e_144_33, e_144_39, e_144_56, e_144_47, e_145_0, e_145_6_0, e_145_6_1, e_145_6_2, e_145_6_3, e_145_12_0, e_145_12_1, e_145_12_2, e_145_12_3, e_145_31_0, e_145_25, e_145_31_1, e_145_31_2, e_145_31_3, e_145_52, e_145_40, e_145_43, e_146_0, e_146_6_0, e_146_6_1, e_146_6_2, e_146_6_3, e_146_12_0, e_146_12_1, e_146_12_2, e_146_12_3, e_146_32_0, e_146_25, e_146_32_1, e_146_32_2, e_146_32_3, e_146_49, e_146_57, e_146_60, e_147_0, e_147_11, e_147_19, e_147_32, e_147_38, e_147_55, e_147_46, s_133, s_234, s_has_8, s_get_8, s_39, e_131_0, e_132_0, w_ix1, w_iy1, hs, e_77_0_1, e_78_0_1, e_78_4_1, e_79_0_1, e_80_0_1, e_81_0_1, e_81_5_1, Option.bind_some, Int.add_zero, z_wid, or_true, true_or, z_up_fn, z_up_ni, z_up_eq, z_up_qi, z_rw_fn, z_rw_in, z_rw_out, if_pos, if_neg, ↓reduceIte]
            exact w_ret rfl
          · intro k hk
            simp (disch := omega) only [z_up_fn, z_rw_fn]
          · intro τ hτ
            simp (disch := first | omega | (simp (disch := omega) only [hτ] <;> omega) | fail) only [e_231_0, e_231_7, e_231_37, e_231_18, e_231_29, e_231_44, e_231_115, e_231_99, e_231_152, e_231_160, e_231_168, e_231_179, e_231_233, e_231_242, e_231_197, e_231_253, e_231_265, e_231_271, e_231_118, e_231_141, e_231_171, e_231_182, e_231_280, e_231_288, e_231_132, e_229_0, e_229_42, e_229_73, e_229_25, e_229_113, e_230_0, e_230_43, e_230_57, e_230_26, e_230_84, e_230_75, s_149, s_228, s_168, e_150_0, e_151_0, Int.reduceMul, Int.reduceAdd, Int.zero_add, ite_self, hs, ite_self, hτ, Option.bind_some, Int.add_zero, z_wid, or_true, true_or, z_up_fn, z_up_ni, z_up_eq, z_up_qi, z_rw_fn, z_rw_in, z_rw_out, if_pos, if_neg, ↓reduceIte]
            exact w_ret (by omega)
          · skip
            exact w_ref h 12
        · apply zOK_mk2
          · simp (disch := first | omega | (simp (disch := omega) only [z_up_fn, z_up_ni, z_up_eq, z_up_qi, z_rw_fn] <;> omega) | fail) only [ite_self, Int.reduceAdd, e_129_0, e_129_8, e_129_16, e_129_25, e_129_33, e_129_81, e_129_101, e_129_109, e_129_116, e_129_127, e_129_137, e_129_151, e_129_163, e_129_169, e_129_192, e_129_87, e_129_120, e_129_131, e_129_140, e_129_178, e_129_186, e_129_90, e_143_0, e_143_6, e_144_0, e_144_11, e_144_20, e_144_33, e_144_39, e_144_56, e_144_47, e_145_0, e_145_6_0, e_145_6_1, e_145_6_2, e_145_6_3, e_145_12_0, e_145_12_1, e_145_12_2, e_145_12_3, e_145_31_0, e_145_25, e_145_31_1, e_145_31_2, e_145_31_3, e_145_52, e_145_40, e_145_43, e_146_0, e_146_6_0, e_146_6_1, e_146_6_2, e_146_6_3, e_146_12_0, e_146_12_1, e_146_12_2, e_146_12_3, e_146_32_0, e_146_25, e_146_32_1, e_146_32_2, e_146_32_3, e_146_49, e_146_57, e_146_60, e_147_0, e_147_11, e_147_19, e_147_32, e_147_38, e_147_55, e_147_46, s_133, s_234, s_has_8, s_get_8, s_39, e_131_0, e_132_0, w_ix1, w_iy1, hs, e_77_0_1, e_78_0_1, e_78_4_1, e_79_0_1, e_80_0_1, e_81_0_1, e_81_5_1, Option.bind_some, Int.add_zero, z_wid, or_true, true_or, z_up_fn, z_up_ni, z_up_eq, z_up_qi, z_rw_fn, z_rw_in, z_rw_out, if_pos, if_neg, ↓reduceIte]
            exact w_ret rfl
          · intro k hk
            simp (disch := omega) only [z_up_fn, z_rw_fn]
          · intro τ hτ
            simp (disch := first | omega | (simp (disch := omega) only [hτ] <;> omega) | fail) only [e_231_0, e_231_7, e_231_37, e_231_18, e_231_29, e_231_44, e_231_115, e_231_99, e_231_152, e_231_160, e_231_168, e_231_179, e_231_233, e_231_242, e_231_197, e_231_253, e_231_265, e_231_271, e_231_118, e_231_141, e_231_171, e_231_182, e_231_280, e_231_288, e_231_132, e_229_0, e_229_42, e_229_73, e_229_25, e_229_113, e_230_0, e_230_43, e_230_57, e_230_26, e_230_84, e_230_75, s_149, s_228, s_168, e_150_0, e_151_0, Int.reduceMul, Int.reduceAdd, Int.zero_add, ite_self, hs, ite_self, hτ, Option.bind_some, Int.add_zero, z_wid, or_true, true_or, z_up_fn, z_up_ni, z_up_eq, z_up_qi, z_rw_fn, z_rw_in, z_rw_out, if_pos, if_neg, ↓reduceIte]
            exact w_ret rfl
          · exact w_ref h 11
      · apply zOK_mk2
        · simp (disch := first | omega | (simp (disch := omega) only [z_up_fn, z_up_ni, z_up_eq, z_up_qi, z_rw_fn] <;> omega) | fail) only [ite_self, Int.reduceAdd, e_129_0, e_129_8, e_129_16, e_129_25, e_129_33, e_129_81, e_129_101, e_129_109, e_129_116, e_129_127, e_129_137, e_129_151, e_129_163, e_129_169, e_129_192, e_129_87, e_129_120, e_129_131, e_129_140, e_129_178, e_129_186, e_129_90, e_143_0, e_143_6, e_144_0, e_144_11, e_144_20, e_144_33, e_144_39, e_144_56, e_144_47, e_145_0, e_145_6_0, e_145_6_1, e_145_6_2, e_145_6_3, e_145_12_0, e_145_12_1, e_145_12_2, e_145_12_3, e_145_31_0, e_145_25, e_145_31_1, e_145_31_2, e_145_31_3, e_145_52, e_145_40, e_145_43, e_146_0, e_146_6_0, e_146_6_1, e_146_6_2, e_146_6_3, e_146_12_0, e_146_12_1, e_146_12_2, e_146_12_3, e_146_32_0, e_146_25, e_146_32_1, e_146_32_2, e_146_32_3, e_146_49, e_146_57, e_146_60, e_147_0, e_147_11, e_147_19, e_147_32, e_147_38, e_147_55, e_147_46, s_133, s_234, s_has_8, s_get_8, s_39, e_131_0, e_132_0, w_ix1, w_iy1, hs, e_77_0_1, e_78_0_1, e_78_4_1, e_79_0_1, e_80_0_1, e_81_0_1, e_81_5_1, Option.bind_some, Int.add_zero, z_wid, or_true, true_or, z_up_fn, z_up_ni, z_up_eq, z_up_qi, z_rw_fn, z_rw_in, z_rw_out, if_pos, if_neg, ↓reduceIte]
          exact w_ret rfl
        · intro k hk
          simp (disch := omega) only [z_up_fn, z_rw_fn]
        · intro τ hτ
          simp (disch := first | omega | (simp (disch := omega) only [hτ] <;> omega) | fail) only [e_231_0, e_231_7, e_231_37, e_231_18, e_231_29, e_231_44, e_231_115, e_231_99, e_231_152, e_231_160, e_231_168, e_231_179, e_231_233, e_231_242, e_231_197, e_231_253, e_231_265, e_231_271, e_231_118, e_231_141, e_231_171, e_231_182, e_231_280, e_231_288, e_231_132, e_229_0, e_229_42, e_229_73, e_229_25, e_229_113, e_230_0, e_230_43, e_230_57, e_230_26, e_230_84, e_230_75, s_149, s_228, s_168, e_150_0, e_151_0, Int.reduceMul, Int.reduceAdd, Int.zero_add, ite_self, hs, ite_self, hτ, Option.bind_some, Int.add_zero, z_wid, or_true, true_or, z_up_fn, z_up_ni, z_up_eq, z_up_qi, z_rw_fn, z_rw_in, z_rw_out, if_pos, if_neg, ↓reduceIte]
          exact w_ret rfl
        · exact w_ref h 10
    · apply zOK_mk2
      · simp (disch := first | omega | (simp (disch := omega) only [z_up_fn, z_up_ni, z_up_eq, z_up_qi, z_rw_fn] <;> omega) | fail) only [ite_self, Int.reduceAdd, e_129_0, e_129_8, e_129_16, e_129_25, e_129_33, e_129_81, e_129_101, e_129_109, e_129_116, e_129_127, e_129_137, e_129_151, e_129_163, e_129_169, e_129_192, e_129_87, e_129_120, e_129_131, e_129_140, e_129_178, e_129_186, e_129_90, e_143_0, e_143_6, e_144_0, e_144_11, e_144_20, e_144_33, e_144_39, e_144_56, e_144_47, e_145_0, e_145_6_0, e_145_6_1, e_145_6_2, e_145_6_3, e_145_12_0, e_145_12_1, e_145_12_2, e_145_12_3, e_145_31_0, e_145_25, e_145_31_1, e_145_31_2, e_145_31_3, e_145_52, e_145_40, e_145_43, e_146_0, e_146_6_0, e_146_6_1, e_146_6_2, e_146_6_3, e_146_12_0, e_146_12_1, e_146_12_2, e_146_12_3, e_146_32_0, e_146_25, e_146_32_1, e_146_32_2, e_146_32_3, e_146_49, e_146_57, e_146_60, e_147_0, e_147_11, e_147_19, e_147_32, e_147_38, e_147_55, e_147_46, s_133, s_234, s_has_8, s_get_8, s_39, e_131_0, e_132_0, w_ix1, w_iy1, hs, e_77_0_1, e_78_0_1, e_78_4_1, e_79_0_1, e_80_0_1, e_81_0_1, e_81_5_1, Option.bind_some, Int.add_zero, z_wid, or_true, true_or, z_up_fn, z_up_ni, z_up_eq, z_up_qi, z_rw_fn, z_rw_in, z_rw_out, if_pos, if_neg, ↓reduceIte]
        exact w_ret rfl
      · intro k hk
        simp (disch := omega) only [z_up_fn, z_rw_fn]
      · intro τ hτ
        simp (disch := first | omega | (simp (disch := omega) only [hτ] <;> omega) | fail) only [e_231_0, e_231_7, e_231_37, e_231_18, e_231_29, e_231_44, e_231_115, e_231_99, e_231_152, e_231_160, e_231_168, e_231_179, e_231_233, e_231_242, e_231_197, e_231_253, e_231_265, e_231_271, e_231_118, e_231_141, e_231_171, e_231_182, e_231_280, e_231_288, e_231_132, e_229_0, e_229_42, e_229_73, e_229_25, e_229_113, e_230_0, e_230_43, e_230_57, e_230_26, e_230_84, e_230_75, s_149, s_228, s_168, e_150_0, e_151_0, Int.reduceMul, Int.reduceAdd, Int.zero_add, ite_self, hs, ite_self, hτ, Option.bind_some, Int.add_zero, z_wid, or_true, true_or, z_up_fn, z_up_ni, z_up_eq, z_up_qi, z_rw_fn, z_rw_in, z_rw_out, if_pos, if_neg, ↓reduceIte]
        exact w_ret rfl
      · exact w_ref h 1
  · apply zOK_mk2
    · simp (disch := first | omega | (simp (disch := omega) only [z_up_fn, z_up_ni, z_up_eq, z_up_qi, z_rw_fn] <;> omega) | fail) only [ite_self, Int.reduceAdd, e_129_0, e_129_8, e_129_16, e_129_25, e_129_33, e_129_81, e_129_101, e_129_109, e_129_116, e_129_127, e_129_137, e_129_151, e_129_163, e_129_169, e_129_192, e_129_87, e_129_120, e_129_131, e_129_140, e_129_178, e_129_186, e_129_90, e_143_0, e_143_6, e_144_0, e_144_11, e_144_20, e_144_33, e_144_39, e_144_56, e_144_47, e_145_0, e_145_6_0, e_145_6_1, e_145_6_2, e_145_6_3, e_145_12_0, e_145_12_1, e_145_12_2, e_145_12_3, e_145_31_0, e_145_25, e_145_31_1, e_145_31_2, e_145_31_3, e_145_52, e_145_40, e_145_43, e_146_0, e_146_6_0, e_146_6_1, e_146_6_2, e_146_6_3, e_146_12_0, e_146_12_1, e_146_12_2, e_146_12_3, e_146_32_0, e_146_25, e_146_32_1, e_146_32_2, e_146_32_3, e_146_49, e_146_57, e_146_60, e_147_0, e_147_11, e_147_19, e_147_32, e_147_38, e_147_55, e_147_46, s_133, s_234, s_has_8, s_get_8, s_39, e_131_0, e_132_0, w_ix1, w_iy1, hs, e_77_0_1, e_78_0_1, e_78_4_1, e_79_0_1, e_80_0_1, e_81_0_1, e_81_5_1, Option.bind_some, Int.add_zero, z_wid, or_true, true_or, z_up_fn, z_up_ni, z_up_eq, z_up_qi, z_rw_fn, z_rw_in, z_rw_out, if_pos, if_neg, ↓reduceIte]
      exact w_ret rfl
    · intro k hk
      simp (disch := omega) only [z_up_fn, z_rw_fn]
    · intro τ hτ
      simp (disch := first | omega | (simp (disch := omega) only [hτ] <;> omega) | fail) only [e_231_0, e_231_7, e_231_37, e_231_18, e_231_29, e_231_44, e_231_115, e_231_99, e_231_152, e_231_160, e_231_168, e_231_179, e_231_233, e_231_242, e_231_197, e_231_253, e_231_265, e_231_271, e_231_118, e_231_141, e_231_171, e_231_182, e_231_280, e_231_288, e_231_132, e_229_0, e_229_42, e_229_73, e_229_25, e_229_113, e_230_0, e_230_43, e_230_57, e_230_26, e_230_84, e_230_75, s_149, s_228, s_168, e_150_0, e_151_0, Int.reduceMul, Int.reduceAdd, Int.zero_add, ite_self, hs, ite_self, hτ, Option.bind_some, Int.add_zero, z_wid, or_true, true_or, z_up_fn, z_up_ni, z_up_eq, z_up_qi, z_rw_fn, z_rw_in, z_rw_out, if_pos, if_neg, ↓reduceIte]
      exact w_ret rfl
    · exact w_ref h 1
theorem o_forge3s1y (d : Nat) (s : Int → Int) (L : Int) (σ : Nat → Int → Int) (h : zV s L σ) (x2 x3 : Int) (hs : x3 % 4 = 1) (hn : 3 < x2 ∧ x2 + 1 ≤ σ 65 2) : zOK s L (d + 9) 129 231 [some (.inl 3), some (.inl x2), some (.inl x3)] [some (.inl 3), some (.inl x2), some (.inl x3), none] σ := by
  have hX := zV_X1 h
  have hX1 := hX.1
  have hX2 := hX.2.1
  have hX3 := hX.2.2.1
  have hX4 := hX.2.2.2.1
  have hX5 := hX.2.2.2.2.1
  have hX6 := hX.2.2.2.2.2.1
  by_cases c1 : -100 ≤ x2 ∧ x2 ≤ 100
  · by_cases c2 : -100 ≤ x3 ∧ x3 ≤ 100
    · by_cases c3 : ¬ σ 65 1 = -1
      · by_cases c4 : σ 65 1 = 0
        · apply zOK_mk2
          · simp (disch := first | omega | (simp (disch := omega) only [z_up_fn, z_up_ni, z_up_eq, z_up_qi, z_rw_fn] <;> omega) | fail) only [ite_self, Int.reduceAdd, e_129_0, e_129_8, e_129_16, e_129_25, e_129_33, e_129_81, e_129_101, e_129_109, e_129_116, e_129_127, e_129_137, e_129_151, e_129_163, e_129_169, e_129_192, e_129_87, e_129_120, e_129_131, e_129_140, e_129_178, e_129_186, e_129_90, e_143_0, e_143_6, e_144_0, e_144_11, e_144_20, e_144_33, e_144_39, e_144_56, e_144_47, e_145_0, e_145_6_0, e_145_6_1, e_145_6_2, e_145_6_3, e_145_12_0, e_145_12_1, e_145_12_2, e_145_12_3, e_145_31_0, e_145_25, e_145_31_1, e_145_31_2, e_145_31_3, e_145_52, e_145_40, e_145_43, e_146_0, e_146_6_0, e_146_6_1, e_146_6_2, e_146_6_3, e_146_12_0, e_146_12_1, e_146_12_2, e_146_12_3, e_146_32_0, e_146_25, e_146_32_1, e_146_32_2, e_146_32_3, e_146_49, e_146_57, e_146_60, e_147_0, e_147_11, e_147_19, e_147_32, e_147_38, e_147_55, e_147_46, s_133, s_234, s_has_8, s_get_8, s_39, e_131_0, e_132_0, w_ix1, w_iy1, hs, e_77_0_1, e_78_0_1, e_78_4_1, e_79_0_1, e_80_0_1, e_81_0_1, e_81_5_1, Option.bind_some, Int.add_zero, z_wid, or_true, true_or, z_up_fn, z_up_ni, z_up_eq, z_up_qi, z_rw_fn, z_rw_in, z_rw_out, if_pos, if_neg, ↓reduceIte]
            exact w_ret rfl
          · intro k hk
            simp (disch := omega) only [z_up_fn, z_rw_fn]
          · intro τ hτ
            simp (disch := first | omega | (simp (disch := omega) only [hτ] <;> omega) | fail) only [e_231_0, e_231_7, e_231_37, e_231_18, e_231_29, e_231_44, e_231_115, e_231_99, e_231_152, e_231_160, e_231_168, e_231_179, e_231_233, e_231_242, e_231_197, e_231_253, e_231_265, e_231_271, e_231_118, e_231_141, e_231_171, e_231_182, e_231_280, e_231_288, e_231_132, e_229_0, e_229_42, e_229_73, e_229_25, e_229_113, e_230_0, e_230_43, e_230_57, e_230_26, e_230_84, e_230_75, s_149, s_228, s_168, e_150_0, e_151_0, Int.reduceMul, Int.reduceAdd, Int.zero_add, ite_self, hs, ite_self, hτ, Option.bind_some, Int.add_zero, z_wid, or_true, true_or, z_up_fn, z_up_ni, z_up_eq, z_up_qi, z_rw_fn, z_rw_in, z_rw_out, if_pos, if_neg, ↓reduceIte]
            exact w_ret (by omega)
          · skip
            exact w_ref h 12
        · apply zOK_mk2
          · simp (disch := first | omega | (simp (disch := omega) only [z_up_fn, z_up_ni, z_up_eq, z_up_qi, z_rw_fn] <;> omega) | fail) only [ite_self, Int.reduceAdd, e_129_0, e_129_8, e_129_16, e_129_25, e_129_33, e_129_81, e_129_101, e_129_109, e_129_116, e_129_127, e_129_137, e_129_151, e_129_163, e_129_169, e_129_192, e_129_87, e_129_120, e_129_131, e_129_140, e_129_178, e_129_186, e_129_90, e_143_0, e_143_6, e_144_0, e_144_11, e_144_20, e_144_33, e_144_39, e_144_56, e_144_47, e_145_0, e_145_6_0, e_145_6_1, e_145_6_2, e_145_6_3, e_145_12_0, e_145_12_1, e_145_12_2, e_145_12_3, e_145_31_0, e_145_25, e_145_31_1, e_145_31_2, e_145_31_3, e_145_52, e_145_40, e_145_43, e_146_0, e_146_6_0, e_146_6_1, e_146_6_2, e_146_6_3, e_146_12_0, e_146_12_1, e_146_12_2, e_146_12_3, e_146_32_0, e_146_25, e_146_32_1, e_146_32_2, e_146_32_3, e_146_49, e_146_57, e_146_60, e_147_0, e_147_11, e_147_19, e_147_32, e_147_38, e_147_55, e_147_46, s_133, s_234, s_has_8, s_get_8, s_39, e_131_0, e_132_0, w_ix1, w_iy1, hs, e_77_0_1, e_78_0_1, e_78_4_1, e_79_0_1, e_80_0_1, e_81_0_1, e_81_5_1, Option.bind_some, Int.add_zero, z_wid, or_true, true_or, z_up_fn, z_up_ni, z_up_eq, z_up_qi, z_rw_fn, z_rw_in, z_rw_out, if_pos, if_neg, ↓reduceIte]
            exact w_ret rfl
          · intro k hk
            simp (disch := omega) only [z_up_fn, z_rw_fn]
          · intro τ hτ
            simp (disch := first | omega | (simp (disch := omega) only [hτ] <;> omega) | fail) only [e_231_0, e_231_7, e_231_37, e_231_18, e_231_29, e_231_44, e_231_115, e_231_99, e_231_152, e_231_160, e_231_168, e_231_179, e_231_233, e_231_242, e_231_197, e_231_253, e_231_265, e_231_271, e_231_118, e_231_141, e_231_171, e_231_182, e_231_280, e_231_288, e_231_132, e_229_0, e_229_42, e_229_73, e_229_25, e_229_113, e_230_0, e_230_43, e_230_57, e_230_26, e_230_84, e_230_75, s_149, s_228, s_168, e_150_0, e_151_0, Int.reduceMul, Int.reduceAdd, Int.zero_add, ite_self, hs, ite_self, hτ, Option.bind_some, Int.add_zero, z_wid, or_true, true_or, z_up_fn, z_up_ni, z_up_eq, z_up_qi, z_rw_fn, z_rw_in, z_rw_out, if_pos, if_neg, ↓reduceIte]
            exact w_ret rfl
          · exact w_ref h 11
      · apply zOK_mk2
        · simp (disch := first | omega | (simp (disch := omega) only [z_up_fn, z_up_ni, z_up_eq, z_up_qi, z_rw_fn] <;> omega) | fail) only [ite_self, Int.reduceAdd, e_129_0, e_129_8, e_129_16, e_129_25, e_129_33, e_129_81, e_129_101, e_129_109, e_129_116, e_129_127, e_129_137, e_129_151, e_129_163, e_129_169, e_129_192, e_129_87, e_129_120, e_129_131, e_129_140, e_129_178, e_129_186, e_129_90, e_143_0, e_143_6, e_144_0, e_144_11, e_144_20, e_144_33, e_144_39, e_144_56, e_144_47, e_145_0, e_145_6_0, e_145_6_1, e_145_6_2, e_145_6_3, e_145_12_0, e_145_12_1, e_145_12_2, e_145_12_3, e_145_31_0, e_145_25, e_145_31_1, e_145_31_2, e_145_31_3, e_145_52, e_145_40, e_145_43, e_146_0, e_146_6_0, e_146_6_1, e_146_6_2, e_146_6_3, e_146_12_0, e_146_12_1, e_146_12_2, e_146_12_3, e_146_32_0, e_146_25, e_146_32_1, e_146_32_2, e_146_32_3, e_146_49, e_146_57, e_146_60, e_147_0, e_147_11, e_147_19, e_147_32, e_147_38, e_147_55, e_147_46, s_133, s_234, s_has_8, s_get_8, s_39, e_131_0, e_132_0, w_ix1, w_iy1, hs, e_77_0_1, e_78_0_1, e_78_4_1, e_79_0_1, e_80_0_1, e_81_0_1, e_81_5_1, Option.bind_some, Int.add_zero, z_wid, or_true, true_or, z_up_fn, z_up_ni, z_up_eq, z_up_qi, z_rw_fn, z_rw_in, z_rw_out, if_pos, if_neg, ↓reduceIte]
          exact w_ret rfl
        · intro k hk
          simp (disch := omega) only [z_up_fn, z_rw_fn]
        · intro τ hτ
          simp (disch := first | omega | (simp (disch := omega) only [hτ] <;> omega) | fail) only [e_231_0, e_231_7, e_231_37, e_231_18, e_231_29, e_231_44, e_231_115, e_231_99, e_231_152, e_231_160, e_231_168, e_231_179, e_231_233, e_231_242, e_231_197, e_231_253, e_231_265, e_231_271, e_231_118, e_231_141, e_231_171, e_231_182, e_231_280, e_231_288, e_231_132, e_229_0, e_229_42, e_229_73, e_229_25, e_229_113, e_230_0, e_230_43, e_230_57, e_230_26, e_230_84, e_230_75, s_149, s_228, s_168, e_150_0, e_151_0, Int.reduceMul, Int.reduceAdd, Int.zero_add, ite_self, hs, ite_self, hτ, Option.bind_some, Int.add_zero, z_wid, or_true, true_or, z_up_fn, z_up_ni, z_up_eq, z_up_qi, z_rw_fn, z_rw_in, z_rw_out, if_pos, if_neg, ↓reduceIte]
          exact w_ret rfl
        · exact w_ref h 10
    · apply zOK_mk2
      · simp (disch := first | omega | (simp (disch := omega) only [z_up_fn, z_up_ni, z_up_eq, z_up_qi, z_rw_fn] <;> omega) | fail) only [ite_self, Int.reduceAdd, e_129_0, e_129_8, e_129_16, e_129_25, e_129_33, e_129_81, e_129_101, e_129_109, e_129_116, e_129_127, e_129_137, e_129_151, e_129_163, e_129_169, e_129_192, e_129_87, e_129_120, e_129_131, e_129_140, e_129_178, e_129_186, e_129_90, e_143_0, e_143_6, e_144_0, e_144_11, e_144_20, e_144_33, e_144_39, e_144_56, e_144_47, e_145_0, e_145_6_0, e_145_6_1, e_145_6_2, e_145_6_3, e_145_12_0, e_145_12_1, e_145_12_2, e_145_12_3, e_145_31_0, e_145_25, e_145_31_1, e_145_31_2, e_145_31_3, e_145_52, e_145_40, e_145_43, e_146_0, e_146_6_0, e_146_6_1, e_146_6_2, e_146_6_3, e_146_12_0, e_146_12_1, e_146_12_2, e_146_12_3, e_146_32_0, e_146_25, e_146_32_1, e_146_32_2, e_146_32_3, e_146_49, e_146_57, e_146_60, e_147_0, e_147_11, e_147_19, e_147_32, e_147_38, e_147_55, e_147_46, s_133, s_234, s_has_8, s_get_8, s_39, e_131_0, e_132_0, w_ix1, w_iy1, hs, e_77_0_1, e_78_0_1, e_78_4_1, e_79_0_1, e_80_0_1, e_81_0_1, e_81_5_1, Option.bind_some, Int.add_zero, z_wid, or_true, true_or, z_up_fn, z_up_ni, z_up_eq, z_up_qi, z_rw_fn, z_rw_in, z_rw_out, if_pos, if_neg, ↓reduceIte]
        exact w_ret rfl
      · intro k hk
        simp (disch := omega) only [z_up_fn, z_rw_fn]
      · intro τ hτ
        simp (disch := first | omega | (simp (disch := omega) only [hτ] <;> omega) | fail) only [e_231_0, e_231_7, e_231_37, e_231_18, e_231_29, e_231_44, e_231_115, e_231_99, e_231_152, e_231_160, e_231_168, e_231_179, e_231_233, e_231_242, e_231_197, e_231_253, e_231_265, e_231_271, e_231_118, e_231_141, e_231_171, e_231_182, e_231_280, e_231_288, e_231_132, e_229_0, e_229_42, e_229_73, e_229_25, e_229_113, e_230_0, e_230_43, e_230_57, e_230_26, e_230_84, e_230_75, s_149, s_228, s_168, e_150_0, e_151_0, Int.reduceMul, Int.reduceAdd, Int.zero_add, ite_self, hs, ite_self, hτ, Option.bind_some, Int.add_zero, z_wid, or_true, true_or, z_up_fn, z_up_ni, z_up_eq, z_up_qi, z_rw_fn, z_rw_in, z_rw_out, if_pos, if_neg, ↓reduceIte]
        exact w_ret rfl
      · exact w_ref h 1
  · apply zOK_mk2
    · simp (disch := first | omega | (simp (disch := omega) only [z_up_fn, z_up_ni, z_up_eq, z_up_qi, z_rw_fn] <;> omega) | fail) only [ite_self, Int.reduceAdd, e_129_0, e_129_8, e_129_16, e_129_25, e_129_33, e_129_81, e_129_101, e_129_109, e_129_116, e_129_127, e_129_137, e_129_151, e_129_163, e_129_169, e_129_192, e_129_87, e_129_120, e_129_131, e_129_140, e_129_178, e_129_186, e_129_90, e_143_0, e_143_6, e_144_0, e_144_11, e_144_20, e_144_33, e_144_39, e_144_56, e_144_47, e_145_0, e_145_6_0, e_145_6_1, e_145_6_2, e_145_6_3, e_145_12_0, e_145_12_1, e_145_12_2, e_145_12_3, e_145_31_0, e_145_25, e_145_31_1, e_145_31_2, e_145_31_3, e_145_52, e_145_40, e_145_43, e_146_0, e_146_6_0, e_146_6_1, e_146_6_2, e_146_6_3, e_146_12_0, e_146_12_1, e_146_12_2, e_146_12_3, e_146_32_0, e_146_25, e_146_32_1, e_146_32_2, e_146_32_3, e_146_49, e_146_57, e_146_60, e_147_0, e_147_11, e_147_19, e_147_32, e_147_38, e_147_55, e_147_46, s_133, s_234, s_has_8, s_get_8, s_39, e_131_0, e_132_0, w_ix1, w_iy1, hs, e_77_0_1, e_78_0_1, e_78_4_1, e_79_0_1, e_80_0_1, e_81_0_1, e_81_5_1, Option.bind_some, Int.add_zero, z_wid, or_true, true_or, z_up_fn, z_up_ni, z_up_eq, z_up_qi, z_rw_fn, z_rw_in, z_rw_out, if_pos, if_neg, ↓reduceIte]
      exact w_ret rfl
    · intro k hk
      simp (disch := omega) only [z_up_fn, z_rw_fn]
    · intro τ hτ
      simp (disch := first | omega | (simp (disch := omega) only [hτ] <;> omega) | fail) only [e_231_0, e_231_7, e_231_37, e_231_18, e_231_29, e_231_44, e_231_115, e_231_99, e_231_152, e_231_160, e_231_168, e_231_179, e_231_233, e_231_242, e_231_197, e_231_253, e_231_265, e_231_271, e_231_118, e_231_141, e_231_171, e_231_182, e_231_280, e_231_288, e_231_132, e_229_0, e_229_42, e_229_73, e_229_25, e_229_113, e_230_0, e_230_43, e_230_57, e_230_26, e_230_84, e_230_75, s_149, s_228, s_168, e_150_0, e_151_0, Int.reduceMul, Int.reduceAdd, Int.zero_add, ite_self, hs, ite_self, hτ, Option.bind_some, Int.add_zero, z_wid, or_true, true_or, z_up_fn, z_up_ni, z_up_eq, z_up_qi, z_rw_fn, z_rw_in, z_rw_out, if_pos, if_neg, ↓reduceIte]
      exact w_ret rfl
    · exact w_ref h 1
theorem o_forge3s1z (d : Nat) (s : Int → Int) (L : Int) (σ : Nat → Int → Int) (h : zV s L σ) (x2 x3 : Int) (hs : x3 % 4 = 1) (hn : 3 < x2 ∧ ¬ x2 + 1 ≤ σ 65 2) : zOK s L (d + 9) 129 231 [some (.inl 3), some (.inl x2), some (.inl x3)] [some (.inl 3), some (.inl x2), some (.inl x3), none] σ := by
  have hX := zV_X1 h
  have hX1 := hX.1
  have hX2 := hX.2.1
  have hX3 := hX.2.2.1
  have hX4 := hX.2.2.2.1
  have hX5 := hX.2.2.2.2.1
  have hX6 := hX.2.2.2.2.2.1
  by_cases c1 : -100 ≤ x2 ∧ x2 ≤ 100
  · by_cases c2 : -100 ≤ x3 ∧ x3 ≤ 100
    · by_cases c3 : ¬ σ 65 1 = -1
      · by_cases c4 : σ 65 1 = 0
        · apply zOK_mk2
          · simp (disch := first | omega | (simp (disch := omega) only [z_up_fn, z_up_ni, z_up_eq, z_up_qi, z_rw_fn] <;> omega) | fail) only [ite_self, Int.reduceAdd, e_129_0, e_129_8, e_129_16, e_129_25, e_129_33, e_129_81, e_129_101, e_129_109, e_129_116, e_129_127, e_129_137, e_129_151, e_129_163, e_129_169, e_129_192, e_129_87, e_129_120, e_129_131, e_129_140, e_129_178, e_129_186, e_129_90, e_143_0, e_143_6, e_144_0, e_144_11, e_144_20, e_144_33, e_144_39, e_144_56, e_144_47, e_145_0, e_145_6_0, e_145_6_1, e_145_6_2, e_145_6_3, e_145_12_0, e_145_12_1, e_145_12_2, e_145_12_3, e_145_31_0, e_145_25, e_145_31_1, e_145_31_2, e_145_31_3, e_145_52, e_145_40, e_145_43, e_146_0, e_146_6_0, e_146_6_1, e_146_6_2, e_146_6_3, e_146_12_0, e_146_12_1, e_146_12_2, e_146_12_3, e_146_32_0, e_146_25, e_146_32_1, e_146_32_2, e_146_32_3, e_146_49, e_146_57, e_146_60, e_147_0, e_147_11, e_147_19, e_147_32, e_147_38, e_147_55, e_147_46, s_133, s_234, s_has_8, s_get_8, s_39, e_131_0, e_132_0, w_ix1, w_iy1, hs, e_77_0_1, e_78_0_1, e_78_4_1, e_79_0_1, e_80_0_1, e_81_0_1, e_81_5_1, Option.bind_some, Int.add_zero, z_wid, or_true, true_or, z_up_fn, z_up_ni, z_up_eq, z_up_qi, z_rw_fn, z_rw_in, z_rw_out, if_pos, if_neg, ↓reduceIte]
            exact w_ret rfl
          · intro k hk
            simp (disch := omega) only [z_up_fn, z_rw_fn]
          · intro τ hτ
            simp (disch := first | omega | (simp (disch := omega) only [hτ] <;> omega) | fail) only [e_231_0, e_231_7, e_231_37, e_231_18, e_231_29, e_231_44, e_231_115, e_231_99, e_231_152, e_231_160, e_231_168, e_231_179, e_231_233, e_231_242, e_231_197, e_231_253, e_231_265, e_231_271, e_231_118, e_231_141, e_231_171, e_231_182, e_231_280, e_231_288, e_231_132, e_229_0, e_229_42, e_229_73, e_229_25, e_229_113, e_230_0, e_230_43, e_230_57, e_230_26, e_230_84, e_230_75, s_149, s_228, s_168, e_150_0, e_151_0, Int.reduceMul, Int.reduceAdd, Int.zero_add, ite_self, hs, ite_self, hτ, Option.bind_some, Int.add_zero, z_wid, or_true, true_or, z_up_fn, z_up_ni, z_up_eq, z_up_qi, z_rw_fn, z_rw_in, z_rw_out, if_pos, if_neg, ↓reduceIte]
            exact w_ret (by omega)
          · skip
            exact w_ref h 12
        · apply zOK_mk2
          · simp (disch := first | omega | (simp (disch := omega) only [z_up_fn, z_up_ni, z_up_eq, z_up_qi, z_rw_fn] <;> omega) | fail) only [ite_self, Int.reduceAdd, e_129_0, e_129_8, e_129_16, e_129_25, e_129_33, e_129_81, e_129_101, e_129_109, e_129_116, e_129_127, e_129_137, e_129_151, e_129_163, e_129_169, e_129_192, e_129_87, e_129_120, e_129_131, e_129_140, e_129_178, e_129_186, e_129_90, e_143_0, e_143_6, e_144_0, e_144_11, e_144_20, e_144_33, e_144_39, e_144_56, e_144_47, e_145_0, e_145_6_0, e_145_6_1, e_145_6_2, e_145_6_3, e_145_12_0, e_145_12_1, e_145_12_2, e_145_12_3, e_145_31_0, e_145_25, e_145_31_1, e_145_31_2, e_145_31_3, e_145_52, e_145_40, e_145_43, e_146_0, e_146_6_0, e_146_6_1, e_146_6_2, e_146_6_3, e_146_12_0, e_146_12_1, e_146_12_2, e_146_12_3, e_146_32_0, e_146_25, e_146_32_1, e_146_32_2, e_146_32_3, e_146_49, e_146_57, e_146_60, e_147_0, e_147_11, e_147_19, e_147_32, e_147_38, e_147_55, e_147_46, s_133, s_234, s_has_8, s_get_8, s_39, e_131_0, e_132_0, w_ix1, w_iy1, hs, e_77_0_1, e_78_0_1, e_78_4_1, e_79_0_1, e_80_0_1, e_81_0_1, e_81_5_1, Option.bind_some, Int.add_zero, z_wid, or_true, true_or, z_up_fn, z_up_ni, z_up_eq, z_up_qi, z_rw_fn, z_rw_in, z_rw_out, if_pos, if_neg, ↓reduceIte]
            exact w_ret rfl
          · intro k hk
            simp (disch := omega) only [z_up_fn, z_rw_fn]
          · intro τ hτ
            simp (disch := first | omega | (simp (disch := omega) only [hτ] <;> omega) | fail) only [e_231_0, e_231_7, e_231_37, e_231_18, e_231_29, e_231_44, e_231_115, e_231_99, e_231_152, e_231_160, e_231_168, e_231_179, e_231_233, e_231_242, e_231_197, e_231_253, e_231_265, e_231_271, e_231_118, e_231_141, e_231_171, e_231_182, e_231_280, e_231_288, e_231_132, e_229_0, e_229_42, e_229_73, e_229_25, e_229_113, e_230_0, e_230_43, e_230_57, e_230_26, e_230_84, e_230_75, s_149, s_228, s_168, e_150_0, e_151_0, Int.reduceMul, Int.reduceAdd, Int.zero_add, ite_self, hs, ite_self, hτ, Option.bind_some, Int.add_zero, z_wid, or_true, true_or, z_up_fn, z_up_ni, z_up_eq, z_up_qi, z_rw_fn, z_rw_in, z_rw_out, if_pos, if_neg, ↓reduceIte]
            exact w_ret rfl
          · exact w_ref h 11
      · apply zOK_mk2
        · simp (disch := first | omega | (simp (disch := omega) only [z_up_fn, z_up_ni, z_up_eq, z_up_qi, z_rw_fn] <;> omega) | fail) only [ite_self, Int.reduceAdd, e_129_0, e_129_8, e_129_16, e_129_25, e_129_33, e_129_81, e_129_101, e_129_109, e_129_116, e_129_127, e_129_137, e_129_151, e_129_163, e_129_169, e_129_192, e_129_87, e_129_120, e_129_131, e_129_140, e_129_178, e_129_186, e_129_90, e_143_0, e_143_6, e_144_0, e_144_11, e_144_20, e_144_33, e_144_39, e_144_56, e_144_47, e_145_0, e_145_6_0, e_145_6_1, e_145_6_2, e_145_6_3, e_145_12_0, e_145_12_1, e_145_12_2, e_145_12_3, e_145_31_0, e_145_25, e_145_31_1, e_145_31_2, e_145_31_3, e_145_52, e_145_40, e_145_43, e_146_0, e_146_6_0, e_146_6_1, e_146_6_2, e_146_6_3, e_146_12_0, e_146_12_1, e_146_12_2, e_146_12_3, e_146_32_0, e_146_25, e_146_32_1, e_146_32_2, e_146_32_3, e_146_49, e_146_57, e_146_60, e_147_0, e_147_11, e_147_19, e_147_32, e_147_38, e_147_55, e_147_46, s_133, s_234, s_has_8, s_get_8, s_39, e_131_0, e_132_0, w_ix1, w_iy1, hs, e_77_0_1, e_78_0_1, e_78_4_1, e_79_0_1, e_80_0_1, e_81_0_1, e_81_5_1, Option.bind_some, Int.add_zero, z_wid, or_true, true_or, z_up_fn, z_up_ni, z_up_eq, z_up_qi, z_rw_fn, z_rw_in, z_rw_out, if_pos, if_neg, ↓reduceIte]
          exact w_ret rfl
        · intro k hk
          simp (disch := omega) only [z_up_fn, z_rw_fn]
        · intro τ hτ
          simp (disch := first | omega | (simp (disch := omega) only [hτ] <;> omega) | fail) only [e_231_0, e_231_7, e_231_37, e_231_18, e_231_29, e_231_44, e_231_115, e_231_99, e_231_152, e_231_160, e_231_168, e_231_179, e_231_233, e_231_242, e_231_197, e_231_253, e_231_265, e_231_271, e_231_118, e_231_141, e_231_171, e_231_182, e_231_280, e_231_288, e_231_132, e_229_0, e_229_42, e_229_73, e_229_25, e_229_113, e_230_0, e_230_43, e_230_57, e_230_26, e_230_84, e_230_75, s_149, s_228, s_168, e_150_0, e_151_0, Int.reduceMul, Int.reduceAdd, Int.zero_add, ite_self, hs, ite_self, hτ, Option.bind_some, Int.add_zero, z_wid, or_true, true_or, z_up_fn, z_up_ni, z_up_eq, z_up_qi, z_rw_fn, z_rw_in, z_rw_out, if_pos, if_neg, ↓reduceIte]
          exact w_ret rfl
        · exact w_ref h 10
    · apply zOK_mk2
      · simp (disch := first | omega | (simp (disch := omega) only [z_up_fn, z_up_ni, z_up_eq, z_up_qi, z_rw_fn] <;> omega) | fail) only [ite_self, Int.reduceAdd, e_129_0, e_129_8, e_129_16, e_129_25, e_129_33, e_129_81, e_129_101, e_129_109, e_129_116, e_129_127, e_129_137, e_129_151, e_129_163, e_129_169, e_129_192, e_129_87, e_129_120, e_129_131, e_129_140, e_129_178, e_129_186, e_129_90, e_143_0, e_143_6, e_144_0, e_144_11, e_144_20, e_144_33, e_144_39, e_144_56, e_144_47, e_145_0, e_145_6_0, e_145_6_1, e_145_6_2, e_145_6_3, e_145_12_0, e_145_12_1, e_145_12_2, e_145_12_3, e_145_31_0, e_145_25, e_145_31_1, e_145_31_2, e_145_31_3, e_145_52, e_145_40, e_145_43, e_146_0, e_146_6_0, e_146_6_1, e_146_6_2, e_146_6_3, e_146_12_0, e_146_12_1, e_146_12_2, e_146_12_3, e_146_32_0, e_146_25, e_146_32_1, e_146_32_2, e_146_32_3, e_146_49, e_146_57, e_146_60, e_147_0, e_147_11, e_147_19, e_147_32, e_147_38, e_147_55, e_147_46, s_133, s_234, s_has_8, s_get_8, s_39, e_131_0, e_132_0, w_ix1, w_iy1, hs, e_77_0_1, e_78_0_1, e_78_4_1, e_79_0_1, e_80_0_1, e_81_0_1, e_81_5_1, Option.bind_some, Int.add_zero, z_wid, or_true, true_or, z_up_fn, z_up_ni, z_up_eq, z_up_qi, z_rw_fn, z_rw_in, z_rw_out, if_pos, if_neg, ↓reduceIte]
        exact w_ret rfl
      · intro k hk
        simp (disch := omega) only [z_up_fn, z_rw_fn]
      · intro τ hτ
        simp (disch := first | omega | (simp (disch := omega) only [hτ] <;> omega) | fail) only [e_231_0, e_231_7, e_231_37, e_231_18, e_231_29, e_231_44, e_231_115, e_231_99, e_231_152, e_231_160, e_231_168, e_231_179, e_231_233, e_231_242, e_231_197, e_231_253, e_231_265, e_231_271, e_231_118, e_231_141, e_231_171, e_231_182, e_231_280, e_231_288, e_231_132, e_229_0, e_229_42, e_229_73, e_229_25, e_229_113, e_230_0, e_230_43, e_230_57, e_230_26, e_230_84, e_230_75, s_149, s_228, s_168, e_150_0, e_151_0, Int.reduceMul, Int.reduceAdd, Int.zero_add, ite_self, hs, ite_self, hτ, Option.bind_some, Int.add_zero, z_wid, or_true, true_or, z_up_fn, z_up_ni, z_up_eq, z_up_qi, z_rw_fn, z_rw_in, z_rw_out, if_pos, if_neg, ↓reduceIte]
        exact w_ret rfl
      · exact w_ref h 1
  · apply zOK_mk2
    · simp (disch := first | omega | (simp (disch := omega) only [z_up_fn, z_up_ni, z_up_eq, z_up_qi, z_rw_fn] <;> omega) | fail) only [ite_self, Int.reduceAdd, e_129_0, e_129_8, e_129_16, e_129_25, e_129_33, e_129_81, e_129_101, e_129_109, e_129_116, e_129_127, e_129_137, e_129_151, e_129_163, e_129_169, e_129_192, e_129_87, e_129_120, e_129_131, e_129_140, e_129_178, e_129_186, e_129_90, e_143_0, e_143_6, e_144_0, e_144_11, e_144_20, e_144_33, e_144_39, e_144_56, e_144_47, e_145_0, e_145_6_0, e_145_6_1, e_145_6_2, e_145_6_3, e_145_12_0, e_145_12_1, e_145_12_2, e_145_12_3, e_145_31_0, e_145_25, e_145_31_1, e_145_31_2, e_145_31_3, e_145_52, e_145_40, e_145_43, e_146_0, e_146_6_0, e_146_6_1, e_146_6_2, e_146_6_3, e_146_12_0, e_146_12_1, e_146_12_2, e_146_12_3, e_146_32_0, e_146_25, e_146_32_1, e_146_32_2, e_146_32_3, e_146_49, e_146_57, e_146_60, e_147_0, e_147_11, e_147_19, e_147_32, e_147_38, e_147_55, e_147_46, s_133, s_234, s_has_8, s_get_8, s_39, e_131_0, e_132_0, w_ix1, w_iy1, hs, e_77_0_1, e_78_0_1, e_78_4_1, e_79_0_1, e_80_0_1, e_81_0_1, e_81_5_1, Option.bind_some, Int.add_zero, z_wid, or_true, true_or, z_up_fn, z_up_ni, z_up_eq, z_up_qi, z_rw_fn, z_rw_in, z_rw_out, if_pos, if_neg, ↓reduceIte]
      exact w_ret rfl
    · intro k hk
      simp (disch := omega) only [z_up_fn, z_rw_fn]
    · intro τ hτ
      simp (disch := first | omega | (simp (disch := omega) only [hτ] <;> omega) | fail) only [e_231_0, e_231_7, e_231_37, e_231_18, e_231_29, e_231_44, e_231_115, e_231_99, e_231_152, e_231_160, e_231_168, e_231_179, e_231_233, e_231_242, e_231_197, e_231_253, e_231_265, e_231_271, e_231_118, e_231_141, e_231_171, e_231_182, e_231_280, e_231_288, e_231_132, e_229_0, e_229_42, e_229_73, e_229_25, e_229_113, e_230_0, e_230_43, e_230_57, e_230_26, e_230_84, e_230_75, s_149, s_228, s_168, e_150_0, e_151_0, Int.reduceMul, Int.reduceAdd, Int.zero_add, ite_self, hs, ite_self, hτ, Option.bind_some, Int.add_zero, z_wid, or_true, true_or, z_up_fn, z_up_ni, z_up_eq, z_up_qi, z_rw_fn, z_rw_in, z_rw_out, if_pos, if_neg, ↓reduceIte]
      exact w_ret rfl
    · exact w_ref h 1
theorem o_forge2s2 (d : Nat) (s : Int → Int) (L : Int) (σ : Nat → Int → Int) (h : zV s L σ) (x2 x3 : Int) (hs : x3 % 4 = 2) : zOK s L (d + 9) 129 231 [some (.inl 2), some (.inl x2), some (.inl x3)] [some (.inl 2), some (.inl x2), some (.inl x3), none] σ := by
  have hX := zV_X2 h
  have hX1 := hX.1
  have hX2 := hX.2.1
  have hX3 := hX.2.2.1
  have hX4 := hX.2.2.2.1
  have hX5 := hX.2.2.2.2.1
  have hX6 := hX.2.2.2.2.2.1
  have n0 : 0 ≤ x2 → x2 < σ 67 2 → σ 122 (80 + x2) = σ 68 x2 := by
    intro p q
    have g := (hX.2.2.2.2.2.2 x2 (by omega) (by omega)).1
    rw [show (40 * 2 + x2 : Int) = 80 + x2 by omega] at g
    exact g.symm
  by_cases c1 : -100 ≤ x2 ∧ x2 ≤ 100
  · by_cases c2 : -100 ≤ x3 ∧ x3 ≤ 100
    · by_cases c3 : ¬ σ 67 1 = -1
      · by_cases c4 : σ 67 1 = 1
        · by_cases c5 : 0 ≤ x2 ∧ x2 < σ 67 2
          · apply zOK_mk2
            · simp (disch := first | omega | (simp (disch := omega) only [z_up_fn, z_up_ni, z_up_eq, z_up_qi, z_rw_fn] <;> omega) | fail) only [ite_self, Int.reduceAdd, e_129_0, e_129_8, e_129_16, e_129_25, e_129_33, e_129_81, e_129_101, e_129_109, e_129_116, e_129_127, e_129_137, e_129_151, e_129_163, e_129_169, e_129_192, e_129_87, e_129_120, e_129_131, e_129_140, e_129_178, e_129_186, e_129_90, e_143_0, e_143_6, e_144_0, e_144_11, e_144_20, e_144_33, e_144_39, e_144_56, e_144_47, e_145_0, e_145_6_0, e_145_6_1, e_145_6_2, e_145_6_3, e_145_12_0, e_145_12_1, e_145_12_2, e_145_12_3, e_145_31_0, e_145_25, e_145_31_1, e_145_31_2, e_145_31_3, e_145_52, e_145_40, e_145_43, e_146_0, e_146_6_0, e_146_6_1, e_146_6_2, e_146_6_3, e_146_12_0, e_146_12_1, e_146_12_2, e_146_12_3, e_146_32_0, e_146_25, e_146_32_1, e_146_32_2, e_146_32_3, e_146_49, e_146_57, e_146_60, e_147_0, e_147_11, e_147_19, e_147_32, e_147_38, e_147_55, e_147_46, s_133, s_234, s_has_8, s_get_8, s_39, e_131_0, e_132_0, w_ix2, w_iy2, hs, e_77_0_2, e_78_0_2, e_78_4_2, e_79_0_2, e_80_0_2, e_81_0_2, e_81_5_2, Option.bind_some, Int.add_zero, z_wid, or_true, true_or, z_up_fn, z_up_ni, z_up_eq, z_up_qi, z_rw_fn, z_rw_in, z_rw_out, if_pos, if_neg, ↓reduceIte]
              exact w_ret rfl
            · intro k hk
              simp (disch := omega) only [z_up_fn, z_rw_fn]
            · intro τ hτ
              simp (disch := first | omega | (simp (disch := omega) only [hτ] <;> omega) | fail) only [e_231_0, e_231_7, e_231_37, e_231_18, e_231_29, e_231_44, e_231_115, e_231_99, e_231_152, e_231_160, e_231_168, e_231_179, e_231_233, e_231_242, e_231_197, e_231_253, e_231_265, e_231_271, e_231_118, e_231_141, e_231_171, e_231_182, e_231_280, e_231_288, e_231_132, e_229_0, e_229_42, e_229_73, e_229_25, e_229_113, e_230_0, e_230_43, e_230_57, e_230_26, e_230_84, e_230_75, s_149, s_228, s_168, e_150_0, e_151_0, Int.reduceMul, Int.reduceAdd, Int.zero_add, ite_self, hs, n0, hτ, Option.bind_some, Int.add_zero, z_wid, or_true, true_or, z_up_fn, z_up_ni, z_up_eq, z_up_qi, z_rw_fn, z_rw_in, z_rw_out, if_pos, if_neg, ↓reduceIte]
              exact w_ret (by omega)
            · skip
              exact w_ref h 0
          · apply zOK_mk2
            · simp (disch := first | omega | (simp (disch := omega) only [z_up_fn, z_up_ni, z_up_eq, z_up_qi, z_rw_fn] <;> omega) | fail) only [ite_self, Int.reduceAdd, e_129_0, e_129_8, e_129_16, e_129_25, e_129_33, e_129_81, e_129_101, e_129_109, e_129_116, e_129_127, e_129_137, e_129_151, e_129_163, e_129_169, e_129_192, e_129_87, e_129_120, e_129_131, e_129_140, e_129_178, e_129_186, e_129_90, e_143_0, e_143_6, e_144_0, e_144_11, e_144_20, e_144_33, e_144_39, e_144_56, e_144_47, e_145_0, e_145_6_0, e_145_6_1, e_145_6_2, e_145_6_3, e_145_12_0, e_145_12_1, e_145_12_2, e_145_12_3, e_145_31_0, e_145_25, e_145_31_1, e_145_31_2, e_145_31_3, e_145_52, e_145_40, e_145_43, e_146_0, e_146_6_0, e_146_6_1, e_146_6_2, e_146_6_3, e_146_12_0, e_146_12_1, e_146_12_2, e_146_12_3, e_146_32_0, e_146_25, e_146_32_1, e_146_32_2, e_146_32_3, e_146_49, e_146_57, e_146_60, e_147_0, e_147_11, e_147_19, e_147_32, e_147_38, e_147_55, e_147_46, s_133, s_234, s_has_8, s_get_8, s_39, e_131_0, e_132_0, w_ix2, w_iy2, hs, e_77_0_2, e_78_0_2, e_78_4_2, e_79_0_2, e_80_0_2, e_81_0_2, e_81_5_2, Option.bind_some, Int.add_zero, z_wid, or_true, true_or, z_up_fn, z_up_ni, z_up_eq, z_up_qi, z_rw_fn, z_rw_in, z_rw_out, if_pos, if_neg, ↓reduceIte]
              exact w_ret rfl
            · intro k hk
              simp (disch := omega) only [z_up_fn, z_rw_fn]
            · intro τ hτ
              simp (disch := first | omega | (simp (disch := omega) only [hτ] <;> omega) | fail) only [e_231_0, e_231_7, e_231_37, e_231_18, e_231_29, e_231_44, e_231_115, e_231_99, e_231_152, e_231_160, e_231_168, e_231_179, e_231_233, e_231_242, e_231_197, e_231_253, e_231_265, e_231_271, e_231_118, e_231_141, e_231_171, e_231_182, e_231_280, e_231_288, e_231_132, e_229_0, e_229_42, e_229_73, e_229_25, e_229_113, e_230_0, e_230_43, e_230_57, e_230_26, e_230_84, e_230_75, s_149, s_228, s_168, e_150_0, e_151_0, Int.reduceMul, Int.reduceAdd, Int.zero_add, ite_self, hs, n0, hτ, Option.bind_some, Int.add_zero, z_wid, or_true, true_or, z_up_fn, z_up_ni, z_up_eq, z_up_qi, z_rw_fn, z_rw_in, z_rw_out, if_pos, if_neg, ↓reduceIte]
              exact w_ret rfl
            · exact w_ref h 12
        · apply zOK_mk2
          · simp (disch := first | omega | (simp (disch := omega) only [z_up_fn, z_up_ni, z_up_eq, z_up_qi, z_rw_fn] <;> omega) | fail) only [ite_self, Int.reduceAdd, e_129_0, e_129_8, e_129_16, e_129_25, e_129_33, e_129_81, e_129_101, e_129_109, e_129_116, e_129_127, e_129_137, e_129_151, e_129_163, e_129_169, e_129_192, e_129_87, e_129_120, e_129_131, e_129_140, e_129_178, e_129_186, e_129_90, e_143_0, e_143_6, e_144_0, e_144_11, e_144_20, e_144_33, e_144_39, e_144_56, e_144_47, e_145_0, e_145_6_0, e_145_6_1, e_145_6_2, e_145_6_3, e_145_12_0, e_145_12_1, e_145_12_2, e_145_12_3, e_145_31_0, e_145_25, e_145_31_1, e_145_31_2, e_145_31_3, e_145_52, e_145_40, e_145_43, e_146_0, e_146_6_0, e_146_6_1, e_146_6_2, e_146_6_3, e_146_12_0, e_146_12_1, e_146_12_2, e_146_12_3, e_146_32_0, e_146_25, e_146_32_1, e_146_32_2, e_146_32_3, e_146_49, e_146_57, e_146_60, e_147_0, e_147_11, e_147_19, e_147_32, e_147_38, e_147_55, e_147_46, s_133, s_234, s_has_8, s_get_8, s_39, e_131_0, e_132_0, w_ix2, w_iy2, hs, e_77_0_2, e_78_0_2, e_78_4_2, e_79_0_2, e_80_0_2, e_81_0_2, e_81_5_2, Option.bind_some, Int.add_zero, z_wid, or_true, true_or, z_up_fn, z_up_ni, z_up_eq, z_up_qi, z_rw_fn, z_rw_in, z_rw_out, if_pos, if_neg, ↓reduceIte]
            exact w_ret rfl
          · intro k hk
            simp (disch := omega) only [z_up_fn, z_rw_fn]
          · intro τ hτ
            simp (disch := first | omega | (simp (disch := omega) only [hτ] <;> omega) | fail) only [e_231_0, e_231_7, e_231_37, e_231_18, e_231_29, e_231_44, e_231_115, e_231_99, e_231_152, e_231_160, e_231_168, e_231_179, e_231_233, e_231_242, e_231_197, e_231_253, e_231_265, e_231_271, e_231_118, e_231_141, e_231_171, e_231_182, e_231_280, e_231_288, e_231_132, e_229_0, e_229_42, e_229_73, e_229_25, e_229_113, e_230_0, e_230_43, e_230_57, e_230_26, e_230_84, e_230_75, s_149, s_228, s_168, e_150_0, e_151_0, Int.reduceMul, Int.reduceAdd, Int.zero_add, ite_self, hs, n0, hτ, Option.bind_some, Int.add_zero, z_wid, or_true, true_or, z_up_fn, z_up_ni, z_up_eq, z_up_qi, z_rw_fn, z_rw_in, z_rw_out, if_pos, if_neg, ↓reduceIte]
            exact w_ret rfl
          · exact w_ref h 11
      · apply zOK_mk2
        · simp (disch := first | omega | (simp (disch := omega) only [z_up_fn, z_up_ni, z_up_eq, z_up_qi, z_rw_fn] <;> omega) | fail) only [ite_self, Int.reduceAdd, e_129_0, e_129_8, e_129_16, e_129_25, e_129_33, e_129_81, e_129_101, e_129_109, e_129_116, e_129_127, e_129_137, e_129_151, e_129_163, e_129_169, e_129_192, e_129_87, e_129_120, e_129_131, e_129_140, e_129_178, e_129_186, e_129_90, e_143_0, e_143_6, e_144_0, e_144_11, e_144_20, e_144_33, e_144_39, e_144_56, e_144_47, e_145_0, e_145_6_0, e_145_6_1, e_145_6_2, e_145_6_3, e_145_12_0, e_145_12_1, e_145_12_2, e_145_12_3, e_145_31_0, e_145_25, e_145_31_1, e_145_31_2, e_145_31_3, e_145_52, e_145_40, e_145_43, e_146_0, e_146_6_0, e_146_6_1, e_146_6_2, e_146_6_3, e_146_12_0, e_146_12_1, e_146_12_2, e_146_12_3, e_146_32_0, e_146_25, e_146_32_1, e_146_32_2, e_146_32_3, e_146_49, e_146_57, e_146_60, e_147_0, e_147_11, e_147_19, e_147_32, e_147_38, e_147_55, e_147_46, s_133, s_234, s_has_8, s_get_8, s_39, e_131_0, e_132_0, w_ix2, w_iy2, hs, e_77_0_2, e_78_0_2, e_78_4_2, e_79_0_2, e_80_0_2, e_81_0_2, e_81_5_2, Option.bind_some, Int.add_zero, z_wid, or_true, true_or, z_up_fn, z_up_ni, z_up_eq, z_up_qi, z_rw_fn, z_rw_in, z_rw_out, if_pos, if_neg, ↓reduceIte]
          exact w_ret rfl
        · intro k hk
          simp (disch := omega) only [z_up_fn, z_rw_fn]
        · intro τ hτ
          simp (disch := first | omega | (simp (disch := omega) only [hτ] <;> omega) | fail) only [e_231_0, e_231_7, e_231_37, e_231_18, e_231_29, e_231_44, e_231_115, e_231_99, e_231_152, e_231_160, e_231_168, e_231_179, e_231_233, e_231_242, e_231_197, e_231_253, e_231_265, e_231_271, e_231_118, e_231_141, e_231_171, e_231_182, e_231_280, e_231_288, e_231_132, e_229_0, e_229_42, e_229_73, e_229_25, e_229_113, e_230_0, e_230_43, e_230_57, e_230_26, e_230_84, e_230_75, s_149, s_228, s_168, e_150_0, e_151_0, Int.reduceMul, Int.reduceAdd, Int.zero_add, ite_self, hs, n0, hτ, Option.bind_some, Int.add_zero, z_wid, or_true, true_or, z_up_fn, z_up_ni, z_up_eq, z_up_qi, z_rw_fn, z_rw_in, z_rw_out, if_pos, if_neg, ↓reduceIte]
          exact w_ret rfl
        · exact w_ref h 10
    · apply zOK_mk2
      · simp (disch := first | omega | (simp (disch := omega) only [z_up_fn, z_up_ni, z_up_eq, z_up_qi, z_rw_fn] <;> omega) | fail) only [ite_self, Int.reduceAdd, e_129_0, e_129_8, e_129_16, e_129_25, e_129_33, e_129_81, e_129_101, e_129_109, e_129_116, e_129_127, e_129_137, e_129_151, e_129_163, e_129_169, e_129_192, e_129_87, e_129_120, e_129_131, e_129_140, e_129_178, e_129_186, e_129_90, e_143_0, e_143_6, e_144_0, e_144_11, e_144_20, e_144_33, e_144_39, e_144_56, e_144_47, e_145_0, e_145_6_0, e_145_6_1, e_145_6_2, e_145_6_3, e_145_12_0, e_145_12_1, e_145_12_2, e_145_12_3, e_145_31_0, e_145_25, e_145_31_1, e_145_31_2, e_145_31_3, e_145_52, e_145_40, e_145_43, e_146_0, e_146_6_0, e_146_6_1, e_146_6_2, e_146_6_3, e_146_12_0, e_146_12_1, e_146_12_2, e_146_12_3, e_146_32_0, e_146_25, e_146_32_1, e_146_32_2, e_146_32_3, e_146_49, e_146_57, e_146_60, e_147_0, e_147_11, e_147_19, e_147_32, e_147_38, e_147_55, e_147_46, s_133, s_234, s_has_8, s_get_8, s_39, e_131_0, e_132_0, w_ix2, w_iy2, hs, e_77_0_2, e_78_0_2, e_78_4_2, e_79_0_2, e_80_0_2, e_81_0_2, e_81_5_2, Option.bind_some, Int.add_zero, z_wid, or_true, true_or, z_up_fn, z_up_ni, z_up_eq, z_up_qi, z_rw_fn, z_rw_in, z_rw_out, if_pos, if_neg, ↓reduceIte]
        exact w_ret rfl
      · intro k hk
        simp (disch := omega) only [z_up_fn, z_rw_fn]
      · intro τ hτ
        simp (disch := first | omega | (simp (disch := omega) only [hτ] <;> omega) | fail) only [e_231_0, e_231_7, e_231_37, e_231_18, e_231_29, e_231_44, e_231_115, e_231_99, e_231_152, e_231_160, e_231_168, e_231_179, e_231_233, e_231_242, e_231_197, e_231_253, e_231_265, e_231_271, e_231_118, e_231_141, e_231_171, e_231_182, e_231_280, e_231_288, e_231_132, e_229_0, e_229_42, e_229_73, e_229_25, e_229_113, e_230_0, e_230_43, e_230_57, e_230_26, e_230_84, e_230_75, s_149, s_228, s_168, e_150_0, e_151_0, Int.reduceMul, Int.reduceAdd, Int.zero_add, ite_self, hs, n0, hτ, Option.bind_some, Int.add_zero, z_wid, or_true, true_or, z_up_fn, z_up_ni, z_up_eq, z_up_qi, z_rw_fn, z_rw_in, z_rw_out, if_pos, if_neg, ↓reduceIte]
        exact w_ret rfl
      · exact w_ref h 1
  · apply zOK_mk2
    · simp (disch := first | omega | (simp (disch := omega) only [z_up_fn, z_up_ni, z_up_eq, z_up_qi, z_rw_fn] <;> omega) | fail) only [ite_self, Int.reduceAdd, e_129_0, e_129_8, e_129_16, e_129_25, e_129_33, e_129_81, e_129_101, e_129_109, e_129_116, e_129_127, e_129_137, e_129_151, e_129_163, e_129_169, e_129_192, e_129_87, e_129_120, e_129_131, e_129_140, e_129_178, e_129_186, e_129_90, e_143_0, e_143_6, e_144_0, e_144_11, e_144_20, e_144_33, e_144_39, e_144_56, e_144_47, e_145_0, e_145_6_0, e_145_6_1, e_145_6_2, e_145_6_3, e_145_12_0, e_145_12_1, e_145_12_2, e_145_12_3, e_145_31_0, e_145_25, e_145_31_1, e_145_31_2, e_145_31_3, e_145_52, e_145_40, e_145_43, e_146_0, e_146_6_0, e_146_6_1, e_146_6_2, e_146_6_3, e_146_12_0, e_146_12_1, e_146_12_2, e_146_12_3, e_146_32_0, e_146_25, e_146_32_1, e_146_32_2, e_146_32_3, e_146_49, e_146_57, e_146_60, e_147_0, e_147_11, e_147_19, e_147_32, e_147_38, e_147_55, e_147_46, s_133, s_234, s_has_8, s_get_8, s_39, e_131_0, e_132_0, w_ix2, w_iy2, hs, e_77_0_2, e_78_0_2, e_78_4_2, e_79_0_2, e_80_0_2, e_81_0_2, e_81_5_2, Option.bind_some, Int.add_zero, z_wid, or_true, true_or, z_up_fn, z_up_ni, z_up_eq, z_up_qi, z_rw_fn, z_rw_in, z_rw_out, if_pos, if_neg, ↓reduceIte]
      exact w_ret rfl
    · intro k hk
      simp (disch := omega) only [z_up_fn, z_rw_fn]
    · intro τ hτ
      simp (disch := first | omega | (simp (disch := omega) only [hτ] <;> omega) | fail) only [e_231_0, e_231_7, e_231_37, e_231_18, e_231_29, e_231_44, e_231_115, e_231_99, e_231_152, e_231_160, e_231_168, e_231_179, e_231_233, e_231_242, e_231_197, e_231_253, e_231_265, e_231_271, e_231_118, e_231_141, e_231_171, e_231_182, e_231_280, e_231_288, e_231_132, e_229_0, e_229_42, e_229_73, e_229_25, e_229_113, e_230_0, e_230_43, e_230_57, e_230_26, e_230_84, e_230_75, s_149, s_228, s_168, e_150_0, e_151_0, Int.reduceMul, Int.reduceAdd, Int.zero_add, ite_self, hs, n0, hτ, Option.bind_some, Int.add_zero, z_wid, or_true, true_or, z_up_fn, z_up_ni, z_up_eq, z_up_qi, z_rw_fn, z_rw_in, z_rw_out, if_pos, if_neg, ↓reduceIte]
      exact w_ret rfl
    · exact w_ref h 1
theorem o_forge3s2n0 (d : Nat) (s : Int → Int) (L : Int) (σ : Nat → Int → Int) (h : zV s L σ) (x3 : Int) (hs : x3 % 4 = 2) : zOK s L (d + 9) 129 231 [some (.inl 3), some (.inl 0), some (.inl x3)] [some (.inl 3), some (.inl 0), some (.inl x3), none] σ := by
  have hX := zV_X2 h
  have hX1 := hX.1
  have hX2 := hX.2.1
  have hX3 := hX.2.2.1
  have hX4 := hX.2.2.2.1
  have hX5 := hX.2.2.2.2.1
  have hX6 := hX.2.2.2.2.2.1
  by_cases c1 : -100 ≤ x3 ∧ x3 ≤ 100
  · by_cases c2 : ¬ σ 67 1 = -1
    · by_cases c3 : σ 67 1 = 0
      · by_cases c4 : 1 ≤ σ 67 2
        · apply zOK_mk2
          · simp (disch := first | omega | (simp (disch := omega) only [z_up_fn, z_up_ni, z_up_eq, z_up_qi, z_rw_fn] <;> omega) | fail) only [ite_self, Int.reduceAdd, e_129_0, e_129_8, e_129_16, e_129_25, e_129_33, e_129_81, e_129_101, e_129_109, e_129_116, e_129_127, e_129_137, e_129_151, e_129_163, e_129_169, e_129_192, e_129_87, e_129_120, e_129_131, e_129_140, e_129_178, e_129_186, e_129_90, e_143_0, e_143_6, e_144_0, e_144_11, e_144_20, e_144_33, e_144_39, e_144_56, e_144_47, e_145_0, e_145_6_0, e_145_6_1, e_145_6_2, e_145_6_3, e_145_12_0, e_145_12_1, e_145_12_2, e_145_12_3, e_145_31_0, e_145_25, e_145_31_1, e_145_31_2, e_145_31_3, e_145_52, e_145_40, e_145_43, e_146_0, e_146_6_0, e_146_6_1, e_146_6_2, e_146_6_3, e_146_12_0, e_146_12_1, e_146_12_2, e_146_12_3, e_146_32_0, e_146_25, e_146_32_1, e_146_32_2, e_146_32_3, e_146_49, e_146_57, e_146_60, e_147_0, e_147_11, e_147_19, e_147_32, e_147_38, e_147_55, e_147_46, s_133, s_234, s_has_8, s_get_8, s_39, e_131_0, e_132_0, w_ix2, w_iy2, hs, e_77_0_2, e_78_0_2, e_78_4_2, e_79_0_2, e_80_0_2, e_81_0_2, e_81_5_2, e_83_0_2, e_83_5_2, e_83_27_2, Int.reduceLT, Int.reduceLE, and_self, and_true, true_and, Option.bind_some, Int.add_zero, z_wid, or_true, true_or, z_up_fn, z_up_ni, z_up_eq, z_up_qi, z_rw_fn, z_rw_in, z_rw_out, if_pos, if_neg, ↓reduceIte]
            exact w_ret rfl
          · intro k hk
            simp (disch := omega) only [z_up_fn, z_rw_fn]
          · intro τ hτ
            simp (disch := first | omega | (simp (disch := omega) only [hτ] <;> omega) | fail) only [e_231_0, e_231_7, e_231_37, e_231_18, e_231_29, e_231_44, e_231_115, e_231_99, e_231_152, e_231_160, e_231_168, e_231_179, e_231_233, e_231_242, e_231_197, e_231_253, e_231_265, e_231_271, e_231_118, e_231_141, e_231_171, e_231_182, e_231_280, e_231_288, e_231_132, e_229_0, e_229_42, e_229_73, e_229_25, e_229_113, e_230_0, e_230_43, e_230_57, e_230_26, e_230_84, e_230_75, s_149, s_228, s_168, e_150_0, e_151_0, Int.reduceMul, Int.reduceAdd, Int.zero_add, ite_self, hs, e_229_0, e_229_42, e_229_73, e_229_79, e_229_25, e_229_113, Int.reduceLT, Int.reduceLE, and_self, and_true, true_and, hτ, Option.bind_some, Int.add_zero, z_wid, or_true, true_or, z_up_fn, z_up_ni, z_up_eq, z_up_qi, z_rw_fn, z_rw_in, z_rw_out, if_pos, if_neg, ↓reduceIte]
            exact w_ret rfl
          · skip
            exact w_ref h 0
        · apply zOK_mk2
          · simp (disch := first | omega | (simp (disch := omega) only [z_up_fn, z_up_ni, z_up_eq, z_up_qi, z_rw_fn] <;> omega) | fail) only [ite_self, Int.reduceAdd, e_129_0, e_129_8, e_129_16, e_129_25, e_129_33, e_129_81, e_129_101, e_129_109, e_129_116, e_129_127, e_129_137, e_129_151, e_129_163, e_129_169, e_129_192, e_129_87, e_129_120, e_129_131, e_129_140, e_129_178, e_129_186, e_129_90, e_143_0, e_143_6, e_144_0, e_144_11, e_144_20, e_144_33, e_144_39, e_144_56, e_144_47, e_145_0, e_145_6_0, e_145_6_1, e_145_6_2, e_145_6_3, e_145_12_0, e_145_12_1, e_145_12_2, e_145_12_3, e_145_31_0, e_145_25, e_145_31_1, e_145_31_2, e_145_31_3, e_145_52, e_145_40, e_145_43, e_146_0, e_146_6_0, e_146_6_1, e_146_6_2, e_146_6_3, e_146_12_0, e_146_12_1, e_146_12_2, e_146_12_3, e_146_32_0, e_146_25, e_146_32_1, e_146_32_2, e_146_32_3, e_146_49, e_146_57, e_146_60, e_147_0, e_147_11, e_147_19, e_147_32, e_147_38, e_147_55, e_147_46, s_133, s_234, s_has_8, s_get_8, s_39, e_131_0, e_132_0, w_ix2, w_iy2, hs, e_77_0_2, e_78_0_2, e_78_4_2, e_79_0_2, e_80_0_2, e_81_0_2, e_81_5_2, e_83_0_2, e_83_5_2, e_83_27_2, Int.reduceLT, Int.reduceLE, and_self, and_true, true_and, Option.bind_some, Int.add_zero, z_wid, or_true, true_or, z_up_fn, z_up_ni, z_up_eq, z_up_qi, z_rw_fn, z_rw_in, z_rw_out, if_pos, if_neg, ↓reduceIte]
            exact w_ret rfl
          · intro k hk
            simp (disch := omega) only [z_up_fn, z_rw_fn]
          · intro τ hτ
            simp (disch := first | omega | (simp (disch := omega) only [hτ] <;> omega) | fail) only [e_231_0, e_231_7, e_231_37, e_231_18, e_231_29, e_231_44, e_231_115, e_231_99, e_231_152, e_231_160, e_231_168, e_231_179, e_231_233, e_231_242, e_231_197, e_231_253, e_231_265, e_231_271, e_231_118, e_231_141, e_231_171, e_231_182, e_231_280, e_231_288, e_231_132, e_229_0, e_229_42, e_229_73, e_229_25, e_229_113, e_230_0, e_230_43, e_230_57, e_230_26, e_230_84, e_230_75, s_149, s_228, s_168, e_150_0, e_151_0, Int.reduceMul, Int.reduceAdd, Int.zero_add, ite_self, hs, e_229_0, e_229_42, e_229_73, e_229_79, e_229_25, e_229_113, Int.reduceLT, Int.reduceLE, and_self, and_true, true_and, hτ, Option.bind_some, Int.add_zero, z_wid, or_true, true_or, z_up_fn, z_up_ni, z_up_eq, z_up_qi, z_rw_fn, z_rw_in, z_rw_out, if_pos, if_neg, ↓reduceIte]
            exact w_ret rfl
          · exact w_ref h 12
      · apply zOK_mk2
        · simp (disch := first | omega | (simp (disch := omega) only [z_up_fn, z_up_ni, z_up_eq, z_up_qi, z_rw_fn] <;> omega) | fail) only [ite_self, Int.reduceAdd, e_129_0, e_129_8, e_129_16, e_129_25, e_129_33, e_129_81, e_129_101, e_129_109, e_129_116, e_129_127, e_129_137, e_129_151, e_129_163, e_129_169, e_129_192, e_129_87, e_129_120, e_129_131, e_129_140, e_129_178, e_129_186, e_129_90, e_143_0, e_143_6, e_144_0, e_144_11, e_144_20, e_144_33, e_144_39, e_144_56, e_144_47, e_145_0, e_145_6_0, e_145_6_1, e_145_6_2, e_145_6_3, e_145_12_0, e_145_12_1, e_145_12_2, e_145_12_3, e_145_31_0, e_145_25, e_145_31_1, e_145_31_2, e_145_31_3, e_145_52, e_145_40, e_145_43, e_146_0, e_146_6_0, e_146_6_1, e_146_6_2, e_146_6_3, e_146_12_0, e_146_12_1, e_146_12_2, e_146_12_3, e_146_32_0, e_146_25, e_146_32_1, e_146_32_2, e_146_32_3, e_146_49, e_146_57, e_146_60, e_147_0, e_147_11, e_147_19, e_147_32, e_147_38, e_147_55, e_147_46, s_133, s_234, s_has_8, s_get_8, s_39, e_131_0, e_132_0, w_ix2, w_iy2, hs, e_77_0_2, e_78_0_2, e_78_4_2, e_79_0_2, e_80_0_2, e_81_0_2, e_81_5_2, e_83_0_2, e_83_5_2, e_83_27_2, Int.reduceLT, Int.reduceLE, and_self, and_true, true_and, Option.bind_some, Int.add_zero, z_wid, or_true, true_or, z_up_fn, z_up_ni, z_up_eq, z_up_qi, z_rw_fn, z_rw_in, z_rw_out, if_pos, if_neg, ↓reduceIte]
          exact w_ret rfl
        · intro k hk
          simp (disch := omega) only [z_up_fn, z_rw_fn]
        · intro τ hτ
          simp (disch := first | omega | (simp (disch := omega) only [hτ] <;> omega) | fail) only [e_231_0, e_231_7, e_231_37, e_231_18, e_231_29, e_231_44, e_231_115, e_231_99, e_231_152, e_231_160, e_231_168, e_231_179, e_231_233, e_231_242, e_231_197, e_231_253, e_231_265, e_231_271, e_231_118, e_231_141, e_231_171, e_231_182, e_231_280, e_231_288, e_231_132, e_229_0, e_229_42, e_229_73, e_229_25, e_229_113, e_230_0, e_230_43, e_230_57, e_230_26, e_230_84, e_230_75, s_149, s_228, s_168, e_150_0, e_151_0, Int.reduceMul, Int.reduceAdd, Int.zero_add, ite_self, hs, e_229_0, e_229_42, e_229_73, e_229_79, e_229_25, e_229_113, Int.reduceLT, Int.reduceLE, and_self, and_true, true_and, hτ, Option.bind_some, Int.add_zero, z_wid, or_true, true_or, z_up_fn, z_up_ni, z_up_eq, z_up_qi, z_rw_fn, z_rw_in, z_rw_out, if_pos, if_neg, ↓reduceIte]
          exact w_ret rfl
        · exact w_ref h 11
    · apply zOK_mk2
      · simp (disch := first | omega | (simp (disch := omega) only [z_up_fn, z_up_ni, z_up_eq, z_up_qi, z_rw_fn] <;> omega) | fail) only [ite_self, Int.reduceAdd, e_129_0, e_129_8, e_129_16, e_129_25, e_129_33, e_129_81, e_129_101, e_129_109, e_129_116, e_129_127, e_129_137, e_129_151, e_129_163, e_129_169, e_129_192, e_129_87, e_129_120, e_129_131, e_129_140, e_129_178, e_129_186, e_129_90, e_143_0, e_143_6, e_144_0, e_144_11, e_144_20, e_144_33, e_144_39, e_144_56, e_144_47, e_145_0, e_145_6_0, e_145_6_1, e_145_6_2, e_145_6_3, e_145_12_0, e_145_12_1, e_145_12_2, e_145_12_3, e_145_31_0, e_145_25, e_145_31_1, e_145_31_2, e_145_31_3, e_145_52, e_145_40, e_145_43, e_146_0, e_146_6_0, e_146_6_1, e_146_6_2, e_146_6_3, e_146_12_0, e_146_12_1, e_146_12_2, e_146_12_3, e_146_32_0, e_146_25, e_146_32_1, e_146_32_2, e_146_32_3, e_146_49, e_146_57, e_146_60, e_147_0, e_147_11, e_147_19, e_147_32, e_147_38, e_147_55, e_147_46, s_133, s_234, s_has_8, s_get_8, s_39, e_131_0, e_132_0, w_ix2, w_iy2, hs, e_77_0_2, e_78_0_2, e_78_4_2, e_79_0_2, e_80_0_2, e_81_0_2, e_81_5_2, e_83_0_2, e_83_5_2, e_83_27_2, Int.reduceLT, Int.reduceLE, and_self, and_true, true_and, Option.bind_some, Int.add_zero, z_wid, or_true, true_or, z_up_fn, z_up_ni, z_up_eq, z_up_qi, z_rw_fn, z_rw_in, z_rw_out, if_pos, if_neg, ↓reduceIte]
        exact w_ret rfl
      · intro k hk
        simp (disch := omega) only [z_up_fn, z_rw_fn]
      · intro τ hτ
        simp (disch := first | omega | (simp (disch := omega) only [hτ] <;> omega) | fail) only [e_231_0, e_231_7, e_231_37, e_231_18, e_231_29, e_231_44, e_231_115, e_231_99, e_231_152, e_231_160, e_231_168, e_231_179, e_231_233, e_231_242, e_231_197, e_231_253, e_231_265, e_231_271, e_231_118, e_231_141, e_231_171, e_231_182, e_231_280, e_231_288, e_231_132, e_229_0, e_229_42, e_229_73, e_229_25, e_229_113, e_230_0, e_230_43, e_230_57, e_230_26, e_230_84, e_230_75, s_149, s_228, s_168, e_150_0, e_151_0, Int.reduceMul, Int.reduceAdd, Int.zero_add, ite_self, hs, e_229_0, e_229_42, e_229_73, e_229_79, e_229_25, e_229_113, Int.reduceLT, Int.reduceLE, and_self, and_true, true_and, hτ, Option.bind_some, Int.add_zero, z_wid, or_true, true_or, z_up_fn, z_up_ni, z_up_eq, z_up_qi, z_rw_fn, z_rw_in, z_rw_out, if_pos, if_neg, ↓reduceIte]
        exact w_ret rfl
      · exact w_ref h 10
  · apply zOK_mk2
    · simp (disch := first | omega | (simp (disch := omega) only [z_up_fn, z_up_ni, z_up_eq, z_up_qi, z_rw_fn] <;> omega) | fail) only [ite_self, Int.reduceAdd, e_129_0, e_129_8, e_129_16, e_129_25, e_129_33, e_129_81, e_129_101, e_129_109, e_129_116, e_129_127, e_129_137, e_129_151, e_129_163, e_129_169, e_129_192, e_129_87, e_129_120, e_129_131, e_129_140, e_129_178, e_129_186, e_129_90, e_143_0, e_143_6, e_144_0, e_144_11, e_144_20, e_144_33, e_144_39, e_144_56, e_144_47, e_145_0, e_145_6_0, e_145_6_1, e_145_6_2, e_145_6_3, e_145_12_0, e_145_12_1, e_145_12_2, e_145_12_3, e_145_31_0, e_145_25, e_145_31_1, e_145_31_2, e_145_31_3, e_145_52, e_145_40, e_145_43, e_146_0, e_146_6_0, e_146_6_1, e_146_6_2, e_146_6_3, e_146_12_0, e_146_12_1, e_146_12_2, e_146_12_3, e_146_32_0, e_146_25, e_146_32_1, e_146_32_2, e_146_32_3, e_146_49, e_146_57, e_146_60, e_147_0, e_147_11, e_147_19, e_147_32, e_147_38, e_147_55, e_147_46, s_133, s_234, s_has_8, s_get_8, s_39, e_131_0, e_132_0, w_ix2, w_iy2, hs, e_77_0_2, e_78_0_2, e_78_4_2, e_79_0_2, e_80_0_2, e_81_0_2, e_81_5_2, e_83_0_2, e_83_5_2, e_83_27_2, Int.reduceLT, Int.reduceLE, and_self, and_true, true_and, Option.bind_some, Int.add_zero, z_wid, or_true, true_or, z_up_fn, z_up_ni, z_up_eq, z_up_qi, z_rw_fn, z_rw_in, z_rw_out, if_pos, if_neg, ↓reduceIte]
      exact w_ret rfl
    · intro k hk
      simp (disch := omega) only [z_up_fn, z_rw_fn]
    · intro τ hτ
      simp (disch := first | omega | (simp (disch := omega) only [hτ] <;> omega) | fail) only [e_231_0, e_231_7, e_231_37, e_231_18, e_231_29, e_231_44, e_231_115, e_231_99, e_231_152, e_231_160, e_231_168, e_231_179, e_231_233, e_231_242, e_231_197, e_231_253, e_231_265, e_231_271, e_231_118, e_231_141, e_231_171, e_231_182, e_231_280, e_231_288, e_231_132, e_229_0, e_229_42, e_229_73, e_229_25, e_229_113, e_230_0, e_230_43, e_230_57, e_230_26, e_230_84, e_230_75, s_149, s_228, s_168, e_150_0, e_151_0, Int.reduceMul, Int.reduceAdd, Int.zero_add, ite_self, hs, e_229_0, e_229_42, e_229_73, e_229_79, e_229_25, e_229_113, Int.reduceLT, Int.reduceLE, and_self, and_true, true_and, hτ, Option.bind_some, Int.add_zero, z_wid, or_true, true_or, z_up_fn, z_up_ni, z_up_eq, z_up_qi, z_rw_fn, z_rw_in, z_rw_out, if_pos, if_neg, ↓reduceIte]
      exact w_ret rfl
    · exact w_ref h 1
theorem o_forge3s2n1 (d : Nat) (s : Int → Int) (L : Int) (σ : Nat → Int → Int) (h : zV s L σ) (x3 : Int) (hs : x3 % 4 = 2) : zOK s L (d + 9) 129 231 [some (.inl 3), some (.inl 1), some (.inl x3)] [some (.inl 3), some (.inl 1), some (.inl x3), none] σ := by
  have hX := zV_X2 h
  have hX1 := hX.1
  have hX2 := hX.2.1
  have hX3 := hX.2.2.1
  have hX4 := hX.2.2.2.1
  have hX5 := hX.2.2.2.2.1
  have hX6 := hX.2.2.2.2.2.1
  have n1 : σ 122 81 = σ 68 1 := (hX.2.2.2.2.2.2 1 (by omega) (by omega)).1.symm
  by_cases c1 : -100 ≤ x3 ∧ x3 ≤ 100
  · by_cases c2 : ¬ σ 67 1 = -1
    · by_cases c3 : σ 67 1 = 0
      · by_cases c4 : 2 ≤ σ 67 2
        · apply zOK_mk2
          · simp (disch := first | omega | (simp (disch := omega) only [z_up_fn, z_up_ni, z_up_eq, z_up_qi, z_rw_fn] <;> omega) | fail) only [ite_self, Int.reduceAdd, e_129_0, e_129_8, e_129_16, e_129_25, e_129_33, e_129_81, e_129_101, e_129_109, e_129_116, e_129_127, e_129_137, e_129_151, e_129_163, e_129_169, e_129_192, e_129_87, e_129_120, e_129_131, e_129_140, e_129_178, e_129_186, e_129_90, e_143_0, e_143_6, e_144_0, e_144_11, e_144_20, e_144_33, e_144_39, e_144_56, e_144_47, e_145_0, e_145_6_0, e_145_6_1, e_145_6_2, e_145_6_3, e_145_12_0, e_145_12_1, e_145_12_2, e_145_12_3, e_145_31_0, e_145_25, e_145_31_1, e_145_31_2, e_145_31_3, e_145_52, e_145_40, e_145_43, e_146_0, e_146_6_0, e_146_6_1, e_146_6_2, e_146_6_3, e_146_12_0, e_146_12_1, e_146_12_2, e_146_12_3, e_146_32_0, e_146_25, e_146_32_1, e_146_32_2, e_146_32_3, e_146_49, e_146_57, e_146_60, e_147_0, e_147_11, e_147_19, e_147_32, e_147_38, e_147_55, e_147_46, s_133, s_234, s_has_8, s_get_8, s_39, e_131_0, e_132_0, w_ix2, w_iy2, hs, e_77_0_2, e_78_0_2, e_78_4_2, e_79_0_2, e_80_0_2, e_81_0_2, e_81_5_2, e_83_0_2, e_83_5_2, e_83_27_2, Int.reduceLT, Int.reduceLE, and_self, and_true, true_and, Option.bind_some, Int.add_zero, z_wid, or_true, true_or, z_up_fn, z_up_ni, z_up_eq, z_up_qi, z_rw_fn, z_rw_in, z_rw_out, if_pos, if_neg, ↓reduceIte]
            exact w_ret rfl
          · intro k hk
            simp (disch := omega) only [z_up_fn, z_rw_fn]
          · intro τ hτ
            simp (disch := first | omega | (simp (disch := omega) only [hτ] <;> omega) | fail) only [e_231_0, e_231_7, e_231_37, e_231_18, e_231_29, e_231_44, e_231_115, e_231_99, e_231_152, e_231_160, e_231_168, e_231_179, e_231_233, e_231_242, e_231_197, e_231_253, e_231_265, e_231_271, e_231_118, e_231_141, e_231_171, e_231_182, e_231_280, e_231_288, e_231_132, e_229_0, e_229_42, e_229_73, e_229_25, e_229_113, e_230_0, e_230_43, e_230_57, e_230_26, e_230_84, e_230_75, s_149, s_228, s_168, e_150_0, e_151_0, Int.reduceMul, Int.reduceAdd, Int.zero_add, ite_self, hs, e_229_0, e_229_42, e_229_73, e_229_79, e_229_25, e_229_113, Int.reduceLT, Int.reduceLE, and_self, and_true, true_and, n1, hτ, Option.bind_some, Int.add_zero, z_wid, or_true, true_or, z_up_fn, z_up_ni, z_up_eq, z_up_qi, z_rw_fn, z_rw_in, z_rw_out, if_pos, if_neg, ↓reduceIte]
            exact w_ret rfl
          · skip
            exact w_ref h 0
        · apply zOK_mk2
          · simp (disch := first | omega | (simp (disch := omega) only [z_up_fn, z_up_ni, z_up_eq, z_up_qi, z_rw_fn] <;> omega) | fail) only [ite_self, Int.reduceAdd, e_129_0, e_129_8, e_129_16, e_129_25, e_129_33, e_129_81, e_129_101, e_129_109, e_129_116, e_129_127, e_129_137, e_129_151, e_129_163, e_129_169, e_129_192, e_129_87, e_129_120, e_129_131, e_129_140, e_129_178, e_129_186, e_129_90, e_143_0, e_143_6, e_144_0, e_144_11, e_144_20, e_144_33, e_144_39, e_144_56, e_144_47, e_145_0, e_145_6_0, e_145_6_1, e_145_6_2, e_145_6_3, e_145_12_0, e_145_12_1, e_145_12_2, e_145_12_3, e_145_31_0, e_145_25, e_145_31_1, e_145_31_2, e_145_31_3, e_145_52, e_145_40, e_145_43, e_146_0, e_146_6_0, e_146_6_1, e_146_6_2, e_146_6_3, e_146_12_0, e_146_12_1, e_146_12_2, e_146_12_3, e_146_32_0, e_146_25, e_146_32_1, e_146_32_2, e_146_32_3, e_146_49, e_146_57, e_146_60, e_147_0, e_147_11, e_147_19, e_147_32, e_147_38, e_147_55, e_147_46, s_133, s_234, s_has_8, s_get_8, s_39, e_131_0, e_132_0, w_ix2, w_iy2, hs, e_77_0_2, e_78_0_2, e_78_4_2, e_79_0_2, e_80_0_2, e_81_0_2, e_81_5_2, e_83_0_2, e_83_5_2, e_83_27_2, Int.reduceLT, Int.reduceLE, and_self, and_true, true_and, Option.bind_some, Int.add_zero, z_wid, or_true, true_or, z_up_fn, z_up_ni, z_up_eq, z_up_qi, z_rw_fn, z_rw_in, z_rw_out, if_pos, if_neg, ↓reduceIte]
            exact w_ret rfl
          · intro k hk
            simp (disch := omega) only [z_up_fn, z_rw_fn]
          · intro τ hτ
            simp (disch := first | omega | (simp (disch := omega) only [hτ] <;> omega) | fail) only [e_231_0, e_231_7, e_231_37, e_231_18, e_231_29, e_231_44, e_231_115, e_231_99, e_231_152, e_231_160, e_231_168, e_231_179, e_231_233, e_231_242, e_231_197, e_231_253, e_231_265, e_231_271, e_231_118, e_231_141, e_231_171, e_231_182, e_231_280, e_231_288, e_231_132, e_229_0, e_229_42, e_229_73, e_229_25, e_229_113, e_230_0, e_230_43, e_230_57, e_230_26, e_230_84, e_230_75, s_149, s_228, s_168, e_150_0, e_151_0, Int.reduceMul, Int.reduceAdd, Int.zero_add, ite_self, hs, e_229_0, e_229_42, e_229_73, e_229_79, e_229_25, e_229_113, Int.reduceLT, Int.reduceLE, and_self, and_true, true_and, n1, hτ, Option.bind_some, Int.add_zero, z_wid, or_true, true_or, z_up_fn, z_up_ni, z_up_eq, z_up_qi, z_rw_fn, z_rw_in, z_rw_out, if_pos, if_neg, ↓reduceIte]
            exact w_ret rfl
          · exact w_ref h 12
      · apply zOK_mk2
        · simp (disch := first | omega | (simp (disch := omega) only [z_up_fn, z_up_ni, z_up_eq, z_up_qi, z_rw_fn] <;> omega) | fail) only [ite_self, Int.reduceAdd, e_129_0, e_129_8, e_129_16, e_129_25, e_129_33, e_129_81, e_129_101, e_129_109, e_129_116, e_129_127, e_129_137, e_129_151, e_129_163, e_129_169, e_129_192, e_129_87, e_129_120, e_129_131, e_129_140, e_129_178, e_129_186, e_129_90, e_143_0, e_143_6, e_144_0, e_144_11, e_144_20, e_144_33, e_144_39, e_144_56, e_144_47, e_145_0, e_145_6_0, e_145_6_1, e_145_6_2, e_145_6_3, e_145_12_0, e_145_12_1, e_145_12_2, e_145_12_3, e_145_31_0, e_145_25, e_145_31_1, e_145_31_2, e_145_31_3, e_145_52, e_145_40, e_145_43, e_146_0, e_146_6_0, e_146_6_1, e_146_6_2, e_146_6_3, e_146_12_0, e_146_12_1, e_146_12_2, e_146_12_3, e_146_32_0, e_146_25, e_146_32_1, e_146_32_2, e_146_32_3, e_146_49, e_146_57, e_146_60, e_147_0, e_147_11, e_147_19, e_147_32, e_147_38, e_147_55, e_147_46, s_133, s_234, s_has_8, s_get_8, s_39, e_131_0, e_132_0, w_ix2, w_iy2, hs, e_77_0_2, e_78_0_2, e_78_4_2, e_79_0_2, e_80_0_2, e_81_0_2, e_81_5_2, e_83_0_2, e_83_5_2, e_83_27_2, Int.reduceLT, Int.reduceLE, and_self, and_true, true_and, Option.bind_some, Int.add_zero, z_wid, or_true, true_or, z_up_fn, z_up_ni, z_up_eq, z_up_qi, z_rw_fn, z_rw_in, z_rw_out, if_pos, if_neg, ↓reduceIte]
          exact w_ret rfl
        · intro k hk
          simp (disch := omega) only [z_up_fn, z_rw_fn]
        · intro τ hτ
          simp (disch := first | omega | (simp (disch := omega) only [hτ] <;> omega) | fail) only [e_231_0, e_231_7, e_231_37, e_231_18, e_231_29, e_231_44, e_231_115, e_231_99, e_231_152, e_231_160, e_231_168, e_231_179, e_231_233, e_231_242, e_231_197, e_231_253, e_231_265, e_231_271, e_231_118, e_231_141, e_231_171, e_231_182, e_231_280, e_231_288, e_231_132, e_229_0, e_229_42, e_229_73, e_229_25, e_229_113, e_230_0, e_230_43, e_230_57, e_230_26, e_230_84, e_230_75, s_149, s_228, s_168, e_150_0, e_151_0, Int.reduceMul, Int.reduceAdd, Int.zero_add, ite_self, hs, e_229_0, e_229_42, e_229_73, e_229_79, e_229_25, e_229_113, Int.reduceLT, Int.reduceLE, and_self, and_true, true_and, n1, hτ, Option.bind_some, Int.add_zero, z_wid, or_true, true_or, z_up_fn, z_up_ni, z_up_eq, z_up_qi, z_rw_fn, z_rw_in, z_rw_out, if_pos, if_neg, ↓reduceIte]
          exact w_ret rfl
        · exact w_ref h 11
    · apply zOK_mk2
      · simp (disch := first | omega | (simp (disch := omega) only [z_up_fn, z_up_ni, z_up_eq, z_up_qi, z_rw_fn] <;> omega) | fail) only [ite_self, Int.reduceAdd, e_129_0, e_129_8, e_129_16, e_129_25, e_129_33, e_129_81, e_129_101, e_129_109, e_129_116, e_129_127, e_129_137, e_129_151, e_129_163, e_129_169, e_129_192, e_129_87, e_129_120, e_129_131, e_129_140, e_129_178, e_129_186, e_129_90, e_143_0, e_143_6, e_144_0, e_144_11, e_144_20, e_144_33, e_144_39, e_144_56, e_144_47, e_145_0, e_145_6_0, e_145_6_1, e_145_6_2, e_145_6_3, e_145_12_0, e_145_12_1, e_145_12_2, e_145_12_3, e_145_31_0, e_145_25, e_145_31_1, e_145_31_2, e_145_31_3, e_145_52, e_145_40, e_145_43, e_146_0, e_146_6_0, e_146_6_1, e_146_6_2, e_146_6_3, e_146_12_0, e_146_12_1, e_146_12_2, e_146_12_3, e_146_32_0, e_146_25, e_146_32_1, e_146_32_2, e_146_32_3, e_146_49, e_146_57, e_146_60, e_147_0, e_147_11, e_147_19, e_147_32, e_147_38, e_147_55, e_147_46, s_133, s_234, s_has_8, s_get_8, s_39, e_131_0, e_132_0, w_ix2, w_iy2, hs, e_77_0_2, e_78_0_2, e_78_4_2, e_79_0_2, e_80_0_2, e_81_0_2, e_81_5_2, e_83_0_2, e_83_5_2, e_83_27_2, Int.reduceLT, Int.reduceLE, and_self, and_true, true_and, Option.bind_some, Int.add_zero, z_wid, or_true, true_or, z_up_fn, z_up_ni, z_up_eq, z_up_qi, z_rw_fn, z_rw_in, z_rw_out, if_pos, if_neg, ↓reduceIte]
        exact w_ret rfl
      · intro k hk
        simp (disch := omega) only [z_up_fn, z_rw_fn]
      · intro τ hτ
        simp (disch := first | omega | (simp (disch := omega) only [hτ] <;> omega) | fail) only [e_231_0, e_231_7, e_231_37, e_231_18, e_231_29, e_231_44, e_231_115, e_231_99, e_231_152, e_231_160, e_231_168, e_231_179, e_231_233, e_231_242, e_231_197, e_231_253, e_231_265, e_231_271, e_231_118, e_231_141, e_231_171, e_231_182, e_231_280, e_231_288, e_231_132, e_229_0, e_229_42, e_229_73, e_229_25, e_229_113, e_230_0, e_230_43, e_230_57, e_230_26, e_230_84, e_230_75, s_149, s_228, s_168, e_150_0, e_151_0, Int.reduceMul, Int.reduceAdd, Int.zero_add, ite_self, hs, e_229_0, e_229_42, e_229_73, e_229_79, e_229_25, e_229_113, Int.reduceLT, Int.reduceLE, and_self, and_true, true_and, n1, hτ, Option.bind_some, Int.add_zero, z_wid, or_true, true_or, z_up_fn, z_up_ni, z_up_eq, z_up_qi, z_rw_fn, z_rw_in, z_rw_out, if_pos, if_neg, ↓reduceIte]
        exact w_ret rfl
      · exact w_ref h 10
  · apply zOK_mk2
    · simp (disch := first | omega | (simp (disch := omega) only [z_up_fn, z_up_ni, z_up_eq, z_up_qi, z_rw_fn] <;> omega) | fail) only [ite_self, Int.reduceAdd, e_129_0, e_129_8, e_129_16, e_129_25, e_129_33, e_129_81, e_129_101, e_129_109, e_129_116, e_129_127, e_129_137, e_129_151, e_129_163, e_129_169, e_129_192, e_129_87, e_129_120, e_129_131, e_129_140, e_129_178, e_129_186, e_129_90, e_143_0, e_143_6, e_144_0, e_144_11, e_144_20, e_144_33, e_144_39, e_144_56, e_144_47, e_145_0, e_145_6_0, e_145_6_1, e_145_6_2, e_145_6_3, e_145_12_0, e_145_12_1, e_145_12_2, e_145_12_3, e_145_31_0, e_145_25, e_145_31_1, e_145_31_2, e_145_31_3, e_145_52, e_145_40, e_145_43, e_146_0, e_146_6_0, e_146_6_1, e_146_6_2, e_146_6_3, e_146_12_0, e_146_12_1, e_146_12_2, e_146_12_3, e_146_32_0, e_146_25, e_146_32_1, e_146_32_2, e_146_32_3, e_146_49, e_146_57, e_146_60, e_147_0, e_147_11, e_147_19, e_147_32, e_147_38, e_147_55, e_147_46, s_133, s_234, s_has_8, s_get_8, s_39, e_131_0, e_132_0, w_ix2, w_iy2, hs, e_77_0_2, e_78_0_2, e_78_4_2, e_79_0_2, e_80_0_2, e_81_0_2, e_81_5_2, e_83_0_2, e_83_5_2, e_83_27_2, Int.reduceLT, Int.reduceLE, and_self, and_true, true_and, Option.bind_some, Int.add_zero, z_wid, or_true, true_or, z_up_fn, z_up_ni, z_up_eq, z_up_qi, z_rw_fn, z_rw_in, z_rw_out, if_pos, if_neg, ↓reduceIte]
      exact w_ret rfl
    · intro k hk
      simp (disch := omega) only [z_up_fn, z_rw_fn]
    · intro τ hτ
      simp (disch := first | omega | (simp (disch := omega) only [hτ] <;> omega) | fail) only [e_231_0, e_231_7, e_231_37, e_231_18, e_231_29, e_231_44, e_231_115, e_231_99, e_231_152, e_231_160, e_231_168, e_231_179, e_231_233, e_231_242, e_231_197, e_231_253, e_231_265, e_231_271, e_231_118, e_231_141, e_231_171, e_231_182, e_231_280, e_231_288, e_231_132, e_229_0, e_229_42, e_229_73, e_229_25, e_229_113, e_230_0, e_230_43, e_230_57, e_230_26, e_230_84, e_230_75, s_149, s_228, s_168, e_150_0, e_151_0, Int.reduceMul, Int.reduceAdd, Int.zero_add, ite_self, hs, e_229_0, e_229_42, e_229_73, e_229_79, e_229_25, e_229_113, Int.reduceLT, Int.reduceLE, and_self, and_true, true_and, n1, hτ, Option.bind_some, Int.add_zero, z_wid, or_true, true_or, z_up_fn, z_up_ni, z_up_eq, z_up_qi, z_rw_fn, z_rw_in, z_rw_out, if_pos, if_neg, ↓reduceIte]
      exact w_ret rfl
    · exact w_ref h 1
theorem o_forge3s2n2 (d : Nat) (s : Int → Int) (L : Int) (σ : Nat → Int → Int) (h : zV s L σ) (x3 : Int) (hs : x3 % 4 = 2) : zOK s L (d + 9) 129 231 [some (.inl 3), some (.inl 2), some (.inl x3)] [some (.inl 3), some (.inl 2), some (.inl x3), none] σ := by
  have hX := zV_X2 h
  have hX1 := hX.1
  have hX2 := hX.2.1
  have hX3 := hX.2.2.1
  have hX4 := hX.2.2.2.1
  have hX5 := hX.2.2.2.2.1
  have hX6 := hX.2.2.2.2.2.1
  have n1 : σ 122 81 = σ 68 1 := (hX.2.2.2.2.2.2 1 (by omega) (by omega)).1.symm
  have n2 : σ 122 82 = σ 68 2 := (hX.2.2.2.2.2.2 2 (by omega) (by omega)).1.symm
  by_cases c1 : -100 ≤ x3 ∧ x3 ≤ 100
  · by_cases c2 : ¬ σ 67 1 = -1
    · by_cases c3 : σ 67 1 = 0
      · by_cases c4 : 3 ≤ σ 67 2
        · apply zOK_mk2
          · simp (disch := first | omega | (simp (disch := omega) only [z_up_fn, z_up_ni, z_up_eq, z_up_qi, z_rw_fn] <;> omega) | fail) only [ite_self, Int.reduceAdd, e_129_0, e_129_8, e_129_16, e_129_25, e_129_33, e_129_81, e_129_101, e_129_109, e_129_116, e_129_127, e_129_137, e_129_151, e_129_163, e_129_169, e_129_192, e_129_87, e_129_120, e_129_131, e_129_140, e_129_178, e_129_186, e_129_90, e_143_0, e_143_6, e_144_0, e_144_11, e_144_20, e_144_33, e_144_39, e_144_56, e_144_47, e_145_0, e_145_6_0, e_145_6_1, e_145_6_2, e_145_6_3, e_145_12_0, e_145_12_1, e_145_12_2, e_145_12_3, e_145_31_0, e_145_25, e_145_31_1, e_145_31_2, e_145_31_3, e_145_52, e_145_40, e_145_43, e_146_0, e_146_6_0, e_146_6_1, e_146_6_2, e_146_6_3, e_146_12_0, e_146_12_1, e_146_12_2, e_146_12_3, e_146_32_0, e_146_25, e_146_32_1, e_146_32_2, e_146_32_3, e_146_49, e_146_57, e_146_60, e_147_0, e_147_11, e_147_19, e_147_32, e_147_38, e_147_55, e_147_46, s_133, s_234, s_has_8, s_get_8, s_39, e_131_0, e_132_0, w_ix2, w_iy2, hs, e_77_0_2, e_78_0_2, e_78_4_2, e_79_0_2, e_80_0_2, e_81_0_2, e_81_5_2, e_83_0_2, e_83_5_2, e_83_27_2, Int.reduceLT, Int.reduceLE, and_self, and_true, true_and, Option.bind_some, Int.add_zero, z_wid, or_true, true_or, z_up_fn, z_up_ni, z_up_eq, z_up_qi, z_rw_fn, z_rw_in, z_rw_out, if_pos, if_neg, ↓reduceIte]
            exact w_ret rfl
          · intro k hk
            simp (disch := omega) only [z_up_fn, z_rw_fn]
          · intro τ hτ
            simp (disch := first | omega | (simp (disch := omega) only [hτ] <;> omega) | fail) only [e_231_0, e_231_7, e_231_37, e_231_18, e_231_29, e_231_44, e_231_115, e_231_99, e_231_152, e_231_160, e_231_168, e_231_179, e_231_233, e_231_242, e_231_197, e_231_253, e_231_265, e_231_271, e_231_118, e_231_141, e_231_171, e_231_182, e_231_280, e_231_288, e_231_132, e_229_0, e_229_42, e_229_73, e_229_25, e_229_113, e_230_0, e_230_43, e_230_57, e_230_26, e_230_84, e_230_75, s_149, s_228, s_168, e_150_0, e_151_0, Int.reduceMul, Int.reduceAdd, Int.zero_add, ite_self, hs, e_229_0, e_229_42, e_229_73, e_229_79, e_229_25, e_229_113, Int.reduceLT, Int.reduceLE, and_self, and_true, true_and, n1, n2, hτ, Option.bind_some, Int.add_zero, z_wid, or_true, true_or, z_up_fn, z_up_ni, z_up_eq, z_up_qi, z_rw_fn, z_rw_in, z_rw_out, if_pos, if_neg, ↓reduceIte]
            exact w_ret rfl
          · skip
            exact w_ref h 0
        · apply zOK_mk2
          · simp (disch := first | omega | (simp (disch := omega) only [z_up_fn, z_up_ni, z_up_eq, z_up_qi, z_rw_fn] <;> omega) | fail) only [ite_self, Int.reduceAdd, e_129_0, e_129_8, e_129_16, e_129_25, e_129_33, e_129_81, e_129_101, e_129_109, e_129_116, e_129_127, e_129_137, e_129_151, e_129_163, e_129_169, e_129_192, e_129_87, e_129_120, e_129_131, e_129_140, e_129_178, e_129_186, e_129_90, e_143_0, e_143_6, e_144_0, e_144_11, e_144_20, e_144_33, e_144_39, e_144_56, e_144_47, e_145_0, e_145_6_0, e_145_6_1, e_145_6_2, e_145_6_3, e_145_12_0, e_145_12_1, e_145_12_2, e_145_12_3, e_145_31_0, e_145_25, e_145_31_1, e_145_31_2, e_145_31_3, e_145_52, e_145_40, e_145_43, e_146_0, e_146_6_0, e_146_6_1, e_146_6_2, e_146_6_3, e_146_12_0, e_146_12_1, e_146_12_2, e_146_12_3, e_146_32_0, e_146_25, e_146_32_1, e_146_32_2, e_146_32_3, e_146_49, e_146_57, e_146_60, e_147_0, e_147_11, e_147_19, e_147_32, e_147_38, e_147_55, e_147_46, s_133, s_234, s_has_8, s_get_8, s_39, e_131_0, e_132_0, w_ix2, w_iy2, hs, e_77_0_2, e_78_0_2, e_78_4_2, e_79_0_2, e_80_0_2, e_81_0_2, e_81_5_2, e_83_0_2, e_83_5_2, e_83_27_2, Int.reduceLT, Int.reduceLE, and_self, and_true, true_and, Option.bind_some, Int.add_zero, z_wid, or_true, true_or, z_up_fn, z_up_ni, z_up_eq, z_up_qi, z_rw_fn, z_rw_in, z_rw_out, if_pos, if_neg, ↓reduceIte]
            exact w_ret rfl
          · intro k hk
            simp (disch := omega) only [z_up_fn, z_rw_fn]
          · intro τ hτ
            simp (disch := first | omega | (simp (disch := omega) only [hτ] <;> omega) | fail) only [e_231_0, e_231_7, e_231_37, e_231_18, e_231_29, e_231_44, e_231_115, e_231_99, e_231_152, e_231_160, e_231_168, e_231_179, e_231_233, e_231_242, e_231_197, e_231_253, e_231_265, e_231_271, e_231_118, e_231_141, e_231_171, e_231_182, e_231_280, e_231_288, e_231_132, e_229_0, e_229_42, e_229_73, e_229_25, e_229_113, e_230_0, e_230_43, e_230_57, e_230_26, e_230_84, e_230_75, s_149, s_228, s_168, e_150_0, e_151_0, Int.reduceMul, Int.reduceAdd, Int.zero_add, ite_self, hs, e_229_0, e_229_42, e_229_73, e_229_79, e_229_25, e_229_113, Int.reduceLT, Int.reduceLE, and_self, and_true, true_and, n1, n2, hτ, Option.bind_some, Int.add_zero, z_wid, or_true, true_or, z_up_fn, z_up_ni, z_up_eq, z_up_qi, z_rw_fn, z_rw_in, z_rw_out, if_pos, if_neg, ↓reduceIte]
            exact w_ret rfl
          · exact w_ref h 12
      · apply zOK_mk2
        · simp (disch := first | omega | (simp (disch := omega) only [z_up_fn, z_up_ni, z_up_eq, z_up_qi, z_rw_fn] <;> omega) | fail) only [ite_self, Int.reduceAdd, e_129_0, e_129_8, e_129_16, e_129_25, e_129_33, e_129_81, e_129_101, e_129_109, e_129_116, e_129_127, e_129_137, e_129_151, e_129_163, e_129_169, e_129_192, e_129_87, e_129_120, e_129_131, e_129_140, e_129_178, e_129_186, e_129_90, e_143_0, e_143_6, e_144_0, e_144_11, e_144_20, e_144_33, e_144_39, e_144_56, e_144_47, e_145_0, e_145_6_0, e_145_6_1, e_145_6_2, e_145_6_3, e_145_12_0, e_145_12_1, e_145_12_2, e_145_12_3, e_145_31_0, e_145_25, e_145_31_1, e_145_31_2, e_145_31_3, e_145_52, e_145_40, e_145_43, e_146_0, e_146_6_0, e_146_6_1, e_146_6_2, e_146_6_3, e_146_12_0, e_146_12_1, e_146_12_2, e_146_12_3, e_146_32_0, e_146_25, e_146_32_1, e_146_32_2, e_146_32_3, e_146_49, e_146_57, e_146_60, e_147_0, e_147_11, e_147_19, e_147_32, e_147_38, e_147_55, e_147_46, s_133, s_234, s_has_8, s_get_8, s_39, e_131_0, e_132_0, w_ix2, w_iy2, hs, e_77_0_2, e_78_0_2, e_78_4_2, e_79_0_2, e_80_0_2, e_81_0_2, e_81_5_2, e_83_0_2, e_83_5_2, e_83_27_2, Int.reduceLT, Int.reduceLE, and_self, and_true, true_and, Option.bind_some, Int.add_zero, z_wid, or_true, true_or, z_up_fn, z_up_ni, z_up_eq, z_up_qi, z_rw_fn, z_rw_in, z_rw_out, if_pos, if_neg, ↓reduceIte]
          exact w_ret rfl
        · intro k hk
          simp (disch := omega) only [z_up_fn, z_rw_fn]
        · intro τ hτ
          simp (disch := first | omega | (simp (disch := omega) only [hτ] <;> omega) | fail) only [e_231_0, e_231_7, e_231_37, e_231_18, e_231_29, e_231_44, e_231_115, e_231_99, e_231_152, e_231_160, e_231_168, e_231_179, e_231_233, e_231_242, e_231_197, e_231_253, e_231_265, e_231_271, e_231_118, e_231_141, e_231_171, e_231_182, e_231_280, e_231_288, e_231_132, e_229_0, e_229_42, e_229_73, e_229_25, e_229_113, e_230_0, e_230_43, e_230_57, e_230_26, e_230_84, e_230_75, s_149, s_228, s_168, e_150_0, e_151_0, Int.reduceMul, Int.reduceAdd, Int.zero_add, ite_self, hs, e_229_0, e_229_42, e_229_73, e_229_79, e_229_25, e_229_113, Int.reduceLT, Int.reduceLE, and_self, and_true, true_and, n1, n2, hτ, Option.bind_some, Int.add_zero, z_wid, or_true, true_or, z_up_fn, z_up_ni, z_up_eq, z_up_qi, z_rw_fn, z_rw_in, z_rw_out, if_pos, if_neg, ↓reduceIte]
          exact w_ret rfl
        · exact w_ref h 11
    · apply zOK_mk2
      · simp (disch := first | omega | (simp (disch := omega) only [z_up_fn, z_up_ni, z_up_eq, z_up_qi, z_rw_fn] <;> omega) | fail) only [ite_self, Int.reduceAdd, e_129_0, e_129_8, e_129_16, e_129_25, e_129_33, e_129_81, e_129_101, e_129_109, e_129_116, e_129_127, e_129_137, e_129_151, e_129_163, e_129_169, e_129_192, e_129_87, e_129_120, e_129_131, e_129_140, e_129_178, e_129_186, e_129_90, e_143_0, e_143_6, e_144_0, e_144_11, e_144_20, e_144_33, e_144_39, e_144_56, e_144_47, e_145_0, e_145_6_0, e_145_6_1, e_145_6_2, e_145_6_3, e_145_12_0, e_145_12_1, e_145_12_2, e_145_12_3, e_145_31_0, e_145_25, e_145_31_1, e_145_31_2, e_145_31_3, e_145_52, e_145_40, e_145_43, e_146_0, e_146_6_0, e_146_6_1, e_146_6_2, e_146_6_3, e_146_12_0, e_146_12_1, e_146_12_2, e_146_12_3, e_146_32_0, e_146_25, e_146_32_1, e_146_32_2, e_146_32_3, e_146_49, e_146_57, e_146_60, e_147_0, e_147_11, e_147_19, e_147_32, e_147_38, e_147_55, e_147_46, s_133, s_234, s_has_8, s_get_8, s_39, e_131_0, e_132_0, w_ix2, w_iy2, hs, e_77_0_2, e_78_0_2, e_78_4_2, e_79_0_2, e_80_0_2, e_81_0_2, e_81_5_2, e_83_0_2, e_83_5_2, e_83_27_2, Int.reduceLT, Int.reduceLE, and_self, and_true, true_and, Option.bind_some, Int.add_zero, z_wid, or_true, true_or, z_up_fn, z_up_ni, z_up_eq, z_up_qi, z_rw_fn, z_rw_in, z_rw_out, if_pos, if_neg, ↓reduceIte]
        exact w_ret rfl
      · intro k hk
        simp (disch := omega) only [z_up_fn, z_rw_fn]
      · intro τ hτ
        simp (disch := first | omega | (simp (disch := omega) only [hτ] <;> omega) | fail) only [e_231_0, e_231_7, e_231_37, e_231_18, e_231_29, e_231_44, e_231_115, e_231_99, e_231_152, e_231_160, e_231_168, e_231_179, e_231_233, e_231_242, e_231_197, e_231_253, e_231_265, e_231_271, e_231_118, e_231_141, e_231_171, e_231_182, e_231_280, e_231_288, e_231_132, e_229_0, e_229_42, e_229_73, e_229_25, e_229_113, e_230_0, e_230_43, e_230_57, e_230_26, e_230_84, e_230_75, s_149, s_228, s_168, e_150_0, e_151_0, Int.reduceMul, Int.reduceAdd, Int.zero_add, ite_self, hs, e_229_0, e_229_42, e_229_73, e_229_79, e_229_25, e_229_113, Int.reduceLT, Int.reduceLE, and_self, and_true, true_and, n1, n2, hτ, Option.bind_some, Int.add_zero, z_wid, or_true, true_or, z_up_fn, z_up_ni, z_up_eq, z_up_qi, z_rw_fn, z_rw_in, z_rw_out, if_pos, if_neg, ↓reduceIte]
        exact w_ret rfl
      · exact w_ref h 10
  · apply zOK_mk2
    · simp (disch := first | omega | (simp (disch := omega) only [z_up_fn, z_up_ni, z_up_eq, z_up_qi, z_rw_fn] <;> omega) | fail) only [ite_self, Int.reduceAdd, e_129_0, e_129_8, e_129_16, e_129_25, e_129_33, e_129_81, e_129_101, e_129_109, e_129_116, e_129_127, e_129_137, e_129_151, e_129_163, e_129_169, e_129_192, e_129_87, e_129_120, e_129_131, e_129_140, e_129_178, e_129_186, e_129_90, e_143_0, e_143_6, e_144_0, e_144_11, e_144_20, e_144_33, e_144_39, e_144_56, e_144_47, e_145_0, e_145_6_0, e_145_6_1, e_145_6_2, e_145_6_3, e_145_12_0, e_145_12_1, e_145_12_2, e_145_12_3, e_145_31_0, e_145_25, e_145_31_1, e_145_31_2, e_145_31_3, e_145_52, e_145_40, e_145_43, e_146_0, e_146_6_0, e_146_6_1, e_146_6_2, e_146_6_3, e_146_12_0, e_146_12_1, e_146_12_2, e_146_12_3, e_146_32_0, e_146_25, e_146_32_1, e_146_32_2, e_146_32_3, e_146_49, e_146_57, e_146_60, e_147_0, e_147_11, e_147_19, e_147_32, e_147_38, e_147_55, e_147_46, s_133, s_234, s_has_8, s_get_8, s_39, e_131_0, e_132_0, w_ix2, w_iy2, hs, e_77_0_2, e_78_0_2, e_78_4_2, e_79_0_2, e_80_0_2, e_81_0_2, e_81_5_2, e_83_0_2, e_83_5_2, e_83_27_2, Int.reduceLT, Int.reduceLE, and_self, and_true, true_and, Option.bind_some, Int.add_zero, z_wid, or_true, true_or, z_up_fn, z_up_ni, z_up_eq, z_up_qi, z_rw_fn, z_rw_in, z_rw_out, if_pos, if_neg, ↓reduceIte]
      exact w_ret rfl
    · intro k hk
      simp (disch := omega) only [z_up_fn, z_rw_fn]
    · intro τ hτ
      simp (disch := first | omega | (simp (disch := omega) only [hτ] <;> omega) | fail) only [e_231_0, e_231_7, e_231_37, e_231_18, e_231_29, e_231_44, e_231_115, e_231_99, e_231_152, e_231_160, e_231_168, e_231_179, e_231_233, e_231_242, e_231_197, e_231_253, e_231_265, e_231_271, e_231_118, e_231_141, e_231_171, e_231_182, e_231_280, e_231_288, e_231_132, e_229_0, e_229_42, e_229_73, e_229_25, e_229_113, e_230_0, e_230_43, e_230_57, e_230_26, e_230_84, e_230_75, s_149, s_228, s_168, e_150_0, e_151_0, Int.reduceMul, Int.reduceAdd, Int.zero_add, ite_self, hs, e_229_0, e_229_42, e_229_73, e_229_79, e_229_25, e_229_113, Int.reduceLT, Int.reduceLE, and_self, and_true, true_and, n1, n2, hτ, Option.bind_some, Int.add_zero, z_wid, or_true, true_or, z_up_fn, z_up_ni, z_up_eq, z_up_qi, z_rw_fn, z_rw_in, z_rw_out, if_pos, if_neg, ↓reduceIte]
      exact w_ret rfl
    · exact w_ref h 1
theorem o_forge3s2n3 (d : Nat) (s : Int → Int) (L : Int) (σ : Nat → Int → Int) (h : zV s L σ) (x3 : Int) (hs : x3 % 4 = 2) : zOK s L (d + 9) 129 231 [some (.inl 3), some (.inl 3), some (.inl x3)] [some (.inl 3), some (.inl 3), some (.inl x3), none] σ := by
  have hX := zV_X2 h
  have hX1 := hX.1
  have hX2 := hX.2.1
  have hX3 := hX.2.2.1
  have hX4 := hX.2.2.2.1
  have hX5 := hX.2.2.2.2.1
  have hX6 := hX.2.2.2.2.2.1
  have n1 : σ 122 81 = σ 68 1 := (hX.2.2.2.2.2.2 1 (by omega) (by omega)).1.symm
  have n2 : σ 122 82 = σ 68 2 := (hX.2.2.2.2.2.2 2 (by omega) (by omega)).1.symm
  have n3 : σ 122 83 = σ 68 3 := (hX.2.2.2.2.2.2 3 (by omega) (by omega)).1.symm
  by_cases c1 : -100 ≤ x3 ∧ x3 ≤ 100
  · by_cases c2 : ¬ σ 67 1 = -1
    · by_cases c3 : σ 67 1 = 0
      · by_cases c4 : 4 ≤ σ 67 2
        · apply zOK_mk2
          · simp (disch := first | omega | (simp (disch := omega) only [z_up_fn, z_up_ni, z_up_eq, z_up_qi, z_rw_fn] <;> omega) | fail) only [ite_self, Int.reduceAdd, e_129_0, e_129_8, e_129_16, e_129_25, e_129_33, e_129_81, e_129_101, e_129_109, e_129_116, e_129_127, e_129_137, e_129_151, e_129_163, e_129_169, e_129_192, e_129_87, e_129_120, e_129_131, e_129_140, e_129_178, e_129_186, e_129_90, e_143_0, e_143_6, e_144_0, e_144_11, e_144_20, e_144_33, e_144_39, e_144_56, e_144_47, e_145_0, e_145_6_0, e_145_6_1, e_145_6_2, e_145_6_3, e_145_12_0, e_145_12_1, e_145_12_2, e_145_12_3, e_145_31_0, e_145_25, e_145_31_1, e_145_31_2, e_145_31_3, e_145_52, e_145_40, e_145_43, e_146_0, e_146_6_0, e_146_6_1, e_146_6_2, e_146_6_3, e_146_12_0, e_146_12_1, e_146_12_2, e_146_12_3, e_146_32_0, e_146_25, e_146_32_1, e_146_32_2, e_146_32_3, e_146_49, e_146_57, e_146_60, e_147_0, e_147_11, e_147_19, e_147_32, e_147_38, e_147_55, e_147_46, s_133, s_234, s_has_8, s_get_8, s_39, e_131_0, e_132_0, w_ix2, w_iy2, hs, e_77_0_2, e_78_0_2, e_78_4_2, e_79_0_2, e_80_0_2, e_81_0_2, e_81_5_2, e_83_0_2, e_83_5_2, e_83_27_2, Int.reduceLT, Int.reduceLE, and_self, and_true, true_and, Option.bind_some, Int.add_zero, z_wid, or_true, true_or, z_up_fn, z_up_ni, z_up_eq, z_up_qi, z_rw_fn, z_rw_in, z_rw_out, if_pos, if_neg, ↓reduceIte]
            exact w_ret rfl
          · intro k hk
            simp (disch := omega) only [z_up_fn, z_rw_fn]
          · intro τ hτ
            simp (disch := first | omega | (simp (disch := omega) only [hτ] <;> omega) | fail) only [e_231_0, e_231_7, e_231_37, e_231_18, e_231_29, e_231_44, e_231_115, e_231_99, e_231_152, e_231_160, e_231_168, e_231_179, e_231_233, e_231_242, e_231_197, e_231_253, e_231_265, e_231_271, e_231_118, e_231_141, e_231_171, e_231_182, e_231_280, e_231_288, e_231_132, e_229_0, e_229_42, e_229_73, e_229_25, e_229_113, e_230_0, e_230_43, e_230_57, e_230_26, e_230_84, e_230_75, s_149, s_228, s_168, e_150_0, e_151_0, Int.reduceMul, Int.reduceAdd, Int.zero_add, ite_self, hs, e_229_0, e_229_42, e_229_73, e_229_79, e_229_25, e_229_113, Int.reduceLT, Int.reduceLE, and_self, and_true, true_and, n1, n2, n3, hτ, Option.bind_some, Int.add_zero, z_wid, or_true, true_or, z_up_fn, z_up_ni, z_up_eq, z_up_qi, z_rw_fn, z_rw_in, z_rw_out, if_pos, if_neg, ↓reduceIte]
            exact w_ret rfl
          · skip
            exact w_ref h 0
        · apply zOK_mk2
          · simp (disch := first | omega | (simp (disch := omega) only [z_up_fn, z_up_ni, z_up_eq, z_up_qi, z_rw_fn] <;> omega) | fail) only [ite_self, Int.reduceAdd, e_129_0, e_129_8, e_129_16, e_129_25, e_129_33, e_129_81, e_129_101, e_129_109, e_129_116, e_129_127, e_129_137, e_129_151, e_129_163, e_129_169, e_129_192, e_129_87, e_129_120, e_129_131, e_129_140, e_129_178, e_129_186, e_129_90, e_143_0, e_143_6, e_144_0, e_144_11, e_144_20, e_144_33, e_144_39, e_144_56, e_144_47, e_145_0, e_145_6_0, e_145_6_1, e_145_6_2, e_145_6_3, e_145_12_0, e_145_12_1, e_145_12_2, e_145_12_3, e_145_31_0, e_145_25, e_145_31_1, e_145_31_2, e_145_31_3, e_145_52, e_145_40, e_145_43, e_146_0, e_146_6_0, e_146_6_1, e_146_6_2, e_146_6_3, e_146_12_0, e_146_12_1, e_146_12_2, e_146_12_3, e_146_32_0, e_146_25, e_146_32_1, e_146_32_2, e_146_32_3, e_146_49, e_146_57, e_146_60, e_147_0, e_147_11, e_147_19, e_147_32, e_147_38, e_147_55, e_147_46, s_133, s_234, s_has_8, s_get_8, s_39, e_131_0, e_132_0, w_ix2, w_iy2, hs, e_77_0_2, e_78_0_2, e_78_4_2, e_79_0_2, e_80_0_2, e_81_0_2, e_81_5_2, e_83_0_2, e_83_5_2, e_83_27_2, Int.reduceLT, Int.reduceLE, and_self, and_true, true_and, Option.bind_some, Int.add_zero, z_wid, or_true, true_or, z_up_fn, z_up_ni, z_up_eq, z_up_qi, z_rw_fn, z_rw_in, z_rw_out, if_pos, if_neg, ↓reduceIte]
            exact w_ret rfl
          · intro k hk
            simp (disch := omega) only [z_up_fn, z_rw_fn]
          · intro τ hτ
            simp (disch := first | omega | (simp (disch := omega) only [hτ] <;> omega) | fail) only [e_231_0, e_231_7, e_231_37, e_231_18, e_231_29, e_231_44, e_231_115, e_231_99, e_231_152, e_231_160, e_231_168, e_231_179, e_231_233, e_231_242, e_231_197, e_231_253, e_231_265, e_231_271, e_231_118, e_231_141, e_231_171, e_231_182, e_231_280, e_231_288, e_231_132, e_229_0, e_229_42, e_229_73, e_229_25, e_229_113, e_230_0, e_230_43, e_230_57, e_230_26, e_230_84, e_230_75, s_149, s_228, s_168, e_150_0, e_151_0, Int.reduceMul, Int.reduceAdd, Int.zero_add, ite_self, hs, e_229_0, e_229_42, e_229_73, e_229_79, e_229_25, e_229_113, Int.reduceLT, Int.reduceLE, and_self, and_true, true_and, n1, n2, n3, hτ, Option.bind_some, Int.add_zero, z_wid, or_true, true_or, z_up_fn, z_up_ni, z_up_eq, z_up_qi, z_rw_fn, z_rw_in, z_rw_out, if_pos, if_neg, ↓reduceIte]
            exact w_ret rfl
          · exact w_ref h 12
      · apply zOK_mk2
        · simp (disch := first | omega | (simp (disch := omega) only [z_up_fn, z_up_ni, z_up_eq, z_up_qi, z_rw_fn] <;> omega) | fail) only [ite_self, Int.reduceAdd, e_129_0, e_129_8, e_129_16, e_129_25, e_129_33, e_129_81, e_129_101, e_129_109, e_129_116, e_129_127, e_129_137, e_129_151, e_129_163, e_129_169, e_129_192, e_129_87, e_129_120, e_129_131, e_129_140, e_129_178, e_129_186, e_129_90, e_143_0, e_143_6, e_144_0, e_144_11, e_144_20, e_144_33, e_144_39, e_144_56, e_144_47, e_145_0, e_145_6_0, e_145_6_1, e_145_6_2, e_145_6_3, e_145_12_0, e_145_12_1, e_145_12_2, e_145_12_3, e_145_31_0, e_145_25, e_145_31_1, e_145_31_2, e_145_31_3, e_145_52, e_145_40, e_145_43, e_146_0, e_146_6_0, e_146_6_1, e_146_6_2, e_146_6_3, e_146_12_0, e_146_12_1, e_146_12_2, e_146_12_3, e_146_32_0, e_146_25, e_146_32_1, e_146_32_2, e_146_32_3, e_146_49, e_146_57, e_146_60, e_147_0, e_147_11, e_147_19, e_147_32, e_147_38, e_147_55, e_147_46, s_133, s_234, s_has_8, s_get_8, s_39, e_131_0, e_132_0, w_ix2, w_iy2, hs, e_77_0_2, e_78_0_2, e_78_4_2, e_79_0_2, e_80_0_2, e_81_0_2, e_81_5_2, e_83_0_2, e_83_5_2, e_83_27_2, Int.reduceLT, Int.reduceLE, and_self, and_true, true_and, Option.bind_some, Int.add_zero, z_wid, or_true, true_or, z_up_fn, z_up_ni, z_up_eq, z_up_qi, z_rw_fn, z_rw_in, z_rw_out, if_pos, if_neg, ↓reduceIte]
          exact w_ret rfl
        · intro k hk
          simp (disch := omega) only [z_up_fn, z_rw_fn]
        · intro τ hτ
          simp (disch := first | omega | (simp (disch := omega) only [hτ] <;> omega) | fail) only [e_231_0, e_231_7, e_231_37, e_231_18, e_231_29, e_231_44, e_231_115, e_231_99, e_231_152, e_231_160, e_231_168, e_231_179, e_231_233, e_231_242, e_231_197, e_231_253, e_231_265, e_231_271, e_231_118, e_231_141, e_231_171, e_231_182, e_231_280, e_231_288, e_231_132, e_229_0, e_229_42, e_229_73, e_229_25, e_229_113, e_230_0, e_230_43, e_230_57, e_230_26, e_230_84, e_230_75, s_149, s_228, s_168, e_150_0, e_151_0, Int.reduceMul, Int.reduceAdd, Int.zero_add, ite_self, hs, e_229_0, e_229_42, e_229_73, e_229_79, e_229_25, e_229_113, Int.reduceLT, Int.reduceLE, and_self, and_true, true_and, n1, n2, n3, hτ, Option.bind_some, Int.add_zero, z_wid, or_true, true_or, z_up_fn, z_up_ni, z_up_eq, z_up_qi, z_rw_fn, z_rw_in, z_rw_out, if_pos, if_neg, ↓reduceIte]
          exact w_ret rfl
        · exact w_ref h 11
    · apply zOK_mk2
      · simp (disch := first | omega | (simp (disch := omega) only [z_up_fn, z_up_ni, z_up_eq, z_up_qi, z_rw_fn] <;> omega) | fail) only [ite_self, Int.reduceAdd, e_129_0, e_129_8, e_129_16, e_129_25, e_129_33, e_129_81, e_129_101, e_129_109, e_129_116, e_129_127, e_129_137, e_129_151, e_129_163, e_129_169, e_129_192, e_129_87, e_129_120, e_129_131, e_129_140, e_129_178, e_129_186, e_129_90, e_143_0, e_143_6, e_144_0, e_144_11, e_144_20, e_144_33, e_144_39, e_144_56, e_144_47, e_145_0, e_145_6_0, e_145_6_1, e_145_6_2, e_145_6_3, e_145_12_0, e_145_12_1, e_145_12_2, e_145_12_3, e_145_31_0, e_145_25, e_145_31_1, e_145_31_2, e_145_31_3, e_145_52, e_145_40, e_145_43, e_146_0, e_146_6_0, e_146_6_1, e_146_6_2, e_146_6_3, e_146_12_0, e_146_12_1, e_146_12_2, e_146_12_3, e_146_32_0, e_146_25, e_146_32_1, e_146_32_2, e_146_32_3, e_146_49, e_146_57, e_146_60, e_147_0, e_147_11, e_147_19, e_147_32, e_147_38, e_147_55, e_147_46, s_133, s_234, s_has_8, s_get_8, s_39, e_131_0, e_132_0, w_ix2, w_iy2, hs, e_77_0_2, e_78_0_2, e_78_4_2, e_79_0_2, e_80_0_2, e_81_0_2, e_81_5_2, e_83_0_2, e_83_5_2, e_83_27_2, Int.reduceLT, Int.reduceLE, and_self, and_true, true_and, Option.bind_some, Int.add_zero, z_wid, or_true, true_or, z_up_fn, z_up_ni, z_up_eq, z_up_qi, z_rw_fn, z_rw_in, z_rw_out, if_pos, if_neg, ↓reduceIte]
        exact w_ret rfl
      · intro k hk
        simp (disch := omega) only [z_up_fn, z_rw_fn]
      · intro τ hτ
        simp (disch := first | omega | (simp (disch := omega) only [hτ] <;> omega) | fail) only [e_231_0, e_231_7, e_231_37, e_231_18, e_231_29, e_231_44, e_231_115, e_231_99, e_231_152, e_231_160, e_231_168, e_231_179, e_231_233, e_231_242, e_231_197, e_231_253, e_231_265, e_231_271, e_231_118, e_231_141, e_231_171, e_231_182, e_231_280, e_231_288, e_231_132, e_229_0, e_229_42, e_229_73, e_229_25, e_229_113, e_230_0, e_230_43, e_230_57, e_230_26, e_230_84, e_230_75, s_149, s_228, s_168, e_150_0, e_151_0, Int.reduceMul, Int.reduceAdd, Int.zero_add, ite_self, hs, e_229_0, e_229_42, e_229_73, e_229_79, e_229_25, e_229_113, Int.reduceLT, Int.reduceLE, and_self, and_true, true_and, n1, n2, n3, hτ, Option.bind_some, Int.add_zero, z_wid, or_true, true_or, z_up_fn, z_up_ni, z_up_eq, z_up_qi, z_rw_fn, z_rw_in, z_rw_out, if_pos, if_neg, ↓reduceIte]
        exact w_ret rfl
      · exact w_ref h 10
  · apply zOK_mk2
    · simp (disch := first | omega | (simp (disch := omega) only [z_up_fn, z_up_ni, z_up_eq, z_up_qi, z_rw_fn] <;> omega) | fail) only [ite_self, Int.reduceAdd, e_129_0, e_129_8, e_129_16, e_129_25, e_129_33, e_129_81, e_129_101, e_129_109, e_129_116, e_129_127, e_129_137, e_129_151, e_129_163, e_129_169, e_129_192, e_129_87, e_129_120, e_129_131, e_129_140, e_129_178, e_129_186, e_129_90, e_143_0, e_143_6, e_144_0, e_144_11, e_144_20, e_144_33, e_144_39, e_144_56, e_144_47, e_145_0, e_145_6_0, e_145_6_1, e_145_6_2, e_145_6_3, e_145_12_0, e_145_12_1, e_145_12_2, e_145_12_3, e_145_31_0, e_145_25, e_145_31_1, e_145_31_2, e_145_31_3, e_145_52, e_145_40, e_145_43, e_146_0, e_146_6_0, e_146_6_1, e_146_6_2, e_146_6_3, e_146_12_0, e_146_12_1, e_146_12_2, e_146_12_3, e_146_32_0, e_146_25, e_146_32_1, e_146_32_2, e_146_32_3, e_146_49, e_146_57, e_146_60, e_147_0, e_147_11, e_147_19, e_147_32, e_147_38, e_147_55, e_147_46, s_133, s_234, s_has_8, s_get_8, s_39, e_131_0, e_132_0, w_ix2, w_iy2, hs, e_77_0_2, e_78_0_2, e_78_4_2, e_79_0_2, e_80_0_2, e_81_0_2, e_81_5_2, e_83_0_2, e_83_5_2, e_83_27_2, Int.reduceLT, Int.reduceLE, and_self, and_true, true_and, Option.bind_some, Int.add_zero, z_wid, or_true, true_or, z_up_fn, z_up_ni, z_up_eq, z_up_qi, z_rw_fn, z_rw_in, z_rw_out, if_pos, if_neg, ↓reduceIte]
      exact w_ret rfl
    · intro k hk
      simp (disch := omega) only [z_up_fn, z_rw_fn]
    · intro τ hτ
      simp (disch := first | omega | (simp (disch := omega) only [hτ] <;> omega) | fail) only [e_231_0, e_231_7, e_231_37, e_231_18, e_231_29, e_231_44, e_231_115, e_231_99, e_231_152, e_231_160, e_231_168, e_231_179, e_231_233, e_231_242, e_231_197, e_231_253, e_231_265, e_231_271, e_231_118, e_231_141, e_231_171, e_231_182, e_231_280, e_231_288, e_231_132, e_229_0, e_229_42, e_229_73, e_229_25, e_229_113, e_230_0, e_230_43, e_230_57, e_230_26, e_230_84, e_230_75, s_149, s_228, s_168, e_150_0, e_151_0, Int.reduceMul, Int.reduceAdd, Int.zero_add, ite_self, hs, e_229_0, e_229_42, e_229_73, e_229_79, e_229_25, e_229_113, Int.reduceLT, Int.reduceLE, and_self, and_true, true_and, n1, n2, n3, hτ, Option.bind_some, Int.add_zero, z_wid, or_true, true_or, z_up_fn, z_up_ni, z_up_eq, z_up_qi, z_rw_fn, z_rw_in, z_rw_out, if_pos, if_neg, ↓reduceIte]
      exact w_ret rfl
    · exact w_ref h 1
theorem o_forge3s2x (d : Nat) (s : Int → Int) (L : Int) (σ : Nat → Int → Int) (h : zV s L σ) (x2 x3 : Int) (hs : x3 % 4 = 2) (hn : x2 < 0) : zOK s L (d + 9) 129 231 [some (.inl 3), some (.inl x2), some (.inl x3)] [some (.inl 3), some (.inl x2), some (.inl x3), none] σ := by
  have hX := zV_X2 h
  have hX1 := hX.1
  have hX2 := hX.2.1
  have hX3 := hX.2.2.1
  have hX4 := hX.2.2.2.1
  have hX5 := hX.2.2.2.2.1
  have hX6 := hX.2.2.2.2.2.1
  by_cases c1 : -100 ≤ x2 ∧ x2 ≤ 100
  · by_cases c2 : -100 ≤ x3 ∧ x3 ≤ 100
    · by_cases c3 : ¬ σ 67 1 = -1
      · by_cases c4 : σ 67 1 = 0
        · apply zOK_mk2
          · simp (disch := first | omega | (simp (disch := omega) only [z_up_fn, z_up_ni, z_up_eq, z_up_qi, z_rw_fn] <;> omega) | fail) only [ite_self, Int.reduceAdd, e_129_0, e_129_8, e_129_16, e_129_25, e_129_33, e_129_81, e_129_101, e_129_109, e_129_116, e_129_127, e_129_137, e_129_151, e_129_163, e_129_169, e_129_192, e_129_87, e_129_120, e_129_131, e_129_140, e_129_178, e_129_186, e_129_90, e_143_0, e_143_6, e_144_0, e_144_11, e_144_20, e_144_33, e_144_39, e_144_56, e_144_47, e_145_0, e_145_6_0, e_145_6_1, e_145_6_2, e_145_6_3, e_145_12_0, e_145_12_1, e_145_12_2, e_145_12_3, e_145_31_0, e_145_25, e_145_31_1, e_145_31_2, e_145_31_3, e_145_52, e_145_40, e_145_43, e_146_0, e_146_6_0, e_146_6_1, e_146_6_2, e_146_6_3, e_146_12_0, e_146_12_1, e_146_12_2, e_146_12_3, e_146_32_0, e_146_25, e_146_32_1, e_146_32_2, e_146_32_3, e_146_49, e_146_57, e_146_60, e_147_0, e_147_11, e_147_19, e_147_32, e_147_38, e_147_55, e_147_46, s_133, s_234, s_has_8, s_get_8, s_39, e_131_0, e_132_0, w_ix2, w_iy2, hs, e_77_0_2, e_78_0_2, e_78_4_2, e_79_0_2, e_80_0_2, e_81_0_2, e_81_5_2, Option.bind_some, Int.add_zero, z_wid, or_true, true_or, z_up_fn, z_up_ni, z_up_eq, z_up_qi, z_rw_fn, z_rw_in, z_rw_out, if_pos, if_neg, ↓reduceIte]
            exact w_ret rfl
          · intro k hk
            simp (disch := omega) only [z_up_fn, z_rw_fn]
          · intro τ hτ
            simp (disch := first | omega | (simp (disch := omega) only [hτ] <;> omega) | fail) only [e_231_0, e_231_7, e_231_37, e_231_18, e_231_29, e_231_44, e_231_115, e_231_99, e_231_152, e_231_160, e_231_168, e_231_179, e_231_233, e_231_242, e_231_197, e_231_253, e_231_265, e_231_271, e_231_118, e_231_141, e_231_171, e_231_182, e_231_280, e_231_288, e_231_132, e_229_0, e_229_42, e_229_73, e_229_25, e_229_113, e_230_0, e_230_43, e_230_57, e_230_26, e_230_84, e_230_75, s_149, s_228, s_168, e_150_0, e_151_0, Int.reduceMul, Int.reduceAdd, Int.zero_add, ite_self, hs, ite_self, hτ, Option.bind_some, Int.add_zero, z_wid, or_true, true_or, z_up_fn, z_up_ni, z_up_eq, z_up_qi, z_rw_fn, z_rw_in, z_rw_out, if_pos, if_neg, ↓reduceIte]
            exact w_ret (by omega)
          · skip
            exact w_ref h 12
        · apply zOK_mk2
          · simp (disch := first | omega | (simp (disch := omega) only [z_up_fn, z_up_ni, z_up_eq, z_up_qi, z_rw_fn] <;> omega) | fail) only [ite_self, Int.reduceAdd, e_129_0, e_129_8, e_129_16, e_129_25, e_129_33, e_129_81, e_129_101, e_129_109, e_129_116, e_129_127, e_129_137, e_129_151, e_129_163, e_129_169, e_129_192, e_129_87, e_129_120, e_129_131, e_129_140, e_129_178, e_129_186, e_129_90, e_143_0, e_143_6, e_144_0, e_144_11, e_144_20, e_144_33, e_144_39, e_144_56, e_144_47, e_145_0, e_145_6_0, e_145_6_1, e_145_6_2, e_145_6_3, e_145_12_0, e_145_12_1, e_145_12_2, e_145_12_3, e_145_31_0, e_145_25, e_145_31_1, e_145_31_2, e_145_31_3, e_145_52, e_145_40, e_145_43, e_146_0, e_146_6_0, e_146_6_1, e_146_6_2, e_146_6_3, e_146_12_0, e_146_12_1, e_146_12_2, e_146_12_3, e_146_32_0, e_146_25, e_146_32_1, e_146_32_2, e_146_32_3, e_146_49, e_146_57, e_146_60, e_147_0, e_147_11, e_147_19, e_147_32, e_147_38, e_147_55, e_147_46, s_133, s_234, s_has_8, s_get_8, s_39, e_131_0, e_132_0, w_ix2, w_iy2, hs, e_77_0_2, e_78_0_2, e_78_4_2, e_79_0_2, e_80_0_2, e_81_0_2, e_81_5_2, Option.bind_some, Int.add_zero, z_wid, or_true, true_or, z_up_fn, z_up_ni, z_up_eq, z_up_qi, z_rw_fn, z_rw_in, z_rw_out, if_pos, if_neg, ↓reduceIte]
            exact w_ret rfl
          · intro k hk
            simp (disch := omega) only [z_up_fn, z_rw_fn]
          · intro τ hτ
            simp (disch := first | omega | (simp (disch := omega) only [hτ] <;> omega) | fail) only [e_231_0, e_231_7, e_231_37, e_231_18, e_231_29, e_231_44, e_231_115, e_231_99, e_231_152, e_231_160, e_231_168, e_231_179, e_231_233, e_231_242, e_231_197, e_231_253, e_231_265, e_231_271, e_231_118, e_231_141, e_231_171, e_231_182, e_231_280, e_231_288, e_231_132, e_229_0, e_229_42, e_229_73, e_229_25, e_229_113, e_230_0, e_230_43, e_230_57, e_230_26, e_230_84, e_230_75, s_149, s_228, s_168, e_150_0, e_151_0, Int.reduceMul, Int.reduceAdd, Int.zero_add, ite_self, hs, ite_self, hτ, Option.bind_some, Int.add_zero, z_wid, or_true, true_or, z_up_fn, z_up_ni, z_up_eq, z_up_qi, z_rw_fn, z_rw_in, z_rw_out, if_pos, if_neg, ↓reduceIte]
            exact w_ret rfl
          · exact w_ref h 11
      · apply zOK_mk2
        · simp (disch := first | omega | (simp (disch := omega) only [z_up_fn, z_up_ni, z_up_eq, z_up_qi, z_rw_fn] <;> omega) | fail) only [ite_self, Int.reduceAdd, e_129_0, e_129_8, e_129_16, e_129_25, e_129_33, e_129_81, e_129_101, e_129_109, e_129_116, e_129_127, e_129_137, e_129_151, e_129_163, e_129_169, e_129_192, e_129_87, e_129_120, e_129_131, e_129_140, e_129_178, e_129_186, e_129_90, e_143_0, e_143_6, e_144_0, e_144_11, e_144_20, e_144_33, e_144_39, e_144_56, e_144_47, e_145_0, e_145_6_0, e_145_6_1, e_145_6_2, e_145_6_3, e_145_12_0, e_145_12_1, e_145_12_2, e_145_12_3, e_145_31_0, e_145_25, e_145_31_1, e_145_31_2, e_145_31_3, e_145_52, e_145_40, e_145_43, e_146_0, e_146_6_0, e_146_6_1, e_146_6_2, e_146_6_3, e_146_12_0, e_146_12_1, e_146_12_2, e_146_12_3, e_146_32_0, e_146_25, e_146_32_1, e_146_32_2, e_146_32_3, e_146_49, e_146_57, e_146_60, e_147_0, e_147_11, e_147_19, e_147_32, e_147_38, e_147_55, e_147_46, s_133, s_234, s_has_8, s_get_8, s_39, e_131_0, e_132_0, w_ix2, w_iy2, hs, e_77_0_2, e_78_0_2, e_78_4_2, e_79_0_2, e_80_0_2, e_81_0_2, e_81_5_2, Option.bind_some, Int.add_zero, z_wid, or_true, true_or, z_up_fn, z_up_ni, z_up_eq, z_up_qi, z_rw_fn, z_rw_in, z_rw_out, if_pos, if_neg, ↓reduceIte]
          exact w_ret rfl
        · intro k hk
          simp (disch := omega) only [z_up_fn, z_rw_fn]
        · intro τ hτ
          simp (disch := first | omega | (simp (disch := omega) only [hτ] <;> omega) | fail) only [e_231_0, e_231_7, e_231_37, e_231_18, e_231_29, e_231_44, e_231_115, e_231_99, e_231_152, e_231_160, e_231_168, e_231_179, e_231_233, e_231_242, e_231_197, e_231_253, e_231_265, e_231_271, e_231_118, e_231_141, e_231_171, e_231_182, e_231_280, e_231_288, e_231_132, e_229_0, e_229_42, e_229_73, e_229_25, e_229_113, e_230_0, e_230_43, e_230_57, e_230_26, e_230_84, e_230_75, s_149, s_228, s_168, e_150_0, e_151_0, Int.reduceMul, Int.reduceAdd, Int.zero_add, ite_self, hs, ite_self, hτ, Option.bind_some, Int.add_zero, z_wid, or_true, true_or, z_up_fn, z_up_ni, z_up_eq, z_up_qi, z_rw_fn, z_rw_in, z_rw_out, if_pos, if_neg, ↓reduceIte]
          exact w_ret rfl
        · exact w_ref h 10
    · apply zOK_mk2
      · simp (disch := first | omega | (simp (disch := omega) only [z_up_fn, z_up_ni, z_up_eq, z_up_qi, z_rw_fn] <;> omega) | fail) only [ite_self, Int.reduceAdd, e_129_0, e_129_8, e_129_16, e_129_25, e_129_33, e_129_81, e_129_101, e_129_109, e_129_116, e_129_127, e_129_137, e_129_151, e_129_163, e_129_169, e_129_192, e_129_87, e_129_120, e_129_131, e_129_140, e_129_178, e_129_186, e_129_90, e_143_0, e_143_6, e_144_0, e_144_11, e_144_20, e_144_33, e_144_39, e_144_56, e_144_47, e_145_0, e_145_6_0, e_145_6_1, e_145_6_2, e_145_6_3, e_145_12_0, e_145_12_1, e_145_12_2, e_145_12_3, e_145_31_0, e_145_25, e_145_31_1, e_145_31_2, e_145_31_3, e_145_52, e_145_40, e_145_43, e_146_0, e_146_6_0, e_146_6_1, e_146_6_2, e_146_6_3, e_146_12_0, e_146_12_1, e_146_12_2, e_146_12_3, e_146_32_0, e_146_25, e_146_32_1, e_146_32_2, e_146_32_3, e_146_49, e_146_57, e_146_60, e_147_0, e_147_11, e_147_19, e_147_32, e_147_38, e_147_55, e_147_46, s_133, s_234, s_has_8, s_get_8, s_39, e_131_0, e_132_0, w_ix2, w_iy2, hs, e_77_0_2, e_78_0_2, e_78_4_2, e_79_0_2, e_80_0_2, e_81_0_2, e_81_5_2, Option.bind_some, Int.add_zero, z_wid, or_true, true_or, z_up_fn, z_up_ni, z_up_eq, z_up_qi, z_rw_fn, z_rw_in, z_rw_out, if_pos, if_neg, ↓reduceIte]
        exact w_ret rfl
      · intro k hk
        simp (disch := omega) only [z_up_fn, z_rw_fn]
      · intro τ hτ
        simp (disch := first | omega | (simp (disch := omega) only [hτ] <;> omega) | fail) only [e_231_0, e_231_7, e_231_37, e_231_18, e_231_29, e_231_44, e_231_115, e_231_99, e_231_152, e_231_160, e_231_168, e_231_179, e_231_233, e_231_242, e_231_197, e_231_253, e_231_265, e_231_271, e_231_118, e_231_141, e_231_171, e_231_182, e_231_280, e_231_288, e_231_132, e_229_0, e_229_42, e_229_73, e_229_25, e_229_113, e_230_0, e_230_43, e_230_57, e_230_26, e_230_84, e_230_75, s_149, s_228, s_168, e_150_0, e_151_0, Int.reduceMul, Int.reduceAdd, Int.zero_add, ite_self, hs, ite_self, hτ, Option.bind_some, Int.add_zero, z_wid, or_true, true_or, z_up_fn, z_up_ni, z_up_eq, z_up_qi, z_rw_fn, z_rw_in, z_rw_out, if_pos, if_neg, ↓reduceIte]
        exact w_ret rfl
      · exact w_ref h 1
  · apply zOK_mk2
    · simp (disch := first | omega | (simp (disch := omega) only [z_up_fn, z_up_ni, z_up_eq, z_up_qi, z_rw_fn] <;> omega) | fail) only [ite_self, Int.reduceAdd, e_129_0, e_129_8, e_129_16, e_129_25, e_129_33, e_129_81, e_129_101, e_129_109, e_129_116, e_129_127, e_129_137, e_129_151, e_129_163, e_129_169, e_129_192, e_129_87, e_129_120, e_129_131, e_129_140, e_129_178, e_129_186, e_129_90, e_143_0, e_143_6, e_144_0, e_144_11, e_144_20, e_144_33, e_144_39, e_144_56, e_144_47, e_145_0, e_145_6_0, e_145_6_1, e_145_6_2, e_145_6_3, e_145_12_0, e_145_12_1, e_145_12_2, e_145_12_3, e_145_31_0, e_145_25, e_145_31_1, e_145_31_2, e_145_31_3, e_145_52, e_145_40, e_145_43, e_146_0, e_146_6_0, e_146_6_1, e_146_6_2, e_146_6_3, e_146_12_0, e_146_12_1, e_146_12_2, e_146_12_3, e_146_32_0, e_146_25, e_146_32_1, e_146_32_2, e_146_32_3, e_146_49, e_146_57, e_146_60, e_147_0, e_147_11, e_147_19, e_147_32, e_147_38, e_147_55, e_147_46, s_133, s_234, s_has_8, s_get_8, s_39, e_131_0, e_132_0, w_ix2, w_iy2, hs, e_77_0_2, e_78_0_2, e_78_4_2, e_79_0_2, e_80_0_2, e_81_0_2, e_81_5_2, Option.bind_some, Int.add_zero, z_wid, or_true, true_or, z_up_fn, z_up_ni, z_up_eq, z_up_qi, z_rw_fn, z_rw_in, z_rw_out, if_pos, if_neg, ↓reduceIte]
      exact w_ret rfl
    · intro k hk
      simp (disch := omega) only [z_up_fn, z_rw_fn]
    · intro τ hτ
      simp (disch := first | omega | (simp (disch := omega) only [hτ] <;> omega) | fail) only [e_231_0, e_231_7, e_231_37, e_231_18, e_231_29, e_231_44, e_231_115, e_231_99, e_231_152, e_231_160, e_231_168, e_231_179, e_231_233, e_231_242, e_231_197, e_231_253, e_231_265, e_231_271, e_231_118, e_231_141, e_231_171, e_231_182, e_231_280, e_231_288, e_231_132, e_229_0, e_229_42, e_229_73, e_229_25, e_229_113, e_230_0, e_230_43, e_230_57, e_230_26, e_230_84, e_230_75, s_149, s_228, s_168, e_150_0, e_151_0, Int.reduceMul, Int.reduceAdd, Int.zero_add, ite_self, hs, ite_self, hτ, Option.bind_some, Int.add_zero, z_wid, or_true, true_or, z_up_fn, z_up_ni, z_up_eq, z_up_qi, z_rw_fn, z_rw_in, z_rw_out, if_pos, if_neg, ↓reduceIte]
      exact w_ret rfl
    · exact w_ref h 1
theorem o_forge3s2y (d : Nat) (s : Int → Int) (L : Int) (σ : Nat → Int → Int) (h : zV s L σ) (x2 x3 : Int) (hs : x3 % 4 = 2) (hn : 3 < x2 ∧ x2 + 1 ≤ σ 67 2) : zOK s L (d + 9) 129 231 [some (.inl 3), some (.inl x2), some (.inl x3)] [some (.inl 3), some (.inl x2), some (.inl x3), none] σ := by
  have hX := zV_X2 h
  have hX1 := hX.1
  have hX2 := hX.2.1
  have hX3 := hX.2.2.1
  have hX4 := hX.2.2.2.1
  have hX5 := hX.2.2.2.2.1
  have hX6 := hX.2.2.2.2.2.1
  by_cases c1 : -100 ≤ x2 ∧ x2 ≤ 100
  · by_cases c2 : -100 ≤ x3 ∧ x3 ≤ 100
    · by_cases c3 : ¬ σ 67 1 = -1
      · by_cases c4 : σ 67 1 = 0
        · apply zOK_mk2
          · simp (disch := first | omega | (simp (disch := omega) only [z_up_fn, z_up_ni, z_up_eq, z_up_qi, z_rw_fn] <;> omega) | fail) only [ite_self, Int.reduceAdd, e_129_0, e_129_8, e_129_16, e_129_25, e_129_33, e_129_81, e_129_101, e_129_109, e_129_116, e_129_127, e_129_137, e_129_151, e_129_163, e_129_169, e_129_192, e_129_87, e_129_120, e_129_131, e_129_140, e_129_178, e_129_186, e_129_90, e_143_0, e_143_6, e_144_0, e_144_11, e_144_20, e_144_33, e_144_39, e_144_56, e_144_47, e_145_0, e_145_6_0, e_145_6_1, e_145_6_2, e_145_6_3, e_145_12_0, e_145_12_1, e_145_12_2, e_145_12_3, e_145_31_0, e_145_25, e_145_31_1, e_145_31_2, e_145_31_3, e_145_52, e_145_40, e_145_43, e_146_0, e_146_6_0, e_146_6_1, e_146_6_2, e_146_6_3, e_146_12_0, e_146_12_1, e_146_12_2, e_146_12_3, e_146_32_0, e_146_25, e_146_32_1, e_146_32_2, e_146_32_3, e_146_49, e_146_57, e_146_60, e_147_0, e_147_11, e_147_19, e_147_32, e_147_38, e_147_55, e_147_46, s_133, s_234, s_has_8, s_get_8, s_39, e_131_0, e_132_0, w_ix2, w_iy2, hs, e_77_0_2, e_78_0_2, e_78_4_2, e_79_0_2, e_80_0_2, e_81_0_2, e_81_5_2, Option.bind_some, Int.add_zero, z_wid, or_true, true_or, z_up_fn, z_up_ni, z_up_eq, z_up_qi, z_rw_fn, z_rw_in, z_rw_out, if_pos, if_neg, ↓reduceIte]
            exact w_ret rfl
          · intro k hk
            simp (disch := omega) only [z_up_fn, z_rw_fn]
          · intro τ hτ
            simp (disch := first | omega | (simp (disch := omega) only [hτ] <;> omega) | fail) only [e_231_0, e_231_7, e_231_37, e_231_18, e_231_29, e_231_44, e_231_115, e_231_99, e_231_152, e_231_160, e_231_168, e_231_179, e_231_233, e_231_242, e_231_197, e_231_253, e_231_265, e_231_271, e_231_118, e_231_141, e_231_171, e_231_182, e_231_280, e_231_288, e_231_132, e_229_0, e_229_42, e_229_73, e_229_25, e_229_113, e_230_0, e_230_43, e_230_57, e_230_26, e_230_84, e_230_75, s_149, s_228, s_168, e_150_0, e_151_0, Int.reduceMul, Int.reduceAdd, Int.zero_add, ite_self, hs, ite_self, hτ, Option.bind_some, Int.add_zero, z_wid, or_true, true_or, z_up_fn, z_up_ni, z_up_eq, z_up_qi, z_rw_fn, z_rw_in, z_rw_out, if_pos, if_neg, ↓reduceIte]
            exact w_ret (by omega)
          · skip
            exact w_ref h 12
        · apply zOK_mk2
          · simp (disch := first | omega | (simp (disch := omega) only [z_up_fn, z_up_ni, z_up_eq, z_up_qi, z_rw_fn] <;> omega) | fail) only [ite_self, Int.reduceAdd, e_129_0, e_129_8, e_129_16, e_129_25, e_129_33, e_129_81, e_129_101, e_129_109, e_129_116, e_129_127, e_129_137, e_129_151, e_129_163, e_129_169, e_129_192, e_129_87, e_129_120, e_129_131, e_129_140, e_129_178, e_129_186, e_129_90, e_143_0, e_143_6, e_144_0, e_144_11, e_144_20, e_144_33, e_144_39, e_144_56, e_144_47, e_145_0, e_145_6_0, e_145_6_1, e_145_6_2, e_145_6_3, e_145_12_0, e_145_12_1, e_145_12_2, e_145_12_3, e_145_31_0, e_145_25, e_145_31_1, e_145_31_2, e_145_31_3, e_145_52, e_145_40, e_145_43, e_146_0, e_146_6_0, e_146_6_1, e_146_6_2, e_146_6_3, e_146_12_0, e_146_12_1, e_146_12_2, e_146_12_3, e_146_32_0, e_146_25, e_146_32_1, e_146_32_2, e_146_32_3, e_146_49, e_146_57, e_146_60, e_147_0, e_147_11, e_147_19, e_147_32, e_147_38, e_147_55, e_147_46, s_133, s_234, s_has_8, s_get_8, s_39, e_131_0, e_132_0, w_ix2, w_iy2, hs, e_77_0_2, e_78_0_2, e_78_4_2, e_79_0_2, e_80_0_2, e_81_0_2, e_81_5_2, Option.bind_some, Int.add_zero, z_wid, or_true, true_or, z_up_fn, z_up_ni, z_up_eq, z_up_qi, z_rw_fn, z_rw_in, z_rw_out, if_pos, if_neg, ↓reduceIte]
            exact w_ret rfl
          · intro k hk
            simp (disch := omega) only [z_up_fn, z_rw_fn]
          · intro τ hτ
            simp (disch := first | omega | (simp (disch := omega) only [hτ] <;> omega) | fail) only [e_231_0, e_231_7, e_231_37, e_231_18, e_231_29, e_231_44, e_231_115, e_231_99, e_231_152, e_231_160, e_231_168, e_231_179, e_231_233, e_231_242, e_231_197, e_231_253, e_231_265, e_231_271, e_231_118, e_231_141, e_231_171, e_231_182, e_231_280, e_231_288, e_231_132, e_229_0, e_229_42, e_229_73, e_229_25, e_229_113, e_230_0, e_230_43, e_230_57, e_230_26, e_230_84, e_230_75, s_149, s_228, s_168, e_150_0, e_151_0, Int.reduceMul, Int.reduceAdd, Int.zero_add, ite_self, hs, ite_self, hτ, Option.bind_some, Int.add_zero, z_wid, or_true, true_or, z_up_fn, z_up_ni, z_up_eq, z_up_qi, z_rw_fn, z_rw_in, z_rw_out, if_pos, if_neg, ↓reduceIte]
            exact w_ret rfl
          · exact w_ref h 11
      · apply zOK_mk2
        · simp (disch := first | omega | (simp (disch := omega) only [z_up_fn, z_up_ni, z_up_eq, z_up_qi, z_rw_fn] <;> omega) | fail) only [ite_self, Int.reduceAdd, e_129_0, e_129_8, e_129_16, e_129_25, e_129_33, e_129_81, e_129_101, e_129_109, e_129_116, e_129_127, e_129_137, e_129_151, e_129_163, e_129_169, e_129_192, e_129_87, e_129_120, e_129_131, e_129_140, e_129_178, e_129_186, e_129_90, e_143_0, e_143_6, e_144_0, e_144_11, e_144_20, e_144_33, e_144_39, e_144_56, e_144_47, e_145_0, e_145_6_0, e_145_6_1, e_145_6_2, e_145_6_3, e_145_12_0, e_145_12_1, e_145_12_2, e_145_12_3, e_145_31_0, e_145_25, e_145_31_1, e_145_31_2, e_145_31_3, e_145_52, e_145_40, e_145_43, e_146_0, e_146_6_0, e_146_6_1, e_146_6_2, e_146_6_3, e_146_12_0, e_146_12_1, e_146_12_2, e_146_12_3, e_146_32_0, e_146_25, e_146_32_1, e_146_32_2, e_146_32_3, e_146_49, e_146_57, e_146_60, e_147_0, e_147_11, e_147_19, e_147_32, e_147_38, e_147_55, e_147_46, s_133, s_234, s_has_8, s_get_8, s_39, e_131_0, e_132_0, w_ix2, w_iy2, hs, e_77_0_2, e_78_0_2, e_78_4_2, e_79_0_2, e_80_0_2, e_81_0_2, e_81_5_2, Option.bind_some, Int.add_zero, z_wid, or_true, true_or, z_up_fn, z_up_ni, z_up_eq, z_up_qi, z_rw_fn, z_rw_in, z_rw_out, if_pos, if_neg, ↓reduceIte]
          exact w_ret rfl
        · intro k hk
          simp (disch := omega) only [z_up_fn, z_rw_fn]
        · intro τ hτ
          simp (disch := first | omega | (simp (disch := omega) only [hτ] <;> omega) | fail) only [e_231_0, e_231_7, e_231_37, e_231_18, e_231_29, e_231_44, e_231_115, e_231_99, e_231_152, e_231_160, e_231_168, e_231_179, e_231_233, e_231_242, e_231_197, e_231_253, e_231_265, e_231_271, e_231_118, e_231_141, e_231_171, e_231_182, e_231_280, e_231_288, e_231_132, e_229_0, e_229_42, e_229_73, e_229_25, e_229_113, e_230_0, e_230_43, e_230_57, e_230_26, e_230_84, e_230_75, s_149, s_228, s_168, e_150_0, e_151_0, Int.reduceMul, Int.reduceAdd, Int.zero_add, ite_self, hs, ite_self, hτ, Option.bind_some, Int.add_zero, z_wid, or_true, true_or, z_up_fn, z_up_ni, z_up_eq, z_up_qi, z_rw_fn, z_rw_in, z_rw_out, if_pos, if_neg, ↓reduceIte]
          exact w_ret rfl
        · exact w_ref h 10
    · apply zOK_mk2
      · simp (disch := first | omega | (simp (disch := omega) only [z_up_fn, z_up_ni, z_up_eq, z_up_qi, z_rw_fn] <;> omega) | fail) only [ite_self, Int.reduceAdd, e_129_0, e_129_8, e_129_16, e_129_25, e_129_33, e_129_81, e_129_101, e_129_109, e_129_116, e_129_127, e_129_137, e_129_151, e_129_163, e_129_169, e_129_192, e_129_87, e_129_120, e_129_131, e_129_140, e_129_178, e_129_186, e_129_90, e_143_0, e_143_6, e_144_0, e_144_11, e_144_20, e_144_33, e_144_39, e_144_56, e_144_47, e_145_0, e_145_6_0, e_145_6_1, e_145_6_2, e_145_6_3, e_145_12_0, e_145_12_1, e_145_12_2, e_145_12_3, e_145_31_0, e_145_25, e_145_31_1, e_145_31_2, e_145_31_3, e_145_52, e_145_40, e_145_43, e_146_0, e_146_6_0, e_146_6_1, e_146_6_2, e_146_6_3, e_146_12_0, e_146_12_1, e_146_12_2, e_146_12_3, e_146_32_0, e_146_25, e_146_32_1, e_146_32_2, e_146_32_3, e_146_49, e_146_57, e_146_60, e_147_0, e_147_11, e_147_19, e_147_32, e_147_38, e_147_55, e_147_46, s_133, s_234, s_has_8, s_get_8, s_39, e_131_0, e_132_0, w_ix2, w_iy2, hs, e_77_0_2, e_78_0_2, e_78_4_2, e_79_0_2, e_80_0_2, e_81_0_2, e_81_5_2, Option.bind_some, Int.add_zero, z_wid, or_true, true_or, z_up_fn, z_up_ni, z_up_eq, z_up_qi, z_rw_fn, z_rw_in, z_rw_out, if_pos, if_neg, ↓reduceIte]
        exact w_ret rfl
      · intro k hk
        simp (disch := omega) only [z_up_fn, z_rw_fn]
      · intro τ hτ
        simp (disch := first | omega | (simp (disch := omega) only [hτ] <;> omega) | fail) only [e_231_0, e_231_7, e_231_37, e_231_18, e_231_29, e_231_44, e_231_115, e_231_99, e_231_152, e_231_160, e_231_168, e_231_179, e_231_233, e_231_242, e_231_197, e_231_253, e_231_265, e_231_271, e_231_118, e_231_141, e_231_171, e_231_182, e_231_280, e_231_288, e_231_132, e_229_0, e_229_42, e_229_73, e_229_25, e_229_113, e_230_0, e_230_43, e_230_57, e_230_26, e_230_84, e_230_75, s_149, s_228, s_168, e_150_0, e_151_0, Int.reduceMul, Int.reduceAdd, Int.zero_add, ite_self, hs, ite_self, hτ, Option.bind_some, Int.add_zero, z_wid, or_true, true_or, z_up_fn, z_up_ni, z_up_eq, z_up_qi, z_rw_fn, z_rw_in, z_rw_out, if_pos, if_neg, ↓reduceIte]
        exact w_ret rfl
      · exact w_ref h 1
  · apply zOK_mk2
    · simp (disch := first | omega | (simp (disch := omega) only [z_up_fn, z_up_ni, z_up_eq, z_up_qi, z_rw_fn] <;> omega) | fail) only [ite_self, Int.reduceAdd, e_129_0, e_129_8, e_129_16, e_129_25, e_129_33, e_129_81, e_129_101, e_129_109, e_129_116, e_129_127, e_129_137, e_129_151, e_129_163, e_129_169, e_129_192, e_129_87, e_129_120, e_129_131, e_129_140, e_129_178, e_129_186, e_129_90, e_143_0, e_143_6, e_144_0, e_144_11, e_144_20, e_144_33, e_144_39, e_144_56, e_144_47, e_145_0, e_145_6_0, e_145_6_1, e_145_6_2, e_145_6_3, e_145_12_0, e_145_12_1, e_145_12_2, e_145_12_3, e_145_31_0, e_145_25, e_145_31_1, e_145_31_2, e_145_31_3, e_145_52, e_145_40, e_145_43, e_146_0, e_146_6_0, e_146_6_1, e_146_6_2, e_146_6_3, e_146_12_0, e_146_12_1, e_146_12_2, e_146_12_3, e_146_32_0, e_146_25, e_146_32_1, e_146_32_2, e_146_32_3, e_146_49, e_146_57, e_146_60, e_147_0, e_147_11, e_147_19, e_147_32, e_147_38, e_147_55, e_147_46, s_133, s_234, s_has_8, s_get_8, s_39, e_131_0, e_132_0, w_ix2, w_iy2, hs, e_77_0_2, e_78_0_2, e_78_4_2, e_79_0_2, e_80_0_2, e_81_0_2, e_81_5_2, Option.bind_some, Int.add_zero, z_wid, or_true, true_or, z_up_fn, z_up_ni, z_up_eq, z_up_qi, z_rw_fn, z_rw_in, z_rw_out, if_pos, if_neg, ↓reduceIte]
      exact w_ret rfl
    · intro k hk
      simp (disch := omega) only [z_up_fn, z_rw_fn]
    · intro τ hτ
      simp (disch := first | omega | (simp (disch := omega) only [hτ] <;> omega) | fail) only [e_231_0, e_231_7, e_231_37, e_231_18, e_231_29, e_231_44, e_231_115, e_231_99, e_231_152, e_231_160, e_231_168, e_231_179, e_231_233, e_231_242, e_231_197, e_231_253, e_231_265, e_231_271, e_231_118, e_231_141, e_231_171, e_231_182, e_231_280, e_231_288, e_231_132, e_229_0, e_229_42, e_229_73, e_229_25, e_229_113, e_230_0, e_230_43, e_230_57, e_230_26, e_230_84, e_230_75, s_149, s_228, s_168, e_150_0, e_151_0, Int.reduceMul, Int.reduceAdd, Int.zero_add, ite_self, hs, ite_self, hτ, Option.bind_some, Int.add_zero, z_wid, or_true, true_or, z_up_fn, z_up_ni, z_up_eq, z_up_qi, z_rw_fn, z_rw_in, z_rw_out, if_pos, if_neg, ↓reduceIte]
      exact w_ret rfl
    · exact w_ref h 1
theorem o_forge3s2z (d : Nat) (s : Int → Int) (L : Int) (σ : Nat → Int → Int) (h : zV s L σ) (x2 x3 : Int) (hs : x3 % 4 = 2) (hn : 3 < x2 ∧ ¬ x2 + 1 ≤ σ 67 2) : zOK s L (d + 9) 129 231 [some (.inl 3), some (.inl x2), some (.inl x3)] [some (.inl 3), some (.inl x2), some (.inl x3), none] σ := by
  have hX := zV_X2 h
  have hX1 := hX.1
  have hX2 := hX.2.1
  have hX3 := hX.2.2.1
  have hX4 := hX.2.2.2.1
  have hX5 := hX.2.2.2.2.1
  have hX6 := hX.2.2.2.2.2.1
  by_cases c1 : -100 ≤ x2 ∧ x2 ≤ 100
  · by_cases c2 : -100 ≤ x3 ∧ x3 ≤ 100
    · by_cases c3 : ¬ σ 67 1 = -1
      · by_cases c4 : σ 67 1 = 0
        · apply zOK_mk2
          · simp (disch := first | omega | (simp (disch := omega) only [z_up_fn, z_up_ni, z_up_eq, z_up_qi, z_rw_fn] <;> omega) | fail) only [ite_self, Int.reduceAdd, e_129_0, e_129_8, e_129_16, e_129_25, e_129_33, e_129_81, e_129_101, e_129_109, e_129_116, e_129_127, e_129_137, e_129_151, e_129_163, e_129_169, e_129_192, e_129_87, e_129_120, e_129_131, e_129_140, e_129_178, e_129_186, e_129_90, e_143_0, e_143_6, e_144_0, e_144_11, e_144_20, e_144_33, e_144_39, e_144_56, e_144_47, e_145_0, e_145_6_0, e_145_6_1, e_145_6_2, e_145_6_3, e_145_12_0, e_145_12_1, e_145_12_2, e_145_12_3, e_145_31_0, e_145_25, e_145_31_1, e_145_31_2, e_145_31_3, e_145_52, e_145_40, e_145_43, e_146_0, e_146_6_0, e_146_6_1, e_146_6_2, e_146_6_3, e_146_12_0, e_146_12_1, e_146_12_2, e_146_12_3, e_146_32_0, e_146_25, e_146_32_1, e_146_32_2, e_146_32_3, e_146_49, e_146_57, e_146_60, e_147_0, e_147_11, e_147_19, e_147_32, e_147_38, e_147_55, e_147_46, s_133, s_234, s_has_8, s_get_8, s_39, e_131_0, e_132_0, w_ix2, w_iy2, hs, e_77_0_2, e_78_0_2, e_78_4_2, e_79_0_2, e_80_0_2, e_81_0_2, e_81_5_2, Option.bind_some, Int.add_zero, z_wid, or_true, true_or, z_up_fn, z_up_ni, z_up_eq, z_up_qi, z_rw_fn, z_rw_in, z_rw_out, if_pos, if_neg, ↓reduceIte]
            exact w_ret rfl
          · intro k hk
            simp (disch := omega) only [z_up_fn, z_rw_fn]
          · intro τ hτ
            simp (disch := first | omega | (simp (disch := omega) only [hτ] <;> omega) | fail) only [e_231_0, e_231_7, e_231_37, e_231_18, e_231_29, e_231_44, e_231_115, e_231_99, e_231_152, e_231_160, e_231_168, e_231_179, e_231_233, e_231_242, e_231_197, e_231_253, e_231_265, e_231_271, e_231_118, e_231_141, e_231_171, e_231_182, e_231_280, e_231_288, e_231_132, e_229_0, e_229_42, e_229_73, e_229_25, e_229_113, e_230_0, e_230_43, e_230_57, e_230_26, e_230_84, e_230_75, s_149, s_228, s_168, e_150_0, e_151_0, Int.reduceMul, Int.reduceAdd, Int.zero_add, ite_self, hs, ite_self, hτ, Option.bind_some, Int.add_zero, z_wid, or_true, true_or, z_up_fn, z_up_ni, z_up_eq, z_up_qi, z_rw_fn, z_rw_in, z_rw_out, if_pos, if_neg, ↓reduceIte]
            exact w_ret (by omega)
          · skip
            exact w_ref h 12
        · apply zOK_mk2
          · simp (disch := first | omega | (simp (disch := omega) only [z_up_fn, z_up_ni, z_up_eq, z_up_qi, z_rw_fn] <;> omega) | fail) only [ite_self, Int.reduceAdd, e_129_0, e_129_8, e_129_16, e_129_25, e_129_33, e_129_81, e_129_101, e_129_109, e_129_116, e_129_127, e_129_137, e_129_151, e_129_163, e_129_169, e_129_192, e_129_87, e_129_120, e_129_131, e_129_140, e_129_178, e_129_186, e_129_90, e_143_0, e_143_6, e_144_0, e_144_11, e_144_20, e_144_33, e_144_39, e_144_56, e_144_47, e_145_0, e_145_6_0, e_145_6_1, e_145_6_2, e_145_6_3, e_145_12_0, e_145_12_1, e_145_12_2, e_145_12_3, e_145_31_0, e_145_25, e_145_31_1, e_145_31_2, e_145_31_3, e_145_52, e_145_40, e_145_43, e_146_0, e_146_6_0, e_146_6_1, e_146_6_2, e_146_6_3, e_146_12_0, e_146_12_1, e_146_12_2, e_146_12_3, e_146_32_0, e_146_25, e_146_32_1, e_146_32_2, e_146_32_3, e_146_49, e_146_57, e_146_60, e_147_0, e_147_11, e_147_19, e_147_32, e_147_38, e_147_55, e_147_46, s_133, s_234, s_has_8, s_get_8, s_39, e_131_0, e_132_0, w_ix2, w_iy2, hs, e_77_0_2, e_78_0_2, e_78_4_2, e_79_0_2, e_80_0_2, e_81_0_2, e_81_5_2, Option.bind_some, Int.add_zero, z_wid, or_true, true_or, z_up_fn, z_up_ni, z_up_eq, z_up_qi, z_rw_fn, z_rw_in, z_rw_out, if_pos, if_neg, ↓reduceIte]
            exact w_ret rfl
          · intro k hk
            simp (disch := omega) only [z_up_fn, z_rw_fn]
          · intro τ hτ
            simp (disch := first | omega | (simp (disch := omega) only [hτ] <;> omega) | fail) only [e_231_0, e_231_7, e_231_37, e_231_18, e_231_29, e_231_44, e_231_115, e_231_99, e_231_152, e_231_160, e_231_168, e_231_179, e_231_233, e_231_242, e_231_197, e_231_253, e_231_265, e_231_271, e_231_118, e_231_141, e_231_171, e_231_182, e_231_280, e_231_288, e_231_132, e_229_0, e_229_42, e_229_73, e_229_25, e_229_113, e_230_0, e_230_43, e_230_57, e_230_26, e_230_84, e_230_75, s_149, s_228, s_168, e_150_0, e_151_0, Int.reduceMul, Int.reduceAdd, Int.zero_add, ite_self, hs, ite_self, hτ, Option.bind_some, Int.add_zero, z_wid, or_true, true_or, z_up_fn, z_up_ni, z_up_eq, z_up_qi, z_rw_fn, z_rw_in, z_rw_out, if_pos, if_neg, ↓reduceIte]
            exact w_ret rfl
          · exact w_ref h 11
      · apply zOK_mk2
        · simp (disch := first | omega | (simp (disch := omega) only [z_up_fn, z_up_ni, z_up_eq, z_up_qi, z_rw_fn] <;> omega) | fail) only [ite_self, Int.reduceAdd, e_129_0, e_129_8, e_129_16, e_129_25, e_129_33, e_129_81, e_129_101, e_129_109, e_129_116, e_129_127, e_129_137, e_129_151, e_129_163, e_129_169, e_129_192, e_129_87, e_129_120, e_129_131, e_129_140, e_129_178, e_129_186, e_129_90, e_143_0, e_143_6, e_144_0, e_144_11, e_144_20, e_144_33, e_144_39, e_144_56, e_144_47, e_145_0, e_145_6_0, e_145_6_1, e_145_6_2, e_145_6_3, e_145_12_0, e_145_12_1, e_145_12_2, e_145_12_3, e_145_31_0, e_145_25, e_145_31_1, e_145_31_2, e_145_31_3, e_145_52, e_145_40, e_145_43, e_146_0, e_146_6_0, e_146_6_1, e_146_6_2, e_146_6_3, e_146_12_0, e_146_12_1, e_146_12_2, e_146_12_3, e_146_32_0, e_146_25, e_146_32_1, e_146_32_2, e_146_32_3, e_146_49, e_146_57, e_146_60, e_147_0, e_147_11, e_147_19, e_147_32, e_147_38, e_147_55, e_147_46, s_133, s_234, s_has_8, s_get_8, s_39, e_131_0, e_132_0, w_ix2, w_iy2, hs, e_77_0_2, e_78_0_2, e_78_4_2, e_79_0_2, e_80_0_2, e_81_0_2, e_81_5_2, Option.bind_some, Int.add_zero, z_wid, or_true, true_or, z_up_fn, z_up_ni, z_up_eq, z_up_qi, z_rw_fn, z_rw_in, z_rw_out, if_pos, if_neg, ↓reduceIte]
          exact w_ret rfl
        · intro k hk
          simp (disch := omega) only [z_up_fn, z_rw_fn]
        · intro τ hτ
          simp (disch := first | omega | (simp (disch := omega) only [hτ] <;> omega) | fail) only [e_231_0, e_231_7, e_231_37, e_231_18, e_231_29, e_231_44, e_231_115, e_231_99, e_231_152, e_231_160, e_231_168, e_231_179, e_231_233, e_231_242, e_231_197, e_231_253, e_231_265, e_231_271, e_231_118, e_231_141, e_231_171, e_231_182, e_231_280, e_231_288, e_231_132, e_229_0, e_229_42, e_229_73, e_229_25, e_229_113, e_230_0, e_230_43, e_230_57, e_230_26, e_230_84, e_230_75, s_149, s_228, s_168, e_150_0, e_151_0, Int.reduceMul, Int.reduceAdd, Int.zero_add, ite_self, hs, ite_self, hτ, Option.bind_some, Int.add_zero, z_wid, or_true, true_or, z_up_fn, z_up_ni, z_up_eq, z_up_qi, z_rw_fn, z_rw_in, z_rw_out, if_pos, if_neg, ↓reduceIte]
          exact w_ret rfl
        · exact w_ref h 10
    · apply zOK_mk2
      · simp (disch := first | omega | (simp (disch := omega) only [z_up_fn, z_up_ni, z_up_eq, z_up_qi, z_rw_fn] <;> omega) | fail) only [ite_self, Int.reduceAdd, e_129_0, e_129_8, e_129_16, e_129_25, e_129_33, e_129_81, e_129_101, e_129_109, e_129_116, e_129_127, e_129_137, e_129_151, e_129_163, e_129_169, e_129_192, e_129_87, e_129_120, e_129_131, e_129_140, e_129_178, e_129_186, e_129_90, e_143_0, e_143_6, e_144_0, e_144_11, e_144_20, e_144_33, e_144_39, e_144_56, e_144_47, e_145_0, e_145_6_0, e_145_6_1, e_145_6_2, e_145_6_3, e_145_12_0, e_145_12_1, e_145_12_2, e_145_12_3, e_145_31_0, e_145_25, e_145_31_1, e_145_31_2, e_145_31_3, e_145_52, e_145_40, e_145_43, e_146_0, e_146_6_0, e_146_6_1, e_146_6_2, e_146_6_3, e_146_12_0, e_146_12_1, e_146_12_2, e_146_12_3, e_146_32_0, e_146_25, e_146_32_1, e_146_32_2, e_146_32_3, e_146_49, e_146_57, e_146_60, e_147_0, e_147_11, e_147_19, e_147_32, e_147_38, e_147_55, e_147_46, s_133, s_234, s_has_8, s_get_8, s_39, e_131_0, e_132_0, w_ix2, w_iy2, hs, e_77_0_2, e_78_0_2, e_78_4_2, e_79_0_2, e_80_0_2, e_81_0_2, e_81_5_2, Option.bind_some, Int.add_zero, z_wid, or_true, true_or, z_up_fn, z_up_ni, z_up_eq, z_up_qi, z_rw_fn, z_rw_in, z_rw_out, if_pos, if_neg, ↓reduceIte]
        exact w_ret rfl
      · intro k hk
        simp (disch := omega) only [z_up_fn, z_rw_fn]
      · intro τ hτ
        simp (disch := first | omega | (simp (disch := omega) only [hτ] <;> omega) | fail) only [e_231_0, e_231_7, e_231_37, e_231_18, e_231_29, e_231_44, e_231_115, e_231_99, e_231_152, e_231_160, e_231_168, e_231_179, e_231_233, e_231_242, e_231_197, e_231_253, e_231_265, e_231_271, e_231_118, e_231_141, e_231_171, e_231_182, e_231_280, e_231_288, e_231_132, e_229_0, e_229_42, e_229_73, e_229_25, e_229_113, e_230_0, e_230_43, e_230_57, e_230_26, e_230_84, e_230_75, s_149, s_228, s_168, e_150_0, e_151_0, Int.reduceMul, Int.reduceAdd, Int.zero_add, ite_self, hs, ite_self, hτ, Option.bind_some, Int.add_zero, z_wid, or_true, true_or, z_up_fn, z_up_ni, z_up_eq, z_up_qi, z_rw_fn, z_rw_in, z_rw_out, if_pos, if_neg, ↓reduceIte]
        exact w_ret rfl
      · exact w_ref h 1
  · apply zOK_mk2
    · simp (disch := first | omega | (simp (disch := omega) only [z_up_fn, z_up_ni, z_up_eq, z_up_qi, z_rw_fn] <;> omega) | fail) only [ite_self, Int.reduceAdd, e_129_0, e_129_8, e_129_16, e_129_25, e_129_33, e_129_81, e_129_101, e_129_109, e_129_116, e_129_127, e_129_137, e_129_151, e_129_163, e_129_169, e_129_192, e_129_87, e_129_120, e_129_131, e_129_140, e_129_178, e_129_186, e_129_90, e_143_0, e_143_6, e_144_0, e_144_11, e_144_20, e_144_33, e_144_39, e_144_56, e_144_47, e_145_0, e_145_6_0, e_145_6_1, e_145_6_2, e_145_6_3, e_145_12_0, e_145_12_1, e_145_12_2, e_145_12_3, e_145_31_0, e_145_25, e_145_31_1, e_145_31_2, e_145_31_3, e_145_52, e_145_40, e_145_43, e_146_0, e_146_6_0, e_146_6_1, e_146_6_2, e_146_6_3, e_146_12_0, e_146_12_1, e_146_12_2, e_146_12_3, e_146_32_0, e_146_25, e_146_32_1, e_146_32_2, e_146_32_3, e_146_49, e_146_57, e_146_60, e_147_0, e_147_11, e_147_19, e_147_32, e_147_38, e_147_55, e_147_46, s_133, s_234, s_has_8, s_get_8, s_39, e_131_0, e_132_0, w_ix2, w_iy2, hs, e_77_0_2, e_78_0_2, e_78_4_2, e_79_0_2, e_80_0_2, e_81_0_2, e_81_5_2, Option.bind_some, Int.add_zero, z_wid, or_true, true_or, z_up_fn, z_up_ni, z_up_eq, z_up_qi, z_rw_fn, z_rw_in, z_rw_out, if_pos, if_neg, ↓reduceIte]
      exact w_ret rfl
    · intro k hk
      simp (disch := omega) only [z_up_fn, z_rw_fn]
    · intro τ hτ
      simp (disch := first | omega | (simp (disch := omega) only [hτ] <;> omega) | fail) only [e_231_0, e_231_7, e_231_37, e_231_18, e_231_29, e_231_44, e_231_115, e_231_99, e_231_152, e_231_160, e_231_168, e_231_179, e_231_233, e_231_242, e_231_197, e_231_253, e_231_265, e_231_271, e_231_118, e_231_141, e_231_171, e_231_182, e_231_280, e_231_288, e_231_132, e_229_0, e_229_42, e_229_73, e_229_25, e_229_113, e_230_0, e_230_43, e_230_57, e_230_26, e_230_84, e_230_75, s_149, s_228, s_168, e_150_0, e_151_0, Int.reduceMul, Int.reduceAdd, Int.zero_add, ite_self, hs, ite_self, hτ, Option.bind_some, Int.add_zero, z_wid, or_true, true_or, z_up_fn, z_up_ni, z_up_eq, z_up_qi, z_rw_fn, z_rw_in, z_rw_out, if_pos, if_neg, ↓reduceIte]
      exact w_ret rfl
    · exact w_ref h 1
theorem o_forge2s3 (d : Nat) (s : Int → Int) (L : Int) (σ : Nat → Int → Int) (h : zV s L σ) (x2 x3 : Int) (hs : x3 % 4 = 3) : zOK s L (d + 9) 129 231 [some (.inl 2), some (.inl x2), some (.inl x3)] [some (.inl 2), some (.inl x2), some (.inl x3), none] σ := by
  have hX := zV_X3 h
  have hX1 := hX.1
  have hX2 := hX.2.1
  have hX3 := hX.2.2.1
  have hX4 := hX.2.2.2.1
  have hX5 := hX.2.2.2.2.1
  have hX6 := hX.2.2.2.2.2.1
  have n0 : 0 ≤ x2 → x2 < σ 69 2 → σ 122 (120 + x2) = σ 70 x2 := by
    intro p q
    have g := (hX.2.2.2.2.2.2 x2 (by omega) (by omega)).1
    rw [show (40 * 3 + x2 : Int) = 120 + x2 by omega] at g
    exact g.symm
  by_cases c1 : -100 ≤ x2 ∧ x2 ≤ 100
  · by_cases c2 : -100 ≤ x3 ∧ x3 ≤ 100
    · by_cases c3 : ¬ σ 69 1 = -1
      · by_cases c4 : σ 69 1 = 1
        · by_cases c5 : 0 ≤ x2 ∧ x2 < σ 69 2
          · apply zOK_mk2
            · simp (disch := first | omega | (simp (disch := omega) only [z_up_fn, z_up_ni, z_up_eq, z_up_qi, z_rw_fn] <;> omega) | fail) only [ite_self, Int.reduceAdd, e_129_0, e_129_8, e_129_16, e_129_25, e_129_33, e_129_81, e_129_101, e_129_109, e_129_116, e_129_127, e_129_137, e_129_151, e_129_163, e_129_169, e_129_192, e_129_87, e_129_120, e_129_131, e_129_140, e_129_178, e_129_186, e_129_90, e_143_0, e_143_6, e_144_0, e_144_11, e_144_20, e_144_33, e_144_39, e_144_56, e_144_47, e_145_0, e_145_6_0, e_145_6_1, e_145_6_2, e_145_6_3, e_145_12_0, e_145_12_1, e_145_12_2, e_145_12_3, e_145_31_0, e_145_25, e_145_31_1, e_145_31_2, e_145_31_3, e_145_52, e_145_40, e_145_43, e_146_0, e_146_6_0, e_146_6_1, e_146_6_2, e_146_6_3, e_146_12_0, e_146_12_1, e_146_12_2, e_146_12_3, e_146_32_0, e_146_25, e_146_32_1, e_146_32_2, e_146_32_3, e_146_49, e_146_57, e_146_60, e_147_0, e_147_11, e_147_19, e_147_32, e_147_38, e_147_55, e_147_46, s_133, s_234, s_has_8, s_get_8, s_39, e_131_0, e_132_0, w_ix3, w_iy3, hs, e_77_0_3, e_78_0_3, e_78_4_3, e_79_0_3, e_80_0_3, e_81_0_3, e_81_5_3, Option.bind_some, Int.add_zero, z_wid, or_true, true_or, z_up_fn, z_up_ni, z_up_eq, z_up_qi, z_rw_fn, z_rw_in, z_rw_out, if_pos, if_neg, ↓reduceIte]
              exact w_ret rfl
            · intro k hk
              simp (disch := omega) only [z_up_fn, z_rw_fn]
            · intro τ hτ
              simp (disch := first | omega | (simp (disch := omega) only [hτ] <;> omega) | fail) only [e_231_0, e_231_7, e_231_37, e_231_18, e_231_29, e_231_44, e_231_115, e_231_99, e_231_152, e_231_160, e_231_168, e_231_179, e_231_233, e_231_242, e_231_197, e_231_253, e_231_265, e_231_271, e_231_118, e_231_141, e_231_171, e_231_182, e_231_280, e_231_288, e_231_132, e_229_0, e_229_42, e_229_73, e_229_25, e_229_113, e_230_0, e_230_43, e_230_57, e_230_26, e_230_84, e_230_75, s_149, s_228, s_168, e_150_0, e_151_0, Int.reduceMul, Int.reduceAdd, Int.zero_add, ite_self, hs, n0, hτ, Option.bind_some, Int.add_zero, z_wid, or_true, true_or, z_up_fn, z_up_ni, z_up_eq, z_up_qi, z_rw_fn, z_rw_in, z_rw_out, if_pos, if_neg, ↓reduceIte]
              exact w_ret (by omega)
            · skip
              exact w_ref h 0
          · apply zOK_mk2
            · simp (disch := first | omega | (simp (disch := omega) only [z_up_fn, z_up_ni, z_up_eq, z_up_qi, z_rw_fn] <;> omega) | fail) only [ite_self, Int.reduceAdd, e_129_0, e_129_8, e_129_16, e_129_25, e_129_33, e_129_81, e_129_101, e_129_109, e_129_116, e_129_127, e_129_137, e_129_151, e_129_163, e_129_169, e_129_192, e_129_87, e_129_120, e_129_131, e_129_140, e_129_178, e_129_186, e_129_90, e_143_0, e_143_6, e_144_0, e_144_11, e_144_20, e_144_33, e_144_39, e_144_56, e_144_47, e_145_0, e_145_6_0, e_145_6_1, e_145_6_2, e_145_6_3, e_145_12_0, e_145_12_1, e_145_12_2, e_145_12_3, e_145_31_0, e_145_25, e_145_31_1, e_145_31_2, e_145_31_3, e_145_52, e_145_40, e_145_43, e_146_0, e_146_6_0, e_146_6_1, e_146_6_2, e_146_6_3, e_146_12_0, e_146_12_1, e_146_12_2, e_146_12_3, e_146_32_0, e_146_25, e_146_32_1, e_146_32_2, e_146_32_3, e_146_49, e_146_57, e_146_60, e_147_0, e_147_11, e_147_19, e_147_32, e_147_38, e_147_55, e_147_46, s_133, s_234, s_has_8, s_get_8, s_39, e_131_0, e_132_0, w_ix3, w_iy3, hs, e_77_0_3, e_78_0_3, e_78_4_3, e_79_0_3, e_80_0_3, e_81_0_3, e_81_5_3, Option.bind_some, Int.add_zero, z_wid, or_true, true_or, z_up_fn, z_up_ni, z_up_eq, z_up_qi, z_rw_fn, z_rw_in, z_rw_out, if_pos, if_neg, ↓reduceIte]
              exact w_ret rfl
            · intro k hk
              simp (disch := omega) only [z_up_fn, z_rw_fn]
            · intro τ hτ
              simp (disch := first | omega | (simp (disch := omega) only [hτ] <;> omega) | fail) only [e_231_0, e_231_7, e_231_37, e_231_18, e_231_29, e_231_44, e_231_115, e_231_99, e_231_152, e_231_160, e_231_168, e_231_179, e_231_233, e_231_242, e_231_197, e_231_253, e_231_265, e_231_271, e_231_118, e_231_141, e_231_171, e_231_182, e_231_280, e_231_288, e_231_132, e_229_0, e_229_42, e_229_73, e_229_25, e_229_113, e_230_0, e_230_43, e_230_57, e_230_26, e_230_84, e_230_75, s_149, s_228, s_168, e_150_0, e_151_0, Int.reduceMul, Int.reduceAdd, Int.zero_add, ite_self, hs, n0, hτ, Option.bind_some, Int.add_zero, z_wid, or_true, true_or, z_up_fn, z_up_ni, z_up_eq, z_up_qi, z_rw_fn, z_rw_in, z_rw_out, if_pos, if_neg, ↓reduceIte]
              exact w_ret rfl
            · exact w_ref h 12
        · apply zOK_mk2
          · simp (disch := first | omega | (simp (disch := omega) only [z_up_fn, z_up_ni, z_up_eq, z_up_qi, z_rw_fn] <;> omega) | fail) only [ite_self, Int.reduceAdd, e_129_0, e_129_8, e_129_16, e_129_25, e_129_33, e_129_81, e_129_101, e_129_109, e_129_116, e_129_127, e_129_137, e_129_151, e_129_163, e_129_169, e_129_192, e_129_87, e_129_120, e_129_131, e_129_140, e_129_178, e_129_186, e_129_90, e_143_0, e_143_6, e_144_0, e_144_11, e_144_20, e_144_33, e_144_39, e_144_56, e_144_47, e_145_0, e_145_6_0, e_145_6_1, e_145_6_2, e_145_6_3, e_145_12_0, e_145_12_1, e_145_12_2, e_145_12_3, e_145_31_0, e_145_25, e_145_31_1, e_145_31_2, e_145_31_3, e_145_52, e_145_40, e_145_43, e_146_0, e_146_6_0, e_146_6_1, e_146_6_2, e_146_6_3, e_146_12_0, e_146_12_1, e_146_12_2, e_146_12_3, e_146_32_0, e_146_25, e_146_32_1, e_146_32_2, e_146_32_3, e_146_49, e_146_57, e_146_60, e_147_0, e_147_11, e_147_19, e_147_32, e_147_38, e_147_55, e_147_46, s_133, s_234, s_has_8, s_get_8, s_39, e_131_0, e_132_0, w_ix3, w_iy3, hs, e_77_0_3, e_78_0_3, e_78_4_3, e_79_0_3, e_80_0_3, e_81_0_3, e_81_5_3, Option.bind_some, Int.add_zero, z_wid, or_true, true_or, z_up_fn, z_up_ni, z_up_eq, z_up_qi, z_rw_fn, z_rw_in, z_rw_out, if_pos, if_neg, ↓reduceIte]
            exact w_ret rfl
          · intro k hk
            simp (disch := omega) only [z_up_fn, z_rw_fn]
          · intro τ hτ
            simp (disch := first | omega | (simp (disch := omega) only [hτ] <;> omega) | fail) only [e_231_0, e_231_7, e_231_37, e_231_18, e_231_29, e_231_44, e_231_115, e_231_99, e_231_152, e_231_160, e_231_168, e_231_179, e_231_233, e_231_242, e_231_197, e_231_253, e_231_265, e_231_271, e_231_118, e_231_141, e_231_171, e_231_182, e_231_280, e_231_288, e_231_132, e_229_0, e_229_42, e_229_73, e_229_25, e_229_113, e_230_0, e_230_43, e_230_57, e_230_26, e_230_84, e_230_75, s_149, s_228, s_168, e_150_0, e_151_0, Int.reduceMul, Int.reduceAdd, Int.zero_add, ite_self, hs, n0, hτ, Option.bind_some, Int.add_zero, z_wid, or_true, true_or, z_up_fn, z_up_ni, z_up_eq, z_up_qi, z_rw_fn, z_rw_in, z_rw_out, if_pos, if_neg, ↓reduceIte]
            exact w_ret rfl
          · exact w_ref h 11
      · apply zOK_mk2
        · simp (disch := first | omega | (simp (disch := omega) only [z_up_fn, z_up_ni, z_up_eq, z_up_qi, z_rw_fn] <;> omega) | fail) only [ite_self, Int.reduceAdd, e_129_0, e_129_8, e_129_16, e_129_25, e_129_33, e_129_81, e_129_101, e_129_109, e_129_116, e_129_127, e_129_137, e_129_151, e_129_163, e_129_169, e_129_192, e_129_87, e_129_120, e_129_131, e_129_140, e_129_178, e_129_186, e_129_90, e_143_0, e_143_6, e_144_0, e_144_11, e_144_20, e_144_33, e_144_39, e_144_56, e_144_47, e_145_0, e_145_6_0, e_145_6_1, e_145_6_2, e_145_6_3, e_145_12_0, e_145_12_1, e_145_12_2, e_145_12_3, e_145_31_0, e_145_25, e_145_31_1, e_145_31_2, e_145_31_3, e_145_52, e_145_40, e_145_43, e_146_0, e_146_6_0, e_146_6_1, e_146_6_2, e_146_6_3, e_146_12_0, e_146_12_1, e_146_12_2, e_146_12_3, e_146_32_0, e_146_25, e_146_32_1, e_146_32_2, e_146_32_3, e_146_49, e_146_57, e_146_60, e_147_0, e_147_11, e_147_19, e_147_32, e_147_38, e_147_55, e_147_46, s_133, s_234, s_has_8, s_get_8, s_39, e_131_0, e_132_0, w_ix3, w_iy3, hs, e_77_0_3, e_78_0_3, e_78_4_3, e_79_0_3, e_80_0_3, e_81_0_3, e_81_5_3, Option.bind_some, Int.add_zero, z_wid, or_true, true_or, z_up_fn, z_up_ni, z_up_eq, z_up_qi, z_rw_fn, z_rw_in, z_rw_out, if_pos, if_neg, ↓reduceIte]
          exact w_ret rfl
        · intro k hk
          simp (disch := omega) only [z_up_fn, z_rw_fn]
        · intro τ hτ
          simp (disch := first | omega | (simp (disch := omega) only [hτ] <;> omega) | fail) only [e_231_0, e_231_7, e_231_37, e_231_18, e_231_29, e_231_44, e_231_115, e_231_99, e_231_152, e_231_160, e_231_168, e_231_179, e_231_233, e_231_242, e_231_197, e_231_253, e_231_265, e_231_271, e_231_118, e_231_141, e_231_171, e_231_182, e_231_280, e_231_288, e_231_132, e_229_0, e_229_42, e_229_73, e_229_25, e_229_113, e_230_0, e_230_43, e_230_57, e_230_26, e_230_84, e_230_75, s_149, s_228, s_168, e_150_0, e_151_0, Int.reduceMul, Int.reduceAdd, Int.zero_add, ite_self, hs, n0, hτ, Option.bind_some, Int.add_zero, z_wid, or_true, true_or, z_up_fn, z_up_ni, z_up_eq, z_up_qi, z_rw_fn, z_rw_in, z_rw_out, if_pos, if_neg, ↓reduceIte]
          exact w_ret rfl
        · exact w_ref h 10
    · apply zOK_mk2
      · simp (disch := first | omega | (simp (disch := omega) only [z_up_fn, z_up_ni, z_up_eq, z_up_qi, z_rw_fn] <;> omega) | fail) only [ite_self, Int.reduceAdd, e_129_0, e_129_8, e_129_16, e_129_25, e_129_33, e_129_81, e_129_101, e_129_109, e_129_116, e_129_127, e_129_137, e_129_151, e_129_163, e_129_169, e_129_192, e_129_87, e_129_120, e_129_131, e_129_140, e_129_178, e_129_186, e_129_90, e_143_0, e_143_6, e_144_0, e_144_11, e_144_20, e_144_33, e_144_39, e_144_56, e_144_47, e_145_0, e_145_6_0, e_145_6_1, e_145_6_2, e_145_6_3, e_145_12_0, e_145_12_1, e_145_12_2, e_145_12_3, e_145_31_0, e_145_25, e_145_31_1, e_145_31_2, e_145_31_3, e_145_52, e_145_40, e_145_43, e_146_0, e_146_6_0, e_146_6_1, e_146_6_2, e_146_6_3, e_146_12_0, e_146_12_1, e_146_12_2, e_146_12_3, e_146_32_0, e_146_25, e_146_32_1, e_146_32_2, e_146_32_3, e_146_49, e_146_57, e_146_60, e_147_0, e_147_11, e_147_19, e_147_32, e_147_38, e_147_55, e_147_46, s_133, s_234, s_has_8, s_get_8, s_39, e_131_0, e_132_0, w_ix3, w_iy3, hs, e_77_0_3, e_78_0_3, e_78_4_3, e_79_0_3, e_80_0_3, e_81_0_3, e_81_5_3, Option.bind_some, Int.add_zero, z_wid, or_true, true_or, z_up_fn, z_up_ni, z_up_eq, z_up_qi, z_rw_fn, z_rw_in, z_rw_out, if_pos, if_neg, ↓reduceIte]
        exact w_ret rfl
      · intro k hk
        simp (disch := omega) only [z_up_fn, z_rw_fn]
      · intro τ hτ
        simp (disch := first | omega | (simp (disch := omega) only [hτ] <;> omega) | fail) only [e_231_0, e_231_7, e_231_37, e_231_18, e_231_29, e_231_44, e_231_115, e_231_99, e_231_152, e_231_160, e_231_168, e_231_179, e_231_233, e_231_242, e_231_197, e_231_253, e_231_265, e_231_271, e_231_118, e_231_141, e_231_171, e_231_182, e_231_280, e_231_288, e_231_132, e_229_0, e_229_42, e_229_73, e_229_25, e_229_113, e_230_0, e_230_43, e_230_57, e_230_26, e_230_84, e_230_75, s_149, s_228, s_168, e_150_0, e_151_0, Int.reduceMul, Int.reduceAdd, Int.zero_add, ite_self, hs, n0, hτ, Option.bind_some, Int.add_zero, z_wid, or_true, true_or, z_up_fn, z_up_ni, z_up_eq, z_up_qi, z_rw_fn, z_rw_in, z_rw_out, if_pos, if_neg, ↓reduceIte]
        exact w_ret rfl
      · exact w_ref h 1
  · apply zOK_mk2
    · simp (disch := first | omega | (simp (disch := omega) only [z_up_fn, z_up_ni, z_up_eq, z_up_qi, z_rw_fn] <;> omega) | fail) only [ite_self, Int.reduceAdd, e_129_0, e_129_8, e_129_16, e_129_25, e_129_33, e_129_81, e_129_101, e_129_109, e_129_116, e_129_127, e_129_137, e_129_151, e_129_163, e_129_169, e_129_192, e_129_87, e_129_120, e_129_131, e_129_140, e_129_178, e_129_186, e_129_90, e_143_0, e_143_6, e_144_0, e_144_11, e_144_20, e_144_33, e_144_39, e_144_56, e_144_47, e_145_0, e_145_6_0, e_145_6_1, e_145_6_2, e_145_6_3, e_145_12_0, e_145_12_1, e_145_12_2, e_145_12_3, e_145_31_0, e_145_25, e_145_31_1, e_145_31_2, e_145_31_3, e_145_52, e_145_40, e_145_43, e_146_0, e_146_6_0, e_146_6_1, e_146_6_2, e_146_6_3, e_146_12_0, e_146_12_1, e_146_12_2, e_146_12_3, e_146_32_0, e_146_25, e_146_32_1, e_146_32_2, e_146_32_3, e_146_49, e_146_57, e_146_60, e_147_0, e_147_11, e_147_19, e_147_32, e_147_38, e_147_55, e_147_46, s_133, s_234, s_has_8, s_get_8, s_39, e_131_0, e_132_0, w_ix3, w_iy3, hs, e_77_0_3, e_78_0_3, e_78_4_3, e_79_0_3, e_80_0_3, e_81_0_3, e_81_5_3, Option.bind_some, Int.add_zero, z_wid, or_true, true_or, z_up_fn, z_up_ni, z_up_eq, z_up_qi, z_rw_fn, z_rw_in, z_rw_out, if_pos, if_neg, ↓reduceIte]
      exact w_ret rfl
    · intro k hk
      simp (disch := omega) only [z_up_fn, z_rw_fn]
    · intro τ hτ
      simp (disch := first | omega | (simp (disch := omega) only [hτ] <;> omega) | fail) only [e_231_0, e_231_7, e_231_37, e_231_18, e_231_29, e_231_44, e_231_115, e_231_99, e_231_152, e_231_160, e_231_168, e_231_179, e_231_233, e_231_242, e_231_197, e_231_253, e_231_265, e_231_271, e_231_118, e_231_141, e_231_171, e_231_182, e_231_280, e_231_288, e_231_132, e_229_0, e_229_42, e_229_73, e_229_25, e_229_113, e_230_0, e_230_43, e_230_57, e_230_26, e_230_84, e_230_75, s_149, s_228, s_168, e_150_0, e_151_0, Int.reduceMul, Int.reduceAdd, Int.zero_add, ite_self, hs, n0, hτ, Option.bind_some, Int.add_zero, z_wid, or_true, true_or, z_up_fn, z_up_ni, z_up_eq, z_up_qi, z_rw_fn, z_rw_in, z_rw_out, if_pos, if_neg, ↓reduceIte]
      exact w_ret rfl
    · exact w_ref h 1
theorem o_forge3s3n0 (d : Nat) (s : Int → Int) (L : Int) (σ : Nat → Int → Int) (h : zV s L σ) (x3 : Int) (hs : x3 % 4 = 3) : zOK s L (d + 9) 129 231 [some (.inl 3), some (.inl 0), some (.inl x3)] [some (.inl 3), some (.inl 0), some (.inl x3), none] σ := by
  have hX := zV_X3 h
  have hX1 := hX.1
  have hX2 := hX.2.1
  have hX3 := hX.2.2.1
  have hX4 := hX.2.2.2.1
  have hX5 := hX.2.2.2.2.1
  have hX6 := hX.2.2.2.2.2.1
  by_cases c1 : -100 ≤ x3 ∧ x3 ≤ 100
  · by_cases c2 : ¬ σ 69 1 = -1
    · by_cases c3 : σ 69 1 = 0
      · by_cases c4 : 1 ≤ σ 69 2
        · apply zOK_mk2
          · simp (disch := first | omega | (simp (disch := omega) only [z_up_fn, z_up_ni, z_up_eq, z_up_qi, z_rw_fn] <;> omega) | fail) only [ite_self, Int.reduceAdd, e_129_0, e_129_8, e_129_16, e_129_25, e_129_33, e_129_81, e_129_101, e_129_109, e_129_116, e_129_127, e_129_137, e_129_151, e_129_163, e_129_169, e_129_192, e_129_87, e_129_120, e_129_131, e_129_140, e_129_178, e_129_186, e_129_90, e_143_0, e_143_6, e_144_0, e_144_11, e_144_20, e_144_33, e_144_39, e_144_56, e_144_47, e_145_0, e_145_6_0, e_145_6_1, e_145_6_2, e_145_6_3, e_145_12_0, e_145_12_1, e_145_12_2, e_145_12_3, e_145_31_0, e_145_25, e_145_31_1, e_145_31_2, e_145_31_3, e_145_52, e_145_40, e_145_43, e_146_0, e_146_6_0, e_146_6_1, e_146_6_2, e_146_6_3, e_146_12_0, e_146_12_1, e_146_12_2, e_146_12_3, e_146_32_0, e_146_25, e_146_32_1, e_146_32_2, e_146_32_3, e_146_49, e_146_57, e_146_60, e_147_0, e_147_11, e_147_19, e_147_32, e_147_38, e_147_55, e_147_46, s_133, s_234, s_has_8, s_get_8, s_39, e_131_0, e_132_0, w_ix3, w_iy3, hs, e_77_0_3, e_78_0_3, e_78_4_3, e_79_0_3, e_80_0_3, e_81_0_3, e_81_5_3, e_83_0_3, e_83_5_3, e_83_27_3, Int.reduceLT, Int.reduceLE, and_self, and_true, true_and, Option.bind_some, Int.add_zero, z_wid, or_true, true_or, z_up_fn, z_up_ni, z_up_eq, z_up_qi, z_rw_fn, z_rw_in, z_rw_out, if_pos, if_neg, ↓reduceIte]
            exact w_ret rfl
          · intro k hk
            simp (disch := omega) only [z_up_fn, z_rw_fn]
          · intro τ hτ
            simp (disch := first | omega | (simp (disch := omega) only [hτ] <;> omega) | fail) only [e_231_0, e_231_7, e_231_37, e_231_18, e_231_29, e_231_44, e_231_115, e_231_99, e_231_152, e_231_160, e_231_168, e_231_179, e_231_233, e_231_242, e_231_197, e_231_253, e_231_265, e_231_271, e_231_118, e_231_141, e_231_171, e_231_182, e_231_280, e_231_288, e_231_132, e_229_0, e_229_42, e_229_73, e_229_25, e_229_113, e_230_0, e_230_43, e_230_57, e_230_26, e_230_84, e_230_75, s_149, s_228, s_168, e_150_0, e_151_0, Int.reduceMul, Int.reduceAdd, Int.zero_add, ite_self, hs, e_229_0, e_229_42, e_229_73, e_229_79, e_229_25, e_229_113, Int.reduceLT, Int.reduceLE, and_self, and_true, true_and, hτ, Option.bind_some, Int.add_zero, z_wid, or_true, true_or, z_up_fn, z_up_ni, z_up_eq, z_up_qi, z_rw_fn, z_rw_in, z_rw_out, if_pos, if_neg, ↓reduceIte]
            exact w_ret rfl
          · skip
            exact w_ref h 0
        · apply zOK_mk2
          · simp (disch := first | omega | (simp (disch := omega) only [z_up_fn, z_up_ni, z_up_eq, z_up_qi, z_rw_fn] <;> omega) | fail) only [ite_self, Int.reduceAdd, e_129_0, e_129_8, e_129_16, e_129_25, e_129_33, e_129_81, e_129_101, e_129_109, e_129_116, e_129_127, e_129_137, e_129_151, e_129_163, e_129_169, e_129_192, e_129_87, e_129_120, e_129_131, e_129_140, e_129_178, e_129_186, e_129_90, e_143_0, e_143_6, e_144_0, e_144_11, e_144_20, e_144_33, e_144_39, e_144_56, e_144_47, e_145_0, e_145_6_0, e_145_6_1, e_145_6_2, e_145_6_3, e_145_12_0, e_145_12_1, e_145_12_2, e_145_12_3, e_145_31_0, e_145_25, e_145_31_1, e_145_31_2, e_145_31_3, e_145_52, e_145_40, e_145_43, e_146_0, e_146_6_0, e_146_6_1, e_146_6_2, e_146_6_3, e_146_12_0, e_146_12_1, e_146_12_2, e_146_12_3, e_146_32_0, e_146_25, e_146_32_1, e_146_32_2, e_146_32_3, e_146_49, e_146_57, e_146_60, e_147_0, e_147_11, e_147_19, e_147_32, e_147_38, e_147_55, e_147_46, s_133, s_234, s_has_8, s_get_8, s_39, e_131_0, e_132_0, w_ix3, w_iy3, hs, e_77_0_3, e_78_0_3, e_78_4_3, e_79_0_3, e_80_0_3, e_81_0_3, e_81_5_3, e_83_0_3, e_83_5_3, e_83_27_3, Int.reduceLT, Int.reduceLE, and_self, and_true, true_and, Option.bind_some, Int.add_zero, z_wid, or_true, true_or, z_up_fn, z_up_ni, z_up_eq, z_up_qi, z_rw_fn, z_rw_in, z_rw_out, if_pos, if_neg, ↓reduceIte]
            exact w_ret rfl
          · intro k hk
            simp (disch := omega) only [z_up_fn, z_rw_fn]
          · intro τ hτ
            simp (disch := first | omega | (simp (disch := omega) only [hτ] <;> omega) | fail) only [e_231_0, e_231_7, e_231_37, e_231_18, e_231_29, e_231_44, e_231_115, e_231_99, e_231_152, e_231_160, e_231_168, e_231_179, e_231_233, e_231_242, e_231_197, e_231_253, e_231_265, e_231_271, e_231_118, e_231_141, e_231_171, e_231_182, e_231_280, e_231_288, e_231_132, e_229_0, e_229_42, e_229_73, e_229_25, e_229_113, e_230_0, e_230_43, e_230_57, e_230_26, e_230_84, e_230_75, s_149, s_228, s_168, e_150_0, e_151_0, Int.reduceMul, Int.reduceAdd, Int.zero_add, ite_self, hs, e_229_0, e_229_42, e_229_73, e_229_79, e_229_25, e_229_113, Int.reduceLT, Int.reduceLE, and_self, and_true, true_and, hτ, Option.bind_some, Int.add_zero, z_wid, or_true, true_or, z_up_fn, z_up_ni, z_up_eq, z_up_qi, z_rw_fn, z_rw_in, z_rw_out, if_pos, if_neg, ↓reduceIte]
            exact w_ret rfl
          · exact w_ref h 12
      · apply zOK_mk2
        · simp (disch := first | omega | (simp (disch := omega) only [z_up_fn, z_up_ni, z_up_eq, z_up_qi, z_rw_fn] <;> omega) | fail) only [ite_self, Int.reduceAdd, e_129_0, e_129_8, e_129_16, e_129_25, e_129_33, e_129_81, e_129_101, e_129_109, e_129_116, e_129_127, e_129_137, e_129_151, e_129_163, e_129_169, e_129_192, e_129_87, e_129_120, e_129_131, e_129_140, e_129_178, e_129_186, e_129_90, e_143_0, e_143_6, e_144_0, e_144_11, e_144_20, e_144_33, e_144_39, e_144_56, e_144_47, e_145_0, e_145_6_0, e_145_6_1, e_145_6_2, e_145_6_3, e_145_12_0, e_145_12_1, e_145_12_2, e_145_12_3, e_145_31_0, e_145_25, e_145_31_1, e_145_31_2, e_145_31_3, e_145_52, e_145_40, e_145_43, e_146_0, e_146_6_0, e_146_6_1, e_146_6_2, e_146_6_3, e_146_12_0, e_146_12_1, e_146_12_2, e_146_12_3, e_146_32_0, e_146_25, e_146_32_1, e_146_32_2, e_146_32_3, e_146_49, e_146_57, e_146_60, e_147_0, e_147_11, e_147_19, e_147_32, e_147_38, e_147_55, e_147_46, s_133, s_234, s_has_8, s_get_8, s_39, e_131_0, e_132_0, w_ix3, w_iy3, hs, e_77_0_3, e_78_0_3, e_78_4_3, e_79_0_3, e_80_0_3, e_81_0_3, e_81_5_3, e_83_0_3, e_83_5_3, e_83_27_3, Int.reduceLT, Int.reduceLE, and_self, and_true, true_and, Option.bind_some, Int.add_zero, z_wid, or_true, true_or, z_up_fn, z_up_ni, z_up_eq, z_up_qi, z_rw_fn, z_rw_in, z_rw_out, if_pos, if_neg, ↓reduceIte]
          exact w_ret rfl
        · intro k hk
          simp (disch := omega) only [z_up_fn, z_rw_fn]
        · intro τ hτ
          simp (disch := first | omega | (simp (disch := omega) only [hτ] <;> omega) | fail) only [e_231_0, e_231_7, e_231_37, e_231_18, e_231_29, e_231_44, e_231_115, e_231_99, e_231_152, e_231_160, e_231_168, e_231_179, e_231_233, e_231_242, e_231_197, e_231_253, e_231_265, e_231_271, e_231_118, e_231_141, e_231_171, e_231_182, e_231_280, e_231_288, e_231_132, e_229_0, e_229_42, e_229_73, e_229_25, e_229_113, e_230_0, e_230_43, e_230_57, e_230_26, e_230_84, e_230_75, s_149, s_228, s_168, e_150_0, e_151_0, Int.reduceMul, Int.reduceAdd, Int.zero_add, ite_self, hs, e_229_0, e_229_42, e_229_73, e_229_79, e_229_25, e_229_113, Int.reduceLT, Int.reduceLE, and_self, and_true, true_and, hτ, Option.bind_some, Int.add_zero, z_wid, or_true, true_or, z_up_fn, z_up_ni, z_up_eq, z_up_qi, z_rw_fn, z_rw_in, z_rw_out, if_pos, if_neg, ↓reduceIte]
          exact w_ret rfl
        · exact w_ref h 11
    · apply zOK_mk2
      · simp (disch := first | omega | (simp (disch := omega) only [z_up_fn, z_up_ni, z_up_eq, z_up_qi, z_rw_fn] <;> omega) | fail) only [ite_self, Int.reduceAdd, e_129_0, e_129_8, e_129_16, e_129_25, e_129_33, e_129_81, e_129_101, e_129_109, e_129_116, e_129_127, e_129_137, e_129_151, e_129_163, e_129_169, e_129_192, e_129_87, e_129_120, e_129_131, e_129_140, e_129_178, e_129_186, e_129_90, e_143_0, e_143_6, e_144_0, e_144_11, e_144_20, e_144_33, e_144_39, e_144_56, e_144_47, e_145_0, e_145_6_0, e_145_6_1, e_145_6_2, e_145_6_3, e_145_12_0, e_145_12_1, e_145_12_2, e_145_12_3, e_145_31_0, e_145_25, e_145_31_1, e_145_31_2, e_145_31_3, e_145_52, e_145_40, e_145_43, e_146_0, e_146_6_0, e_146_6_1, e_146_6_2, e_146_6_3, e_146_12_0, e_146_12_1, e_146_12_2, e_146_12_3, e_146_32_0, e_146_25, e_146_32_1, e_146_32_2, e_146_32_3, e_146_49, e_146_57, e_146_60, e_147_0, e_147_11, e_147_19, e_147_32, e_147_38, e_147_55, e_147_46, s_133, s_234, s_has_8, s_get_8, s_39, e_131_0, e_132_0, w_ix3, w_iy3, hs, e_77_0_3, e_78_0_3, e_78_4_3, e_79_0_3, e_80_0_3, e_81_0_3, e_81_5_3, e_83_0_3, e_83_5_3, e_83_27_3, Int.reduceLT, Int.reduceLE, and_self, and_true, true_and, Option.bind_some, Int.add_zero, z_wid, or_true, true_or, z_up_fn, z_up_ni, z_up_eq, z_up_qi, z_rw_fn, z_rw_in, z_rw_out, if_pos, if_neg, ↓reduceIte]
        exact w_ret rfl
      · intro k hk
        simp (disch := omega) only [z_up_fn, z_rw_fn]
      · intro τ hτ
        simp (disch := first | omega | (simp (disch := omega) only [hτ] <;> omega) | fail) only [e_231_0, e_231_7, e_231_37, e_231_18, e_231_29, e_231_44, e_231_115, e_231_99, e_231_152, e_231_160, e_231_168, e_231_179, e_231_233, e_231_242, e_231_197, e_231_253, e_231_265, e_231_271, e_231_118, e_231_141, e_231_171, e_231_182, e_231_280, e_231_288, e_231_132, e_229_0, e_229_42, e_229_73, e_229_25, e_229_113, e_230_0, e_230_43, e_230_57, e_230_26, e_230_84, e_230_75, s_149, s_228, s_168, e_150_0, e_151_0, Int.reduceMul, Int.reduceAdd, Int.zero_add, ite_self, hs, e_229_0, e_229_42, e_229_73, e_229_79, e_229_25, e_229_113, Int.reduceLT, Int.reduceLE, and_self, and_true, true_and, hτ, Option.bind_some, Int.add_zero, z_wid, or_true, true_or, z_up_fn, z_up_ni, z_up_eq, z_up_qi, z_rw_fn, z_rw_in, z_rw_out, if_pos, if_neg, ↓reduceIte]
        exact w_ret rfl
      · exact w_ref h 10
  · apply zOK_mk2
    · simp (disch := first | omega | (simp (disch := omega) only [z_up_fn, z_up_ni, z_up_eq, z_up_qi, z_rw_fn] <;> omega) | fail) only [ite_self, Int.reduceAdd, e_129_0, e_129_8, e_129_16, e_129_25, e_129_33, e_129_81, e_129_101, e_129_109, e_129_116, e_129_127, e_129_137, e_129_151, e_129_163, e_129_169, e_129_192, e_129_87, e_129_120, e_129_131, e_129_140, e_129_178, e_129_186, e_129_90, e_143_0, e_143_6, e_144_0, e_144_11, e_144_20, e_144_33, e_144_39, e_144_56, e_144_47, e_145_0, e_145_6_0, e_145_6_1, e_145_6_2, e_145_6_3, e_145_12_0, e_145_12_1, e_145_12_2, e_145_12_3, e_145_31_0, e_145_25, e_145_31_1, e_145_31_2, e_145_31_3, e_145_52, e_145_40, e_145_43, e_146_0, e_146_6_0, e_146_6_1, e_146_6_2, e_146_6_3, e_146_12_0, e_146_12_1, e_146_12_2, e_146_12_3, e_146_32_0, e_146_25, e_146_32_1, e_146_32_2, e_146_32_3, e_146_49, e_146_57, e_146_60, e_147_0, e_147_11, e_147_19, e_147_32, e_147_38, e_147_55, e_147_46, s_133, s_234, s_has_8, s_get_8, s_39, e_131_0, e_132_0, w_ix3, w_iy3, hs, e_77_0_3, e_78_0_3, e_78_4_3, e_79_0_3, e_80_0_3, e_81_0_3, e_81_5_3, e_83_0_3, e_83_5_3, e_83_27_3, Int.reduceLT, Int.reduceLE, and_self, and_true, true_and, Option.bind_some, Int.add_zero, z_wid, or_true, true_or, z_up_fn, z_up_ni, z_up_eq, z_up_qi, z_rw_fn, z_rw_in, z_rw_out, if_pos, if_neg, ↓reduceIte]
      exact w_ret rfl
    · intro k hk
      simp (disch := omega) only [z_up_fn, z_rw_fn]
    · intro τ hτ
      simp (disch := first | omega | (simp (disch := omega) only [hτ] <;> omega) | fail) only [e_231_0, e_231_7, e_231_37, e_231_18, e_231_29, e_231_44, e_231_115, e_231_99, e_231_152, e_231_160, e_231_168, e_231_179, e_231_233, e_231_242, e_231_197, e_231_253, e_231_265, e_231_271, e_231_118, e_231_141, e_231_171, e_231_182, e_231_280, e_231_288, e_231_132, e_229_0, e_229_42, e_229_73, e_229_25, e_229_113, e_230_0, e_230_43, e_230_57, e_230_26, e_230_84, e_230_75, s_149, s_228, s_168, e_150_0, e_151_0, Int.reduceMul, Int.reduceAdd, Int.zero_add, ite_self, hs, e_229_0, e_229_42, e_229_73, e_229_79, e_229_25, e_229_113, Int.reduceLT, Int.reduceLE, and_self, and_true, true_and, hτ, Option.bind_some, Int.add_zero, z_wid, or_true, true_or, z_up_fn, z_up_ni, z_up_eq, z_up_qi, z_rw_fn, z_rw_in, z_rw_out, if_pos, if_neg, ↓reduceIte]
      exact w_ret rfl
    · exact w_ref h 1
theorem o_forge3s3n1 (d : Nat) (s : Int → Int) (L : Int) (σ : Nat → Int → Int) (h : zV s L σ) (x3 : Int) (hs : x3 % 4 = 3) : zOK s L (d + 9) 129 231 [some (.inl 3), some (.inl 1), some (.inl x3)] [some (.inl 3), some (.inl 1), some (.inl x3), none] σ := by
  have hX := zV_X3 h
  have hX1 := hX.1
  have hX2 := hX.2.1
  have hX3 := hX.2.2.1
  have hX4 := hX.2.2.2.1
  have hX5 := hX.2.2.2.2.1
  have hX6 := hX.2.2.2.2.2.1
  have n1 : σ 122 121 = σ 70 1 := (hX.2.2.2.2.2.2 1 (by omega) (by omega)).1.symm
  by_cases c1 : -100 ≤ x3 ∧ x3 ≤ 100
  · by_cases c2 : ¬ σ 69 1 = -1
    · by_cases c3 : σ 69 1 = 0
      · by_cases c4 : 2 ≤ σ 69 2
        · apply zOK_mk2
          · simp (disch := first | omega | (simp (disch := omega) only [z_up_fn, z_up_ni, z_up_eq, z_up_qi, z_rw_fn] <;> omega) | fail) only [ite_self, Int.reduceAdd, e_129_0, e_129_8, e_129_16, e_129_25, e_129_33, e_129_81, e_129_101, e_129_109, e_129_116, e_129_127, e_129_137, e_129_151, e_129_163, e_129_169, e_129_192, e_129_87, e_129_120, e_129_131, e_129_140, e_129_178, e_129_186, e_129_90, e_143_0, e_143_6, e_144_0, e_144_11, e_144_20, e_144_33, e_144_39, e_144_56, e_144_47, e_145_0, e_145_6_0, e_145_6_1, e_145_6_2, e_145_6_3, e_145_12_0, e_145_12_1, e_145_12_2, e_145_12_3, e_145_31_0, e_145_25, e_145_31_1, e_145_31_2, e_145_31_3, e_145_52, e_145_40, e_145_43, e_146_0, e_146_6_0, e_146_6_1, e_146_6_2, e_146_6_3, e_146_12_0, e_146_12_1, e_146_12_2, e_146_12_3, e_146_32_0, e_146_25, e_146_32_1, e_146_32_2, e_146_32_3, e_146_49, e_146_57, e_146_60, e_147_0, e_147_11, e_147_19, e_147_32, e_147_38, e_147_55, e_147_46, s_133, s_234, s_has_8, s_get_8, s_39, e_131_0, e_132_0, w_ix3, w_iy3, hs, e_77_0_3, e_78_0_3, e_78_4_3, e_79_0_3, e_80_0_3, e_81_0_3, e_81_5_3, e_83_0_3, e_83_5_3, e_83_27_3, Int.reduceLT, Int.reduceLE, and_self, and_true, true_and, Option.bind_some, Int.add_zero, z_wid, or_true, true_or, z_up_fn, z_up_ni, z_up_eq, z_up_qi, z_rw_fn, z_rw_in, z_rw_out, if_pos, if_neg, ↓reduceIte]
            exact w_ret rfl
          · intro k hk
            simp (disch := omega) only [z_up_fn, z_rw_fn]
          · intro τ hτ
            simp (disch := first | omega | (simp (disch := omega) only [hτ] <;> omega) | fail) only [e_231_0, e_231_7, e_231_37, e_231_18, e_231_29, e_231_44, e_231_115, e_231_99, e_231_152, e_231_160, e_231_168, e_231_179, e_231_233, e_231_242, e_231_197, e_231_253, e_231_265, e_231_271, e_231_118, e_231_141, e_231_171, e_231_182, e_231_280, e_231_288, e_231_132, e_229_0, e_229_42, e_229_73, e_229_25, e_229_113, e_230_0, e_230_43, e_230_57, e_230_26, e_230_84, e_230_75, s_149, s_228, s_168, e_150_0, e_151_0, Int.reduceMul, Int.reduceAdd, Int.zero_add, ite_self, hs, e_229_0, e_229_42, e_229_73, e_229_79, e_229_25, e_229_113, Int.reduceLT, Int.reduceLE, and_self, and_true, true_and, n1, hτ, Option.bind_some, Int.add_zero, z_wid, or_true, true_or, z_up_fn, z_up_ni, z_up_eq, z_up_qi, z_rw_fn, z_rw_in, z_rw_out, if_pos, if_neg, ↓reduceIte]
            exact w_ret rfl
          · skip
            exact w_ref h 0
        · apply zOK_mk2
          · simp (disch := first | omega | (simp (disch := omega) only [z_up_fn, z_up_ni, z_up_eq, z_up_qi, z_rw_fn] <;> omega) | fail) only [ite_self, Int.reduceAdd, e_129_0, e_129_8, e_129_16, e_129_25, e_129_33, e_129_81, e_129_101, e_129_109, e_129_116, e_129_127, e_129_137, e_129_151, e_129_163, e_129_169, e_129_192, e_129_87, e_129_120, e_129_131, e_129_140, e_129_178, e_129_186, e_129_90, e_143_0, e_143_6, e_144_0, e_144_11, e_144_20, e_144_33, e_144_39, e_144_56, e_144_47, e_145_0, e_145_6_0, e_145_6_1, e_145_6_2, e_145_6_3, e_145_12_0, e_145_12_1, e_145_12_2, e_145_12_3, e_145_31_0, e_145_25, e_145_31_1, e_145_31_2, e_145_31_3, e_145_52, e_145_40, e_145_43, e_146_0, e_146_6_0, e_146_6_1, e_146_6_2, e_146_6_3, e_146_12_0, e_146_12_1, e_146_12_2, e_146_12_3, e_146_32_0, e_146_25, e_146_32_1, e_146_32_2, e_146_32_3, e_146_49, e_146_57, e_146_60, e_147_0, e_147_11, e_147_19, e_147_32, e_147_38, e_147_55, e_147_46, s_133, s_234, s_has_8, s_get_8, s_39, e_131_0, e_132_0, w_ix3, w_iy3, hs, e_77_0_3, e_78_0_3, e_78_4_3, e_79_0_3, e_80_0_3, e_81_0_3, e_81_5_3, e_83_0_3, e_83_5_3, e_83_27_3, Int.reduceLT, Int.reduceLE, and_self, and_true, true_and, Option.bind_some, Int.add_zero, z_wid, or_true, true_or, z_up_fn, z_up_ni, z_up_eq, z_up_qi, z_rw_fn, z_rw_in, z_rw_out, if_pos, if_neg, ↓reduceIte]
            exact w_ret rfl
          · intro k hk
            simp (disch := omega) only [z_up_fn, z_rw_fn]
          · intro τ hτ
            simp (disch := first | omega | (simp (disch := omega) only [hτ] <;> omega) | fail) only [e_231_0, e_231_7, e_231_37, e_231_18, e_231_29, e_231_44, e_231_115, e_231_99, e_231_152, e_231_160, e_231_168, e_231_179, e_231_233, e_231_242, e_231_197, e_231_253, e_231_265, e_231_271, e_231_118, e_231_141, e_231_171, e_231_182, e_231_280, e_231_288, e_231_132, e_229_0, e_229_42, e_229_73, e_229_25, e_229_113, e_230_0, e_230_43, e_230_57, e_230_26, e_230_84, e_230_75, s_149, s_228, s_168, e_150_0, e_151_0, Int.reduceMul, Int.reduceAdd, Int.zero_add, ite_self, hs, e_229_0, e_229_42, e_229_73, e_229_79, e_229_25, e_229_113, Int.reduceLT, Int.reduceLE, and_self, and_true, true_and, n1, hτ, Option.bind_some, Int.add_zero, z_wid, or_true, true_or, z_up_fn, z_up_ni, z_up_eq, z_up_qi, z_rw_fn, z_rw_in, z_rw_out, if_pos, if_neg, ↓reduceIte]
            exact w_ret rfl
          · exact w_ref h 12
      · apply zOK_mk2
        · simp (disch := first | omega | (simp (disch := omega) only [z_up_fn, z_up_ni, z_up_eq, z_up_qi, z_rw_fn] <;> omega) | fail) only [ite_self, Int.reduceAdd, e_129_0, e_129_8, e_129_16, e_129_25, e_129_33, e_129_81, e_129_101, e_129_109, e_129_116, e_129_127, e_129_137, e_129_151, e_129_163, e_129_169, e_129_192, e_129_87, e_129_120, e_129_131, e_129_140, e_129_178, e_129_186, e_129_90, e_143_0, e_143_6, e_144_0, e_144_11, e_144_20, e_144_33, e_144_39, e_144_56, e_144_47, e_145_0, e_145_6_0, e_145_6_1, e_145_6_2, e_145_6_3, e_145_12_0, e_145_12_1, e_145_12_2, e_145_12_3, e_145_31_0, e_145_25, e_145_31_1, e_145_31_2, e_145_31_3, e_145_52, e_145_40, e_145_43, e_146_0, e_146_6_0, e_146_6_1, e_146_6_2, e_146_6_3, e_146_12_0, e_146_12_1, e_146_12_2, e_146_12_3, e_146_32_0, e_146_25, e_146_32_1, e_146_32_2, e_146_32_3, e_146_49, e_146_57, e_146_60, e_147_0, e_147_11, e_147_19, e_147_32, e_147_38, e_147_55, e_147_46, s_133, s_234, s_has_8, s_get_8, s_39, e_131_0, e_132_0, w_ix3, w_iy3, hs, e_77_0_3, e_78_0_3, e_78_4_3, e_79_0_3, e_80_0_3, e_81_0_3, e_81_5_3, e_83_0_3, e_83_5_3, e_83_27_3, Int.reduceLT, Int.reduceLE, and_self, and_true, true_and, Option.bind_some, Int.add_zero, z_wid, or_true, true_or, z_up_fn, z_up_ni, z_up_eq, z_up_qi, z_rw_fn, z_rw_in, z_rw_out, if_pos, if_neg, ↓reduceIte]
          exact w_ret rfl
        · intro k hk
          simp (disch := omega) only [z_up_fn, z_rw_fn]
        · intro τ hτ
          simp (disch := first | omega | (simp (disch := omega) only [hτ] <;> omega) | fail) only [e_231_0, e_231_7, e_231_37, e_231_18, e_231_29, e_231_44, e_231_115, e_231_99, e_231_152, e_231_160, e_231_168, e_231_179, e_231_233, e_231_242, e_231_197, e_231_253, e_231_265, e_231_271, e_231_118, e_231_141, e_231_171, e_231_182, e_231_280, e_231_288, e_231_132, e_229_0, e_229_42, e_229_73, e_229_25, e_229_113, e_230_0, e_230_43, e_230_57, e_230_26, e_230_84, e_230_75, s_149, s_228, s_168, e_150_0, e_151_0, Int.reduceMul, Int.reduceAdd, Int.zero_add, ite_self, hs, e_229_0, e_229_42, e_229_73, e_229_79, e_229_25, e_229_113, Int.reduceLT, Int.reduceLE, and_self, and_true, true_and, n1, hτ, Option.bind_some, Int.add_zero, z_wid, or_true, true_or, z_up_fn, z_up_ni, z_up_eq, z_up_qi, z_rw_fn, z_rw_in, z_rw_out, if_pos, if_neg, ↓reduceIte]
          exact w_ret rfl
        · exact w_ref h 11
    · apply zOK_mk2
      · simp (disch := first | omega | (simp (disch := omega) only [z_up_fn, z_up_ni, z_up_eq, z_up_qi, z_rw_fn] <;> omega) | fail) only [ite_self, Int.reduceAdd, e_129_0, e_129_8, e_129_16, e_129_25, e_129_33, e_129_81, e_129_101, e_129_109, e_129_116, e_129_127, e_129_137, e_129_151, e_129_163, e_129_169, e_129_192, e_129_87, e_129_120, e_129_131, e_129_140, e_129_178, e_129_186, e_129_90, e_143_0, e_143_6, e_144_0, e_144_11, e_144_20, e_144_33, e_144_39, e_144_56, e_144_47, e_145_0, e_145_6_0, e_145_6_1, e_145_6_2, e_145_6_3, e_145_12_0, e_145_12_1, e_145_12_2, e_145_12_3, e_145_31_0, e_145_25, e_145_31_1, e_145_31_2, e_145_31_3, e_145_52, e_145_40, e_145_43, e_146_0, e_146_6_0, e_146_6_1, e_146_6_2, e_146_6_3, e_146_12_0, e_146_12_1, e_146_12_2, e_146_12_3, e_146_32_0, e_146_25, e_146_32_1, e_146_32_2, e_146_32_3, e_146_49, e_146_57, e_146_60, e_147_0, e_147_11, e_147_19, e_147_32, e_147_38, e_147_55, e_147_46, s_133, s_234, s_has_8, s_get_8, s_39, e_131_0, e_132_0, w_ix3, w_iy3, hs, e_77_0_3, e_78_0_3, e_78_4_3, e_79_0_3, e_80_0_3, e_81_0_3, e_81_5_3, e_83_0_3, e_83_5_3, e_83_27_3, Int.reduceLT, Int.reduceLE, and_self, and_true, true_and, Option.bind_some, Int.add_zero, z_wid, or_true, true_or, z_up_fn, z_up_ni, z_up_eq, z_up_qi, z_rw_fn, z_rw_in, z_rw_out, if_pos, if_neg, ↓reduceIte]
        exact w_ret rfl
      · intro k hk
        simp (disch := omega) only [z_up_fn, z_rw_fn]
      · intro τ hτ
        simp (disch := first | omega | (simp (disch := omega) only [hτ] <;> omega) | fail) only [e_231_0, e_231_7, e_231_37, e_231_18, e_231_29, e_231_44, e_231_115, e_231_99, e_231_152, e_231_160, e_231_168, e_231_179, e_231_233, e_231_242, e_231_197, e_231_253, e_231_265, e_231_271, e_231_118, e_231_141, e_231_171, e_231_182, e_231_280, e_231_288, e_231_132, e_229_0, e_229_42, e_229_73, e_229_25, e_229_113, e_230_0, e_230_43, e_230_57, e_230_26, e_230_84, e_230_75, s_149, s_228, s_168, e_150_0, e_151_0, Int.reduceMul, Int.reduceAdd, Int.zero_add, ite_self, hs, e_229_0, e_229_42, e_229_73, e_229_79, e_229_25, e_229_113, Int.reduceLT, Int.reduceLE, and_self, and_true, true_and, n1, hτ, Option.bind_some, Int.add_zero, z_wid, or_true, true_or, z_up_fn, z_up_ni, z_up_eq, z_up_qi, z_rw_fn, z_rw_in, z_rw_out, if_pos, if_neg, ↓reduceIte]
        exact w_ret rfl
      · exact w_ref h 10
  · apply zOK_mk2
    · simp (disch := first | omega | (simp (disch := omega) only [z_up_fn, z_up_ni, z_up_eq, z_up_qi, z_rw_fn] <;> omega) | fail) only [ite_self, Int.reduceAdd, e_129_0, e_129_8, e_129_16, e_129_25, e_129_33, e_129_81, e_129_101, e_129_109, e_129_116, e_129_127, e_129_137, e_129_151, e_129_163, e_129_169, e_129_192, e_129_87, e_129_120, e_129_131, e_129_140, e_129_178, e_129_186, e_129_90, e_143_0, e_143_6, e_144_0, e_144_11, e_144_20, e_144_33, e_144_39, e_144_56, e_144_47, e_145_0, e_145_6_0, e_145_6_1, e_145_6_2, e_145_6_3, e_145_12_0, e_145_12_1, e_145_12_2, e_145_12_3, e_145_31_0, e_145_25, e_145_31_1, e_145_31_2, e_145_31_3, e_145_52, e_145_40, e_145_43, e_146_0, e_146_6_0, e_146_6_1, e_146_6_2, e_146_6_3, e_146_12_0, e_146_12_1, e_146_12_2, e_146_12_3, e_146_32_0, e_146_25, e_146_32_1, e_146_32_2, e_146_32_3, e_146_49, e_146_57, e_146_60, e_147_0, e_147_11, e_147_19, e_147_32, e_147_38, e_147_55, e_147_46, s_133, s_234, s_has_8, s_get_8, s_39, e_131_0, e_132_0, w_ix3, w_iy3, hs, e_77_0_3, e_78_0_3, e_78_4_3, e_79_0_3, e_80_0_3, e_81_0_3, e_81_5_3, e_83_0_3, e_83_5_3, e_83_27_3, Int.reduceLT, Int.reduceLE, and_self, and_true, true_and, Option.bind_some, Int.add_zero, z_wid, or_true, true_or, z_up_fn, z_up_ni, z_up_eq, z_up_qi, z_rw_fn, z_rw_in, z_rw_out, if_pos, if_neg, ↓reduceIte]
      exact w_ret rfl
    · intro k hk
      simp (disch := omega) only [z_up_fn, z_rw_fn]
    · intro τ hτ
      simp (disch := first | omega | (simp (disch := omega) only [hτ] <;> omega) | fail) only [e_231_0, e_231_7, e_231_37, e_231_18, e_231_29, e_231_44, e_231_115, e_231_99, e_231_152, e_231_160, e_231_168, e_231_179, e_231_233, e_231_242, e_231_197, e_231_253, e_231_265, e_231_271, e_231_118, e_231_141, e_231_171, e_231_182, e_231_280, e_231_288, e_231_132, e_229_0, e_229_42, e_229_73, e_229_25, e_229_113, e_230_0, e_230_43, e_230_57, e_230_26, e_230_84, e_230_75, s_149, s_228, s_168, e_150_0, e_151_0, Int.reduceMul, Int.reduceAdd, Int.zero_add, ite_self, hs, e_229_0, e_229_42, e_229_73, e_229_79, e_229_25, e_229_113, Int.reduceLT, Int.reduceLE, and_self, and_true, true_and, n1, hτ, Option.bind_some, Int.add_zero, z_wid, or_true, true_or, z_up_fn, z_up_ni, z_up_eq, z_up_qi, z_rw_fn, z_rw_in, z_rw_out, if_pos, if_neg, ↓reduceIte]
      exact w_ret rfl
    · exact w_ref h 1
theorem o_forge3s3n2 (d : Nat) (s : Int → Int) (L : Int) (σ : Nat → Int → Int) (h : zV s L σ) (x3 : Int) (hs : x3 % 4 = 3) : zOK s L (d + 9) 129 231 [some (.inl 3), some (.inl 2), some (.inl x3)] [some (.inl 3), some (.inl 2), some (.inl x3), none] σ := by
  have hX := zV_X3 h
  have hX1 := hX.1
  have hX2 := hX.2.1
  have hX3 := hX.2.2.1
  have hX4 := hX.2.2.2.1
  have hX5 := hX.2.2.2.2.1
  have hX6 := hX.2.2.2.2.2.1
  have n1 : σ 122 121 = σ 70 1 := (hX.2.2.2.2.2.2 1 (by omega) (by omega)).1.symm
  have n2 : σ 122 122 = σ 70 2 := (hX.2.2.2.2.2.2 2 (by omega) (by omega)).1.symm
  by_cases c1 : -100 ≤ x3 ∧ x3 ≤ 100
  · by_cases c2 : ¬ σ 69 1 = -1
    · by_cases c3 : σ 69 1 = 0
      · by_cases c4 : 3 ≤ σ 69 2
        · apply zOK_mk2
          · simp (disch := first | omega | (simp (disch := omega) only [z_up_fn, z_up_ni, z_up_eq, z_up_qi, z_rw_fn] <;> omega) | fail) only [ite_self, Int.reduceAdd, e_129_0, e_129_8, e_129_16, e_129_25, e_129_33, e_129_81, e_129_101, e_129_109, e_129_116, e_129_127, e_129_137, e_129_151, e_129_163, e_129_169, e_129_192, e_129_87, e_129_120, e_129_131, e_129_140, e_129_178, e_129_186, e_129_90, e_143_0, e_143_6, e_144_0, e_144_11, e_144_20, e_144_33, e_144_39, e_144_56, e_144_47, e_145_0, e_145_6_0, e_145_6_1, e_145_6_2, e_145_6_3, e_145_12_0, e_145_12_1, e_145_12_2, e_145_12_3, e_145_31_0, e_145_25, e_145_31_1, e_145_31_2, e_145_31_3, e_145_52, e_145_40, e_145_43, e_146_0, e_146_6_0, e_146_6_1, e_146_6_2, e_146_6_3, e_146_12_0, e_146_12_1, e_146_12_2, e_146_12_3, e_146_32_0, e_146_25, e_146_32_1, e_146_32_2, e_146_32_3, e_146_49, e_146_57, e_146_60, e_147_0, e_147_11, e_147_19, e_147_32, e_147_38, e_147_55, e_147_46, s_133, s_234, s_has_8, s_get_8, s_39, e_131_0, e_132_0, w_ix3, w_iy3, hs, e_77_0_3, e_78_0_3, e_78_4_3, e_79_0_3, e_80_0_3, e_81_0_3, e_81_5_3, e_83_0_3, e_83_5_3, e_83_27_3, Int.reduceLT, Int.reduceLE, and_self, and_true, true_and, Option.bind_some, Int.add_zero, z_wid, or_true, true_or, z_up_fn, z_up_ni, z_up_eq, z_up_qi, z_rw_fn, z_rw_in, z_rw_out, if_pos, if_neg, ↓reduceIte]
            exact w_ret rfl
          · intro k hk
            simp (disch := omega) only [z_up_fn, z_rw_fn]
          · intro τ hτ
            simp (disch := first | omega | (simp (disch := omega) only [hτ] <;> omega) | fail) only [e_231_0, e_231_7, e_231_37, e_231_18, e_231_29, e_231_44, e_231_115, e_231_99, e_231_152, e_231_160, e_231_168, e_231_179, e_231_233, e_231_242, e_231_197, e_231_253, e_231_265, e_231_271, e_231_118, e_231_141, e_231_171, e_231_182, e_231_280, e_231_288, e_231_132, e_229_0, e_229_42, e_229_73, e_229_25, e_229_113, e_230_0, e_230_43, e_230_57, e_230_26, e_230_84, e_230_75, s_149, s_228, s_168, e_150_0, e_151_0, Int.reduceMul, Int.reduceAdd, Int.zero_add, ite_self, hs, e_229_0, e_229_42, e_229_73, e_229_79, e_229_25, e_229_113, Int.reduceLT, Int.reduceLE, and_self, and_true, true_and, n1, n2, hτ, Option.bind_some, Int.add_zero, z_wid, or_true, true_or, z_up_fn, z_up_ni, z_up_eq, z_up_qi, z_rw_fn, z_rw_in, z_rw_out, if_pos, if_neg, ↓reduceIte]
            exact w_ret rfl
          · skip
            exact w_ref h 0
        · apply zOK_mk2
          · simp (disch := first | omega | (simp (disch := omega) only [z_up_fn, z_up_ni, z_up_eq, z_up_qi, z_rw_fn] <;> omega) | fail) only [ite_self, Int.reduceAdd, e_129_0, e_129_8, e_129_16, e_129_25, e_129_33, e_129_81, e_129_101, e_129_109, e_129_116, e_129_127, e_129_137, e_129_151, e_129_163, e_129_169, e_129_192, e_129_87, e_129_120, e_129_131, e_129_140, e_129_178, e_129_186, e_129_90, e_143_0, e_143_6, e_144_0, e_144_11, e_144_20, e_144_33, e_144_39, e_144_56, e_144_47, e_145_0, e_145_6_0, e_145_6_1, e_145_6_2, e_145_6_3, e_145_12_0, e_145_12_1, e_145_12_2, e_145_12_3, e_145_31_0, e_145_25, e_145_31_1, e_145_31_2, e_145_31_3, e_145_52, e_145_40, e_145_43, e_146_0, e_146_6_0, e_146_6_1, e_146_6_2, e_146_6_3, e_146_12_0, e_146_12_1, e_146_12_2, e_146_12_3, e_146_32_0, e_146_25, e_146_32_1, e_146_32_2, e_146_32_3, e_146_49, e_146_57, e_146_60, e_147_0, e_147_11, e_147_19, e_147_32, e_147_38, e_147_55, e_147_46, s_133, s_234, s_has_8, s_get_8, s_39, e_131_0, e_132_0, w_ix3, w_iy3, hs, e_77_0_3, e_78_0_3, e_78_4_3, e_79_0_3, e_80_0_3, e_81_0_3, e_81_5_3, e_83_0_3, e_83_5_3, e_83_27_3, Int.reduceLT, Int.reduceLE, and_self, and_true, true_and, Option.bind_some, Int.add_zero, z_wid, or_true, true_or, z_up_fn, z_up_ni, z_up_eq, z_up_qi, z_rw_fn, z_rw_in, z_rw_out, if_pos, if_neg, ↓reduceIte]
            exact w_ret rfl
          · intro k hk
            simp (disch := omega) only [z_up_fn, z_rw_fn]
          · intro τ hτ
            simp (disch := first | omega | (simp (disch := omega) only [hτ] <;> omega) | fail) only [e_231_0, e_231_7, e_231_37, e_231_18, e_231_29, e_231_44, e_231_115, e_231_99, e_231_152, e_231_160, e_231_168, e_231_179, e_231_233, e_231_242, e_231_197, e_231_253, e_231_265, e_231_271, e_231_118, e_231_141, e_231_171, e_231_182, e_231_280, e_231_288, e_231_132, e_229_0, e_229_42, e_229_73, e_229_25, e_229_113, e_230_0, e_230_43, e_230_57, e_230_26, e_230_84, e_230_75, s_149, s_228, s_168, e_150_0, e_151_0, Int.reduceMul, Int.reduceAdd, Int.zero_add, ite_self, hs, e_229_0, e_229_42, e_229_73, e_229_79, e_229_25, e_229_113, Int.reduceLT, Int.reduceLE, and_self, and_true, true_and, n1, n2, hτ, Option.bind_some, Int.add_zero, z_wid, or_true, true_or, z_up_fn, z_up_ni, z_up_eq, z_up_qi, z_rw_fn, z_rw_in, z_rw_out, if_pos, if_neg, ↓reduceIte]
            exact w_ret rfl
          · exact w_ref h 12
      · apply zOK_mk2
        · simp (disch := first | omega | (simp (disch := omega) only [z_up_fn, z_up_ni, z_up_eq, z_up_qi, z_rw_fn] <;> omega) | fail) only [ite_self, Int.reduceAdd, e_129_0, e_129_8, e_129_16, e_129_25, e_129_33, e_129_81, e_129_101, e_129_109, e_129_116, e_129_127, e_129_137, e_129_151, e_129_163, e_129_169, e_129_192, e_129_87, e_129_120, e_129_131, e_129_140, e_129_178, e_129_186, e_129_90, e_143_0, e_143_6, e_144_0, e_144_11, e_144_20, e_144_33, e_144_39, e_144_56, e_144_47, e_145_0, e_145_6_0, e_145_6_1, e_145_6_2, e_145_6_3, e_145_12_0, e_145_12_1, e_145_12_2, e_145_12_3, e_145_31_0, e_145_25, e_145_31_1, e_145_31_2, e_145_31_3, e_145_52, e_145_40, e_145_43, e_146_0, e_146_6_0, e_146_6_1, e_146_6_2, e_146_6_3, e_146_12_0, e_146_12_1, e_146_12_2, e_146_12_3, e_146_32_0, e_146_25, e_146_32_1, e_146_32_2, e_146_32_3, e_146_49, e_146_57, e_146_60, e_147_0, e_147_11, e_147_19, e_147_32, e_147_38, e_147_55, e_147_46, s_133, s_234, s_has_8, s_get_8, s_39, e_131_0, e_132_0, w_ix3, w_iy3, hs, e_77_0_3, e_78_0_3, e_78_4_3, e_79_0_3, e_80_0_3, e_81_0_3, e_81_5_3, e_83_0_3, e_83_5_3, e_83_27_3, Int.reduceLT, Int.reduceLE, and_self, and_true, true_and, Option.bind_some, Int.add_zero, z_wid, or_true, true_or, z_up_fn, z_up_ni, z_up_eq, z_up_qi, z_rw_fn, z_rw_in, z_rw_out, if_pos, if_neg, ↓reduceIte]
          exact w_ret rfl
        · intro k hk
          simp (disch := omega) only [z_up_fn, z_rw_fn]
        · intro τ hτ
          simp (disch := first | omega | (simp (disch := omega) only [hτ] <;> omega) | fail) only [e_231_0, e_231_7, e_231_37, e_231_18, e_231_29, e_231_44, e_231_115, e_231_99, e_231_152, e_231_160, e_231_168, e_231_179, e_231_233, e_231_242, e_231_197, e_231_253, e_231_265, e_231_271, e_231_118, e_231_141, e_231_171, e_231_182, e_231_280, e_231_288, e_231_132, e_229_0, e_229_42, e_229_73, e_229_25, e_229_113, e_230_0, e_230_43, e_230_57, e_230_26, e_230_84, e_230_75, s_149, s_228, s_168, e_150_0, e_151_0, Int.reduceMul, Int.reduceAdd, Int.zero_add, ite_self, hs, e_229_0, e_229_42, e_229_73, e_229_79, e_229_25, e_229_113, Int.reduceLT, Int.reduceLE, and_self, and_true, true_and, n1, n2, hτ, Option.bind_some, Int.add_zero, z_wid, or_true, true_or, z_up_fn, z_up_ni, z_up_eq, z_up_qi, z_rw_fn, z_rw_in, z_rw_out, if_pos, if_neg, ↓reduceIte]
          exact w_ret rfl
        · exact w_ref h 11
    · apply zOK_mk2
      · simp (disch := first | omega | (simp (disch := omega) only [z_up_fn, z_up_ni, z_up_eq, z_up_qi, z_rw_fn] <;> omega) | fail) only [ite_self, Int.reduceAdd, e_129_0, e_129_8, e_129_16, e_129_25, e_129_33, e_129_81, e_129_101, e_129_109, e_129_116, e_129_127, e_129_137, e_129_151, e_129_163, e_129_169, e_129_192, e_129_87, e_129_120, e_129_131, e_129_140, e_129_178, e_129_186, e_129_90, e_143_0, e_143_6, e_144_0, e_144_11, e_144_20, e_144_33, e_144_39, e_144_56, e_144_47, e_145_0, e_145_6_0, e_145_6_1, e_145_6_2, e_145_6_3, e_145_12_0, e_145_12_1, e_145_12_2, e_145_12_3, e_145_31_0, e_145_25, e_145_31_1, e_145_31_2, e_145_31_3, e_145_52, e_145_40, e_145_43, e_146_0, e_146_6_0, e_146_6_1, e_146_6_2, e_146_6_3, e_146_12_0, e_146_12_1, e_146_12_2, e_146_12_3, e_146_32_0, e_146_25, e_146_32_1, e_146_32_2, e_146_32_3, e_146_49, e_146_57, e_146_60, e_147_0, e_147_11, e_147_19, e_147_32, e_147_38, e_147_55, e_147_46, s_133, s_234, s_has_8, s_get_8, s_39, e_131_0, e_132_0, w_ix3, w_iy3, hs, e_77_0_3, e_78_0_3, e_78_4_3, e_79_0_3, e_80_0_3, e_81_0_3, e_81_5_3, e_83_0_3, e_83_5_3, e_83_27_3, Int.reduceLT, Int.reduceLE, and_self, and_true, true_and, Option.bind_some, Int.add_zero, z_wid, or_true, true_or, z_up_fn, z_up_ni, z_up_eq, z_up_qi, z_rw_fn, z_rw_in, z_rw_out, if_pos, if_neg, ↓reduceIte]
        exact w_ret rfl
      · intro k hk
        simp (disch := omega) only [z_up_fn, z_rw_fn]
      · intro τ hτ
        simp (disch := first | omega | (simp (disch := omega) only [hτ] <;> omega) | fail) only [e_231_0, e_231_7, e_231_37, e_231_18, e_231_29, e_231_44, e_231_115, e_231_99, e_231_152, e_231_160, e_231_168, e_231_179, e_231_233, e_231_242, e_231_197, e_231_253, e_231_265, e_231_271, e_231_118, e_231_141, e_231_171, e_231_182, e_231_280, e_231_288, e_231_132, e_229_0, e_229_42, e_229_73, e_229_25, e_229_113, e_230_0, e_230_43, e_230_57, e_230_26, e_230_84, e_230_75, s_149, s_228, s_168, e_150_0, e_151_0, Int.reduceMul, Int.reduceAdd, Int.zero_add, ite_self, hs, e_229_0, e_229_42, e_229_73, e_229_79, e_229_25, e_229_113, Int.reduceLT, Int.reduceLE, and_self, and_true, true_and, n1, n2, hτ, Option.bind_some, Int.add_zero, z_wid, or_true, true_or, z_up_fn, z_up_ni, z_up_eq, z_up_qi, z_rw_fn, z_rw_in, z_rw_out, if_pos, if_neg, ↓reduceIte]
        exact w_ret rfl
      · exact w_ref h 10
  · apply zOK_mk2
    · simp (disch := first | omega | (simp (disch := omega) only [z_up_fn, z_up_ni, z_up_eq, z_up_qi, z_rw_fn] <;> omega) | fail) only [ite_self, Int.reduceAdd, e_129_0, e_129_8, e_129_16, e_129_25, e_129_33, e_129_81, e_129_101, e_129_109, e_129_116, e_129_127, e_129_137, e_129_151, e_129_163, e_129_169, e_129_192, e_129_87, e_129_120, e_129_131, e_129_140, e_129_178, e_129_186, e_129_90, e_143_0, e_143_6, e_144_0, e_144_11, e_144_20, e_144_33, e_144_39, e_144_56, e_144_47, e_145_0, e_145_6_0, e_145_6_1, e_145_6_2, e_145_6_3, e_145_12_0, e_145_12_1, e_145_12_2, e_145_12_3, e_145_31_0, e_145_25, e_145_31_1, e_145_31_2, e_145_31_3, e_145_52, e_145_40, e_145_43, e_146_0, e_146_6_0, e_146_6_1, e_146_6_2, e_146_6_3, e_146_12_0, e_146_12_1, e_146_12_2, e_146_12_3, e_146_32_0, e_146_25, e_146_32_1, e_146_32_2, e_146_32_3, e_146_49, e_146_57, e_146_60, e_147_0, e_147_11, e_147_19, e_147_32, e_147_38, e_147_55, e_147_46, s_133, s_234, s_has_8, s_get_8, s_39, e_131_0, e_132_0, w_ix3, w_iy3, hs, e_77_0_3, e_78_0_3, e_78_4_3, e_79_0_3, e_80_0_3, e_81_0_3, e_81_5_3, e_83_0_3, e_83_5_3, e_83_27_3, Int.reduceLT, Int.reduceLE, and_self, and_true, true_and, Option.bind_some, Int.add_zero, z_wid, or_true, true_or, z_up_fn, z_up_ni, z_up_eq, z_up_qi, z_rw_fn, z_rw_in, z_rw_out, if_pos, if_neg, ↓reduceIte]
      exact w_ret rfl
    · intro k hk
      simp (disch := omega) only [z_up_fn, z_rw_fn]
    · intro τ hτ
      simp (disch := first | omega | (simp (disch := omega) only [hτ] <;> omega) | fail) only [e_231_0, e_231_7, e_231_37, e_231_18, e_231_29, e_231_44, e_231_115, e_231_99, e_231_152, e_231_160, e_231_168, e_231_179, e_231_233, e_231_242, e_231_197, e_231_253, e_231_265, e_231_271, e_231_118, e_231_141, e_231_171, e_231_182, e_231_280, e_231_288, e_231_132, e_229_0, e_229_42, e_229_73, e_229_25, e_229_113, e_230_0, e_230_43, e_230_57, e_230_26, e_230_84, e_230_75, s_149, s_228, s_168, e_150_0, e_151_0, Int.reduceMul, Int.reduceAdd, Int.zero_add, ite_self, hs, e_229_0, e_229_42, e_229_73, e_229_79, e_229_25, e_229_113, Int.reduceLT, Int.reduceLE, and_self, and_true, true_and, n1, n2, hτ, Option.bind_some, Int.add_zero, z_wid, or_true, true_or, z_up_fn, z_up_ni, z_up_eq, z_up_qi, z_rw_fn, z_rw_in, z_rw_out, if_pos, if_neg, ↓reduceIte]
      exact w_ret rfl
    · exact w_ref h 1
theorem o_forge3s3n3 (d : Nat) (s : Int → Int) (L : Int) (σ : Nat → Int → Int) (h : zV s L σ) (x3 : Int) (hs : x3 % 4 = 3) : zOK s L (d + 9) 129 231 [some (.inl 3), some (.inl 3), some (.inl x3)] [some (.inl 3), some (.inl 3), some (.inl x3), none] σ := by
  have hX := zV_X3 h
  have hX1 := hX.1
  have hX2 := hX.2.1
  have hX3 := hX.2.2.1
  have hX4 := hX.2.2.2.1
  have hX5 := hX.2.2.2.2.1
  have hX6 := hX.2.2.2.2.2.1
  have n1 : σ 122 121 = σ 70 1 := (hX.2.2.2.2.2.2 1 (by omega) (by omega)).1.symm
  have n2 : σ 122 122 = σ 70 2 := (hX.2.2.2.2.2.2 2 (by omega) (by omega)).1.symm
  have n3 : σ 122 123 = σ 70 3 := (hX.2.2.2.2.2.2 3 (by omega) (by omega)).1.symm
  by_cases c1 : -100 ≤ x3 ∧ x3 ≤ 100
  · by_cases c2 : ¬ σ 69 1 = -1
    · by_cases c3 : σ 69 1 = 0
      · by_cases c4 : 4 ≤ σ 69 2
        · apply zOK_mk2
          · simp (disch := first | omega | (simp (disch := omega) only [z_up_fn, z_up_ni, z_up_eq, z_up_qi, z_rw_fn] <;> omega) | fail) only [ite_self, Int.reduceAdd, e_129_0, e_129_8, e_129_16, e_129_25, e_129_33, e_129_81, e_129_101, e_129_109, e_129_116, e_129_127, e_129_137, e_129_151, e_129_163, e_129_169, e_129_192, e_129_87, e_129_120, e_129_131, e_129_140, e_129_178, e_129_186, e_129_90, e_143_0, e_143_6, e_144_0, e_144_11, e_144_20, e_144_33, e_144_39, e_144_56, e_144_47, e_145_0, e_145_6_0, e_145_6_1, e_145_6_2, e_145_6_3, e_145_12_0, e_145_12_1, e_145_12_2, e_145_12_3, e_145_31_0, e_145_25, e_145_31_1, e_145_31_2, e_145_31_3, e_145_52, e_145_40, e_145_43, e_146_0, e_146_6_0, e_146_6_1, e_146_6_2, e_146_6_3, e_146_12_0, e_146_12_1, e_146_12_2, e_146_12_3, e_146_32_0, e_146_25, e_146_32_1, e_146_32_2, e_146_32_3, e_146_49, e_146_57, e_146_60, e_147_0, e_147_11, e_147_19, e_147_32, e_147_38, e_147_55, e_147_46, s_133, s_234, s_has_8, s_get_8, s_39, e_131_0, e_132_0, w_ix3, w_iy3, hs, e_77_0_3, e_78_0_3, e_78_4_3, e_79_0_3, e_80_0_3, e_81_0_3, e_81_5_3, e_83_0_3, e_83_5_3, e_83_27_3, Int.reduceLT, Int.reduceLE, and_self, and_true, true_and, Option.bind_some, Int.add_zero, z_wid, or_true, true_or, z_up_fn, z_up_ni, z_up_eq, z_up_qi, z_rw_fn, z_rw_in, z_rw_out, if_pos, if_neg, ↓reduceIte]
            exact w_ret rfl
          · intro k hk
            simp (disch := omega) only [z_up_fn, z_rw_fn]
          · intro τ hτ
            simp (disch := first | omega | (simp (disch := omega) only [hτ] <;> omega) | fail) only [e_231_0, e_231_7, e_231_37, e_231_18, e_231_29, e_231_44, e_231_115, e_231_99, e_231_152, e_231_160, e_231_168, e_231_179, e_231_233, e_231_242, e_231_197, e_231_253, e_231_265, e_231_271, e_231_118, e_231_141, e_231_171, e_231_182, e_231_280, e_231_288, e_231_132, e_229_0, e_229_42, e_229_73, e_229_25, e_229_113, e_230_0, e_230_43, e_230_57, e_230_26, e_230_84, e_230_75, s_149, s_228, s_168, e_150_0, e_151_0, Int.reduceMul, Int.reduceAdd, Int.zero_add, ite_self, hs, e_229_0, e_229_42, e_229_73, e_229_79, e_229_25, e_229_113, Int.reduceLT, Int.reduceLE, and_self, and_true, true_and, n1, n2, n3, hτ, Option.bind_some, Int.add_zero, z_wid, or_true, true_or, z_up_fn, z_up_ni, z_up_eq, z_up_qi, z_rw_fn, z_rw_in, z_rw_out, if_pos, if_neg, ↓reduceIte]
            exact w_ret rfl
          · skip
            exact w_ref h 0
        · apply zOK_mk2
          · simp (disch := first | omega | (simp (disch := omega) only [z_up_fn, z_up_ni, z_up_eq, z_up_qi, z_rw_fn] <;> omega) | fail) only [ite_self, Int.reduceAdd, e_129_0, e_129_8, e_129_16, e_129_25, e_129_33, e_129_81, e_129_101, e_129_109, e_129_116, e_129_127, e_129_137, e_129_151, e_129_163, e_129_169, e_129_192, e_129_87, e_129_120, e_129_131, e_129_140, e_129_178, e_129_186, e_129_90, e_143_0, e_143_6, e_144_0, e_144_11, e_144_20, e_144_33, e_144_39, e_144_56, e_144_47, e_145_0, e_145_6_0, e_145_6_1, e_145_6_2, e_145_6_3, e_145_12_0, e_145_12_1, e_145_12_2, e_145_12_3, e_145_31_0, e_145_25, e_145_31_1, e_145_31_2, e_145_31_3, e_145_52, e_145_40, e_145_43, e_146_0, e_146_6_0, e_146_6_1, e_146_6_2, e_146_6_3, e_146_12_0, e_146_12_1, e_146_12_2, e_146_12_3, e_146_32_0, e_146_25, e_146_32_1, e_146_32_2, e_146_32_3, e_146_49, e_146_57, e_146_60, e_147_0, e_147_11, e_147_19, e_147_32, e_147_38, e_147_55, e_147_46, s_133, s_234, s_has_8, s_get_8, s_39, e_131_0, e_132_0, w_ix3, w_iy3, hs, e_77_0_3, e_78_0_3, e_78_4_3, e_79_0_3, e_80_0_3, e_81_0_3, e_81_5_3, e_83_0_3, e_83_5_3, e_83_27_3, Int.reduceLT, Int.reduceLE, and_self, and_true, true_and, Option.bind_some, Int.add_zero, z_wid, or_true, true_or, z_up_fn, z_up_ni, z_up_eq, z_up_qi, z_rw_fn, z_rw_in, z_rw_out, if_pos, if_neg, ↓reduceIte]
            exact w_ret rfl
          · intro k hk
            simp (disch := omega) only [z_up_fn, z_rw_fn]
          · intro τ hτ
            simp (disch := first | omega | (simp (disch := omega) only [hτ] <;> omega) | fail) only [e_231_0, e_231_7, e_231_37, e_231_18, e_231_29, e_231_44, e_231_115, e_231_99, e_231_152, e_231_160, e_231_168, e_231_179, e_231_233, e_231_242, e_231_197, e_231_253, e_231_265, e_231_271, e_231_118, e_231_141, e_231_171, e_231_182, e_231_280, e_231_288, e_231_132, e_229_0, e_229_42, e_229_73, e_229_25, e_229_113, e_230_0, e_230_43, e_230_57, e_230_26, e_230_84, e_230_75, s_149, s_228, s_168, e_150_0, e_151_0, Int.reduceMul, Int.reduceAdd, Int.zero_add, ite_self, hs, e_229_0, e_229_42, e_229_73, e_229_79, e_229_25, e_229_113, Int.reduceLT, Int.reduceLE, and_self, and_true, true_and, n1, n2, n3, hτ, Option.bind_some, Int.add_zero, z_wid, or_true, true_or, z_up_fn, z_up_ni, z_up_eq, z_up_qi, z_rw_fn, z_rw_in, z_rw_out, if_pos, if_neg, ↓reduceIte]
            exact w_ret rfl
          · exact w_ref h 12
      · apply zOK_mk2
        · simp (disch := first | omega | (simp (disch := omega) only [z_up_fn, z_up_ni, z_up_eq, z_up_qi, z_rw_fn] <;> omega) | fail) only [ite_self, Int.reduceAdd, e_129_0, e_129_8, e_129_16, e_129_25, e_129_33, e_129_81, e_129_101, e_129_109, e_129_116, e_129_127, e_129_137, e_129_151, e_129_163, e_129_169, e_129_192, e_129_87, e_129_120, e_129_131, e_129_140, e_129_178, e_129_186, e_129_90, e_143_0, e_143_6, e_144_0, e_144_11, e_144_20, e_144_33, e_144_39, e_144_56, e_144_47, e_145_0, e_145_6_0, e_145_6_1, e_145_6_2, e_145_6_3, e_145_12_0, e_145_12_1, e_145_12_2, e_145_12_3, e_145_31_0, e_145_25, e_145_31_1, e_145_31_2, e_145_31_3, e_145_52, e_145_40, e_145_43, e_146_0, e_146_6_0, e_146_6_1, e_146_6_2, e_146_6_3, e_146_12_0, e_146_12_1, e_146_12_2, e_146_12_3, e_146_32_0, e_146_25, e_146_32_1, e_146_32_2, e_146_32_3, e_146_49, e_146_57, e_146_60, e_147_0, e_147_11, e_147_19, e_147_32, e_147_38, e_147_55, e_147_46, s_133, s_234, s_has_8, s_get_8, s_39, e_131_0, e_132_0, w_ix3, w_iy3, hs, e_77_0_3, e_78_0_3, e_78_4_3, e_79_0_3, e_80_0_3, e_81_0_3, e_81_5_3, e_83_0_3, e_83_5_3, e_83_27_3, Int.reduceLT, Int.reduceLE, and_self, and_true, true_and, Option.bind_some, Int.add_zero, z_wid, or_true, true_or, z_up_fn, z_up_ni, z_up_eq, z_up_qi, z_rw_fn, z_rw_in, z_rw_out, if_pos, if_neg, ↓reduceIte]
          exact w_ret rfl
        · intro k hk
          simp (disch := omega) only [z_up_fn, z_rw_fn]
        · intro τ hτ
          simp (disch := first | omega | (simp (disch := omega) only [hτ] <;> omega) | fail) only [e_231_0, e_231_7, e_231_37, e_231_18, e_231_29, e_231_44, e_231_115, e_231_99, e_231_152, e_231_160, e_231_168, e_231_179, e_231_233, e_231_242, e_231_197, e_231_253, e_231_265, e_231_271, e_231_118, e_231_141, e_231_171, e_231_182, e_231_280, e_231_288, e_231_132, e_229_0, e_229_42, e_229_73, e_229_25, e_229_113, e_230_0, e_230_43, e_230_57, e_230_26, e_230_84, e_230_75, s_149, s_228, s_168, e_150_0, e_151_0, Int.reduceMul, Int.reduceAdd, Int.zero_add, ite_self, hs, e_229_0, e_229_42, e_229_73, e_229_79, e_229_25, e_229_113, Int.reduceLT, Int.reduceLE, and_self, and_true, true_and, n1, n2, n3, hτ, Option.bind_some, Int.add_zero, z_wid, or_true, true_or, z_up_fn, z_up_ni, z_up_eq, z_up_qi, z_rw_fn, z_rw_in, z_rw_out, if_pos, if_neg, ↓reduceIte]
          exact w_ret rfl
        · exact w_ref h 11
    · apply zOK_mk2
      · simp (disch := first | omega | (simp (disch := omega) only [z_up_fn, z_up_ni, z_up_eq, z_up_qi, z_rw_fn] <;> omega) | fail) only [ite_self, Int.reduceAdd, e_129_0, e_129_8, e_129_16, e_129_25, e_129_33, e_129_81, e_129_101, e_129_109, e_129_116, e_129_127, e_129_137, e_129_151, e_129_163, e_129_169, e_129_192, e_129_87, e_129_120, e_129_131, e_129_140, e_129_178, e_129_186, e_129_90, e_143_0, e_143_6, e_144_0, e_144_11, e_144_20, e_144_33, e_144_39, e_144_56, e_144_47, e_145_0, e_145_6_0, e_145_6_1, e_145_6_2, e_145_6_3, e_145_12_0, e_145_12_1, e_145_12_2, e_145_12_3, e_145_31_0, e_145_25, e_145_31_1, e_145_31_2, e_145_31_3, e_145_52, e_145_40, e_145_43, e_146_0, e_146_6_0, e_146_6_1, e_146_6_2, e_146_6_3, e_146_12_0, e_146_12_1, e_146_12_2, e_146_12_3, e_146_32_0, e_146_25, e_146_32_1, e_146_32_2, e_146_32_3, e_146_49, e_146_57, e_146_60, e_147_0, e_147_11, e_147_19, e_147_32, e_147_38, e_147_55, e_147_46, s_133, s_234, s_has_8, s_get_8, s_39, e_131_0, e_132_0, w_ix3, w_iy3, hs, e_77_0_3, e_78_0_3, e_78_4_3, e_79_0_3, e_80_0_3, e_81_0_3, e_81_5_3, e_83_0_3, e_83_5_3, e_83_27_3, Int.reduceLT, Int.reduceLE, and_self, and_true, true_and, Option.bind_some, Int.add_zero, z_wid, or_true, true_or, z_up_fn, z_up_ni, z_up_eq, z_up_qi, z_rw_fn, z_rw_in, z_rw_out, if_pos, if_neg, ↓reduceIte]
        exact w_ret rfl
      · intro k hk
        simp (disch := omega) only [z_up_fn, z_rw_fn]
      · intro τ hτ
        simp (disch := first | omega | (simp (disch := omega) only [hτ] <;> omega) | fail) only [e_231_0, e_231_7, e_231_37, e_231_18, e_231_29, e_231_44, e_231_115, e_231_99, e_231_152, e_231_160, e_231_168, e_231_179, e_231_233, e_231_242, e_231_197, e_231_253, e_231_265, e_231_271, e_231_118, e_231_141, e_231_171, e_231_182, e_231_280, e_231_288, e_231_132, e_229_0, e_229_42, e_229_73, e_229_25, e_229_113, e_230_0, e_230_43, e_230_57, e_230_26, e_230_84, e_230_75, s_149, s_228, s_168, e_150_0, e_151_0, Int.reduceMul, Int.reduceAdd, Int.zero_add, ite_self, hs, e_229_0, e_229_42, e_229_73, e_229_79, e_229_25, e_229_113, Int.reduceLT, Int.reduceLE, and_self, and_true, true_and, n1, n2, n3, hτ, Option.bind_some, Int.add_zero, z_wid, or_true, true_or, z_up_fn, z_up_ni, z_up_eq, z_up_qi, z_rw_fn, z_rw_in, z_rw_out, if_pos, if_neg, ↓reduceIte]
        exact w_ret rfl
      · exact w_ref h 10
  · apply zOK_mk2
    · simp (disch := first | omega | (simp (disch := omega) only [z_up_fn, z_up_ni, z_up_eq, z_up_qi, z_rw_fn] <;> omega) | fail) only [ite_self, Int.reduceAdd, e_129_0, e_129_8, e_129_16, e_129_25, e_129_33, e_129_81, e_129_101, e_129_109, e_129_116, e_129_127, e_129_137, e_129_151, e_129_163, e_129_169, e_129_192, e_129_87, e_129_120, e_129_131, e_129_140, e_129_178, e_129_186, e_129_90, e_143_0, e_143_6, e_144_0, e_144_11, e_144_20, e_144_33, e_144_39, e_144_56, e_144_47, e_145_0, e_145_6_0, e_145_6_1, e_145_6_2, e_145_6_3, e_145_12_0, e_145_12_1, e_145_12_2, e_145_12_3, e_145_31_0, e_145_25, e_145_31_1, e_145_31_2, e_145_31_3, e_145_52, e_145_40, e_145_43, e_146_0, e_146_6_0, e_146_6_1, e_146_6_2, e_146_6_3, e_146_12_0, e_146_12_1, e_146_12_2, e_146_12_3, e_146_32_0, e_146_25, e_146_32_1, e_146_32_2, e_146_32_3, e_146_49, e_146_57, e_146_60, e_147_0, e_147_11, e_147_19, e_147_32, e_147_38, e_147_55, e_147_46, s_133, s_234, s_has_8, s_get_8, s_39, e_131_0, e_132_0, w_ix3, w_iy3, hs, e_77_0_3, e_78_0_3, e_78_4_3, e_79_0_3, e_80_0_3, e_81_0_3, e_81_5_3, e_83_0_3, e_83_5_3, e_83_27_3, Int.reduceLT, Int.reduceLE, and_self, and_true, true_and, Option.bind_some, Int.add_zero, z_wid, or_true, true_or, z_up_fn, z_up_ni, z_up_eq, z_up_qi, z_rw_fn, z_rw_in, z_rw_out, if_pos, if_neg, ↓reduceIte]
      exact w_ret rfl
    · intro k hk
      simp (disch := omega) only [z_up_fn, z_rw_fn]
    · intro τ hτ
      simp (disch := first | omega | (simp (disch := omega) only [hτ] <;> omega) | fail) only [e_231_0, e_231_7, e_231_37, e_231_18, e_231_29, e_231_44, e_231_115, e_231_99, e_231_152, e_231_160, e_231_168, e_231_179, e_231_233, e_231_242, e_231_197, e_231_253, e_231_265, e_231_271, e_231_118, e_231_141, e_231_171, e_231_182, e_231_280, e_231_288, e_231_132, e_229_0, e_229_42, e_229_73, e_229_25, e_229_113, e_230_0, e_230_43, e_230_57, e_230_26, e_230_84, e_230_75, s_149, s_228, s_168, e_150_0, e_151_0, Int.reduceMul, Int.reduceAdd, Int.zero_add, ite_self, hs, e_229_0, e_229_42, e_229_73, e_229_79, e_229_25, e_229_113, Int.reduceLT, Int.reduceLE, and_self, and_true, true_and, n1, n2, n3, hτ, Option.bind_some, Int.add_zero, z_wid, or_true, true_or, z_up_fn, z_up_ni, z_up_eq, z_up_qi, z_rw_fn, z_rw_in, z_rw_out, if_pos, if_neg, ↓reduceIte]
      exact w_ret rfl
    · exact w_ref h 1
theorem o_forge3s3x (d : Nat) (s : Int → Int) (L : Int) (σ : Nat → Int → Int) (h : zV s L σ) (x2 x3 : Int) (hs : x3 % 4 = 3) (hn : x2 < 0) : zOK s L (d + 9) 129 231 [some (.inl 3), some (.inl x2), some (.inl x3)] [some (.inl 3), some (.inl x2), some (.inl x3), none] σ := by
  have hX := zV_X3 h
  have hX1 := hX.1
  have hX2 := hX.2.1
  have hX3 := hX.2.2.1
  have hX4 := hX.2.2.2.1
  have hX5 := hX.2.2.2.2.1
  have hX6 := hX.2.2.2.2.2.1
  by_cases c1 : -100 ≤ x2 ∧ x2 ≤ 100
  · by_cases c2 : -100 ≤ x3 ∧ x3 ≤ 100
    · by_cases c3 : ¬ σ 69 1 = -1
      · by_cases c4 : σ 69 1 = 0
        · apply zOK_mk2
          · simp (disch := first | omega | (simp (disch := omega) only [z_up_fn, z_up_ni, z_up_eq, z_up_qi, z_rw_fn] <;> omega) | fail) only [ite_self, Int.reduceAdd, e_129_0, e_129_8, e_129_16, e_129_25, e_129_33, e_129_81, e_129_101, e_129_109, e_129_116, e_129_127, e_129_137, e_129_151, e_129_163, e_129_169, e_129_192, e_129_87, e_129_120, e_129_131, e_129_140, e_129_178, e_129_186, e_129_90, e_143_0, e_143_6, e_144_0, e_144_11, e_144_20, e_144_33, e_144_39, e_144_56, e_144_47, e_145_0, e_145_6_0, e_145_6_1, e_145_6_2, e_145_6_3, e_145_12_0, e_145_12_1, e_145_12_2, e_145_12_3, e_145_31_0, e_145_25, e_145_31_1, e_145_31_2, e_145_31_3, e_145_52, e_145_40, e_145_43, e_146_0, e_146_6_0, e_146_6_1, e_146_6_2, e_146_6_3, e_146_12_0, e_146_12_1, e_146_12_2, e_146_12_3, e_146_32_0, e_146_25, e_146_32_1, e_146_32_2, e_146_32_3, e_146_49, e_146_57, e_146_60, e_147_0, e_147_11, e_147_19, e_147_32, e_147_38, e_147_55, e_147_46, s_133, s_234, s_has_8, s_get_8, s_39, e_131_0, e_132_0, w_ix3, w_iy3, hs, e_77_0_3, e_78_0_3, e_78_4_3, e_79_0_3, e_80_0_3, e_81_0_3, e_81_5_3, Option.bind_some, Int.add_zero, z_wid, or_true, true_or, z_up_fn, z_up_ni, z_up_eq, z_up_qi, z_rw_fn, z_rw_in, z_rw_out, if_pos, if_neg, ↓reduceIte]
            exact w_ret rfl
          · intro k hk
            simp (disch := omega) only [z_up_fn, z_rw_fn]
          · intro τ hτ
            simp (disch := first | omega | (simp (disch := omega) only [hτ] <;> omega) | fail) only [e_231_0, e_231_7, e_231_37, e_231_18, e_231_29, e_231_44, e_231_115, e_231_99, e_231_152, e_231_160, e_231_168, e_231_179, e_231_233, e_231_242, e_231_197, e_231_253, e_231_265, e_231_271, e_231_118, e_231_141, e_231_171, e_231_182, e_231_280, e_231_288, e_231_132, e_229_0, e_229_42, e_229_73, e_229_25, e_229_113, e_230_0, e_230_43, e_230_57, e_230_26, e_230_84, e_230_75, s_149, s_228, s_168, e_150_0, e_151_0, Int.reduceMul, Int.reduceAdd, Int.zero_add, ite_self, hs, ite_self, hτ, Option.bind_some, Int.add_zero, z_wid, or_true, true_or, z_up_fn, z_up_ni, z_up_eq, z_up_qi, z_rw_fn, z_rw_in, z_rw_out, if_pos, if_neg, ↓reduceIte]
            exact w_ret (by omega)
          · skip
            exact w_ref h 12
        · apply zOK_mk2
          · simp (disch := first | omega | (simp (disch := omega) only [z_up_fn, z_up_ni, z_up_eq, z_up_qi, z_rw_fn] <;> omega) | fail) only [ite_self, Int.reduceAdd, e_129_0, e_129_8, e_129_16, e_129_25, e_129_33, e_129_81, e_129_101, e_129_109, e_129_116, e_129_127, e_129_137, e_129_151, e_129_163, e_129_169, e_129_192, e_129_87, e_129_120, e_129_131, e_129_140, e_129_178, e_129_186, e_129_90, e_143_0, e_143_6, e_144_0, e_144_11, e_144_20, e_144_33, e_144_39, e_144_56, e_144_47, e_145_0, e_145_6_0, e_145_6_1, e_145_6_2, e_145_6_3, e_145_12_0, e_145_12_1, e_145_12_2, e_145_12_3, e_145_31_0, e_145_25, e_145_31_1, e_145_31_2, e_145_31_3, e_145_52, e_145_40, e_145_43, e_146_0, e_146_6_0, e_146_6_1, e_146_6_2, e_146_6_3, e_146_12_0, e_146_12_1, e_146_12_2, e_146_12_3, e_146_32_0, e_146_25, e_146_32_1, e_146_32_2, e_146_32_3, e_146_49, e_146_57, e_146_60, e_147_0, e_147_11, e_147_19, e_147_32, e_147_38, e_147_55, e_147_46, s_133, s_234, s_has_8, s_get_8, s_39, e_131_0, e_132_0, w_ix3, w_iy3, hs, e_77_0_3, e_78_0_3, e_78_4_3, e_79_0_3, e_80_0_3, e_81_0_3, e_81_5_3, Option.bind_some, Int.add_zero, z_wid, or_true, true_or, z_up_fn, z_up_ni, z_up_eq, z_up_qi, z_rw_fn, z_rw_in, z_rw_out, if_pos, if_neg, ↓reduceIte]
            exact w_ret rfl
          · intro k hk
            simp (disch := omega) only [z_up_fn, z_rw_fn]
          · intro τ hτ
            simp (disch := first | omega | (simp (disch := omega) only [hτ] <;> omega) | fail) only [e_231_0, e_231_7, e_231_37, e_231_18, e_231_29, e_231_44, e_231_115, e_231_99, e_231_152, e_231_160, e_231_168, e_231_179, e_231_233, e_231_242, e_231_197, e_231_253, e_231_265, e_231_271, e_231_118, e_231_141, e_231_171, e_231_182, e_231_280, e_231_288, e_231_132, e_229_0, e_229_42, e_229_73, e_229_25, e_229_113, e_230_0, e_230_43, e_230_57, e_230_26, e_230_84, e_230_75, s_149, s_228, s_168, e_150_0, e_151_0, Int.reduceMul, Int.reduceAdd, Int.zero_add, ite_self, hs, ite_self, hτ, Option.bind_some, Int.add_zero, z_wid, or_true, true_or, z_up_fn, z_up_ni, z_up_eq, z_up_qi, z_rw_fn, z_rw_in, z_rw_out, if_pos, if_neg, ↓reduceIte]
            exact w_ret rfl
          · exact w_ref h 11
      · apply zOK_mk2
        · simp (disch := first | omega | (simp (disch := omega) only [z_up_fn, z_up_ni, z_up_eq, z_up_qi, z_rw_fn] <;> omega) | fail) only [ite_self, Int.reduceAdd, e_129_0, e_129_8, e_129_16, e_129_25, e_129_33, e_129_81, e_129_101, e_129_109, e_129_116, e_129_127, e_129_137, e_129_151, e_129_163, e_129_169, e_129_192, e_129_87, e_129_120, e_129_131, e_129_140, e_129_178, e_129_186, e_129_90, e_143_0, e_143_6, e_144_0, e_144_11, e_144_20, e_144_33, e_144_39, e_144_56, e_144_47, e_145_0, e_145_6_0, e_145_6_1, e_145_6_2, e_145_6_3, e_145_12_0, e_145_12_1, e_145_12_2, e_145_12_3, e_145_31_0, e_145_25, e_145_31_1, e_145_31_2, e_145_31_3, e_145_52, e_145_40, e_145_43, e_146_0, e_146_6_0, e_146_6_1, e_146_6_2, e_146_6_3, e_146_12_0, e_146_12_1, e_146_12_2, e_146_12_3, e_146_32_0, e_146_25, e_146_32_1, e_146_32_2, e_146_32_3, e_146_49, e_146_57, e_146_60, e_147_0, e_147_11, e_147_19, e_147_32, e_147_38, e_147_55, e_147_46, s_133, s_234, s_has_8, s_get_8, s_39, e_131_0, e_132_0, w_ix3, w_iy3, hs, e_77_0_3, e_78_0_3, e_78_4_3, e_79_0_3, e_80_0_3, e_81_0_3, e_81_5_3, Option.bind_some, Int.add_zero, z_wid, or_true, true_or, z_up_fn, z_up_ni, z_up_eq, z_up_qi, z_rw_fn, z_rw_in, z_rw_out, if_pos, if_neg, ↓reduceIte]
          exact w_ret rfl
        · intro k hk
          simp (disch := omega) only [z_up_fn, z_rw_fn]
        · intro τ hτ
          simp (disch := first | omega | (simp (disch := omega) only [hτ] <;> omega) | fail) only [e_231_0, e_231_7, e_231_37, e_231_18, e_231_29, e_231_44, e_231_115, e_231_99, e_231_152, e_231_160, e_231_168, e_231_179, e_231_233, e_231_242, e_231_197, e_231_253, e_231_265, e_231_271, e_231_118, e_231_141, e_231_171, e_231_182, e_231_280, e_231_288, e_231_132, e_229_0, e_229_42, e_229_73, e_229_25, e_229_113, e_230_0, e_230_43, e_230_57, e_230_26, e_230_84, e_230_75, s_149, s_228, s_168, e_150_0, e_151_0, Int.reduceMul, Int.reduceAdd, Int.zero_add, ite_self, hs, ite_self, hτ, Option.bind_some, Int.add_zero, z_wid, or_true, true_or, z_up_fn, z_up_ni, z_up_eq, z_up_qi, z_rw_fn, z_rw_in, z_rw_out, if_pos, if_neg, ↓reduceIte]
          exact w_ret rfl
        · exact w_ref h 10
    · apply zOK_mk2
      · simp (disch := first | omega | (simp (disch := omega) only [z_up_fn, z_up_ni, z_up_eq, z_up_qi, z_rw_fn] <;> omega) | fail) only [ite_self, Int.reduceAdd, e_129_0, e_129_8, e_129_16, e_129_25, e_129_33, e_129_81, e_129_101, e_129_109, e_129_116, e_129_127, e_129_137, e_129_151, e_129_163, e_129_169, e_129_192, e_129_87, e_129_120, e_129_131, e_129_140, e_129_178, e_129_186, e_129_90, e_143_0, e_143_6, e_144_0, e_144_11, e_144_20, e_144_33, e_144_39, e_144_56, e_144_47, e_145_0, e_145_6_0, e_145_6_1, e_145_6_2, e_145_6_3, e_145_12_0, e_145_12_1, e_145_12_2, e_145_12_3, e_145_31_0, e_145_25, e_145_31_1, e_145_31_2, e_145_31_3, e_145_52, e_145_40, e_145_43, e_146_0, e_146_6_0, e_146_6_1, e_146_6_2, e_146_6_3, e_146_12_0, e_146_12_1, e_146_12_2, e_146_12_3, e_146_32_0, e_146_25, e_146_32_1, e_146_32_2, e_146_32_3, e_146_49, e_146_57, e_146_60, e_147_0, e_147_11, e_147_19, e_147_32, e_147_38, e_147_55, e_147_46, s_133, s_234, s_has_8, s_get_8, s_39, e_131_0, e_132_0, w_ix3, w_iy3, hs, e_77_0_3, e_78_0_3, e_78_4_3, e_79_0_3, e_80_0_3, e_81_0_3, e_81_5_3, Option.bind_some, Int.add_zero, z_wid, or_true, true_or, z_up_fn, z_up_ni, z_up_eq, z_up_qi, z_rw_fn, z_rw_in, z_rw_out, if_pos, if_neg, ↓reduceIte]
        exact w_ret rfl
      · intro k hk
        simp (disch := omega) only [z_up_fn, z_rw_fn]
      · intro τ hτ
        simp (disch := first | omega | (simp (disch := omega) only [hτ] <;> omega) | fail) only [e_231_0, e_231_7, e_231_37, e_231_18, e_231_29, e_231_44, e_231_115, e_231_99, e_231_152, e_231_160, e_231_168, e_231_179, e_231_233, e_231_242, e_231_197, e_231_253, e_231_265, e_231_271, e_231_118, e_231_141, e_231_171, e_231_182, e_231_280, e_231_288, e_231_132, e_229_0, e_229_42, e_229_73, e_229_25, e_229_113, e_230_0, e_230_43, e_230_57, e_230_26, e_230_84, e_230_75, s_149, s_228, s_168, e_150_0, e_151_0, Int.reduceMul, Int.reduceAdd, Int.zero_add, ite_self, hs, ite_self, hτ, Option.bind_some, Int.add_zero, z_wid, or_true, true_or, z_up_fn, z_up_ni, z_up_eq, z_up_qi, z_rw_fn, z_rw_in, z_rw_out, if_pos, if_neg, ↓reduceIte]
        exact w_ret rfl
      · exact w_ref h 1
  · apply zOK_mk2
    · simp (disch := first | omega | (simp (disch := omega) only [z_up_fn, z_up_ni, z_up_eq, z_up_qi, z_rw_fn] <;> omega) | fail) only [ite_self, Int.reduceAdd, e_129_0, e_129_8, e_129_16, e_129_25, e_129_33, e_129_81, e_129_101, e_129_109, e_129_116, e_129_127, e_129_137, e_129_151, e_129_163, e_129_169, e_129_192, e_129_87, e_129_120, e_129_131, e_129_140, e_129_178, e_129_186, e_129_90, e_143_0, e_143_6, e_144_0, e_144_11, e_144_20, e_144_33, e_144_39, e_144_56, e_144_47, e_145_0, e_145_6_0, e_145_6_1, e_145_6_2, e_145_6_3, e_145_12_0, e_145_12_1, e_145_12_2, e_145_12_3, e_145_31_0, e_145_25, e_145_31_1, e_145_31_2, e_145_31_3, e_145_52, e_145_40, e_145_43, e_146_0, e_146_6_0, e_146_6_1, e_146_6_2, e_146_6_3, e_146_12_0, e_146_12_1, e_146_12_2, e_146_12_3, e_146_32_0, e_146_25, e_146_32_1, e_146_32_2, e_146_32_3, e_146_49, e_146_57, e_146_60, e_147_0, e_147_11, e_147_19, e_147_32, e_147_38, e_147_55, e_147_46, s_133, s_234, s_has_8, s_get_8, s_39, e_131_0, e_132_0, w_ix3, w_iy3, hs, e_77_0_3, e_78_0_3, e_78_4_3, e_79_0_3, e_80_0_3, e_81_0_3, e_81_5_3, Option.bind_some, Int.add_zero, z_wid, or_true, true_or, z_up_fn, z_up_ni, z_up_eq, z_up_qi, z_rw_fn, z_rw_in, z_rw_out, if_pos, if_neg, ↓reduceIte]
      exact w_ret rfl
    · intro k hk
      simp (disch := omega) only [z_up_fn, z_rw_fn]
    · intro τ hτ
      simp (disch := first | omega | (simp (disch := omega) only [hτ] <;> omega) | fail) only [e_231_0, e_231_7, e_231_37, e_231_18, e_231_29, e_231_44, e_231_115, e_231_99, e_231_152, e_231_160, e_231_168, e_231_179, e_231_233, e_231_242, e_231_197, e_231_253, e_231_265, e_231_271, e_231_118, e_231_141, e_231_171, e_231_182, e_231_280, e_231_288, e_231_132, e_229_0, e_229_42, e_229_73, e_229_25, e_229_113, e_230_0, e_230_43, e_230_57, e_230_26, e_230_84, e_230_75, s_149, s_228, s_168, e_150_0, e_151_0, Int.reduceMul, Int.reduceAdd, Int.zero_add, ite_self, hs, ite_self, hτ, Option.bind_some, Int.add_zero, z_wid, or_true, true_or, z_up_fn, z_up_ni, z_up_eq, z_up_qi, z_rw_fn, z_rw_in, z_rw_out, if_pos, if_neg, ↓reduceIte]
      exact w_ret rfl
    · exact w_ref h 1
theorem o_forge3s3y (d : Nat) (s : Int → Int) (L : Int) (σ : Nat → Int → Int) (h : zV s L σ) (x2 x3 : Int) (hs : x3 % 4 = 3) (hn : 3 < x2 ∧ x2 + 1 ≤ σ 69 2) : zOK s L (d + 9) 129 231 [some (.inl 3), some (.inl x2), some (.inl x3)] [some (.inl 3), some (.inl x2), some (.inl x3), none] σ := by
  have hX := zV_X3 h
  have hX1 := hX.1
  have hX2 := hX.2.1
  have hX3 := hX.2.2.1
  have hX4 := hX.2.2.2.1
  have hX5 := hX.2.2.2.2.1
  have hX6 := hX.2.2.2.2.2.1
  by_cases c1 : -100 ≤ x2 ∧ x2 ≤ 100
  · by_cases c2 : -100 ≤ x3 ∧ x3 ≤ 100
    · by_cases c3 : ¬ σ 69 1 = -1
      · by_cases c4 : σ 69 1 = 0
        · apply zOK_mk2
          · simp (disch := first | omega | (simp (disch := omega) only [z_up_fn, z_up_ni, z_up_eq, z_up_qi, z_rw_fn] <;> omega) | fail) only [ite_self, Int.reduceAdd, e_129_0, e_129_8, e_129_16, e_129_25, e_129_33, e_129_81, e_129_101, e_129_109, e_129_116, e_129_127, e_129_137, e_129_151, e_129_163, e_129_169, e_129_192, e_129_87, e_129_120, e_129_131, e_129_140, e_129_178, e_129_186, e_129_90, e_143_0, e_143_6, e_144_0, e_144_11, e_144_20, e_144_33, e_144_39, e_144_56, e_144_47, e_145_0, e_145_6_0, e_145_6_1, e_145_6_2, e_145_6_3, e_145_12_0, e_145_12_1, e_145_12_2, e_145_12_3, e_145_31_0, e_145_25, e_145_31_1, e_145_31_2, e_145_31_3, e_145_52, e_145_40, e_145_43, e_146_0, e_146_6_0, e_146_6_1, e_146_6_2, e_146_6_3, e_146_12_0, e_146_12_1, e_146_12_2, e_146_12_3, e_146_32_0, e_146_25, e_146_32_1, e_146_32_2, e_146_32_3, e_146_49, e_146_57, e_146_60, e_147_0, e_147_11, e_147_19, e_147_32, e_147_38, e_147_55, e_147_46, s_133, s_234, s_has_8, s_get_8, s_39, e_131_0, e_132_0, w_ix3, w_iy3, hs, e_77_0_3, e_78_0_3, e_78_4_3, e_79_0_3, e_80_0_3, e_81_0_3, e_81_5_3, Option.bind_some, Int.add_zero, z_wid, or_true, true_or, z_up_fn, z_up_ni, z_up_eq, z_up_qi, z_rw_fn, z_rw_in, z_rw_out, if_pos, if_neg, ↓reduceIte]
            exact w_ret rfl
          · intro k hk
            simp (disch := omega) only [z_up_fn, z_rw_fn]
          · intro τ hτ
            simp (disch := first | omega | (simp (disch := omega) only [hτ] <;> omega) | fail) only [e_231_0, e_231_7, e_231_37, e_231_18, e_231_29, e_231_44, e_231_115, e_231_99, e_231_152, e_231_160, e_231_168, e_231_179, e_231_233, e_231_242, e_231_197, e_231_253, e_231_265, e_231_271, e_231_118, e_231_141, e_231_171, e_231_182, e_231_280, e_231_288, e_231_132, e_229_0, e_229_42, e_229_73, e_229_25, e_229_113, e_230_0, e_230_43, e_230_57, e_230_26, e_230_84, e_230_75, s_149, s_228, s_168, e_150_0, e_151_0, Int.reduceMul, Int.reduceAdd, Int.zero_add, ite_self, hs, ite_self, hτ, Option.bind_some, Int.add_zero, z_wid, or_true, true_or, z_up_fn, z_up_ni, z_up_eq, z_up_qi, z_rw_fn, z_rw_in, z_rw_out, if_pos, if_neg, ↓reduceIte]
            exact w_ret (by omega)
          · skip
            exact w_ref h 12
        · apply zOK_mk2
          · simp (disch := first | omega | (simp (disch := omega) only [z_up_fn, z_up_ni, z_up_eq, z_up_qi, z_rw_fn] <;> omega) | fail) only [ite_self, Int.reduceAdd, e_129_0, e_129_8, e_129_16, e_129_25, e_129_33, e_129_81, e_129_101, e_129_109, e_129_116, e_129_127, e_129_137, e_129_151, e_129_163, e_129_169, e_129_192, e_129_87, e_129_120, e_129_131, e_129_140, e_129_178, e_129_186, e_129_90, e_143_0, e_143_6, e_144_0, e_144_11, e_144_20, e_144_33, e_144_39, e_144_56, e_144_47, e_145_0, e_145_6_0, e_145_6_1, e_145_6_2, e_145_6_3, e_145_12_0, e_145_12_1, e_145_12_2, e_145_12_3, e_145_31_0, e_145_25, e_145_31_1, e_145_31_2, e_145_31_3, e_145_52, e_145_40, e_145_43, e_146_0, e_146_6_0, e_146_6_1, e_146_6_2, e_146_6_3, e_146_12_0, e_146_12_1, e_146_12_2, e_146_12_3, e_146_32_0, e_146_25, e_146_32_1, e_146_32_2, e_146_32_3, e_146_49, e_146_57, e_146_60, e_147_0, e_147_11, e_147_19, e_147_32, e_147_38, e_147_55, e_147_46, s_133, s_234, s_has_8, s_get_8, s_39, e_131_0, e_132_0, w_ix3, w_iy3, hs, e_77_0_3, e_78_0_3, e_78_4_3, e_79_0_3, e_80_0_3, e_81_0_3, e_81_5_3, Option.bind_some, Int.add_zero, z_wid, or_true, true_or, z_up_fn, z_up_ni, z_up_eq, z_up_qi, z_rw_fn, z_rw_in, z_rw_out, if_pos, if_neg, ↓reduceIte]
            exact w_ret rfl
          · intro k hk
            simp (disch := omega) only [z_up_fn, z_rw_fn]
          · intro τ hτ
            simp (disch := first | omega | (simp (disch := omega) only [hτ] <;> omega) | fail) only [e_231_0, e_231_7, e_231_37, e_231_18, e_231_29, e_231_44, e_231_115, e_231_99, e_231_152, e_231_160, e_231_168, e_231_179, e_231_233, e_231_242, e_231_197, e_231_253, e_231_265, e_231_271, e_231_118, e_231_141, e_231_171, e_231_182, e_231_280, e_231_288, e_231_132, e_229_0, e_229_42, e_229_73, e_229_25, e_229_113, e_230_0, e_230_43, e_230_57, e_230_26, e_230_84, e_230_75, s_149, s_228, s_168, e_150_0, e_151_0, Int.reduceMul, Int.reduceAdd, Int.zero_add, ite_self, hs, ite_self, hτ, Option.bind_some, Int.add_zero, z_wid, or_true, true_or, z_up_fn, z_up_ni, z_up_eq, z_up_qi, z_rw_fn, z_rw_in, z_rw_out, if_pos, if_neg, ↓reduceIte]
            exact w_ret rfl
          · exact w_ref h 11
      · apply zOK_mk2
        · simp (disch := first | omega | (simp (disch := omega) only [z_up_fn, z_up_ni, z_up_eq, z_up_qi, z_rw_fn] <;> omega) | fail) only [ite_self, Int.reduceAdd, e_129_0, e_129_8, e_129_16, e_129_25, e_129_33, e_129_81, e_129_101, e_129_109, e_129_116, e_129_127, e_129_137, e_129_151, e_129_163, e_129_169, e_129_192, e_129_87, e_129_120, e_129_131, e_129_140, e_129_178, e_129_186, e_129_90, e_143_0, e_143_6, e_144_0, e_144_11, e_144_20, e_144_33, e_144_39, e_144_56, e_144_47, e_145_0, e_145_6_0, e_145_6_1, e_145_6_2, e_145_6_3, e_145_12_0, e_145_12_1, e_145_12_2, e_145_12_3, e_145_31_0, e_145_25, e_145_31_1, e_145_31_2, e_145_31_3, e_145_52, e_145_40, e_145_43, e_146_0, e_146_6_0, e_146_6_1, e_146_6_2, e_146_6_3, e_146_12_0, e_146_12_1, e_146_12_2, e_146_12_3, e_146_32_0, e_146_25, e_146_32_1, e_146_32_2, e_146_32_3, e_146_49, e_146_57, e_146_60, e_147_0, e_147_11, e_147_19, e_147_32, e_147_38, e_147_55, e_147_46, s_133, s_234, s_has_8, s_get_8, s_39, e_131_0, e_132_0, w_ix3, w_iy3, hs, e_77_0_3, e_78_0_3, e_78_4_3, e_79_0_3, e_80_0_3, e_81_0_3, e_81_5_3, Option.bind_some, Int.add_zero, z_wid, or_true, true_or, z_up_fn, z_up_ni, z_up_eq, z_up_qi, z_rw_fn, z_rw_in, z_rw_out, if_pos, if_neg, ↓reduceIte]
          exact w_ret rfl
        · intro k hk
          simp (disch := omega) only [z_up_fn, z_rw_fn]
        · intro τ hτ
          simp (disch := first | omega | (simp (disch := omega) only [hτ] <;> omega) | fail) only [e_231_0, e_231_7, e_231_37, e_231_18, e_231_29, e_231_44, e_231_115, e_231_99, e_231_152, e_231_160, e_231_168, e_231_179, e_231_233, e_231_242, e_231_197, e_231_253, e_231_265, e_231_271, e_231_118, e_231_141, e_231_171, e_231_182, e_231_280, e_231_288, e_231_132, e_229_0, e_229_42, e_229_73, e_229_25, e_229_113, e_230_0, e_230_43, e_230_57, e_230_26, e_230_84, e_230_75, s_149, s_228, s_168, e_150_0, e_151_0, Int.reduceMul, Int.reduceAdd, Int.zero_add, ite_self, hs, ite_self, hτ, Option.bind_some, Int.add_zero, z_wid, or_true, true_or, z_up_fn, z_up_ni, z_up_eq, z_up_qi, z_rw_fn, z_rw_in, z_rw_out, if_pos, if_neg, ↓reduceIte]
          exact w_ret rfl
        · exact w_ref h 10
    · apply zOK_mk2
      · simp (disch := first | omega | (simp (disch := omega) only [z_up_fn, z_up_ni, z_up_eq, z_up_qi, z_rw_fn] <;> omega) | fail) only [ite_self, Int.reduceAdd, e_129_0, e_129_8, e_129_16, e_129_25, e_129_33, e_129_81, e_129_101, e_129_109, e_129_116, e_129_127, e_129_137, e_129_151, e_129_163, e_129_169, e_129_192, e_129_87, e_129_120, e_129_131, e_129_140, e_129_178, e_129_186, e_129_90, e_143_0, e_143_6, e_144_0, e_144_11, e_144_20, e_144_33, e_144_39, e_144_56, e_144_47, e_145_0, e_145_6_0, e_145_6_1, e_145_6_2, e_145_6_3, e_145_12_0, e_145_12_1, e_145_12_2, e_145_12_3, e_145_31_0, e_145_25, e_145_31_1, e_145_31_2, e_145_31_3, e_145_52, e_145_40, e_145_43, e_146_0, e_146_6_0, e_146_6_1, e_146_6_2, e_146_6_3, e_146_12_0, e_146_12_1, e_146_12_2, e_146_12_3, e_146_32_0, e_146_25, e_146_32_1, e_146_32_2, e_146_32_3, e_146_49, e_146_57, e_146_60, e_147_0, e_147_11, e_147_19, e_147_32, e_147_38, e_147_55, e_147_46, s_133, s_234, s_has_8, s_get_8, s_39, e_131_0, e_132_0, w_ix3, w_iy3, hs, e_77_0_3, e_78_0_3, e_78_4_3, e_79_0_3, e_80_0_3, e_81_0_3, e_81_5_3, Option.bind_some, Int.add_zero, z_wid, or_true, true_or, z_up_fn, z_up_ni, z_up_eq, z_up_qi, z_rw_fn, z_rw_in, z_rw_out, if_pos, if_neg, ↓reduceIte]
        exact w_ret rfl
      · intro k hk
        simp (disch := omega) only [z_up_fn, z_rw_fn]
      · intro τ hτ
        simp (disch := first | omega | (simp (disch := omega) only [hτ] <;> omega) | fail) only [e_231_0, e_231_7, e_231_37, e_231_18, e_231_29, e_231_44, e_231_115, e_231_99, e_231_152, e_231_160, e_231_168, e_231_179, e_231_233, e_231_242, e_231_197, e_231_253, e_231_265, e_231_271, e_231_118, e_231_141, e_231_171, e_231_182, e_231_280, e_231_288, e_231_132, e_229_0, e_229_42, e_229_73, e_229_25, e_229_113, e_230_0, e_230_43, e_230_57, e_230_26, e_230_84, e_230_75, s_149, s_228, s_168, e_150_0, e_151_0, Int.reduceMul, Int.reduceAdd, Int.zero_add, ite_self, hs, ite_self, hτ, Option.bind_some, Int.add_zero, z_wid, or_true, true_or, z_up_fn, z_up_ni, z_up_eq, z_up_qi, z_rw_fn, z_rw_in, z_rw_out, if_pos, if_neg, ↓reduceIte]
        exact w_ret rfl
      · exact w_ref h 1
  · apply zOK_mk2
    · simp (disch := first | omega | (simp (disch := omega) only [z_up_fn, z_up_ni, z_up_eq, z_up_qi, z_rw_fn] <;> omega) | fail) only [ite_self, Int.reduceAdd, e_129_0, e_129_8, e_129_16, e_129_25, e_129_33, e_129_81, e_129_101, e_129_109, e_129_116, e_129_127, e_129_137, e_129_151, e_129_163, e_129_169, e_129_192, e_129_87, e_129_120, e_129_131, e_129_140, e_129_178, e_129_186, e_129_90, e_143_0, e_143_6, e_144_0, e_144_11, e_144_20, e_144_33, e_144_39, e_144_56, e_144_47, e_145_0, e_145_6_0, e_145_6_1, e_145_6_2, e_145_6_3, e_145_12_0, e_145_12_1, e_145_12_2, e_145_12_3, e_145_31_0, e_145_25, e_145_31_1, e_145_31_2, e_145_31_3, e_145_52, e_145_40, e_145_43, e_146_0, e_146_6_0, e_146_6_1, e_146_6_2, e_146_6_3, e_146_12_0, e_146_12_1, e_146_12_2, e_146_12_3, e_146_32_0, e_146_25, e_146_32_1, e_146_32_2, e_146_32_3, e_146_49, e_146_57, e_146_60, e_147_0, e_147_11, e_147_19, e_147_32, e_147_38, e_147_55, e_147_46, s_133, s_234, s_has_8, s_get_8, s_39, e_131_0, e_132_0, w_ix3, w_iy3, hs, e_77_0_3, e_78_0_3, e_78_4_3, e_79_0_3, e_80_0_3, e_81_0_3, e_81_5_3, Option.bind_some, Int.add_zero, z_wid, or_true, true_or, z_up_fn, z_up_ni, z_up_eq, z_up_qi, z_rw_fn, z_rw_in, z_rw_out, if_pos, if_neg, ↓reduceIte]
      exact w_ret rfl
    · intro k hk
      simp (disch := omega) only [z_up_fn, z_rw_fn]
    · intro τ hτ
      simp (disch := first | omega | (simp (disch := omega) only [hτ] <;> omega) | fail) only [e_231_0, e_231_7, e_231_37, e_231_18, e_231_29, e_231_44, e_231_115, e_231_99, e_231_152, e_231_160, e_231_168, e_231_179, e_231_233, e_231_242, e_231_197, e_231_253, e_231_265, e_231_271, e_231_118, e_231_141, e_231_171, e_231_182, e_231_280, e_231_288, e_231_132, e_229_0, e_229_42, e_229_73, e_229_25, e_229_113, e_230_0, e_230_43, e_230_57, e_230_26, e_230_84, e_230_75, s_149, s_228, s_168, e_150_0, e_151_0, Int.reduceMul, Int.reduceAdd, Int.zero_add, ite_self, hs, ite_self, hτ, Option.bind_some, Int.add_zero, z_wid, or_true, true_or, z_up_fn, z_up_ni, z_up_eq, z_up_qi, z_rw_fn, z_rw_in, z_rw_out, if_pos, if_neg, ↓reduceIte]
      exact w_ret rfl
    · exact w_ref h 1
theorem o_forge3s3z (d : Nat) (s : Int → Int) (L : Int) (σ : Nat → Int → Int) (h : zV s L σ) (x2 x3 : Int) (hs : x3 % 4 = 3) (hn : 3 < x2 ∧ ¬ x2 + 1 ≤ σ 69 2) : zOK s L (d + 9) 129 231 [some (.inl 3), some (.inl x2), some (.inl x3)] [some (.inl 3), some (.inl x2), some (.inl x3), none] σ := by
  have hX := zV_X3 h
  have hX1 := hX.1
  have hX2 := hX.2.1
  have hX3 := hX.2.2.1
  have hX4 := hX.2.2.2.1
  have hX5 := hX.2.2.2.2.1
  have hX6 := hX.2.2.2.2.2.1
  by_cases c1 : -100 ≤ x2 ∧ x2 ≤ 100
  · by_cases c2 : -100 ≤ x3 ∧ x3 ≤ 100
    · by_cases c3 : ¬ σ 69 1 = -1
      · by_cases c4 : σ 69 1 = 0
        · apply zOK_mk2
          · simp (disch := first | omega | (simp (disch := omega) only [z_up_fn, z_up_ni, z_up_eq, z_up_qi, z_rw_fn] <;> omega) | fail) only [ite_self, Int.reduceAdd, e_129_0, e_129_8, e_129_16, e_129_25, e_129_33, e_129_81, e_129_101, e_129_109, e_129_116, e_129_127, e_129_137, e_129_151, e_129_163, e_129_169, e_129_192, e_129_87, e_129_120, e_129_131, e_129_140, e_129_178, e_129_186, e_129_90, e_143_0, e_143_6, e_144_0, e_144_11, e_144_20, e_144_33, e_144_39, e_144_56, e_144_47, e_145_0, e_145_6_0, e_145_6_1, e_145_6_2, e_145_6_3, e_145_12_0, e_145_12_1, e_145_12_2, e_145_12_3, e_145_31_0, e_145_25, e_145_31_1, e_145_31_2, e_145_31_3, e_145_52, e_145_40, e_145_43, e_146_0, e_146_6_0, e_146_6_1, e_146_6_2, e_146_6_3, e_146_12_0, e_146_12_1, e_146_12_2, e_146_12_3, e_146_32_0, e_146_25, e_146_32_1, e_146_32_2, e_146_32_3, e_146_49, e_146_57, e_146_60, e_147_0, e_147_11, e_147_19, e_147_32, e_147_38, e_147_55, e_147_46, s_133, s_234, s_has_8, s_get_8, s_39, e_131_0, e_132_0, w_ix3, w_iy3, hs, e_77_0_3, e_78_0_3, e_78_4_3, e_79_0_3, e_80_0_3, e_81_0_3, e_81_5_3, Option.bind_some, Int.add_zero, z_wid, or_true, true_or, z_up_fn, z_up_ni, z_up_eq, z_up_qi, z_rw_fn, z_rw_in, z_rw_out, if_pos, if_neg, ↓reduceIte]
            exact w_ret rfl
          · intro k hk
            simp (disch := omega) only [z_up_fn, z_rw_fn]
          · intro τ hτ
            simp (disch := first | omega | (simp (disch := omega) only [hτ] <;> omega) | fail) only [e_231_0, e_231_7, e_231_37, e_231_18, e_231_29, e_231_44, e_231_115, e_231_99, e_231_152, e_231_160, e_231_168, e_231_179, e_231_233, e_231_242, e_231_197, e_231_253, e_231_265, e_231_271, e_231_118, e_231_141, e_231_171, e_231_182, e_231_280, e_231_288, e_231_132, e_229_0, e_229_42, e_229_73, e_229_25, e_229_113, e_230_0, e_230_43, e_230_57, e_230_26, e_230_84, e_230_75, s_149, s_228, s_168, e_150_0, e_151_0, Int.reduceMul, Int.reduceAdd, Int.zero_add, ite_self, hs, ite_self, hτ, Option.bind_some, Int.add_zero, z_wid, or_true, true_or, z_up_fn, z_up_ni, z_up_eq, z_up_qi, z_rw_fn, z_rw_in, z_rw_out, if_pos, if_neg, ↓reduceIte]
            exact w_ret (by omega)
          · skip
            exact w_ref h 12
        · apply zOK_mk2
          · simp (disch := first | omega | (simp (disch := omega) only [z_up_fn, z_up_ni, z_up_eq, z_up_qi, z_rw_fn] <;> omega) | fail) only [ite_self, Int.reduceAdd, e_129_0, e_129_8, e_129_16, e_129_25, e_129_33, e_129_81, e_129_101, e_129_109, e_129_116, e_129_127, e_129_137, e_129_151, e_129_163, e_129_169, e_129_192, e_129_87, e_129_120, e_129_131, e_129_140, e_129_178, e_129_186, e_129_90, e_143_0, e_143_6, e_144_0, e_144_11, e_144_20, e_144_33, e_144_39, e_144_56, e_144_47, e_145_0, e_145_6_0, e_145_6_1, e_145_6_2, e_145_6_3, e_145_12_0, e_145_12_1, e_145_12_2, e_145_12_3, e_145_31_0, e_145_25, e_145_31_1, e_145_31_2, e_145_31_3, e_145_52, e_145_40, e_145_43, e_146_0, e_146_6_0, e_146_6_1, e_146_6_2, e_146_6_3, e_146_12_0, e_146_12_1, e_146_12_2, e_146_12_3, e_146_32_0, e_146_25, e_146_32_1, e_146_32_2, e_146_32_3, e_146_49, e_146_57, e_146_60, e_147_0, e_147_11, e_147_19, e_147_32, e_147_38, e_147_55, e_147_46, s_133, s_234, s_has_8, s_get_8, s_39, e_131_0, e_132_0, w_ix3, w_iy3, hs, e_77_0_3, e_78_0_3, e_78_4_3, e_79_0_3, e_80_0_3, e_81_0_3, e_81_5_3, Option.bind_some, Int.add_zero, z_wid, or_true, true_or, z_up_fn, z_up_ni, z_up_eq, z_up_qi, z_rw_fn, z_rw_in, z_rw_out, if_pos, if_neg, ↓reduceIte]
            exact w_ret rfl
          · intro k hk
            simp (disch := omega) only [z_up_fn, z_rw_fn]
          · intro τ hτ
            simp (disch := first | omega | (simp (disch := omega) only [hτ] <;> omega) | fail) only [e_231_0, e_231_7, e_231_37, e_231_18, e_231_29, e_231_44, e_231_115, e_231_99, e_231_152, e_231_160, e_231_168, e_231_179, e_231_233, e_231_242, e_231_197, e_231_253, e_231_265, e_231_271, e_231_118, e_231_141, e_231_171, e_231_182, e_231_280, e_231_288, e_231_132, e_229_0, e_229_42, e_229_73, e_229_25, e_229_113, e_230_0, e_230_43, e_230_57, e_230_26, e_230_84, e_230_75, s_149, s_228, s_168, e_150_0, e_151_0, Int.reduceMul, Int.reduceAdd, Int.zero_add, ite_self, hs, ite_self, hτ, Option.bind_some, Int.add_zero, z_wid, or_true, true_or, z_up_fn, z_up_ni, z_up_eq, z_up_qi, z_rw_fn, z_rw_in, z_rw_out, if_pos, if_neg, ↓reduceIte]
            exact w_ret rfl
          · exact w_ref h 11
      · apply zOK_mk2
        · simp (disch := first | omega | (simp (disch := omega) only [z_up_fn, z_up_ni, z_up_eq, z_up_qi, z_rw_fn] <;> omega) | fail) only [ite_self, Int.reduceAdd, e_129_0, e_129_8, e_129_16, e_129_25, e_129_33, e_129_81, e_129_101, e_129_109, e_129_116, e_129_127, e_129_137, e_129_151, e_129_163, e_129_169, e_129_192, e_129_87, e_129_120, e_129_131, e_129_140, e_129_178, e_129_186, e_129_90, e_143_0, e_143_6, e_144_0, e_144_11, e_144_20, e_144_33, e_144_39, e_144_56, e_144_47, e_145_0, e_145_6_0, e_145_6_1, e_145_6_2, e_145_6_3, e_145_12_0, e_145_12_1, e_145_12_2, e_145_12_3, e_145_31_0, e_145_25, e_145_31_1, e_145_31_2, e_145_31_3, e_145_52, e_145_40, e_145_43, e_146_0, e_146_6_0, e_146_6_1, e_146_6_2, e_146_6_3, e_146_12_0, e_146_12_1, e_146_12_2, e_146_12_3, e_146_32_0, e_146_25, e_146_32_1, e_146_32_2, e_146_32_3, e_146_49, e_146_57, e_146_60, e_147_0, e_147_11, e_147_19, e_147_32, e_147_38, e_147_55, e_147_46, s_133, s_234, s_has_8, s_get_8, s_39, e_131_0, e_132_0, w_ix3, w_iy3, hs, e_77_0_3, e_78_0_3, e_78_4_3, e_79_0_3, e_80_0_3, e_81_0_3, e_81_5_3, Option.bind_some, Int.add_zero, z_wid, or_true, true_or, z_up_fn, z_up_ni, z_up_eq, z_up_qi, z_rw_fn, z_rw_in, z_rw_out, if_pos, if_neg, ↓reduceIte]
          exact w_ret rfl
        · intro k hk
          simp (disch := omega) only [z_up_fn, z_rw_fn]
        · intro τ hτ
          simp (disch := first | omega | (simp (disch := omega) only [hτ] <;> omega) | fail) only [e_231_0, e_231_7, e_231_37, e_231_18, e_231_29, e_231_44, e_231_115, e_231_99, e_231_152, e_231_160, e_231_168, e_231_179, e_231_233, e_231_242, e_231_197, e_231_253, e_231_265, e_231_271, e_231_118, e_231_141, e_231_171, e_231_182, e_231_280, e_231_288, e_231_132, e_229_0, e_229_42, e_229_73, e_229_25, e_229_113, e_230_0, e_230_43, e_230_57, e_230_26, e_230_84, e_230_75, s_149, s_228, s_168, e_150_0, e_151_0, Int.reduceMul, Int.reduceAdd, Int.zero_add, ite_self, hs, ite_self, hτ, Option.bind_some, Int.add_zero, z_wid, or_true, true_or, z_up_fn, z_up_ni, z_up_eq, z_up_qi, z_rw_fn, z_rw_in, z_rw_out, if_pos, if_neg, ↓reduceIte]
          exact w_ret rfl
        · exact w_ref h 10
    · apply zOK_mk2
      · simp (disch := first | omega | (simp (disch := omega) only [z_up_fn, z_up_ni, z_up_eq, z_up_qi, z_rw_fn] <;> omega) | fail) only [ite_self, Int.reduceAdd, e_129_0, e_129_8, e_129_16, e_129_25, e_129_33, e_129_81, e_129_101, e_129_109, e_129_116, e_129_127, e_129_137, e_129_151, e_129_163, e_129_169, e_129_192, e_129_87, e_129_120, e_129_131, e_129_140, e_129_178, e_129_186, e_129_90, e_143_0, e_143_6, e_144_0, e_144_11, e_144_20, e_144_33, e_144_39, e_144_56, e_144_47, e_145_0, e_145_6_0, e_145_6_1, e_145_6_2, e_145_6_3, e_145_12_0, e_145_12_1, e_145_12_2, e_145_12_3, e_145_31_0, e_145_25, e_145_31_1, e_145_31_2, e_145_31_3, e_145_52, e_145_40, e_145_43, e_146_0, e_146_6_0, e_146_6_1, e_146_6_2, e_146_6_3, e_146_12_0, e_146_12_1, e_146_12_2, e_146_12_3, e_146_32_0, e_146_25, e_146_32_1, e_146_32_2, e_146_32_3, e_146_49, e_146_57, e_146_60, e_147_0, e_147_11, e_147_19, e_147_32, e_147_38, e_147_55, e_147_46, s_133, s_234, s_has_8, s_get_8, s_39, e_131_0, e_132_0, w_ix3, w_iy3, hs, e_77_0_3, e_78_0_3, e_78_4_3, e_79_0_3, e_80_0_3, e_81_0_3, e_81_5_3, Option.bind_some, Int.add_zero, z_wid, or_true, true_or, z_up_fn, z_up_ni, z_up_eq, z_up_qi, z_rw_fn, z_rw_in, z_rw_out, if_pos, if_neg, ↓reduceIte]
        exact w_ret rfl
      · intro k hk
        simp (disch := omega) only [z_up_fn, z_rw_fn]
      · intro τ hτ
        simp (disch := first | omega | (simp (disch := omega) only [hτ] <;> omega) | fail) only [e_231_0, e_231_7, e_231_37, e_231_18, e_231_29, e_231_44, e_231_115, e_231_99, e_231_152, e_231_160, e_231_168, e_231_179, e_231_233, e_231_242, e_231_197, e_231_253, e_231_265, e_231_271, e_231_118, e_231_141, e_231_171, e_231_182, e_231_280, e_231_288, e_231_132, e_229_0, e_229_42, e_229_73, e_229_25, e_229_113, e_230_0, e_230_43, e_230_57, e_230_26, e_230_84, e_230_75, s_149, s_228, s_168, e_150_0, e_151_0, Int.reduceMul, Int.reduceAdd, Int.zero_add, ite_self, hs, ite_self, hτ, Option.bind_some, Int.add_zero, z_wid, or_true, true_or, z_up_fn, z_up_ni, z_up_eq, z_up_qi, z_rw_fn, z_rw_in, z_rw_out, if_pos, if_neg, ↓reduceIte]
        exact w_ret rfl
      · exact w_ref h 1
  · apply zOK_mk2
    · simp (disch := first | omega | (simp (disch := omega) only [z_up_fn, z_up_ni, z_up_eq, z_up_qi, z_rw_fn] <;> omega) | fail) only [ite_self, Int.reduceAdd, e_129_0, e_129_8, e_129_16, e_129_25, e_129_33, e_129_81, e_129_101, e_129_109, e_129_116, e_129_127, e_129_137, e_129_151, e_129_163, e_129_169, e_129_192, e_129_87, e_129_120, e_129_131, e_129_140, e_129_178, e_129_186, e_129_90, e_143_0, e_143_6, e_144_0, e_144_11, e_144_20, e_144_33, e_144_39, e_144_56, e_144_47, e_145_0, e_145_6_0, e_145_6_1, e_145_6_2, e_145_6_3, e_145_12_0, e_145_12_1, e_145_12_2, e_145_12_3, e_145_31_0, e_145_25, e_145_31_1, e_145_31_2, e_145_31_3, e_145_52, e_145_40, e_145_43, e_146_0, e_146_6_0, e_146_6_1, e_146_6_2, e_146_6_3, e_146_12_0, e_146_12_1, e_146_12_2, e_146_12_3, e_146_32_0, e_146_25, e_146_32_1, e_146_32_2, e_146_32_3, e_146_49, e_146_57, e_146_60, e_147_0, e_147_11, e_147_19, e_147_32, e_147_38, e_147_55, e_147_46, s_133, s_234, s_has_8, s_get_8, s_39, e_131_0, e_132_0, w_ix3, w_iy3, hs, e_77_0_3, e_78_0_3, e_78_4_3, e_79_0_3, e_80_0_3, e_81_0_3, e_81_5_3, Option.bind_some, Int.add_zero, z_wid, or_true, true_or, z_up_fn, z_up_ni, z_up_eq, z_up_qi, z_rw_fn, z_rw_in, z_rw_out, if_pos, if_neg, ↓reduceIte]
      exact w_ret rfl
    · intro k hk
      simp (disch := omega) only [z_up_fn, z_rw_fn]
    · intro τ hτ
      simp (disch := first | omega | (simp (disch := omega) only [hτ] <;> omega) | fail) only [e_231_0, e_231_7, e_231_37, e_231_18, e_231_29, e_231_44, e_231_115, e_231_99, e_231_152, e_231_160, e_231_168, e_231_179, e_231_233, e_231_242, e_231_197, e_231_253, e_231_265, e_231_271, e_231_118, e_231_141, e_231_171, e_231_182, e_231_280, e_231_288, e_231_132, e_229_0, e_229_42, e_229_73, e_229_25, e_229_113, e_230_0, e_230_43, e_230_57, e_230_26, e_230_84, e_230_75, s_149, s_228, s_168, e_150_0, e_151_0, Int.reduceMul, Int.reduceAdd, Int.zero_add, ite_self, hs, ite_self, hτ, Option.bind_some, Int.add_zero, z_wid, or_true, true_or, z_up_fn, z_up_ni, z_up_eq, z_up_qi, z_rw_fn, z_rw_in, z_rw_out, if_pos, if_neg, ↓reduceIte]
      exact w_ret rfl
    · exact w_ref h 1
theorem o_forge4a (d : Nat) (s : Int → Int) (L : Int) (σ : Nat → Int → Int) (h : zV s L σ) (x2 x3 : Int) (hn : x3 % 20 < σ 8 3) : zOK s L (d + 9) 129 231 [some (.inl 4), some (.inl x2), some (.inl x3)] [some (.inl 4), some (.inl x2), some (.inl x3), none] σ := by
  have hwS := zV_wS h
  have hS := (zV_S h).1
  have hS1 := (zV_S h).2.1
  have hS2 := (zV_S h).2.2.1
  have m0 : 0 ≤ x3 % 20 ∧ x3 % 20 < 20 := by omega
  have m1 : 0 ≤ x2 % 6 ∧ x2 % 6 < 6 := by omega
  have k1 : x3 % 20 < σ 8 3 → σ 9 (7 * (x3 % 20) + 1) = σ 81 (x3 % 20) := fun p => ((zV_S h).2.2.2 (x3 % 20) m0.1 (by omega)).2.1
  have k2 : x3 % 20 < σ 8 3 → 0 ≤ σ 81 (x3 % 20) ∧ σ 81 (x3 % 20) ≤ 5 := by
    intro p
    have q := (zV_S h).2.2.2 (x3 % 20) m0.1 (by omega)
    omega
  have k3 := k2 hn
  by_cases c1 : -100 ≤ x2 ∧ x2 ≤ 100
  · by_cases c2 : -100 ≤ x3 ∧ x3 ≤ 100
    · by_cases c3 : σ 81 (x3 % 20) = 3 ∨ σ 81 (x3 % 20) = 4
      · apply zOK_mk2
        · simp (disch := first | omega | (simp (disch := omega) only [z_up_fn, z_up_ni, z_up_eq, z_up_qi, z_rw_fn] <;> omega) | fail) only [ite_self, Int.reduceAdd, e_129_0, e_129_8, e_129_16, e_129_25, e_129_33, e_129_81, e_129_101, e_129_109, e_129_116, e_129_127, e_129_137, e_129_151, e_129_163, e_129_169, e_129_192, e_129_87, e_129_120, e_129_131, e_129_140, e_129_178, e_129_186, e_129_90, e_143_0, e_143_6, e_144_0, e_144_11, e_144_20, e_144_33, e_144_39, e_144_56, e_144_47, e_145_0, e_145_6_0, e_145_6_1, e_145_6_2, e_145_6_3, e_145_12_0, e_145_12_1, e_145_12_2, e_145_12_3, e_145_31_0, e_145_25, e_145_31_1, e_145_31_2, e_145_31_3, e_145_52, e_145_40, e_145_43, e_146_0, e_146_6_0, e_146_6_1, e_146_6_2, e_146_6_3, e_146_12_0, e_146_12_1, e_146_12_2, e_146_12_3, e_146_32_0, e_146_25, e_146_32_1, e_146_32_2, e_146_32_3, e_146_49, e_146_57, e_146_60, e_147_0, e_147_11, e_147_19, e_147_32, e_147_38, e_147_55, e_147_46, s_133, s_234, s_has_8, s_get_8, s_39, e_131_0, e_132_0, k1, w_of3a, w_of3b, Option.bind_some, Int.add_zero, z_wid, or_true, true_or, z_up_fn, z_up_ni, z_up_eq, z_up_qi, z_rw_fn, z_rw_in, z_rw_out, if_pos, if_neg, ↓reduceIte]
          exact w_ret rfl
        · intro k hk
          simp (disch := omega) only [z_up_fn, z_rw_fn]
        · intro τ hτ
          simp (disch := first | omega | (simp (disch := omega) only [hτ] <;> omega) | fail) only [e_231_0, e_231_7, e_231_37, e_231_18, e_231_29, e_231_44, e_231_115, e_231_99, e_231_152, e_231_160, e_231_168, e_231_179, e_231_233, e_231_242, e_231_197, e_231_253, e_231_265, e_231_271, e_231_118, e_231_141, e_231_171, e_231_182, e_231_280, e_231_288, e_231_132, e_229_0, e_229_42, e_229_73, e_229_25, e_229_113, e_230_0, e_230_43, e_230_57, e_230_26, e_230_84, e_230_75, s_149, s_228, s_168, e_150_0, e_151_0, Int.reduceMul, Int.reduceAdd, Int.zero_add, ite_self, hτ, Option.bind_some, Int.add_zero, z_wid, or_true, true_or, z_up_fn, z_up_ni, z_up_eq, z_up_qi, z_rw_fn, z_rw_in, z_rw_out, if_pos, if_neg, ↓reduceIte]
          exact w_ret (by omega)
        · skip
          exact w_ref h 0
      · apply zOK_mk2
        · simp (disch := first | omega | (simp (disch := omega) only [z_up_fn, z_up_ni, z_up_eq, z_up_qi, z_rw_fn] <;> omega) | fail) only [ite_self, Int.reduceAdd, e_129_0, e_129_8, e_129_16, e_129_25, e_129_33, e_129_81, e_129_101, e_129_109, e_129_116, e_129_127, e_129_137, e_129_151, e_129_163, e_129_169, e_129_192, e_129_87, e_129_120, e_129_131, e_129_140, e_129_178, e_129_186, e_129_90, e_143_0, e_143_6, e_144_0, e_144_11, e_144_20, e_144_33, e_144_39, e_144_56, e_144_47, e_145_0, e_145_6_0, e_145_6_1, e_145_6_2, e_145_6_3, e_145_12_0, e_145_12_1, e_145_12_2, e_145_12_3, e_145_31_0, e_145_25, e_145_31_1, e_145_31_2, e_145_31_3, e_145_52, e_145_40, e_145_43, e_146_0, e_146_6_0, e_146_6_1, e_146_6_2, e_146_6_3, e_146_12_0, e_146_12_1, e_146_12_2, e_146_12_3, e_146_32_0, e_146_25, e_146_32_1, e_146_32_2, e_146_32_3, e_146_49, e_146_57, e_146_60, e_147_0, e_147_11, e_147_19, e_147_32, e_147_38, e_147_55, e_147_46, s_133, s_234, s_has_8, s_get_8, s_39, e_131_0, e_132_0, k1, w_of3a, w_of3b, Option.bind_some, Int.add_zero, z_wid, or_true, true_or, z_up_fn, z_up_ni, z_up_eq, z_up_qi, z_rw_fn, z_rw_in, z_rw_out, if_pos, if_neg, ↓reduceIte]
          exact w_ret rfl
        · intro k hk
          simp (disch := omega) only [z_up_fn, z_rw_fn]
        · intro τ hτ
          simp (disch := first | omega | (simp (disch := omega) only [hτ] <;> omega) | fail) only [e_231_0, e_231_7, e_231_37, e_231_18, e_231_29, e_231_44, e_231_115, e_231_99, e_231_152, e_231_160, e_231_168, e_231_179, e_231_233, e_231_242, e_231_197, e_231_253, e_231_265, e_231_271, e_231_118, e_231_141, e_231_171, e_231_182, e_231_280, e_231_288, e_231_132, e_229_0, e_229_42, e_229_73, e_229_25, e_229_113, e_230_0, e_230_43, e_230_57, e_230_26, e_230_84, e_230_75, s_149, s_228, s_168, e_150_0, e_151_0, Int.reduceMul, Int.reduceAdd, Int.zero_add, ite_self, hτ, Option.bind_some, Int.add_zero, z_wid, or_true, true_or, z_up_fn, z_up_ni, z_up_eq, z_up_qi, z_rw_fn, z_rw_in, z_rw_out, if_pos, if_neg, ↓reduceIte]
          exact w_ret rfl
        · exact w_ref h 14
    · apply zOK_mk2
      · simp (disch := first | omega | (simp (disch := omega) only [z_up_fn, z_up_ni, z_up_eq, z_up_qi, z_rw_fn] <;> omega) | fail) only [ite_self, Int.reduceAdd, e_129_0, e_129_8, e_129_16, e_129_25, e_129_33, e_129_81, e_129_101, e_129_109, e_129_116, e_129_127, e_129_137, e_129_151, e_129_163, e_129_169, e_129_192, e_129_87, e_129_120, e_129_131, e_129_140, e_129_178, e_129_186, e_129_90, e_143_0, e_143_6, e_144_0, e_144_11, e_144_20, e_144_33, e_144_39, e_144_56, e_144_47, e_145_0, e_145_6_0, e_145_6_1, e_145_6_2, e_145_6_3, e_145_12_0, e_145_12_1, e_145_12_2, e_145_12_3, e_145_31_0, e_145_25, e_145_31_1, e_145_31_2, e_145_31_3, e_145_52, e_145_40, e_145_43, e_146_0, e_146_6_0, e_146_6_1, e_146_6_2, e_146_6_3, e_146_12_0, e_146_12_1, e_146_12_2, e_146_12_3, e_146_32_0, e_146_25, e_146_32_1, e_146_32_2, e_146_32_3, e_146_49, e_146_57, e_146_60, e_147_0, e_147_11, e_147_19, e_147_32, e_147_38, e_147_55, e_147_46, s_133, s_234, s_has_8, s_get_8, s_39, e_131_0, e_132_0, k1, w_of3a, w_of3b, Option.bind_some, Int.add_zero, z_wid, or_true, true_or, z_up_fn, z_up_ni, z_up_eq, z_up_qi, z_rw_fn, z_rw_in, z_rw_out, if_pos, if_neg, ↓reduceIte]
        exact w_ret rfl
      · intro k hk
        simp (disch := omega) only [z_up_fn, z_rw_fn]
      · intro τ hτ
        simp (disch := first | omega | (simp (disch := omega) only [hτ] <;> omega) | fail) only [e_231_0, e_231_7, e_231_37, e_231_18, e_231_29, e_231_44, e_231_115, e_231_99, e_231_152, e_231_160, e_231_168, e_231_179, e_231_233, e_231_242, e_231_197, e_231_253, e_231_265, e_231_271, e_231_118, e_231_141, e_231_171, e_231_182, e_231_280, e_231_288, e_231_132, e_229_0, e_229_42, e_229_73, e_229_25, e_229_113, e_230_0, e_230_43, e_230_57, e_230_26, e_230_84, e_230_75, s_149, s_228, s_168, e_150_0, e_151_0, Int.reduceMul, Int.reduceAdd, Int.zero_add, ite_self, hτ, Option.bind_some, Int.add_zero, z_wid, or_true, true_or, z_up_fn, z_up_ni, z_up_eq, z_up_qi, z_rw_fn, z_rw_in, z_rw_out, if_pos, if_neg, ↓reduceIte]
        exact w_ret rfl
      · exact w_ref h 1
  · apply zOK_mk2
    · simp (disch := first | omega | (simp (disch := omega) only [z_up_fn, z_up_ni, z_up_eq, z_up_qi, z_rw_fn] <;> omega) | fail) only [ite_self, Int.reduceAdd, e_129_0, e_129_8, e_129_16, e_129_25, e_129_33, e_129_81, e_129_101, e_129_109, e_129_116, e_129_127, e_129_137, e_129_151, e_129_163, e_129_169, e_129_192, e_129_87, e_129_120, e_129_131, e_129_140, e_129_178, e_129_186, e_129_90, e_143_0, e_143_6, e_144_0, e_144_11, e_144_20, e_144_33, e_144_39, e_144_56, e_144_47, e_145_0, e_145_6_0, e_145_6_1, e_145_6_2, e_145_6_3, e_145_12_0, e_145_12_1, e_145_12_2, e_145_12_3, e_145_31_0, e_145_25, e_145_31_1, e_145_31_2, e_145_31_3, e_145_52, e_145_40, e_145_43, e_146_0, e_146_6_0, e_146_6_1, e_146_6_2, e_146_6_3, e_146_12_0, e_146_12_1, e_146_12_2, e_146_12_3, e_146_32_0, e_146_25, e_146_32_1, e_146_32_2, e_146_32_3, e_146_49, e_146_57, e_146_60, e_147_0, e_147_11, e_147_19, e_147_32, e_147_38, e_147_55, e_147_46, s_133, s_234, s_has_8, s_get_8, s_39, e_131_0, e_132_0, k1, w_of3a, w_of3b, Option.bind_some, Int.add_zero, z_wid, or_true, true_or, z_up_fn, z_up_ni, z_up_eq, z_up_qi, z_rw_fn, z_rw_in, z_rw_out, if_pos, if_neg, ↓reduceIte]
      exact w_ret rfl
    · intro k hk
      simp (disch := omega) only [z_up_fn, z_rw_fn]
    · intro τ hτ
      simp (disch := first | omega | (simp (disch := omega) only [hτ] <;> omega) | fail) only [e_231_0, e_231_7, e_231_37, e_231_18, e_231_29, e_231_44, e_231_115, e_231_99, e_231_152, e_231_160, e_231_168, e_231_179, e_231_233, e_231_242, e_231_197, e_231_253, e_231_265, e_231_271, e_231_118, e_231_141, e_231_171, e_231_182, e_231_280, e_231_288, e_231_132, e_229_0, e_229_42, e_229_73, e_229_25, e_229_113, e_230_0, e_230_43, e_230_57, e_230_26, e_230_84, e_230_75, s_149, s_228, s_168, e_150_0, e_151_0, Int.reduceMul, Int.reduceAdd, Int.zero_add, ite_self, hτ, Option.bind_some, Int.add_zero, z_wid, or_true, true_or, z_up_fn, z_up_ni, z_up_eq, z_up_qi, z_rw_fn, z_rw_in, z_rw_out, if_pos, if_neg, ↓reduceIte]
      exact w_ret rfl
    · exact w_ref h 1
theorem o_forge4b (d : Nat) (s : Int → Int) (L : Int) (σ : Nat → Int → Int) (h : zV s L σ) (x2 x3 : Int) (hn : ¬ x3 % 20 < σ 8 3) : zOK s L (d + 9) 129 231 [some (.inl 4), some (.inl x2), some (.inl x3)] [some (.inl 4), some (.inl x2), some (.inl x3), none] σ := by
  have hwS := zV_wS h
  have hS := (zV_S h).1
  have hS1 := (zV_S h).2.1
  have hS2 := (zV_S h).2.2.1
  have m0 : 0 ≤ x3 % 20 ∧ x3 % 20 < 20 := by omega
  have m1 : 0 ≤ x2 % 6 ∧ x2 % 6 < 6 := by omega
  have k1 : x3 % 20 < σ 8 3 → σ 9 (7 * (x3 % 20) + 1) = σ 81 (x3 % 20) := fun p => ((zV_S h).2.2.2 (x3 % 20) m0.1 (by omega)).2.1
  have k2 : x3 % 20 < σ 8 3 → 0 ≤ σ 81 (x3 % 20) ∧ σ 81 (x3 % 20) ≤ 5 := by
    intro p
    have q := (zV_S h).2.2.2 (x3 % 20) m0.1 (by omega)
    omega
  by_cases c1 : -100 ≤ x2 ∧ x2 ≤ 100
  · by_cases c2 : -100 ≤ x3 ∧ x3 ≤ 100
    · apply zOK_mk2
      · simp (disch := first | omega | (simp (disch := omega) only [z_up_fn, z_up_ni, z_up_eq, z_up_qi, z_rw_fn] <;> omega) | fail) only [ite_self, Int.reduceAdd, e_129_0, e_129_8, e_129_16, e_129_25, e_129_33, e_129_81, e_129_101, e_129_109, e_129_116, e_129_127, e_129_137, e_129_151, e_129_163, e_129_169, e_129_192, e_129_87, e_129_120, e_129_131, e_129_140, e_129_178, e_129_186, e_129_90, e_143_0, e_143_6, e_144_0, e_144_11, e_144_20, e_144_33, e_144_39, e_144_56, e_144_47, e_145_0, e_145_6_0, e_145_6_1, e_145_6_2, e_145_6_3, e_145_12_0, e_145_12_1, e_145_12_2, e_145_12_3, e_145_31_0, e_145_25, e_145_31_1, e_145_31_2, e_145_31_3, e_145_52, e_145_40, e_145_43, e_146_0, e_146_6_0, e_146_6_1, e_146_6_2, e_146_6_3, e_146_12_0, e_146_12_1, e_146_12_2, e_146_12_3, e_146_32_0, e_146_25, e_146_32_1, e_146_32_2, e_146_32_3, e_146_49, e_146_57, e_146_60, e_147_0, e_147_11, e_147_19, e_147_32, e_147_38, e_147_55, e_147_46, s_133, s_234, s_has_8, s_get_8, s_39, e_131_0, e_132_0, k1, Option.bind_some, Int.add_zero, z_wid, or_true, true_or, z_up_fn, z_up_ni, z_up_eq, z_up_qi, z_rw_fn, z_rw_in, z_rw_out, if_pos, if_neg, ↓reduceIte]
        exact w_ret rfl
      · intro k hk
        simp (disch := omega) only [z_up_fn, z_rw_fn]
      · intro τ hτ
        simp (disch := first | omega | (simp (disch := omega) only [hτ] <;> omega) | fail) only [e_231_0, e_231_7, e_231_37, e_231_18, e_231_29, e_231_44, e_231_115, e_231_99, e_231_152, e_231_160, e_231_168, e_231_179, e_231_233, e_231_242, e_231_197, e_231_253, e_231_265, e_231_271, e_231_118, e_231_141, e_231_171, e_231_182, e_231_280, e_231_288, e_231_132, e_229_0, e_229_42, e_229_73, e_229_25, e_229_113, e_230_0, e_230_43, e_230_57, e_230_26, e_230_84, e_230_75, s_149, s_228, s_168, e_150_0, e_151_0, Int.reduceMul, Int.reduceAdd, Int.zero_add, ite_self, hτ, Option.bind_some, Int.add_zero, z_wid, or_true, true_or, z_up_fn, z_up_ni, z_up_eq, z_up_qi, z_rw_fn, z_rw_in, z_rw_out, if_pos, if_neg, ↓reduceIte]
        exact w_ret (by omega)
      · skip
        exact w_ref h 0
    · apply zOK_mk2
      · simp (disch := first | omega | (simp (disch := omega) only [z_up_fn, z_up_ni, z_up_eq, z_up_qi, z_rw_fn] <;> omega) | fail) only [ite_self, Int.reduceAdd, e_129_0, e_129_8, e_129_16, e_129_25, e_129_33, e_129_81, e_129_101, e_129_109, e_129_116, e_129_127, e_129_137, e_129_151, e_129_163, e_129_169, e_129_192, e_129_87, e_129_120, e_129_131, e_129_140, e_129_178, e_129_186, e_129_90, e_143_0, e_143_6, e_144_0, e_144_11, e_144_20, e_144_33, e_144_39, e_144_56, e_144_47, e_145_0, e_145_6_0, e_145_6_1, e_145_6_2, e_145_6_3, e_145_12_0, e_145_12_1, e_145_12_2, e_145_12_3, e_145_31_0, e_145_25, e_145_31_1, e_145_31_2, e_145_31_3, e_145_52, e_145_40, e_145_43, e_146_0, e_146_6_0, e_146_6_1, e_146_6_2, e_146_6_3, e_146_12_0, e_146_12_1, e_146_12_2, e_146_12_3, e_146_32_0, e_146_25, e_146_32_1, e_146_32_2, e_146_32_3, e_146_49, e_146_57, e_146_60, e_147_0, e_147_11, e_147_19, e_147_32, e_147_38, e_147_55, e_147_46, s_133, s_234, s_has_8, s_get_8, s_39, e_131_0, e_132_0, k1, Option.bind_some, Int.add_zero, z_wid, or_true, true_or, z_up_fn, z_up_ni, z_up_eq, z_up_qi, z_rw_fn, z_rw_in, z_rw_out, if_pos, if_neg, ↓reduceIte]
        exact w_ret rfl
      · intro k hk
        simp (disch := omega) only [z_up_fn, z_rw_fn]
      · intro τ hτ
        simp (disch := first | omega | (simp (disch := omega) only [hτ] <;> omega) | fail) only [e_231_0, e_231_7, e_231_37, e_231_18, e_231_29, e_231_44, e_231_115, e_231_99, e_231_152, e_231_160, e_231_168, e_231_179, e_231_233, e_231_242, e_231_197, e_231_253, e_231_265, e_231_271, e_231_118, e_231_141, e_231_171, e_231_182, e_231_280, e_231_288, e_231_132, e_229_0, e_229_42, e_229_73, e_229_25, e_229_113, e_230_0, e_230_43, e_230_57, e_230_26, e_230_84, e_230_75, s_149, s_228, s_168, e_150_0, e_151_0, Int.reduceMul, Int.reduceAdd, Int.zero_add, ite_self, hτ, Option.bind_some, Int.add_zero, z_wid, or_true, true_or, z_up_fn, z_up_ni, z_up_eq, z_up_qi, z_rw_fn, z_rw_in, z_rw_out, if_pos, if_neg, ↓reduceIte]
        exact w_ret rfl
      · exact w_ref h 1
  · apply zOK_mk2
    · simp (disch := first | omega | (simp (disch := omega) only [z_up_fn, z_up_ni, z_up_eq, z_up_qi, z_rw_fn] <;> omega) | fail) only [ite_self, Int.reduceAdd, e_129_0, e_129_8, e_129_16, e_129_25, e_129_33, e_129_81, e_129_101, e_129_109, e_129_116, e_129_127, e_129_137, e_129_151, e_129_163, e_129_169, e_129_192, e_129_87, e_129_120, e_129_131, e_129_140, e_129_178, e_129_186, e_129_90, e_143_0, e_143_6, e_144_0, e_144_11, e_144_20, e_144_33, e_144_39, e_144_56, e_144_47, e_145_0, e_145_6_0, e_145_6_1, e_145_6_2, e_145_6_3, e_145_12_0, e_145_12_1, e_145_12_2, e_145_12_3, e_145_31_0, e_145_25, e_145_31_1, e_145_31_2, e_145_31_3, e_145_52, e_145_40, e_145_43, e_146_0, e_146_6_0, e_146_6_1, e_146_6_2, e_146_6_3, e_146_12_0, e_146_12_1, e_146_12_2, e_146_12_3, e_146_32_0, e_146_25, e_146_32_1, e_146_32_2, e_146_32_3, e_146_49, e_146_57, e_146_60, e_147_0, e_147_11, e_147_19, e_147_32, e_147_38, e_147_55, e_147_46, s_133, s_234, s_has_8, s_get_8, s_39, e_131_0, e_132_0, k1, Option.bind_some, Int.add_zero, z_wid, or_true, true_or, z_up_fn, z_up_ni, z_up_eq, z_up_qi, z_rw_fn, z_rw_in, z_rw_out, if_pos, if_neg, ↓reduceIte]
      exact w_ret rfl
    · intro k hk
      simp (disch := omega) only [z_up_fn, z_rw_fn]
    · intro τ hτ
      simp (disch := first | omega | (simp (disch := omega) only [hτ] <;> omega) | fail) only [e_231_0, e_231_7, e_231_37, e_231_18, e_231_29, e_231_44, e_231_115, e_231_99, e_231_152, e_231_160, e_231_168, e_231_179, e_231_233, e_231_242, e_231_197, e_231_253, e_231_265, e_231_271, e_231_118, e_231_141, e_231_171, e_231_182, e_231_280, e_231_288, e_231_132, e_229_0, e_229_42, e_229_73, e_229_25, e_229_113, e_230_0, e_230_43, e_230_57, e_230_26, e_230_84, e_230_75, s_149, s_228, s_168, e_150_0, e_151_0, Int.reduceMul, Int.reduceAdd, Int.zero_add, ite_self, hτ, Option.bind_some, Int.add_zero, z_wid, or_true, true_or, z_up_fn, z_up_ni, z_up_eq, z_up_qi, z_rw_fn, z_rw_in, z_rw_out, if_pos, if_neg, ↓reduceIte]
      exact w_ret rfl
    · exact w_ref h 1
theorem o_forge5 (d : Nat) (s : Int → Int) (L : Int) (σ : Nat → Int → Int) (h : zV s L σ) (x2 x3 : Int) : zOK s L (d + 9) 129 231 [some (.inl 5), some (.inl x2), some (.inl x3)] [some (.inl 5), some (.inl x2), some (.inl x3), none] σ := by
  by_cases c1 : -100 ≤ x2 ∧ x2 ≤ 100
  · by_cases c2 : -100 ≤ x3 ∧ x3 ≤ 100
    · by_cases c3 : ¬ x2 = 0
      · apply zOK_mk2
        · simp (disch := first | omega | (simp (disch := omega) only [z_up_fn, z_up_ni, z_up_eq, z_up_qi, z_rw_fn] <;> omega) | fail) only [ite_self, Int.reduceAdd, e_129_0, e_129_8, e_129_16, e_129_25, e_129_33, e_129_81, e_129_101, e_129_109, e_129_116, e_129_127, e_129_137, e_129_151, e_129_163, e_129_169, e_129_192, e_129_87, e_129_120, e_129_131, e_129_140, e_129_178, e_129_186, e_129_90, e_143_0, e_143_6, e_144_0, e_144_11, e_144_20, e_144_33, e_144_39, e_144_56, e_144_47, e_145_0, e_145_6_0, e_145_6_1, e_145_6_2, e_145_6_3, e_145_12_0, e_145_12_1, e_145_12_2, e_145_12_3, e_145_31_0, e_145_25, e_145_31_1, e_145_31_2, e_145_31_3, e_145_52, e_145_40, e_145_43, e_146_0, e_146_6_0, e_146_6_1, e_146_6_2, e_146_6_3, e_146_12_0, e_146_12_1, e_146_12_2, e_146_12_3, e_146_32_0, e_146_25, e_146_32_1, e_146_32_2, e_146_32_3, e_146_49, e_146_57, e_146_60, e_147_0, e_147_11, e_147_19, e_147_32, e_147_38, e_147_55, e_147_46, s_133, s_234, s_has_8, s_get_8, s_39, e_131_0, e_132_0, Option.bind_some, Int.add_zero, z_wid, or_true, true_or, z_up_fn, z_up_ni, z_up_eq, z_up_qi, z_rw_fn, z_rw_in, z_rw_out, if_pos, if_neg, ↓reduceIte]
          exact w_ret rfl
        · intro k hk
          simp (disch := omega) only [z_up_fn, z_rw_fn]
        · intro τ hτ
          simp (disch := first | omega | (simp (disch := omega) only [hτ] <;> omega) | fail) only [e_231_0, e_231_7, e_231_37, e_231_18, e_231_29, e_231_44, e_231_115, e_231_99, e_231_152, e_231_160, e_231_168, e_231_179, e_231_233, e_231_242, e_231_197, e_231_253, e_231_265, e_231_271, e_231_118, e_231_141, e_231_171, e_231_182, e_231_280, e_231_288, e_231_132, e_229_0, e_229_42, e_229_73, e_229_25, e_229_113, e_230_0, e_230_43, e_230_57, e_230_26, e_230_84, e_230_75, s_149, s_228, s_168, e_150_0, e_151_0, Int.reduceMul, Int.reduceAdd, Int.zero_add, ite_self, hτ, Option.bind_some, Int.add_zero, z_wid, or_true, true_or, z_up_fn, z_up_ni, z_up_eq, z_up_qi, z_rw_fn, z_rw_in, z_rw_out, if_pos, if_neg, ↓reduceIte]
          exact w_ret rfl
        · skip
          exact w_ref h 0
      · apply zOK_mk2
        · simp (disch := first | omega | (simp (disch := omega) only [z_up_fn, z_up_ni, z_up_eq, z_up_qi, z_rw_fn] <;> omega) | fail) only [ite_self, Int.reduceAdd, e_129_0, e_129_8, e_129_16, e_129_25, e_129_33, e_129_81, e_129_101, e_129_109, e_129_116, e_129_127, e_129_137, e_129_151, e_129_163, e_129_169, e_129_192, e_129_87, e_129_120, e_129_131, e_129_140, e_129_178, e_129_186, e_129_90, e_143_0, e_143_6, e_144_0, e_144_11, e_144_20, e_144_33, e_144_39, e_144_56, e_144_47, e_145_0, e_145_6_0, e_145_6_1, e_145_6_2, e_145_6_3, e_145_12_0, e_145_12_1, e_145_12_2, e_145_12_3, e_145_31_0, e_145_25, e_145_31_1, e_145_31_2, e_145_31_3, e_145_52, e_145_40, e_145_43, e_146_0, e_146_6_0, e_146_6_1, e_146_6_2, e_146_6_3, e_146_12_0, e_146_12_1, e_146_12_2, e_146_12_3, e_146_32_0, e_146_25, e_146_32_1, e_146_32_2, e_146_32_3, e_146_49, e_146_57, e_146_60, e_147_0, e_147_11, e_147_19, e_147_32, e_147_38, e_147_55, e_147_46, s_133, s_234, s_has_8, s_get_8, s_39, e_131_0, e_132_0, Option.bind_some, Int.add_zero, z_wid, or_true, true_or, z_up_fn, z_up_ni, z_up_eq, z_up_qi, z_rw_fn, z_rw_in, z_rw_out, if_pos, if_neg, ↓reduceIte]
          exact w_ret rfl
        · intro k hk
          simp (disch := omega) only [z_up_fn, z_rw_fn]
        · intro τ hτ
          simp (disch := first | omega | (simp (disch := omega) only [hτ] <;> omega) | fail) only [e_231_0, e_231_7, e_231_37, e_231_18, e_231_29, e_231_44, e_231_115, e_231_99, e_231_152, e_231_160, e_231_168, e_231_179, e_231_233, e_231_242, e_231_197, e_231_253, e_231_265, e_231_271, e_231_118, e_231_141, e_231_171, e_231_182, e_231_280, e_231_288, e_231_132, e_229_0, e_229_42, e_229_73, e_229_25, e_229_113, e_230_0, e_230_43, e_230_57, e_230_26, e_230_84, e_230_75, s_149, s_228, s_168, e_150_0, e_151_0, Int.reduceMul, Int.reduceAdd, Int.zero_add, ite_self, hτ, Option.bind_some, Int.add_zero, z_wid, or_true, true_or, z_up_fn, z_up_ni, z_up_eq, z_up_qi, z_rw_fn, z_rw_in, z_rw_out, if_pos, if_neg, ↓reduceIte]
          exact w_ret rfl
        · exact w_ref h 15
    · apply zOK_mk2
      · simp (disch := first | omega | (simp (disch := omega) only [z_up_fn, z_up_ni, z_up_eq, z_up_qi, z_rw_fn] <;> omega) | fail) only [ite_self, Int.reduceAdd, e_129_0, e_129_8, e_129_16, e_129_25, e_129_33, e_129_81, e_129_101, e_129_109, e_129_116, e_129_127, e_129_137, e_129_151, e_129_163, e_129_169, e_129_192, e_129_87, e_129_120, e_129_131, e_129_140, e_129_178, e_129_186, e_129_90, e_143_0, e_143_6, e_144_0, e_144_11, e_144_20, e_144_33, e_144_39, e_144_56, e_144_47, e_145_0, e_145_6_0, e_145_6_1, e_145_6_2, e_145_6_3, e_145_12_0, e_145_12_1, e_145_12_2, e_145_12_3, e_145_31_0, e_145_25, e_145_31_1, e_145_31_2, e_145_31_3, e_145_52, e_145_40, e_145_43, e_146_0, e_146_6_0, e_146_6_1, e_146_6_2, e_146_6_3, e_146_12_0, e_146_12_1, e_146_12_2, e_146_12_3, e_146_32_0, e_146_25, e_146_32_1, e_146_32_2, e_146_32_3, e_146_49, e_146_57, e_146_60, e_147_0, e_147_11, e_147_19, e_147_32, e_147_38, e_147_55, e_147_46, s_133, s_234, s_has_8, s_get_8, s_39, e_131_0, e_132_0, Option.bind_some, Int.add_zero, z_wid, or_true, true_or, z_up_fn, z_up_ni, z_up_eq, z_up_qi, z_rw_fn, z_rw_in, z_rw_out, if_pos, if_neg, ↓reduceIte]
        exact w_ret rfl
      · intro k hk
        simp (disch := omega) only [z_up_fn, z_rw_fn]
      · intro τ hτ
        simp (disch := first | omega | (simp (disch := omega) only [hτ] <;> omega) | fail) only [e_231_0, e_231_7, e_231_37, e_231_18, e_231_29, e_231_44, e_231_115, e_231_99, e_231_152, e_231_160, e_231_168, e_231_179, e_231_233, e_231_242, e_231_197, e_231_253, e_231_265, e_231_271, e_231_118, e_231_141, e_231_171, e_231_182, e_231_280, e_231_288, e_231_132, e_229_0, e_229_42, e_229_73, e_229_25, e_229_113, e_230_0, e_230_43, e_230_57, e_230_26, e_230_84, e_230_75, s_149, s_228, s_168, e_150_0, e_151_0, Int.reduceMul, Int.reduceAdd, Int.zero_add, ite_self, hτ, Option.bind_some, Int.add_zero, z_wid, or_true, true_or, z_up_fn, z_up_ni, z_up_eq, z_up_qi, z_rw_fn, z_rw_in, z_rw_out, if_pos, if_neg, ↓reduceIte]
        exact w_ret rfl
      · exact w_ref h 1
  · apply zOK_mk2
    · simp (disch := first | omega | (simp (disch := omega) only [z_up_fn, z_up_ni, z_up_eq, z_up_qi, z_rw_fn] <;> omega) | fail) only [ite_self, Int.reduceAdd, e_129_0, e_129_8, e_129_16, e_129_25, e_129_33, e_129_81, e_129_101, e_129_109, e_129_116, e_129_127, e_129_137, e_129_151, e_129_163, e_129_169, e_129_192, e_129_87, e_129_120, e_129_131, e_129_140, e_129_178, e_129_186, e_129_90, e_143_0, e_143_6, e_144_0, e_144_11, e_144_20, e_144_33, e_144_39, e_144_56, e_144_47, e_145_0, e_145_6_0, e_145_6_1, e_145_6_2, e_145_6_3, e_145_12_0, e_145_12_1, e_145_12_2, e_145_12_3, e_145_31_0, e_145_25, e_145_31_1, e_145_31_2, e_145_31_3, e_145_52, e_145_40, e_145_43, e_146_0, e_146_6_0, e_146_6_1, e_146_6_2, e_146_6_3, e_146_12_0, e_146_12_1, e_146_12_2, e_146_12_3, e_146_32_0, e_146_25, e_146_32_1, e_146_32_2, e_146_32_3, e_146_49, e_146_57, e_146_60, e_147_0, e_147_11, e_147_19, e_147_32, e_147_38, e_147_55, e_147_46, s_133, s_234, s_has_8, s_get_8, s_39, e_131_0, e_132_0, Option.bind_some, Int.add_zero, z_wid, or_true, true_or, z_up_fn, z_up_ni, z_up_eq, z_up_qi, z_rw_fn, z_rw_in, z_rw_out, if_pos, if_neg, ↓reduceIte]
      exact w_ret rfl
    · intro k hk
      simp (disch := omega) only [z_up_fn, z_rw_fn]
    · intro τ hτ
      simp (disch := first | omega | (simp (disch := omega) only [hτ] <;> omega) | fail) only [e_231_0, e_231_7, e_231_37, e_231_18, e_231_29, e_231_44, e_231_115, e_231_99, e_231_152, e_231_160, e_231_168, e_231_179, e_231_233, e_231_242, e_231_197, e_231_253, e_231_265, e_231_271, e_231_118, e_231_141, e_231_171, e_231_182, e_231_280, e_231_288, e_231_132, e_229_0, e_229_42, e_229_73, e_229_25, e_229_113, e_230_0, e_230_43, e_230_57, e_230_26, e_230_84, e_230_75, s_149, s_228, s_168, e_150_0, e_151_0, Int.reduceMul, Int.reduceAdd, Int.zero_add, ite_self, hτ, Option.bind_some, Int.add_zero, z_wid, or_true, true_or, z_up_fn, z_up_ni, z_up_eq, z_up_qi, z_rw_fn, z_rw_in, z_rw_out, if_pos, if_neg, ↓reduceIte]
      exact w_ret rfl
    · exact w_ref h 1
theorem o_forge6 (d : Nat) (s : Int → Int) (L : Int) (σ : Nat → Int → Int) (h : zV s L σ) (x2 x3 : Int) : zOK s L (d + 9) 129 231 [some (.inl 6), some (.inl x2), some (.inl x3)] [some (.inl 6), some (.inl x2), some (.inl x3), none] σ := by
  by_cases c1 : -100 ≤ x2 ∧ x2 ≤ 100
  · by_cases c2 : -100 ≤ x3 ∧ x3 ≤ 100
    · by_cases c3 : ¬ x2 % 2 = 0
      · apply zOK_mk2
        · simp (disch := first | omega | (simp (disch := omega) only [z_up_fn, z_up_ni, z_up_eq, z_up_qi, z_rw_fn] <;> omega) | fail) only [ite_self, Int.reduceAdd, e_129_0, e_129_8, e_129_16, e_129_25, e_129_33, e_129_81, e_129_101, e_129_109, e_129_116, e_129_127, e_129_137, e_129_151, e_129_163, e_129_169, e_129_192, e_129_87, e_129_120, e_129_131, e_129_140, e_129_178, e_129_186, e_129_90, e_143_0, e_143_6, e_144_0, e_144_11, e_144_20, e_144_33, e_144_39, e_144_56, e_144_47, e_145_0, e_145_6_0, e_145_6_1, e_145_6_2, e_145_6_3, e_145_12_0, e_145_12_1, e_145_12_2, e_145_12_3, e_145_31_0, e_145_25, e_145_31_1, e_145_31_2, e_145_31_3, e_145_52, e_145_40, e_145_43, e_146_0, e_146_6_0, e_146_6_1, e_146_6_2, e_146_6_3, e_146_12_0, e_146_12_1, e_146_12_2, e_146_12_3, e_146_32_0, e_146_25, e_146_32_1, e_146_32_2, e_146_32_3, e_146_49, e_146_57, e_146_60, e_147_0, e_147_11, e_147_19, e_147_32, e_147_38, e_147_55, e_147_46, s_133, s_234, s_has_8, s_get_8, s_39, e_131_0, e_132_0, Option.bind_some, Int.add_zero, z_wid, or_true, true_or, z_up_fn, z_up_ni, z_up_eq, z_up_qi, z_rw_fn, z_rw_in, z_rw_out, if_pos, if_neg, ↓reduceIte]
          exact w_ret rfl
        · intro k hk
          simp (disch := omega) only [z_up_fn, z_rw_fn]
        · intro τ hτ
          simp (disch := first | omega | (simp (disch := omega) only [hτ] <;> omega) | fail) only [e_231_0, e_231_7, e_231_37, e_231_18, e_231_29, e_231_44, e_231_115, e_231_99, e_231_152, e_231_160, e_231_168, e_231_179, e_231_233, e_231_242, e_231_197, e_231_253, e_231_265, e_231_271, e_231_118, e_231_141, e_231_171, e_231_182, e_231_280, e_231_288, e_231_132, e_229_0, e_229_42, e_229_73, e_229_25, e_229_113, e_230_0, e_230_43, e_230_57, e_230_26, e_230_84, e_230_75, s_149, s_228, s_168, e_150_0, e_151_0, Int.reduceMul, Int.reduceAdd, Int.zero_add, ite_self, hτ, Option.bind_some, Int.add_zero, z_wid, or_true, true_or, z_up_fn, z_up_ni, z_up_eq, z_up_qi, z_rw_fn, z_rw_in, z_rw_out, if_pos, if_neg, ↓reduceIte]
          exact w_ret (by omega)
        · skip
          exact w_ref h 0
      · apply zOK_mk2
        · simp (disch := first | omega | (simp (disch := omega) only [z_up_fn, z_up_ni, z_up_eq, z_up_qi, z_rw_fn] <;> omega) | fail) only [ite_self, Int.reduceAdd, e_129_0, e_129_8, e_129_16, e_129_25, e_129_33, e_129_81, e_129_101, e_129_109, e_129_116, e_129_127, e_129_137, e_129_151, e_129_163, e_129_169, e_129_192, e_129_87, e_129_120, e_129_131, e_129_140, e_129_178, e_129_186, e_129_90, e_143_0, e_143_6, e_144_0, e_144_11, e_144_20, e_144_33, e_144_39, e_144_56, e_144_47, e_145_0, e_145_6_0, e_145_6_1, e_145_6_2, e_145_6_3, e_145_12_0, e_145_12_1, e_145_12_2, e_145_12_3, e_145_31_0, e_145_25, e_145_31_1, e_145_31_2, e_145_31_3, e_145_52, e_145_40, e_145_43, e_146_0, e_146_6_0, e_146_6_1, e_146_6_2, e_146_6_3, e_146_12_0, e_146_12_1, e_146_12_2, e_146_12_3, e_146_32_0, e_146_25, e_146_32_1, e_146_32_2, e_146_32_3, e_146_49, e_146_57, e_146_60, e_147_0, e_147_11, e_147_19, e_147_32, e_147_38, e_147_55, e_147_46, s_133, s_234, s_has_8, s_get_8, s_39, e_131_0, e_132_0, Option.bind_some, Int.add_zero, z_wid, or_true, true_or, z_up_fn, z_up_ni, z_up_eq, z_up_qi, z_rw_fn, z_rw_in, z_rw_out, if_pos, if_neg, ↓reduceIte]
          exact w_ret rfl
        · intro k hk
          simp (disch := omega) only [z_up_fn, z_rw_fn]
        · intro τ hτ
          simp (disch := first | omega | (simp (disch := omega) only [hτ] <;> omega) | fail) only [e_231_0, e_231_7, e_231_37, e_231_18, e_231_29, e_231_44, e_231_115, e_231_99, e_231_152, e_231_160, e_231_168, e_231_179, e_231_233, e_231_242, e_231_197, e_231_253, e_231_265, e_231_271, e_231_118, e_231_141, e_231_171, e_231_182, e_231_280, e_231_288, e_231_132, e_229_0, e_229_42, e_229_73, e_229_25, e_229_113, e_230_0, e_230_43, e_230_57, e_230_26, e_230_84, e_230_75, s_149, s_228, s_168, e_150_0, e_151_0, Int.reduceMul, Int.reduceAdd, Int.zero_add, ite_self, hτ, Option.bind_some, Int.add_zero, z_wid, or_true, true_or, z_up_fn, z_up_ni, z_up_eq, z_up_qi, z_rw_fn, z_rw_in, z_rw_out, if_pos, if_neg, ↓reduceIte]
          exact w_ret rfl
        · exact w_ref h 10
    · apply zOK_mk2
      · simp (disch := first | omega | (simp (disch := omega) only [z_up_fn, z_up_ni, z_up_eq, z_up_qi, z_rw_fn] <;> omega) | fail) only [ite_self, Int.reduceAdd, e_129_0, e_129_8, e_129_16, e_129_25, e_129_33, e_129_81, e_129_101, e_129_109, e_129_116, e_129_127, e_129_137, e_129_151, e_129_163, e_129_169, e_129_192, e_129_87, e_129_120, e_129_131, e_129_140, e_129_178, e_129_186, e_129_90, e_143_0, e_143_6, e_144_0, e_144_11, e_144_20, e_144_33, e_144_39, e_144_56, e_144_47, e_145_0, e_145_6_0, e_145_6_1, e_145_6_2, e_145_6_3, e_145_12_0, e_145_12_1, e_145_12_2, e_145_12_3, e_145_31_0, e_145_25, e_145_31_1, e_145_31_2, e_145_31_3, e_145_52, e_145_40, e_145_43, e_146_0, e_146_6_0, e_146_6_1, e_146_6_2, e_146_6_3, e_146_12_0, e_146_12_1, e_146_12_2, e_146_12_3, e_146_32_0, e_146_25, e_146_32_1, e_146_32_2, e_146_32_3, e_146_49, e_146_57, e_146_60, e_147_0, e_147_11, e_147_19, e_147_32, e_147_38, e_147_55, e_147_46, s_133, s_234, s_has_8, s_get_8, s_39, e_131_0, e_132_0, Option.bind_some, Int.add_zero, z_wid, or_true, true_or, z_up_fn, z_up_ni, z_up_eq, z_up_qi, z_rw_fn, z_rw_in, z_rw_out, if_pos, if_neg, ↓reduceIte]
        exact w_ret rfl
      · intro k hk
        simp (disch := omega) only [z_up_fn, z_rw_fn]
      · intro τ hτ
        simp (disch := first | omega | (simp (disch := omega) only [hτ] <;> omega) | fail) only [e_231_0, e_231_7, e_231_37, e_231_18, e_231_29, e_231_44, e_231_115, e_231_99, e_231_152, e_231_160, e_231_168, e_231_179, e_231_233, e_231_242, e_231_197, e_231_253, e_231_265, e_231_271, e_231_118, e_231_141, e_231_171, e_231_182, e_231_280, e_231_288, e_231_132, e_229_0, e_229_42, e_229_73, e_229_25, e_229_113, e_230_0, e_230_43, e_230_57, e_230_26, e_230_84, e_230_75, s_149, s_228, s_168, e_150_0, e_151_0, Int.reduceMul, Int.reduceAdd, Int.zero_add, ite_self, hτ, Option.bind_some, Int.add_zero, z_wid, or_true, true_or, z_up_fn, z_up_ni, z_up_eq, z_up_qi, z_rw_fn, z_rw_in, z_rw_out, if_pos, if_neg, ↓reduceIte]
        exact w_ret rfl
      · exact w_ref h 1
  · apply zOK_mk2
    · simp (disch := first | omega | (simp (disch := omega) only [z_up_fn, z_up_ni, z_up_eq, z_up_qi, z_rw_fn] <;> omega) | fail) only [ite_self, Int.reduceAdd, e_129_0, e_129_8, e_129_16, e_129_25, e_129_33, e_129_81, e_129_101, e_129_109, e_129_116, e_129_127, e_129_137, e_129_151, e_129_163, e_129_169, e_129_192, e_129_87, e_129_120, e_129_131, e_129_140, e_129_178, e_129_186, e_129_90, e_143_0, e_143_6, e_144_0, e_144_11, e_144_20, e_144_33, e_144_39, e_144_56, e_144_47, e_145_0, e_145_6_0, e_145_6_1, e_145_6_2, e_145_6_3, e_145_12_0, e_145_12_1, e_145_12_2, e_145_12_3, e_145_31_0, e_145_25, e_145_31_1, e_145_31_2, e_145_31_3, e_145_52, e_145_40, e_145_43, e_146_0, e_146_6_0, e_146_6_1, e_146_6_2, e_146_6_3, e_146_12_0, e_146_12_1, e_146_12_2, e_146_12_3, e_146_32_0, e_146_25, e_146_32_1, e_146_32_2, e_146_32_3, e_146_49, e_146_57, e_146_60, e_147_0, e_147_11, e_147_19, e_147_32, e_147_38, e_147_55, e_147_46, s_133, s_234, s_has_8, s_get_8, s_39, e_131_0, e_132_0, Option.bind_some, Int.add_zero, z_wid, or_true, true_or, z_up_fn, z_up_ni, z_up_eq, z_up_qi, z_rw_fn, z_rw_in, z_rw_out, if_pos, if_neg, ↓reduceIte]
      exact w_ret rfl
    · intro k hk
      simp (disch := omega) only [z_up_fn, z_rw_fn]
    · intro τ hτ
      simp (disch := first | omega | (simp (disch := omega) only [hτ] <;> omega) | fail) only [e_231_0, e_231_7, e_231_37, e_231_18, e_231_29, e_231_44, e_231_115, e_231_99, e_231_152, e_231_160, e_231_168, e_231_179, e_231_233, e_231_242, e_231_197, e_231_253, e_231_265, e_231_271, e_231_118, e_231_141, e_231_171, e_231_182, e_231_280, e_231_288, e_231_132, e_229_0, e_229_42, e_229_73, e_229_25, e_229_113, e_230_0, e_230_43, e_230_57, e_230_26, e_230_84, e_230_75, s_149, s_228, s_168, e_150_0, e_151_0, Int.reduceMul, Int.reduceAdd, Int.zero_add, ite_self, hτ, Option.bind_some, Int.add_zero, z_wid, or_true, true_or, z_up_fn, z_up_ni, z_up_eq, z_up_qi, z_rw_fn, z_rw_in, z_rw_out, if_pos, if_neg, ↓reduceIte]
      exact w_ret rfl
    · exact w_ref h 1
theorem s_231x (d : Nat) (σ : Nat → Int → Int) (x1 x2 x3 : Int) (c : ¬ (0 ≤ x1 ∧ x1 ≤ 6)) : zE (d + 9) 231 0 [some (.inr 75), some (.inl x1), some (.inl x2), some (.inl x3), none] [] (zS, σ) = some (.inl (-1), (zS, z_up σ 71 0 1)) := by
  simp (disch := omega) only [e_231_0, e_231_7, e_231_37, e_231_18, e_231_29, e_231_44, e_231_115, e_231_99, e_231_152, e_231_160, e_231_168, e_231_179, e_231_233, e_231_242, e_231_197, e_231_253, e_231_265, e_231_271, e_231_118, e_231_141, e_231_171, e_231_182, e_231_280, e_231_288, e_231_132, s_149, e_150_0, Option.bind_some, Int.add_zero, z_wid, or_true, true_or, z_up_fn, z_up_ni, z_up_eq, z_up_qi, z_rw_fn, z_rw_in, z_rw_out, if_pos, if_neg, ↓reduceIte]
theorem o_forgex (d : Nat) (s : Int → Int) (L : Int) (σ : Nat → Int → Int) (h : zV s L σ) (x1 x2 x3 : Int) (hn : ¬ (0 ≤ x1 ∧ x1 ≤ 6)) : zOK s L (d + 9) 129 231 [some (.inl x1), some (.inl x2), some (.inl x3)] [some (.inl x1), some (.inl x2), some (.inl x3), none] σ := by
  by_cases c1 : -100 ≤ x2 ∧ x2 ≤ 100
  · by_cases c2 : -100 ≤ x3 ∧ x3 ≤ 100
    · apply zOK_mk2
      · simp (disch := first | omega | (simp (disch := omega) only [z_up_fn, z_up_ni, z_up_eq, z_up_qi, z_rw_fn] <;> omega) | fail) only [ite_self, Int.reduceAdd, e_129_0, e_129_8, e_129_16, e_129_25, e_129_33, e_129_81, e_129_101, e_129_109, e_129_116, e_129_127, e_129_137, e_129_151, e_129_163, e_129_169, e_129_192, e_129_87, e_129_120, e_129_131, e_129_140, e_129_178, e_129_186, e_129_90, e_143_0, e_143_6, e_144_0, e_144_11, e_144_20, e_144_33, e_144_39, e_144_56, e_144_47, e_145_0, e_145_6_0, e_145_6_1, e_145_6_2, e_145_6_3, e_145_12_0, e_145_12_1, e_145_12_2, e_145_12_3, e_145_31_0, e_145_25, e_145_31_1, e_145_31_2, e_145_31_3, e_145_52, e_145_40, e_145_43, e_146_0, e_146_6_0, e_146_6_1, e_146_6_2, e_146_6_3, e_146_12_0, e_146_12_1, e_146_12_2, e_146_12_3, e_146_32_0, e_146_25, e_146_32_1, e_146_32_2, e_146_32_3, e_146_49, e_146_57, e_146_60, e_147_0, e_147_11, e_147_19, e_147_32, e_147_38, e_147_55, e_147_46, s_133, s_234, s_has_8, s_get_8, s_39, e_131_0, e_132_0, Option.bind_some, Int.add_zero, z_wid, or_true, true_or, z_up_fn, z_up_ni, z_up_eq, z_up_qi, z_rw_fn, z_rw_in, z_rw_out, if_pos, if_neg, ↓reduceIte]
        exact w_ret rfl
      · intro k hk
        simp (disch := omega) only [z_up_fn, z_rw_fn]
      · intro τ hτ
        simp (disch := first | omega | (simp (disch := omega) only [hτ] <;> omega) | fail) only [e_231_0, e_231_7, e_231_37, e_231_18, e_231_29, e_231_44, e_231_115, e_231_99, e_231_152, e_231_160, e_231_168, e_231_179, e_231_233, e_231_242, e_231_197, e_231_253, e_231_265, e_231_271, e_231_118, e_231_141, e_231_171, e_231_182, e_231_280, e_231_288, e_231_132, e_229_0, e_229_42, e_229_73, e_229_25, e_229_113, e_230_0, e_230_43, e_230_57, e_230_26, e_230_84, e_230_75, s_149, s_228, s_168, e_150_0, e_151_0, Int.reduceMul, Int.reduceAdd, Int.zero_add, ite_self, hτ, Option.bind_some, Int.add_zero, z_wid, or_true, true_or, z_up_fn, z_up_ni, z_up_eq, z_up_qi, z_rw_fn, z_rw_in, z_rw_out, if_pos, if_neg, ↓reduceIte]
        exact w_ret (by omega)
      · skip
        exact w_ref h 1
    · apply zOK_mk2
      · simp (disch := first | omega | (simp (disch := omega) only [z_up_fn, z_up_ni, z_up_eq, z_up_qi, z_rw_fn] <;> omega) | fail) only [ite_self, Int.reduceAdd, e_129_0, e_129_8, e_129_16, e_129_25, e_129_33, e_129_81, e_129_101, e_129_109, e_129_116, e_129_127, e_129_137, e_129_151, e_129_163, e_129_169, e_129_192, e_129_87, e_129_120, e_129_131, e_129_140, e_129_178, e_129_186, e_129_90, e_143_0, e_143_6, e_144_0, e_144_11, e_144_20, e_144_33, e_144_39, e_144_56, e_144_47, e_145_0, e_145_6_0, e_145_6_1, e_145_6_2, e_145_6_3, e_145_12_0, e_145_12_1, e_145_12_2, e_145_12_3, e_145_31_0, e_145_25, e_145_31_1, e_145_31_2, e_145_31_3, e_145_52, e_145_40, e_145_43, e_146_0, e_146_6_0, e_146_6_1, e_146_6_2, e_146_6_3, e_146_12_0, e_146_12_1, e_146_12_2, e_146_12_3, e_146_32_0, e_146_25, e_146_32_1, e_146_32_2, e_146_32_3, e_146_49, e_146_57, e_146_60, e_147_0, e_147_11, e_147_19, e_147_32, e_147_38, e_147_55, e_147_46, s_133, s_234, s_has_8, s_get_8, s_39, e_131_0, e_132_0, Option.bind_some, Int.add_zero, z_wid, or_true, true_or, z_up_fn, z_up_ni, z_up_eq, z_up_qi, z_rw_fn, z_rw_in, z_rw_out, if_pos, if_neg, ↓reduceIte]
        exact w_ret rfl
      · intro k hk
        simp (disch := omega) only [z_up_fn, z_rw_fn]
      · intro τ hτ
        simp (disch := first | omega | (simp (disch := omega) only [hτ] <;> omega) | fail) only [e_231_0, e_231_7, e_231_37, e_231_18, e_231_29, e_231_44, e_231_115, e_231_99, e_231_152, e_231_160, e_231_168, e_231_179, e_231_233, e_231_242, e_231_197, e_231_253, e_231_265, e_231_271, e_231_118, e_231_141, e_231_171, e_231_182, e_231_280, e_231_288, e_231_132, e_229_0, e_229_42, e_229_73, e_229_25, e_229_113, e_230_0, e_230_43, e_230_57, e_230_26, e_230_84, e_230_75, s_149, s_228, s_168, e_150_0, e_151_0, Int.reduceMul, Int.reduceAdd, Int.zero_add, ite_self, hτ, Option.bind_some, Int.add_zero, z_wid, or_true, true_or, z_up_fn, z_up_ni, z_up_eq, z_up_qi, z_rw_fn, z_rw_in, z_rw_out, if_pos, if_neg, ↓reduceIte]
        exact w_ret rfl
      · exact w_ref h 1
  · apply zOK_mk2
    · simp (disch := first | omega | (simp (disch := omega) only [z_up_fn, z_up_ni, z_up_eq, z_up_qi, z_rw_fn] <;> omega) | fail) only [ite_self, Int.reduceAdd, e_129_0, e_129_8, e_129_16, e_129_25, e_129_33, e_129_81, e_129_101, e_129_109, e_129_116, e_129_127, e_129_137, e_129_151, e_129_163, e_129_169, e_129_192, e_129_87, e_129_120, e_129_131, e_129_140, e_129_178, e_129_186, e_129_90, e_143_0, e_143_6, e_144_0, e_144_11, e_144_20, e_144_33, e_144_39, e_144_56, e_144_47, e_145_0, e_145_6_0, e_145_6_1, e_145_6_2, e_145_6_3, e_145_12_0, e_145_12_1, e_145_12_2, e_145_12_3, e_145_31_0, e_145_25, e_145_31_1, e_145_31_2, e_145_31_3, e_145_52, e_145_40, e_145_43, e_146_0, e_146_6_0, e_146_6_1, e_146_6_2, e_146_6_3, e_146_12_0, e_146_12_1, e_146_12_2, e_146_12_3, e_146_32_0, e_146_25, e_146_32_1, e_146_32_2, e_146_32_3, e_146_49, e_146_57, e_146_60, e_147_0, e_147_11, e_147_19, e_147_32, e_147_38, e_147_55, e_147_46, s_133, s_234, s_has_8, s_get_8, s_39, e_131_0, e_132_0, Option.bind_some, Int.add_zero, z_wid, or_true, true_or, z_up_fn, z_up_ni, z_up_eq, z_up_qi, z_rw_fn, z_rw_in, z_rw_out, if_pos, if_neg, ↓reduceIte]
      exact w_ret rfl
    · intro k hk
      simp (disch := omega) only [z_up_fn, z_rw_fn]
    · intro τ hτ
      simp (disch := first | omega | (simp (disch := omega) only [hτ] <;> omega) | fail) only [e_231_0, e_231_7, e_231_37, e_231_18, e_231_29, e_231_44, e_231_115, e_231_99, e_231_152, e_231_160, e_231_168, e_231_179, e_231_233, e_231_242, e_231_197, e_231_253, e_231_265, e_231_271, e_231_118, e_231_141, e_231_171, e_231_182, e_231_280, e_231_288, e_231_132, e_229_0, e_229_42, e_229_73, e_229_25, e_229_113, e_230_0, e_230_43, e_230_57, e_230_26, e_230_84, e_230_75, s_149, s_228, s_168, e_150_0, e_151_0, Int.reduceMul, Int.reduceAdd, Int.zero_add, ite_self, hτ, Option.bind_some, Int.add_zero, z_wid, or_true, true_or, z_up_fn, z_up_ni, z_up_eq, z_up_qi, z_rw_fn, z_rw_in, z_rw_out, if_pos, if_neg, ↓reduceIte]
      exact w_ret rfl
    · exact w_ref h 1
theorem o_forge (d : Nat) (s : Int → Int) (L : Int) (σ : Nat → Int → Int) (h : zV s L σ) (x1 x2 x3 : Int) : zOK s L (d + 9) 129 231 [some (.inl x1), some (.inl x2), some (.inl x3)] [some (.inl x1), some (.inl x2), some (.inl x3), none] σ := by
  by_cases c : 0 ≤ x1 ∧ x1 ≤ 6
  · have e : x1 = 0 ∨ x1 = 1 ∨ x1 = 2 ∨ x1 = 3 ∨ x1 = 4 ∨ x1 = 5 ∨ x1 = 6 := by omega
    have f : x3 % 4 = 0 ∨ x3 % 4 = 1 ∨ x3 % 4 = 2 ∨ x3 % 4 = 3 := by omega
    rcases e with e | e | e | e | e | e | e <;> subst e
    · exact o_forge0 d s L σ h x2 x3
    · exact o_forge1 d s L σ h x2 x3
    · rcases f with f | f | f | f
      · exact o_forge2s0 d s L σ h x2 x3 f
      · exact o_forge2s1 d s L σ h x2 x3 f
      · exact o_forge2s2 d s L σ h x2 x3 f
      · exact o_forge2s3 d s L σ h x2 x3 f
    · by_cases g : 0 ≤ x2 ∧ x2 ≤ 3
      · have g : x2 = 0 ∨ x2 = 1 ∨ x2 = 2 ∨ x2 = 3 := by omega
        rcases g with g | g | g | g <;> subst g <;> rcases f with f | f | f | f
        · exact o_forge3s0n0 d s L σ h x3 f
        · exact o_forge3s1n0 d s L σ h x3 f
        · exact o_forge3s2n0 d s L σ h x3 f
        · exact o_forge3s3n0 d s L σ h x3 f
        · exact o_forge3s0n1 d s L σ h x3 f
        · exact o_forge3s1n1 d s L σ h x3 f
        · exact o_forge3s2n1 d s L σ h x3 f
        · exact o_forge3s3n1 d s L σ h x3 f
        · exact o_forge3s0n2 d s L σ h x3 f
        · exact o_forge3s1n2 d s L σ h x3 f
        · exact o_forge3s2n2 d s L σ h x3 f
        · exact o_forge3s3n2 d s L σ h x3 f
        · exact o_forge3s0n3 d s L σ h x3 f
        · exact o_forge3s1n3 d s L σ h x3 f
        · exact o_forge3s2n3 d s L σ h x3 f
        · exact o_forge3s3n3 d s L σ h x3 f
      · by_cases g0 : x2 < 0
        · rcases f with f | f | f | f
          · exact o_forge3s0x d s L σ h x2 x3 f g0
          · exact o_forge3s1x d s L σ h x2 x3 f g0
          · exact o_forge3s2x d s L σ h x2 x3 f g0
          · exact o_forge3s3x d s L σ h x2 x3 f g0
        · rcases f with f | f | f | f
          · by_cases k : x2 + 1 ≤ σ 63 2
            · exact o_forge3s0y d s L σ h x2 x3 f ⟨by omega, k⟩
            · exact o_forge3s0z d s L σ h x2 x3 f ⟨by omega, k⟩
          · by_cases k : x2 + 1 ≤ σ 65 2
            · exact o_forge3s1y d s L σ h x2 x3 f ⟨by omega, k⟩
            · exact o_forge3s1z d s L σ h x2 x3 f ⟨by omega, k⟩
          · by_cases k : x2 + 1 ≤ σ 67 2
            · exact o_forge3s2y d s L σ h x2 x3 f ⟨by omega, k⟩
            · exact o_forge3s2z d s L σ h x2 x3 f ⟨by omega, k⟩
          · by_cases k : x2 + 1 ≤ σ 69 2
            · exact o_forge3s3y d s L σ h x2 x3 f ⟨by omega, k⟩
            · exact o_forge3s3z d s L σ h x2 x3 f ⟨by omega, k⟩
    · by_cases g : x3 % 20 < σ 8 3
      · exact o_forge4a d s L σ h x2 x3 g
      · exact o_forge4b d s L σ h x2 x3 g
    · exact o_forge5 d s L σ h x2 x3
    · exact o_forge6 d s L σ h x2 x3
  · exact o_forgex d s L σ h x1 x2 x3 c
