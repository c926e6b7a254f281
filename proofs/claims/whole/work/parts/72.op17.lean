theorem s_109 (d : Nat) (σ : Nat → Int → Int) (b0 : 0 ≤ σ 0 7) (b1 : σ 0 7 < 10) (hk : ¬ σ 0 6 = 0) : ∃ σ1 : Nat → Int → Int, zE (d + 9) 109 0 [some (.inr 4)] [] (zS, σ) = some (.inl (σ 20 9), (zS, σ1)) ∧ (∀ k : Nat, ¬ k ≤ 19 → k ≠ 39 → k ≠ 49 → σ1 k = σ k) ∧ σ1 0 = z_up (z_up σ 0 7 (σ 0 7 + 1)) 0 8 0 0 ∧ σ1 1 = z_up (z_up σ 1 9 (σ 20 9)) 1 10 (σ 20 10) 1 ∧ σ1 39 = z_up σ 39 11 0 39 ∧ σ1 49 = z_up σ 49 13 0 49 ∧ (σ1 2 = z_up σ 2 3 (σ 21 3) 2 ∧ ∀ i, 0 ≤ i → i < 48 → σ1 3 i = σ 22 i) ∧ (σ1 4 = z_up σ 4 3 (σ 23 3) 4 ∧ ∀ i, 0 ≤ i → i < 24 → σ1 5 i = σ 24 i) ∧ (σ1 6 = z_up σ 6 3 (σ 25 3) 6 ∧ ∀ i, 0 ≤ i → i < 24 → σ1 7 i = σ 26 i) ∧ (σ1 8 = z_up σ 8 3 (σ 27 3) 8 ∧ ∀ i, 0 ≤ i → i < 140 → σ1 9 i = σ 28 i) ∧ (σ1 10 = z_up σ 10 3 (σ 29 3) 10 ∧ ∀ i, 0 ≤ i → i < 108 → σ1 11 i = σ 30 i) ∧ (σ1 12 = z_up σ 12 3 (σ 31 3) 12 ∧ ∀ i, 0 ≤ i → i < 36 → σ1 13 i = σ 32 i) ∧ (σ1 14 = z_up σ 14 3 (σ 33 3) 14 ∧ ∀ i, 0 ≤ i → i < 4 → σ1 15 i = σ 34 i) ∧ (σ1 16 = z_up σ 16 3 (σ 35 3) 16 ∧ ∀ i, 0 ≤ i → i < 24 → σ1 17 i = σ 36 i) ∧ (σ1 18 = z_up σ 18 3 (σ 37 3) 18 ∧ ∀ i, 0 ≤ i → i < 60 → σ1 19 i = σ 38 i) := by
  apply w_ex
  · simp (disch := omega) only [e_109_0, e_109_27, e_109_39, e_109_14, e_109_46, e_109_53, e_109_74, e_10_0_0, e_10_0_1, e_10_16_0, e_10_16_1, e_10_27_0, e_10_27_1, e_10_38_0, e_10_38_1, e_10_49_0, e_10_49_1, e_10_60_0, e_10_60_1, e_10_71_0, e_10_71_1, e_10_82_0, e_10_82_1, e_10_93_0, e_10_93_1, e_10_104_0, e_10_104_1, e_91_0_0, e_91_0_1, e_91_0_2, e_91_0_3, e_91_0_4, e_91_0_5, e_91_0_6, e_91_0_7, e_91_0_8, e_91_0_9, e_91_0_10, e_91_0_11, e_91_0_12, e_91_0_13, e_91_0_14, e_91_0_15, e_91_0_16, e_91_0_17, e_52_0, e_41_0, e_131_0, z_wid, if_pos, if_neg, Option.bind_some, z_up_fn, z_up_ni, z_up_eq, z_copy_fn]
    exact w_ret rfl
  refine ⟨?_, ?_, ?_, ?_, ?_, ⟨?_, ?_⟩, ⟨?_, ?_⟩, ⟨?_, ?_⟩, ⟨?_, ?_⟩, ⟨?_, ?_⟩, ⟨?_, ?_⟩, ⟨?_, ?_⟩, ⟨?_, ?_⟩, ⟨?_, ?_⟩⟩
  · intro k k1 k2 k3
    simp (disch := omega) only [z_up_fn, z_copy_fn]
  · funext i
    by_cases a : i = 8
    · subst a
      simp (disch := omega) only [z_up_eq, z_up_fn, z_copy_fn]
    · by_cases b : i = 7
      · subst b
        simp (disch := omega) only [z_up_ni, z_up_eq, z_up_fn, z_copy_fn]
      · simp (disch := omega) only [z_up_ni, z_up_fn, z_copy_fn]
  · funext i
    by_cases a : i = 10
    · subst a
      simp (disch := omega) only [z_up_eq, z_up_fn, z_copy_fn]
    · by_cases b : i = 9
      · subst b
        simp (disch := omega) only [z_up_ni, z_up_eq, z_up_fn, z_copy_fn]
      · simp (disch := omega) only [z_up_ni, z_up_fn, z_copy_fn]
  · funext i
    by_cases a : i = 11
    · subst a
      simp (disch := omega) only [z_up_eq, z_up_fn, z_copy_fn]
    · simp (disch := omega) only [z_up_ni, z_up_fn, z_copy_fn]
  · funext i
    by_cases a : i = 13
    · subst a
      simp (disch := omega) only [z_up_eq, z_up_fn, z_copy_fn]
    · simp (disch := omega) only [z_up_ni, z_up_fn, z_copy_fn]
  · funext i
    by_cases a : i = 3
    · subst a
      simp (disch := omega) only [z_up_eq, z_up_fn, z_copy_fn]
    · simp (disch := omega) only [z_up_ni, z_up_fn, z_copy_fn]
  · intro i i0 i1
    simp (disch := omega) only [z_up_ni, z_up_eq, z_up_fn, z_copy_fn, z_copy_in]
  · funext i
    by_cases a : i = 3
    · subst a
      simp (disch := omega) only [z_up_eq, z_up_fn, z_copy_fn]
    · simp (disch := omega) only [z_up_ni, z_up_fn, z_copy_fn]
  · intro i i0 i1
    simp (disch := omega) only [z_up_ni, z_up_eq, z_up_fn, z_copy_fn, z_copy_in]
  · funext i
    by_cases a : i = 3
    · subst a
      simp (disch := omega) only [z_up_eq, z_up_fn, z_copy_fn]
    · simp (disch := omega) only [z_up_ni, z_up_fn, z_copy_fn]
  · intro i i0 i1
    simp (disch := omega) only [z_up_ni, z_up_eq, z_up_fn, z_copy_fn, z_copy_in]
  · funext i
    by_cases a : i = 3
    · subst a
      simp (disch := omega) only [z_up_eq, z_up_fn, z_copy_fn]
    · simp (disch := omega) only [z_up_ni, z_up_fn, z_copy_fn]
  · intro i i0 i1
    simp (disch := omega) only [z_up_ni, z_up_eq, z_up_fn, z_copy_fn, z_copy_in]
  · funext i
    by_cases a : i = 3
    · subst a
      simp (disch := omega) only [z_up_eq, z_up_fn, z_copy_fn]
    · simp (disch := omega) only [z_up_ni, z_up_fn, z_copy_fn]
  · intro i i0 i1
    simp (disch := omega) only [z_up_ni, z_up_eq, z_up_fn, z_copy_fn, z_copy_in]
  · funext i
    by_cases a : i = 3
    · subst a
      simp (disch := omega) only [z_up_eq, z_up_fn, z_copy_fn]
    · simp (disch := omega) only [z_up_ni, z_up_fn, z_copy_fn]
  · intro i i0 i1
    simp (disch := omega) only [z_up_ni, z_up_eq, z_up_fn, z_copy_fn, z_copy_in]
  · funext i
    by_cases a : i = 3
    · subst a
      simp (disch := omega) only [z_up_eq, z_up_fn, z_copy_fn]
    · simp (disch := omega) only [z_up_ni, z_up_fn, z_copy_fn]
  · intro i i0 i1
    simp (disch := omega) only [z_up_ni, z_up_eq, z_up_fn, z_copy_fn, z_copy_in]
  · funext i
    by_cases a : i = 3
    · subst a
      simp (disch := omega) only [z_up_eq, z_up_fn, z_copy_fn]
    · simp (disch := omega) only [z_up_ni, z_up_fn, z_copy_fn]
  · intro i i0 i1
    simp (disch := omega) only [z_up_ni, z_up_eq, z_up_fn, z_copy_fn, z_copy_in]
  · funext i
    by_cases a : i = 3
    · subst a
      simp (disch := omega) only [z_up_eq, z_up_fn, z_copy_fn]
    · simp (disch := omega) only [z_up_ni, z_up_fn, z_copy_fn]
  · intro i i0 i1
    simp (disch := omega) only [z_up_ni, z_up_eq, z_up_fn, z_copy_fn, z_copy_in]
theorem o_back_ok (d : Nat) (s : Int → Int) (L : Int) (σ : Nat → Int → Int) (h : zV s L σ) (b1 : σ 0 7 < 10) (hk : ¬ σ 0 6 = 0) : zOK s L (d + 9) 109 206 [] [none] σ := by
  have ha := zV_ba h
  have hi := zV_ik h
  have I1 : σ 71 58 = 1 := by omega
  have hm := zV_kmo h I1
  obtain ⟨σ1, c1, c2, c3, c4, c5, c6, ⟨qP, rP⟩, ⟨qZ, rZ⟩, ⟨qD, rD⟩, ⟨qS, rS⟩, ⟨qR, rR⟩, ⟨qU, rU⟩, ⟨qO, rO⟩, ⟨qG, rG⟩, ⟨qT, rT⟩⟩ := s_109 d σ (by omega) b1 hk
  have e71 : σ1 71 = σ 71 := c2 71 (by omega) (by omega) (by omega)
  have e113 : σ1 113 = σ 113 := c2 113 (by omega) (by omega) (by omega)
  have e114 : σ1 114 = σ 114 := c2 114 (by omega) (by omega) (by omega)
  have e115 : σ1 115 = σ 115 := c2 115 (by omega) (by omega) (by omega)
  have e116 : σ1 116 = σ 116 := c2 116 (by omega) (by omega) (by omega)
  have e117 : σ1 117 = σ 117 := c2 117 (by omega) (by omega) (by omega)
  have e118 : σ1 118 = σ 118 := c2 118 (by omega) (by omega) (by omega)
  obtain ⟨σ2, m1, m2, m3, m5, m6, m7, m8⟩ := s_206 (d + 8) σ1 (by rw [e71]; omega) (by rw [e71]; omega) (by rw [e71]; omega) (by rw [e71]; omega)
  have ea : σ1 113 5 = σ 20 9 := by rw [e113]; exact hm.1.symm
  rw [ea] at m1
  refine ⟨σ 20 9, σ1, σ2, c1, m1, ?_, c2 1000 (by omega) (by omega) (by omega), c2 1001 (by omega) (by omega) (by omega)⟩
  have G : ∀ k : Nat, k < 71 → σ2 k = σ1 k := fun k a => m2 k (by omega) (by omega) (by omega) (by omega) (by omega) (by omega) (by omega) (by omega) (by omega)
  have f71 : σ2 71 = (z_up (z_up (z_up (z_up (z_up (z_up (z_up (z_up (z_up (z_up (z_up (z_up (z_up (z_up (z_up σ 71 59 (σ 71 59 + 1)) 71 2 (σ 113 0)) 71 6 (σ 113 1)) 71 10 (σ 113 2)) 71 13 (σ 113 3)) 71 21 (σ 113 4)) 71 1 (σ 113 5)) 71 29 (σ 113 6)) 71 36 (σ 113 7)) 71 38 (σ 113 8)) 71 43 (σ 113 9)) 71 35 (σ 113 10)) 71 47 0) 71 48 0) 71 0 0) 71 := by
    rw [m3]
    funext i
    simp only [z_up_at, e71, e113]
  rw [e114, e117] at m5
  rw [e115] at m6
  rw [e116] at m7
  rw [e118] at m8
  rw [← G 2 (by omega)] at qP
  rw [← G 3 (by omega)] at rP
  rw [← G 4 (by omega)] at qZ
  rw [← G 5 (by omega)] at rZ
  rw [← G 6 (by omega)] at qD
  rw [← G 7 (by omega)] at rD
  rw [← G 8 (by omega)] at qS
  rw [← G 9 (by omega)] at rS
  rw [← G 10 (by omega)] at qR
  rw [← G 11 (by omega)] at rR
  rw [← G 12 (by omega)] at qU
  rw [← G 13 (by omega)] at rU
  rw [← G 14 (by omega)] at qO
  rw [← G 15 (by omega)] at rO
  rw [← G 16 (by omega)] at qG
  rw [← G 17 (by omega)] at rG
  rw [← G 18 (by omega)] at qT
  rw [← G 19 (by omega)] at rT
  rw [← G 0 (by omega)] at c3
  rw [← G 1 (by omega)] at c4
  rw [← G 39 (by omega)] at c5
  rw [← G 49 (by omega)] at c6
  have E : σ2 = fun k => if k = 0 then z_up (z_up σ 0 7 (σ 0 7 + 1)) 0 8 0 0 else if k = 1 then z_up (z_up σ 1 9 (σ 20 9)) 1 10 (σ 20 10) 1 else if k = 39 then z_up σ 39 11 0 39 else if k = 49 then z_up σ 49 13 0 49 else if k = 71 then (z_up (z_up (z_up (z_up (z_up (z_up (z_up (z_up (z_up (z_up (z_up (z_up (z_up (z_up (z_up σ 71 59 (σ 71 59 + 1)) 71 2 (σ 113 0)) 71 6 (σ 113 1)) 71 10 (σ 113 2)) 71 13 (σ 113 3)) 71 21 (σ 113 4)) 71 1 (σ 113 5)) 71 29 (σ 113 6)) 71 36 (σ 113 7)) 71 38 (σ 113 8)) 71 43 (σ 113 9)) 71 35 (σ 113 10)) 71 47 0) 71 48 0) 71 0 0) 71 else if k = 2 then z_up σ 2 3 (σ 21 3) 2 else if k = 4 then z_up σ 4 3 (σ 23 3) 4 else if k = 6 then z_up σ 6 3 (σ 25 3) 6 else if k = 8 then z_up σ 8 3 (σ 27 3) 8 else if k = 10 then z_up σ 10 3 (σ 29 3) 10 else if k = 12 then z_up σ 12 3 (σ 31 3) 12 else if k = 14 then z_up σ 14 3 (σ 33 3) 14 else if k = 16 then z_up σ 16 3 (σ 35 3) 16 else if k = 18 then z_up σ 18 3 (σ 37 3) 18 else if k = 3 ∨ k = 5 ∨ k = 7 ∨ k = 9 ∨ k = 11 ∨ k = 13 ∨ k = 15 ∨ k = 17 ∨ k = 19 ∨ k = 73 ∨ k = 74 ∨ k = 93 ∨ k = 76 ∨ k = 77 ∨ k = 85 ∨ k = 86 ∨ k = 106 then σ2 k else σ k := by
    funext k
    by_cases a0 : k = 0
    · rw [if_pos a0, a0, c3]
    rw [if_neg a0]
    by_cases a1 : k = 1
    · rw [if_pos a1, a1, c4]
    rw [if_neg a1]
    by_cases a2 : k = 39
    · rw [if_pos a2, a2, c5]
    rw [if_neg a2]
    by_cases a3 : k = 49
    · rw [if_pos a3, a3, c6]
    rw [if_neg a3]
    by_cases a4 : k = 71
    · rw [if_pos a4, a4, f71]
    rw [if_neg a4]
    by_cases a5 : k = 2
    · rw [if_pos a5, a5, qP]
    rw [if_neg a5]
    by_cases a6 : k = 4
    · rw [if_pos a6, a6, qZ]
    rw [if_neg a6]
    by_cases a7 : k = 6
    · rw [if_pos a7, a7, qD]
    rw [if_neg a7]
    by_cases a8 : k = 8
    · rw [if_pos a8, a8, qS]
    rw [if_neg a8]
    by_cases a9 : k = 10
    · rw [if_pos a9, a9, qR]
    rw [if_neg a9]
    by_cases a10 : k = 12
    · rw [if_pos a10, a10, qU]
    rw [if_neg a10]
    by_cases a11 : k = 14
    · rw [if_pos a11, a11, qO]
    rw [if_neg a11]
    by_cases a12 : k = 16
    · rw [if_pos a12, a12, qG]
    rw [if_neg a12]
    by_cases a13 : k = 18
    · rw [if_pos a13, a13, qT]
    rw [if_neg a13]
    by_cases b : k = 3 ∨ k = 5 ∨ k = 7 ∨ k = 9 ∨ k = 11 ∨ k = 13 ∨ k = 15 ∨ k = 17 ∨ k = 19 ∨ k = 73 ∨ k = 74 ∨ k = 93 ∨ k = 76 ∨ k = 77 ∨ k = 85 ∨ k = 86 ∨ k = 106
    · rw [if_pos b]
    rw [if_neg b, m2 k (by omega) (by omega) (by omega) (by omega) (by omega) (by omega) (by omega) (by omega) (by omega), c2 k (by omega) (by omega) (by omega)]
  have g1 : ∀ i, 0 ≤ i → i < 12 → σ2 73 i = σ 114 i := fun i a b => (m5 i a b).1
  have g2 : ∀ i, 0 ≤ i → i < 12 → σ2 74 i = σ 114 (12 + i) := fun i a b => (m5 i a b).2.1
  have g3 : ∀ i, 0 ≤ i → i < 12 → σ2 93 i = σ 117 i := fun i a b => (m5 i a b).2.2
  have g4 : ∀ i, 0 ≤ i → i < 6 → σ2 76 i = σ 115 i := fun i a b => (m6 i a b).1
  have g5 : ∀ i, 0 ≤ i → i < 6 → σ2 77 i = σ 115 (6 + i) := fun i a b => (m6 i a b).2
  have g6 : ∀ i, 0 ≤ i → i < 20 → σ2 85 i = σ 116 i := fun i a b => (m7 i a b).1
  have g7 : ∀ i, 0 ≤ i → i < 20 → σ2 86 i = σ 116 (20 + i) := fun i a b => (m7 i a b).2
  have hw := zV_kP h I1
  have g8 : ∀ v, z_cnt (σ2 73) v (σ 113 0).toNat = z_cnt (σ 114) v (σ 113 0).toNat := fun v => z_cnt_congr (fun i a b => g1 i a (by have := hw.2.2.1; have := hw.2.1; omega))
  clear m1 m2 m3 c1 c2 c3 c4 c5 c6 f71 hw G
  clear qP qZ qD qS qR qU qO qG qT
  rw [E]
  clear E
  obtain ⟨v_sc, v_st, v_mo, v_se, v_ik, v_ba, v_wP, v_wZ, v_wD, v_wS, v_wR, v_wU, v_wO, v_wG, v_wT, v_P, v_Q, v_Z, v_D, v_S, v_R, v_U, v_O, v_G, v_T, v_kl, v_kmo, v_kse, v_kP, v_kQ, v_kZ, v_kD, v_kS, v_kR, v_kU, v_kO, v_kG, v_kT, v_A, v_X0, v_X1, v_X2, v_X3, v_pc, v_pm, v_lc, v_lm⟩ := h
  refine ⟨v_sc, ?_, ?_, ?_, v_ik, ?_, v_wP, v_wZ, v_wD, v_wS, v_wR, v_wU, v_wO, v_wG, v_wT, ?_, ?_, ?_, ?_, ?_, ?_, ?_, ?_, ?_, ?_, ?_, v_kmo, v_kse, v_kP, v_kQ, v_kZ, v_kD, v_kS, v_kR, v_kU, v_kO, v_kG, v_kT, v_A, v_X0, v_X1, v_X2, v_X3, ?_, ?_, ?_, ?_⟩
  · rfl
  · exact v_kmo I1
  · exact v_kse I1
  · clear v_sc v_st v_mo v_se v_ik v_wP v_wZ v_wD v_wS v_wR v_wU v_wO v_wG v_wT v_P v_Q v_Z v_D v_S v_R v_U v_O v_G v_T v_kl v_kmo v_kse v_kP v_kQ v_kZ v_kD v_kS v_kR v_kU v_kO v_kG v_kT v_A v_X0 v_X1 v_X2 v_X3 v_pc v_pm v_lc v_lm
    show σ 0 7 + 1 = σ 71 59 + 1 ∧ 0 ≤ σ 71 59 + 1 ∧ σ 71 59 + 1 ≤ 10
    omega
  · have v := v_kP I1
    clear v_sc v_st v_mo v_se v_ik v_ba v_wP v_wZ v_wD v_wS v_wR v_wU v_wO v_wG v_wT v_P v_Q v_Z v_D v_S v_R v_U v_O v_G v_T v_kl v_kmo v_kse v_kP v_kQ v_kZ v_kD v_kS v_kR v_kU v_kO v_kG v_kT v_A v_X0 v_X1 v_X2 v_X3 v_pc v_pm v_lc v_lm
    show zBP (σ 21 3) (σ2 3) (σ 113 0) (σ 113 1) (σ 72) (σ2 73) (σ2 74)
    refine ⟨v.1, v.2.1, v.2.2.1, fun p p0 p1 => ?_⟩
    have b := v.2.2.1
    have q := v.2.2.2 p p0 p1
    simp (disch := omega) only [rP, g1, g2, g3, g4, g5, g6, g7, g8, Int.add_zero]
    exact q
  · have v := v_kQ I1
    clear v_sc v_st v_mo v_se v_ik v_ba v_wP v_wZ v_wD v_wS v_wR v_wU v_wO v_wG v_wT v_P v_Q v_Z v_D v_S v_R v_U v_O v_G v_T v_kl v_kmo v_kse v_kQ v_kZ v_kD v_kS v_kR v_kU v_kO v_kG v_kT v_A v_X0 v_X1 v_X2 v_X3 v_pc v_pm v_lc v_lm
    show zBQ (σ2 3) (σ 113 0) (σ 80) (σ 113 3)
    intro p p0 p1
    have b := (v_kP I1).2.2.1
    have q := v p p0 p1
    simp (disch := omega) only [rP]
    exact q
  · have v := v_kZ I1
    clear v_sc v_st v_mo v_se v_ik v_ba v_wP v_wZ v_wD v_wS v_wR v_wU v_wO v_wG v_wT v_P v_Q v_Z v_D v_S v_R v_U v_O v_G v_T v_kl v_kmo v_kse v_kP v_kQ v_kZ v_kD v_kS v_kR v_kU v_kO v_kG v_kT v_A v_X0 v_X1 v_X2 v_X3 v_pc v_pm v_lc v_lm
    show zBZ (σ 23 3) (σ2 5) (σ 113 1) (σ2 73) (σ 113 0) (σ 75) (σ2 76) (σ2 77)
    refine ⟨v.1, v.2.1, v.2.2.1, fun p p0 p1 => ?_⟩
    have b := v.2.2.1
    have q := v.2.2.2 p p0 p1
    simp (disch := omega) only [rZ, g1, g2, g3, g4, g5, g6, g7, g8, Int.add_zero]
    exact q
  · have v := v_kD I1
    clear v_sc v_st v_mo v_se v_ik v_ba v_wP v_wZ v_wD v_wS v_wR v_wU v_wO v_wG v_wT v_P v_Q v_Z v_D v_S v_R v_U v_O v_G v_T v_kl v_kmo v_kse v_kP v_kQ v_kZ v_kD v_kS v_kR v_kU v_kO v_kG v_kT v_A v_X0 v_X1 v_X2 v_X3 v_pc v_pm v_lc v_lm
    show zBD (σ 25 3) (σ2 7) (σ 113 2) (σ 113 1) (σ 78) (σ 79)
    refine ⟨v.1, v.2.1, v.2.2.1, fun p p0 p1 => ?_⟩
    have b := v.2.2.1
    have q := v.2.2.2 p p0 p1
    simp (disch := omega) only [rD, g1, g2, g3, g4, g5, g6, g7, g8, Int.add_zero]
    exact q
  · have v := v_kS I1
    clear v_sc v_st v_mo v_se v_ik v_ba v_wP v_wZ v_wD v_wS v_wR v_wU v_wO v_wG v_wT v_P v_Q v_Z v_D v_S v_R v_U v_O v_G v_T v_kl v_kmo v_kse v_kP v_kQ v_kZ v_kD v_kS v_kR v_kU v_kO v_kG v_kT v_A v_X0 v_X1 v_X2 v_X3 v_pc v_pm v_lc v_lm
    show zBS (σ 27 3) (σ2 9) (σ 113 3) (σ 113 0) (σ 80) (σ 81) (σ 82) (σ 83) (σ 84) (σ2 85) (σ2 86)
    refine ⟨v.1, v.2.1, v.2.2.1, fun p p0 p1 => ?_⟩
    have b := v.2.2.1
    have q := v.2.2.2 p p0 p1
    simp (disch := omega) only [rS, g1, g2, g3, g4, g5, g6, g7, g8, Int.add_zero]
    exact q
  · have v := v_kR I1
    clear v_sc v_st v_mo v_se v_ik v_ba v_wP v_wZ v_wD v_wS v_wR v_wU v_wO v_wG v_wT v_P v_Q v_Z v_D v_S v_R v_U v_O v_G v_T v_kl v_kmo v_kse v_kP v_kQ v_kZ v_kD v_kS v_kR v_kU v_kO v_kG v_kT v_A v_X0 v_X1 v_X2 v_X3 v_pc v_pm v_lc v_lm
    show zBR (σ 29 3) (σ2 11) (σ 113 4) (σ 87) (σ 88) (σ 89) (σ 90) (σ 91) (σ 92) (σ2 93)
    refine ⟨v.1, v.2.1, v.2.2.1, fun p p0 p1 => ?_⟩
    have b := v.2.2.1
    have q := v.2.2.2 p p0 p1
    simp (disch := omega) only [rR, g1, g2, g3, g4, g5, g6, g7, g8, Int.add_zero]
    exact q
  · have v := v_kU I1
    clear v_sc v_st v_mo v_se v_ik v_ba v_wP v_wZ v_wD v_wS v_wR v_wU v_wO v_wG v_wT v_P v_Q v_Z v_D v_S v_R v_U v_O v_G v_T v_kl v_kmo v_kse v_kP v_kQ v_kZ v_kD v_kS v_kR v_kU v_kO v_kG v_kT v_A v_X0 v_X1 v_X2 v_X3 v_pc v_pm v_lc v_lm
    show zBU (σ 31 3) (σ2 13) (σ 113 6) (σ 94) (σ 95) (σ 96) (σ 97) (σ 98)
    refine ⟨v.1, v.2.1, v.2.2.1, fun p p0 p1 => ?_⟩
    have b := v.2.2.1
    have q := v.2.2.2 p p0 p1
    simp (disch := omega) only [rU, g1, g2, g3, g4, g5, g6, g7, g8, Int.add_zero]
    exact q
  · have v := v_kO I1
    clear v_sc v_st v_mo v_se v_ik v_ba v_wP v_wZ v_wD v_wS v_wR v_wU v_wO v_wG v_wT v_P v_Q v_Z v_D v_S v_R v_U v_O v_G v_T v_kl v_kmo v_kse v_kP v_kQ v_kZ v_kD v_kS v_kR v_kU v_kO v_kG v_kT v_A v_X0 v_X1 v_X2 v_X3 v_pc v_pm v_lc v_lm
    show zBO (σ 33 3) (σ2 15) (σ 113 7) (σ 99)
    refine ⟨v.1, v.2.1, v.2.2.1, fun p p0 p1 => ?_⟩
    have b := v.2.2.1
    have q := v.2.2.2 p p0 p1
    simp (disch := omega) only [rO, g1, g2, g3, g4, g5, g6, g7, g8, Int.add_zero]
    exact q
  · have v := v_kG I1
    clear v_sc v_st v_mo v_se v_ik v_ba v_wP v_wZ v_wD v_wS v_wR v_wU v_wO v_wG v_wT v_P v_Q v_Z v_D v_S v_R v_U v_O v_G v_T v_kl v_kmo v_kse v_kP v_kQ v_kZ v_kD v_kS v_kR v_kU v_kO v_kG v_kT v_A v_X0 v_X1 v_X2 v_X3 v_pc v_pm v_lc v_lm
    show zBG (σ 35 3) (σ2 17) (σ 113 8) (σ 100) (σ 101) (σ 102) (σ 103)
    refine ⟨v.1, v.2.1, v.2.2.1, fun p p0 p1 => ?_⟩
    have b := v.2.2.1
    have q := v.2.2.2 p p0 p1
    simp (disch := omega) only [rG, g1, g2, g3, g4, g5, g6, g7, g8, Int.add_zero]
    exact q
  · have v := v_kT I1
    clear v_sc v_st v_mo v_se v_ik v_ba v_wP v_wZ v_wD v_wS v_wR v_wU v_wO v_wG v_wT v_P v_Q v_Z v_D v_S v_R v_U v_O v_G v_T v_kl v_kmo v_kse v_kP v_kQ v_kZ v_kD v_kS v_kR v_kU v_kO v_kG v_kT v_A v_X0 v_X1 v_X2 v_X3 v_pc v_pm v_lc v_lm
    show zBT (σ 37 3) (σ2 19) (σ 113 9) (σ 113 0) (σ 104) (σ 105) (σ2 106)
    refine ⟨v.1, v.2.1, v.2.2.1, fun r r0 r1 => ?_⟩
    have b := v.2.2.1
    refine w_BTr ?_ ?_ ?_ ?_ (v.2.2.2 r r0 r1)
    · intro i i0 i1
      simp (disch := omega) only [rT]
    · rfl
    · intro i i0 i1
      rfl
    · exact m8 r r0 (by omega)
  · intro _
    exact ⟨Int.le_refl _, Int.le_refl _, Int.le_refl _, Int.le_refl _, Int.le_refl _, Int.le_refl _, Int.le_refl _, Int.le_refl _, Int.le_refl _⟩
  · refine ⟨Or.inl rfl, fun q => ?_⟩
    have q : (0 : Int) = 1 := q
    exact absurd q (by decide)
  · refine ⟨Or.inl rfl, v_pm.2.1, fun q => ?_⟩
    have q : (0 : Int) = 1 := q
    exact absurd q (by decide)
  · refine ⟨v_lc.1, Or.inl rfl, fun q => ?_⟩
    have q : (0 : Int) = 1 := q
    exact absurd q (by decide)
  · refine ⟨Or.inl rfl, fun q => ?_⟩
    have q : (0 : Int) = 1 := q
    exact absurd q (by decide)
theorem o_back (d : Nat) (s : Int → Int) (L : Int) (σ : Nat → Int → Int) (h : zV s L σ) : zOK s L (d + 9) 109 206 [] [none] σ := by
  have ha := zV_ba h
  have hi := zV_ik h
  by_cases c1 : σ 0 7 < 10
  · by_cases c2 : σ 0 6 = 0
    · apply zOK_mk2
      · simp (disch := first | omega | (simp (disch := omega) only [z_up_fn, z_up_ni, z_up_eq, z_up_qi, z_rw_fn] <;> omega) | fail) only [e_109_0, e_109_27, e_109_39, e_109_14, e_109_46, e_109_53, e_109_74, e_132_0, Option.bind_some, Int.add_zero, z_wid, or_true, true_or, z_up_fn, z_up_ni, z_up_eq, z_up_qi, z_rw_fn, z_rw_in, z_rw_out, if_pos, if_neg, ↓reduceIte]
        exact w_ret rfl
      · intro k hk
        simp (disch := omega) only [z_up_fn]
      · intro τ hτ
        simp (disch := first | omega | (simp (disch := omega) only [hτ] <;> omega) | fail) only [e_206_0, e_206_14, e_206_27, e_206_332, e_150_0, hτ, Option.bind_some, Int.add_zero, z_wid, or_true, true_or, z_up_fn, z_up_ni, z_up_eq, z_up_qi, z_rw_fn, z_rw_in, z_rw_out, if_pos, if_neg, ↓reduceIte]
        exact w_ret rfl
      · exact w_ref h 3
    · exact o_back_ok d s L σ h c1 c2
  · apply zOK_mk2
    · simp (disch := first | omega | (simp (disch := omega) only [z_up_fn, z_up_ni, z_up_eq, z_up_qi, z_rw_fn] <;> omega) | fail) only [e_109_0, e_109_27, e_109_39, e_109_14, e_109_46, e_109_53, e_109_74, e_132_0, Option.bind_some, Int.add_zero, z_wid, or_true, true_or, z_up_fn, z_up_ni, z_up_eq, z_up_qi, z_rw_fn, z_rw_in, z_rw_out, if_pos, if_neg, ↓reduceIte]
      exact w_ret rfl
    · intro k hk
      simp (disch := omega) only [z_up_fn]
    · intro τ hτ
      simp (disch := first | omega | (simp (disch := omega) only [hτ] <;> omega) | fail) only [e_206_0, e_206_14, e_206_27, e_206_332, e_150_0, hτ, Option.bind_some, Int.add_zero, z_wid, or_true, true_or, z_up_fn, z_up_ni, z_up_eq, z_up_qi, z_rw_fn, z_rw_in, z_rw_out, if_pos, if_neg, ↓reduceIte]
      exact w_ret rfl
    · exact w_ref h 2
