theorem w_ex {A : Option ((Int ⊕ Nat) × Zh)} {v : Int} {P : (Nat → Int → Int) → Prop} {σ1 : Nat → Int → Int} (h : A = some (.inl v, (zS, σ1))) (p : P σ1) : ∃ σ1 : Nat → Int → Int, A = some (.inl v, (zS, σ1)) ∧ P σ1 := ⟨σ1, h, p⟩
theorem s_108 (d : Nat) (σ : Nat → Int → Int) : ∃ σ1 : Nat → Int → Int, zE (d + 9) 108 0 [some (.inr 4)] [] (zS, σ) = some (.inl 1, (zS, σ1)) ∧ (∀ k : Nat, k ≠ 0 → ¬ (20 ≤ k ∧ k ≤ 38) → σ1 k = σ k) ∧ σ1 0 = z_up (z_up σ 0 6 1) 0 8 0 0 ∧ (σ1 20 9 = σ 1 9 ∧ σ1 20 10 = σ 1 10) ∧ (σ1 21 3 = σ 2 3 ∧ ∀ i, 0 ≤ i → i < 48 → σ1 22 i = σ 3 i) ∧ (σ1 23 3 = σ 4 3 ∧ ∀ i, 0 ≤ i → i < 24 → σ1 24 i = σ 5 i) ∧ (σ1 25 3 = σ 6 3 ∧ ∀ i, 0 ≤ i → i < 24 → σ1 26 i = σ 7 i) ∧ (σ1 27 3 = σ 8 3 ∧ ∀ i, 0 ≤ i → i < 140 → σ1 28 i = σ 9 i) ∧ (σ1 29 3 = σ 10 3 ∧ ∀ i, 0 ≤ i → i < 108 → σ1 30 i = σ 11 i) ∧ (σ1 31 3 = σ 12 3 ∧ ∀ i, 0 ≤ i → i < 36 → σ1 32 i = σ 13 i) ∧ (σ1 33 3 = σ 14 3 ∧ ∀ i, 0 ≤ i → i < 4 → σ1 34 i = σ 15 i) ∧ (σ1 35 3 = σ 16 3 ∧ ∀ i, 0 ≤ i → i < 24 → σ1 36 i = σ 17 i) ∧ (σ1 37 3 = σ 18 3 ∧ ∀ i, 0 ≤ i → i < 60 → σ1 38 i = σ 19 i) := by
  apply w_ex
  · simp (disch := omega) only [e_108_0, e_108_11, e_108_21, e_10_0_0, e_10_0_1, e_10_16_0, e_10_16_1, e_10_27_0, e_10_27_1, e_10_38_0, e_10_38_1, e_10_49_0, e_10_49_1, e_10_60_0, e_10_60_1, e_10_71_0, e_10_71_1, e_10_82_0, e_10_82_1, e_10_93_0, e_10_93_1, e_10_104_0, e_10_104_1, e_91_0_0, e_91_0_1, e_91_0_2, e_91_0_3, e_91_0_4, e_91_0_5, e_91_0_6, e_91_0_7, e_91_0_8, e_91_0_9, e_91_0_10, e_91_0_11, e_91_0_12, e_91_0_13, e_91_0_14, e_91_0_15, e_91_0_16, e_91_0_17, e_131_0, Option.bind_some]
    exact w_ret rfl
  refine ⟨?_, ?_, ?_, ⟨?_, ?_⟩, ⟨?_, ?_⟩, ⟨?_, ?_⟩, ⟨?_, ?_⟩, ⟨?_, ?_⟩, ⟨?_, ?_⟩, ⟨?_, ?_⟩, ⟨?_, ?_⟩, ⟨?_, ?_⟩⟩
  · intro k k1 k2
    simp (disch := omega) only [z_up_fn, z_copy_fn]
  · funext i
    by_cases a : i = 8
    · subst a
      simp (disch := omega) only [z_up_eq]
    · by_cases b : i = 6
      · subst b
        simp (disch := omega) only [z_up_ni, z_up_eq]
      · simp (disch := omega) only [z_up_ni, z_up_fn, z_copy_fn]
  · simp (disch := omega) only [z_up_ni, z_up_eq, z_up_fn, z_copy_fn, and_self]
  · simp (disch := omega) only [z_up_ni, z_up_eq, z_up_fn, z_copy_fn]
  · intro i i0 i1
    simp (disch := omega) only [z_up_ni, z_up_eq, z_up_fn, z_copy_fn, z_copy_in]
  · simp (disch := omega) only [z_up_ni, z_up_eq, z_up_fn, z_copy_fn]
  · intro i i0 i1
    simp (disch := omega) only [z_up_ni, z_up_eq, z_up_fn, z_copy_fn, z_copy_in]
  · simp (disch := omega) only [z_up_ni, z_up_eq, z_up_fn, z_copy_fn]
  · intro i i0 i1
    simp (disch := omega) only [z_up_ni, z_up_eq, z_up_fn, z_copy_fn, z_copy_in]
  · simp (disch := omega) only [z_up_ni, z_up_eq, z_up_fn, z_copy_fn]
  · intro i i0 i1
    simp (disch := omega) only [z_up_ni, z_up_eq, z_up_fn, z_copy_fn, z_copy_in]
  · simp (disch := omega) only [z_up_ni, z_up_eq, z_up_fn, z_copy_fn]
  · intro i i0 i1
    simp (disch := omega) only [z_up_ni, z_up_eq, z_up_fn, z_copy_fn, z_copy_in]
  · simp (disch := omega) only [z_up_ni, z_up_eq, z_up_fn, z_copy_fn]
  · intro i i0 i1
    simp (disch := omega) only [z_up_ni, z_up_eq, z_up_fn, z_copy_fn, z_copy_in]
  · simp (disch := omega) only [z_up_ni, z_up_eq, z_up_fn, z_copy_fn]
  · intro i i0 i1
    simp (disch := omega) only [z_up_ni, z_up_eq, z_up_fn, z_copy_fn, z_copy_in]
  · simp (disch := omega) only [z_up_ni, z_up_eq, z_up_fn, z_copy_fn]
  · intro i i0 i1
    simp (disch := omega) only [z_up_ni, z_up_eq, z_up_fn, z_copy_fn, z_copy_in]
  · simp (disch := omega) only [z_up_ni, z_up_eq, z_up_fn, z_copy_fn]
  · intro i i0 i1
    simp (disch := omega) only [z_up_ni, z_up_eq, z_up_fn, z_copy_fn, z_copy_in]
theorem o_image (d : Nat) (s : Int → Int) (L : Int) (σ : Nat → Int → Int) (h : zV s L σ) : zOK s L (d + 9) 108 205 [] [none] σ := by
  obtain ⟨σ1, c1, c2, c3, ⟨c4, c5⟩, ⟨qP, rP⟩, ⟨qZ, rZ⟩, ⟨qD, rD⟩, ⟨qS, rS⟩, ⟨qR, rR⟩, ⟨qU, rU⟩, ⟨qO, rO⟩, ⟨qG, rG⟩, ⟨qT, rT⟩⟩ := s_108 d σ
  obtain ⟨σ2, m1, m2, m3, ⟨k0, k1, k2, k3, k4, k5, k6, k7, k8, k9, k10⟩, m5, m6, m7, m8⟩ := s_205 (d + 8) σ1
  refine ⟨1, σ1, σ2, c1, m1, ?_, c2 1000 (by omega) (by omega), c2 1001 (by omega) (by omega)⟩
  have F : ∀ k : Nat, k ≠ 0 → k ≠ 71 → ¬ (20 ≤ k ∧ k ≤ 38) → ¬ (113 ≤ k ∧ k ≤ 118) → σ2 k = σ k := by
    intro k a b e f
    rw [m2 k b f, c2 k a e]
  have F1 : ∀ k : Nat, 20 ≤ k ∧ k ≤ 38 → σ2 k = σ1 k := fun k a => m2 k (by omega) (by omega)
  have e71 : σ1 71 = σ 71 := c2 71 (by omega) (by omega)
  have f0 : σ2 0 = z_up (z_up σ 0 6 1) 0 8 0 0 := by rw [m2 0 (by omega) (by omega), c3]
  have f71 : σ2 71 = z_up (z_up σ 71 58 1) 71 0 0 71 := by
    rw [m3]
    funext i
    simp only [z_up_at, e71]
  have e73 : σ1 73 = σ 73 := c2 73 (by omega) (by omega)
  have e74 : σ1 74 = σ 74 := c2 74 (by omega) (by omega)
  have e93 : σ1 93 = σ 93 := c2 93 (by omega) (by omega)
  have e76 : σ1 76 = σ 76 := c2 76 (by omega) (by omega)
  have e77 : σ1 77 = σ 77 := c2 77 (by omega) (by omega)
  have e85 : σ1 85 = σ 85 := c2 85 (by omega) (by omega)
  have e86 : σ1 86 = σ 86 := c2 86 (by omega) (by omega)
  have e106 : σ1 106 = σ 106 := c2 106 (by omega) (by omega)
  rw [e71] at k0 k1 k2 k3 k4 k5 k6 k7 k8 k9 k10
  rw [e73, e74, e93] at m5
  rw [e76, e77] at m6
  rw [e85, e86] at m7
  rw [e106] at m8
  rw [← F1 20 (by omega)] at c4 c5
  rw [← F1 21 (by omega)] at qP
  rw [← F1 22 (by omega)] at rP
  rw [← F1 23 (by omega)] at qZ
  rw [← F1 24 (by omega)] at rZ
  rw [← F1 25 (by omega)] at qD
  rw [← F1 26 (by omega)] at rD
  rw [← F1 27 (by omega)] at qS
  rw [← F1 28 (by omega)] at rS
  rw [← F1 29 (by omega)] at qR
  rw [← F1 30 (by omega)] at rR
  rw [← F1 31 (by omega)] at qU
  rw [← F1 32 (by omega)] at rU
  rw [← F1 33 (by omega)] at qO
  rw [← F1 34 (by omega)] at rO
  rw [← F1 35 (by omega)] at qG
  rw [← F1 36 (by omega)] at rG
  rw [← F1 37 (by omega)] at qT
  rw [← F1 38 (by omega)] at rT
  have E : σ2 = fun k => if k = 0 then z_up (z_up σ 0 6 1) 0 8 0 0 else if k = 71 then z_up (z_up σ 71 58 1) 71 0 0 71 else if 20 ≤ k ∧ k ≤ 38 then σ2 k else if 113 ≤ k ∧ k ≤ 118 then σ2 k else σ k := by
    funext k
    by_cases a : k = 0
    · rw [if_pos a, a, f0]
    · rw [if_neg a]
      by_cases b : k = 71
      · rw [if_pos b, b, f71]
      · rw [if_neg b]
        by_cases e : 20 ≤ k ∧ k ≤ 38
        · rw [if_pos e]
        · rw [if_neg e]
          by_cases f : 113 ≤ k ∧ k ≤ 118
          · rw [if_pos f]
          · rw [if_neg f, F k a b e f]
  have g1 : ∀ i, 0 ≤ i → i < 12 → σ2 114 i = σ 73 i := fun i a b => (m5 i a b).1
  have g2 : ∀ i, 0 ≤ i → i < 12 → σ2 114 (12 + i) = σ 74 i := fun i a b => (m5 i a b).2.1
  have g3 : ∀ i, 0 ≤ i → i < 12 → σ2 117 i = σ 93 i := fun i a b => (m5 i a b).2.2
  have g4 : ∀ i, 0 ≤ i → i < 6 → σ2 115 i = σ 76 i := fun i a b => (m6 i a b).1
  have g5 : ∀ i, 0 ≤ i → i < 6 → σ2 115 (6 + i) = σ 77 i := fun i a b => (m6 i a b).2
  have g6 : ∀ i, 0 ≤ i → i < 20 → σ2 116 i = σ 85 i := fun i a b => (m7 i a b).1
  have g7 : ∀ i, 0 ≤ i → i < 20 → σ2 116 (20 + i) = σ 86 i := fun i a b => (m7 i a b).2
  have hw := zV_P h
  have g8 : ∀ v, z_cnt (σ2 114) v (σ 71 2).toNat = z_cnt (σ 73) v (σ 71 2).toNat := fun v => z_cnt_congr (fun i a b => g1 i a (by have := hw.2.2.1; have := hw.2.1; omega))
  clear m1 m2 m3 c1 c2 c3 f0 f71 hw F F1
  rw [E]
  clear E
  obtain ⟨v_sc, v_st, v_mo, v_se, v_ik, v_ba, v_wP, v_wZ, v_wD, v_wS, v_wR, v_wU, v_wO, v_wG, v_wT, v_P, v_Q, v_Z, v_D, v_S, v_R, v_U, v_O, v_G, v_T, v_kl, v_kmo, v_kse, v_kP, v_kQ, v_kZ, v_kD, v_kS, v_kR, v_kU, v_kO, v_kG, v_kT, v_A, v_X0, v_X1, v_X2, v_X3, v_pc, v_pm, v_lc, v_lm⟩ := h
  refine ⟨v_sc, ?_, v_mo, v_se, ?_, v_ba, v_wP, v_wZ, v_wD, v_wS, v_wR, v_wU, v_wO, v_wG, v_wT, v_P, v_Q, v_Z, v_D, v_S, v_R, v_U, v_O, v_G, v_T, ?_, ?_, ?_, ?_, ?_, ?_, ?_, ?_, ?_, ?_, ?_, ?_, ?_, v_A, v_X0, v_X1, v_X2, v_X3, v_pc, v_pm, v_lc, v_lm⟩
  · rfl
  · exact ⟨rfl, Or.inr rfl⟩
  · intro _
    clear v_sc v_st v_mo v_se v_ik v_ba v_wP v_wZ v_wD v_wS v_wR v_wU v_wO v_wG v_wT v_P v_Q v_Z v_D v_S v_R v_U v_O v_G v_T v_kl v_kmo v_kse v_kP v_kQ v_kZ v_kD v_kS v_kR v_kU v_kO v_kG v_kT v_A v_X0 v_X1 v_X2 v_X3 v_pc v_pm v_lc v_lm
    show zKL (σ2 113 0) (σ 71 2) (σ2 113 1) (σ 71 6) (σ2 113 2) (σ 71 10) (σ2 113 3) (σ 71 13) (σ2 113 4) (σ 71 21) (σ2 113 6) (σ 71 29) (σ2 113 7) (σ 71 36) (σ2 113 8) (σ 71 38) (σ2 113 9) (σ 71 43)
    unfold zKL
    omega
  · intro _
    clear v_sc v_st v_se v_ik v_ba v_wP v_wZ v_wD v_wS v_wR v_wU v_wO v_wG v_wT v_P v_Q v_Z v_D v_S v_R v_U v_O v_G v_T v_kl v_kmo v_kse v_kP v_kQ v_kZ v_kD v_kS v_kR v_kU v_kO v_kG v_kT v_A v_X0 v_X1 v_X2 v_X3 v_pc v_pm v_lc v_lm
    show σ2 20 9 = σ2 113 5 ∧ 0 ≤ σ2 113 5 ∧ σ2 113 5 ≤ 28799
    omega
  · intro _
    clear v_sc v_st v_mo v_ik v_ba v_wP v_wZ v_wD v_wS v_wR v_wU v_wO v_wG v_wT v_P v_Q v_Z v_D v_S v_R v_U v_O v_G v_T v_kl v_kmo v_kse v_kP v_kQ v_kZ v_kD v_kS v_kR v_kU v_kO v_kG v_kT v_A v_X0 v_X1 v_X2 v_X3 v_pc v_pm v_lc v_lm
    show σ2 20 10 = σ2 113 10 ∧ 1 ≤ σ2 113 10 ∧ σ2 113 10 ≤ 12
    omega
  · intro _
    clear v_sc v_st v_mo v_se v_ik v_ba v_wP v_wZ v_wD v_wS v_wR v_wU v_wO v_wG v_wT v_Q v_Z v_D v_S v_R v_U v_O v_G v_T v_kl v_kmo v_kse v_kP v_kQ v_kZ v_kD v_kS v_kR v_kU v_kO v_kG v_kT v_A v_X0 v_X1 v_X2 v_X3 v_pc v_pm v_lc v_lm
    show zBP (σ2 21 3) (σ2 22) (σ2 113 0) (σ2 113 1) (σ 72) (σ2 114) (fun p => σ2 114 (12 + p))
    rw [qP, k0, k1]
    refine ⟨v_P.1, v_P.2.1, v_P.2.2.1, fun p p0 p1 => ?_⟩
    have b := v_P.2.2.1
    have q := v_P.2.2.2 p p0 p1
    simp (disch := omega) only [rP, g1, g2, g3, g4, g5, g6, g7, g8, Int.add_zero]
    exact q
  · intro _
    clear v_sc v_st v_mo v_se v_ik v_ba v_wP v_wZ v_wD v_wS v_wR v_wU v_wO v_wG v_wT v_Z v_D v_S v_R v_U v_O v_G v_T v_kl v_kmo v_kse v_kP v_kQ v_kZ v_kD v_kS v_kR v_kU v_kO v_kG v_kT v_A v_X0 v_X1 v_X2 v_X3 v_pc v_pm v_lc v_lm
    show zBQ (σ2 22) (σ2 113 0) (σ 80) (σ2 113 3)
    intro p p0 p1
    have p1 : p < σ2 113 0 := p1
    have b := v_P.2.2.1
    rw [k0] at p1
    have q := v_Q p p0 p1
    simp (disch := omega) only [rP, k3]
    exact q
  · intro _
    clear v_sc v_st v_mo v_se v_ik v_ba v_wP v_wZ v_wD v_wS v_wR v_wU v_wO v_wG v_wT v_P v_Q v_D v_S v_R v_U v_O v_G v_T v_kl v_kmo v_kse v_kP v_kQ v_kZ v_kD v_kS v_kR v_kU v_kO v_kG v_kT v_A v_X0 v_X1 v_X2 v_X3 v_pc v_pm v_lc v_lm
    show zBZ (σ2 23 3) (σ2 24) (σ2 113 1) (σ2 114) (σ2 113 0) (σ 75) (σ2 115) (fun z => σ2 115 (6 + z))
    rw [qZ, k1, k0]
    refine ⟨v_Z.1, v_Z.2.1, v_Z.2.2.1, fun p p0 p1 => ?_⟩
    have b := v_Z.2.2.1
    have q := v_Z.2.2.2 p p0 p1
    simp (disch := omega) only [rZ, g1, g2, g3, g4, g5, g6, g7, g8, Int.add_zero]
    exact q
  · intro _
    clear v_sc v_st v_mo v_se v_ik v_ba v_wP v_wZ v_wD v_wS v_wR v_wU v_wO v_wG v_wT v_P v_Q v_Z v_S v_R v_U v_O v_G v_T v_kl v_kmo v_kse v_kP v_kQ v_kZ v_kD v_kS v_kR v_kU v_kO v_kG v_kT v_A v_X0 v_X1 v_X2 v_X3 v_pc v_pm v_lc v_lm
    show zBD (σ2 25 3) (σ2 26) (σ2 113 2) (σ2 113 1) (σ 78) (σ 79)
    rw [qD, k2, k1]
    refine ⟨v_D.1, v_D.2.1, v_D.2.2.1, fun p p0 p1 => ?_⟩
    have b := v_D.2.2.1
    have q := v_D.2.2.2 p p0 p1
    simp (disch := omega) only [rD, g1, g2, g3, g4, g5, g6, g7, g8, Int.add_zero]
    exact q
  · intro _
    clear v_sc v_st v_mo v_se v_ik v_ba v_wP v_wZ v_wD v_wS v_wR v_wU v_wO v_wG v_wT v_P v_Q v_Z v_D v_R v_U v_O v_G v_T v_kl v_kmo v_kse v_kP v_kQ v_kZ v_kD v_kS v_kR v_kU v_kO v_kG v_kT v_A v_X0 v_X1 v_X2 v_X3 v_pc v_pm v_lc v_lm
    show zBS (σ2 27 3) (σ2 28) (σ2 113 3) (σ2 113 0) (σ 80) (σ 81) (σ 82) (σ 83) (σ 84) (σ2 116) (fun p => σ2 116 (20 + p))
    rw [qS, k3, k0]
    refine ⟨v_S.1, v_S.2.1, v_S.2.2.1, fun p p0 p1 => ?_⟩
    have b := v_S.2.2.1
    have q := v_S.2.2.2 p p0 p1
    simp (disch := omega) only [rS, g1, g2, g3, g4, g5, g6, g7, g8, Int.add_zero]
    exact q
  · intro _
    clear v_sc v_st v_mo v_se v_ik v_ba v_wP v_wZ v_wD v_wS v_wR v_wU v_wO v_wG v_wT v_P v_Q v_Z v_D v_S v_U v_O v_G v_T v_kl v_kmo v_kse v_kP v_kQ v_kZ v_kD v_kS v_kR v_kU v_kO v_kG v_kT v_A v_X0 v_X1 v_X2 v_X3 v_pc v_pm v_lc v_lm
    show zBR (σ2 29 3) (σ2 30) (σ2 113 4) (σ 87) (σ 88) (σ 89) (σ 90) (σ 91) (σ 92) (σ2 117)
    rw [qR, k4]
    refine ⟨v_R.1, v_R.2.1, v_R.2.2.1, fun p p0 p1 => ?_⟩
    have b := v_R.2.2.1
    have q := v_R.2.2.2 p p0 p1
    simp (disch := omega) only [rR, g1, g2, g3, g4, g5, g6, g7, g8, Int.add_zero]
    exact q
  · intro _
    clear v_sc v_st v_mo v_se v_ik v_ba v_wP v_wZ v_wD v_wS v_wR v_wU v_wO v_wG v_wT v_P v_Q v_Z v_D v_S v_R v_O v_G v_T v_kl v_kmo v_kse v_kP v_kQ v_kZ v_kD v_kS v_kR v_kU v_kO v_kG v_kT v_A v_X0 v_X1 v_X2 v_X3 v_pc v_pm v_lc v_lm
    show zBU (σ2 31 3) (σ2 32) (σ2 113 6) (σ 94) (σ 95) (σ 96) (σ 97) (σ 98)
    rw [qU, k6]
    refine ⟨v_U.1, v_U.2.1, v_U.2.2.1, fun p p0 p1 => ?_⟩
    have b := v_U.2.2.1
    have q := v_U.2.2.2 p p0 p1
    simp (disch := omega) only [rU, g1, g2, g3, g4, g5, g6, g7, g8, Int.add_zero]
    exact q
  · intro _
    clear v_sc v_st v_mo v_se v_ik v_ba v_wP v_wZ v_wD v_wS v_wR v_wU v_wO v_wG v_wT v_P v_Q v_Z v_D v_S v_R v_U v_G v_T v_kl v_kmo v_kse v_kP v_kQ v_kZ v_kD v_kS v_kR v_kU v_kO v_kG v_kT v_A v_X0 v_X1 v_X2 v_X3 v_pc v_pm v_lc v_lm
    show zBO (σ2 33 3) (σ2 34) (σ2 113 7) (σ 99)
    rw [qO, k7]
    refine ⟨v_O.1, v_O.2.1, v_O.2.2.1, fun p p0 p1 => ?_⟩
    have b := v_O.2.2.1
    have q := v_O.2.2.2 p p0 p1
    simp (disch := omega) only [rO, g1, g2, g3, g4, g5, g6, g7, g8, Int.add_zero]
    exact q
  · intro _
    clear v_sc v_st v_mo v_se v_ik v_ba v_wP v_wZ v_wD v_wS v_wR v_wU v_wO v_wG v_wT v_P v_Q v_Z v_D v_S v_R v_U v_O v_T v_kl v_kmo v_kse v_kP v_kQ v_kZ v_kD v_kS v_kR v_kU v_kO v_kG v_kT v_A v_X0 v_X1 v_X2 v_X3 v_pc v_pm v_lc v_lm
    show zBG (σ2 35 3) (σ2 36) (σ2 113 8) (σ 100) (σ 101) (σ 102) (σ 103)
    rw [qG, k8]
    refine ⟨v_G.1, v_G.2.1, v_G.2.2.1, fun p p0 p1 => ?_⟩
    have b := v_G.2.2.1
    have q := v_G.2.2.2 p p0 p1
    simp (disch := omega) only [rG, g1, g2, g3, g4, g5, g6, g7, g8, Int.add_zero]
    exact q
  · intro _
    clear v_sc v_st v_mo v_se v_ik v_ba v_wP v_wZ v_wD v_wS v_wR v_wU v_wO v_wG v_wT v_P v_Q v_Z v_D v_S v_R v_U v_O v_G v_kl v_kmo v_kse v_kP v_kQ v_kZ v_kD v_kS v_kR v_kU v_kO v_kG v_kT v_A v_X0 v_X1 v_X2 v_X3 v_pc v_pm v_lc v_lm
    show zBT (σ2 37 3) (σ2 38) (σ2 113 9) (σ2 113 0) (σ 104) (σ 105) (σ2 118)
    rw [qT, k9, k0]
    refine ⟨v_T.1, v_T.2.1, v_T.2.2.1, fun r r0 r1 => ?_⟩
    have b := v_T.2.2.1
    refine w_BTr ?_ ?_ ?_ ?_ (v_T.2.2.2 r r0 r1)
    · intro i i0 i1
      simp (disch := omega) only [rT]
    · rfl
    · intro i i0 i1
      rfl
    · exact m8 r r0 (by omega)
