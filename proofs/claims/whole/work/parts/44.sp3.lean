theorem z_up_fn {σ : Nat → Int → Int} {k k' : Nat} {i v : Int} (h : k' ≠ k) : z_up σ k i v k' = σ k' := by funext j; exact z_up_ne h
theorem z_rw_fn {σ : Nat → Int → Int} {a k : Nat} {b w : Int} {f : Int → Int} (h : k ≠ a) : z_rw σ a b w f k = σ k := by funext j; exact z_rw_ne h
theorem z_up_ni {σ : Nat → Int → Int} {k : Nat} {i i' v : Int} (h : i' ≠ i) : z_up σ k i v k i' = σ k i' := by rw [z_up_at, if_neg (fun q => h q.2)]
theorem z_up_qi {σ : Nat → Int → Int} {k : Nat} {i i' v : Int} (h : i' = i) : z_up σ k i v k i' = v := by rw [z_up_at, if_pos ⟨rfl, h⟩]
/-- both sides answer alike, and what holds stays -/
def zOK (s : Int → Int) (L : Int) (d m1 m2 : Nat) (as bs : List (Option (Int ⊕ Nat))) (σ : Nat → Int → Int) : Prop := ∃ r σ1 σ2, zE d m1 0 (some (.inr 4) :: as) [] (zS, σ) = some (.inl r, (zS, σ1)) ∧ zE d m2 0 (some (.inr 75) :: bs) [] (zS, σ1) = some (.inl r, (zS, σ2)) ∧ zV s L σ2 ∧ σ1 1000 = σ 1000 ∧ σ1 1001 = σ 1001
theorem zOK_mk2 {s : Int → Int} {L : Int} {d m1 m2 : Nat} {as bs : List (Option (Int ⊕ Nat))} {σ : Nat → Int → Int} {r σ1} {g : (Nat → Int → Int) → (Nat → Int → Int)} (h1 : zE d m1 0 (some (.inr 4) :: as) [] (zS, σ) = some (.inl r, (zS, σ1))) (h12 : ∀ k, 71 ≤ k → σ1 k = σ k) (h2 : ∀ τ : Nat → Int → Int, (∀ k, 71 ≤ k → τ k = σ k) → zE d m2 0 (some (.inr 75) :: bs) [] (zS, τ) = some (.inl r, (zS, g τ))) (h3 : zV s L (g σ1)) : zOK s L d m1 m2 as bs σ := ⟨r, σ1, g σ1, h1, h2 σ1 h12, h3, h12 1000 (by omega), h12 1001 (by omega)⟩
theorem zOK_ro {s : Int → Int} {L : Int} {d m1 m2 : Nat} {as bs : List (Option (Int ⊕ Nat))} {σ : Nat → Int → Int} {r} (h : zV s L σ) (h1 : zE d m1 0 (some (.inr 4) :: as) [] (zS, σ) = some (.inl r, (zS, σ))) (h2 : zE d m2 0 (some (.inr 75) :: bs) [] (zS, σ) = some (.inl r, (zS, σ))) : zOK s L d m1 m2 as bs σ := ⟨r, σ, σ, h1, h2, h, rfl, rfl⟩
theorem w_ret {v r : Int} {τ : Nat → Int → Int} (h : v = r) : (some (.inl v, (zS, τ)) : Option ((Int ⊕ Nat) × Zh)) = some (.inl r, (zS, τ)) := by rw [h]
theorem z_cnt_none {f : Int → Int} {v : Int} : ∀ {n : Nat}, (∀ i : Int, 0 ≤ i → i < n → f i ≠ v) → z_cnt f v n = 0
  | 0, _ => rfl
  | n + 1, h => by
    unfold z_cnt
    rw [z_cnt_none (fun i h0 h1 => h i h0 (by omega)), if_neg (h n (by omega) (by omega))]
    rfl
theorem s_133 (d : Nat) (σ : Nat → Int → Int) (x0 x1 x2 : Int) : zE d 133 0 [some (.inl x0), some (.inl x1), some (.inl x2)] [] (zS, σ) = some (.inl (if x1 ≤ x0 ∧ x0 ≤ x2 then 1 else 0), (zS, σ)) := by
  rw [e_133_0]
  repeat' split
  all_goals first | rfl | omega
theorem s_149 (d : Nat) (σ : Nat → Int → Int) (x0 x1 x2 : Int) : zE d 149 0 [some (.inl x0), some (.inl x1), some (.inl x2)] [] (zS, σ) = some (.inl (if x1 ≤ x0 ∧ x0 ≤ x2 then 1 else 0), (zS, σ)) := by
  rw [e_149_0]
  repeat' split
  all_goals first | rfl | omega
theorem w_01 (p : Prop) [Decidable p] : ((if p then (1 : Int) else 0) = 0 ∨ (if p then (1 : Int) else 0) = 1) := by
  by_cases h : p
  · rw [if_pos h]; exact Or.inr rfl
  · rw [if_neg h]; exact Or.inl rfl
theorem s_134 (d : Nat) (σ : Nat → Int → Int) (x0 : Int) : zE (d + 1) 134 0 [some (.inl x0)] [] (zS, σ) = some (.inl (if 0 ≤ x0 ∧ x0 ≤ 7 then 1 else 0), (zS, σ)) := by
  rw [e_134_0, s_133, Option.bind_some, e_134_7, if_pos (w_01 _)]
theorem s_135 (d : Nat) (σ : Nat → Int → Int) (x0 : Int) : zE (d + 1) 135 0 [some (.inl x0)] [] (zS, σ) = some (.inl (if 0 ≤ x0 ∧ x0 ≤ 28799 then 1 else 0), (zS, σ)) := by
  rw [e_135_0, s_133, Option.bind_some, e_135_8, if_pos (w_01 _)]
theorem s_138 (d : Nat) (σ : Nat → Int → Int) (x0 : Int) : zE (d + 1) 138 0 [some (.inl x0)] [] (zS, σ) = some (.inl (if 0 ≤ x0 ∧ x0 ≤ 3 then 1 else 0), (zS, σ)) := by
  rw [e_138_0, s_133, Option.bind_some, e_138_6, if_pos (w_01 _)]
theorem s_156 (d : Nat) (σ : Nat → Int → Int) (x0 : Int) : zE (d + 1) 156 0 [some (.inl x0)] [] (zS, σ) = some (.inl (if 0 ≤ x0 ∧ x0 ≤ 28799 then 1 else 0), (zS, σ)) := by
  rw [e_156_0, s_149, Option.bind_some, e_156_8, if_pos (w_01 _)]
theorem s_152 (d : Nat) (σ : Nat → Int → Int) (x0 : Int) (h0 : 0 ≤ σ 71 2) (h1 : σ 71 2 ≤ 20) : zE (d + 1) 152 0 [some (.inr 75), some (.inl x0)] [] (zS, σ) = some (.inl (if 0 ≤ x0 ∧ x0 < σ 71 2 then 1 else 0), (zS, σ)) := by
  rw [e_152_0, s_149, Option.bind_some, e_152_11, if_pos (w_01 _), z_wid (by omega) (by omega)]
  by_cases c : 0 ≤ x0 ∧ x0 < σ 71 2
  · rw [if_pos (by omega), if_pos c]
  · rw [if_neg (by omega), if_neg c]
theorem s_153 (d : Nat) (σ : Nat → Int → Int) (x0 : Int) (h0 : 0 ≤ σ 71 6) (h1 : σ 71 6 ≤ 20) : zE (d + 1) 153 0 [some (.inr 75), some (.inl x0)] [] (zS, σ) = some (.inl (if 0 ≤ x0 ∧ x0 < σ 71 6 then 1 else 0), (zS, σ)) := by
  rw [e_153_0, s_149, Option.bind_some, e_153_11, if_pos (w_01 _), z_wid (by omega) (by omega)]
  by_cases c : 0 ≤ x0 ∧ x0 < σ 71 6
  · rw [if_pos (by omega), if_pos c]
  · rw [if_neg (by omega), if_neg c]
theorem s_154 (d : Nat) (σ : Nat → Int → Int) (x0 : Int) (h0 : 0 ≤ σ 71 10) (h1 : σ 71 10 ≤ 20) : zE (d + 1) 154 0 [some (.inr 75), some (.inl x0)] [] (zS, σ) = some (.inl (if 0 ≤ x0 ∧ x0 < σ 71 10 then 1 else 0), (zS, σ)) := by
  rw [e_154_0, s_149, Option.bind_some, e_154_11, if_pos (w_01 _), z_wid (by omega) (by omega)]
  by_cases c : 0 ≤ x0 ∧ x0 < σ 71 10
  · rw [if_pos (by omega), if_pos c]
  · rw [if_neg (by omega), if_neg c]
theorem s_155 (d : Nat) (σ : Nat → Int → Int) (x0 : Int) (h0 : 0 ≤ σ 71 13) (h1 : σ 71 13 ≤ 20) : zE (d + 1) 155 0 [some (.inr 75), some (.inl x0)] [] (zS, σ) = some (.inl (if 0 ≤ x0 ∧ x0 < σ 71 13 then 1 else 0), (zS, σ)) := by
  rw [e_155_0, s_149, Option.bind_some, e_155_11, if_pos (w_01 _), z_wid (by omega) (by omega)]
  by_cases c : 0 ≤ x0 ∧ x0 < σ 71 13
  · rw [if_pos (by omega), if_pos c]
  · rw [if_neg (by omega), if_neg c]
theorem w_days {x : Int} (h : 0 ≤ x) (h2 : x < 2147483648) : z_wrap (Int.tdiv x 100) = x / 100 ∧ Int.tmod x 100 = x % 100 := by
  rw [Int.tdiv_eq_ediv_of_nonneg h, Int.tmod_eq_emod_of_nonneg h, z_wid (by omega) (by omega)]
  exact ⟨rfl, rfl⟩
theorem w_mins {x : Int} (h : 0 ≤ x) (h2 : x < 2147483648) : z_wrap (Int.tdiv x 10000) = x / 10000 ∧ Int.tmod x 10000 = x % 10000 := by
  rw [Int.tdiv_eq_ediv_of_nonneg h, Int.tmod_eq_emod_of_nonneg h, z_wid (by omega) (by omega)]
  exact ⟨rfl, rfl⟩
theorem w_tens {x : Int} (h : 0 ≤ x) (h2 : x < 2147483648) : z_wrap (Int.tdiv x 10) = x / 10 ∧ Int.tmod x 10 = x % 10 := by
  rw [Int.tdiv_eq_ediv_of_nonneg h, Int.tmod_eq_emod_of_nonneg h, z_wid (by omega) (by omega)]
  exact ⟨rfl, rfl⟩
theorem s_136 (d : Nat) (σ : Nat → Int → Int) (x : Int) (h2 : x < 2147483648) : zE d 136 0 [some (.inl x)] [] (zS, σ) = some (.inl (if 0 ≤ x ∧ x / 100 ≤ x % 100 ∧ x % 100 ≤ 19 then 1 else 0), (zS, σ)) := by
  rw [e_136_0]
  by_cases c : x < 0
  · rw [if_pos c, if_neg (by omega)]
  · rw [(w_days (by omega) h2).1, (w_days (by omega) h2).2]
    repeat' split
    all_goals first | rfl | omega
theorem s_137 (d : Nat) (σ : Nat → Int → Int) (x : Int) (h2 : x < 2147483648) : zE d 137 0 [some (.inl x)] [] (zS, σ) = some (.inl (if 0 ≤ x ∧ x / 10000 ≤ x % 10000 ∧ x % 10000 ≤ 1439 then 1 else 0), (zS, σ)) := by
  rw [e_137_0]
  by_cases c : x < 0
  · rw [if_pos c, if_neg (by omega)]
  · rw [(w_mins (by omega) h2).1, (w_mins (by omega) h2).2]
    repeat' split
    all_goals first | rfl | omega
theorem s_160 (d : Nat) (σ : Nat → Int → Int) (x : Int) (h2 : x < 2147483648) : zE (d + 1) 160 0 [some (.inl x)] [] (zS, σ) = some (.inl (if 0 ≤ x ∧ x / 100 ≤ x % 100 ∧ x % 100 ≤ 19 then 1 else 0), (zS, σ)) := by
  rw [e_160_0]
  by_cases c : x < 0
  · rw [if_pos c, if_neg (by omega)]
  · rw [(w_days (by omega) h2).1, if_neg c, s_149, Option.bind_some, e_160_14, (w_days (by omega) h2).1, (w_days (by omega) h2).2]
    by_cases c1 : 0 ≤ x / 100 ∧ x / 100 ≤ 19
    · rw [if_pos c1, if_neg (by decide), s_149, Option.bind_some, e_160_30]
      repeat' split
      all_goals first | rfl | omega
    · rw [if_neg c1, if_pos rfl, if_neg (by omega)]
theorem s_139 (d : Nat) (σ : Nat → Int → Int) (x : Int) (h0 : 0 ≤ σ 4 3) : zE (d + 1) 139 0 [some (.inr 4), some (.inl x)] [] (zS, σ) = some (.inl (if -1 ≤ x ∧ x < σ 4 3 then 1 else 0), (zS, σ)) := by
  rw [e_139_0]
  by_cases c : x = -1
  · rw [if_pos c, if_pos (by omega)]
  · rw [if_neg c, s_has_4, Option.bind_some, e_139_16]
    repeat' split
    all_goals first | rfl | omega
theorem s_37 (d : Nat) (σ : Nat → Int → Int) (x : Int) : zE d 37 0 [some (.inl x)] [] (zS, σ) = some (.inl (if 0 ≤ x ∧ x ≤ 5 then 1 else 0), (zS, σ)) := by
  rw [e_37_0]
  repeat' split
  all_goals first | rfl | omega
theorem s_142 (d : Nat) (σ : Nat → Int → Int) (x1 x2 x3 x4 : Int) (h3 : x3 < 2147483648) : zE (d + 1) 142 0 [some (.inr 4), some (.inl x1), some (.inl x2), some (.inl x3), some (.inl x4)] [] (zS, σ) = some (.inl (if (0 ≤ x1 ∧ x1 < σ 2 3) ∧ (0 ≤ x2 ∧ x2 ≤ 5) ∧ (0 ≤ x3 ∧ x3 / 100 ≤ x3 % 100 ∧ x3 % 100 ≤ 19) ∧ (0 ≤ x4 ∧ x4 ≤ 11) ∧ (x2 = 2 → x4 < σ 2 3) then 1 else 0), (zS, σ)) := by
  rw [e_142_0, s_has_2, Option.bind_some, e_142_11]
  by_cases a1 : 0 ≤ x1 ∧ x1 < σ 2 3
  · rw [if_pos a1, if_neg (by decide), s_37, Option.bind_some, e_142_18]
    by_cases a2 : 0 ≤ x2 ∧ x2 ≤ 5
    · rw [if_pos a2, if_neg (by decide), s_136 _ _ _ h3, Option.bind_some, e_142_25]
      by_cases a3 : 0 ≤ x3 ∧ x3 / 100 ≤ x3 % 100 ∧ x3 % 100 ≤ 19
      · rw [if_pos a3, if_neg (by decide), s_133, Option.bind_some, e_142_38]
        by_cases a4 : 0 ≤ x4 ∧ x4 ≤ 11
        · rw [if_pos a4, if_neg (by decide)]
          by_cases a5 : x2 = 2
          · rw [if_pos a5, s_has_2, Option.bind_some, e_142_58]
            repeat' split
            all_goals first | rfl | omega
          · rw [if_neg a5, if_pos (by omega)]
        · rw [if_neg a4, if_pos rfl, if_neg (by omega)]
      · rw [if_neg a3, if_pos rfl, if_neg (by omega)]
    · rw [if_neg a2, if_pos rfl, if_neg (by omega)]
  · rw [if_neg a1, if_pos rfl, if_neg (by omega)]
theorem s_161 (d : Nat) (σ : Nat → Int → Int) (x1 x2 x3 x4 : Int) (h3 : x3 < 2147483648) (p0 : 0 ≤ σ 71 2) (p1 : σ 71 2 ≤ 20) : zE (d + 2) 161 0 [some (.inr 75), some (.inl x1), some (.inl x2), some (.inl x3), some (.inl x4)] [] (zS, σ) = some (.inl (if (0 ≤ x1 ∧ x1 < σ 71 2) ∧ (0 ≤ x2 ∧ x2 ≤ 5) ∧ (0 ≤ x3 ∧ x3 / 100 ≤ x3 % 100 ∧ x3 % 100 ≤ 19) ∧ (0 ≤ x4 ∧ x4 ≤ 11) ∧ (x2 = 2 → x4 < σ 71 2) then 1 else 0), (zS, σ)) := by
  rw [e_161_0, s_152 _ _ _ p0 p1, Option.bind_some, e_161_5]
  by_cases a1 : 0 ≤ x1 ∧ x1 < σ 71 2
  · rw [if_pos a1, if_neg (by decide), s_149, Option.bind_some, e_161_14]
    by_cases a2 : 0 ≤ x2 ∧ x2 ≤ 5
    · rw [if_pos a2, if_neg (by decide), s_160 _ _ _ h3, Option.bind_some, e_161_21]
      by_cases a3 : 0 ≤ x3 ∧ x3 / 100 ≤ x3 % 100 ∧ x3 % 100 ≤ 19
      · rw [if_pos a3, if_neg (by decide), s_149, Option.bind_some, e_161_32]
        by_cases a4 : 0 ≤ x4 ∧ x4 ≤ 11
        · rw [if_pos a4, if_neg (by decide)]
          by_cases a5 : x2 = 2
          · rw [if_pos a5, s_152 _ _ _ p0 p1, Option.bind_some, e_161_46]
            repeat' split
            all_goals first | rfl | omega
          · rw [if_neg a5, if_pos (by omega)]
        · rw [if_neg a4, if_pos rfl, if_neg (by omega)]
      · rw [if_neg a3, if_pos rfl, if_neg (by omega)]
    · rw [if_neg a2, if_pos rfl, if_neg (by omega)]
  · rw [if_neg a1, if_pos rfl, if_neg (by omega)]
theorem w_ref {s : Int → Int} {L : Int} {σ : Nat → Int → Int} (h : zV s L σ) (k : Int) : zV s L (z_up (z_up σ 0 8 k) 71 0 k) := by
  obtain ⟨v_sc, v_st, v_mo, v_se, v_ik, v_ba, v_wP, v_wZ, v_wD, v_wS, v_wR, v_wU, v_wO, v_wG, v_wT, v_P, v_Q, v_Z, v_D, v_S, v_R, v_U, v_O, v_G, v_T, v_kl, v_kmo, v_kse, v_kP, v_kQ, v_kZ, v_kD, v_kS, v_kR, v_kU, v_kO, v_kG, v_kT, v_A, v_X0, v_X1, v_X2, v_X3, v_pc, v_pm, v_lc, v_lm⟩ := h
  refine ⟨v_sc, ?_, v_mo, v_se, v_ik, v_ba, v_wP, v_wZ, v_wD, v_wS, v_wR, v_wU, v_wO, v_wG, v_wT, v_P, v_Q, v_Z, v_D, v_S, v_R, v_U, v_O, v_G, v_T, v_kl, v_kmo, v_kse, v_kP, v_kQ, v_kZ, v_kD, v_kS, v_kR, v_kU, v_kO, v_kG, v_kT, v_A, v_X0, v_X1, v_X2, v_X3, v_pc, v_pm, v_lc, v_lm⟩
  rfl
theorem w_S_mono {m : Int} {c : Int → Int} {n np np' : Int} {of ki fi la nu lf lt : Int → Int} (hn : np ≤ np') (h : zBS m c n np of ki fi la nu lf lt) : zBS m c n np' of ki fi la nu lf lt := by
  refine ⟨h.1, h.2.1, h.2.2.1, fun p p0 p1 => ?_⟩
  have q := h.2.2.2 p p0 p1
  omega
theorem w_T_mono {m : Int} {c : Int → Int} {n np np' : Int} {rs ro st : Int → Int} (hn : np ≤ np') (h : zBT m c n np rs ro st) : zBT m c n np' rs ro st := by
  refine ⟨h.1, h.2.1, h.2.2.1, fun p p0 p1 => ?_⟩
  obtain ⟨a1, a2, a3, a4, a5, a6, a7, a8⟩ := h.2.2.2 p p0 p1
  refine ⟨a1, a2, a3, a4, a5, a6, a7, fun i i0 i1 => ?_⟩
  obtain ⟨b1, b2, b3, b4⟩ := a8 i i0 i1
  exact ⟨b1, b2, by omega, b4⟩
theorem w_P_mono {m : Int} {c : Int → Int} {n nz nz' : Int} {a b e : Int → Int} (hn : nz ≤ nz') (h : zBP m c n nz a b e) : zBP m c n nz' a b e := by
  refine ⟨h.1, h.2.1, h.2.2.1, fun p p0 p1 => ?_⟩
  have q := h.2.2.2 p p0 p1
  omega
theorem w_D_mono {m : Int} {c : Int → Int} {n nz nz' : Int} {a b : Int → Int} (hn : nz ≤ nz') (h : zBD m c n nz a b) : zBD m c n nz' a b := by
  refine ⟨h.1, h.2.1, h.2.2.1, fun p p0 p1 => ?_⟩
  have q := h.2.2.2 p p0 p1
  omega
