theorem o_placed (d : Nat) (s : Int → Int) (L : Int) (σ : Nat → Int → Int) (h : zV s L σ) (x y : Int) (b : y < 2147483648) : zOK s L (d + 9) 121 201 [some (.inl x), some (.inl y)] [some (.inl x), some (.inl y)] σ := by
  have hwP := zV_wP h
  have hP := (zV_P h).1
  have hP1 := (zV_P h).2.1
  have hP2 := (zV_P h).2.2.1
  have hwT := zV_wT h
  have hT := (zV_T h).1
  have hT1 := (zV_T h).2.1
  have hT2 := (zV_T h).2.2.1
  have hv := zV_P h
  have hT0 := zV_T h
  have g70 : ∀ e : Nat, zE (e + 2) 70 0 [some (.inr 22), some (.inl x), some (.inl y), none, none, none] [] (zS, σ) = some (.inl (if 0 ≤ x ∧ x < σ 18 3 ∧ 0 ≤ y then w_at σ x y else -1), (zS, σ)) := fun e => s_70 e σ x y (by omega) hT0 b
  have g199 : ∀ e : Nat, 0 ≤ x ∧ x < σ 18 3 → 0 ≤ y → zE e 199 0 [some (.inr 75), some (.inl x), some (.inl y), none, none] [] (zS, σ) = some (.inl (w_at σ x y), (zS, σ)) := by
    intro e p q
    have r := hT0.2.2.2 x p.1 (by omega)
    exact s_199 e σ x y (by omega) ⟨r.1, r.2.1⟩ q b
  by_cases c1 : 0 ≤ x ∧ x < σ 18 3
  · by_cases c2 : 0 ≤ y
    · apply zOK_ro h
      · simp (disch := omega) only [e_121_0, e_121_12, g70, Option.bind_some, Int.add_zero, z_wid, or_true, true_or, z_up_fn, z_up_ni, z_up_eq, z_up_qi, z_rw_fn, z_rw_in, z_rw_out, if_pos, if_neg, ↓reduceIte] <;> exact w_ret rfl
      · simp (disch := omega) only [e_201_0, e_201_11, e_201_24, s_149, g199, Option.bind_some, Int.add_zero, z_wid, or_true, true_or, z_up_fn, z_up_ni, z_up_eq, z_up_qi, z_rw_fn, z_rw_in, z_rw_out, if_pos, if_neg, ↓reduceIte] <;> exact w_ret (by rfl)
    · apply zOK_ro h
      · simp (disch := omega) only [e_121_0, e_121_12, g70, Option.bind_some, Int.add_zero, z_wid, or_true, true_or, z_up_fn, z_up_ni, z_up_eq, z_up_qi, z_rw_fn, z_rw_in, z_rw_out, if_pos, if_neg, ↓reduceIte] <;> exact w_ret rfl
      · simp (disch := omega) only [e_201_0, e_201_11, e_201_24, s_149, g199, Option.bind_some, Int.add_zero, z_wid, or_true, true_or, z_up_fn, z_up_ni, z_up_eq, z_up_qi, z_rw_fn, z_rw_in, z_rw_out, if_pos, if_neg, ↓reduceIte] <;> exact w_ret (by rfl)
  · by_cases c2 : 0 ≤ y
    · apply zOK_ro h
      · simp (disch := omega) only [e_121_0, e_121_12, g70, Option.bind_some, Int.add_zero, z_wid, or_true, true_or, z_up_fn, z_up_ni, z_up_eq, z_up_qi, z_rw_fn, z_rw_in, z_rw_out, if_pos, if_neg, ↓reduceIte] <;> exact w_ret rfl
      · simp (disch := omega) only [e_201_0, e_201_11, e_201_24, s_149, g199, Option.bind_some, Int.add_zero, z_wid, or_true, true_or, z_up_fn, z_up_ni, z_up_eq, z_up_qi, z_rw_fn, z_rw_in, z_rw_out, if_pos, if_neg, ↓reduceIte] <;> exact w_ret (by rfl)
    · apply zOK_ro h
      · simp (disch := omega) only [e_121_0, e_121_12, g70, Option.bind_some, Int.add_zero, z_wid, or_true, true_or, z_up_fn, z_up_ni, z_up_eq, z_up_qi, z_rw_fn, z_rw_in, z_rw_out, if_pos, if_neg, ↓reduceIte] <;> exact w_ret rfl
      · simp (disch := omega) only [e_201_0, e_201_11, e_201_24, s_149, g199, Option.bind_some, Int.add_zero, z_wid, or_true, true_or, z_up_fn, z_up_ni, z_up_eq, z_up_qi, z_rw_fn, z_rw_in, z_rw_out, if_pos, if_neg, ↓reduceIte] <;> exact w_ret (by rfl)
theorem o_medals (d : Nat) (s : Int → Int) (L : Int) (σ : Nat → Int → Int) (h : zV s L σ) (x y : Int) : zOK s L (d + 9) 122 204 [some (.inl x), some (.inl y)] [some (.inl x), some (.inl y), none, none] σ := by
  have hwP := zV_wP h
  have hP := (zV_P h).1
  have hP1 := (zV_P h).2.1
  have hP2 := (zV_P h).2.2.1
  have hwT := zV_wT h
  have hT := (zV_T h).1
  have hT1 := (zV_T h).2.1
  have hT2 := (zV_T h).2.2.1
  have hv := zV_P h
  have hT0 := zV_T h
  have g71 : ∀ (e : Nat) (a w : Int), 0 ≤ w → w ≤ 3 → zE (e + 3) 71 0 [some (.inr 5), some (.inl a), some (.inl w), none, none, none] [] (zS, σ) = some (.inl (w_med σ a w), (zS, σ)) := fun e a w w0 w1 => s_71 e σ a w (by omega) (by omega) hv hT0 w0 (by omega)
  have g202 : ∀ (e : Nat) (a w : Int), 0 ≤ w → w ≤ 3 → zE (e + 1) 202 0 [some (.inr 75), some (.inl a), some (.inl w), none, none, none] [] (zS, σ) = some (.inl (w_med σ a w), (zS, σ)) := fun e a w w0 w1 => s_202 e σ a w (by omega) hT0 w0 (by omega)
  have g72 : ∀ e : Nat, zE (e + 5) 72 0 [some (.inr 5), some (.inl x), none, none] [] (zS, σ) = some (.inl (w_sumf (w_tpf (w_med σ) x) 8 0), (zS, σ)) := by
    intro e
    rw [e_72_0, s_72l (e + 3) σ (w_med σ) x (g71 e) 8 0 0 (by omega) (by omega) (by omega) (by omega), Int.zero_add]
  have g204 : ∀ (e : Nat) (o2 : Option (Int ⊕ Nat)), zE (e + 3) 204 38 [some (.inr 75), some (.inl x), o2, some (.inl 0), some (.inl 0)] [] (zS, σ) = some (.inl (w_sumf (w_tpf (w_med σ) x) 8 0), (zS, σ)) := by
    intro e o2
    rw [s_204l (e + 1) σ (w_med σ) x o2 (g202 e) 8 0 0 (by omega) (by omega) (by omega) (by omega), Int.zero_add]
  by_cases c1 : 0 ≤ x ∧ x ≤ 7
  · by_cases c2 : 0 ≤ y ∧ y ≤ 3
    · by_cases c3 : y = 3
      · apply zOK_ro h
        · simp (disch := omega) only [e_122_0, e_122_4, e_122_13, e_122_31, e_122_43, s_133, s_134, g71, g72, Option.bind_some, Int.add_zero, z_wid, or_true, true_or, z_up_fn, z_up_ni, z_up_eq, z_up_qi, z_rw_fn, z_rw_in, z_rw_out, if_pos, if_neg, ↓reduceIte] <;> exact w_ret rfl
        · simp (disch := omega) only [e_204_0, e_204_7, e_204_16, e_204_32, e_204_59, s_149, g202, g204, Option.bind_some, Int.add_zero, z_wid, or_true, true_or, z_up_fn, z_up_ni, z_up_eq, z_up_qi, z_rw_fn, z_rw_in, z_rw_out, if_pos, if_neg, ↓reduceIte] <;> exact w_ret (by rfl)
      · apply zOK_ro h
        · simp (disch := omega) only [e_122_0, e_122_4, e_122_13, e_122_31, e_122_43, s_133, s_134, g71, g72, Option.bind_some, Int.add_zero, z_wid, or_true, true_or, z_up_fn, z_up_ni, z_up_eq, z_up_qi, z_rw_fn, z_rw_in, z_rw_out, if_pos, if_neg, ↓reduceIte] <;> exact w_ret rfl
        · simp (disch := omega) only [e_204_0, e_204_7, e_204_16, e_204_32, e_204_59, s_149, g202, g204, Option.bind_some, Int.add_zero, z_wid, or_true, true_or, z_up_fn, z_up_ni, z_up_eq, z_up_qi, z_rw_fn, z_rw_in, z_rw_out, if_pos, if_neg, ↓reduceIte] <;> exact w_ret (by rfl)
    · apply zOK_ro h
      · simp (disch := omega) only [e_122_0, e_122_4, e_122_13, e_122_31, e_122_43, s_133, s_134, g71, g72, Option.bind_some, Int.add_zero, z_wid, or_true, true_or, z_up_fn, z_up_ni, z_up_eq, z_up_qi, z_rw_fn, z_rw_in, z_rw_out, if_pos, if_neg, ↓reduceIte] <;> exact w_ret rfl
      · simp (disch := omega) only [e_204_0, e_204_7, e_204_16, e_204_32, e_204_59, s_149, g202, g204, Option.bind_some, Int.add_zero, z_wid, or_true, true_or, z_up_fn, z_up_ni, z_up_eq, z_up_qi, z_rw_fn, z_rw_in, z_rw_out, if_pos, if_neg, ↓reduceIte] <;> exact w_ret (by rfl)
  · apply zOK_ro h
    · simp (disch := omega) only [e_122_0, e_122_4, e_122_13, e_122_31, e_122_43, s_133, s_134, g71, g72, Option.bind_some, Int.add_zero, z_wid, or_true, true_or, z_up_fn, z_up_ni, z_up_eq, z_up_qi, z_rw_fn, z_rw_in, z_rw_out, if_pos, if_neg, ↓reduceIte] <;> exact w_ret rfl
    · simp (disch := omega) only [e_204_0, e_204_7, e_204_16, e_204_32, e_204_59, s_149, g202, g204, Option.bind_some, Int.add_zero, z_wid, or_true, true_or, z_up_fn, z_up_ni, z_up_eq, z_up_qi, z_rw_fn, z_rw_in, z_rw_out, if_pos, if_neg, ↓reduceIte] <;> exact w_ret (by rfl)
