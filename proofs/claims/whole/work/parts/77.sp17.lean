theorem w_min1 (d : Nat) (σ : Nat → Int → Int) (x y : Int) (h : y ≤ x) : zE d 236 0 [some (.inl x), some (.inl y)] [] (zS, σ) = some (.inl y, (zS, σ)) := by
  rw [e_236_0]
  repeat' split
  all_goals first | rfl | (rw [show x = y by omega])
theorem s_44 (d : Nat) (σ : Nat → Int → Int) (g : Nat) (hg : g < 6) (b : 0 ≤ σ 54 g - σ 53 g ∧ σ 54 g - σ 53 g ≤ 20) (w0 : 0 ≤ w_wt (σ 51) (σ 53) (σ 54) g) (w1 : w_wt (σ 51) (σ 53) (σ 54) g ≤ 1000) : zE d 44 0 [some (.inr 53), some (.inl g)] [] (zS, σ) = some (.inl (w_wt (σ 51) (σ 53) (σ 54) g), (zS, σ)) := by
  have g6 : 0 ≤ ((g : Nat) : Int) ∧ ((g : Nat) : Int) < 6 := by omega
  have x : w_wt (σ 51) (σ 53) (σ 54) g = σ 51 g * (σ 54 g - σ 53 g + 1) := rfl
  rw [e_44_0, if_pos g6, if_pos g6, if_pos g6, z_wid (x := σ 54 g - σ 53 g) (by omega) (by omega), z_wid (x := σ 54 g - σ 53 g + 1) (by omega) (by omega), ← x, z_wid (by omega) (by omega)]
theorem s_46l (d : Nat) (o1 : Option (Int ⊕ Nat)) (n : Nat) (hn : n ≤ 6) : ∀ (j k : Nat) (σ : Nat → Int → Int), k + j = n → σ 49 10 = (n : Int) → ∃ σ' : Nat → Int → Int, zE d 46 7 [some (.inr 53), o1, some (.inl k)] [] (zS, σ) = some (.inl 0, (zS, σ')) ∧ (∀ c : Nat, c ≠ 59 → σ' c = σ c) ∧ (∀ i : Nat, i < k → σ' 59 i = σ 59 i) ∧ (∀ i : Nat, k ≤ i → i < n → σ' 59 i = σ 58 i)
  | 0, k, σ, hk, en => by
    rw [e_46_7, if_neg (by omega)]
    exact ⟨σ, rfl, fun _ _ => rfl, fun _ _ => rfl, fun i a b => by omega⟩
  | j + 1, k, σ, hk, en => by
    have b6 : 0 ≤ ((k : Nat) : Int) ∧ ((k : Nat) : Int) < 6 := by omega
    rw [e_46_7, if_pos (by omega), if_pos b6, if_pos b6, z_wid (by omega) (by omega)]
    obtain ⟨σ', h1, h2, h3, h4⟩ := s_46l d o1 n hn j (k + 1) (z_up σ 59 k (σ 58 k)) (by omega) (by rw [z_up_fn (by omega)]; exact en)
    refine ⟨σ', h1, fun e he => ?_, fun i hi => ?_, fun i hi hj => ?_⟩
    · rw [h2 e he, z_up_fn he]
    · rw [h3 i (by omega), z_up_ni (by omega)]
    · by_cases w : i = k
      · subst w
        rw [h3 i (by omega), z_up_eq]
      · rw [h4 i (by omega) hj, z_up_fn (by omega)]
/-- a room is kept as it is tried -/
theorem s_48l (d : Nat) (g : Nat) (hg : g < 6) (m e : Int) (o2 : Option (Int ⊕ Nat)) (he : e < 80) : ∀ (j : Nat) (i : Int) (σ : Nat → Int → Int), 0 ≤ i → i + j = e + 1 → (∀ t, i ≤ t → t ≤ e → -200 ≤ σ 55 t + m ∧ σ 55 t + m ≤ 200) → ∃ σ' : Nat → Int → Int, zE d 48 26 [some (.inr 53), some (.inl g), o2, some (.inl m), some (.inl e), some (.inl i)] [] (zS, σ) = some (.inl 0, (zS, σ')) ∧ (∀ c : Nat, c ≠ 55 → c ≠ 56 → σ' c = σ c) ∧ (∀ t, σ' 55 t = σ 55 t + (if i ≤ t ∧ t ≤ e then m else 0)) ∧ (∀ t, σ' 56 t = if i ≤ t ∧ t ≤ e then σ 52 g else σ 56 t)
  | 0, i, σ, i0, i1, hb => by
    rw [e_48_26, if_pos (by omega)]
    refine ⟨σ, rfl, fun _ _ _ => rfl, fun t => ?_, fun t => ?_⟩
    · rw [if_neg (by omega), Int.add_zero]
    · rw [if_neg (by omega)]
  | j + 1, i, σ, i0, i1, hb => by
    have g6 : 0 ≤ ((g : Nat) : Int) ∧ ((g : Nat) : Int) < 6 := by omega
    have b8 : 0 ≤ i ∧ i < 80 := by omega
    have bi := hb i (by omega) (by omega)
    rw [e_48_26, if_neg (by omega), if_pos b8, if_pos b8, if_pos g6, if_pos b8, z_wid (x := i + 1) (by omega) (by omega), z_wid (by omega) (by omega)]
    obtain ⟨σ', h1, h2, h3, h4⟩ := s_48l d g hg m e o2 he j (i + 1) (z_up (z_up σ 55 i (σ 55 i + m)) 56 i (σ 52 g)) (by omega) (by omega) (fun t t0 t1 => by
      rw [z_up_fn (by omega), z_up_ni (by omega)]
      exact hb t (by omega) t1)
    refine ⟨σ', h1, fun c c1 c2 => ?_, fun t => ?_, fun t => ?_⟩
    · rw [h2 c c1 c2, z_up_fn c2, z_up_fn c1]
    · rw [h3 t, z_up_fn (by omega)]
      by_cases w : t = i
      · subst w
        rw [z_up_eq, if_neg (by omega), if_pos (by omega), Int.add_zero]
      · rw [z_up_ni w]
        by_cases c : i ≤ t ∧ t ≤ e
        · rw [if_pos c, if_pos (by omega)]
        · rw [if_neg c, if_neg (by omega)]
    · rw [h4 t]
      by_cases w : t = i
      · subst w
        rw [z_up_eq, if_neg (by omega), if_pos (by omega)]
      · rw [z_up_ni w, z_up_fn (by omega), z_up_fn (by omega), z_up_fn (by omega)]
        by_cases c : i ≤ t ∧ t ≤ e
        · rw [if_pos c, if_pos (by omega)]
        · rw [if_neg c, if_neg (by omega)]
theorem s_48 (d : Nat) (g : Nat) (hg : g < 6) (x m a b : Int) (σ : Nat → Int → Int) (hx : 0 ≤ x ∧ x ≤ 3) (ea : σ 53 g = a) (eb : σ 54 g = b) (h0 : 0 ≤ a) (h1 : a ≤ b) (h2 : b ≤ 19) (hb : ∀ t, 20 * x + a ≤ t → t ≤ 20 * x + b → -200 ≤ σ 55 t + m ∧ σ 55 t + m ≤ 200) : ∃ σ' : Nat → Int → Int, zE d 48 0 [some (.inr 53), some (.inl g), some (.inl x), some (.inl m), none, none] [] (zS, σ) = some (.inl 0, (zS, σ')) ∧ (∀ c : Nat, c ≠ 55 → c ≠ 56 → σ' c = σ c) ∧ (∀ t, σ' 55 t = σ 55 t + (if 20 * x + a ≤ t ∧ t ≤ 20 * x + b then m else 0)) ∧ (∀ t, σ' 56 t = if 20 * x + a ≤ t ∧ t ≤ 20 * x + b then σ 52 g else σ 56 t) := by
  have g6 : 0 ≤ ((g : Nat) : Int) ∧ ((g : Nat) : Int) < 6 := by omega
  rw [e_48_0, if_pos g6, if_pos g6, ea, eb, z_wid (x := x * 20) (by omega) (by omega), z_wid (x := x * 20 + b) (by omega) (by omega), z_wid (x := x * 20 + a) (by omega) (by omega), show x * 20 + a = 20 * x + a by omega, show x * 20 + b = 20 * x + b by omega]
  exact s_48l d g hg m (20 * x + b) _ (by omega) (b - a + 1).toNat (20 * x + a) σ (by omega) (by omega) hb
theorem s_47l (d : Nat) (g : Nat) (hg : g < 6) (fr e : Int) (o2 : Option (Int ⊕ Nat)) (he : e < 80) (σ : Nat → Int → Int) : ∀ (j : Nat) (i : Int), 0 ≤ i → i + j = e + 1 → ∃ v : Int, zE d 47 46 [some (.inr 53), some (.inl g), o2, some (.inl fr), some (.inl e), some (.inl i)] [] (zS, σ) = some (.inl v, (zS, σ)) ∧ ((v = 1 ∧ ∀ t, i ≤ t → t ≤ e → σ 55 t ≤ fr ∧ (0 < σ 55 t → σ 56 t = σ 52 g)) ∨ (v = 0 ∧ ∃ t, i ≤ t ∧ t ≤ e ∧ ¬ (σ 55 t ≤ fr ∧ (0 < σ 55 t → σ 56 t = σ 52 g))))
  | 0, i, i0, i1 => by
    rw [e_47_46, if_pos (by omega)]
    exact ⟨1, rfl, Or.inl ⟨rfl, fun t a b => by omega⟩⟩
  | j + 1, i, i0, i1 => by
    have g6 : 0 ≤ ((g : Nat) : Int) ∧ ((g : Nat) : Int) < 6 := by omega
    have b8 : 0 ≤ i ∧ i < 80 := by omega
    obtain ⟨v, v1, v2⟩ := s_47l d g hg fr e o2 he σ j (i + 1) (by omega) (by omega)
    have back : (σ 55 i ≤ fr ∧ (0 < σ 55 i → σ 56 i = σ 52 g)) → ((v = 1 ∧ ∀ t, i ≤ t → t ≤ e → σ 55 t ≤ fr ∧ (0 < σ 55 t → σ 56 t = σ 52 g)) ∨ (v = 0 ∧ ∃ t, i ≤ t ∧ t ≤ e ∧ ¬ (σ 55 t ≤ fr ∧ (0 < σ 55 t → σ 56 t = σ 52 g)))) := by
      intro w
      rcases v2 with v2 | v2
      · refine Or.inl ⟨v2.1, fun t a b => ?_⟩
        by_cases q : t = i
        · subst q
          exact w
        · exact v2.2 t (by omega) b
      · obtain ⟨z1, t, z2, z3, z4⟩ := v2
        exact Or.inr ⟨z1, t, by omega, z3, z4⟩
    rw [e_47_46, if_neg (by omega), if_pos b8]
    by_cases c1 : fr < σ 55 i
    · rw [if_pos c1]
      exact ⟨0, rfl, Or.inr ⟨rfl, i, Int.le_refl _, by omega, fun w => by omega⟩⟩
    · rw [if_neg c1, if_pos b8]
      by_cases c2 : 0 < σ 55 i
      · rw [if_pos c2, if_pos b8, if_pos g6]
        by_cases c3 : σ 56 i = σ 52 g
        · rw [if_pos c3, z_wid (by omega) (by omega), v1]
          exact ⟨v, rfl, back ⟨by omega, fun _ => c3⟩⟩
        · rw [if_neg c3]
          exact ⟨0, rfl, Or.inr ⟨rfl, i, Int.le_refl _, by omega, fun w => c3 (w.2 c2)⟩⟩
      · rw [if_neg c2, z_wid (by omega) (by omega), v1]
        exact ⟨v, rfl, back ⟨by omega, fun q => absurd q c2⟩⟩
theorem s_47 (d : Nat) (g : Nat) (hg : g < 6) (x a b : Int) (σ : Nat → Int → Int) (hx : 0 ≤ x ∧ x ≤ 3) (ea : σ 53 g = a) (eb : σ 54 g = b) (h0 : 0 ≤ a) (h1 : a ≤ b) (h2 : b ≤ 19) (hf : -100 ≤ σ 50 x - σ 51 g ∧ σ 50 x - σ 51 g ≤ 100) : ∃ v : Int, zE d 47 0 [some (.inr 53), some (.inl g), some (.inl x), none, none, none] [] (zS, σ) = some (.inl v, (zS, σ)) ∧ ((v = 1 ∧ 0 ≤ σ 50 x - σ 51 g ∧ ∀ t, 20 * x + a ≤ t → t ≤ 20 * x + b → σ 55 t ≤ σ 50 x - σ 51 g ∧ (0 < σ 55 t → σ 56 t = σ 52 g)) ∨ (v = 0 ∧ (σ 50 x - σ 51 g < 0 ∨ ∃ t, 20 * x + a ≤ t ∧ t ≤ 20 * x + b ∧ ¬ (σ 55 t ≤ σ 50 x - σ 51 g ∧ (0 < σ 55 t → σ 56 t = σ 52 g))))) := by
  have g6 : 0 ≤ ((g : Nat) : Int) ∧ ((g : Nat) : Int) < 6 := by omega
  have x4 : 0 ≤ x ∧ x < 4 := by omega
  rw [e_47_0, if_pos x4, if_pos g6, z_wid (x := σ 50 x - σ 51 g) (by omega) (by omega)]
  by_cases c : σ 50 x - σ 51 g < 0
  · rw [if_pos c]
    exact ⟨0, rfl, Or.inr ⟨rfl, Or.inl c⟩⟩
  · rw [if_neg c, if_pos g6, if_pos g6, ea, eb, z_wid (x := x * 20) (by omega) (by omega), z_wid (x := x * 20 + b) (by omega) (by omega), z_wid (x := x * 20 + a) (by omega) (by omega), show x * 20 + a = 20 * x + a by omega, show x * 20 + b = 20 * x + b by omega]
    obtain ⟨v, v1, v2⟩ := s_47l d g hg (σ 50 x - σ 51 g) (20 * x + b) (some (.inl x)) (by omega) σ (b - a + 1).toNat (20 * x + a) (by omega) (by omega)
    refine ⟨v, v1, ?_⟩
    rcases v2 with v2 | v2
    · exact Or.inl ⟨v2.1, by omega, v2.2⟩
    · exact Or.inr ⟨v2.1, Or.inr v2.2⟩
