theorem o_rule (d : Nat) (s : Int → Int) (L : Int) (σ : Nat → Int → Int) (h : zV s L σ) (b x2 x3 x4 x5 : Int) (hb : b = 0 ∨ b = 1) (h4 : x4 < 2147483648) (h5 : x5 < 2147483648) : zOK s L (d + 9) 98 165 [some (.inl b), some (.inl x2), some (.inl x3), some (.inl x4), some (.inl x5)] [some (.inl b), some (.inl x2), some (.inl x3), some (.inl x4), some (.inl x5), none] σ := by
  rcases hb with hb | hb <;> subst hb
  · exact o_rule0 d s L σ h x2 x3 x4 x5 h4 h5
  · exact o_rule1 d s L σ h x2 x3 x4 x5 h4 h5
theorem o_unit (d : Nat) (s : Int → Int) (L : Int) (σ : Nat → Int → Int) (h : zV s L σ) (x1 x2 x3 x4 b : Int) (hb : b = 0 ∨ b = 1) (h4 : x4 < 2147483648) : zOK s L (d + 9) 102 178 [some (.inl x1), some (.inl x2), some (.inl x3), some (.inl x4), some (.inl b)] [some (.inl x1), some (.inl x2), some (.inl x3), some (.inl x4), some (.inl b), none] σ := by
  by_cases c : x4 = -1
  · subst c
    rcases hb with hb | hb <;> subst hb
    · exact o_unit00 d s L σ h x1 x2 x3
    · exact o_unit01 d s L σ h x1 x2 x3
  · rcases hb with hb | hb <;> subst hb
    · exact o_unit10 d s L σ h x1 x2 x3 x4 h4 c
    · exact o_unit11 d s L σ h x1 x2 x3 x4 h4 c
theorem w_l_person (s : Int → Int) (L : Int) (σ : Nat → Int → Int) (h : zV s L σ) (hs : ∀ j, -2147483648 ≤ s j ∧ s j < 2147483648) (hL : L ≤ 3072) (i : Int) (i0 : 0 ≤ i) (i1 : i + 6 ≤ L) (hop : z_and (s i) 63 = 0) : ∃ σ2 : Nat → Int → Int, zE (99 + 1) 237 18 [some (.inr 1), some (.inr 4), some (.inr 75), some (.inl i)] [] (zS, σ) = zE (99 + 1) 237 18 [some (.inr 1), some (.inr 4), some (.inr 75), some (.inl (i + 6))] [] (zS, σ2) ∧ zV s L σ2 := by
  have e1 : σ 1000 = s := (zV_sc h).1
  have e2 : σ 1001 0 = L := (zV_sc h).2
  obtain ⟨r, σ1, σ2, c1, c2, v, f1, f2⟩ := o_person 90 s L σ h (s (i + 1)) 
  have g1 : σ1 1000 = s := f1.trans e1
  have g2 : σ1 1001 0 = L := by rw [f2]; exact e2
  refine ⟨σ2, ?_, v⟩
  have c1 : zE 99 93 0 _ [] (zS, σ) = some (.inl r, (zS, σ1)) := c1
  have c2 : zE 99 _ 0 _ [] (zS, σ1) = some (.inl r, (zS, σ2)) := c2
  rw [e_237_18, e2, z_wid (by omega) (by omega), if_neg (by omega), if_pos (by omega), e1, hop]
  simp only [Int.reduceEq, ↓reduceIte]
  simp (disch := omega) only [e1, e2, g1, g2, z_wid, if_pos, if_neg, c1, c2, e_237_209, e_237_218, Option.bind_some, ↓reduceIte]
theorem w_l_zone (s : Int → Int) (L : Int) (σ : Nat → Int → Int) (h : zV s L σ) (hs : ∀ j, -2147483648 ≤ s j ∧ s j < 2147483648) (hL : L ≤ 3072) (i : Int) (i0 : 0 ≤ i) (i1 : i + 6 ≤ L) (hop : z_and (s i) 63 = 1) : ∃ σ2 : Nat → Int → Int, zE (99 + 1) 237 18 [some (.inr 1), some (.inr 4), some (.inr 75), some (.inl i)] [] (zS, σ) = zE (99 + 1) 237 18 [some (.inr 1), some (.inr 4), some (.inr 75), some (.inl (i + 6))] [] (zS, σ2) ∧ zV s L σ2 := by
  have e1 : σ 1000 = s := (zV_sc h).1
  have e2 : σ 1001 0 = L := (zV_sc h).2
  obtain ⟨r, σ1, σ2, c1, c2, v, f1, f2⟩ := o_zone 90 s L σ h (s (i + 1)) 
  have g1 : σ1 1000 = s := f1.trans e1
  have g2 : σ1 1001 0 = L := by rw [f2]; exact e2
  refine ⟨σ2, ?_, v⟩
  have c1 : zE 99 94 0 _ [] (zS, σ) = some (.inl r, (zS, σ1)) := c1
  have c2 : zE 99 _ 0 _ [] (zS, σ1) = some (.inl r, (zS, σ2)) := c2
  rw [e_237_18, e2, z_wid (by omega) (by omega), if_neg (by omega), if_pos (by omega), e1, hop]
  simp only [Int.reduceEq, ↓reduceIte]
  simp (disch := omega) only [e1, e2, g1, g2, z_wid, if_pos, if_neg, c1, c2, e_237_232, e_237_241, Option.bind_some, ↓reduceIte]
theorem w_l_door (s : Int → Int) (L : Int) (σ : Nat → Int → Int) (h : zV s L σ) (hs : ∀ j, -2147483648 ≤ s j ∧ s j < 2147483648) (hL : L ≤ 3072) (i : Int) (i0 : 0 ≤ i) (i1 : i + 6 ≤ L) (hop : z_and (s i) 63 = 2) : ∃ σ2 : Nat → Int → Int, zE (99 + 1) 237 18 [some (.inr 1), some (.inr 4), some (.inr 75), some (.inl i)] [] (zS, σ) = zE (99 + 1) 237 18 [some (.inr 1), some (.inr 4), some (.inr 75), some (.inl (i + 6))] [] (zS, σ2) ∧ zV s L σ2 := by
  have e1 : σ 1000 = s := (zV_sc h).1
  have e2 : σ 1001 0 = L := (zV_sc h).2
  obtain ⟨r, σ1, σ2, c1, c2, v, f1, f2⟩ := o_door 90 s L σ h (s (i + 1)) (s (i + 2)) 
  have g1 : σ1 1000 = s := f1.trans e1
  have g2 : σ1 1001 0 = L := by rw [f2]; exact e2
  refine ⟨σ2, ?_, v⟩
  have c1 : zE 99 95 0 _ [] (zS, σ) = some (.inl r, (zS, σ1)) := c1
  have c2 : zE 99 _ 0 _ [] (zS, σ1) = some (.inl r, (zS, σ2)) := c2
  rw [e_237_18, e2, z_wid (by omega) (by omega), if_neg (by omega), if_pos (by omega), e1, hop]
  simp only [Int.reduceEq, ↓reduceIte]
  simp (disch := omega) only [e1, e2, g1, g2, z_wid, if_pos, if_neg, c1, c2, e_237_260, e_237_274, Option.bind_some, ↓reduceIte]
theorem w_l_pass (s : Int → Int) (L : Int) (σ : Nat → Int → Int) (h : zV s L σ) (hs : ∀ j, -2147483648 ≤ s j ∧ s j < 2147483648) (hL : L ≤ 3072) (i : Int) (i0 : 0 ≤ i) (i1 : i + 6 ≤ L) (hop : z_and (s i) 63 = 3) : ∃ σ2 : Nat → Int → Int, zE (99 + 1) 237 18 [some (.inr 1), some (.inr 4), some (.inr 75), some (.inl i)] [] (zS, σ) = zE (99 + 1) 237 18 [some (.inr 1), some (.inr 4), some (.inr 75), some (.inl (i + 6))] [] (zS, σ2) ∧ zV s L σ2 := by
  have e1 : σ 1000 = s := (zV_sc h).1
  have e2 : σ 1001 0 = L := (zV_sc h).2
  obtain ⟨r, σ1, σ2, c1, c2, v, f1, f2⟩ := o_pass 90 s L σ h (s (i + 1)) (s (i + 2)) (s (i + 3)) (s (i + 4)) (hs (i + 3)).2
  have g1 : σ1 1000 = s := f1.trans e1
  have g2 : σ1 1001 0 = L := by rw [f2]; exact e2
  refine ⟨σ2, ?_, v⟩
  have c1 : zE 99 96 0 _ [] (zS, σ) = some (.inl r, (zS, σ1)) := c1
  have c2 : zE 99 _ 0 _ [] (zS, σ1) = some (.inl r, (zS, σ2)) := c2
  rw [e_237_18, e2, z_wid (by omega) (by omega), if_neg (by omega), if_pos (by omega), e1, hop]
  simp only [Int.reduceEq, ↓reduceIte]
  simp (disch := omega) only [e1, e2, g1, g2, z_wid, if_pos, if_neg, c1, c2, e_237_303, e_237_327, Option.bind_some, ↓reduceIte]
theorem w_l_lose (s : Int → Int) (L : Int) (σ : Nat → Int → Int) (h : zV s L σ) (hs : ∀ j, -2147483648 ≤ s j ∧ s j < 2147483648) (hL : L ≤ 3072) (i : Int) (i0 : 0 ≤ i) (i1 : i + 6 ≤ L) (hop : z_and (s i) 63 = 4) : ∃ σ2 : Nat → Int → Int, zE (99 + 1) 237 18 [some (.inr 1), some (.inr 4), some (.inr 75), some (.inl i)] [] (zS, σ) = zE (99 + 1) 237 18 [some (.inr 1), some (.inr 4), some (.inr 75), some (.inl (i + 6))] [] (zS, σ2) ∧ zV s L σ2 := by
  have e1 : σ 1000 = s := (zV_sc h).1
  have e2 : σ 1001 0 = L := (zV_sc h).2
  obtain ⟨r, σ1, σ2, c1, c2, v, f1, f2⟩ := o_lose 90 s L σ h (s (i + 1)) (s (i + 2)) 
  have g1 : σ1 1000 = s := f1.trans e1
  have g2 : σ1 1001 0 = L := by rw [f2]; exact e2
  refine ⟨σ2, ?_, v⟩
  have c1 : zE 99 97 0 _ [] (zS, σ) = some (.inl r, (zS, σ1)) := c1
  have c2 : zE 99 _ 0 _ [] (zS, σ1) = some (.inl r, (zS, σ2)) := c2
  rw [e_237_18, e2, z_wid (by omega) (by omega), if_neg (by omega), if_pos (by omega), e1, hop]
  simp only [Int.reduceEq, ↓reduceIte]
  simp (disch := omega) only [e1, e2, g1, g2, z_wid, if_pos, if_neg, c1, c2, e_237_346, e_237_360, Option.bind_some, ↓reduceIte]
theorem w_l_rule (s : Int → Int) (L : Int) (σ : Nat → Int → Int) (h : zV s L σ) (hs : ∀ j, -2147483648 ≤ s j ∧ s j < 2147483648) (hL : L ≤ 3072) (i : Int) (i0 : 0 ≤ i) (i1 : i + 6 ≤ L) (hop : z_and (s i) 63 = 5) : ∃ σ2 : Nat → Int → Int, zE (99 + 1) 237 18 [some (.inr 1), some (.inr 4), some (.inr 75), some (.inl i)] [] (zS, σ) = zE (99 + 1) 237 18 [some (.inr 1), some (.inr 4), some (.inr 75), some (.inl (i + 6))] [] (zS, σ2) ∧ zV s L σ2 := by
  have e1 : σ 1000 = s := (zV_sc h).1
  have e2 : σ 1001 0 = L := (zV_sc h).2
  by_cases cb : s (i + 1) = 0
  · obtain ⟨r, σ1, σ2, c1, c2, v, f1, f2⟩ := o_rule 90 s L σ h 0 (s (i + 2)) (s (i + 3)) (s (i + 4)) (s (i + 5)) (Or.inl rfl) (hs (i + 4)).2 (hs (i + 5)).2
    have g1 : σ1 1000 = s := f1.trans e1
    have g2 : σ1 1001 0 = L := by rw [f2]; exact e2
    refine ⟨σ2, ?_, v⟩
    have c1 : zE 99 98 0 _ [] (zS, σ) = some (.inl r, (zS, σ1)) := c1
    have c2 : zE 99 _ 0 _ [] (zS, σ1) = some (.inl r, (zS, σ2)) := c2
    rw [e_237_18, e2, z_wid (by omega) (by omega), if_neg (by omega), if_pos (by omega), e1, hop]
    simp only [Int.reduceEq, ↓reduceIte]
    simp (disch := omega) only [e1, e2, g1, g2, z_wid, if_pos, if_neg, cb, c1, c2, e_237_402, e_237_439, Option.bind_some, ↓reduceIte]
  · obtain ⟨r, σ1, σ2, c1, c2, v, f1, f2⟩ := o_rule 90 s L σ h 1 (s (i + 2)) (s (i + 3)) (s (i + 4)) (s (i + 5)) (Or.inr rfl) (hs (i + 4)).2 (hs (i + 5)).2
    have g1 : σ1 1000 = s := f1.trans e1
    have g2 : σ1 1001 0 = L := by rw [f2]; exact e2
    refine ⟨σ2, ?_, v⟩
    have c1 : zE 99 98 0 _ [] (zS, σ) = some (.inl r, (zS, σ1)) := c1
    have c2 : zE 99 _ 0 _ [] (zS, σ1) = some (.inl r, (zS, σ2)) := c2
    rw [e_237_18, e2, z_wid (by omega) (by omega), if_neg (by omega), if_pos (by omega), e1, hop]
    simp only [Int.reduceEq, ↓reduceIte]
    simp (disch := omega) only [e1, e2, g1, g2, z_wid, if_pos, if_neg, cb, c1, c2, e_237_402, e_237_439, Option.bind_some, ↓reduceIte]
theorem w_l_end (s : Int → Int) (L : Int) (σ : Nat → Int → Int) (h : zV s L σ) (hs : ∀ j, -2147483648 ≤ s j ∧ s j < 2147483648) (hL : L ≤ 3072) (i : Int) (i0 : 0 ≤ i) (i1 : i + 6 ≤ L) (hop : z_and (s i) 63 = 6) : ∃ σ2 : Nat → Int → Int, zE (99 + 1) 237 18 [some (.inr 1), some (.inr 4), some (.inr 75), some (.inl i)] [] (zS, σ) = zE (99 + 1) 237 18 [some (.inr 1), some (.inr 4), some (.inr 75), some (.inl (i + 6))] [] (zS, σ2) ∧ zV s L σ2 := by
  have e1 : σ 1000 = s := (zV_sc h).1
  have e2 : σ 1001 0 = L := (zV_sc h).2
  obtain ⟨r, σ1, σ2, c1, c2, v, f1, f2⟩ := o_end 90 s L σ h (s (i + 1)) 
  have g1 : σ1 1000 = s := f1.trans e1
  have g2 : σ1 1001 0 = L := by rw [f2]; exact e2
  refine ⟨σ2, ?_, v⟩
  have c1 : zE 99 99 0 _ [] (zS, σ) = some (.inl r, (zS, σ1)) := c1
  have c2 : zE 99 _ 0 _ [] (zS, σ1) = some (.inl r, (zS, σ2)) := c2
  rw [e_237_18, e2, z_wid (by omega) (by omega), if_neg (by omega), if_pos (by omega), e1, hop]
  simp only [Int.reduceEq, ↓reduceIte]
  simp (disch := omega) only [e1, e2, g1, g2, z_wid, if_pos, if_neg, c1, c2, e_237_453, e_237_462, Option.bind_some, ↓reduceIte]
theorem w_l_clock (s : Int → Int) (L : Int) (σ : Nat → Int → Int) (h : zV s L σ) (hs : ∀ j, -2147483648 ≤ s j ∧ s j < 2147483648) (hL : L ≤ 3072) (i : Int) (i0 : 0 ≤ i) (i1 : i + 6 ≤ L) (hop : z_and (s i) 63 = 7) : ∃ σ2 : Nat → Int → Int, zE (99 + 1) 237 18 [some (.inr 1), some (.inr 4), some (.inr 75), some (.inl i)] [] (zS, σ) = zE (99 + 1) 237 18 [some (.inr 1), some (.inr 4), some (.inr 75), some (.inl (i + 6))] [] (zS, σ2) ∧ zV s L σ2 := by
  have e1 : σ 1000 = s := (zV_sc h).1
  have e2 : σ 1001 0 = L := (zV_sc h).2
  obtain ⟨r, σ1, σ2, c1, c2, v, f1, f2⟩ := o_clock 90 s L σ h (s (i + 1)) 
  have g1 : σ1 1000 = s := f1.trans e1
  have g2 : σ1 1001 0 = L := by rw [f2]; exact e2
  refine ⟨σ2, ?_, v⟩
  have c1 : zE 99 100 0 _ [] (zS, σ) = some (.inl r, (zS, σ1)) := c1
  have c2 : zE 99 _ 0 _ [] (zS, σ1) = some (.inl r, (zS, σ2)) := c2
  rw [e_237_18, e2, z_wid (by omega) (by omega), if_neg (by omega), if_pos (by omega), e1, hop]
  simp only [Int.reduceEq, ↓reduceIte]
  simp (disch := omega) only [e1, e2, g1, g2, z_wid, if_pos, if_neg, c1, c2, e_237_476, e_237_485, Option.bind_some, ↓reduceIte]
theorem w_l_go (s : Int → Int) (L : Int) (σ : Nat → Int → Int) (h : zV s L σ) (hs : ∀ j, -2147483648 ≤ s j ∧ s j < 2147483648) (hL : L ≤ 3072) (i : Int) (i0 : 0 ≤ i) (i1 : i + 6 ≤ L) (hop : z_and (s i) 63 = 8) : ∃ σ2 : Nat → Int → Int, zE (99 + 1) 237 18 [some (.inr 1), some (.inr 4), some (.inr 75), some (.inl i)] [] (zS, σ) = zE (99 + 1) 237 18 [some (.inr 1), some (.inr 4), some (.inr 75), some (.inl (i + 6))] [] (zS, σ2) ∧ zV s L σ2 := by
  have e1 : σ 1000 = s := (zV_sc h).1
  have e2 : σ 1001 0 = L := (zV_sc h).2
  obtain ⟨r, σ1, σ2, c1, c2, v, f1, f2⟩ := o_go 90 s L σ h (s (i + 1)) (s (i + 2)) (s (i + 3)) 
  have g1 : σ1 1000 = s := f1.trans e1
  have g2 : σ1 1001 0 = L := by rw [f2]; exact e2
  refine ⟨σ2, ?_, v⟩
  have c1 : zE 99 101 0 _ [] (zS, σ) = some (.inl r, (zS, σ1)) := c1
  have c2 : zE 99 _ 0 _ [] (zS, σ1) = some (.inl r, (zS, σ2)) := c2
  rw [e_237_18, e2, z_wid (by omega) (by omega), if_neg (by omega), if_pos (by omega), e1, hop]
  simp only [Int.reduceEq, ↓reduceIte]
  simp (disch := omega) only [e1, e2, g1, g2, z_wid, if_pos, if_neg, c1, c2, e_237_509, e_237_528, Option.bind_some, ↓reduceIte]
theorem w_l_unit (s : Int → Int) (L : Int) (σ : Nat → Int → Int) (h : zV s L σ) (hs : ∀ j, -2147483648 ≤ s j ∧ s j < 2147483648) (hL : L ≤ 3072) (i : Int) (i0 : 0 ≤ i) (i1 : i + 6 ≤ L) (hop : z_and (s i) 63 = 9) : ∃ σ2 : Nat → Int → Int, zE (99 + 1) 237 18 [some (.inr 1), some (.inr 4), some (.inr 75), some (.inl i)] [] (zS, σ) = zE (99 + 1) 237 18 [some (.inr 1), some (.inr 4), some (.inr 75), some (.inl (i + 6))] [] (zS, σ2) ∧ zV s L σ2 := by
  have e1 : σ 1000 = s := (zV_sc h).1
  have e2 : σ 1001 0 = L := (zV_sc h).2
  by_cases cb : s (i + 5) = 0
  · obtain ⟨r, σ1, σ2, c1, c2, v, f1, f2⟩ := o_unit 90 s L σ h (s (i + 1)) (s (i + 2)) (s (i + 3)) (s (i + 4)) 0 (Or.inl rfl) (hs (i + 4)).2
    have g1 : σ1 1000 = s := f1.trans e1
    have g2 : σ1 1001 0 = L := by rw [f2]; exact e2
    refine ⟨σ2, ?_, v⟩
    have c1 : zE 99 102 0 _ [] (zS, σ) = some (.inl r, (zS, σ1)) := c1
    have c2 : zE 99 _ 0 _ [] (zS, σ1) = some (.inl r, (zS, σ2)) := c2
    rw [e_237_18, e2, z_wid (by omega) (by omega), if_neg (by omega), if_pos (by omega), e1, hop]
    simp only [Int.reduceEq, ↓reduceIte]
    simp (disch := omega) only [e1, e2, g1, g2, z_wid, if_pos, if_neg, cb, c1, c2, e_237_570, e_237_607, Option.bind_some, ↓reduceIte]
  · obtain ⟨r, σ1, σ2, c1, c2, v, f1, f2⟩ := o_unit 90 s L σ h (s (i + 1)) (s (i + 2)) (s (i + 3)) (s (i + 4)) 1 (Or.inr rfl) (hs (i + 4)).2
    have g1 : σ1 1000 = s := f1.trans e1
    have g2 : σ1 1001 0 = L := by rw [f2]; exact e2
    refine ⟨σ2, ?_, v⟩
    have c1 : zE 99 102 0 _ [] (zS, σ) = some (.inl r, (zS, σ1)) := c1
    have c2 : zE 99 _ 0 _ [] (zS, σ1) = some (.inl r, (zS, σ2)) := c2
    rw [e_237_18, e2, z_wid (by omega) (by omega), if_neg (by omega), if_pos (by omega), e1, hop]
    simp only [Int.reduceEq, ↓reduceIte]
    simp (disch := omega) only [e1, e2, g1, g2, z_wid, if_pos, if_neg, cb, c1, c2, e_237_570, e_237_607, Option.bind_some, ↓reduceIte]
theorem w_l_seats (s : Int → Int) (L : Int) (σ : Nat → Int → Int) (h : zV s L σ) (hs : ∀ j, -2147483648 ≤ s j ∧ s j < 2147483648) (hL : L ≤ 3072) (i : Int) (i0 : 0 ≤ i) (i1 : i + 6 ≤ L) (hop : z_and (s i) 63 = 10) : ∃ σ2 : Nat → Int → Int, zE (99 + 1) 237 18 [some (.inr 1), some (.inr 4), some (.inr 75), some (.inl i)] [] (zS, σ) = zE (99 + 1) 237 18 [some (.inr 1), some (.inr 4), some (.inr 75), some (.inl (i + 6))] [] (zS, σ2) ∧ zV s L σ2 := by
  have e1 : σ 1000 = s := (zV_sc h).1
  have e2 : σ 1001 0 = L := (zV_sc h).2
  obtain ⟨r, σ1, σ2, c1, c2, v, f1, f2⟩ := o_seats 90 s L σ h (s (i + 1)) 
  have g1 : σ1 1000 = s := f1.trans e1
  have g2 : σ1 1001 0 = L := by rw [f2]; exact e2
  refine ⟨σ2, ?_, v⟩
  have c1 : zE 99 103 0 _ [] (zS, σ) = some (.inl r, (zS, σ1)) := c1
  have c2 : zE 99 _ 0 _ [] (zS, σ1) = some (.inl r, (zS, σ2)) := c2
  rw [e_237_18, e2, z_wid (by omega) (by omega), if_neg (by omega), if_pos (by omega), e1, hop]
  simp only [Int.reduceEq, ↓reduceIte]
  simp (disch := omega) only [e1, e2, g1, g2, z_wid, if_pos, if_neg, c1, c2, e_237_621, e_237_630, Option.bind_some, ↓reduceIte]
theorem w_l_room (s : Int → Int) (L : Int) (σ : Nat → Int → Int) (h : zV s L σ) (hs : ∀ j, -2147483648 ≤ s j ∧ s j < 2147483648) (hL : L ≤ 3072) (i : Int) (i0 : 0 ≤ i) (i1 : i + 6 ≤ L) (hop : z_and (s i) 63 = 11) : ∃ σ2 : Nat → Int → Int, zE (99 + 1) 237 18 [some (.inr 1), some (.inr 4), some (.inr 75), some (.inl i)] [] (zS, σ) = zE (99 + 1) 237 18 [some (.inr 1), some (.inr 4), some (.inr 75), some (.inl (i + 6))] [] (zS, σ2) ∧ zV s L σ2 := by
  have e1 : σ 1000 = s := (zV_sc h).1
  have e2 : σ 1001 0 = L := (zV_sc h).2
  obtain ⟨r, σ1, σ2, c1, c2, v, f1, f2⟩ := o_room 90 s L σ h (s (i + 1)) 
  have g1 : σ1 1000 = s := f1.trans e1
  have g2 : σ1 1001 0 = L := by rw [f2]; exact e2
  refine ⟨σ2, ?_, v⟩
  have c1 : zE 99 104 0 _ [] (zS, σ) = some (.inl r, (zS, σ1)) := c1
  have c2 : zE 99 _ 0 _ [] (zS, σ1) = some (.inl r, (zS, σ2)) := c2
  rw [e_237_18, e2, z_wid (by omega) (by omega), if_neg (by omega), if_pos (by omega), e1, hop]
  simp only [Int.reduceEq, ↓reduceIte]
  simp (disch := omega) only [e1, e2, g1, g2, z_wid, if_pos, if_neg, c1, c2, e_237_644, e_237_653, Option.bind_some, ↓reduceIte]
theorem w_l_group (s : Int → Int) (L : Int) (σ : Nat → Int → Int) (h : zV s L σ) (hs : ∀ j, -2147483648 ≤ s j ∧ s j < 2147483648) (hL : L ≤ 3072) (i : Int) (i0 : 0 ≤ i) (i1 : i + 6 ≤ L) (hop : z_and (s i) 63 = 12) : ∃ σ2 : Nat → Int → Int, zE (99 + 1) 237 18 [some (.inr 1), some (.inr 4), some (.inr 75), some (.inl i)] [] (zS, σ) = zE (99 + 1) 237 18 [some (.inr 1), some (.inr 4), some (.inr 75), some (.inl (i + 6))] [] (zS, σ2) ∧ zV s L σ2 := by
  have e1 : σ 1000 = s := (zV_sc h).1
  have e2 : σ 1001 0 = L := (zV_sc h).2
  obtain ⟨r, σ1, σ2, c1, c2, v, f1, f2⟩ := o_group 90 s L σ h (s (i + 1)) (s (i + 2)) (s (i + 3)) (hs (i + 3)).2
  have g1 : σ1 1000 = s := f1.trans e1
  have g2 : σ1 1001 0 = L := by rw [f2]; exact e2
  refine ⟨σ2, ?_, v⟩
  have c1 : zE 99 105 0 _ [] (zS, σ) = some (.inl r, (zS, σ1)) := c1
  have c2 : zE 99 _ 0 _ [] (zS, σ1) = some (.inl r, (zS, σ2)) := c2
  rw [e_237_18, e2, z_wid (by omega) (by omega), if_neg (by omega), if_pos (by omega), e1, hop]
  simp only [Int.reduceEq, ↓reduceIte]
  simp (disch := omega) only [e1, e2, g1, g2, z_wid, if_pos, if_neg, c1, c2, e_237_677, e_237_696, Option.bind_some, ↓reduceIte]
theorem w_l_result (s : Int → Int) (L : Int) (σ : Nat → Int → Int) (h : zV s L σ) (hs : ∀ j, -2147483648 ≤ s j ∧ s j < 2147483648) (hL : L ≤ 3072) (i : Int) (i0 : 0 ≤ i) (i1 : i + 6 ≤ L) (hop : z_and (s i) 63 = 13) : ∃ σ2 : Nat → Int → Int, zE (99 + 1) 237 18 [some (.inr 1), some (.inr 4), some (.inr 75), some (.inl i)] [] (zS, σ) = zE (99 + 1) 237 18 [some (.inr 1), some (.inr 4), some (.inr 75), some (.inl (i + 6))] [] (zS, σ2) ∧ zV s L σ2 := by
  have e1 : σ 1000 = s := (zV_sc h).1
  have e2 : σ 1001 0 = L := (zV_sc h).2
  obtain ⟨r, σ1, σ2, c1, c2, v, f1, f2⟩ := o_result 90 s L σ h (s (i + 1)) (hs (i + 1)).2
  have g1 : σ1 1000 = s := f1.trans e1
  have g2 : σ1 1001 0 = L := by rw [f2]; exact e2
  refine ⟨σ2, ?_, v⟩
  have c1 : zE 99 106 0 _ [] (zS, σ) = some (.inl r, (zS, σ1)) := c1
  have c2 : zE 99 _ 0 _ [] (zS, σ1) = some (.inl r, (zS, σ2)) := c2
  rw [e_237_18, e2, z_wid (by omega) (by omega), if_neg (by omega), if_pos (by omega), e1, hop]
  simp only [Int.reduceEq, ↓reduceIte]
  simp (disch := omega) only [e1, e2, g1, g2, z_wid, if_pos, if_neg, c1, c2, e_237_710, e_237_719, Option.bind_some, ↓reduceIte]
theorem w_l_strip (s : Int → Int) (L : Int) (σ : Nat → Int → Int) (h : zV s L σ) (hs : ∀ j, -2147483648 ≤ s j ∧ s j < 2147483648) (hL : L ≤ 3072) (i : Int) (i0 : 0 ≤ i) (i1 : i + 6 ≤ L) (hop : z_and (s i) 63 = 14) : ∃ σ2 : Nat → Int → Int, zE (99 + 1) 237 18 [some (.inr 1), some (.inr 4), some (.inr 75), some (.inl i)] [] (zS, σ) = zE (99 + 1) 237 18 [some (.inr 1), some (.inr 4), some (.inr 75), some (.inl (i + 6))] [] (zS, σ2) ∧ zV s L σ2 := by
  have e1 : σ 1000 = s := (zV_sc h).1
  have e2 : σ 1001 0 = L := (zV_sc h).2
  obtain ⟨r, σ1, σ2, c1, c2, v, f1, f2⟩ := o_strip 90 s L σ h (s (i + 1)) (s (i + 2)) 
  have g1 : σ1 1000 = s := f1.trans e1
  have g2 : σ1 1001 0 = L := by rw [f2]; exact e2
  refine ⟨σ2, ?_, v⟩
  have c1 : zE 99 107 0 _ [] (zS, σ) = some (.inl r, (zS, σ1)) := c1
  have c2 : zE 99 _ 0 _ [] (zS, σ1) = some (.inl r, (zS, σ2)) := c2
  rw [e_237_18, e2, z_wid (by omega) (by omega), if_neg (by omega), if_pos (by omega), e1, hop]
  simp only [Int.reduceEq, ↓reduceIte]
  simp (disch := omega) only [e1, e2, g1, g2, z_wid, if_pos, if_neg, c1, c2, e_237_738, e_237_752, Option.bind_some, ↓reduceIte]
theorem w_l_image (s : Int → Int) (L : Int) (σ : Nat → Int → Int) (h : zV s L σ) (hs : ∀ j, -2147483648 ≤ s j ∧ s j < 2147483648) (hL : L ≤ 3072) (i : Int) (i0 : 0 ≤ i) (i1 : i + 6 ≤ L) (hop : z_and (s i) 63 = 15) : ∃ σ2 : Nat → Int → Int, zE (99 + 1) 237 18 [some (.inr 1), some (.inr 4), some (.inr 75), some (.inl i)] [] (zS, σ) = zE (99 + 1) 237 18 [some (.inr 1), some (.inr 4), some (.inr 75), some (.inl (i + 6))] [] (zS, σ2) ∧ zV s L σ2 := by
  have e1 : σ 1000 = s := (zV_sc h).1
  have e2 : σ 1001 0 = L := (zV_sc h).2
  obtain ⟨r, σ1, σ2, c1, c2, v, f1, f2⟩ := o_image 90 s L σ h  
  have g1 : σ1 1000 = s := f1.trans e1
  have g2 : σ1 1001 0 = L := by rw [f2]; exact e2
  refine ⟨σ2, ?_, v⟩
  have c1 : zE 99 108 0 _ [] (zS, σ) = some (.inl r, (zS, σ1)) := c1
  have c2 : zE 99 _ 0 _ [] (zS, σ1) = some (.inl r, (zS, σ2)) := c2
  rw [e_237_18, e2, z_wid (by omega) (by omega), if_neg (by omega), if_pos (by omega), e1, hop]
  simp only [Int.reduceEq, ↓reduceIte]
  simp (disch := omega) only [e1, e2, g1, g2, z_wid, if_pos, if_neg, c1, c2, e_237_761, e_237_765, Option.bind_some, ↓reduceIte]
theorem w_l_back (s : Int → Int) (L : Int) (σ : Nat → Int → Int) (h : zV s L σ) (hs : ∀ j, -2147483648 ≤ s j ∧ s j < 2147483648) (hL : L ≤ 3072) (i : Int) (i0 : 0 ≤ i) (i1 : i + 6 ≤ L) (hop : z_and (s i) 63 = 16) : ∃ σ2 : Nat → Int → Int, zE (99 + 1) 237 18 [some (.inr 1), some (.inr 4), some (.inr 75), some (.inl i)] [] (zS, σ) = zE (99 + 1) 237 18 [some (.inr 1), some (.inr 4), some (.inr 75), some (.inl (i + 6))] [] (zS, σ2) ∧ zV s L σ2 := by
  have e1 : σ 1000 = s := (zV_sc h).1
  have e2 : σ 1001 0 = L := (zV_sc h).2
  obtain ⟨r, σ1, σ2, c1, c2, v, f1, f2⟩ := o_back 90 s L σ h  
  have g1 : σ1 1000 = s := f1.trans e1
  have g2 : σ1 1001 0 = L := by rw [f2]; exact e2
  refine ⟨σ2, ?_, v⟩
  have c1 : zE 99 109 0 _ [] (zS, σ) = some (.inl r, (zS, σ1)) := c1
  have c2 : zE 99 _ 0 _ [] (zS, σ1) = some (.inl r, (zS, σ2)) := c2
  rw [e_237_18, e2, z_wid (by omega) (by omega), if_neg (by omega), if_pos (by omega), e1, hop]
  simp only [Int.reduceEq, ↓reduceIte]
  simp (disch := omega) only [e1, e2, g1, g2, z_wid, if_pos, if_neg, c1, c2, e_237_774, e_237_778, Option.bind_some, ↓reduceIte]
theorem w_l_personTold (s : Int → Int) (L : Int) (σ : Nat → Int → Int) (h : zV s L σ) (hs : ∀ j, -2147483648 ≤ s j ∧ s j < 2147483648) (hL : L ≤ 3072) (i : Int) (i0 : 0 ≤ i) (i1 : i + 6 ≤ L) (hop : z_and (s i) 63 = 17) : ∃ σ2 : Nat → Int → Int, zE (99 + 1) 237 18 [some (.inr 1), some (.inr 4), some (.inr 75), some (.inl i)] [] (zS, σ) = zE (99 + 1) 237 18 [some (.inr 1), some (.inr 4), some (.inr 75), some (.inl (i + 6))] [] (zS, σ2) ∧ zV s L σ2 := by
  have e1 : σ 1000 = s := (zV_sc h).1
  have e2 : σ 1001 0 = L := (zV_sc h).2
  obtain ⟨r, σ1, σ2, c1, c2, v, f1, f2⟩ := o_personTold 90 s L σ h (s (i + 1)) (s (i + 2)) 
  have g1 : σ1 1000 = s := f1.trans e1
  have g2 : σ1 1001 0 = L := by rw [f2]; exact e2
  refine ⟨σ2, ?_, v⟩
  have c1 : zE 99 110 0 _ [] (zS, σ) = some (.inl r, (zS, σ1)) := c1
  have c2 : zE 99 _ 0 _ [] (zS, σ1) = some (.inl r, (zS, σ2)) := c2
  rw [e_237_18, e2, z_wid (by omega) (by omega), if_neg (by omega), if_pos (by omega), e1, hop]
  simp only [Int.reduceEq, ↓reduceIte]
  simp (disch := omega) only [e1, e2, g1, g2, z_wid, if_pos, if_neg, c1, c2, e_237_797, e_237_811, Option.bind_some, ↓reduceIte]
theorem w_l_zoneTold (s : Int → Int) (L : Int) (σ : Nat → Int → Int) (h : zV s L σ) (hs : ∀ j, -2147483648 ≤ s j ∧ s j < 2147483648) (hL : L ≤ 3072) (i : Int) (i0 : 0 ≤ i) (i1 : i + 6 ≤ L) (hop : z_and (s i) 63 = 18) : ∃ σ2 : Nat → Int → Int, zE (99 + 1) 237 18 [some (.inr 1), some (.inr 4), some (.inr 75), some (.inl i)] [] (zS, σ) = zE (99 + 1) 237 18 [some (.inr 1), some (.inr 4), some (.inr 75), some (.inl (i + 6))] [] (zS, σ2) ∧ zV s L σ2 := by
  have e1 : σ 1000 = s := (zV_sc h).1
  have e2 : σ 1001 0 = L := (zV_sc h).2
  obtain ⟨r, σ1, σ2, c1, c2, v, f1, f2⟩ := o_zoneTold 90 s L σ h (s (i + 1)) (s (i + 2)) 
  have g1 : σ1 1000 = s := f1.trans e1
  have g2 : σ1 1001 0 = L := by rw [f2]; exact e2
  refine ⟨σ2, ?_, v⟩
  have c1 : zE 99 111 0 _ [] (zS, σ) = some (.inl r, (zS, σ1)) := c1
  have c2 : zE 99 _ 0 _ [] (zS, σ1) = some (.inl r, (zS, σ2)) := c2
  rw [e_237_18, e2, z_wid (by omega) (by omega), if_neg (by omega), if_pos (by omega), e1, hop]
  simp only [Int.reduceEq, ↓reduceIte]
  simp (disch := omega) only [e1, e2, g1, g2, z_wid, if_pos, if_neg, c1, c2, e_237_830, e_237_844, Option.bind_some, ↓reduceIte]
theorem w_l_passTold (s : Int → Int) (L : Int) (σ : Nat → Int → Int) (h : zV s L σ) (hs : ∀ j, -2147483648 ≤ s j ∧ s j < 2147483648) (hL : L ≤ 3072) (i : Int) (i0 : 0 ≤ i) (i1 : i + 6 ≤ L) (hop : z_and (s i) 63 = 19) : ∃ σ2 : Nat → Int → Int, zE (99 + 1) 237 18 [some (.inr 1), some (.inr 4), some (.inr 75), some (.inl i)] [] (zS, σ) = zE (99 + 1) 237 18 [some (.inr 1), some (.inr 4), some (.inr 75), some (.inl (i + 6))] [] (zS, σ2) ∧ zV s L σ2 := by
  have e1 : σ 1000 = s := (zV_sc h).1
  have e2 : σ 1001 0 = L := (zV_sc h).2
  obtain ⟨r, σ1, σ2, c1, c2, v, f1, f2⟩ := o_passTold 90 s L σ h (s (i + 1)) (s (i + 2)) 
  have g1 : σ1 1000 = s := f1.trans e1
  have g2 : σ1 1001 0 = L := by rw [f2]; exact e2
  refine ⟨σ2, ?_, v⟩
  have c1 : zE 99 112 0 _ [] (zS, σ) = some (.inl r, (zS, σ1)) := c1
  have c2 : zE 99 _ 0 _ [] (zS, σ1) = some (.inl r, (zS, σ2)) := c2
  rw [e_237_18, e2, z_wid (by omega) (by omega), if_neg (by omega), if_pos (by omega), e1, hop]
  simp only [Int.reduceEq, ↓reduceIte]
  simp (disch := omega) only [e1, e2, g1, g2, z_wid, if_pos, if_neg, c1, c2, e_237_863, e_237_877, Option.bind_some, ↓reduceIte]
theorem w_l_opens (s : Int → Int) (L : Int) (σ : Nat → Int → Int) (h : zV s L σ) (hs : ∀ j, -2147483648 ≤ s j ∧ s j < 2147483648) (hL : L ≤ 3072) (i : Int) (i0 : 0 ≤ i) (i1 : i + 6 ≤ L) (hop : z_and (s i) 63 = 20) : ∃ σ2 : Nat → Int → Int, zE (99 + 1) 237 18 [some (.inr 1), some (.inr 4), some (.inr 75), some (.inl i)] [] (zS, σ) = zE (99 + 1) 237 18 [some (.inr 1), some (.inr 4), some (.inr 75), some (.inl (i + 6))] [] (zS, σ2) ∧ zV s L σ2 := by
  have e1 : σ 1000 = s := (zV_sc h).1
  have e2 : σ 1001 0 = L := (zV_sc h).2
  obtain ⟨r, σ1, σ2, c1, c2, v, f1, f2⟩ := o_opens 90 s L σ h (s (i + 1)) (s (i + 2)) (s (i + 3)) (s (i + 4)) 
  have g1 : σ1 1000 = s := f1.trans e1
  have g2 : σ1 1001 0 = L := by rw [f2]; exact e2
  refine ⟨σ2, ?_, v⟩
  have c1 : zE 99 113 0 _ [] (zS, σ) = some (.inl r, (zS, σ1)) := c1
  have c2 : zE 99 _ 0 _ [] (zS, σ1) = some (.inl r, (zS, σ2)) := c2
  rw [e_237_18, e2, z_wid (by omega) (by omega), if_neg (by omega), if_pos (by omega), e1, hop]
  simp only [Int.reduceEq, ↓reduceIte]
  simp (disch := omega) only [e1, e2, g1, g2, z_wid, if_pos, if_neg, c1, c2, e_237_906, e_237_930, Option.bind_some, ↓reduceIte]
theorem w_l_why (s : Int → Int) (L : Int) (σ : Nat → Int → Int) (h : zV s L σ) (hs : ∀ j, -2147483648 ≤ s j ∧ s j < 2147483648) (hL : L ≤ 3072) (i : Int) (i0 : 0 ≤ i) (i1 : i + 6 ≤ L) (hop : z_and (s i) 63 = 21) : ∃ σ2 : Nat → Int → Int, zE (99 + 1) 237 18 [some (.inr 1), some (.inr 4), some (.inr 75), some (.inl i)] [] (zS, σ) = zE (99 + 1) 237 18 [some (.inr 1), some (.inr 4), some (.inr 75), some (.inl (i + 6))] [] (zS, σ2) ∧ zV s L σ2 := by
  have e1 : σ 1000 = s := (zV_sc h).1
  have e2 : σ 1001 0 = L := (zV_sc h).2
  obtain ⟨r, σ1, σ2, c1, c2, v, f1, f2⟩ := o_why 90 s L σ h (s (i + 1)) (s (i + 2)) (s (i + 3)) (s (i + 4)) 
  have g1 : σ1 1000 = s := f1.trans e1
  have g2 : σ1 1001 0 = L := by rw [f2]; exact e2
  refine ⟨σ2, ?_, v⟩
  have c1 : zE 99 114 0 _ [] (zS, σ) = some (.inl r, (zS, σ1)) := c1
  have c2 : zE 99 _ 0 _ [] (zS, σ1) = some (.inl r, (zS, σ2)) := c2
  rw [e_237_18, e2, z_wid (by omega) (by omega), if_neg (by omega), if_pos (by omega), e1, hop]
  simp only [Int.reduceEq, ↓reduceIte]
  simp (disch := omega) only [e1, e2, g1, g2, z_wid, if_pos, if_neg, c1, c2, e_237_959, e_237_983, Option.bind_some, ↓reduceIte]
theorem w_l_may (s : Int → Int) (L : Int) (σ : Nat → Int → Int) (h : zV s L σ) (hs : ∀ j, -2147483648 ≤ s j ∧ s j < 2147483648) (hL : L ≤ 3072) (i : Int) (i0 : 0 ≤ i) (i1 : i + 6 ≤ L) (hop : z_and (s i) 63 = 22) : ∃ σ2 : Nat → Int → Int, zE (99 + 1) 237 18 [some (.inr 1), some (.inr 4), some (.inr 75), some (.inl i)] [] (zS, σ) = zE (99 + 1) 237 18 [some (.inr 1), some (.inr 4), some (.inr 75), some (.inl (i + 6))] [] (zS, σ2) ∧ zV s L σ2 := by
  have e1 : σ 1000 = s := (zV_sc h).1
  have e2 : σ 1001 0 = L := (zV_sc h).2
  obtain ⟨r, σ1, σ2, c1, c2, v, f1, f2⟩ := o_may 90 s L σ h (s (i + 1)) (s (i + 2)) (s (i + 3)) 
  have g1 : σ1 1000 = s := f1.trans e1
  have g2 : σ1 1001 0 = L := by rw [f2]; exact e2
  refine ⟨σ2, ?_, v⟩
  have c1 : zE 99 115 0 _ [] (zS, σ) = some (.inl r, (zS, σ1)) := c1
  have c2 : zE 99 _ 0 _ [] (zS, σ1) = some (.inl r, (zS, σ2)) := c2
  rw [e_237_18, e2, z_wid (by omega) (by omega), if_neg (by omega), if_pos (by omega), e1, hop]
  simp only [Int.reduceEq, ↓reduceIte]
  simp (disch := omega) only [e1, e2, g1, g2, z_wid, if_pos, if_neg, c1, c2, e_237_1007, e_237_1026, Option.bind_some, ↓reduceIte]
theorem w_l_begins (s : Int → Int) (L : Int) (σ : Nat → Int → Int) (h : zV s L σ) (hs : ∀ j, -2147483648 ≤ s j ∧ s j < 2147483648) (hL : L ≤ 3072) (i : Int) (i0 : 0 ≤ i) (i1 : i + 6 ≤ L) (hop : z_and (s i) 63 = 23) : ∃ σ2 : Nat → Int → Int, zE (99 + 1) 237 18 [some (.inr 1), some (.inr 4), some (.inr 75), some (.inl i)] [] (zS, σ) = zE (99 + 1) 237 18 [some (.inr 1), some (.inr 4), some (.inr 75), some (.inl (i + 6))] [] (zS, σ2) ∧ zV s L σ2 := by
  have e1 : σ 1000 = s := (zV_sc h).1
  have e2 : σ 1001 0 = L := (zV_sc h).2
  obtain ⟨r, σ1, σ2, c1, c2, v, f1, f2⟩ := o_begins 70 s L σ h (s (i + 1)) 
  have g1 : σ1 1000 = s := f1.trans e1
  have g2 : σ1 1001 0 = L := by rw [f2]; exact e2
  refine ⟨σ2, ?_, v⟩
  have c1 : zE 99 116 0 _ [] (zS, σ) = some (.inl r, (zS, σ1)) := c1
  have c2 : zE 99 _ 0 _ [] (zS, σ1) = some (.inl r, (zS, σ2)) := c2
  rw [e_237_18, e2, z_wid (by omega) (by omega), if_neg (by omega), if_pos (by omega), e1, hop]
  simp only [Int.reduceEq, ↓reduceIte]
  simp (disch := omega) only [e1, e2, g1, g2, z_wid, if_pos, if_neg, c1, c2, e_237_1040, e_237_1049, Option.bind_some, ↓reduceIte]
theorem w_l_order (s : Int → Int) (L : Int) (σ : Nat → Int → Int) (h : zV s L σ) (hs : ∀ j, -2147483648 ≤ s j ∧ s j < 2147483648) (hL : L ≤ 3072) (i : Int) (i0 : 0 ≤ i) (i1 : i + 6 ≤ L) (hop : z_and (s i) 63 = 24) : ∃ σ2 : Nat → Int → Int, zE (99 + 1) 237 18 [some (.inr 1), some (.inr 4), some (.inr 75), some (.inl i)] [] (zS, σ) = zE (99 + 1) 237 18 [some (.inr 1), some (.inr 4), some (.inr 75), some (.inl (i + 6))] [] (zS, σ2) ∧ zV s L σ2 := by
  have e1 : σ 1000 = s := (zV_sc h).1
  have e2 : σ 1001 0 = L := (zV_sc h).2
  obtain ⟨r, σ1, σ2, c1, c2, v, f1, f2⟩ := o_order 70 s L σ h (s (i + 1)) 
  have g1 : σ1 1000 = s := f1.trans e1
  have g2 : σ1 1001 0 = L := by rw [f2]; exact e2
  refine ⟨σ2, ?_, v⟩
  have c1 : zE 99 117 0 _ [] (zS, σ) = some (.inl r, (zS, σ1)) := c1
  have c2 : zE 99 _ 0 _ [] (zS, σ1) = some (.inl r, (zS, σ2)) := c2
  rw [e_237_18, e2, z_wid (by omega) (by omega), if_neg (by omega), if_pos (by omega), e1, hop]
  simp only [Int.reduceEq, ↓reduceIte]
  simp (disch := omega) only [e1, e2, g1, g2, z_wid, if_pos, if_neg, c1, c2, e_237_1063, e_237_1072, Option.bind_some, ↓reduceIte]
theorem w_l_planned (s : Int → Int) (L : Int) (σ : Nat → Int → Int) (h : zV s L σ) (hs : ∀ j, -2147483648 ≤ s j ∧ s j < 2147483648) (hL : L ≤ 3072) (i : Int) (i0 : 0 ≤ i) (i1 : i + 6 ≤ L) (hop : z_and (s i) 63 = 25) : ∃ σ2 : Nat → Int → Int, zE (99 + 1) 237 18 [some (.inr 1), some (.inr 4), some (.inr 75), some (.inl i)] [] (zS, σ) = zE (99 + 1) 237 18 [some (.inr 1), some (.inr 4), some (.inr 75), some (.inl (i + 6))] [] (zS, σ2) ∧ zV s L σ2 := by
  have e1 : σ 1000 = s := (zV_sc h).1
  have e2 : σ 1001 0 = L := (zV_sc h).2
  obtain ⟨r, σ1, σ2, c1, c2, v, f1, f2⟩ := o_planned 70 s L σ h (s (i + 1)) (s (i + 2)) (hs (i + 1)).2
  have g1 : σ1 1000 = s := f1.trans e1
  have g2 : σ1 1001 0 = L := by rw [f2]; exact e2
  refine ⟨σ2, ?_, v⟩
  have c1 : zE 99 118 0 _ [] (zS, σ) = some (.inl r, (zS, σ1)) := c1
  have c2 : zE 99 _ 0 _ [] (zS, σ1) = some (.inl r, (zS, σ2)) := c2
  rw [e_237_18, e2, z_wid (by omega) (by omega), if_neg (by omega), if_pos (by omega), e1, hop]
  simp only [Int.reduceEq, ↓reduceIte]
  simp (disch := omega) only [e1, e2, g1, g2, z_wid, if_pos, if_neg, c1, c2, e_237_1091, e_237_1105, Option.bind_some, ↓reduceIte]
theorem w_l_fleet (s : Int → Int) (L : Int) (σ : Nat → Int → Int) (h : zV s L σ) (hs : ∀ j, -2147483648 ≤ s j ∧ s j < 2147483648) (hL : L ≤ 3072) (i : Int) (i0 : 0 ≤ i) (i1 : i + 6 ≤ L) (hop : z_and (s i) 63 = 26) : ∃ σ2 : Nat → Int → Int, zE (99 + 1) 237 18 [some (.inr 1), some (.inr 4), some (.inr 75), some (.inl i)] [] (zS, σ) = zE (99 + 1) 237 18 [some (.inr 1), some (.inr 4), some (.inr 75), some (.inl (i + 6))] [] (zS, σ2) ∧ zV s L σ2 := by
  have e1 : σ 1000 = s := (zV_sc h).1
  have e2 : σ 1001 0 = L := (zV_sc h).2
  obtain ⟨r, σ1, σ2, c1, c2, v, f1, f2⟩ := o_fleet 70 s L σ h  
  have g1 : σ1 1000 = s := f1.trans e1
  have g2 : σ1 1001 0 = L := by rw [f2]; exact e2
  refine ⟨σ2, ?_, v⟩
  have c1 : zE 99 119 0 _ [] (zS, σ) = some (.inl r, (zS, σ1)) := c1
  have c2 : zE 99 _ 0 _ [] (zS, σ1) = some (.inl r, (zS, σ2)) := c2
  rw [e_237_18, e2, z_wid (by omega) (by omega), if_neg (by omega), if_pos (by omega), e1, hop]
  simp only [Int.reduceEq, ↓reduceIte]
  simp (disch := omega) only [e1, e2, g1, g2, z_wid, if_pos, if_neg, c1, c2, e_237_1114, e_237_1118, Option.bind_some, ↓reduceIte]
theorem w_l_rooming (s : Int → Int) (L : Int) (σ : Nat → Int → Int) (h : zV s L σ) (hs : ∀ j, -2147483648 ≤ s j ∧ s j < 2147483648) (hL : L ≤ 3072) (i : Int) (i0 : 0 ≤ i) (i1 : i + 6 ≤ L) (hop : z_and (s i) 63 = 27) : ∃ σ2 : Nat → Int → Int, zE (99 + 1) 237 18 [some (.inr 1), some (.inr 4), some (.inr 75), some (.inl i)] [] (zS, σ) = zE (99 + 1) 237 18 [some (.inr 1), some (.inr 4), some (.inr 75), some (.inl (i + 6))] [] (zS, σ2) ∧ zV s L σ2 := by
  have e1 : σ 1000 = s := (zV_sc h).1
  have e2 : σ 1001 0 = L := (zV_sc h).2
  obtain ⟨r, σ1, σ2, c1, c2, v, f1, f2⟩ := o_rooming 70 s L σ h (s (i + 1)) 
  have g1 : σ1 1000 = s := f1.trans e1
  have g2 : σ1 1001 0 = L := by rw [f2]; exact e2
  refine ⟨σ2, ?_, v⟩
  have c1 : zE 99 120 0 _ [] (zS, σ) = some (.inl r, (zS, σ1)) := c1
  have c2 : zE 99 _ 0 _ [] (zS, σ1) = some (.inl r, (zS, σ2)) := c2
  rw [e_237_18, e2, z_wid (by omega) (by omega), if_neg (by omega), if_pos (by omega), e1, hop]
  simp only [Int.reduceEq, ↓reduceIte]
  simp (disch := omega) only [e1, e2, g1, g2, z_wid, if_pos, if_neg, c1, c2, e_237_1132, e_237_1141, Option.bind_some, ↓reduceIte]
theorem w_l_placed (s : Int → Int) (L : Int) (σ : Nat → Int → Int) (h : zV s L σ) (hs : ∀ j, -2147483648 ≤ s j ∧ s j < 2147483648) (hL : L ≤ 3072) (i : Int) (i0 : 0 ≤ i) (i1 : i + 6 ≤ L) (hop : z_and (s i) 63 = 28) : ∃ σ2 : Nat → Int → Int, zE (99 + 1) 237 18 [some (.inr 1), some (.inr 4), some (.inr 75), some (.inl i)] [] (zS, σ) = zE (99 + 1) 237 18 [some (.inr 1), some (.inr 4), some (.inr 75), some (.inl (i + 6))] [] (zS, σ2) ∧ zV s L σ2 := by
  have e1 : σ 1000 = s := (zV_sc h).1
  have e2 : σ 1001 0 = L := (zV_sc h).2
  obtain ⟨r, σ1, σ2, c1, c2, v, f1, f2⟩ := o_placed 90 s L σ h (s (i + 1)) (s (i + 2)) (hs (i + 2)).2
  have g1 : σ1 1000 = s := f1.trans e1
  have g2 : σ1 1001 0 = L := by rw [f2]; exact e2
  refine ⟨σ2, ?_, v⟩
  have c1 : zE 99 121 0 _ [] (zS, σ) = some (.inl r, (zS, σ1)) := c1
  have c2 : zE 99 _ 0 _ [] (zS, σ1) = some (.inl r, (zS, σ2)) := c2
  rw [e_237_18, e2, z_wid (by omega) (by omega), if_neg (by omega), if_pos (by omega), e1, hop]
  simp only [Int.reduceEq, ↓reduceIte]
  simp (disch := omega) only [e1, e2, g1, g2, z_wid, if_pos, if_neg, c1, c2, e_237_1160, e_237_1174, Option.bind_some, ↓reduceIte]
theorem w_l_medals (s : Int → Int) (L : Int) (σ : Nat → Int → Int) (h : zV s L σ) (hs : ∀ j, -2147483648 ≤ s j ∧ s j < 2147483648) (hL : L ≤ 3072) (i : Int) (i0 : 0 ≤ i) (i1 : i + 6 ≤ L) (hop : z_and (s i) 63 = 29) : ∃ σ2 : Nat → Int → Int, zE (99 + 1) 237 18 [some (.inr 1), some (.inr 4), some (.inr 75), some (.inl i)] [] (zS, σ) = zE (99 + 1) 237 18 [some (.inr 1), some (.inr 4), some (.inr 75), some (.inl (i + 6))] [] (zS, σ2) ∧ zV s L σ2 := by
  have e1 : σ 1000 = s := (zV_sc h).1
  have e2 : σ 1001 0 = L := (zV_sc h).2
  obtain ⟨r, σ1, σ2, c1, c2, v, f1, f2⟩ := o_medals 90 s L σ h (s (i + 1)) (s (i + 2)) 
  have g1 : σ1 1000 = s := f1.trans e1
  have g2 : σ1 1001 0 = L := by rw [f2]; exact e2
  refine ⟨σ2, ?_, v⟩
  have c1 : zE 99 122 0 _ [] (zS, σ) = some (.inl r, (zS, σ1)) := c1
  have c2 : zE 99 _ 0 _ [] (zS, σ1) = some (.inl r, (zS, σ2)) := c2
  rw [e_237_18, e2, z_wid (by omega) (by omega), if_neg (by omega), if_pos (by omega), e1, hop]
  simp only [Int.reduceEq, ↓reduceIte]
  simp (disch := omega) only [e1, e2, g1, g2, z_wid, if_pos, if_neg, c1, c2, e_237_1193, e_237_1207, Option.bind_some, ↓reduceIte]
theorem w_l_count (s : Int → Int) (L : Int) (σ : Nat → Int → Int) (h : zV s L σ) (hs : ∀ j, -2147483648 ≤ s j ∧ s j < 2147483648) (hL : L ≤ 3072) (i : Int) (i0 : 0 ≤ i) (i1 : i + 6 ≤ L) (hop : z_and (s i) 63 = 30) : ∃ σ2 : Nat → Int → Int, zE (99 + 1) 237 18 [some (.inr 1), some (.inr 4), some (.inr 75), some (.inl i)] [] (zS, σ) = zE (99 + 1) 237 18 [some (.inr 1), some (.inr 4), some (.inr 75), some (.inl (i + 6))] [] (zS, σ2) ∧ zV s L σ2 := by
  have e1 : σ 1000 = s := (zV_sc h).1
  have e2 : σ 1001 0 = L := (zV_sc h).2
  obtain ⟨r, σ1, σ2, c1, c2, v, f1, f2⟩ := o_count 90 s L σ h (s (i + 1)) 
  have g1 : σ1 1000 = s := f1.trans e1
  have g2 : σ1 1001 0 = L := by rw [f2]; exact e2
  refine ⟨σ2, ?_, v⟩
  have c1 : zE 99 123 0 _ [] (zS, σ) = some (.inl r, (zS, σ1)) := c1
  have c2 : zE 99 _ 0 _ [] (zS, σ1) = some (.inl r, (zS, σ2)) := c2
  rw [e_237_18, e2, z_wid (by omega) (by omega), if_neg (by omega), if_pos (by omega), e1, hop]
  simp only [Int.reduceEq, ↓reduceIte]
  simp (disch := omega) only [e1, e2, g1, g2, z_wid, if_pos, if_neg, c1, c2, e_237_1221, e_237_1230, Option.bind_some, ↓reduceIte]
theorem w_l_act (s : Int → Int) (L : Int) (σ : Nat → Int → Int) (h : zV s L σ) (hs : ∀ j, -2147483648 ≤ s j ∧ s j < 2147483648) (hL : L ≤ 3072) (i : Int) (i0 : 0 ≤ i) (i1 : i + 6 ≤ L) (hop : z_and (s i) 63 = 31) : ∃ σ2 : Nat → Int → Int, zE (99 + 1) 237 18 [some (.inr 1), some (.inr 4), some (.inr 75), some (.inl i)] [] (zS, σ) = zE (99 + 1) 237 18 [some (.inr 1), some (.inr 4), some (.inr 75), some (.inl (i + 6))] [] (zS, σ2) ∧ zV s L σ2 := by
  have e1 : σ 1000 = s := (zV_sc h).1
  have e2 : σ 1001 0 = L := (zV_sc h).2
  obtain ⟨r, σ1, σ2, c1, c2, v, f1, f2⟩ := o_act 70 s L σ h (s (i + 1)) (s (i + 2)) (s (i + 3)) 
  have g1 : σ1 1000 = s := f1.trans e1
  have g2 : σ1 1001 0 = L := by rw [f2]; exact e2
  refine ⟨σ2, ?_, v⟩
  have c1 : zE 99 124 0 _ [] (zS, σ) = some (.inl r, (zS, σ1)) := c1
  have c2 : zE 99 _ 0 _ [] (zS, σ1) = some (.inl r, (zS, σ2)) := c2
  rw [e_237_18, e2, z_wid (by omega) (by omega), if_neg (by omega), if_pos (by omega), e1, hop]
  simp only [Int.reduceEq, ↓reduceIte]
  simp (disch := omega) only [e1, e2, g1, g2, z_wid, if_pos, if_neg, c1, c2, e_237_1254, e_237_1273, Option.bind_some, ↓reduceIte]
theorem w_l_trace (s : Int → Int) (L : Int) (σ : Nat → Int → Int) (h : zV s L σ) (hs : ∀ j, -2147483648 ≤ s j ∧ s j < 2147483648) (hL : L ≤ 3072) (i : Int) (i0 : 0 ≤ i) (i1 : i + 6 ≤ L) (hop : z_and (s i) 63 = 32) : ∃ σ2 : Nat → Int → Int, zE (99 + 1) 237 18 [some (.inr 1), some (.inr 4), some (.inr 75), some (.inl i)] [] (zS, σ) = zE (99 + 1) 237 18 [some (.inr 1), some (.inr 4), some (.inr 75), some (.inl (i + 6))] [] (zS, σ2) ∧ zV s L σ2 := by
  have e1 : σ 1000 = s := (zV_sc h).1
  have e2 : σ 1001 0 = L := (zV_sc h).2
  obtain ⟨r, σ1, σ2, c1, c2, v, f1, f2⟩ := o_trace 90 s L σ h (s (i + 1)) 
  have g1 : σ1 1000 = s := f1.trans e1
  have g2 : σ1 1001 0 = L := by rw [f2]; exact e2
  refine ⟨σ2, ?_, v⟩
  have c1 : zE 99 125 0 _ [] (zS, σ) = some (.inl r, (zS, σ1)) := c1
  have c2 : zE 99 _ 0 _ [] (zS, σ1) = some (.inl r, (zS, σ2)) := c2
  rw [e_237_18, e2, z_wid (by omega) (by omega), if_neg (by omega), if_pos (by omega), e1, hop]
  simp only [Int.reduceEq, ↓reduceIte]
  simp (disch := omega) only [e1, e2, g1, g2, z_wid, if_pos, if_neg, c1, c2, e_237_1287, e_237_1296, Option.bind_some, ↓reduceIte]
theorem w_l_sheet (s : Int → Int) (L : Int) (σ : Nat → Int → Int) (h : zV s L σ) (hs : ∀ j, -2147483648 ≤ s j ∧ s j < 2147483648) (hL : L ≤ 3072) (i : Int) (i0 : 0 ≤ i) (i1 : i + 6 ≤ L) (hop : z_and (s i) 63 = 33) : ∃ σ2 : Nat → Int → Int, zE (99 + 1) 237 18 [some (.inr 1), some (.inr 4), some (.inr 75), some (.inl i)] [] (zS, σ) = zE (99 + 1) 237 18 [some (.inr 1), some (.inr 4), some (.inr 75), some (.inl (i + 6))] [] (zS, σ2) ∧ zV s L σ2 := by
  have e1 : σ 1000 = s := (zV_sc h).1
  have e2 : σ 1001 0 = L := (zV_sc h).2
  obtain ⟨r, σ1, σ2, c1, c2, v, f1, f2⟩ := o_sheet 90 s L σ h (s (i + 1)) (s (i + 2)) (s (i + 3)) 
  have g1 : σ1 1000 = s := f1.trans e1
  have g2 : σ1 1001 0 = L := by rw [f2]; exact e2
  refine ⟨σ2, ?_, v⟩
  have c1 : zE 99 126 0 _ [] (zS, σ) = some (.inl r, (zS, σ1)) := c1
  have c2 : zE 99 _ 0 _ [] (zS, σ1) = some (.inl r, (zS, σ2)) := c2
  rw [e_237_18, e2, z_wid (by omega) (by omega), if_neg (by omega), if_pos (by omega), e1, hop]
  simp only [Int.reduceEq, ↓reduceIte]
  simp (disch := omega) only [e1, e2, g1, g2, z_wid, if_pos, if_neg, c1, c2, e_237_1320, e_237_1339, Option.bind_some, ↓reduceIte]
theorem w_l_cell (s : Int → Int) (L : Int) (σ : Nat → Int → Int) (h : zV s L σ) (hs : ∀ j, -2147483648 ≤ s j ∧ s j < 2147483648) (hL : L ≤ 3072) (i : Int) (i0 : 0 ≤ i) (i1 : i + 6 ≤ L) (hop : z_and (s i) 63 = 34) : ∃ σ2 : Nat → Int → Int, zE (99 + 1) 237 18 [some (.inr 1), some (.inr 4), some (.inr 75), some (.inl i)] [] (zS, σ) = zE (99 + 1) 237 18 [some (.inr 1), some (.inr 4), some (.inr 75), some (.inl (i + 6))] [] (zS, σ2) ∧ zV s L σ2 := by
  have e1 : σ 1000 = s := (zV_sc h).1
  have e2 : σ 1001 0 = L := (zV_sc h).2
  obtain ⟨r, σ1, σ2, c1, c2, v, f1, f2⟩ := o_cell 90 s L σ h (s (i + 1)) (s (i + 2)) (s (i + 3)) 
  have g1 : σ1 1000 = s := f1.trans e1
  have g2 : σ1 1001 0 = L := by rw [f2]; exact e2
  refine ⟨σ2, ?_, v⟩
  have c1 : zE 99 127 0 _ [] (zS, σ) = some (.inl r, (zS, σ1)) := c1
  have c2 : zE 99 _ 0 _ [] (zS, σ1) = some (.inl r, (zS, σ2)) := c2
  rw [e_237_18, e2, z_wid (by omega) (by omega), if_neg (by omega), if_pos (by omega), e1, hop]
  simp only [Int.reduceEq, ↓reduceIte]
  simp (disch := omega) only [e1, e2, g1, g2, z_wid, if_pos, if_neg, c1, c2, e_237_1363, e_237_1382, Option.bind_some, ↓reduceIte]
theorem w_l_row (s : Int → Int) (L : Int) (σ : Nat → Int → Int) (h : zV s L σ) (hs : ∀ j, -2147483648 ≤ s j ∧ s j < 2147483648) (hL : L ≤ 3072) (i : Int) (i0 : 0 ≤ i) (i1 : i + 6 ≤ L) (hop : z_and (s i) 63 = 35) : ∃ σ2 : Nat → Int → Int, zE (99 + 1) 237 18 [some (.inr 1), some (.inr 4), some (.inr 75), some (.inl i)] [] (zS, σ) = zE (99 + 1) 237 18 [some (.inr 1), some (.inr 4), some (.inr 75), some (.inl (i + 6))] [] (zS, σ2) ∧ zV s L σ2 := by
  have e1 : σ 1000 = s := (zV_sc h).1
  have e2 : σ 1001 0 = L := (zV_sc h).2
  obtain ⟨r, σ1, σ2, c1, c2, v, f1, f2⟩ := o_row 90 s L σ h (s (i + 1)) (s (i + 2)) (s (i + 3)) (hs (i + 3)).2
  have g1 : σ1 1000 = s := f1.trans e1
  have g2 : σ1 1001 0 = L := by rw [f2]; exact e2
  refine ⟨σ2, ?_, v⟩
  have c1 : zE 99 128 0 _ [] (zS, σ) = some (.inl r, (zS, σ1)) := c1
  have c2 : zE 99 _ 0 _ [] (zS, σ1) = some (.inl r, (zS, σ2)) := c2
  rw [e_237_18, e2, z_wid (by omega) (by omega), if_neg (by omega), if_pos (by omega), e1, hop]
  simp only [Int.reduceEq, ↓reduceIte]
  simp (disch := omega) only [e1, e2, g1, g2, z_wid, if_pos, if_neg, c1, c2, e_237_1406, e_237_1425, Option.bind_some, ↓reduceIte]
theorem w_l_forge (s : Int → Int) (L : Int) (σ : Nat → Int → Int) (h : zV s L σ) (hs : ∀ j, -2147483648 ≤ s j ∧ s j < 2147483648) (hL : L ≤ 3072) (i : Int) (i0 : 0 ≤ i) (i1 : i + 6 ≤ L) (hop : z_and (s i) 63 = 36) : ∃ σ2 : Nat → Int → Int, zE (99 + 1) 237 18 [some (.inr 1), some (.inr 4), some (.inr 75), some (.inl i)] [] (zS, σ) = zE (99 + 1) 237 18 [some (.inr 1), some (.inr 4), some (.inr 75), some (.inl (i + 6))] [] (zS, σ2) ∧ zV s L σ2 := by
  have e1 : σ 1000 = s := (zV_sc h).1
  have e2 : σ 1001 0 = L := (zV_sc h).2
  obtain ⟨r, σ1, σ2, c1, c2, v, f1, f2⟩ := o_forge 90 s L σ h (s (i + 1)) (s (i + 2)) (s (i + 3)) 
  have g1 : σ1 1000 = s := f1.trans e1
  have g2 : σ1 1001 0 = L := by rw [f2]; exact e2
  refine ⟨σ2, ?_, v⟩
  have c1 : zE 99 129 0 _ [] (zS, σ) = some (.inl r, (zS, σ1)) := c1
  have c2 : zE 99 _ 0 _ [] (zS, σ1) = some (.inl r, (zS, σ2)) := c2
  rw [e_237_18, e2, z_wid (by omega) (by omega), if_neg (by omega), if_pos (by omega), e1, hop]
  simp only [Int.reduceEq, ↓reduceIte]
  simp (disch := omega) only [e1, e2, g1, g2, z_wid, if_pos, if_neg, c1, c2, e_237_1449, e_237_1468, Option.bind_some, ↓reduceIte]
theorem w_l_status (s : Int → Int) (L : Int) (σ : Nat → Int → Int) (h : zV s L σ) (hs : ∀ j, -2147483648 ≤ s j ∧ s j < 2147483648) (hL : L ≤ 3072) (i : Int) (i0 : 0 ≤ i) (i1 : i + 6 ≤ L) (hop : z_and (s i) 63 = 37) : ∃ σ2 : Nat → Int → Int, zE (99 + 1) 237 18 [some (.inr 1), some (.inr 4), some (.inr 75), some (.inl i)] [] (zS, σ) = zE (99 + 1) 237 18 [some (.inr 1), some (.inr 4), some (.inr 75), some (.inl (i + 6))] [] (zS, σ2) ∧ zV s L σ2 := by
  have e1 : σ 1000 = s := (zV_sc h).1
  have e2 : σ 1001 0 = L := (zV_sc h).2
  obtain ⟨r, σ1, σ2, c1, c2, v, f1, f2⟩ := o_status 90 s L σ h  
  have g1 : σ1 1000 = s := f1.trans e1
  have g2 : σ1 1001 0 = L := by rw [f2]; exact e2
  refine ⟨σ2, ?_, v⟩
  have c1 : zE 99 130 0 _ [] (zS, σ) = some (.inl r, (zS, σ1)) := c1
  have c2 : zE 99 _ 0 _ [] (zS, σ1) = some (.inl r, (zS, σ2)) := c2
  rw [e_237_18, e2, z_wid (by omega) (by omega), if_neg (by omega), if_pos (by omega), e1, hop]
  simp only [Int.reduceEq, ↓reduceIte]
  simp (disch := omega) only [e1, e2, g1, g2, z_wid, if_pos, if_neg, c1, c2, e_237_1477, e_237_1481, Option.bind_some, ↓reduceIte]
theorem w_and63 (x : Int) : 0 ≤ z_and x 63 ∧ z_and x 63 ≤ 63 := by
  show 0 ≤ (Int32.ofInt x &&& 63).toBitVec.toInt ∧ (Int32.ofInt x &&& 63).toBitVec.toInt ≤ 63
  rw [Int32.toBitVec_and]
  have a : ((Int32.ofInt x).toBitVec &&& (63 : Int32).toBitVec).toNat ≤ 63 := by
    rw [BitVec.toNat_and]
    exact Nat.and_le_right
  rw [BitVec.toInt_eq_toNat_of_lt (by omega)]
  omega
theorem w_l_none (s : Int → Int) (L : Int) (σ : Nat → Int → Int) (h : zV s L σ) (hL : L ≤ 3072) (i : Int) (i0 : 0 ≤ i) (i1 : i + 6 ≤ L) (hop : ¬ (0 ≤ z_and (s i) 63 ∧ z_and (s i) 63 ≤ 37)) : zE (99 + 1) 237 18 [some (.inr 1), some (.inr 4), some (.inr 75), some (.inl i)] [] (zS, σ) = zE (99 + 1) 237 18 [some (.inr 1), some (.inr 4), some (.inr 75), some (.inl (i + 6))] [] (zS, σ) := by
  have e1 : σ 1000 = s := (zV_sc h).1
  have e2 : σ 1001 0 = L := (zV_sc h).2
  rw [e_237_18, e2, z_wid (x := L - 6) (by omega) (by omega), if_neg (by omega), if_pos (by omega), e1, z_wid (x := i + 6) (by omega) (by omega)]
  rw [if_neg (show ¬ z_and (s i) 63 = 0 by omega), if_neg (show ¬ z_and (s i) 63 = 1 by omega), if_neg (show ¬ z_and (s i) 63 = 2 by omega), if_neg (show ¬ z_and (s i) 63 = 3 by omega), if_neg (show ¬ z_and (s i) 63 = 4 by omega), if_neg (show ¬ z_and (s i) 63 = 5 by omega), if_neg (show ¬ z_and (s i) 63 = 6 by omega), if_neg (show ¬ z_and (s i) 63 = 7 by omega), if_neg (show ¬ z_and (s i) 63 = 8 by omega), if_neg (show ¬ z_and (s i) 63 = 9 by omega), if_neg (show ¬ z_and (s i) 63 = 10 by omega), if_neg (show ¬ z_and (s i) 63 = 11 by omega), if_neg (show ¬ z_and (s i) 63 = 12 by omega), if_neg (show ¬ z_and (s i) 63 = 13 by omega), if_neg (show ¬ z_and (s i) 63 = 14 by omega), if_neg (show ¬ z_and (s i) 63 = 15 by omega), if_neg (show ¬ z_and (s i) 63 = 16 by omega), if_neg (show ¬ z_and (s i) 63 = 17 by omega), if_neg (show ¬ z_and (s i) 63 = 18 by omega), if_neg (show ¬ z_and (s i) 63 = 19 by omega), if_neg (show ¬ z_and (s i) 63 = 20 by omega), if_neg (show ¬ z_and (s i) 63 = 21 by omega), if_neg (show ¬ z_and (s i) 63 = 22 by omega), if_neg (show ¬ z_and (s i) 63 = 23 by omega), if_neg (show ¬ z_and (s i) 63 = 24 by omega), if_neg (show ¬ z_and (s i) 63 = 25 by omega), if_neg (show ¬ z_and (s i) 63 = 26 by omega), if_neg (show ¬ z_and (s i) 63 = 27 by omega), if_neg (show ¬ z_and (s i) 63 = 28 by omega), if_neg (show ¬ z_and (s i) 63 = 29 by omega), if_neg (show ¬ z_and (s i) 63 = 30 by omega), if_neg (show ¬ z_and (s i) 63 = 31 by omega), if_neg (show ¬ z_and (s i) 63 = 32 by omega), if_neg (show ¬ z_and (s i) 63 = 33 by omega), if_neg (show ¬ z_and (s i) 63 = 34 by omega), if_neg (show ¬ z_and (s i) 63 = 35 by omega), if_neg (show ¬ z_and (s i) 63 = 36 by omega), if_neg (show ¬ z_and (s i) 63 = 37 by omega)]
/-- the law's loop -/
theorem w_loop (s : Int → Int) (L : Int) (hs : ∀ j, -2147483648 ≤ s j ∧ s j < 2147483648) (hL0 : 0 ≤ L) (hL : L ≤ 3072) : ∀ (m : Nat) (i : Int) (σ : Nat → Int → Int), L - i < m → 0 ≤ i → zV s L σ → i ≤ L → ∃ σ' : Nat → Int → Int, zE (99 + 1) 237 18 [some (.inr 1), some (.inr 4), some (.inr 75), some (.inl i)] [] (zS, σ) = some (.inl 1, (zS, σ'))
  | 0, i, σ, hm, i0, h, iL => by omega
  | m + 1, i, σ, hm, i0, h, iL => by
    have e2 : σ 1001 0 = L := (zV_sc h).2
    by_cases c : i + 6 ≤ L
    · have step : ∃ σ2 : Nat → Int → Int, zE (99 + 1) 237 18 [some (.inr 1), some (.inr 4), some (.inr 75), some (.inl i)] [] (zS, σ) = zE (99 + 1) 237 18 [some (.inr 1), some (.inr 4), some (.inr 75), some (.inl (i + 6))] [] (zS, σ2) ∧ zV s L σ2 := by
        by_cases g : 0 ≤ z_and (s i) 63 ∧ z_and (s i) 63 ≤ 37
        · generalize hop : z_and (s i) 63 = x at g
          have e : x = 0 ∨ x = 1 ∨ x = 2 ∨ x = 3 ∨ x = 4 ∨ x = 5 ∨ x = 6 ∨ x = 7 ∨ x = 8 ∨ x = 9 ∨ x = 10 ∨ x = 11 ∨ x = 12 ∨ x = 13 ∨ x = 14 ∨ x = 15 ∨ x = 16 ∨ x = 17 ∨ x = 18 ∨ x = 19 ∨ x = 20 ∨ x = 21 ∨ x = 22 ∨ x = 23 ∨ x = 24 ∨ x = 25 ∨ x = 26 ∨ x = 27 ∨ x = 28 ∨ x = 29 ∨ x = 30 ∨ x = 31 ∨ x = 32 ∨ x = 33 ∨ x = 34 ∨ x = 35 ∨ x = 36 ∨ x = 37 := by omega
          rcases e with e | e | e | e | e | e | e | e | e | e | e | e | e | e | e | e | e | e | e | e | e | e | e | e | e | e | e | e | e | e | e | e | e | e | e | e | e | e <;> subst e
          · exact w_l_person s L σ h hs hL i i0 c hop
          · exact w_l_zone s L σ h hs hL i i0 c hop
          · exact w_l_door s L σ h hs hL i i0 c hop
          · exact w_l_pass s L σ h hs hL i i0 c hop
          · exact w_l_lose s L σ h hs hL i i0 c hop
          · exact w_l_rule s L σ h hs hL i i0 c hop
          · exact w_l_end s L σ h hs hL i i0 c hop
          · exact w_l_clock s L σ h hs hL i i0 c hop
          · exact w_l_go s L σ h hs hL i i0 c hop
          · exact w_l_unit s L σ h hs hL i i0 c hop
          · exact w_l_seats s L σ h hs hL i i0 c hop
          · exact w_l_room s L σ h hs hL i i0 c hop
          · exact w_l_group s L σ h hs hL i i0 c hop
          · exact w_l_result s L σ h hs hL i i0 c hop
          · exact w_l_strip s L σ h hs hL i i0 c hop
          · exact w_l_image s L σ h hs hL i i0 c hop
          · exact w_l_back s L σ h hs hL i i0 c hop
          · exact w_l_personTold s L σ h hs hL i i0 c hop
          · exact w_l_zoneTold s L σ h hs hL i i0 c hop
          · exact w_l_passTold s L σ h hs hL i i0 c hop
          · exact w_l_opens s L σ h hs hL i i0 c hop
          · exact w_l_why s L σ h hs hL i i0 c hop
          · exact w_l_may s L σ h hs hL i i0 c hop
          · exact w_l_begins s L σ h hs hL i i0 c hop
          · exact w_l_order s L σ h hs hL i i0 c hop
          · exact w_l_planned s L σ h hs hL i i0 c hop
          · exact w_l_fleet s L σ h hs hL i i0 c hop
          · exact w_l_rooming s L σ h hs hL i i0 c hop
          · exact w_l_placed s L σ h hs hL i i0 c hop
          · exact w_l_medals s L σ h hs hL i i0 c hop
          · exact w_l_count s L σ h hs hL i i0 c hop
          · exact w_l_act s L σ h hs hL i i0 c hop
          · exact w_l_trace s L σ h hs hL i i0 c hop
          · exact w_l_sheet s L σ h hs hL i i0 c hop
          · exact w_l_cell s L σ h hs hL i i0 c hop
          · exact w_l_row s L σ h hs hL i i0 c hop
          · exact w_l_forge s L σ h hs hL i i0 c hop
          · exact w_l_status s L σ h hs hL i i0 c hop
        · exact ⟨σ, w_l_none s L σ h hL i i0 c g, h⟩
      obtain ⟨σ2, t, v⟩ := step
      obtain ⟨σ', w⟩ := w_loop s L hs hL0 hL m (i + 6) σ2 (by omega) (by omega) v c
      exact ⟨σ', by rw [t, w]⟩
    · rw [e_237_18, e2, z_wid (by omega) (by omega), if_pos (by omega)]
      exact ⟨σ, rfl⟩
