theorem z_copy_fn {σ : Nat → Int → Int} {a b k : Nat} {i j n : Int} (h : k ≠ b) : z_copy σ a b i j n k = σ k := by
  funext x
  unfold z_copy
  rw [if_neg (fun q => h q.1)]
theorem z_copy_in {σ : Nat → Int → Int} {a b : Nat} {n x : Int} (h0 : 0 ≤ x) (h1 : x < n) : z_copy σ a b 0 0 n b x = σ a x := by
  unfold z_copy
  rw [if_pos ⟨rfl, h0, by omega⟩, Int.sub_zero, Int.zero_add]
theorem s_205a (d : Nat) : ∀ (n : Nat) (j : Int) (σ : Nat → Int → Int), 0 ≤ j → j + n = 12 → ∃ σ' : Nat → Int → Int, zE d 205 117 [some (.inr 75), some (.inl j)] [] (zS, σ) = zE d 205 117 [some (.inr 75), some (.inl 12)] [] (zS, σ') ∧ (∀ k : Nat, k ≠ 114 → k ≠ 117 → σ' k = σ k) ∧ (∀ i : Int, 0 ≤ i ∧ i < j → σ' 114 i = σ 114 i ∧ σ' 114 (12 + i) = σ 114 (12 + i) ∧ σ' 117 i = σ 117 i) ∧ (∀ i : Int, j ≤ i → i < 12 → σ' 114 i = σ 73 i ∧ σ' 114 (12 + i) = σ 74 i ∧ σ' 117 i = σ 93 i)
  | 0, j, σ, j0, j1 => ⟨σ, by rw [show j = 12 by omega], fun _ _ _ => rfl, fun i _ => ⟨rfl, rfl, rfl⟩, fun i a b => by omega⟩
  | n + 1, j, σ, j0, j1 => by
    obtain ⟨σ', h1, h2, h3, h4⟩ := s_205a d n (j + 1) (z_up (z_up (z_up (σ) 114 j (σ 73 j)) 114 (12 + j) (σ 74 j)) 117 j (σ 93 j)) (by omega) (by omega)
    refine ⟨σ', ?_, fun k c114 c117 => ?_, fun i hi => ?_, fun i hi hj => ?_⟩
    · rw [e_205_117, z_wid (x := 12 + j) (by omega) (by omega), if_pos (by omega), if_pos (by omega), if_pos (by omega), if_pos (by omega), if_pos (by omega), if_pos (by omega), if_pos (by omega), z_wid (x := j + 1) (by omega) (by omega)]
      exact h1
    · simp (disch := omega) only [h2, z_up_fn]
    · have q := h3 i (by omega)
      simp (disch := omega) only [z_up_fn, z_up_ni] at q
      exact q
    · by_cases c : i = j
      · subst c
        have q := h3 i (by omega)
        simp (disch := omega) only [z_up_fn, z_up_ni, z_up_eq] at q
        exact q
      · have q := h4 i (by omega) hj
        simp (disch := omega) only [z_up_fn] at q
        exact q
theorem s_205b (d : Nat) : ∀ (n : Nat) (j : Int) (σ : Nat → Int → Int), 0 ≤ j → j + n = 6 → ∃ σ' : Nat → Int → Int, zE d 205 170 [some (.inr 75), some (.inl j)] [] (zS, σ) = zE d 205 170 [some (.inr 75), some (.inl 6)] [] (zS, σ') ∧ (∀ k : Nat, k ≠ 115 → σ' k = σ k) ∧ (∀ i : Int, 0 ≤ i ∧ i < j → σ' 115 i = σ 115 i ∧ σ' 115 (6 + i) = σ 115 (6 + i)) ∧ (∀ i : Int, j ≤ i → i < 6 → σ' 115 i = σ 76 i ∧ σ' 115 (6 + i) = σ 77 i)
  | 0, j, σ, j0, j1 => ⟨σ, by rw [show j = 6 by omega], fun _ _ => rfl, fun i _ => ⟨rfl, rfl⟩, fun i a b => by omega⟩
  | n + 1, j, σ, j0, j1 => by
    obtain ⟨σ', h1, h2, h3, h4⟩ := s_205b d n (j + 1) (z_up (z_up (σ) 115 j (σ 76 j)) 115 (6 + j) (σ 77 j)) (by omega) (by omega)
    refine ⟨σ', ?_, fun k c115 => ?_, fun i hi => ?_, fun i hi hj => ?_⟩
    · rw [e_205_170, z_wid (x := 6 + j) (by omega) (by omega), if_pos (by omega), if_pos (by omega), if_pos (by omega), if_pos (by omega), if_pos (by omega), z_wid (x := j + 1) (by omega) (by omega)]
      exact h1
    · simp (disch := omega) only [h2, z_up_fn]
    · have q := h3 i (by omega)
      simp (disch := omega) only [z_up_fn, z_up_ni] at q
      exact q
    · by_cases c : i = j
      · subst c
        have q := h3 i (by omega)
        simp (disch := omega) only [z_up_fn, z_up_ni, z_up_eq] at q
        exact q
      · have q := h4 i (by omega) hj
        simp (disch := omega) only [z_up_fn] at q
        exact q
theorem s_205c (d : Nat) : ∀ (n : Nat) (j : Int) (σ : Nat → Int → Int), 0 ≤ j → j + n = 20 → ∃ σ' : Nat → Int → Int, zE d 205 211 [some (.inr 75), some (.inl j)] [] (zS, σ) = zE d 205 211 [some (.inr 75), some (.inl 20)] [] (zS, σ') ∧ (∀ k : Nat, k ≠ 116 → σ' k = σ k) ∧ (∀ i : Int, 0 ≤ i ∧ i < j → σ' 116 i = σ 116 i ∧ σ' 116 (20 + i) = σ 116 (20 + i)) ∧ (∀ i : Int, j ≤ i → i < 20 → σ' 116 i = σ 85 i ∧ σ' 116 (20 + i) = σ 86 i)
  | 0, j, σ, j0, j1 => ⟨σ, by rw [show j = 20 by omega], fun _ _ => rfl, fun i _ => ⟨rfl, rfl⟩, fun i a b => by omega⟩
  | n + 1, j, σ, j0, j1 => by
    obtain ⟨σ', h1, h2, h3, h4⟩ := s_205c d n (j + 1) (z_up (z_up (σ) 116 j (σ 85 j)) 116 (20 + j) (σ 86 j)) (by omega) (by omega)
    refine ⟨σ', ?_, fun k c116 => ?_, fun i hi => ?_, fun i hi hj => ?_⟩
    · rw [e_205_211, z_wid (x := 20 + j) (by omega) (by omega), if_pos (by omega), if_pos (by omega), if_pos (by omega), if_pos (by omega), if_pos (by omega), z_wid (x := j + 1) (by omega) (by omega)]
      exact h1
    · simp (disch := omega) only [h2, z_up_fn]
    · have q := h3 i (by omega)
      simp (disch := omega) only [z_up_fn, z_up_ni] at q
      exact q
    · by_cases c : i = j
      · subst c
        have q := h3 i (by omega)
        simp (disch := omega) only [z_up_fn, z_up_ni, z_up_eq] at q
        exact q
      · have q := h4 i (by omega) hj
        simp (disch := omega) only [z_up_fn] at q
        exact q
theorem s_205d (d : Nat) : ∀ (n : Nat) (j : Int) (σ : Nat → Int → Int), 0 ≤ j → j + n = 10 → ∃ σ' : Nat → Int → Int, zE (d + 1) 205 252 [some (.inr 75), some (.inl j)] [] (zS, σ) = zE (d + 1) 205 252 [some (.inr 75), some (.inl 10)] [] (zS, σ') ∧ (∀ k : Nat, k ≠ 118 → σ' k = σ k) ∧ (∀ i : Int, 0 ≤ i ∧ i < j → σ' 118 i = σ 118 i) ∧ (∀ i : Int, j ≤ i → i < 10 → σ' 118 i = σ 106 i)
  | 0, j, σ, j0, j1 => ⟨σ, by rw [show j = 10 by omega], fun _ _ => rfl, fun i _ => rfl, fun i a b => by omega⟩
  | n + 1, j, σ, j0, j1 => by
    obtain ⟨σ', h1, h2, h3, h4⟩ := s_205d d n (j + 1) (z_up (σ) 118 j (σ 106 j)) (by omega) (by omega)
    refine ⟨σ', ?_, fun k c118 => ?_, fun i hi => ?_, fun i hi hj => ?_⟩
    · rw [e_205_252, if_pos (by omega), if_pos (by omega), if_pos (by omega), z_wid (x := j + 1) (by omega) (by omega)]
      exact h1
    · simp (disch := omega) only [h2, z_up_fn]
    · have q := h3 i (by omega)
      simp (disch := omega) only [z_up_fn, z_up_ni] at q
      exact q
    · by_cases c : i = j
      · subst c
        have q := h3 i (by omega)
        simp (disch := omega) only [z_up_fn, z_up_ni, z_up_eq] at q
        exact q
      · have q := h4 i (by omega) hj
        simp (disch := omega) only [z_up_fn] at q
        exact q
theorem s_206a (d : Nat) : ∀ (n : Nat) (j : Int) (σ : Nat → Int → Int), 0 ≤ j → j + n = 12 → ∃ σ' : Nat → Int → Int, zE d 206 155 [some (.inr 75), some (.inl j)] [] (zS, σ) = zE d 206 155 [some (.inr 75), some (.inl 12)] [] (zS, σ') ∧ (∀ k : Nat, k ≠ 73 → k ≠ 74 → k ≠ 93 → σ' k = σ k) ∧ (∀ i : Int, 0 ≤ i ∧ i < j → σ' 73 i = σ 73 i ∧ σ' 74 i = σ 74 i ∧ σ' 93 i = σ 93 i) ∧ (∀ i : Int, j ≤ i → i < 12 → σ' 73 i = σ 114 i ∧ σ' 74 i = σ 114 (12 + i) ∧ σ' 93 i = σ 117 i)
  | 0, j, σ, j0, j1 => ⟨σ, by rw [show j = 12 by omega], fun _ _ _ _ => rfl, fun i _ => ⟨rfl, rfl, rfl⟩, fun i a b => by omega⟩
  | n + 1, j, σ, j0, j1 => by
    obtain ⟨σ', h1, h2, h3, h4⟩ := s_206a d n (j + 1) (z_up (z_up (z_up (σ) 73 j (σ 114 j)) 74 j (σ 114 (12 + j))) 93 j (σ 117 j)) (by omega) (by omega)
    refine ⟨σ', ?_, fun k c73 c74 c93 => ?_, fun i hi => ?_, fun i hi hj => ?_⟩
    · rw [e_206_155, z_wid (x := 12 + j) (by omega) (by omega), if_pos (by omega), if_pos (by omega), if_pos (by omega), if_pos (by omega), if_pos (by omega), if_pos (by omega), if_pos (by omega), z_wid (x := j + 1) (by omega) (by omega)]
      exact h1
    · simp (disch := omega) only [h2, z_up_fn]
    · have q := h3 i (by omega)
      simp (disch := omega) only [z_up_fn, z_up_ni] at q
      exact q
    · by_cases c : i = j
      · subst c
        have q := h3 i (by omega)
        simp (disch := omega) only [z_up_fn, z_up_ni, z_up_eq] at q
        exact q
      · have q := h4 i (by omega) hj
        simp (disch := omega) only [z_up_fn] at q
        exact q
theorem s_206b (d : Nat) : ∀ (n : Nat) (j : Int) (σ : Nat → Int → Int), 0 ≤ j → j + n = 6 → ∃ σ' : Nat → Int → Int, zE d 206 208 [some (.inr 75), some (.inl j)] [] (zS, σ) = zE d 206 208 [some (.inr 75), some (.inl 6)] [] (zS, σ') ∧ (∀ k : Nat, k ≠ 76 → k ≠ 77 → σ' k = σ k) ∧ (∀ i : Int, 0 ≤ i ∧ i < j → σ' 76 i = σ 76 i ∧ σ' 77 i = σ 77 i) ∧ (∀ i : Int, j ≤ i → i < 6 → σ' 76 i = σ 115 i ∧ σ' 77 i = σ 115 (6 + i))
  | 0, j, σ, j0, j1 => ⟨σ, by rw [show j = 6 by omega], fun _ _ _ => rfl, fun i _ => ⟨rfl, rfl⟩, fun i a b => by omega⟩
  | n + 1, j, σ, j0, j1 => by
    obtain ⟨σ', h1, h2, h3, h4⟩ := s_206b d n (j + 1) (z_up (z_up (σ) 76 j (σ 115 j)) 77 j (σ 115 (6 + j))) (by omega) (by omega)
    refine ⟨σ', ?_, fun k c76 c77 => ?_, fun i hi => ?_, fun i hi hj => ?_⟩
    · rw [e_206_208, z_wid (x := 6 + j) (by omega) (by omega), if_pos (by omega), if_pos (by omega), if_pos (by omega), if_pos (by omega), if_pos (by omega), z_wid (x := j + 1) (by omega) (by omega)]
      exact h1
    · simp (disch := omega) only [h2, z_up_fn]
    · have q := h3 i (by omega)
      simp (disch := omega) only [z_up_fn, z_up_ni] at q
      exact q
    · by_cases c : i = j
      · subst c
        have q := h3 i (by omega)
        simp (disch := omega) only [z_up_fn, z_up_ni, z_up_eq] at q
        exact q
      · have q := h4 i (by omega) hj
        simp (disch := omega) only [z_up_fn] at q
        exact q
theorem s_206c (d : Nat) : ∀ (n : Nat) (j : Int) (σ : Nat → Int → Int), 0 ≤ j → j + n = 20 → ∃ σ' : Nat → Int → Int, zE d 206 249 [some (.inr 75), some (.inl j)] [] (zS, σ) = zE d 206 249 [some (.inr 75), some (.inl 20)] [] (zS, σ') ∧ (∀ k : Nat, k ≠ 85 → k ≠ 86 → σ' k = σ k) ∧ (∀ i : Int, 0 ≤ i ∧ i < j → σ' 85 i = σ 85 i ∧ σ' 86 i = σ 86 i) ∧ (∀ i : Int, j ≤ i → i < 20 → σ' 85 i = σ 116 i ∧ σ' 86 i = σ 116 (20 + i))
  | 0, j, σ, j0, j1 => ⟨σ, by rw [show j = 20 by omega], fun _ _ _ => rfl, fun i _ => ⟨rfl, rfl⟩, fun i a b => by omega⟩
  | n + 1, j, σ, j0, j1 => by
    obtain ⟨σ', h1, h2, h3, h4⟩ := s_206c d n (j + 1) (z_up (z_up (σ) 85 j (σ 116 j)) 86 j (σ 116 (20 + j))) (by omega) (by omega)
    refine ⟨σ', ?_, fun k c85 c86 => ?_, fun i hi => ?_, fun i hi hj => ?_⟩
    · rw [e_206_249, z_wid (x := 20 + j) (by omega) (by omega), if_pos (by omega), if_pos (by omega), if_pos (by omega), if_pos (by omega), if_pos (by omega), z_wid (x := j + 1) (by omega) (by omega)]
      exact h1
    · simp (disch := omega) only [h2, z_up_fn]
    · have q := h3 i (by omega)
      simp (disch := omega) only [z_up_fn, z_up_ni] at q
      exact q
    · by_cases c : i = j
      · subst c
        have q := h3 i (by omega)
        simp (disch := omega) only [z_up_fn, z_up_ni, z_up_eq] at q
        exact q
      · have q := h4 i (by omega) hj
        simp (disch := omega) only [z_up_fn] at q
        exact q
theorem s_206d (d : Nat) : ∀ (n : Nat) (j : Int) (σ : Nat → Int → Int), 0 ≤ j → j + n = 10 → ∃ σ' : Nat → Int → Int, zE (d + 1) 206 290 [some (.inr 75), some (.inl j)] [] (zS, σ) = zE (d + 1) 206 290 [some (.inr 75), some (.inl 10)] [] (zS, σ') ∧ (∀ k : Nat, k ≠ 106 → σ' k = σ k) ∧ (∀ i : Int, 0 ≤ i ∧ i < j → σ' 106 i = σ 106 i) ∧ (∀ i : Int, j ≤ i → i < 10 → σ' 106 i = σ 118 i)
  | 0, j, σ, j0, j1 => ⟨σ, by rw [show j = 10 by omega], fun _ _ => rfl, fun i _ => rfl, fun i a b => by omega⟩
  | n + 1, j, σ, j0, j1 => by
    obtain ⟨σ', h1, h2, h3, h4⟩ := s_206d d n (j + 1) (z_up (σ) 106 j (σ 118 j)) (by omega) (by omega)
    refine ⟨σ', ?_, fun k c106 => ?_, fun i hi => ?_, fun i hi hj => ?_⟩
    · rw [e_206_290, if_pos (by omega), if_pos (by omega), if_pos (by omega), z_wid (x := j + 1) (by omega) (by omega)]
      exact h1
    · simp (disch := omega) only [h2, z_up_fn]
    · have q := h3 i (by omega)
      simp (disch := omega) only [z_up_fn, z_up_ni] at q
      exact q
    · by_cases c : i = j
      · subst c
        have q := h3 i (by omega)
        simp (disch := omega) only [z_up_fn, z_up_ni, z_up_eq] at q
        exact q
      · have q := h4 i (by omega) hj
        simp (disch := omega) only [z_up_fn] at q
        exact q
theorem s_205 (d : Nat) (σ : Nat → Int → Int) : ∃ σ' : Nat → Int → Int, zE (d + 1) 205 0 [some (.inr 75), none] [] (zS, σ) = some (.inl 1, (zS, σ')) ∧ (∀ k : Nat, k ≠ 71 → ¬ (113 ≤ k ∧ k ≤ 118) → σ' k = σ k) ∧ σ' 71 = z_up (z_up σ 71 58 1) 71 0 0 71 ∧ (σ' 113 0 = σ 71 2 ∧ σ' 113 1 = σ 71 6 ∧ σ' 113 2 = σ 71 10 ∧ σ' 113 3 = σ 71 13 ∧ σ' 113 4 = σ 71 21 ∧ σ' 113 5 = σ 71 1 ∧ σ' 113 6 = σ 71 29 ∧ σ' 113 7 = σ 71 36 ∧ σ' 113 8 = σ 71 38 ∧ σ' 113 9 = σ 71 43 ∧ σ' 113 10 = σ 71 35) ∧ (∀ i, 0 ≤ i → i < 12 → σ' 114 i = σ 73 i ∧ σ' 114 (12 + i) = σ 74 i ∧ σ' 117 i = σ 93 i) ∧ (∀ i, 0 ≤ i → i < 6 → σ' 115 i = σ 76 i ∧ σ' 115 (6 + i) = σ 77 i) ∧ (∀ i, 0 ≤ i → i < 20 → σ' 116 i = σ 85 i ∧ σ' 116 (20 + i) = σ 86 i) ∧ (∀ i, 0 ≤ i → i < 10 → σ' 118 i = σ 106 i) := by
  rw [e_205_0]
  obtain ⟨a, a1, a2, a3, a4⟩ := s_205a (d + 1) 12 0 (z_up (z_up (z_up (z_up (z_up (z_up (z_up (z_up (z_up (z_up (z_up (σ) 113 0 (σ 71 2)) 113 1 (σ 71 6)) 113 2 (σ 71 10)) 113 3 (σ 71 13)) 113 4 (σ 71 21)) 113 5 (σ 71 1)) 113 6 (σ 71 29)) 113 7 (σ 71 36)) 113 8 (σ 71 38)) 113 9 (σ 71 43)) 113 10 (σ 71 35)) (by omega) (by omega)
  rw [a1, e_205_117, if_neg (by omega)]
  obtain ⟨b, b1, b2, b3, b4⟩ := s_205b (d + 1) 6 0 a (by omega) (by omega)
  rw [b1, e_205_170, if_neg (by omega)]
  obtain ⟨c, c1, c2, c3, c4⟩ := s_205c (d + 1) 20 0 b (by omega) (by omega)
  rw [c1, e_205_211, if_neg (by omega)]
  obtain ⟨e, e1, e2, e3, e4⟩ := s_205d d 10 0 c (by omega) (by omega)
  rw [e1, e_205_252, if_neg (by omega), e_151_0, Option.bind_some, e_205_286]
  refine ⟨_, rfl, ?_, ?_, ?_, ?_, ?_, ?_, ?_⟩
  · intro k k1 k2
    simp (disch := omega) only [z_up_fn, e2, c2, b2, a2]
  · have w : e 71 = σ 71 := by
      simp (disch := omega) only [z_up_fn, e2, c2, b2, a2]
    funext i
    simp only [z_up_at, w]
  · simp (disch := omega) only [z_up_fn, z_up_ni, z_up_eq, e2, c2, b2, a2, and_self]
  · intro i i0 i1
    have q := a4 i i0 i1
    simp (disch := omega) only [z_up_fn, z_up_ni, z_up_eq, e2, c2, b2] at q ⊢
    exact q
  · intro i i0 i1
    have q := b4 i i0 i1
    simp (disch := omega) only [z_up_fn, z_up_ni, z_up_eq, e2, c2, a2] at q ⊢
    exact q
  · intro i i0 i1
    have q := c4 i i0 i1
    simp (disch := omega) only [z_up_fn, z_up_ni, z_up_eq, e2, b2, a2] at q ⊢
    exact q
  · intro i i0 i1
    have q := e4 i i0 i1
    simp (disch := omega) only [z_up_fn, z_up_ni, z_up_eq, c2, b2, a2] at q ⊢
    exact q
theorem s_206 (d : Nat) (σ : Nat → Int → Int) (h1 : ¬ σ 71 59 = 10) (h2 : ¬ σ 71 58 = 0) (h3 : 0 ≤ σ 71 59) (h4 : σ 71 59 ≤ 10) : ∃ σ' : Nat → Int → Int, zE (d + 1) 206 0 [some (.inr 75), none] [] (zS, σ) = some (.inl (σ 113 5), (zS, σ')) ∧ (∀ k : Nat, k ≠ 71 → k ≠ 73 → k ≠ 74 → k ≠ 93 → k ≠ 76 → k ≠ 77 → k ≠ 85 → k ≠ 86 → k ≠ 106 → σ' k = σ k) ∧ σ' 71 = (z_up (z_up (z_up (z_up (z_up (z_up (z_up (z_up (z_up (z_up (z_up (z_up (z_up (z_up (z_up σ 71 59 (σ 71 59 + 1)) 71 2 (σ 113 0)) 71 6 (σ 113 1)) 71 10 (σ 113 2)) 71 13 (σ 113 3)) 71 21 (σ 113 4)) 71 1 (σ 113 5)) 71 29 (σ 113 6)) 71 36 (σ 113 7)) 71 38 (σ 113 8)) 71 43 (σ 113 9)) 71 35 (σ 113 10)) 71 47 0) 71 48 0) 71 0 0) 71 ∧ (∀ i, 0 ≤ i → i < 12 → σ' 73 i = σ 114 i ∧ σ' 74 i = σ 114 (12 + i) ∧ σ' 93 i = σ 117 i) ∧ (∀ i, 0 ≤ i → i < 6 → σ' 76 i = σ 115 i ∧ σ' 77 i = σ 115 (6 + i)) ∧ (∀ i, 0 ≤ i → i < 20 → σ' 85 i = σ 116 i ∧ σ' 86 i = σ 116 (20 + i)) ∧ (∀ i, 0 ≤ i → i < 10 → σ' 106 i = σ 118 i) := by
  rw [e_206_0, if_neg h1, if_neg h2, z_wid (by omega) (by omega)]
  obtain ⟨a, a1, a2, a3, a4⟩ := s_206a (d + 1) 12 0 (z_up (z_up (z_up (z_up (z_up (z_up (z_up (z_up (z_up (z_up (z_up (z_up σ 71 59 (σ 71 59 + 1)) 71 2 (σ 113 0)) 71 6 (σ 113 1)) 71 10 (σ 113 2)) 71 13 (σ 113 3)) 71 21 (σ 113 4)) 71 1 (σ 113 5)) 71 29 (σ 113 6)) 71 36 (σ 113 7)) 71 38 (σ 113 8)) 71 43 (σ 113 9)) 71 35 (σ 113 10)) (by omega) (by omega)
  rw [a1, e_206_155, if_neg (by omega)]
  obtain ⟨b, b1, b2, b3, b4⟩ := s_206b (d + 1) 6 0 a (by omega) (by omega)
  rw [b1, e_206_208, if_neg (by omega)]
  obtain ⟨c, c1, c2, c3, c4⟩ := s_206c (d + 1) 20 0 b (by omega) (by omega)
  rw [c1, e_206_249, if_neg (by omega)]
  obtain ⟨e, e1, e2, e3, e4⟩ := s_206d d 10 0 c (by omega) (by omega)
  have w : e 71 = (z_up (z_up (z_up (z_up (z_up (z_up (z_up (z_up (z_up (z_up (z_up (z_up σ 71 59 (σ 71 59 + 1)) 71 2 (σ 113 0)) 71 6 (σ 113 1)) 71 10 (σ 113 2)) 71 13 (σ 113 3)) 71 21 (σ 113 4)) 71 1 (σ 113 5)) 71 29 (σ 113 6)) 71 36 (σ 113 7)) 71 38 (σ 113 8)) 71 43 (σ 113 9)) 71 35 (σ 113 10)) 71 := by
    simp (disch := omega) only [e2, c2, b2, a2]
  have w1 : e 71 1 = σ 113 5 := by
    rw [w]
    simp (disch := omega) only [z_up_ni, z_up_eq]
  rw [e1, e_206_290, if_neg (by omega), e_151_0, Option.bind_some, e_206_332, w1]
  refine ⟨_, rfl, ?_, ?_, ?_, ?_, ?_, ?_⟩
  · intro k k1 k2 k3 k4 k5 k6 k7 k8 k9
    simp (disch := omega) only [z_up_fn, e2, c2, b2, a2]
  · funext i
    simp only [z_up_at, w]
  · intro i i0 i1
    have q := a4 i i0 i1
    simp (disch := omega) only [z_up_fn, z_up_ni, z_up_eq, e2, c2, b2] at q ⊢
    exact q
  · intro i i0 i1
    have q := b4 i i0 i1
    simp (disch := omega) only [z_up_fn, z_up_ni, z_up_eq, e2, c2, a2] at q ⊢
    exact q
  · intro i i0 i1
    have q := c4 i i0 i1
    simp (disch := omega) only [z_up_fn, z_up_ni, z_up_eq, e2, b2, a2] at q ⊢
    exact q
  · intro i i0 i1
    have q := e4 i i0 i1
    simp (disch := omega) only [z_up_fn, z_up_ni, z_up_eq, c2, b2, a2] at q ⊢
    exact q
