theorem s_184i (d : Nat) (n : Nat) (hn : n ≤ 6) (σ : Nat → Int → Int) (en : σ 71 29 = (n : Int)) (o2 o3 o4 : Option (Int ⊕ Nat)) : ∀ (m : Nat) (i : Int), i < m → -1 ≤ i → i + 1 < 6 → (i + 2 ≤ n ∨ i = -1) → -2 ≤ i → (w_ti (σ 107) m i < 0 ∧ zE d 184 7 [some (.inr 75), some (.inl i), o2, o3, o4] [] (zS, σ) = some (.inl 0, (zS, σ))) ∨ (0 ≤ w_ti (σ 107) m i ∧ w_ti (σ 107) m i ≤ i ∧ zE d 184 7 [some (.inr 75), some (.inl i), o2, o3, o4] [] (zS, σ) = zE d 184 47 [some (.inr 75), some (.inl (w_ti (σ 107) m i)), some (.inl ((n : Int) - 1)), o3, o4] [] (zS, σ))
  | 0, i, h0, h1, h2, h3, h4 => by
    have e : i = -1 := by omega
    subst e
    rw [e_184_7, if_pos (by omega), if_pos (by omega)]
    exact Or.inl ⟨by show (-1 : Int) < 0; decide, rfl⟩
  | m + 1, i, h0, h1, h2, h3, h4 => by
    have u : w_ti (σ 107) (m + 1) i = if i < 0 then i else if σ 107 (i + 1) < σ 107 i then w_ti (σ 107) m (i - 1) else i := rfl
    rw [u, e_184_7]
    by_cases c : i < 0
    · rw [if_pos c, if_pos c, if_pos c]
      exact Or.inl ⟨c, rfl⟩
    · have b1 : 0 ≤ i ∧ i < 6 := by omega
      have b2 : 0 ≤ i + 1 ∧ i + 1 < 6 := by omega
      rw [if_neg c, if_neg c, if_pos b1, z_wid (x := i + 1) (by omega) (by omega), if_pos b2]
      by_cases g : σ 107 (i + 1) < σ 107 i
      · rw [if_pos g, if_pos g, z_wid (by omega) (by omega)]
        rcases s_184i d n hn σ en o2 o3 o4 m (i - 1) (by omega) (by omega) (by omega) (by omega) (by omega) with q | q
        · exact Or.inl q
        · exact Or.inr ⟨q.1, by omega, q.2.2⟩
      · rw [if_neg g, if_neg g, if_neg c, en, z_wid (by omega) (by omega)]
        exact Or.inr ⟨by omega, Int.le_refl _, rfl⟩
theorem s_184k (d : Nat) (σ : Nat → Int → Int) (i : Int) (hi : 0 ≤ i ∧ i < 6) (o3 o4 : Option (Int ⊕ Nat)) : ∀ (m : Nat) (k : Int), k < m → k < 6 → 0 ≤ w_tk (σ 107) i m k → w_tk (σ 107) i m k ≤ k ∧ zE (d + 1) 184 47 [some (.inr 75), some (.inl i), some (.inl k), o3, o4] [] (zS, σ) = (zE d 185 0 [some (.inr 75), some (.inl i), some (.inl (w_tk (σ 107) i m k)), none] [] (zS, σ)).bind (fun q => zE (d + 1) 184 74 [some (.inr 75), some (.inl i), some (.inl (w_tk (σ 107) i m k)), o3, o4] [] q.2)
  | 0, k, h0, h1, h2 => by
    have h2 : 0 ≤ k := h2
    omega
  | m + 1, k, h0, h1, h2 => by
    have u : w_tk (σ 107) i (m + 1) k = if k < 0 then k else if σ 107 k < σ 107 i then w_tk (σ 107) i m (k - 1) else k := rfl
    rw [u] at h2
    rw [u]
    by_cases c : k < 0
    · rw [if_pos c] at h2
      omega
    · rw [if_neg c] at h2
      have b1 : 0 ≤ k ∧ k < 6 := by omega
      rw [if_neg c, e_184_47, if_pos b1, if_pos hi]
      by_cases g : σ 107 k < σ 107 i
      · rw [if_pos g] at h2
        rw [if_pos g, if_pos g, z_wid (by omega) (by omega)]
        have q := s_184k d σ i hi o3 o4 m (k - 1) (by omega) (by omega) h2
        exact ⟨by omega, q.2⟩
      · rw [if_neg g, if_neg g]
        exact ⟨Int.le_refl _, rfl⟩
theorem w_up_sw (σ : Nat → Int → Int) (a b : Int) : z_up (z_up σ 107 a (σ 107 b)) 107 b (σ 107 a) 107 = w_sw (σ 107) a b := by
  rw [w_up_set, w_up_set]
  rfl
theorem s_185 (d : Nat) (σ : Nat → Int → Int) (a b : Int) (ha : 0 ≤ a ∧ a < 6) (hb : 0 ≤ b ∧ b < 6) : zE d 185 0 [some (.inr 75), some (.inl a), some (.inl b), none] [] (zS, σ) = some (.inl 0, (zS, z_up (z_up σ 107 a (σ 107 b)) 107 b (σ 107 a))) := by
  rw [e_185_0, if_pos ha, if_pos hb, if_pos ha, if_pos hb]
theorem s_184r (d : Nat) (o1 o2 : Option (Int ⊕ Nat)) : ∀ (m : Nat) (a b : Int) (σ : Nat → Int → Int), b - a < m → 0 ≤ a → b < 6 → ∃ σ' : Nat → Int → Int, zE (d + 1) 184 86 [some (.inr 75), o1, o2, some (.inl a), some (.inl b)] [] (zS, σ) = some (.inl 1, (zS, σ')) ∧ (∀ c : Nat, c ≠ 107 → σ' c = σ c) ∧ σ' 107 = w_rv m a b (σ 107)
  | 0, a, b, σ, h0, h1, h2 => by
    rw [e_184_86, if_neg (by omega)]
    exact ⟨σ, rfl, fun _ _ => rfl, rfl⟩
  | m + 1, a, b, σ, h0, h1, h2 => by
    have u : w_rv (m + 1) a b (σ 107) = if a < b then w_rv m (a + 1) (b - 1) (w_sw (σ 107) a b) else σ 107 := rfl
    rw [u, e_184_86]
    by_cases c : a < b
    · rw [if_pos c, if_pos c, s_185 d σ a b (by omega) (by omega), Option.bind_some, e_184_99, z_wid (by omega) (by omega), z_wid (by omega) (by omega)]
      obtain ⟨σ', t1, t2, t3⟩ := s_184r d o1 o2 m (a + 1) (b - 1) (z_up (z_up σ 107 a (σ 107 b)) 107 b (σ 107 a)) (by omega) (by omega) (by omega)
      rw [w_up_sw] at t3
      exact ⟨σ', t1, fun e he => by rw [t2 e he, z_up_fn he, z_up_fn he], t3⟩
    · rw [if_neg c, if_neg c]
      exact ⟨σ, rfl, fun _ _ => rfl, rfl⟩
/-- there is no order behind -/
theorem s_184e (d : Nat) (n : Nat) (hn : n ≤ 6) (σ : Nat → Int → Int) (en : σ 71 29 = (n : Int)) (h : w_ti (σ 107) 7 ((n : Int) - 2) < 0) : zE d 184 0 [some (.inr 75), none, none, none, none] [] (zS, σ) = some (.inl 0, (zS, σ)) := by
  rw [e_184_0, en, z_wid (by omega) (by omega)]
  by_cases c : (n : Int) - 2 < -1
  · rw [e_184_7, if_pos (by omega), if_pos (by omega)]
  · rcases s_184i d n hn σ en none none none 7 ((n : Int) - 2) (by omega) (by omega) (by omega) (by omega) (by omega) with q | q
    · exact q.2
    · omega
/-- the order behind -/
theorem s_184n (d : Nat) (n : Nat) (hn : n ≤ 6) (σ : Nat → Int → Int) (en : σ 71 29 = (n : Int)) (h1 : 0 ≤ w_ti (σ 107) 7 ((n : Int) - 2)) (h2 : 0 ≤ w_tk (σ 107) (w_ti (σ 107) 7 ((n : Int) - 2)) 7 ((n : Int) - 1)) : ∃ σ' : Nat → Int → Int, zE (d + 1) 184 0 [some (.inr 75), none, none, none, none] [] (zS, σ) = some (.inl 1, (zS, σ')) ∧ (∀ c : Nat, c ≠ 107 → σ' c = σ c) ∧ σ' 107 = w_rv 7 (w_ti (σ 107) 7 ((n : Int) - 2) + 1) ((n : Int) - 1) (w_sw (σ 107) (w_ti (σ 107) 7 ((n : Int) - 2)) (w_tk (σ 107) (w_ti (σ 107) 7 ((n : Int) - 2)) 7 ((n : Int) - 1))) := by
  have c : ¬ (n : Int) - 2 < 0 := by
    intro c
    have u : w_ti (σ 107) 7 ((n : Int) - 2) = (n : Int) - 2 := if_pos c
    omega
  rw [e_184_0, en, z_wid (by omega) (by omega)]
  rcases s_184i (d + 1) n hn σ en none none none 7 ((n : Int) - 2) (by omega) (by omega) (by omega) (by omega) (by omega) with q | q
  · omega
  · obtain ⟨q1, q2, q3⟩ := q
    have k := s_184k d σ (w_ti (σ 107) 7 ((n : Int) - 2)) (by omega) none none 7 ((n : Int) - 1) (by omega) (by omega) h2
    rw [q3, k.2, s_185 d σ _ _ (by omega) (by omega), Option.bind_some, e_184_74, z_up_fn (by omega), z_up_fn (by omega), en, z_wid (x := (n : Int) - 1) (by omega) (by omega), z_wid (x := w_ti (σ 107) 7 ((n : Int) - 2) + 1) (by omega) (by omega)]
    obtain ⟨σ', t1, t2, t3⟩ := s_184r d (some (.inl (w_ti (σ 107) 7 ((n : Int) - 2)))) (some (.inl (w_tk (σ 107) (w_ti (σ 107) 7 ((n : Int) - 2)) 7 ((n : Int) - 1)))) 7 (w_ti (σ 107) 7 ((n : Int) - 2) + 1) ((n : Int) - 1) (z_up (z_up σ 107 (w_ti (σ 107) 7 ((n : Int) - 2)) (σ 107 (w_tk (σ 107) (w_ti (σ 107) 7 ((n : Int) - 2)) 7 ((n : Int) - 1)))) 107 (w_tk (σ 107) (w_ti (σ 107) 7 ((n : Int) - 2)) 7 ((n : Int) - 1)) (σ 107 (w_ti (σ 107) 7 ((n : Int) - 2)))) (by omega) (by omega) (by omega)
    rw [w_up_sw] at t3
    exact ⟨σ', t1, fun e he => by rw [t2 e he, z_up_fn he, z_up_fn he], t3⟩
theorem s_186k (d : Nat) (n : Nat) (hn : n ≤ 6) (o1 o2 : Option (Int ⊕ Nat)) : ∀ (j k : Nat) (σ : Nat → Int → Int), k + j = n → σ 71 29 = (n : Int) → ∃ σ' : Nat → Int → Int, zE (d + 1) 186 84 [some (.inr 75), o1, o2, some (.inl k)] [] (zS, σ) = zE (d + 1) 186 84 [some (.inr 75), o1, o2, some (.inl n)] [] (zS, σ') ∧ (∀ c : Nat, c ≠ 109 → c ≠ 110 → σ' c = σ c) ∧ (∀ i : Nat, i < k → σ' 109 i = σ 109 i ∧ σ' 110 i = σ 110 i) ∧ (∀ i : Nat, k ≤ i → i < n → σ' 109 i = σ 107 i ∧ σ' 110 i = σ 108 i)
  | 0, k, σ, hk, en => ⟨σ, by rw [show k = n by omega], fun _ _ _ => rfl, fun _ _ => ⟨rfl, rfl⟩, fun i a b => by omega⟩
  | j + 1, k, σ, hk, en => by
    have b6 : 0 ≤ ((k : Nat) : Int) ∧ ((k : Nat) : Int) < 6 := by omega
    rw [e_186_84, if_pos (by omega), if_pos b6, if_pos b6, if_pos b6, if_pos b6, z_wid (x := (k : Int) + 1) (by omega) (by omega)]
    obtain ⟨σ', h1, h2, h3, h4⟩ := s_186k d n hn o1 o2 j (k + 1) (z_up (z_up σ 109 k (σ 107 k)) 110 k (σ 108 k)) (by omega) (by rw [z_up_fn (by omega), z_up_fn (by omega)]; exact en)
    refine ⟨σ', h1, fun e e1 e2 => ?_, fun i hi => ?_, fun i hi hj => ?_⟩
    · rw [h2 e e1 e2, z_up_fn e2, z_up_fn e1]
    · have q := h3 i (by omega)
      simp (disch := omega) only [z_up_fn, z_up_ni] at q
      exact q
    · by_cases w : i = k
      · subst w
        have q := h3 i (by omega)
        simp (disch := omega) only [z_up_fn, z_up_eq] at q
        exact q
      · have q := h4 i (by omega) hj
        simp (disch := omega) only [z_up_fn] at q
        exact q
theorem s_186i (d : Nat) (n : Nat) (hn : n ≤ 6) (o2 o3 : Option (Int ⊕ Nat)) : ∀ (j k : Nat) (σ : Nat → Int → Int), k + j = n → σ 71 29 = (n : Int) → ∃ σ' : Nat → Int → Int, zE d 186 20 [some (.inr 75), some (.inl k), o2, o3] [] (zS, σ) = zE d 186 20 [some (.inr 75), some (.inl n), o2, o3] [] (zS, σ') ∧ (∀ c : Nat, c ≠ 107 → σ' c = σ c) ∧ (∀ i : Nat, i < k → σ' 107 i = σ 107 i) ∧ (∀ i : Nat, k ≤ i → i < n → σ' 107 i = i)
  | 0, k, σ, hk, en => ⟨σ, by rw [show k = n by omega], fun _ _ => rfl, fun _ _ => rfl, fun i a b => by omega⟩
  | j + 1, k, σ, hk, en => by
    have b6 : 0 ≤ ((k : Nat) : Int) ∧ ((k : Nat) : Int) < 6 := by omega
    rw [e_186_20, if_pos (by omega), if_pos b6, z_wid (x := (k : Int) + 1) (by omega) (by omega)]
    obtain ⟨σ', h1, h2, h3, h4⟩ := s_186i d n hn o2 o3 j (k + 1) (z_up σ 107 k k) (by omega) (by rw [z_up_fn (by omega)]; exact en)
    refine ⟨σ', h1, fun e e1 => ?_, fun i hi => ?_, fun i hi hj => ?_⟩
    · rw [h2 e e1, z_up_fn e1]
    · rw [h3 i (by omega), z_up_ni (by omega)]
    · by_cases w : i = k
      · subst w
        rw [h3 i (by omega), z_up_eq]
      · exact h4 i (by omega) hj
def w_RN (σ : Nat → Int → Int) (n : Nat) (st : Int × (Int → Int) × (Int → Int)) : Prop := (σ 71 53 = 0 ∧ st.1 = -1) ∨ (σ 71 53 = 1 ∧ σ 71 54 = st.1 ∧ st.1 ≠ -1 ∧ ∀ i : Nat, i < n → σ 109 i = st.2.1 i ∧ σ 110 i = st.2.2 i)
def w_FN (σ σ' : Nat → Int → Int) : Prop := (∀ c : Nat, ¬ (107 ≤ c ∧ c ≤ 110) → c ≠ 71 → σ' c = σ c) ∧ ∀ j : Int, j ≠ 53 → j ≠ 54 → σ' 71 j = σ 71 j
theorem w_FN_tr {σ σ' σ'' : Nat → Int → Int} (a : w_FN σ σ') (b : w_FN σ' σ'') : w_FN σ σ'' := ⟨fun c h1 h2 => by rw [b.1 c h1 h2, a.1 c h1 h2], fun j h1 h2 => by rw [b.2 j h1 h2, a.2 j h1 h2]⟩
/-- one order is weighed -/
theorem s_186w (d : Nat) (n : Nat) (ha le wh be li : Int → Int) (U : w_DU n ha le wh be li) (o : Int → Int) (P : w_PM n o) (st : Int × (Int → Int) × (Int → Int)) (σ : Nat → Int → Int) (o2 o3 : Option (Int ⊕ Nat)) (D : w_DN n ha le wh be li σ) (ho : ∀ i : Nat, i < n → σ 107 i = o i) (hR : w_RN σ n st) : ∃ (σ' : Nat → Int → Int) (p2 p3 : Option (Int ⊕ Nat)), zE (d + 3) 186 43 [some (.inr 75), some (.inl 1), o2, o3] [] (zS, σ) = (zE (d + 2) 184 0 [some (.inr 75), none, none, none, none] [] (zS, σ')).bind (fun q => zE (d + 3) 186 126 [some (.inr 75), some (.inl 1), p2, p3] [q.1] q.2) ∧ w_FN σ σ' ∧ σ' 107 = σ 107 ∧ w_RN σ' n (w_upd st (w_po ha le wh be li o n 0 (fun _ => 0) 0) o) := by
  have n6 := U.1
  have PM : w_PM n (σ 107) := by
    intro k hk
    obtain ⟨q1, q2, q3⟩ := P k hk
    rw [ho k hk]
    exact ⟨q1, q2, fun j hj => by rw [ho j (by omega)]; exact q3 j hj⟩
  obtain ⟨σ1, t1, t2, t3⟩ := s_182 d n ha le wh be li U σ D PM
  have rel := w_po_rel n ha le wh be li (σ 107) o ho PM n 0 (σ 108) (fun _ => 0) 0 (by omega) (fun k hk => absurd hk (Nat.not_lt_zero k))
  have e71 : σ1 71 = σ 71 := t2 71 (by omega)
  have all : ∀ i : Nat, i < n → (w_po ha le wh be li o n 0 (fun _ => 0) 0).1 ≠ -1 → σ1 108 i = (w_po ha le wh be li o n 0 (fun _ => 0) 0).2 i := by
    intro i hi hne
    obtain ⟨k, k1, k2⟩ := w_surj n (σ 107) PM i (by omega) (by omega)
    have q := rel.2 (by rw [rel.1]; exact hne) k k1
    rw [k2] at q
    rw [t3]
    exact q
  rw [e_186_43, if_neg (by decide), t1, Option.bind_some, e_186_51, rel.1, e71]
  have F1 : w_FN σ σ1 := ⟨fun c c1 c2 => t2 c (by omega), fun j j1 j2 => by rw [e71]⟩
  by_cases c : (w_po ha le wh be li o n 0 (fun _ => 0) 0).1 = -1
  · rw [if_pos c]
    refine ⟨σ1, _, _, rfl, F1, t2 107 (by omega), ?_⟩
    unfold w_upd
    rw [if_neg (fun q => q.1 c)]
    unfold w_RN
    rw [e71, t2 109 (by omega), t2 110 (by omega)]
    exact hR
  · rw [if_neg c]
    have keep : ∃ (σ' : Nat → Int → Int) (p2 p3 : Option (Int ⊕ Nat)), zE (d + 3) 186 84 [some (.inr 75), some (.inl 1), some (.inl (w_po ha le wh be li o n 0 (fun _ => 0) 0).1), some (.inl 0)] [] (zS, z_up (z_up σ1 71 53 1) 71 54 (w_po ha le wh be li o n 0 (fun _ => 0) 0).1) = (zE (d + 2) 184 0 [some (.inr 75), none, none, none, none] [] (zS, σ')).bind (fun q => zE (d + 3) 186 126 [some (.inr 75), some (.inl 1), p2, p3] [q.1] q.2) ∧ w_FN σ σ' ∧ σ' 107 = σ 107 ∧ w_RN σ' n ((w_po ha le wh be li o n 0 (fun _ => 0) 0).1, o, (w_po ha le wh be li o n 0 (fun _ => 0) 0).2) := by
      obtain ⟨σ2, s1, s2, s3, s4⟩ := s_186k (d + 2) n n6 (some (.inl 1)) (some (.inl (w_po ha le wh be li o n 0 (fun _ => 0) 0).1)) n 0 (z_up (z_up σ1 71 53 1) 71 54 (w_po ha le wh be li o n 0 (fun _ => 0) 0).1) (by omega) (by rw [z_up_ni (by omega), z_up_ni (by omega), e71]; exact D.1)
      have s1 : zE (d + 3) 186 84 [some (.inr 75), some (.inl 1), some (.inl (w_po ha le wh be li o n 0 (fun _ => 0) 0).1), some (.inl 0)] [] (zS, z_up (z_up σ1 71 53 1) 71 54 (w_po ha le wh be li o n 0 (fun _ => 0) 0).1) = zE (d + 3) 186 84 [some (.inr 75), some (.inl 1), some (.inl (w_po ha le wh be li o n 0 (fun _ => 0) 0).1), some (.inl n)] [] (zS, σ2) := s1
      have e29 : σ2 71 29 = (n : Int) := by
        rw [s2 71 (by omega) (by omega), z_up_ni (by omega), z_up_ni (by omega), e71]
        exact D.1
      rw [s1, e_186_84, e29, if_neg (by omega)]
      refine ⟨σ2, _, _, rfl, ⟨fun c c1 c2 => ?_, fun j j1 j2 => ?_⟩, ?_, Or.inr ⟨?_, ?_, c, fun i hi => ?_⟩⟩
      · rw [s2 c (by omega) (by omega), z_up_fn c2, z_up_fn c2, t2 c (by omega)]
      · rw [s2 71 (by omega) (by omega), z_up_ni j2, z_up_ni j1, e71]
      · rw [s2 107 (by omega) (by omega), z_up_fn (by omega), z_up_fn (by omega), t2 107 (by omega)]
      · rw [s2 71 (by omega) (by omega), z_up_ni (by omega), z_up_eq]
      · rw [s2 71 (by omega) (by omega), z_up_eq]
      · have q := s4 i (by omega) hi
        rw [z_up_fn (by omega), z_up_fn (by omega), z_up_fn (by omega), z_up_fn (by omega), t2 107 (by omega), ho i hi, all i hi c] at q
        exact q
    rcases hR with hR | hR
    · rw [if_pos hR.1]
      have up : w_upd st (w_po ha le wh be li o n 0 (fun _ => 0) 0) o = ((w_po ha le wh be li o n 0 (fun _ => 0) 0).1, o, (w_po ha le wh be li o n 0 (fun _ => 0) 0).2) := if_pos ⟨c, Or.inl hR.2⟩
      rw [up]
      exact keep
    · rw [if_neg (by omega), hR.2.1]
      by_cases g : (w_po ha le wh be li o n 0 (fun _ => 0) 0).1 < st.1
      · have up : w_upd st (w_po ha le wh be li o n 0 (fun _ => 0) 0) o = ((w_po ha le wh be li o n 0 (fun _ => 0) 0).1, o, (w_po ha le wh be li o n 0 (fun _ => 0) 0).2) := if_pos ⟨c, Or.inr g⟩
        rw [if_pos g, up]
        exact keep
      · have up : w_upd st (w_po ha le wh be li o n 0 (fun _ => 0) 0) o = st := if_neg (fun q => by
          rcases q.2 with w | w
          · exact hR.2.2.1 w
          · exact g w)
        rw [if_neg g, up]
        refine ⟨σ1, _, _, rfl, F1, t2 107 (by omega), Or.inr ?_⟩
        rw [e71, t2 109 (by omega), t2 110 (by omega)]
        exact hR
theorem w_goodP {n : Nat} {o : Int → Int} (h : w_good n o = true) : w_PM n o := by
  unfold w_good at h
  have q := of_decide_eq_true h
  intro k hk
  obtain ⟨a, b, c⟩ := q ⟨k, hk⟩
  exact ⟨a, b, fun j hj => c ⟨j, by omega⟩ hj⟩
theorem w_ti_congr {n : Nat} {o o' : Int → Int} (h : ∀ i : Nat, i < n → o i = o' i) : ∀ (m : Nat) (i : Int), i + 1 < n → w_ti o m i = w_ti o' m i
  | 0, i, hi => rfl
  | m + 1, i, hi => by
    have u : ∀ o : Int → Int, w_ti o (m + 1) i = if i < 0 then i else if o (i + 1) < o i then w_ti o m (i - 1) else i := fun _ => rfl
    rw [u, u]
    by_cases c : i < 0
    · rw [if_pos c, if_pos c]
    · obtain ⟨k, hk⟩ := Int.eq_ofNat_of_zero_le (show 0 ≤ i by omega)
      have a := h k (by omega)
      have b := h (k + 1) (by omega)
      rw [show ((k + 1 : Nat) : Int) = (k : Int) + 1 by omega] at b
      rw [if_neg c, if_neg c, w_ti_congr h m (i - 1) (by omega), hk, a, b]
theorem w_tk_congr {n : Nat} {o o' : Int → Int} (h : ∀ i : Nat, i < n → o i = o' i) (j : Nat) (hj : j < n) : ∀ (m : Nat) (k : Int), k < n → w_tk o j m k = w_tk o' j m k
  | 0, k, hk => rfl
  | m + 1, k, hk => by
    have u : ∀ o : Int → Int, w_tk o j (m + 1) k = if k < 0 then k else if o k < o j then w_tk o j m (k - 1) else k := fun _ => rfl
    rw [u, u]
    by_cases c : k < 0
    · rw [if_pos c, if_pos c]
    · obtain ⟨i, hi⟩ := Int.eq_ofNat_of_zero_le (show 0 ≤ k by omega)
      have a := h i (by omega)
      have b := h j hj
      rw [if_neg c, if_neg c, w_tk_congr h j hj m (k - 1) (by omega), hi, a, b]
theorem w_sw_congr {n : Nat} {o o' : Int → Int} (h : ∀ i : Nat, i < n → o i = o' i) (a b : Nat) (ha : a < n) (hb : b < n) : ∀ i : Nat, i < n → w_sw o a b i = w_sw o' a b i := by
  intro i hi
  unfold w_sw w_set
  by_cases c : (i : Int) = b
  · rw [if_pos c, if_pos c, h a ha]
  · rw [if_neg c, if_neg c]
    by_cases e : (i : Int) = a
    · rw [if_pos e, if_pos e, h b hb]
    · rw [if_neg e, if_neg e, h i hi]
theorem w_rv_congr {n : Nat} : ∀ (m : Nat) (a b : Int) (o o' : Int → Int), (∀ i : Nat, i < n → o i = o' i) → 0 ≤ a → b < n → ∀ i : Nat, i < n → w_rv m a b o i = w_rv m a b o' i
  | 0, a, b, o, o', h, ha, hb, i, hi => h i hi
  | m + 1, a, b, o, o', h, ha, hb, i, hi => by
    have u : ∀ o : Int → Int, w_rv (m + 1) a b o = if a < b then w_rv m (a + 1) (b - 1) (w_sw o a b) else o := fun _ => rfl
    rw [u, u]
    by_cases c : a < b
    · obtain ⟨x, hx⟩ := Int.eq_ofNat_of_zero_le ha
      obtain ⟨y, hy⟩ := Int.eq_ofNat_of_zero_le (show 0 ≤ b by omega)
      rw [if_pos c, if_pos c]
      apply w_rv_congr m (a + 1) (b - 1) _ _ _ (by omega) (by omega) i hi
      rw [hx, hy]
      exact w_sw_congr h x y (by omega) (by omega)
    · rw [if_neg c, if_neg c]
      exact h i hi
theorem s_186l (d : Nat) (n : Nat) (ha le wh be li : Int → Int) (U : w_DU n ha le wh be li) : ∀ (r : List (List Nat)) (l : List Nat) (st : Int × (Int → Int) × (Int → Int)) (σ : Nat → Int → Int) (o2 o3 : Option (Int ⊕ Nat)), w_chk n (l :: r) = true → w_DN n ha le wh be li σ → (∀ i : Nat, i < n → σ 107 i = w_ol l i) → w_RN σ n st → ∃ σ' : Nat → Int → Int, zE (d + 3) 186 43 [some (.inr 75), some (.inl 1), o2, o3] [] (zS, σ) = some (.inl 0, (zS, σ')) ∧ w_FN σ σ' ∧ w_RN σ' n ((l :: r).foldl (fun s l => w_upd s (w_po ha le wh be li (w_ol l) n 0 (fun _ => 0) 0) (w_ol l)) st)
  | [], l, st, σ, o2, o3, hc, D, ho, hR => by
    have n6 := U.1
    have hc : (w_good n (w_ol l) && decide (w_ti (w_ol l) 7 ((n : Int) - 2) < 0)) = true := hc
    rw [Bool.and_eq_true] at hc
    have P := w_goodP hc.1
    have te := of_decide_eq_true hc.2
    obtain ⟨σ1, p2, p3, t1, t2, t3, t4⟩ := s_186w d n ha le wh be li U (w_ol l) P st σ o2 o3 D ho hR
    have e29 : σ1 71 29 = (n : Int) := by rw [t2.2 29 (by omega) (by omega)]; exact D.1
    have ti : w_ti (σ1 107) 7 ((n : Int) - 2) < 0 := by
      rw [t3]
      by_cases z : (n : Int) - 2 < 0
      · have u : w_ti (σ 107) 7 ((n : Int) - 2) = (n : Int) - 2 := if_pos z
        omega
      · rw [w_ti_congr ho 7 _ (by omega)]
        exact te
    rw [t1, s_184e (d + 2) n n6 σ1 e29 ti, Option.bind_some, e_186_126, e_186_43, if_pos rfl]
    exact ⟨σ1, rfl, t2, t4⟩
  | l' :: r, l, st, σ, o2, o3, hc, D, ho, hR => by
    have n6 := U.1
    have hc : (w_good n (w_ol l) && w_next n (w_ol l) (w_ol l') && w_chk n (l' :: r)) = true := hc
    rw [Bool.and_eq_true, Bool.and_eq_true] at hc
    obtain ⟨⟨hg, hx⟩, hr⟩ := hc
    have P := w_goodP hg
    unfold w_next at hx
    obtain ⟨x1, x2, x3⟩ := of_decide_eq_true hx
    obtain ⟨σ1, p2, p3, t1, t2, t3, t4⟩ := s_186w d n ha le wh be li U (w_ol l) P st σ o2 o3 D ho hR
    have e29 : σ1 71 29 = (n : Int) := by rw [t2.2 29 (by omega) (by omega)]; exact D.1
    have z : ¬ (n : Int) - 2 < 0 := by
      intro z
      have u : w_ti (w_ol l) 7 ((n : Int) - 2) = (n : Int) - 2 := if_pos z
      omega
    have ti : w_ti (σ1 107) 7 ((n : Int) - 2) = w_ti (w_ol l) 7 ((n : Int) - 2) := by
      rw [t3, w_ti_congr ho 7 _ (by omega)]
    have til : ∀ (o : Int → Int) (m : Nat) (i : Int), w_ti o m i ≤ i := by
      intro o m
      induction m with
      | zero => intro i; exact Int.le_refl _
      | succ m ih =>
        intro i
        have u : w_ti o (m + 1) i = if i < 0 then i else if o (i + 1) < o i then w_ti o m (i - 1) else i := rfl
        have q := ih (i - 1)
        rw [u]
        split
        · omega
        · split <;> omega
    have tkl : ∀ (o : Int → Int) (j : Int) (m : Nat) (i : Int), w_tk o j m i ≤ i := by
      intro o j m
      induction m with
      | zero => intro i; exact Int.le_refl _
      | succ m ih =>
        intro i
        have u : w_tk o j (m + 1) i = if i < 0 then i else if o i < o j then w_tk o j m (i - 1) else i := rfl
        have q := ih (i - 1)
        rw [u]
        split
        · omega
        · split <;> omega
    have l1 := til (w_ol l) 7 ((n : Int) - 2)
    obtain ⟨a, ea⟩ := Int.eq_ofNat_of_zero_le x1
    rw [ea] at x2 x3 ti l1
    have l2 := tkl (w_ol l) a 7 ((n : Int) - 1)
    obtain ⟨b, eb⟩ := Int.eq_ofNat_of_zero_le x2
    rw [eb] at x3 l2
    have tk : w_tk (σ1 107) a 7 ((n : Int) - 1) = b := by
      rw [t3, w_tk_congr ho a (by omega) 7 _ (by omega)]
      exact eb
    obtain ⟨σ2, s1, s2, s3⟩ := s_184n (d + 1) n n6 σ1 e29 (by rw [ti]; omega) (by rw [ti, tk]; omega)
    rw [ti, tk] at s3
    have F2 : w_FN σ1 σ2 := ⟨fun c c1 _ => s2 c (by omega), fun j _ _ => by rw [s2 71 (by omega)]⟩
    have R2 : w_RN σ2 n (w_upd st (w_po ha le wh be li (w_ol l) n 0 (fun _ => 0) 0) (w_ol l)) := by
      unfold w_RN
      rw [s2 71 (by omega), s2 109 (by omega), s2 110 (by omega)]
      exact t4
    have ho2 : ∀ i : Nat, i < n → σ2 107 i = w_ol l' i := by
      intro i hi
      have q := x3 ⟨i, hi⟩
      rw [← q, s3]
      apply w_rv_congr 7 _ _ _ _ _ (by omega) (by omega) i hi
      rw [t3]
      exact w_sw_congr ho a b (by omega) (by omega)
    have D2 : w_DN n ha le wh be li σ2 := w_DN_F (by rw [s2 71 (by omega), t2.2 29 (by omega) (by omega)]) (fun c _ _ => by rw [s2 c (by omega), t2.1 c (by omega) (by omega)]) D
    obtain ⟨σ3, y1, y2, y3⟩ := s_186l d n ha le wh be li U r l' _ σ2 p2 p3 hr D2 ho2 R2
    rw [t1, s1, Option.bind_some, e_186_126, y1]
    exact ⟨σ3, rfl, w_FN_tr t2 (w_FN_tr F2 y2), y3⟩
/-- the reference's plan -/
theorem s_186 (d : Nat) (n : Nat) (ha le wh be li : Int → Int) (U : w_DU n ha le wh be li) (σ : Nat → Int → Int) (D : w_DN n ha le wh be li σ) (h0 : σ 71 47 = 0) : ∃ σ' : Nat → Int → Int, zE (d + 3) 186 0 [some (.inr 75), none, none, none] [] (zS, σ) = some (.inl 0, (zS, σ')) ∧ (∀ c : Nat, ¬ (107 ≤ c ∧ c ≤ 110) → c ≠ 71 → σ' c = σ c) ∧ (∀ j : Int, j ≠ 53 → j ≠ 54 → j ≠ 47 → σ' 71 j = σ 71 j) ∧ σ' 71 47 = 1 ∧ w_RN σ' n (w_pl n ha le wh be li n 0 (fun _ => 0) (fun _ => 0) 0 (-1, fun _ => 0, fun _ => 0)) := by
  have n6 := U.1
  obtain ⟨c1, c2⟩ := w_chkn n n6
  obtain ⟨σ1, a1, a2, a3, a4⟩ := s_186i (d + 3) n n6 none none n 0 (z_up (z_up σ 71 47 1) 71 53 0) (by omega) (by rw [z_up_ni (by omega), z_up_ni (by omega)]; exact D.1)
  have a1 : zE (d + 3) 186 20 [some (.inr 75), some (.inl 0), none, none] [] (zS, z_up (z_up σ 71 47 1) 71 53 0) = zE (d + 3) 186 20 [some (.inr 75), some (.inl n), none, none] [] (zS, σ1) := a1
  have e29 : σ1 71 29 = (n : Int) := by
    rw [a2 71 (by omega), z_up_ni (by omega), z_up_ni (by omega)]
    exact D.1
  have D1 : w_DN n ha le wh be li σ1 := w_DN_F (by rw [e29, D.1]) (fun c _ _ => by rw [a2 c (by omega), z_up_fn (by omega), z_up_fn (by omega)]) D
  have R1 : w_RN σ1 n (-1, fun _ => 0, fun _ => 0) := Or.inl ⟨by rw [a2 71 (by omega), z_up_eq], rfl⟩
  have main := w_pl_PL n ha le wh be li n [] (fun _ => 0) 0 (-1, fun _ => 0, fun _ => 0) (by omega)
  have main : w_pl n ha le wh be li n 0 (fun _ => 0) (fun _ => 0) 0 (-1, fun _ => 0, fun _ => 0) = (w_PL n n []).foldl (fun s l => w_upd s (w_po ha le wh be li (w_ol l) n 0 (fun _ => 0) 0) (w_ol l)) (-1, fun _ => 0, fun _ => 0) := main
  rw [main]
  generalize w_PL n n [] = L at c1 c2
  match L, c1, c2 with
  | [], c1, c2 => exact absurd (show false = true from c2) Bool.false_ne_true
  | l :: r, c1, c2 =>
    have c2 := of_decide_eq_true c2
    obtain ⟨σ2, b1, b2, b3⟩ := s_186l d n ha le wh be li U r l (-1, fun _ => 0, fun _ => 0) σ1 none none c1 D1 (fun i hi => by
      rw [a4 i (by omega) hi]
      exact (c2 ⟨i, hi⟩).symm) R1
    rw [e_186_0, if_pos h0, a1, e_186_20, e29, if_neg (by omega), b1]
    refine ⟨σ2, rfl, fun c k1 k2 => ?_, fun j k1 k2 k3 => ?_, ?_, b3⟩
    · rw [b2.1 c k1 k2, a2 c (by omega), z_up_fn k2, z_up_fn k2]
    · rw [b2.2 j k1 k2, a2 71 (by omega), z_up_ni k1, z_up_ni k3]
    · rw [b2.2 47 (by omega) (by omega), a2 71 (by omega), z_up_ni (by omega), z_up_eq]
