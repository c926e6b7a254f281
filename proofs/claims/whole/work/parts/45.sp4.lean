theorem z_cnt_succ (f : Int → Int) (v : Int) {i : Int} (h : 0 ≤ i) : z_cnt f v (i + 1).toNat = z_cnt f v i.toNat + (if f i = v then 1 else 0) := by
  have e : (i + 1).toNat = i.toNat + 1 := by omega
  rw [e]
  show z_cnt f v i.toNat + (if f ((i.toNat : Nat) : Int) = v then 1 else 0) = _
  rw [show ((i.toNat : Nat) : Int) = i by omega]
theorem z_cnt_up {σ : Nat → Int → Int} {k : Nat} {i v w : Int} {n : Nat} (h : (n : Int) ≤ i) : z_cnt (z_up σ k i v k) w n = z_cnt (σ k) w n := z_cnt_congr (fun j j0 j1 => z_up_ni (by omega))
theorem s_169l (d : Nat) (σ : Nat → Int → Int) (v : Int) (h1 : σ 71 2 ≤ 12) : ∀ (n : Nat) (c i : Int), 0 ≤ i → i + n = σ 71 2 → c = z_cnt (σ 73) v i.toNat →
    zE d 169 4 [some (.inr 75), some (.inl v), some (.inl c), some (.inl i)] [] (zS, σ) = some (.inl (z_cnt (σ 73) v (σ 71 2).toNat), (zS, σ))
  | 0, c, i, h0, hn, hc => by
    have e : i = σ 71 2 := by omega
    rw [e_169_4, if_neg (by omega), hc, e]
  | n + 1, c, i, h0, hn, hc => by
    have q := z_cnt_succ (σ 73) v h0
    have r := z_cnt_rng (σ 73) v i.toNat
    rw [e_169_4, if_pos (by omega), if_pos (by omega), z_wid (x := c + 1) (by omega) (by omega), z_wid (x := c + 0) (by omega) (by omega), z_wid (x := i + 1) (by omega) (by omega)]
    by_cases b : σ 73 i = v
    · rw [if_pos b] at q ⊢
      exact s_169l d σ v h1 n (c + 1) (i + 1) (by omega) (by omega) (by omega)
    · rw [if_neg b] at q ⊢
      exact s_169l d σ v h1 n (c + 0) (i + 1) (by omega) (by omega) (by omega)
theorem s_169 (d : Nat) (σ : Nat → Int → Int) (v : Int) (h0 : 0 ≤ σ 71 2) (h1 : σ 71 2 ≤ 12) : zE d 169 0 [some (.inr 75), some (.inl v), none, none] [] (zS, σ) = some (.inl (z_cnt (σ 73) v (σ 71 2).toNat), (zS, σ)) := by
  rw [e_169_0]
  exact s_169l d σ v h1 (σ 71 2).toNat 0 0 (by omega) (by omega) rfl
theorem s_207l (d : Nat) (σ : Nat → Int → Int) (o2 : Option (Int ⊕ Nat)) (v : Int) (h1 : σ 71 13 ≤ 20) : ∀ (n : Nat) (c i : Int), 0 ≤ i → i + n = σ 71 13 → c = z_cnt (σ 80) v i.toNat →
    zE d 207 64 [some (.inr 75), some (.inl v), o2, some (.inl c), some (.inl i)] [] (zS, σ) = some (.inl (z_cnt (σ 80) v (σ 71 13).toNat), (zS, σ))
  | 0, c, i, h0, hn, hc => by
    have e : i = σ 71 13 := by omega
    rw [e_207_64, if_neg (by omega), hc, e]
  | n + 1, c, i, h0, hn, hc => by
    have q := z_cnt_succ (σ 80) v h0
    have r := z_cnt_rng (σ 80) v i.toNat
    rw [e_207_64, if_pos (by omega), if_pos (by omega), z_wid (x := c + 1) (by omega) (by omega), z_wid (x := c + 0) (by omega) (by omega), z_wid (x := i + 1) (by omega) (by omega)]
    by_cases b : σ 80 i = v
    · rw [if_pos b] at q ⊢
      exact s_207l d σ o2 v h1 n (c + 1) (i + 1) (by omega) (by omega) (by omega)
    · rw [if_neg b] at q ⊢
      exact s_207l d σ o2 v h1 n (c + 0) (i + 1) (by omega) (by omega) (by omega)
theorem s_207l1 (d : Nat) (σ : Nat → Int → Int) (o2 : Option (Int ⊕ Nat)) (v : Int) (h0 : 0 ≤ σ 71 13) (h1 : σ 71 13 ≤ 20) : zE d 207 64 [some (.inr 75), some (.inl v), o2, some (.inl 0), some (.inl 0)] [] (zS, σ) = some (.inl (z_cnt (σ 80) v (σ 71 13).toNat), (zS, σ)) :=
  s_207l d σ o2 v h1 (σ 71 13).toNat 0 0 (by omega) (by omega) rfl
theorem s_19l (d : Nat) (σ : Nat → Int → Int) (hw : σ 2 0 = 4) (h1 : σ 2 3 ≤ 12) : ∀ (n : Nat) (c i : Int), 0 ≤ i → i + n = σ 2 3 → c = z_cnt (fun p => σ 3 (4 * p + 1)) (-1) i.toNat →
    zE (d + 1) 19 4 [some (.inr 5), some (.inl c), some (.inl i)] [] (zS, σ) = some (.inl (z_cnt (fun p => σ 3 (4 * p + 1)) (-1) (σ 2 3).toNat), (zS, σ))
  | 0, c, i, h0, hn, hc => by
    have e : i = σ 2 3 := by omega
    rw [e_19_4, e_85_0_0, Option.bind_some, e_19_12, if_neg (by omega), hc, e]
  | n + 1, c, i, h0, hn, hc => by
    have q := z_cnt_succ (fun p => σ 3 (4 * p + 1)) (-1) h0
    have r := z_cnt_rng (fun p => σ 3 (4 * p + 1)) (-1) i.toNat
    rw [e_19_4, e_85_0_0, Option.bind_some, e_19_12, if_pos (by omega), s_get_2 _ _ _ _ hw h1, Option.bind_some, if_pos (by omega), e_19_24, z_wid (x := c + 1) (by omega) (by omega), z_wid (x := i + 1) (by omega) (by omega)]
    by_cases b : σ 3 (4 * i + 1) = -1
    · rw [if_pos b] at q ⊢
      exact s_19l d σ hw h1 n (c + 1) (i + 1) (by omega) (by omega) (by omega)
    · rw [if_neg b] at q ⊢
      exact s_19l d σ hw h1 n c (i + 1) (by omega) (by omega) (by omega)
theorem s_19 (d : Nat) (σ : Nat → Int → Int) (hw : σ 2 0 = 4) (h0 : 0 ≤ σ 2 3) (h1 : σ 2 3 ≤ 12) : zE (d + 1) 19 0 [some (.inr 5), none, none] [] (zS, σ) = some (.inl (z_cnt (fun p => σ 3 (4 * p + 1)) (-1) (σ 2 3).toNat), (zS, σ)) := by
  rw [e_19_0]
  exact s_19l d σ hw h1 (σ 2 3).toNat 0 0 (by omega) (by omega) rfl
/-- whether a kind is another or under it -/
def w_of (k o : Int) : Int := if k = o then 1 else if k = 0 then 0 else if k = 4 then (if 3 = o then 1 else if 0 = o then 1 else 0) else if k = 5 then (if 1 = o then 1 else if 0 = o then 1 else 0) else if 0 = o then 1 else 0
theorem s_39s (d : Nat) (σ : Nat → Int → Int) (o0 : Option (Int ⊕ Nat)) (x1 x2 x3 : Int) (h0 : 0 ≤ x2) (h1 : x2 ≤ 5) (h2 : x3 < 6) (h3 : 0 ≤ x3) : zE (d + 1) 39 4 [o0, some (.inl x1), some (.inl x2), some (.inl x3)] [] (zS, σ) = if x2 = x1 then some (.inl 1, (zS, σ)) else zE (d + 1) 39 4 [o0, some (.inl x1), some (.inl (z_above x2)), some (.inl (x3 + 1))] [] (zS, σ) := by
  rw [e_39_4, if_pos h2, if_neg (by omega)]
  by_cases b : x2 = x1
  · rw [if_pos b, if_pos b]
  · rw [if_neg b, if_neg b, e_38_0, if_neg (by omega), if_pos (by omega), if_pos (by omega), Option.bind_some, e_39_26, z_wid (by omega) (by omega)]
theorem s_39e (d : Nat) (σ : Nat → Int → Int) (o0 : Option (Int ⊕ Nat)) (x1 x3 : Int) (h2 : x3 < 6) : zE (d + 1) 39 4 [o0, some (.inl x1), some (.inl (-1)), some (.inl x3)] [] (zS, σ) = some (.inl 0, (zS, σ)) := by
  rw [e_39_4, if_pos h2, if_pos rfl]
theorem s_39 (d : Nat) (σ : Nat → Int → Int) (k o : Int) (h0 : 0 ≤ k) (h1 : k ≤ 5) : zE (d + 1) 39 0 [some (.inl k), some (.inl o), none, none] [] (zS, σ) = some (.inl (w_of k o), (zS, σ)) := by
  have a0 : z_above 0 = -1 := by decide
  have a1 : z_above 1 = 0 := by decide
  have a2 : z_above 2 = 0 := by decide
  have a3 : z_above 3 = 0 := by decide
  have a4 : z_above 4 = 3 := by decide
  have a5 : z_above 5 = 1 := by decide
  have h : k = 0 ∨ k = 1 ∨ k = 2 ∨ k = 3 ∨ k = 4 ∨ k = 5 := by omega
  unfold w_of
  rcases h with h | h | h | h | h | h <;> subst h
  · rw [e_39_0, s_39s _ _ _ _ _ _ (by decide) (by decide) (by decide) (by decide), a0, s_39e _ _ _ _ _ (by decide)]
    repeat' split
    all_goals first | rfl | omega
  · rw [e_39_0, s_39s _ _ _ _ _ _ (by decide) (by decide) (by decide) (by decide), a1, s_39s _ _ _ _ _ _ (by decide) (by decide) (by decide) (by decide), a0, s_39e _ _ _ _ _ (by decide)]
    repeat' split
    all_goals first | rfl | omega
  · rw [e_39_0, s_39s _ _ _ _ _ _ (by decide) (by decide) (by decide) (by decide), a2, s_39s _ _ _ _ _ _ (by decide) (by decide) (by decide) (by decide), a0, s_39e _ _ _ _ _ (by decide)]
    repeat' split
    all_goals first | rfl | omega
  · rw [e_39_0, s_39s _ _ _ _ _ _ (by decide) (by decide) (by decide) (by decide), a3, s_39s _ _ _ _ _ _ (by decide) (by decide) (by decide) (by decide), a0, s_39e _ _ _ _ _ (by decide)]
    repeat' split
    all_goals first | rfl | omega
  · rw [e_39_0, s_39s _ _ _ _ _ _ (by decide) (by decide) (by decide) (by decide), a4, s_39s _ _ _ _ _ _ (by decide) (by decide) (by decide) (by decide), a3, s_39s _ _ _ _ _ _ (by decide) (by decide) (by decide) (by decide), a0, s_39e _ _ _ _ _ (by decide)]
    repeat' split
    all_goals first | rfl | omega
  · rw [e_39_0, s_39s _ _ _ _ _ _ (by decide) (by decide) (by decide) (by decide), a5, s_39s _ _ _ _ _ _ (by decide) (by decide) (by decide) (by decide), a1, s_39s _ _ _ _ _ _ (by decide) (by decide) (by decide) (by decide), a0, s_39e _ _ _ _ _ (by decide)]
    repeat' split
    all_goals first | rfl | omega
theorem s_168s (d : Nat) (σ : Nat → Int → Int) (o0 : Option (Int ⊕ Nat)) (x1 x2 : Int) (h0 : 0 ≤ x2) (h1 : x2 ≤ 5) : zE d 168 2 [o0, some (.inl x1), some (.inl x2)] [] (zS, σ) = if x2 = x1 then some (.inl 1, (zS, σ)) else if x2 = 0 then some (.inl 0, (zS, σ)) else zE d 168 2 [o0, some (.inl x1), some (.inl (z_above x2))] [] (zS, σ) := by
  rw [e_168_2]
  by_cases b : x2 = x1
  · rw [if_pos b, if_pos b, if_pos b]
  · rw [if_neg b, if_neg b, if_neg b]
    by_cases c : x2 = 0
    · rw [if_pos c, if_pos c]
    · rw [if_neg c, if_neg c]
      have h : x2 = 1 ∨ x2 = 2 ∨ x2 = 3 ∨ x2 = 4 ∨ x2 = 5 := by omega
      rcases h with h | h | h | h | h <;> subst h <;> rfl
theorem s_168 (d : Nat) (σ : Nat → Int → Int) (k o : Int) (h0 : 0 ≤ k) (h1 : k ≤ 5) : zE d 168 0 [some (.inl k), some (.inl o), none] [] (zS, σ) = some (.inl (w_of k o), (zS, σ)) := by
  have a0 : z_above 0 = -1 := by decide
  have a1 : z_above 1 = 0 := by decide
  have a2 : z_above 2 = 0 := by decide
  have a3 : z_above 3 = 0 := by decide
  have a4 : z_above 4 = 3 := by decide
  have a5 : z_above 5 = 1 := by decide
  have h : k = 0 ∨ k = 1 ∨ k = 2 ∨ k = 3 ∨ k = 4 ∨ k = 5 := by omega
  unfold w_of
  rcases h with h | h | h | h | h | h <;> subst h
  · rw [e_168_0, s_168s _ _ _ _ _ (by decide) (by decide)]
    repeat' split
    all_goals first | rfl | omega
  · rw [e_168_0, s_168s _ _ _ _ _ (by decide) (by decide), a1, s_168s _ _ _ _ _ (by decide) (by decide)]
    repeat' split
    all_goals first | rfl | omega
  · rw [e_168_0, s_168s _ _ _ _ _ (by decide) (by decide), a2, s_168s _ _ _ _ _ (by decide) (by decide)]
    repeat' split
    all_goals first | rfl | omega
  · rw [e_168_0, s_168s _ _ _ _ _ (by decide) (by decide), a3, s_168s _ _ _ _ _ (by decide) (by decide)]
    repeat' split
    all_goals first | rfl | omega
  · rw [e_168_0, s_168s _ _ _ _ _ (by decide) (by decide), a4, s_168s _ _ _ _ _ (by decide) (by decide), a3, s_168s _ _ _ _ _ (by decide) (by decide)]
    repeat' split
    all_goals first | rfl | omega
  · rw [e_168_0, s_168s _ _ _ _ _ (by decide) (by decide), a5, s_168s _ _ _ _ _ (by decide) (by decide), a1, s_168s _ _ _ _ _ (by decide) (by decide)]
    repeat' split
    all_goals first | rfl | omega
