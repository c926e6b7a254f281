def w_ix (ro : Int → Int) (p : Int) : Nat → Int → Int
  | 0, _ => -1
  | n + 1, k => if ro k = p then k else w_ix ro p n (k + 1)
def w_rk (ro bi : Int → Int) (p : Int) : Nat → Int → Int
  | 0, _ => 0
  | n + 1, k => if ro k = p then 0 else (if bi k = 0 then 1 else 0) + w_rk ro bi p n (k + 1)
theorem w_ix_rng (ro : Int → Int) (p : Int) : ∀ (n : Nat) (k : Int), 0 ≤ k → (w_ix ro p n k = -1 ∧ ∀ i, k ≤ i → i < k + n → ro i ≠ p) ∨ (k ≤ w_ix ro p n k ∧ w_ix ro p n k < k + n ∧ ro (w_ix ro p n k) = p)
  | 0, k, k0 => Or.inl ⟨rfl, fun i i0 i1 => by omega⟩
  | n + 1, k, k0 => by
    unfold w_ix
    split
    · next e => exact Or.inr ⟨by omega, by omega, e⟩
    · next e =>
      rcases w_ix_rng ro p n (k + 1) (by omega) with q | q
      · refine Or.inl ⟨q.1, fun i i0 i1 => ?_⟩
        by_cases c : i = k
        · subst c
          exact e
        · exact q.2 i (by omega) (by omega)
      · exact Or.inr ⟨by omega, by omega, q.2.2⟩
theorem w_rk_rng (ro bi : Int → Int) (p : Int) : ∀ (n : Nat) (k : Int), 0 ≤ k → 0 ≤ w_rk ro bi p n k ∧ w_rk ro bi p n k ≤ n ∧ (w_ix ro p n k ≠ -1 → w_rk ro bi p n k < n)
  | 0, k, k0 => ⟨Int.le_refl 0, Int.le_refl 0, fun q => absurd rfl q⟩
  | n + 1, k, k0 => by
    have q := w_rk_rng ro bi p n (k + 1) (by omega)
    unfold w_rk w_ix
    split
    · exact ⟨by omega, by omega, fun _ => by omega⟩
    · split
      · exact ⟨by omega, by omega, fun w => by have := q.2.2 w; omega⟩
      · exact ⟨by omega, by omega, fun w => by have := q.2.2 w; omega⟩
theorem w_plc_ne (ro bi : Int → Int) (p : Int) (hp : p ≠ -1) : ∀ (n : Nat) (k l : Int), (∀ i : Int, k ≤ i → i < k + n → ro i ≠ p) → w_plc ro bi n k l ≠ p
  | 0, k, l, h => fun q => hp q.symm
  | n + 1, k, l, h => by
    have a := h k (by omega) (by omega)
    have b : ∀ l, w_plc ro bi n (k + 1) l ≠ p := fun l => w_plc_ne ro bi p hp n (k + 1) l (fun i i0 i1 => h i (by omega) (by omega))
    unfold w_plc
    split
    · split
      · exact a
      · exact b _
    · exact b _
theorem w_plc_rk (ro bi : Int → Int) (p : Int) (hp : p ≠ -1) : ∀ (n : Nat) (k l : Int), 0 ≤ k → 0 ≤ l → w_ix ro p n k ≠ -1 → bi (w_ix ro p n k) = 0 → (∀ i j : Int, k ≤ j → j < i → i < k + n → ro j ≠ ro i) → (w_plc ro bi n k l = p ↔ l = w_rk ro bi p n k)
  | 0, k, l, k0, l0, h, hb, hd => absurd rfl h
  | n + 1, k, l, k0, l0, h, hb, hd => by
    unfold w_ix at h hb
    unfold w_plc w_rk
    by_cases e : ro k = p
    · rw [if_pos e] at hb
      rw [if_pos hb, if_pos e]
      by_cases c : l = 0
      · rw [if_pos c]
        exact ⟨fun _ => c, fun _ => e⟩
      · rw [if_neg c]
        have w := w_plc_ne ro bi p hp n (k + 1) (l - 1) (fun i i0 i1 => by
          have q := hd i k (by omega) (by omega) (by omega)
          rw [e] at q
          exact fun z => q z.symm)
        exact ⟨fun q => absurd q w, fun q => absurd q c⟩
    · rw [if_neg e] at h hb
      have z := w_rk_rng ro bi p n (k + 1) (by omega)
      rw [if_neg e]
      by_cases g : bi k = 0
      · rw [if_pos g, if_pos g]
        by_cases c : l = 0
        · rw [if_pos c]
          exact ⟨fun q => absurd q e, fun q => by omega⟩
        · rw [if_neg c]
          have w := w_plc_rk ro bi p hp n (k + 1) (l - 1) (by omega) (by omega) h hb (fun i j i0 i1 i2 => hd i j (by omega) i1 (by omega))
          rw [w]
          omega
      · rw [if_neg g, if_neg g]
        have w := w_plc_rk ro bi p hp n (k + 1) l (by omega) l0 h hb (fun i j i0 i1 i2 => hd i j (by omega) i1 (by omega))
        rw [w, Int.zero_add]
def w_ri (ro rs : Int → Int) (r p : Int) : Int := w_ix (fun k => ro (5 * r + k)) p (rs r).toNat 0
def w_rr (ro rs st : Int → Int) (r p : Int) : Int := w_rk (fun k => ro (5 * r + k)) (fun k => z_b (st r) k) p (rs r).toNat 0
theorem s_200l (d : Nat) (σ : Nat → Int → Int) (r p : Int) (hr : 0 ≤ r ∧ r < 10) (hs : σ 104 r ≤ 5) (b0 : 0 ≤ σ 106 r) (b1 : σ 106 r < 32) : ∀ (n : Nat) (pl k : Int) (o5 : Option (Int ⊕ Nat)), 0 ≤ k → k + n = σ 104 r → 0 ≤ pl → pl ≤ k → zE (d + 1) 200 33 [some (.inr 75), some (.inl r), some (.inl p), some (.inl pl), some (.inl k), o5] [] (zS, σ) = if w_ix (fun k => σ 105 (5 * r + k)) p n k = -1 then some (.inl (-1), (zS, z_up σ 71 0 1)) else if z_b (σ 106 r) (w_ix (fun k => σ 105 (5 * r + k)) p n k) = 0 then some (.inl (pl + w_rk (fun k => σ 105 (5 * r + k)) (fun k => z_b (σ 106 r) k) p n k), (zS, z_up (z_up σ 106 r (z_or (σ 106 r) (z_shl 1 (w_ix (fun k => σ 105 (5 * r + k)) p n k)))) 71 0 0)) else some (.inl (-1), (zS, z_up σ 71 0 3))
  | 0, pl, k, o5, k0, k1, p0, p1 => by
    rw [e_200_33, if_pos hr, if_neg (by omega), e_150_0, Option.bind_some, e_200_135]
    rfl
  | n + 1, pl, k, o5, k0, k1, p0, p1 => by
    have u : w_ix (fun k => σ 105 (5 * r + k)) p (n + 1) k = if σ 105 (5 * r + k) = p then k else w_ix (fun k => σ 105 (5 * r + k)) p n (k + 1) := rfl
    have v : w_rk (fun k => σ 105 (5 * r + k)) (fun k => z_b (σ 106 r) k) p (n + 1) k = if σ 105 (5 * r + k) = p then 0 else (if z_b (σ 106 r) k = 0 then 1 else 0) + w_rk (fun k => σ 105 (5 * r + k)) (fun k => z_b (σ 106 r) k) p n (k + 1) := rfl
    have z := w_zb01 (σ 106 r) k b0 (by omega) k0 (by omega)
    rw [e_200_33, if_pos hr, if_pos (by omega), if_pos hr, z_wid (x := 5 * r) (by omega) (by omega), z_wid (x := 5 * r + k) (by omega) (by omega), z_wid (x := k + 1) (by omega) (by omega), u, v]
    have hb : 0 ≤ 5 * r + k ∧ 5 * r + k < 50 := by omega
    by_cases g : z_b (σ 106 r) k = 0
    · have g1 : ¬ z_and (z_shr (σ 106 r) k) 1 = 1 := by
        have g2 : z_and (z_shr (σ 106 r) k) 1 = 0 := g
        omega
      rw [if_neg g1, if_pos hb, if_pos g]
      by_cases e : σ 105 (5 * r + k) = p
      · rw [if_pos e, if_pos e, if_pos e, if_pos hr, if_pos hr, e_151_0, Option.bind_some, e_200_110, if_neg (by omega), if_pos g, Int.add_zero]
      · rw [if_neg e, if_neg e, if_neg e, z_wid (x := pl + 1) (by omega) (by omega), s_200l d σ r p hr hs b0 b1 n (pl + 1) (k + 1) _ (by omega) (by omega) (by omega) (by omega), Int.add_assoc]
    · have g1 : z_and (z_shr (σ 106 r) k) 1 = 1 := by
        have g2 : z_b (σ 106 r) k = 1 := by omega
        exact g2
      rw [if_pos g1, if_pos hb, if_neg g]
      by_cases e : σ 105 (5 * r + k) = p
      · rw [if_pos e, if_pos e, if_pos e, e_150_0, Option.bind_some, e_200_91, if_neg (by omega), if_neg g]
      · rw [if_neg e, if_neg e, if_neg e, Int.add_zero, z_wid (x := pl) (by omega) (by omega), s_200l d σ r p hr hs b0 b1 n pl (k + 1) _ (by omega) (by omega) p0 (by omega), Int.zero_add]
theorem s_200 (d : Nat) (σ : Nat → Int → Int) (r p : Int) (n0 : 0 ≤ σ 71 43) (n1 : σ 71 43 ≤ 10) (p0 : 0 ≤ σ 71 2) (p1 : σ 71 2 ≤ 12) (hr : 0 ≤ r ∧ r < σ 71 43) (hs0 : 0 ≤ σ 104 r) (hs : σ 104 r ≤ 5) (b0 : 0 ≤ σ 106 r) (b1 : σ 106 r < 32) (hp : 0 ≤ p ∧ p < σ 71 2) : zE (d + 3) 200 0 [some (.inr 75), some (.inl r), some (.inl p), none, none, none] [] (zS, σ) = if w_ri (σ 105) (σ 104) r p = -1 then some (.inl (-1), (zS, z_up σ 71 0 1)) else if z_b (σ 106 r) (w_ri (σ 105) (σ 104) r p) = 0 then some (.inl (w_rr (σ 105) (σ 104) (σ 106) r p), (zS, z_up (z_up σ 106 r (z_or (σ 106 r) (z_shl 1 (w_ri (σ 105) (σ 104) r p)))) 71 0 0)) else some (.inl (-1), (zS, z_up σ 71 0 3)) := by
  rw [e_200_0, z_wid (by omega) (by omega), s_149, if_pos (by omega), Option.bind_some, e_200_11, if_neg (by decide), s_152 _ _ _ p0 (by omega), if_pos hp, Option.bind_some, e_200_19, if_neg (by decide), s_200l (d + 2) σ r p (by omega) hs b0 b1 (σ 104 r).toNat 0 0 _ (by omega) (by omega) (by omega) (by omega), Int.zero_add]
  rfl
theorem s_66l (d : Nat) (σ : Nat → Int → Int) (r p : Int) (hw : σ 18 0 = 6) (hM : σ 18 3 ≤ 10) (hr : 0 ≤ r ∧ r < σ 18 3) (p0 : 0 ≤ p) (q : zBTr (σ 19) (σ 104) (σ 105) (σ 106) (σ 71 2) r) : ∀ (n : Nat) (k : Int), 0 ≤ k → k + n = 5 → zE (d + 1) 66 16 [some (.inr 22), some (.inl r), some (.inl p), some (.inl k)] [] (zS, σ) = some (.inl (if w_ix (fun k => σ 105 (5 * r + k)) p (σ 104 r - k).toNat k = -1 then 0 else 1), (zS, σ))
  | 0, k, k0, k1 => by
    have e : (σ 104 r - k).toNat = 0 := by have := q.2.1; omega
    rw [e_66_16, if_neg (by omega), e]
    rfl
  | n + 1, k, k0, k1 => by
    rw [e_66_16, if_pos (by omega), s_get_18 _ _ _ _ hw hM, if_pos (by omega), Option.bind_some, e_66_27, z_wid (by omega) (by omega)]
    by_cases c : k < σ 104 r
    · have w := q.2.2.2.2.2.2.2 k k0 c
      have e : (σ 104 r - k).toNat = (σ 104 r - (k + 1)).toNat + 1 := by omega
      have u : w_ix (fun k => σ 105 (5 * r + k)) p ((σ 104 r - (k + 1)).toNat + 1) k = if σ 105 (5 * r + k) = p then k else w_ix (fun k => σ 105 (5 * r + k)) p (σ 104 r - (k + 1)).toNat (k + 1) := rfl
      rw [w.1, e, u]
      by_cases g : σ 105 (5 * r + k) = p
      · rw [if_pos g, if_pos g, if_neg (by omega)]
      · rw [if_neg g, if_neg g]
        exact s_66l d σ r p hw hM hr p0 q n (k + 1) (by omega) (by omega)
    · have w := q.2.2.2.2.2.2.1 k (by omega) (by omega)
      have e : (σ 104 r - k).toNat = 0 := by omega
      have e2 : (σ 104 r - (k + 1)).toNat = 0 := by omega
      have t := s_66l d σ r p hw hM hr p0 q n (k + 1) (by omega) (by omega)
      rw [e2] at t
      rw [w, if_neg (by omega), e]
      exact t
theorem s_66 (d : Nat) (σ : Nat → Int → Int) (r p : Int) (hw : σ 18 0 = 6) (hM : σ 18 3 ≤ 10) (q : 0 ≤ r ∧ r < σ 18 3 → zBTr (σ 19) (σ 104) (σ 105) (σ 106) (σ 71 2) r) : zE (d + 1) 66 0 [some (.inr 22), some (.inl r), some (.inl p), none] [] (zS, σ) = some (.inl (if 0 ≤ r ∧ r < σ 18 3 then (if 0 ≤ p then (if w_ri (σ 105) (σ 104) r p = -1 then 0 else 1) else 0) else 0), (zS, σ)) := by
  rw [e_66_0, s_has_18, Option.bind_some, e_66_5]
  by_cases c : 0 ≤ r ∧ r < σ 18 3
  · rw [if_pos c, if_neg (by decide), if_pos c]
    by_cases c2 : p < 0
    · rw [if_pos c2, if_neg (by omega)]
    · rw [if_neg c2, if_pos (by omega), s_66l d σ r p hw hM c (by omega) (q c) 5 0 (by omega) (by omega), show σ 104 r - 0 = σ 104 r by omega]
      rfl
  · rw [if_neg c, if_pos rfl, if_neg c]
theorem s_69l (d : Nat) (σ : Nat → Int → Int) (r p k : Int) (hw : σ 18 0 = 6) (hT : zBT (σ 18 3) (σ 19) (σ 71 43) (σ 71 2) (σ 104) (σ 105) (σ 106)) (hr : 0 ≤ r ∧ r < σ 18 3) (hk : ∀ l, 0 ≤ l → (w_at σ r l = p ↔ l = k)) (k5 : k < 5) : ∀ (n : Nat) (l : Int), 0 ≤ l → l + n = 5 → l ≤ k → zE (d + 3) 69 2 [some (.inr 22), some (.inl r), some (.inl p), some (.inl l)] [] (zS, σ) = some (.inl k, (zS, σ))
  | 0, l, l0, l1, l2 => by omega
  | n + 1, l, l0, l1, l2 => by
    rw [e_69_2, if_pos (by omega), s_70 _ _ _ _ hw hT (by omega), if_pos (by omega), Option.bind_some, e_69_13]
    by_cases e : w_at σ r l = p
    · rw [if_pos e, (hk l l0).1 e]
    · rw [if_neg e, z_wid (by omega) (by omega)]
      have f : ¬ l = k := fun w => e ((hk l l0).2 w)
      exact s_69l d σ r p k hw hT hr hk k5 n (l + 1) (by omega) (by omega) (by omega)
/-- where a person stands that is in a row and not yet stripped -/
theorem s_69 (d : Nat) (σ : Nat → Int → Int) (r p : Int) (hw : σ 18 0 = 6) (hT : zBT (σ 18 3) (σ 19) (σ 71 43) (σ 71 2) (σ 104) (σ 105) (σ 106)) (hr : 0 ≤ r ∧ r < σ 18 3) (p0 : 0 ≤ p) (hi : ¬ w_ri (σ 105) (σ 104) r p = -1) (hb : z_b (σ 106 r) (w_ri (σ 105) (σ 104) r p) = 0) : zE (d + 3) 69 0 [some (.inr 22), some (.inl r), some (.inl p), none] [] (zS, σ) = some (.inl (w_rr (σ 105) (σ 104) (σ 106) r p), (zS, σ)) := by
  have q := hT.2.2.2 r hr.1 (by rw [← hT.1]; exact hr.2)
  have z := w_rk_rng (fun k => σ 105 (5 * r + k)) (fun k => z_b (σ 106 r) k) p (σ 104 r).toNat 0 (by omega)
  have z3 := z.2.2 hi
  rw [e_69_0]
  have q1 := q.1
  have q2 := q.2.1
  refine s_69l d σ r p _ hw hT hr (fun l l0 => ?_) ?_ 5 0 (by omega) (by omega) ?_
  · apply w_plc_rk _ _ _ (by omega) _ _ _ (by omega) l0 hi hb
    intro i j j0 j1 i1
    have w := q.2.2.2.2.2.2.2 i (by omega) (by omega)
    exact w.2.2.2.2 j j0 j1
  · show w_rk (fun k => σ 105 (5 * r + k)) (fun k => z_b (σ 106 r) k) p (σ 104 r).toNat 0 < 5
    omega
  · show 0 ≤ w_rk (fun k => σ 105 (5 * r + k)) (fun k => z_b (σ 106 r) k) p (σ 104 r).toNat 0
    omega
/-- what is known of a person's index in a row -/
theorem w_ri_rng (σ : Nat → Int → Int) (r p : Int) (q : zBTr (σ 19) (σ 104) (σ 105) (σ 106) (σ 71 2) r) : w_ri (σ 105) (σ 104) r p = -1 ∨ (0 ≤ w_ri (σ 105) (σ 104) r p ∧ w_ri (σ 105) (σ 104) r p < σ 104 r ∧ σ 105 (5 * r + w_ri (σ 105) (σ 104) r p) = p ∧ 0 ≤ p ∧ p < σ 71 2 ∧ z_b (σ 19 (6 * r + 5)) p = z_b (σ 106 r) (w_ri (σ 105) (σ 104) r p)) := by
  rcases w_ix_rng (fun k => σ 105 (5 * r + k)) p (σ 104 r).toNat 0 (by omega) with w | w
  · exact Or.inl w.1
  · obtain ⟨w1, w2, w3⟩ := w
    have w1 : 0 ≤ w_ri (σ 105) (σ 104) r p := w1
    have w2 : w_ri (σ 105) (σ 104) r p < 0 + ((σ 104 r).toNat : Int) := w2
    have w3 : σ 105 (5 * r + w_ri (σ 105) (σ 104) r p) = p := w3
    have q1 := q.1
    have w4 : w_ri (σ 105) (σ 104) r p < σ 104 r := by omega
    have t := q.2.2.2.2.2.2.2 _ w1 w4
    rw [w3] at t
    exact Or.inr ⟨w1, w4, w3, t.2.1, t.2.2.1, t.2.2.2.1⟩
