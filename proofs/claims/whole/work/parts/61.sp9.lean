/-- who stands at a place, counted from place k on, n places long -/
def w_plc (ro bi : Int → Int) : Nat → Int → Int → Int
  | 0, _, _ => -1
  | n + 1, k, l => if bi k = 0 then (if l = 0 then ro k else w_plc ro bi n (k + 1) (l - 1)) else w_plc ro bi n (k + 1) l
theorem w_plc_rng (ro bi : Int → Int) (np : Int) : ∀ (n : Nat) (k l : Int), (∀ i : Int, k ≤ i → i < k + n → 0 ≤ ro i ∧ ro i < np) → w_plc ro bi n k l = -1 ∨ (0 ≤ w_plc ro bi n k l ∧ w_plc ro bi n k l < np)
  | 0, k, l, h => Or.inl rfl
  | n + 1, k, l, h => by
    have u : w_plc ro bi (n + 1) k l = if bi k = 0 then (if l = 0 then ro k else w_plc ro bi n (k + 1) (l - 1)) else w_plc ro bi n (k + 1) l := rfl
    rw [u]
    split
    · split
      · exact Or.inr (h k (by omega) (by omega))
      · exact w_plc_rng ro bi np n (k + 1) (l - 1) (fun i i0 i1 => h i (by omega) (by omega))
    · exact w_plc_rng ro bi np n (k + 1) l (fun i i0 i1 => h i (by omega) (by omega))
def w_at (σ : Nat → Int → Int) (r l : Int) : Int := w_plc (fun k => σ 105 (5 * r + k)) (fun k => z_b (σ 106 r) k) (σ 104 r).toNat 0 l
theorem s_199l (d : Nat) (σ : Nat → Int → Int) (r : Int) (o2 : Option (Int ⊕ Nat)) (hr : 0 ≤ r ∧ r < 10) (hs : σ 104 r ≤ 5) : ∀ (n : Nat) (k l : Int), 0 ≤ k → k + n = σ 104 r → 0 ≤ l → l < 2147483648 → zE d 199 5 [some (.inr 75), some (.inl r), o2, some (.inl l), some (.inl k)] [] (zS, σ) = some (.inl (w_plc (fun k => σ 105 (5 * r + k)) (fun k => z_b (σ 106 r) k) n k l), (zS, σ))
  | 0, k, l, k0, k1, l0, l1 => by
    rw [e_199_5, if_pos hr, if_neg (by omega)]
    rfl
  | n + 1, k, l, k0, k1, l0, l1 => by
    have u : w_plc (fun k => σ 105 (5 * r + k)) (fun k => z_b (σ 106 r) k) (n + 1) k l = if z_and (z_shr (σ 106 r) k) 1 = 0 then (if l = 0 then σ 105 (5 * r + k) else w_plc (fun k => σ 105 (5 * r + k)) (fun k => z_b (σ 106 r) k) n (k + 1) (l - 1)) else w_plc (fun k => σ 105 (5 * r + k)) (fun k => z_b (σ 106 r) k) n (k + 1) l := rfl
    rw [e_199_5, if_pos hr, if_pos (by omega), if_pos hr, u]
    by_cases b : z_and (z_shr (σ 106 r) k) 1 = 0
    · rw [if_pos b, if_pos b]
      by_cases c : l = 0
      · rw [if_pos c, if_pos c, z_wid (x := 5 * r) (by omega) (by omega), z_wid (by omega) (by omega), if_pos (by omega)]
      · rw [if_neg c, if_neg c, z_wid (by omega) (by omega), z_wid (by omega) (by omega)]
        exact s_199l d σ r o2 hr hs n (k + 1) (l - 1) (by omega) (by omega) (by omega) (by omega)
    · rw [if_neg b, if_neg b, z_wid (by omega) (by omega)]
      exact s_199l d σ r o2 hr hs n (k + 1) l (by omega) (by omega) l0 l1
theorem s_199 (d : Nat) (σ : Nat → Int → Int) (r l : Int) (hr : 0 ≤ r ∧ r < 10) (hs : 0 ≤ σ 104 r ∧ σ 104 r ≤ 5) (l0 : 0 ≤ l) (l1 : l < 2147483648) : zE d 199 0 [some (.inr 75), some (.inl r), some (.inl l), none, none] [] (zS, σ) = some (.inl (w_at σ r l), (zS, σ)) := by
  rw [e_199_0]
  exact s_199l d σ r _ hr hs.2 _ 0 l (by omega) (by omega) l0 l1
theorem s_67 (d : Nat) (σ : Nat → Int → Int) (r p : Int) (hw : σ 18 0 = 6) (hM : σ 18 3 ≤ 10) (hr : 0 ≤ r ∧ r < σ 18 3) : zE (d + 1) 67 0 [some (.inr 22), some (.inl r), some (.inl p)] [] (zS, σ) = some (.inl (if z_b (σ 19 (6 * r + 5)) p = 0 then 0 else 1), (zS, σ)) := by
  rw [e_67_0, s_get_18 _ _ _ _ hw hM, if_pos (by omega), Option.bind_some, e_67_6]
  by_cases c : z_b (σ 19 (6 * r + 5)) p = 0
  · have c2 : z_and (z_shr (σ 19 (6 * r + 5)) p) 1 = 0 := c
    rw [if_pos c, if_pos c2]
  · have c2 : ¬ z_and (z_shr (σ 19 (6 * r + 5)) p) 1 = 0 := c
    rw [if_neg c, if_neg c2]
theorem s_70l (d : Nat) (σ : Nat → Int → Int) (r l : Int) (hw : σ 18 0 = 6) (hT : zBT (σ 18 3) (σ 19) (σ 71 43) (σ 71 2) (σ 104) (σ 105) (σ 106)) (hr : 0 ≤ r ∧ r < σ 18 3) (l1 : l < 2147483648) : ∀ (n : Nat) (k b : Int) (o5 : Option (Int ⊕ Nat)), 0 ≤ k → k + n = 5 → 0 ≤ b → b ≤ l → b ≤ k → zE (d + 2) 70 19 [some (.inr 22), some (.inl r), some (.inl l), some (.inl b), some (.inl k), o5] [] (zS, σ) = some (.inl (w_plc (fun k => σ 105 (5 * r + k)) (fun k => z_b (σ 106 r) k) (σ 104 r - k).toNat k (l - b)), (zS, σ))
  | 0, k, b, o5, k0, k1, b0, b1, b2 => by
    have q := hT.2.2.2 r hr.1 (by rw [← hT.1]; exact hr.2)
    have e : (σ 104 r - k).toNat = 0 := by omega
    rw [e_70_19, if_neg (by omega), e]
    rfl
  | n + 1, k, b, o5, k0, k1, b0, b1, b2 => by
    have h1 := hT.1
    have h2 := hT.2.2.1
    have q := hT.2.2.2 r hr.1 (by omega)
    rw [e_70_19, if_pos (by omega), s_get_18 _ _ _ _ hw (by omega), if_pos (by omega), Option.bind_some, e_70_32]
    by_cases c : k < σ 104 r
    · obtain ⟨w1, w2, w3, w4, w5⟩ := q.2.2.2.2.2.2.2 k k0 c
      have e : (σ 104 r - k).toNat = (σ 104 r - (k + 1)).toNat + 1 := by omega
      have u : w_plc (fun k => σ 105 (5 * r + k)) (fun k => z_b (σ 106 r) k) ((σ 104 r - (k + 1)).toNat + 1) k (l - b) = if z_b (σ 106 r) k = 0 then (if l - b = 0 then σ 105 (5 * r + k) else w_plc (fun k => σ 105 (5 * r + k)) (fun k => z_b (σ 106 r) k) (σ 104 r - (k + 1)).toNat (k + 1) (l - b - 1)) else w_plc (fun k => σ 105 (5 * r + k)) (fun k => z_b (σ 106 r) k) (σ 104 r - (k + 1)).toNat (k + 1) (l - b) := rfl
      rw [w1, if_neg (by omega), s_67 _ _ _ _ hw (by omega) hr, Option.bind_some, e_70_47, e, u, w4]
      by_cases g : z_b (σ 106 r) k = 0
      · rw [if_pos g, if_pos g, if_pos rfl]
        by_cases f : b = l
        · rw [if_pos f, if_pos (by omega)]
        · rw [if_neg f, if_neg (by omega), z_wid (by omega) (by omega), z_wid (by omega) (by omega), s_70l d σ r l hw hT hr l1 n (k + 1) (b + 1) _ (by omega) (by omega) (by omega) (by omega) (by omega), show l - b - 1 = l - (b + 1) by omega]
      · rw [if_neg g, if_neg g, if_neg (by omega), z_wid (by omega) (by omega), s_70l d σ r l hw hT hr l1 n (k + 1) b _ (by omega) (by omega) (by omega) (by omega) (by omega)]
    · have w := q.2.2.2.2.2.2.1 k (by omega) (by omega)
      have e : (σ 104 r - k).toNat = 0 := by omega
      have e2 : (σ 104 r - (k + 1)).toNat = 0 := by omega
      rw [w, if_pos rfl, z_wid (by omega) (by omega), s_70l d σ r l hw hT hr l1 n (k + 1) b _ (by omega) (by omega) (by omega) (by omega) (by omega), e, e2]
      rfl
theorem s_70 (d : Nat) (σ : Nat → Int → Int) (r l : Int) (hw : σ 18 0 = 6) (hT : zBT (σ 18 3) (σ 19) (σ 71 43) (σ 71 2) (σ 104) (σ 105) (σ 106)) (l1 : l < 2147483648) : zE (d + 2) 70 0 [some (.inr 22), some (.inl r), some (.inl l), none, none, none] [] (zS, σ) = some (.inl (if 0 ≤ r ∧ r < σ 18 3 ∧ 0 ≤ l then w_at σ r l else -1), (zS, σ)) := by
  rw [e_70_0, s_has_18, Option.bind_some, e_70_5]
  by_cases c : 0 ≤ r ∧ r < σ 18 3
  · rw [if_pos c, if_neg (by decide)]
    by_cases c2 : l < 0
    · rw [if_pos c2, if_neg (by omega)]
    · rw [if_neg c2, if_pos (by omega), s_70l d σ r l hw hT c l1 5 0 0 _ (by omega) (by omega) (by omega) (by omega) (by omega)]
      rw [show σ 104 r - 0 = σ 104 r by omega, show l - 0 = l by omega]
      rfl
  · rw [if_neg c, if_pos rfl, if_neg (by omega)]
theorem w_at_rng (σ : Nat → Int → Int) (r l : Int) (hT : zBT (σ 18 3) (σ 19) (σ 71 43) (σ 71 2) (σ 104) (σ 105) (σ 106)) (hr : 0 ≤ r ∧ r < σ 71 43) : w_at σ r l = -1 ∨ (0 ≤ w_at σ r l ∧ w_at σ r l < σ 71 2) := by
  have q := hT.2.2.2 r hr.1 hr.2
  apply w_plc_rng
  intro i i0 i1
  have w := q.2.2.2.2.2.2.2 i i0 (by omega)
  exact ⟨w.2.1, w.2.2.1⟩
def w_sumf (f : Int → Int) : Nat → Int → Int
  | 0, _ => 0
  | n + 1, k => f k + w_sumf f n (k + 1)
theorem w_sumf0 (f : Int → Int) (k : Int) : w_sumf f 0 k = 0 := rfl
theorem w_sumf_rng (f : Int → Int) (hf : ∀ k, f k = 0 ∨ f k = 1) : ∀ (n : Nat) (k : Int), 0 ≤ w_sumf f n k ∧ w_sumf f n k ≤ n
  | 0, k => ⟨Int.le_refl 0, Int.le_refl 0⟩
  | n + 1, k => by
    have u : w_sumf f (n + 1) k = f k + w_sumf f n (k + 1) := rfl
    have v := w_sumf_rng f hf n (k + 1)
    have w := hf k
    rw [u]
    omega
def w_medf (σ : Nat → Int → Int) (a w r : Int) : Int := if w_at σ r w = -1 then 0 else if σ 72 (w_at σ r w) = a then 1 else 0
def w_med (σ : Nat → Int → Int) (a w : Int) : Int := w_sumf (w_medf σ a w) (σ 71 43).toNat 0
theorem s_71l (d : Nat) (σ : Nat → Int → Int) (a w : Int) (hw : σ 18 0 = 6) (hwP : σ 2 0 = 4) (hP : zBP (σ 2 3) (σ 3) (σ 71 2) (σ 71 6) (σ 72) (σ 73) (σ 74)) (hT : zBT (σ 18 3) (σ 19) (σ 71 43) (σ 71 2) (σ 104) (σ 105) (σ 106)) (w0 : 0 ≤ w) (w1 : w < 2147483648) : ∀ (n : Nat) (r c : Int) (o5 : Option (Int ⊕ Nat)), 0 ≤ r → r + n = σ 71 43 → 0 ≤ c → c ≤ r → zE (d + 3) 71 5 [some (.inr 5), some (.inl a), some (.inl w), some (.inl c), some (.inl r), o5] [] (zS, σ) = some (.inl (c + w_sumf (w_medf σ a w) n r), (zS, σ))
  | 0, r, c, o5, r0, r1, c0, c1 => by
    have h1 := hT.1
    rw [e_71_5, e_85_0_8, Option.bind_some, e_71_14, if_neg (by omega)]
    rw [w_sumf0, Int.add_zero]
  | n + 1, r, c, o5, r0, r1, c0, c1 => by
    have h1 := hT.1
    have h2 := hT.2.2.1
    have p1 := hP.1
    have p2 := hP.2.2.1
    have g := w_at_rng σ r w hT (by omega)
    have u : w_sumf (w_medf σ a w) (n + 1) r = w_medf σ a w r + w_sumf (w_medf σ a w) n (r + 1) := rfl
    rw [e_71_5, e_85_0_8, Option.bind_some, e_71_14, if_pos (by omega), s_70 _ _ _ _ hw hT w1, if_pos (by omega), Option.bind_some, e_71_27, u]
    by_cases e : w_at σ r w = -1
    · have v : w_medf σ a w r = 0 := if_pos e
      rw [if_pos e, z_wid (by omega) (by omega), s_71l d σ a w hw hwP hP hT w0 w1 n (r + 1) c _ (by omega) (by omega) c0 (by omega), v, Int.zero_add]
    · have q := (hP.2.2.2 (w_at σ r w) (by omega) (by omega)).1
      rw [if_neg e, s_get_2 _ _ _ _ hwP (by omega), if_pos (by omega), Option.bind_some, e_71_45, Int.add_zero, q]
      by_cases f : σ 72 (w_at σ r w) = a
      · have v : w_medf σ a w r = 1 := by
          unfold w_medf
          rw [if_neg e, if_pos f]
        rw [if_pos f, z_wid (by omega) (by omega), z_wid (by omega) (by omega), s_71l d σ a w hw hwP hP hT w0 w1 n (r + 1) (c + 1) _ (by omega) (by omega) (by omega) (by omega), v, Int.add_assoc]
      · have v : w_medf σ a w r = 0 := by
          unfold w_medf
          rw [if_neg e, if_neg f]
        rw [if_neg f, z_wid (by omega) (by omega), s_71l d σ a w hw hwP hP hT w0 w1 n (r + 1) c _ (by omega) (by omega) c0 (by omega), v, Int.zero_add]
theorem s_71 (d : Nat) (σ : Nat → Int → Int) (a w : Int) (hw : σ 18 0 = 6) (hwP : σ 2 0 = 4) (hP : zBP (σ 2 3) (σ 3) (σ 71 2) (σ 71 6) (σ 72) (σ 73) (σ 74)) (hT : zBT (σ 18 3) (σ 19) (σ 71 43) (σ 71 2) (σ 104) (σ 105) (σ 106)) (w0 : 0 ≤ w) (w1 : w < 2147483648) : zE (d + 3) 71 0 [some (.inr 5), some (.inl a), some (.inl w), none, none, none] [] (zS, σ) = some (.inl (w_med σ a w), (zS, σ)) := by
  have h2 := hT.2.1
  rw [e_71_0, s_71l d σ a w hw hwP hP hT w0 w1 (σ 71 43).toNat 0 0 _ (by omega) (by omega) (by omega) (by omega), Int.zero_add]
  rfl
theorem s_202l (d : Nat) (σ : Nat → Int → Int) (a w : Int) (hnp : σ 71 2 ≤ 12) (hT : zBT (σ 18 3) (σ 19) (σ 71 43) (σ 71 2) (σ 104) (σ 105) (σ 106)) (w0 : 0 ≤ w) (w1 : w < 2147483648) : ∀ (n : Nat) (r c : Int) (o5 : Option (Int ⊕ Nat)), 0 ≤ r → r + n = σ 71 43 → 0 ≤ c → c ≤ r → zE (d + 1) 202 5 [some (.inr 75), some (.inl a), some (.inl w), some (.inl c), some (.inl r), o5] [] (zS, σ) = some (.inl (c + w_sumf (w_medf σ a w) n r), (zS, σ))
  | 0, r, c, o5, r0, r1, c0, c1 => by
    rw [e_202_5, if_neg (by omega)]
    rw [w_sumf0, Int.add_zero]
  | n + 1, r, c, o5, r0, r1, c0, c1 => by
    have h2 := hT.2.2.1
    have g := w_at_rng σ r w hT (by omega)
    have q := hT.2.2.2 r r0 (by omega)
    have u : w_sumf (w_medf σ a w) (n + 1) r = w_medf σ a w r + w_sumf (w_medf σ a w) n (r + 1) := rfl
    rw [e_202_5, if_pos (by omega), s_199 _ _ _ _ (by omega) ⟨q.1, q.2.1⟩ w0 w1, Option.bind_some, e_202_21, u]
    by_cases e : w_at σ r w = -1
    · have v : w_medf σ a w r = 0 := if_pos e
      rw [if_pos e, Int.add_zero, z_wid (by omega) (by omega), z_wid (by omega) (by omega), s_202l d σ a w hnp hT w0 w1 n (r + 1) c _ (by omega) (by omega) c0 (by omega), v, Int.zero_add]
    · rw [if_neg e, if_pos (by omega)]
      by_cases f : σ 72 (w_at σ r w) = a
      · have v : w_medf σ a w r = 1 := by
          unfold w_medf
          rw [if_neg e, if_pos f]
        rw [if_pos f, z_wid (by omega) (by omega), z_wid (by omega) (by omega), s_202l d σ a w hnp hT w0 w1 n (r + 1) (c + 1) _ (by omega) (by omega) (by omega) (by omega), v, Int.add_assoc]
      · have v : w_medf σ a w r = 0 := by
          unfold w_medf
          rw [if_neg e, if_neg f]
        rw [if_neg f, Int.add_zero, z_wid (by omega) (by omega), z_wid (by omega) (by omega), s_202l d σ a w hnp hT w0 w1 n (r + 1) c _ (by omega) (by omega) c0 (by omega), v, Int.zero_add]
theorem s_202 (d : Nat) (σ : Nat → Int → Int) (a w : Int) (hnp : σ 71 2 ≤ 12) (hT : zBT (σ 18 3) (σ 19) (σ 71 43) (σ 71 2) (σ 104) (σ 105) (σ 106)) (w0 : 0 ≤ w) (w1 : w < 2147483648) : zE (d + 1) 202 0 [some (.inr 75), some (.inl a), some (.inl w), none, none, none] [] (zS, σ) = some (.inl (w_med σ a w), (zS, σ)) := by
  have h2 := hT.2.1
  rw [e_202_0, s_202l d σ a w hnp hT w0 w1 (σ 71 43).toNat 0 0 _ (by omega) (by omega) (by omega) (by omega), Int.zero_add]
  rfl
def w_ah (m : Int → Int → Int) (a b : Int) : Int := if z_wrap (m a 0 - m b 0) = 0 then (if z_wrap (m a 1 - m b 1) = 0 then (if z_wrap (m a 2 - m b 2) = 0 then (if a < b then 1 else 0) else (if 0 < z_wrap (m a 2 - m b 2) then 1 else 0)) else (if 0 < z_wrap (m a 1 - m b 1) then 1 else 0)) else (if 0 < z_wrap (m a 0 - m b 0) then 1 else 0)
theorem w_ah01 (m : Int → Int → Int) (a b : Int) : w_ah m a b = 0 ∨ w_ah m a b = 1 := by
  unfold w_ah
  repeat' split
  all_goals first | exact Or.inl rfl | exact Or.inr rfl
theorem s_73 (d : Nat) (σ : Nat → Int → Int) (m : Int → Int → Int) (a b : Int) (hm : ∀ x w : Int, 0 ≤ w → w ≤ 3 → zE d 71 0 [some (.inr 5), some (.inl x), some (.inl w), none, none, none] [] (zS, σ) = some (.inl (m x w), (zS, σ))) : zE (d + 1) 73 0 [some (.inr 5), some (.inl a), some (.inl b), none, none] [] (zS, σ) = some (.inl (w_ah m a b), (zS, σ)) := by
  unfold w_ah
  simp (disch := omega) only [e_73_0, e_73_2, e_73_13, e_73_19, hm, Option.bind_some, z_wid, Int.reduceAdd, Int.reduceLT, ↓reduceIte]
  repeat' split
  all_goals first | rfl | omega
theorem s_203 (d : Nat) (σ : Nat → Int → Int) (m : Int → Int → Int) (a b : Int) (hm : ∀ x w : Int, 0 ≤ w → w ≤ 3 → zE d 202 0 [some (.inr 75), some (.inl x), some (.inl w), none, none, none] [] (zS, σ) = some (.inl (m x w), (zS, σ))) : zE (d + 1) 203 0 [some (.inr 75), some (.inl a), some (.inl b), none, none] [] (zS, σ) = some (.inl (w_ah m a b), (zS, σ)) := by
  unfold w_ah
  simp (disch := omega) only [e_203_0, e_203_2, e_203_13, e_203_19, hm, Option.bind_some, z_wid, Int.reduceAdd, Int.reduceLT, ↓reduceIte]
  repeat' split
  all_goals first | rfl | omega
def w_tpf (m : Int → Int → Int) (x k : Int) : Int := if k = x then 0 else w_ah m k x
theorem s_72l (d : Nat) (σ : Nat → Int → Int) (m : Int → Int → Int) (x : Int) (hm : ∀ x w : Int, 0 ≤ w → w ≤ 3 → zE d 71 0 [some (.inr 5), some (.inl x), some (.inl w), none, none, none] [] (zS, σ) = some (.inl (m x w), (zS, σ))) : ∀ (n : Nat) (k c : Int), 0 ≤ k → k + n = 8 → 0 ≤ c → c ≤ k → zE (d + 2) 72 4 [some (.inr 5), some (.inl x), some (.inl c), some (.inl k)] [] (zS, σ) = some (.inl (c + w_sumf (w_tpf m x) n k), (zS, σ))
  | 0, k, c, k0, k1, c0, c1 => by
    rw [e_72_4, if_neg (by omega)]
    rw [w_sumf0, Int.add_zero]
  | n + 1, k, c, k0, k1, c0, c1 => by
    have u : w_sumf (w_tpf m x) (n + 1) k = w_tpf m x k + w_sumf (w_tpf m x) n (k + 1) := rfl
    rw [e_72_4, if_pos (by omega), u]
    by_cases e : k = x
    · have v : w_tpf m x k = 0 := if_pos e
      rw [if_pos e, z_wid (by omega) (by omega), s_72l d σ m x hm n (k + 1) c (by omega) (by omega) c0 (by omega), v, Int.zero_add]
    · have v : w_tpf m x k = w_ah m k x := if_neg e
      have z := w_ah01 m k x
      rw [if_neg e, s_73 d σ m k x hm, Option.bind_some, e_72_21, v]
      by_cases f : w_ah m k x = 0
      · rw [if_pos f, z_wid (by omega) (by omega), s_72l d σ m x hm n (k + 1) c (by omega) (by omega) c0 (by omega), f, Int.zero_add]
      · rw [if_neg f, z_wid (by omega) (by omega), z_wid (by omega) (by omega), s_72l d σ m x hm n (k + 1) (c + 1) (by omega) (by omega) (by omega) (by omega), show w_ah m k x = 1 by omega, Int.add_assoc]
theorem s_204l (d : Nat) (σ : Nat → Int → Int) (m : Int → Int → Int) (x : Int) (o2 : Option (Int ⊕ Nat)) (hm : ∀ x w : Int, 0 ≤ w → w ≤ 3 → zE d 202 0 [some (.inr 75), some (.inl x), some (.inl w), none, none, none] [] (zS, σ) = some (.inl (m x w), (zS, σ))) : ∀ (n : Nat) (k c : Int), 0 ≤ k → k + n = 8 → 0 ≤ c → c ≤ k → zE (d + 2) 204 38 [some (.inr 75), some (.inl x), o2, some (.inl c), some (.inl k)] [] (zS, σ) = some (.inl (c + w_sumf (w_tpf m x) n k), (zS, σ))
  | 0, k, c, k0, k1, c0, c1 => by
    rw [e_204_38, if_neg (by omega)]
    rw [w_sumf0, Int.add_zero]
  | n + 1, k, c, k0, k1, c0, c1 => by
    have u : w_sumf (w_tpf m x) (n + 1) k = w_tpf m x k + w_sumf (w_tpf m x) n (k + 1) := rfl
    rw [e_204_38, if_pos (by omega), u]
    by_cases e : k = x
    · have v : w_tpf m x k = 0 := if_pos e
      rw [if_pos e, Int.add_zero, z_wid (by omega) (by omega), z_wid (by omega) (by omega), s_204l d σ m x o2 hm n (k + 1) c (by omega) (by omega) c0 (by omega), v, Int.zero_add]
    · have v : w_tpf m x k = w_ah m k x := if_neg e
      have z := w_ah01 m k x
      rw [if_neg e, s_203 d σ m k x hm, Option.bind_some, e_204_59, v]
      by_cases f : w_ah m k x = 0
      · rw [if_pos f, Int.add_zero, z_wid (by omega) (by omega), z_wid (by omega) (by omega), s_204l d σ m x o2 hm n (k + 1) c (by omega) (by omega) c0 (by omega), f, Int.zero_add]
      · rw [if_neg f, z_wid (by omega) (by omega), z_wid (by omega) (by omega), s_204l d σ m x o2 hm n (k + 1) (c + 1) (by omega) (by omega) (by omega) (by omega), show w_ah m k x = 1 by omega, Int.add_assoc]
