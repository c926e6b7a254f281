/-- 1: the digits of x tell a result, those that stand in s being there already -/
def w_tr (np : Int) : Nat → Int → Int → Int
  | 0, x, _ => if x = 0 then 1 else 0
  | n + 1, x, s => if x = 0 then 1 else if 0 ≤ x % 13 - 1 ∧ x % 13 - 1 < np ∧ z_b s (x % 13 - 1) = 0 then w_tr np n (x / 13) (z_or s (z_shl 1 (x % 13 - 1))) else 0
def w_sz : Nat → Int → Int
  | 0, _ => 0
  | n + 1, x => if x = 0 then 0 else w_sz n (x / 13) + 1
def w_dgt : Nat → Int → Int
  | 0, x => x % 13 - 1
  | i + 1, x => w_dgt i (x / 13)
def w_p13 : Nat → Int
  | 0 => 1
  | n + 1 => 13 * w_p13 n
theorem w_tr01 (np : Int) : ∀ (n : Nat) (x s : Int), w_tr np n x s = 0 ∨ w_tr np n x s = 1
  | 0, x, s => by
    unfold w_tr
    split
    · exact Or.inr rfl
    · exact Or.inl rfl
  | n + 1, x, s => by
    unfold w_tr
    split
    · exact Or.inr rfl
    · split
      · exact w_tr01 np n _ _
      · exact Or.inl rfl
theorem w_sz_rng : ∀ (n : Nat) (x : Int), 0 ≤ w_sz n x ∧ w_sz n x ≤ n
  | 0, x => ⟨Int.le_refl 0, Int.le_refl 0⟩
  | n + 1, x => by
    have q := w_sz_rng n (x / 13)
    unfold w_sz
    split <;> omega
theorem w_tr_lt (np : Int) : ∀ (n : Nat) (x s : Int), 0 ≤ x → w_tr np n x s = 1 → x < w_p13 n
  | 0, x, s, x0, h => by
    unfold w_tr at h
    show x < 1
    split at h
    · omega
    · omega
  | n + 1, x, s, x0, h => by
    have u : w_p13 (n + 1) = 13 * w_p13 n := rfl
    have z : ∀ m, 0 < w_p13 m := by
      intro m
      induction m with
      | zero => exact Int.one_pos
      | succ m ih =>
        have v : w_p13 (m + 1) = 13 * w_p13 m := rfl
        omega
    have zn := z n
    unfold w_tr at h
    split at h
    · omega
    · split at h
      · have q := w_tr_lt np n (x / 13) _ (by omega) h
        omega
      · omega
theorem w_dgt_rng : ∀ (i : Nat) (x : Int), -1 ≤ w_dgt i x ∧ w_dgt i x ≤ 11
  | 0, x => by unfold w_dgt; omega
  | i + 1, x => w_dgt_rng i (x / 13)
theorem w_dgt0 : ∀ (i : Nat), w_dgt i 0 = -1
  | 0 => rfl
  | i + 1 => by
    show w_dgt i (0 / 13) = -1
    exact w_dgt0 i
theorem w_dgt_out : ∀ (n i : Nat) (x : Int), w_sz n x ≤ i → i < n → w_dgt i x = -1
  | 0, i, x, h, hi => absurd hi (Nat.not_lt_zero i)
  | n + 1, i, x, h, hi => by
    unfold w_sz at h
    split at h
    · next e =>
      subst e
      exact w_dgt0 i
    · have z := w_sz_rng n (x / 13)
      match i, h, hi with
      | 0, h, hi => omega
      | i + 1, h, hi => exact w_dgt_out n i (x / 13) (by omega) (by omega)
theorem w_tr_dgt (np : Int) (hnp : np ≤ 12) : ∀ (n : Nat) (x s : Int), 0 ≤ x → 0 ≤ s → s < 4096 → w_tr np n x s = 1 → ∀ i : Nat, (i : Int) < w_sz n x → 0 ≤ w_dgt i x ∧ w_dgt i x < np ∧ z_b s (w_dgt i x) = 0 ∧ ∀ j : Nat, j < i → w_dgt j x ≠ w_dgt i x
  | 0, x, s, x0, s0, s1, h, i, hi => by
    have hi : (i : Int) < 0 := hi
    omega
  | n + 1, x, s, x0, s0, s1, h, i, hi => by
    unfold w_tr at h
    unfold w_sz at hi
    split at h
    · next e =>
      rw [if_pos e] at hi
      omega
    · next e =>
      rw [if_neg e] at hi
      split at h
      · next c =>
        match i, hi with
        | 0, hi => exact ⟨c.1, c.2.1, c.2.2, fun j hj => absurd hj (Nat.not_lt_zero j)⟩
        | i + 1, hi =>
          have o := w_or12 s (x % 13 - 1) s0 s1 c.1 (by omega)
          obtain ⟨q1, q2, q3, q4⟩ := w_tr_dgt np hnp n (x / 13) _ (by omega) o.1 o.2 h i (by omega)
          have t : w_dgt (i + 1) x = w_dgt i (x / 13) := rfl
          rw [w_zbor s (x % 13 - 1) (w_dgt i (x / 13)) s0 (by omega) c.1 (by omega) q1 (by omega)] at q3
          rw [t]
          by_cases g : w_dgt i (x / 13) = x % 13 - 1
          · rw [if_pos g] at q3
            omega
          · rw [if_neg g] at q3
            refine ⟨q1, q2, q3, fun j hj => ?_⟩
            match j, hj with
            | 0, hj => exact fun w => g w.symm
            | j + 1, hj => exact q4 j (by omega)
      · omega
theorem w_tdm (x y : Int) (h : 0 ≤ x) : Int.tmod x y = x % y := Int.tmod_eq_emod_of_nonneg h
theorem w_tdd (x y : Int) (h : 0 ≤ x) : Int.tdiv x y = x / y := Int.tdiv_eq_ediv_of_nonneg h
theorem s_64l (d : Nat) (σ : Nat → Int → Int) (np : Int) (o0 : Option (Int ⊕ Nat)) : ∀ (n : Nat) (x s k : Int) (o5 : Option (Int ⊕ Nat)), 0 ≤ x → x < 2147483648 → 0 ≤ k → k + n = 5 → zE d 64 13 [o0, some (.inl np), some (.inl x), some (.inl s), some (.inl k), o5] [] (zS, σ) = some (.inl (w_tr np n x s), (zS, σ))
  | 0, x, s, k, o5, x0, x1, k0, k1 => by
    rw [e_64_13, if_neg (by omega)]
    unfold w_tr
    split <;> rfl
  | n + 1, x, s, k, o5, x0, x1, k0, k1 => by
    rw [e_64_13, if_pos (by omega)]
    unfold w_tr
    by_cases e : x = 0
    · rw [if_pos e, if_pos e, if_pos e]
    · rw [if_neg e, if_neg e, w_tdm x 13 x0, w_tdd x 13 x0, z_wid (x := x % 13 - 1) (by omega) (by omega), z_wid (x := x / 13) (by omega) (by omega), z_wid (x := k + 1) (by omega) (by omega)]
      by_cases c1 : x % 13 - 1 < 0
      · rw [if_pos c1, if_neg (by omega)]
      · rw [if_neg c1]
        by_cases c2 : x % 13 - 1 < np
        · rw [if_pos c2]
          by_cases c3 : z_b s (x % 13 - 1) = 0
          · have c4 : z_and (z_shr s (x % 13 - 1)) 1 = 0 := c3
            rw [if_pos c4, if_pos ⟨by omega, c2, c3⟩]
            exact s_64l d σ np o0 n (x / 13) _ (k + 1) _ (by omega) (by omega) (by omega) (by omega)
          · have c4 : ¬ z_and (z_shr s (x % 13 - 1)) 1 = 0 := c3
            rw [if_neg c4, if_neg (fun q => c3 q.2.2)]
        · rw [if_neg c2, if_neg (by omega)]
theorem s_64 (d : Nat) (σ : Nat → Int → Int) (x np : Int) (x1 : x < 2147483648) : zE d 64 0 [some (.inl x), some (.inl np), none, none, none, none] [] (zS, σ) = some (.inl (if 0 < x then w_tr np 5 x 0 else 0), (zS, σ)) := by
  rw [e_64_0]
  by_cases c : 0 < x
  · rw [if_pos c, if_pos c]
    exact s_64l d σ np _ 5 x 0 0 _ (by omega) x1 (by omega) (by omega)
  · rw [if_neg c, if_neg c]
def r_res (x j : Int) : Int := if j = 4 then w_dgt 4 x else if j = 3 then w_dgt 3 x else if j = 2 then w_dgt 2 x else if j = 1 then w_dgt 1 x else if j = 0 then w_dgt 0 x else 0
theorem r_res_out (x j : Int) (h : j = 5) : r_res x j = 0 := by subst h; rfl
theorem r_res_in (x : Int) (j : Nat) (h : j < 5) : r_res x (j : Int) = w_dgt j x := by
  match j, h with
  | 0, _ => rfl
  | 1, _ => rfl
  | 2, _ => rfl
  | 3, _ => rfl
  | 4, _ => rfl
theorem s_65l (d : Nat) (τ : Nat → Int → Int) (f : Int → Int) (r x k : Int) (o1 : Option (Int ⊕ Nat)) (hw : τ 18 0 = 6) (hM : τ 18 3 ≤ 10) (hr : 0 ≤ r ∧ r < τ 18 3) (x0 : 0 ≤ x) (x1 : x < 2147483648) (k0 : 0 ≤ k) (k1 : k < 5) : zE (d + 1) 65 10 [some (.inr 22), o1, some (.inl r), some (.inl x), some (.inl k)] [] (zS, z_rw τ 19 (6 * r) 6 f) = zE (d + 1) 65 10 [some (.inr 22), o1, some (.inl r), some (.inl (x / 13)), some (.inl (k + 1))] [] (zS, z_rw τ 19 (6 * r) 6 (fun c => if c = k then x % 13 - 1 else f c)) := by
  have g : z_rw τ 19 (6 * r) 6 f 18 = τ 18 := z_rw_fn (by omega)
  rw [e_65_10, if_pos k1, w_tdm x 13 x0, z_wid (x := x % 13 - 1) (by omega) (by omega), s_set_18 _ _ _ _ _ (by rw [g]; exact hw) (by rw [g]; exact hM) (by rw [g]; omega), Option.bind_some, e_65_29, w_tdd x 13 x0, z_wid (x := x / 13) (by omega) (by omega), z_wid (x := k + 1) (by omega) (by omega), z_rw_up k0 (by omega)]
theorem s_65 (d : Nat) (σ : Nat → Int → Int) (x : Int) (hw : σ 18 0 = 6) (hm : σ 18 1 = 10) (h0 : 0 ≤ σ 18 3) (hM : σ 18 3 < 10) (x0 : 0 ≤ x) (x1 : x < 2147483648) : zE (d + 2) 65 0 [some (.inr 22), some (.inl x), none, none, none] [] (zS, σ) = some (.inl (σ 18 3), (zS, z_rw (z_up σ 18 3 (σ 18 3 + 1)) 19 (6 * σ 18 3) 6 (r_res x))) := by
  have a : z_up σ 18 3 (σ 18 3 + 1) 18 0 = 6 := hw
  have b : z_up σ 18 3 (σ 18 3 + 1) 18 3 = σ 18 3 + 1 := z_up_eq
  rw [e_65_0, s_add_18 _ _ hw hm h0 hM, Option.bind_some, e_65_4]
  rw [s_65l _ _ _ _ _ _ _ a (by omega) (by omega) x0 x1 (by omega) (by omega)]
  rw [s_65l _ _ _ _ _ _ _ a (by omega) (by omega) (by omega) (by omega) (by omega) (by omega)]
  rw [s_65l _ _ _ _ _ _ _ a (by omega) (by omega) (by omega) (by omega) (by omega) (by omega)]
  rw [s_65l _ _ _ _ _ _ _ a (by omega) (by omega) (by omega) (by omega) (by omega) (by omega)]
  rw [s_65l _ _ _ _ _ _ _ a (by omega) (by omega) (by omega) (by omega) (by omega) (by omega)]
  rw [e_65_10, if_neg (by omega)]
  rfl
theorem s_198a (d : Nat) (σ : Nat → Int → Int) (row : Int) (hp : 0 ≤ σ 71 2 ∧ σ 71 2 ≤ 12) : ∀ (n : Nat) (x s : Int) (o4 : Option (Int ⊕ Nat)), 0 ≤ x → x < w_p13 n → w_tr (σ 71 2) n x s = 1 → x < 2147483648 → 0 ≤ s → s < 4096 → ∃ s' o, zE (d + 3) 198 22 [some (.inr 75), some (.inl row), some (.inl x), some (.inl s), o4] [] (zS, σ) = zE (d + 3) 198 22 [some (.inr 75), some (.inl row), some (.inl 0), some (.inl s'), o] [] (zS, σ)
  | 0, x, s, o4, x0, xn, h, x1, s0, s1 => by
    have e : x = 0 := by
      have xn : x < 1 := xn
      omega
    subst e
    exact ⟨s, o4, rfl⟩
  | n + 1, x, s, o4, x0, xn, h, x1, s0, s1 => by
    have xn : x < 13 * w_p13 n := xn
    by_cases e : x = 0
    · subst e
      exact ⟨s, o4, rfl⟩
    · unfold w_tr at h
      rw [if_neg e] at h
      split at h
      · next c =>
        have o := w_or12 s (x % 13 - 1) s0 s1 c.1 (by omega)
        obtain ⟨s', o', q⟩ := s_198a d σ row hp n (x / 13) _ (some (.inl (x % 13 - 1))) (by omega) (by omega) h (by omega) o.1 o.2
        refine ⟨s', o', ?_⟩
        have c4 : ¬ z_and (z_shr s (x % 13 - 1)) 1 = 1 := by
          have g : z_and (z_shr s (x % 13 - 1)) 1 = 0 := c.2.2
          omega
        have cc : 0 ≤ x % 13 - 1 ∧ x % 13 - 1 < σ 71 2 := ⟨c.1, c.2.1⟩
        rw [e_198_22, if_pos (by omega), w_tdm x 13 x0, z_wid (x := x % 13 - 1) (by omega) (by omega), s_152 _ _ _ hp.1 (by omega), Option.bind_some, e_198_40, if_pos cc, if_neg (by decide), if_neg c4, w_tdd x 13 x0, z_wid (x := x / 13) (by omega) (by omega)]
        exact q
      · omega
theorem s_198b (d : Nat) (σ : Nat → Int → Int) (row : Int) (hp : 0 ≤ σ 71 2 ∧ σ 71 2 ≤ 12) : ∀ (n : Nat) (x s : Int) (o4 : Option (Int ⊕ Nat)), 0 ≤ x → x < w_p13 n → ¬ w_tr (σ 71 2) n x s = 1 → x < 2147483648 → 0 ≤ s → s < 4096 → zE (d + 3) 198 22 [some (.inr 75), some (.inl row), some (.inl x), some (.inl s), o4] [] (zS, σ) = some (.inl (-1), (zS, z_up σ 71 0 1))
  | 0, x, s, o4, x0, xn, h, x1, s0, s1 => by
    have e : x = 0 := by
      have xn : x < 1 := xn
      omega
    subst e
    exact absurd rfl h
  | n + 1, x, s, o4, x0, xn, h, x1, s0, s1 => by
    have xn : x < 13 * w_p13 n := xn
    unfold w_tr at h
    by_cases e : x = 0
    · rw [if_pos e] at h
      exact absurd rfl h
    · rw [if_neg e] at h
      rw [e_198_22, if_pos (by omega), w_tdm x 13 x0, z_wid (x := x % 13 - 1) (by omega) (by omega), s_152 _ _ _ hp.1 (by omega), Option.bind_some, e_198_40]
      by_cases c : 0 ≤ x % 13 - 1 ∧ x % 13 - 1 < σ 71 2
      · rw [if_pos c, if_neg (by decide)]
        by_cases g : z_b s (x % 13 - 1) = 0
        · rw [if_pos ⟨c.1, c.2, g⟩] at h
          have c4 : ¬ z_and (z_shr s (x % 13 - 1)) 1 = 1 := by
            have g : z_and (z_shr s (x % 13 - 1)) 1 = 0 := g
            omega
          have o := w_or12 s (x % 13 - 1) s0 s1 c.1 (by omega)
          rw [if_neg c4, w_tdd x 13 x0, z_wid (x := x / 13) (by omega) (by omega)]
          exact s_198b d σ row hp n (x / 13) _ _ (by omega) (by omega) h (by omega) o.1 o.2
        · have g1 := w_zb01 s (x % 13 - 1) s0 (by omega) c.1 (by omega)
          have c4 : z_and (z_shr s (x % 13 - 1)) 1 = 1 := by
            have g2 : z_b s (x % 13 - 1) = 1 := by omega
            exact g2
          rw [if_pos c4, e_150_0, Option.bind_some, e_198_58]
      · rw [if_neg c, if_pos rfl, e_150_0, Option.bind_some, e_198_58]
theorem z_rw_gr {σ : Nat → Int → Int} {a : Nat} {b j v : Int} {f : Int → Int} (h : 0 ≤ j) (e : f j = v) : z_up (z_rw σ a b j f) a (b + j) v = z_rw σ a b (j + 1) f := by
  funext k i
  unfold z_up z_rw
  by_cases c : k = a ∧ i = b + j
  · obtain ⟨c1, c2⟩ := c
    subst c1 c2
    rw [if_pos ⟨rfl, rfl⟩, if_pos ⟨rfl, by omega, by omega⟩, show b + j - b = j by omega, e]
  · rw [if_neg c]
    by_cases g : k = a ∧ b ≤ i ∧ i < b + j
    · rw [if_pos g, if_pos ⟨g.1, g.2.1, by omega⟩]
    · rw [if_neg g, if_neg]
      intro w
      by_cases e2 : i = b + j
      · exact c ⟨w.1, e2⟩
      · exact g ⟨w.1, w.2.1, by omega⟩
theorem s_198c (d : Nat) (σ : Nat → Int → Int) (f : Int → Int) (N : Int) (hN : σ 71 43 = N) (N0 : 0 ≤ N) (N1 : N < 10) (o1 o3 : Option (Int ⊕ Nat)) : ∀ (n : Nat) (x k : Int), 0 ≤ x → x < w_p13 n → x < 2147483648 → 0 ≤ k → k + n ≤ 5 → (∀ i : Nat, f (k + i) = w_dgt i x) → zE (d + 3) 198 94 [some (.inr 75), o1, some (.inl x), o3, some (.inl k)] [] (zS, z_rw σ 105 (5 * N) k f) = some (.inl N, (zS, z_up (z_up (z_up (z_up (z_rw σ 105 (5 * N) (k + w_sz n x) f) 104 N (k + w_sz n x)) 106 N 0) 71 43 (N + 1)) 71 0 0))
  | 0, x, k, x0, xn, x1, k0, k1, hf => by
    have xn : x < 1 := xn
    have u : w_sz 0 x = 0 := rfl
    have g : ∀ j, z_rw σ 105 (5 * N) j f 71 43 = N := fun j => by rw [z_rw_ne (by omega)]; exact hN
    rw [e_198_94, if_neg (by omega), g, if_pos (by omega), if_pos (by omega), z_wid (x := N + 1) (by omega) (by omega), z_wid (x := N + 1 - 1) (by omega) (by omega), e_151_0, Option.bind_some, e_198_170, u, Int.add_zero, show N + 1 - 1 = N by omega]
  | n + 1, x, k, x0, xn, x1, k0, k1, hf => by
    have xn : x < 13 * w_p13 n := xn
    have g : ∀ j, z_rw σ 105 (5 * N) j f 71 43 = N := fun j => by rw [z_rw_ne (by omega)]; exact hN
    by_cases e : x = 0
    · have u : w_sz (n + 1) x = 0 := if_pos e
      rw [e_198_94, if_neg (by omega), g, if_pos (by omega), if_pos (by omega), z_wid (x := N + 1) (by omega) (by omega), z_wid (x := N + 1 - 1) (by omega) (by omega), e_151_0, Option.bind_some, e_198_170, u, Int.add_zero, show N + 1 - 1 = N by omega]
    · have u : w_sz (n + 1) x = w_sz n (x / 13) + 1 := if_neg e
      have h0 : f k = x % 13 - 1 := by
        have q := hf 0
        rw [show k + ((0 : Nat) : Int) = k by omega] at q
        exact q
      rw [e_198_94, if_pos (by omega), g, z_wid (x := 5 * N) (by omega) (by omega), z_wid (x := 5 * N + k) (by omega) (by omega), if_pos (by omega), w_tdm x 13 x0, w_tdd x 13 x0, z_wid (x := x % 13 - 1) (by omega) (by omega), z_wid (x := x / 13) (by omega) (by omega), z_wid (x := k + 1) (by omega) (by omega), z_rw_gr k0 h0, s_198c d σ f N hN N0 N1 o1 o3 n (x / 13) (k + 1) (by omega) (by omega) (by omega) (by omega) (by omega) (fun i => by
        have q := hf (i + 1)
        rw [show k + ((i + 1 : Nat) : Int) = k + 1 + (i : Int) by omega] at q
        exact q), u, show k + 1 + w_sz n (x / 13) = k + (w_sz n (x / 13) + 1) by omega]
theorem s_198 (d : Nat) (σ : Nat → Int → Int) (x : Int) (x1 : x < 2147483648) (p0 : 0 ≤ σ 71 2) (p1 : σ 71 2 ≤ 12) (r0 : 0 ≤ σ 71 43) (r1 : σ 71 43 ≤ 10) : zE (d + 3) 198 0 [some (.inr 75), some (.inl x), none, none, none] [] (zS, σ) = if 0 < x then (if w_tr (σ 71 2) 5 x 0 = 1 then (if σ 71 43 = 10 then some (.inl (-1), (zS, z_up σ 71 0 2)) else some (.inl (σ 71 43), (zS, z_up (z_up (z_up (z_up (z_rw σ 105 (5 * σ 71 43) (w_sz 5 x) (fun i => w_dgt i.toNat x)) 104 (σ 71 43) (w_sz 5 x)) 106 (σ 71 43) 0) 71 43 (σ 71 43 + 1)) 71 0 0))) else some (.inl (-1), (zS, z_up σ 71 0 1))) else some (.inl (-1), (zS, z_up σ 71 0 1)) := by
  have e13 : w_p13 5 = 371293 := by decide
  rw [e_198_0]
  by_cases c : 0 < x
  · rw [if_neg (by omega), if_pos c]
    by_cases c2 : x < 371293
    · rw [if_pos c2]
      by_cases c3 : w_tr (σ 71 2) 5 x 0 = 1
      · obtain ⟨s', o, q⟩ := s_198a d σ x ⟨p0, p1⟩ 5 x 0 none (by omega) (by omega) c3 x1 (by omega) (by omega)
        rw [q, if_pos c3, e_198_22, if_neg (by omega)]
        by_cases c4 : σ 71 43 = 10
        · rw [if_pos c4, if_pos c4, e_150_0, Option.bind_some, e_198_88]
        · have w := s_198c d σ (fun i => w_dgt i.toNat x) (σ 71 43) rfl r0 (by omega) (some (.inl x)) (some (.inl s')) 5 x 0 (by omega) (by omega) x1 (by omega) (by omega) (fun i => by
            show w_dgt (0 + (i : Int)).toNat x = _
            rw [show (0 + (i : Int)).toNat = i by omega])
          rw [z_rw_zero] at w
          rw [if_neg c4, if_neg c4, w, Int.zero_add]
      · rw [if_neg c3]
        exact s_198b d σ x ⟨p0, p1⟩ 5 x 0 _ (by omega) (by omega) c3 x1 (by omega) (by omega)
    · have c3 : ¬ w_tr (σ 71 2) 5 x 0 = 1 := by
        intro q
        have w := w_tr_lt _ 5 x 0 (by omega) q
        omega
      rw [if_neg c2, if_neg c3, e_150_0, Option.bind_some, e_198_17]
  · rw [if_pos (by omega), if_neg c, e_150_0, Option.bind_some, e_198_17]
def zBTr (c rs ro st : Int → Int) (np r : Int) : Prop := 0 ≤ rs r ∧ rs r ≤ 5 ∧ 0 ≤ c (6 * r + 5) ∧ c (6 * r + 5) < 4096 ∧ 0 ≤ st r ∧ st r < 32 ∧ (∀ i, rs r ≤ i → i < 5 → c (6 * r + i) = -1) ∧ (∀ i, 0 ≤ i → i < rs r → c (6 * r + i) = ro (5 * r + i) ∧ 0 ≤ ro (5 * r + i) ∧ ro (5 * r + i) < np ∧ z_b (c (6 * r + 5)) (ro (5 * r + i)) = z_b (st r) i ∧ ∀ j, 0 ≤ j → j < i → ro (5 * r + j) ≠ ro (5 * r + i))
theorem w_BTr {c c' rs rs' ro ro' st st' : Int → Int} {np r : Int} (e1 : ∀ i, 0 ≤ i → i < 6 → c' (6 * r + i) = c (6 * r + i)) (e2 : rs' r = rs r) (e3 : ∀ i, 0 ≤ i → i < 5 → ro' (5 * r + i) = ro (5 * r + i)) (e4 : st' r = st r) (h : zBTr c rs ro st np r) : zBTr c' rs' ro' st' np r := by
  obtain ⟨h1, h2, h3, h4, h5, h6, h7, h8⟩ := h
  have e5 := e1 5 (by omega) (by omega)
  refine ⟨by omega, by omega, by omega, by omega, by omega, by omega, fun i i0 i1 => ?_, fun i i0 i1 => ?_⟩
  · rw [e1 i (by omega) (by omega)]
    exact h7 i (by omega) i1
  · have q := h8 i i0 (by omega)
    rw [e1 i i0 (by omega), e3 i i0 (by omega), e5, e4]
    refine ⟨q.1, q.2.1, q.2.2.1, q.2.2.2.1, fun j j0 j1 => ?_⟩
    rw [e3 j j0 (by omega)]
    exact q.2.2.2.2 j j0 j1
theorem r_res_at (x j : Int) (h0 : 0 ≤ j) (h1 : j < 5) : r_res x j = w_dgt j.toNat x := by
  obtain ⟨n, rfl⟩ := Int.eq_ofNat_of_zero_le h0
  exact r_res_in x n (by omega)
/-- the new row -/
theorem w_BTn (x np N : Int) (x0 : 0 ≤ x) (hnp : np ≤ 12) (h : w_tr np 5 x 0 = 1) {c rs ro st : Int → Int} (e1 : ∀ i, 0 ≤ i → i < 6 → c (6 * N + i) = r_res x i) (e2 : rs N = w_sz 5 x) (e3 : ∀ i, 0 ≤ i → i < w_sz 5 x → ro (5 * N + i) = w_dgt i.toNat x) (e4 : st N = 0) : zBTr c rs ro st np N := by
  have z := w_sz_rng 5 x
  have dg := w_tr_dgt np hnp 5 x 0 x0 (by omega) (by omega) h
  have e5 := e1 5 (by omega) (by omega)
  rw [r_res_out _ _ rfl] at e5
  refine ⟨by omega, by omega, by omega, by omega, by omega, by omega, fun i i0 i1 => ?_, fun i i0 i1 => ?_⟩
  · rw [e1 i (by omega) (by omega), r_res_at _ _ (by omega) i1]
    exact w_dgt_out 5 _ x (by omega) (by omega)
  · have q := dg i.toNat (by omega)
    rw [e1 i i0 (by omega), r_res_at _ _ i0 (by omega), e3 i i0 (by omega), e5, e4, w_zb0 _ q.1 (by omega), w_zb0 _ i0 (by omega)]
    refine ⟨rfl, q.1, q.2.1, rfl, fun j j0 j1 => ?_⟩
    rw [e3 j j0 (by omega)]
    exact q.2.2.2 j.toNat (by omega)
theorem w_subl (a b : Int) : a + b - a = b := by omega
