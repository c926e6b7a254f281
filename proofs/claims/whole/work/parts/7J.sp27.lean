theorem w_fold_inv {α : Type} (P : α → Prop) (f : Int → α → α) : ∀ (m : Nat) (x : Int) (s : α), P s → (∀ y s, x ≤ y → y < x + m → P s → P (f y s)) → P (w_fold f m x s)
  | 0, x, s, h, _ => h
  | m + 1, x, s, h, hf => w_fold_inv P f m (x + 1) (f x s) (hf x s (Int.le_refl _) (by omega) h) (fun y s a b => hf y s (by omega) (by omega))
def w_G (n : Nat) (st : Int × (Int → Int) × (Int → Int)) : Prop := st.1 ≠ -1 → ∀ i : Nat, i < n → 360 ≤ st.2.2 i ∧ st.2.2 i ≤ 1440
theorem w_pl_good (n : Nat) (ha le wh be li : Int → Int) (U : w_DU n ha le wh be li) : ∀ (k p : Nat) (o b : Int → Int) (e : Int) (st : Int × (Int → Int) × (Int → Int)), p + k = n → w_OK n le o b p → w_G n st → w_G n (w_pl n ha le wh be li k p o b e st)
  | 0, p, o, b, e, st, hk, K, hG => by
    have e1 : p = n := by omega
    subst e1
    unfold w_pl
    split
    · intro _ i hi
      obtain ⟨k, k1, k2⟩ := w_surj p o (fun k hk => ⟨(K k hk).1, (K k hk).2.1, (K k hk).2.2.2.2⟩) i (by omega) (by omega)
      have q := K k k1
      rw [k2] at q
      have u := U.2 i hi
      show 360 ≤ b i ∧ b i ≤ 1440
      omega
    · exact hG
  | k + 1, p, o, b, e, st, hk, K, hG => by
    unfold w_pl
    apply w_fold_inv (w_G n) _ _ _ _ hG
    intro y s y0 y1 hs
    obtain ⟨u, hu⟩ := Int.eq_ofNat_of_zero_le y0
    subst hu
    show w_G n (w_sel (w_has o p (u : Int)) s _)
    by_cases c : w_has o p (u : Int)
    · rw [w_sel_pos c]
      exact hs
    · rw [w_sel_neg c]
      by_cases g : w_beg ha le wh be li o b p u = -1
      · rw [if_pos g]
        exact hs
      · rw [if_neg g]
        have br : 360 ≤ w_beg ha le wh be li o b p u ∧ w_beg ha le wh be li o b p u + le u ≤ 1440 := by
          rcases w_beg_rng ha le wh be li o b p u with w | w
          · exact absurd w g
          · exact w
        exact w_pl_good n ha le wh be li U k (p + 1) _ _ _ s (by omega) (w_OK_up K u _ (by omega) c br.1 br.2) hs
/-- buses that are busy at a minute -/
def w_bf (b ha tp : Int → Int) (t o : Int) : Int := if b o - 20 - (10 + 5 * ha o) ≤ t ∧ t ≤ b o - 20 + (10 + 5 * ha o) - 1 then tp o else 0
def w_lv (b ha : Int → Int) (u : Int) : Int := b u - 20 - (10 + 5 * ha u)
def w_mx (g : Int → Int) : Nat → Int → Int → Int
  | 0, _, a => a
  | m + 1, u, a => w_mx g m (u + 1) (if a < g u then g u else a)
theorem s_23 (d : Nat) (n : Nat) (ha le wh bh rs li : Int → Int) (hn : n ≤ 6) (σ : Nat → Int → Int) (T : w_TU n ha le wh bh rs li σ) (u : Nat) (hu : u < n) (h0 : 0 ≤ ha u) (h1 : ha u ≤ 3) : zE (d + 1) 23 0 [some (.inr 16), some (.inl u)] [] (zS, σ) = some (.inl (10 + 5 * ha u), (zS, σ)) := by
  obtain ⟨t0, t3, tt⟩ := T
  have a := (tt u hu).1
  rw [e_23_0, s_get_12 _ _ _ _ t0 (by omega), if_pos (by omega), Option.bind_some, e_23_9, Int.add_zero, a, z_wid (x := 5 * ha u) (by omega) (by omega), z_wid (by omega) (by omega)]
theorem s_22 (d : Nat) (n : Nat) (ha le wh bh rs li b : Int → Int) (hn : n ≤ 6) (σ : Nat → Int → Int) (T : w_TU n ha le wh bh rs li σ) (e9 : σ 39 9 = (n : Int)) (e10 : σ 39 10 ≠ -1) (u : Nat) (hu : u < n) (h0 : 0 ≤ ha u) (h1 : ha u ≤ 3) (eb : σ 48 u = b u) (b0 : 360 ≤ b u) (b1 : b u ≤ 1440) : zE (d + 2) 22 0 [some (.inr 16), some (.inr 43), some (.inl u)] [] (zS, σ) = some (.inl (w_lv b ha u), (zS, σ)) := by
  unfold w_lv
  rw [e_22_0, e_61_0, if_neg e10, if_neg (by omega), e9, if_pos (by omega), if_pos (by omega), Option.bind_some, e_22_5, s_23 d n ha le wh bh rs li hn σ T u hu h0 h1, Option.bind_some, e_22_13, eb, z_wid (x := b u - 20) (by omega) (by omega), z_wid (by omega) (by omega)]
theorem s_21l (d : Nat) (n : Nat) (ha le wh bh rs li b : Int → Int) (hn : n ≤ 6) (σ : Nat → Int → Int) (T : w_TU n ha le wh bh rs li σ) (e9 : σ 39 9 = (n : Int)) (e10 : σ 39 10 ≠ -1) (hh : ∀ u : Nat, u < n → 0 ≤ ha u ∧ ha u ≤ 3 ∧ 0 ≤ wh u ∧ wh u < 4096 ∧ σ 48 u = b u ∧ 360 ≤ b u ∧ b u ≤ 1440) (s1 : 1 ≤ σ 1 10) (s2 : σ 1 10 ≤ 12) (t : Int) : ∀ (m k : Nat) (c : Int) (o5 o6 : Option (Int ⊕ Nat)), k + m = n → 0 ≤ c → c ≤ 23 * k → zE (d + 3) 21 5 [some (.inr 5), some (.inr 43), some (.inl t), some (.inl c), some (.inl k), o5, o6] [] (zS, σ) = some (.inl (c + w_sumf (w_bf b ha (w_tp wh (σ 1 10)) t) m k), (zS, σ))
  | 0, k, c, o5, o6, h, c0, c1 => by
    have t3 := T.2.1
    rw [e_21_5, e_85_0_5, Option.bind_some, e_21_14, t3, if_neg (by omega), w_sumf0, Int.add_zero]
  | m + 1, k, c, o5, o6, h, c0, c1 => by
    have t3 := T.2.1
    obtain ⟨h1, h2, h3, h4, h5, h6, h7⟩ := hh k (by omega)
    have tr := w_tp_rng wh (σ 1 10) k s1 s2
    have s : w_sumf (w_bf b ha (w_tp wh (σ 1 10)) t) (m + 1) k = w_bf b ha (w_tp wh (σ 1 10)) t k + w_sumf (w_bf b ha (w_tp wh (σ 1 10)) t) m ((k : Int) + 1) := rfl
    have lv : w_lv b ha k = b k - 20 - (10 + 5 * ha k) := rfl
    have ih : ∀ (c : Int) (o5 o6 : Option (Int ⊕ Nat)), 0 ≤ c → c ≤ 23 * ((k : Int) + 1) → zE (d + 3) 21 5 [some (.inr 5), some (.inr 43), some (.inl t), some (.inl c), some (.inl ((k : Int) + 1)), o5, o6] [] (zS, σ) = some (.inl (c + w_sumf (w_bf b ha (w_tp wh (σ 1 10)) t) m ((k : Int) + 1)), (zS, σ)) := fun c o5 o6 a0 a1 => s_21l d n ha le wh bh rs li b hn σ T e9 e10 hh s1 s2 t m (k + 1) c o5 o6 (by omega) a0 (by omega)
    rw [e_21_5, e_85_0_5, Option.bind_some, e_21_14, t3, if_pos (by omega), s_22 d n ha le wh bh rs li b hn σ T e9 e10 k (by omega) h1 h2 h5 h6 h7, Option.bind_some, e_21_27, s_23 (d + 1) n ha le wh bh rs li hn σ T k (by omega) h1 h2, Option.bind_some, e_21_41, z_wid (x := (k : Int) + 1) (by omega) (by omega), z_wid (x := 2 * (10 + 5 * ha k)) (by omega) (by omega), z_wid (x := w_lv b ha k + 2 * (10 + 5 * ha k)) (by omega) (by omega), s]
    by_cases c1 : t < w_lv b ha k
    · have f : w_bf b ha (w_tp wh (σ 1 10)) t k = 0 := if_neg (by omega)
      rw [if_pos c1, ih c _ _ c0 (by omega), f, Int.zero_add]
    · rw [if_neg c1]
      by_cases c2 : t < w_lv b ha k + 2 * (10 + 5 * ha k)
      · have f : w_bf b ha (w_tp wh (σ 1 10)) t k = w_tp wh (σ 1 10) k := if_pos (by omega)
        rw [if_pos c2, s_24 (d + 1) n ha le wh bh rs li hn σ T k (by omega) h3 h4 s1, Option.bind_some, e_21_64, z_wid (x := c + w_tp wh (σ 1 10) k) (by omega) (by omega), z_wid (x := (k : Int) + 1) (by omega) (by omega), ih _ _ _ (by omega) (by omega), f, Int.add_assoc]
      · have f : w_bf b ha (w_tp wh (σ 1 10)) t k = 0 := if_neg (by omega)
        rw [if_neg c2, ih c _ _ c0 (by omega), f, Int.zero_add]
theorem s_20l (d : Nat) (n : Nat) (ha le wh bh rs li b : Int → Int) (hn : n ≤ 6) (σ : Nat → Int → Int) (T : w_TU n ha le wh bh rs li σ) (e9 : σ 39 9 = (n : Int)) (e10 : σ 39 10 ≠ -1) (hh : ∀ u : Nat, u < n → 0 ≤ ha u ∧ ha u ≤ 3 ∧ 0 ≤ wh u ∧ wh u < 4096 ∧ σ 48 u = b u ∧ 360 ≤ b u ∧ b u ≤ 1440) (s1 : 1 ≤ σ 1 10) (s2 : σ 1 10 ≤ 12) : ∀ (m k : Nat) (a : Int), k + m = n → zE (d + 4) 20 14 [some (.inr 5), some (.inr 43), some (.inl a), some (.inl k)] [] (zS, σ) = some (.inl (w_mx (fun u => w_sumf (w_bf b ha (w_tp wh (σ 1 10)) (w_lv b ha u)) n 0) m k a), (zS, σ))
  | 0, k, a, h => by
    have t3 := T.2.1
    rw [e_20_14, e_85_0_5, Option.bind_some, e_20_22, t3, if_neg (by omega)]
    rfl
  | m + 1, k, a, h => by
    have t3 := T.2.1
    obtain ⟨h1, h2, h3, h4, h5, h6, h7⟩ := hh k (by omega)
    have q : zE (d + 3) 21 5 [some (.inr 5), some (.inr 43), some (.inl (w_lv b ha k)), some (.inl 0), some (.inl 0), none, none] [] (zS, σ) = some (.inl (0 + w_sumf (w_bf b ha (w_tp wh (σ 1 10)) (w_lv b ha k)) n 0), (zS, σ)) := s_21l d n ha le wh bh rs li b hn σ T e9 e10 hh s1 s2 (w_lv b ha k) n 0 0 none none (by omega) (by omega) (by omega)
    have ih : ∀ a : Int, zE (d + 4) 20 14 [some (.inr 5), some (.inr 43), some (.inl a), some (.inl ((k : Int) + 1))] [] (zS, σ) = some (.inl (w_mx (fun u => w_sumf (w_bf b ha (w_tp wh (σ 1 10)) (w_lv b ha u)) n 0) m ((k : Int) + 1) a), (zS, σ)) := fun a => s_20l d n ha le wh bh rs li b hn σ T e9 e10 hh s1 s2 m (k + 1) a (by omega)
    have mx : w_mx (fun u => w_sumf (w_bf b ha (w_tp wh (σ 1 10)) (w_lv b ha u)) n 0) (m + 1) k a = w_mx (fun u => w_sumf (w_bf b ha (w_tp wh (σ 1 10)) (w_lv b ha u)) n 0) m ((k : Int) + 1) (if a < w_sumf (w_bf b ha (w_tp wh (σ 1 10)) (w_lv b ha k)) n 0 then w_sumf (w_bf b ha (w_tp wh (σ 1 10)) (w_lv b ha k)) n 0 else a) := rfl
    rw [e_20_14, e_85_0_5, Option.bind_some, e_20_22, t3, if_pos (by omega), s_22 (d + 1) n ha le wh bh rs li b hn σ T e9 e10 k (by omega) h1 h2 h5 h6 h7, Option.bind_some, e_20_37, e_21_0, q, Int.zero_add, Option.bind_some, e_20_40, e_235_0, mx]
    by_cases c : a < w_sumf (w_bf b ha (w_tp wh (σ 1 10)) (w_lv b ha k)) n 0
    · rw [if_pos c, if_pos c, Option.bind_some, e_20_43, z_wid (x := (k : Int) + 1) (by omega) (by omega), ih]
    · rw [if_neg c, if_neg c, Option.bind_some, e_20_43, z_wid (x := (k : Int) + 1) (by omega) (by omega), ih]
theorem s_191i (d : Nat) (n : Nat) (b : Int → Int) (hn : n ≤ 6) (σ : Nat → Int → Int) (e29 : σ 71 29 = (n : Int)) (hh : ∀ u : Nat, u < n → 0 ≤ σ 94 u ∧ σ 94 u ≤ 3 ∧ 0 ≤ σ 96 u ∧ σ 96 u < 4096 ∧ σ 110 u = b u ∧ 360 ≤ b u ∧ b u ≤ 1440) (s1 : 1 ≤ σ 71 35) (s2 : σ 71 35 ≤ 12) (x1 x2 t : Int) : ∀ (m k : Nat) (c : Int) (o6 : Option (Int ⊕ Nat)), k + m = n → 0 ≤ c → c ≤ 23 * k → ∃ p6 : Option (Int ⊕ Nat), zE (d + 1) 191 53 [some (.inr 75), some (.inl x1), some (.inl x2), some (.inl t), some (.inl c), some (.inl k), o6] [] (zS, σ) = zE (d + 1) 191 53 [some (.inr 75), some (.inl x1), some (.inl x2), some (.inl t), some (.inl (c + w_sumf (w_bf b (σ 94) (w_tp (σ 96) (σ 71 35)) t) m k)), some (.inl n), p6] [] (zS, σ)
  | 0, k, c, o6, h, c0, c1 => ⟨o6, by rw [show k = n by omega, w_sumf0, Int.add_zero]⟩
  | m + 1, k, c, o6, h, c0, c1 => by
    obtain ⟨h1, h2, h3, h4, h5, h6, h7⟩ := hh k (by omega)
    have k6 : 0 ≤ ((k : Nat) : Int) ∧ ((k : Nat) : Int) < 6 := by omega
    have tr := w_tp_rng (σ 96) (σ 71 35) k s1 s2
    have s : w_sumf (w_bf b (σ 94) (w_tp (σ 96) (σ 71 35)) t) (m + 1) k = w_bf b (σ 94) (w_tp (σ 96) (σ 71 35)) t k + w_sumf (w_bf b (σ 94) (w_tp (σ 96) (σ 71 35)) t) m ((k : Int) + 1) := rfl
    have ih : ∀ (c : Int) (o6 : Option (Int ⊕ Nat)), 0 ≤ c → c ≤ 23 * ((k : Int) + 1) → ∃ p6 : Option (Int ⊕ Nat), zE (d + 1) 191 53 [some (.inr 75), some (.inl x1), some (.inl x2), some (.inl t), some (.inl c), some (.inl ((k : Int) + 1)), o6] [] (zS, σ) = zE (d + 1) 191 53 [some (.inr 75), some (.inl x1), some (.inl x2), some (.inl t), some (.inl (c + w_sumf (w_bf b (σ 94) (w_tp (σ 96) (σ 71 35)) t) m ((k : Int) + 1))), some (.inl n), p6] [] (zS, σ) := fun c o6 a0 a1 => s_191i d n b hn σ e29 hh s1 s2 x1 x2 t m (k + 1) c o6 (by omega) a0 (by omega)
    rw [e_191_53, e29, if_pos (by omega), if_pos k6, if_pos k6, if_pos k6, h5, z_wid (x := b k - 20) (by omega) (by omega), z_wid (x := 5 * σ 94 k) (by omega) (by omega), z_wid (x := 10 + 5 * σ 94 k) (by omega) (by omega), z_wid (x := b k - 20 - (10 + 5 * σ 94 k)) (by omega) (by omega), z_wid (x := b k - 20 + (10 + 5 * σ 94 k)) (by omega) (by omega), z_wid (x := b k - 20 + (10 + 5 * σ 94 k) - 1) (by omega) (by omega), s_149, s]
    by_cases g : b k - 20 - (10 + 5 * σ 94 k) ≤ t ∧ t ≤ b k - 20 + (10 + 5 * σ 94 k) - 1
    · have f : w_bf b (σ 94) (w_tp (σ 96) (σ 71 35)) t k = w_tp (σ 96) (σ 71 35) k := if_pos g
      obtain ⟨p6, w⟩ := ih (c + w_tp (σ 96) (σ 71 35) k) (some (.inl (10 + 5 * σ 94 k))) (by omega) (by omega)
      rw [if_pos g, Option.bind_some, e_191_110, if_neg (by decide), s_190 d σ k (by omega) h3 h4 s1, Option.bind_some, e_191_119, z_wid (x := c + w_tp (σ 96) (σ 71 35) k) (by omega) (by omega), z_wid (x := (k : Int) + 1) (by omega) (by omega), w, f, Int.add_assoc]
      exact ⟨p6, rfl⟩
    · have f : w_bf b (σ 94) (w_tp (σ 96) (σ 71 35)) t k = 0 := if_neg g
      obtain ⟨p6, w⟩ := ih c (some (.inl (10 + 5 * σ 94 k))) (by omega) (by omega)
      rw [if_neg g, Option.bind_some, e_191_110, if_pos rfl, Int.add_zero, z_wid (x := c) (by omega) (by omega), z_wid (x := (k : Int) + 1) (by omega) (by omega), w, f, Int.zero_add]
      exact ⟨p6, rfl⟩
theorem s_191l (d : Nat) (n : Nat) (b : Int → Int) (hn : n ≤ 6) (σ : Nat → Int → Int) (e29 : σ 71 29 = (n : Int)) (hh : ∀ u : Nat, u < n → 0 ≤ σ 94 u ∧ σ 94 u ≤ 3 ∧ 0 ≤ σ 96 u ∧ σ 96 u < 4096 ∧ σ 110 u = b u ∧ 360 ≤ b u ∧ b u ≤ 1440) (s1 : 1 ≤ σ 71 35) (s2 : σ 71 35 ≤ 12) : ∀ (m k : Nat) (a : Int) (o3 o4 o5 o6 : Option (Int ⊕ Nat)), k + m = n → zE (d + 1) 191 17 [some (.inr 75), some (.inl a), some (.inl k), o3, o4, o5, o6] [] (zS, σ) = some (.inl (w_mx (fun u => w_sumf (w_bf b (σ 94) (w_tp (σ 96) (σ 71 35)) (w_lv b (σ 94) u)) n 0) m k a), (zS, σ))
  | 0, k, a, o3, o4, o5, o6, h => by
    rw [e_191_17, e29, if_neg (by omega)]
    rfl
  | m + 1, k, a, o3, o4, o5, o6, h => by
    obtain ⟨h1, h2, h3, h4, h5, h6, h7⟩ := hh k (by omega)
    have k6 : 0 ≤ ((k : Nat) : Int) ∧ ((k : Nat) : Int) < 6 := by omega
    have lv : w_lv b (σ 94) k = b k - 20 - 10 - 5 * σ 94 k := by
      unfold w_lv
      omega
    have ih : ∀ (a : Int) (o3 o4 o5 o6 : Option (Int ⊕ Nat)), zE (d + 1) 191 17 [some (.inr 75), some (.inl a), some (.inl ((k : Int) + 1)), o3, o4, o5, o6] [] (zS, σ) = some (.inl (w_mx (fun u => w_sumf (w_bf b (σ 94) (w_tp (σ 96) (σ 71 35)) (w_lv b (σ 94) u)) n 0) m ((k : Int) + 1) a), (zS, σ)) := fun a o3 o4 o5 o6 => s_191l d n b hn σ e29 hh s1 s2 m (k + 1) a o3 o4 o5 o6 (by omega)
    have mx : w_mx (fun u => w_sumf (w_bf b (σ 94) (w_tp (σ 96) (σ 71 35)) (w_lv b (σ 94) u)) n 0) (m + 1) k a = w_mx (fun u => w_sumf (w_bf b (σ 94) (w_tp (σ 96) (σ 71 35)) (w_lv b (σ 94) u)) n 0) m ((k : Int) + 1) (if a < w_sumf (w_bf b (σ 94) (w_tp (σ 96) (σ 71 35)) (w_lv b (σ 94) k)) n 0 then w_sumf (w_bf b (σ 94) (w_tp (σ 96) (σ 71 35)) (w_lv b (σ 94) k)) n 0 else a) := rfl
    obtain ⟨p6, w⟩ := s_191i d n b hn σ e29 hh s1 s2 a k (w_lv b (σ 94) k) n 0 0 o6 (by omega) (by omega) (by omega)
    have w : zE (d + 1) 191 53 [some (.inr 75), some (.inl a), some (.inl (k : Int)), some (.inl (w_lv b (σ 94) k)), some (.inl 0), some (.inl 0), o6] [] (zS, σ) = zE (d + 1) 191 53 [some (.inr 75), some (.inl a), some (.inl (k : Int)), some (.inl (w_lv b (σ 94) k)), some (.inl (0 + w_sumf (w_bf b (σ 94) (w_tp (σ 96) (σ 71 35)) (w_lv b (σ 94) k)) n 0)), some (.inl n), p6] [] (zS, σ) := w
    rw [e_191_17, e29, if_pos (by omega), if_pos k6, if_pos k6, h5, z_wid (x := b k - 20) (by omega) (by omega), z_wid (x := b k - 20 - 10) (by omega) (by omega), z_wid (x := 5 * σ 94 k) (by omega) (by omega), z_wid (x := b k - 20 - 10 - 5 * σ 94 k) (by omega) (by omega), ← lv, w, Int.zero_add, e_191_53, e29, if_neg (by omega), z_wid (x := (k : Int) + 1) (by omega) (by omega), mx]
    by_cases c : a < w_sumf (w_bf b (σ 94) (w_tp (σ 96) (σ 71 35)) (w_lv b (σ 94) k)) n 0
    · rw [if_pos c, if_pos c, ih]
    · rw [if_neg c, if_neg c, ih]
