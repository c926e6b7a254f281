theorem w_1440 {x : Int} (h : 0 ≤ x) (h2 : x ≤ 28799) : z_wrap (Int.tdiv x 1440) = x / 1440 ∧ Int.tmod x 1440 = x % 1440 := by
  rw [Int.tdiv_eq_ediv_of_nonneg h, Int.tmod_eq_emod_of_nonneg h, z_wid (by omega) (by omega)]
  exact ⟨rfl, rfl⟩
theorem w_of_01 (k o : Int) : w_of k o = 0 ∨ w_of k o = 1 := by
  unfold w_of
  repeat' split
  all_goals first | exact Or.inl rfl | exact Or.inr rfl
def w_inf (σ : Nat → Int → Int) (a r : Int) : Prop := σ 92 r ≤ a ∧ (σ 93 r = -1 ∨ a < σ 93 r)
def w_fits (σ : Nat → Int → Int) (m r : Int) : Prop := (σ 90 (2 * r) ≤ m / 1440 ∧ m / 1440 ≤ σ 90 (2 * r + 1)) ∧ (σ 91 (2 * r) ≤ m % 1440 ∧ m % 1440 ≤ σ 91 (2 * r + 1))
def w_fit (σ : Nat → Int → Int) (k z m a r : Int) : Prop := σ 89 r = z ∧ w_of k (σ 88 r) = 1 ∧ w_inf σ a r ∧ w_fits σ m r
noncomputable def w_dec (σ : Nat → Int → Int) (k z m a : Int) : Nat → Int
  | 0 => -1
  | n + 1 => @ite _ (w_fit σ k z m a n) (Classical.propDecidable _) (n : Int) (w_dec σ k z m a n)
theorem w_dec_pos {σ : Nat → Int → Int} {k z m a : Int} {n : Nat} (h : w_fit σ k z m a n) : w_dec σ k z m a (n + 1) = n := by unfold w_dec; rw [if_pos h]
theorem w_dec_neg {σ : Nat → Int → Int} {k z m a : Int} {n : Nat} (h : ¬ w_fit σ k z m a n) : w_dec σ k z m a (n + 1) = w_dec σ k z m a n := by rw [w_dec, if_neg h]
theorem w_dec_rng (σ : Nat → Int → Int) (k z m a : Int) : ∀ n : Nat, -1 ≤ w_dec σ k z m a n ∧ w_dec σ k z m a n < n
  | 0 => by unfold w_dec; omega
  | n + 1 => by
    have q := w_dec_rng σ k z m a n
    by_cases c : w_fit σ k z m a n
    · rw [w_dec_pos c]; omega
    · rw [w_dec_neg c]; omega
theorem s_31 (d : Nat) (σ : Nat → Int → Int) (r a : Int) (hw : σ 10 0 = 9) (hR : zBR (σ 10 3) (σ 11) (σ 71 21) (σ 87) (σ 88) (σ 89) (σ 90) (σ 91) (σ 92) (σ 93)) (h0 : 0 ≤ r) (h1 : r < σ 71 21) :
    (w_inf σ a r → zE (d + 1) 31 0 [some (.inr 14), some (.inl r), some (.inl a), none] [] (zS, σ) = some (.inl 1, (zS, σ))) ∧ (¬ w_inf σ a r → zE (d + 1) 31 0 [some (.inr 14), some (.inl r), some (.inl a), none] [] (zS, σ) = some (.inl 0, (zS, σ))) := by
  have q := hR.2.2.2 r h0 h1
  have e := hR.1
  have e2 := hR.2.2.1
  unfold w_inf
  constructor
  · intro c
    rw [e_31_0, s_get_10 _ _ _ _ hw (by omega), if_pos (by omega), Option.bind_some, e_31_7, s_get_10 _ _ _ _ hw (by omega), if_pos (by omega), Option.bind_some, e_31_15, if_neg (by omega)]
    repeat' split
    all_goals first | rfl | omega
  · intro c
    rw [e_31_0, s_get_10 _ _ _ _ hw (by omega), if_pos (by omega), Option.bind_some, e_31_7, s_get_10 _ _ _ _ hw (by omega), if_pos (by omega), Option.bind_some, e_31_15]
    repeat' split
    all_goals first | rfl | omega
theorem s_32 (d : Nat) (σ : Nat → Int → Int) (r m : Int) (hm : 0 ≤ m ∧ m ≤ 28799) (hw : σ 10 0 = 9) (hR : zBR (σ 10 3) (σ 11) (σ 71 21) (σ 87) (σ 88) (σ 89) (σ 90) (σ 91) (σ 92) (σ 93)) (h0 : 0 ≤ r) (h1 : r < σ 71 21) :
    (w_fits σ m r → zE (d + 1) 32 0 [some (.inr 14), some (.inl r), some (.inl m), none, none] [] (zS, σ) = some (.inl 1, (zS, σ))) ∧ (¬ w_fits σ m r → zE (d + 1) 32 0 [some (.inr 14), some (.inl r), some (.inl m), none, none] [] (zS, σ) = some (.inl 0, (zS, σ))) := by
  have q := hR.2.2.2 r h0 h1
  have e := hR.1
  have e2 := hR.2.2.1
  have w := w_1440 hm.1 hm.2
  unfold w_fits
  constructor
  · intro c
    rw [e_32_0, s_get_10 _ _ _ _ hw (by omega), if_pos (by omega), Option.bind_some, e_32_20, s_get_10 _ _ _ _ hw (by omega), if_pos (by omega), Option.bind_some, e_32_26, s_133, if_pos (by omega), Option.bind_some, e_32_29, if_neg (by decide), s_get_10 _ _ _ _ hw (by omega), if_pos (by omega), Option.bind_some, e_32_40, s_get_10 _ _ _ _ hw (by omega), if_pos (by omega), Option.bind_some, e_32_47, s_133, if_pos (by omega), Option.bind_some, e_32_50, if_neg (by decide)]
  · intro c
    rw [e_32_0, s_get_10 _ _ _ _ hw (by omega), if_pos (by omega), Option.bind_some, e_32_20, s_get_10 _ _ _ _ hw (by omega), if_pos (by omega), Option.bind_some, e_32_26, s_133, Option.bind_some, e_32_29]
    by_cases c2 : σ 90 (2 * r) ≤ m / 1440 ∧ m / 1440 ≤ σ 90 (2 * r + 1)
    · rw [if_neg (by omega), s_get_10 _ _ _ _ hw (by omega), if_pos (by omega), Option.bind_some, e_32_40, s_get_10 _ _ _ _ hw (by omega), if_pos (by omega), Option.bind_some, e_32_47, s_133, if_neg (by omega), Option.bind_some, e_32_50, if_pos rfl]
    · rw [if_pos (by omega)]
theorem s_30l (d : Nat) (σ : Nat → Int → Int) (o1 : Option (Int ⊕ Nat)) (k z m a : Int) (hk : 0 ≤ k ∧ k ≤ 5) (hm : 0 ≤ m ∧ m ≤ 28799) (hw : σ 10 0 = 9) (hR : zBR (σ 10 3) (σ 11) (σ 71 21) (σ 87) (σ 88) (σ 89) (σ 90) (σ 91) (σ 92) (σ 93)) :
    ∀ n : Nat, (n : Int) ≤ σ 71 21 → zE (d + 3) 30 22 [some (.inr 5), o1, some (.inl z), some (.inl m), some (.inl a), some (.inl k), some (.inl ((n : Int) - 1))] [] (zS, σ) = some (.inl (w_dec σ k z m a n), (zS, σ))
  | 0, hn => by rw [e_30_22, if_pos (by omega)]; rfl
  | n + 1, hn => by
    have q := hR.2.2.2 n (by omega) (by omega)
    have e := hR.1
    have e2 := hR.2.2.1
    have ih := s_30l d σ o1 k z m a hk hm hw hR n (by omega)
    have x : ((n + 1 : Nat) : Int) - 1 = n := by omega
    have y : z_wrap ((n : Int) + -1) = (n : Int) - 1 := by rw [z_wid (by omega) (by omega)]; omega
    have k01 := w_of_01 k (σ 88 n)
    rw [x, e_30_22, if_neg (by omega), s_get_10 _ _ _ _ hw (by omega), if_pos (by omega), Option.bind_some, e_30_37]
    by_cases c1 : σ 89 n = z
    · rw [if_pos (by omega), s_get_10 _ _ _ _ hw (by omega), if_pos (by omega), Option.bind_some, e_30_56, s_39 _ _ _ _ hk.1 hk.2, Option.bind_some, e_30_59, q.2.1]
      by_cases c2 : w_of k (σ 88 n) = 1
      · rw [if_neg (by omega)]
        by_cases c3 : w_inf σ a n
        · rw [(s_31 _ _ _ _ hw hR (by omega) (by omega)).1 c3, Option.bind_some, e_30_76, if_neg (by decide)]
          by_cases c4 : w_fits σ m n
          · rw [(s_32 _ _ _ _ hm hw hR (by omega) (by omega)).1 c4, Option.bind_some, e_30_89, if_neg (by decide), w_dec_pos ⟨c1, c2, c3, c4⟩]
          · rw [(s_32 _ _ _ _ hm hw hR (by omega) (by omega)).2 c4, Option.bind_some, e_30_89, if_pos rfl, y, ih, w_dec_neg (fun f => c4 f.2.2.2)]
        · rw [(s_31 _ _ _ _ hw hR (by omega) (by omega)).2 c3, Option.bind_some, e_30_76, if_pos rfl, y, ih, w_dec_neg (fun f => c3 f.2.2.1)]
      · rw [if_pos (by omega), y, ih, w_dec_neg (fun f => c2 f.2.1)]
    · rw [if_neg (by omega), y, ih, w_dec_neg (fun f => c1 f.1)]
theorem s_170l (d : Nat) (σ : Nat → Int → Int) (p z m a : Int) (hp : 0 ≤ p ∧ p < 20) (hk : 0 ≤ σ 81 p ∧ σ 81 p ≤ 5) (hm : 0 ≤ m ∧ m ≤ 28799) (h12 : σ 71 21 ≤ 12) :
    ∀ (n : Nat) (o6 : Option (Int ⊕ Nat)), (n : Int) ≤ σ 71 21 → zE (d + 3) 170 8 [some (.inr 75), some (.inl p), some (.inl z), some (.inl m), some (.inl a), some (.inl ((n : Int) - 1)), o6] [] (zS, σ) = some (.inl (w_dec σ (σ 81 p) z m a n), (zS, σ))
  | 0, o6, hn => by rw [e_170_8, if_pos (by omega)]; rfl
  | n + 1, o6, hn => by
    have ih := fun o6 => s_170l d σ p z m a hp hk hm h12 n o6 (by omega)
    have x : ((n + 1 : Nat) : Int) - 1 = n := by omega
    have y : z_wrap ((n : Int) + -1) = (n : Int) - 1 := by rw [z_wid (by omega) (by omega)]; omega
    have z1 : z_wrap (2 * (n : Int)) = 2 * (n : Int) := by rw [z_wid (by omega) (by omega)]
    have z2 : z_wrap (2 * (n : Int) + 1) = 2 * (n : Int) + 1 := by rw [z_wid (by omega) (by omega)]
    have k01 := w_of_01 (σ 81 p) (σ 88 n)
    have w := w_1440 hm.1 hm.2
    rw [x, e_170_8, y, if_neg (by omega)]
    by_cases c1 : σ 92 n ≤ a
    · by_cases c0 : σ 93 n = -1 ∨ a < σ 93 n
      · by_cases c2 : σ 89 n = z
        · have g : zE (d + 3) 170 75 [some (.inr 75), some (.inl p), some (.inl z), some (.inl m), some (.inl a), some (.inl (n : Int)), o6] [.inl (w_of (σ 81 p) (σ 88 n))] (zS, σ) = some (.inl (w_dec σ (σ 81 p) z m a (n + 1)), (zS, σ)) := by
            rw [e_170_75, z1, z2, y]
            by_cases c3 : w_of (σ 81 p) (σ 88 n) = 1
            · rw [if_neg (by omega), if_pos (by omega), if_pos (by omega), s_149, w.1, Option.bind_some, e_170_118, z1, z2, y]
              by_cases c4 : σ 90 (2 * n) ≤ m / 1440 ∧ m / 1440 ≤ σ 90 (2 * n + 1)
              · rw [if_pos c4, if_neg (by decide), if_pos (by omega), if_pos (by omega), s_149, w.2, Option.bind_some, e_170_149, y]
                by_cases c5 : σ 91 (2 * n) ≤ m % 1440 ∧ m % 1440 ≤ σ 91 (2 * n + 1)
                · rw [if_pos c5, if_neg (by decide), w_dec_pos ⟨c2, c3, ⟨c1, c0⟩, c4, c5⟩]
                · rw [if_neg c5, if_pos rfl, ih, w_dec_neg (fun f => c5 f.2.2.2.2)]
              · rw [if_neg c4, if_pos rfl, ih, w_dec_neg (fun f => c4 f.2.2.2.1)]
            · rw [if_pos (by omega), ih, w_dec_neg (fun f => c3 f.2.1)]
          rw [if_pos (by omega), if_neg (by omega), if_pos (by omega)]
          by_cases c6 : σ 93 n = -1
          · rw [if_pos c6, if_pos (by omega), if_pos c2, if_pos (by omega), if_pos (by omega), s_168 _ _ _ _ hk.1 hk.2, Option.bind_some, g]
          · rw [if_neg c6, if_pos (by omega), if_pos (by omega), if_pos (by omega), if_pos c2, if_pos (by omega), if_pos (by omega), s_168 _ _ _ _ hk.1 hk.2, Option.bind_some, g]
        · have f : w_dec σ (σ 81 p) z m a (n + 1) = w_dec σ (σ 81 p) z m a n := w_dec_neg (fun f => c2 f.1)
          rw [if_pos (by omega), if_neg (by omega), if_pos (by omega), f]
          by_cases c6 : σ 93 n = -1
          · rw [if_pos c6, if_pos (by omega), if_neg c2, ih]
          · rw [if_neg c6, if_pos (by omega), if_pos (by omega), if_pos (by omega), if_neg c2, ih]
      · rw [if_pos (by omega), if_neg (by omega), if_pos (by omega), if_neg (by omega), if_pos (by omega), if_neg (by omega), ih, w_dec_neg (fun f => c0 f.2.2.1.2)]
    · rw [if_pos (by omega), if_pos (by omega), ih, w_dec_neg (fun f => c1 f.2.2.1.1)]
