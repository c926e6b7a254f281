
theorem z_up_eq {σ : Nat → Int → Int} {k : Nat} {i v : Int} : z_up σ k i v k i = v := by unfold z_up; rw [if_pos ⟨rfl, rfl⟩]
theorem z_up_at (σ : Nat → Int → Int) (k : Nat) (i v : Int) (k' : Nat) (i' : Int) : z_up σ k i v k' i' = if k' = k ∧ i' = i then v else σ k' i' := rfl
theorem z_wid {x : Int} (h1 : -2147483648 ≤ x) (h2 : x < 2147483648) : z_wrap x = x := by unfold z_wrap; omega
/-- a row of a table written anew -/
def z_rw (σ : Nat → Int → Int) (a : Nat) (b w : Int) (f : Int → Int) : Nat → Int → Int := fun k i => if k = a ∧ b ≤ i ∧ i < b + w then f (i - b) else σ k i
theorem z_rw_ne {σ : Nat → Int → Int} {a k : Nat} {b w i : Int} {f : Int → Int} (h : k ≠ a) : z_rw σ a b w f k i = σ k i := by unfold z_rw; rw [if_neg (fun q => h q.1)]
theorem z_rw_out {σ : Nat → Int → Int} {a : Nat} {b w i : Int} {f : Int → Int} (h : i < b ∨ b + w ≤ i) : z_rw σ a b w f a i = σ a i := by unfold z_rw; rw [if_neg (fun q => by omega)]
theorem z_rw_in {σ : Nat → Int → Int} {a : Nat} {b w i : Int} {f : Int → Int} (h1 : b ≤ i) (h2 : i < b + w) : z_rw σ a b w f a i = f (i - b) := by unfold z_rw; rw [if_pos ⟨rfl, h1, h2⟩]
theorem z_rw_up {σ : Nat → Int → Int} {a : Nat} {b w j v : Int} {f : Int → Int} (h1 : 0 ≤ j) (h2 : j < w) : z_up (z_rw σ a b w f) a (b + j) v = z_rw σ a b w (fun c => if c = j then v else f c) := by
  funext k i
  unfold z_up z_rw
  by_cases hk : k = a
  · subst hk
    by_cases hi : i = b + j
    · subst hi
      rw [if_pos ⟨rfl, rfl⟩, if_pos ⟨rfl, by omega, by omega⟩]
      dsimp only
      rw [if_pos (by omega)]
    · rw [if_neg (fun q => hi q.2)]
      by_cases hr : b ≤ i ∧ i < b + w
      · rw [if_pos ⟨rfl, hr⟩, if_pos ⟨rfl, hr⟩]
        dsimp only
        rw [if_neg (by omega)]
      · rw [if_neg (fun q => hr q.2), if_neg (fun q => hr q.2)]
  · rw [if_neg (fun q => hk q.1), if_neg (fun q => hk q.1), if_neg (fun q => hk q.1)]
/-- one more zero at the end of a row of zeros -/
theorem z_rw_grow {σ : Nat → Int → Int} {a : Nat} {b j : Int} (h : 0 ≤ j) : z_up (z_rw σ a b j (fun _ => 0)) a (b + j) 0 = z_rw σ a b (j + 1) (fun _ => 0) := by
  funext k i
  unfold z_up z_rw
  by_cases hk : k = a
  · subst hk
    by_cases hi : i = b + j
    · subst hi
      rw [if_pos ⟨rfl, rfl⟩, if_pos ⟨rfl, by omega, by omega⟩]
    · rw [if_neg (fun q => hi q.2)]
      by_cases hr : b ≤ i ∧ i < b + j
      · rw [if_pos ⟨rfl, hr⟩, if_pos ⟨rfl, by omega, by omega⟩]
      · rw [if_neg (fun q => hr q.2), if_neg (fun q => hr (by omega))]
  · rw [if_neg (fun q => hk q.1), if_neg (fun q => hk q.1), if_neg (fun q => hk q.1)]
theorem z_rw_zero {σ : Nat → Int → Int} {a : Nat} {b : Int} {f : Int → Int} : z_rw σ a b 0 f = σ := by
  funext k i
  unfold z_rw
  rw [if_neg (fun q => by omega)]

theorem s_has_2 (d : Nat) (σ : Nat → Int → Int) (x1 : Int) : zE d 87 0 [some (.inr 6), some (.inl x1)] [] (zS, σ) = some (.inl (if 0 ≤ x1 ∧ x1 < σ 2 3 then 1 else 0), (zS, σ)) := by
  rw [e_87_0_2]
  repeat' split
  all_goals first | rfl | omega
theorem s_get_2 (d : Nat) (σ : Nat → Int → Int) (x1 x2 : Int) (hw : σ 2 0 = 4) (hM : σ 2 3 ≤ 12) : zE d 88 0 [some (.inr 6), some (.inl x1), some (.inl x2)] [] (zS, σ) = some (.inl (if 0 ≤ x1 ∧ x1 < σ 2 3 ∧ 0 ≤ x2 ∧ x2 < 4 then σ 3 (4 * x1 + x2) else -1), (zS, σ)) := by
  rw [e_88_0_5, hw]
  by_cases c : 0 ≤ x1 ∧ x1 < σ 2 3 ∧ 0 ≤ x2 ∧ x2 < 4
  · have e : z_wrap (z_wrap (x1 * 4) + x2) = 4 * x1 + x2 := by unfold z_wrap; omega
    rw [if_neg (by omega), if_pos (by omega), if_neg (by omega), if_pos (by omega), e, if_pos ⟨by omega, by omega⟩, if_pos c]
  · rw [if_neg c]
    repeat' split
    all_goals first | rfl | omega
theorem s_set_2 (d : Nat) (σ : Nat → Int → Int) (x1 x2 x3 : Int) (hw : σ 2 0 = 4) (hM : σ 2 3 ≤ 12) (c : 0 ≤ x1 ∧ x1 < σ 2 3 ∧ 0 ≤ x2 ∧ x2 < 4) : zE d 89 0 [some (.inr 6), some (.inl x1), some (.inl x2), some (.inl x3)] [] (zS, σ) = some (.inl 0, (zS, z_up σ 3 (4 * x1 + x2) x3)) := by
  rw [e_89_0_2, hw]
  have e : z_wrap (z_wrap (x1 * 4) + x2) = 4 * x1 + x2 := by unfold z_wrap; omega
  rw [if_neg (by omega), if_pos (by omega), if_neg (by omega), if_pos (by omega), e, if_pos ⟨by omega, by omega⟩]
theorem s_addl_2 (d : Nat) (σ : Nat → Int → Int) (x1 : Int) (hw : σ 2 0 = 4) (hM : σ 2 3 ≤ 12) (h0 : 0 ≤ x1) (h1 : x1 < σ 2 3) : ∀ (n : Nat) (j : Int), 0 ≤ j → j + n = 4 →
    zE (d + 1) 90 26 [some (.inr 6), some (.inl x1), some (.inl j)] [] (zS, z_rw σ 3 (4 * x1) j (fun _ => 0)) = some (.inl x1, (zS, z_rw σ 3 (4 * x1) 4 (fun _ => 0)))
  | 0, j, hj, hn => by
    have e : j = 4 := by omega
    subst e
    rw [e_90_26_0, z_rw_ne (by decide), hw, if_neg (by omega)]
  | n + 1, j, hj, hn => by
    rw [e_90_26_0, z_rw_ne (by decide), hw, if_pos (by omega), s_set_2 _ _ _ _ _ (by rw [z_rw_ne (by decide)]; exact hw) (by rw [z_rw_ne (by decide)]; exact hM) (by rw [z_rw_ne (by decide)]; omega), Option.bind_some, z_rw_grow hj, e_90_41_0, z_wid (by omega) (by omega)]
    exact s_addl_2 d σ x1 hw hM h0 h1 n (j + 1) (by omega) (by omega)
theorem s_add_2 (d : Nat) (σ : Nat → Int → Int) (hw : σ 2 0 = 4) (hm : σ 2 1 = 12) (h0 : 0 ≤ σ 2 3) (hM : σ 2 3 < 12) : zE (d + 1) 90 0 [some (.inr 6), none, none] [] (zS, σ) = some (.inl (σ 2 3), (zS, z_rw (z_up σ 2 3 (σ 2 3 + 1)) 3 (4 * σ 2 3) 4 (fun _ => 0))) := by
  rw [e_90_0_0, e_86_0_0, hm, if_pos hM, Option.bind_some, e_90_4_0, if_pos rfl, z_wid (by omega) (by omega)]
  have q := s_addl_2 d (z_up σ 2 3 (σ 2 3 + 1)) (σ 2 3) (by rw [z_up_at, if_neg (by decide)]; exact hw) (by rw [z_up_eq]; omega) h0 (by rw [z_up_eq]; omega) 4 0 (by omega) (by omega)
  rw [z_rw_zero] at q
  exact q

theorem s_has_4 (d : Nat) (σ : Nat → Int → Int) (x1 : Int) : zE d 87 0 [some (.inr 8), some (.inl x1)] [] (zS, σ) = some (.inl (if 0 ≤ x1 ∧ x1 < σ 4 3 then 1 else 0), (zS, σ)) := by
  rw [e_87_0_3]
  repeat' split
  all_goals first | rfl | omega
theorem s_get_4 (d : Nat) (σ : Nat → Int → Int) (x1 x2 : Int) (hw : σ 4 0 = 4) (hM : σ 4 3 ≤ 6) : zE d 88 0 [some (.inr 8), some (.inl x1), some (.inl x2)] [] (zS, σ) = some (.inl (if 0 ≤ x1 ∧ x1 < σ 4 3 ∧ 0 ≤ x2 ∧ x2 < 4 then σ 5 (4 * x1 + x2) else -1), (zS, σ)) := by
  rw [e_88_0_1, hw]
  by_cases c : 0 ≤ x1 ∧ x1 < σ 4 3 ∧ 0 ≤ x2 ∧ x2 < 4
  · have e : z_wrap (z_wrap (x1 * 4) + x2) = 4 * x1 + x2 := by unfold z_wrap; omega
    rw [if_neg (by omega), if_pos (by omega), if_neg (by omega), if_pos (by omega), e, if_pos ⟨by omega, by omega⟩, if_pos c]
  · rw [if_neg c]
    repeat' split
    all_goals first | rfl | omega
theorem s_set_4 (d : Nat) (σ : Nat → Int → Int) (x1 x2 x3 : Int) (hw : σ 4 0 = 4) (hM : σ 4 3 ≤ 6) (c : 0 ≤ x1 ∧ x1 < σ 4 3 ∧ 0 ≤ x2 ∧ x2 < 4) : zE d 89 0 [some (.inr 8), some (.inl x1), some (.inl x2), some (.inl x3)] [] (zS, σ) = some (.inl 0, (zS, z_up σ 5 (4 * x1 + x2) x3)) := by
  rw [e_89_0_3, hw]
  have e : z_wrap (z_wrap (x1 * 4) + x2) = 4 * x1 + x2 := by unfold z_wrap; omega
  rw [if_neg (by omega), if_pos (by omega), if_neg (by omega), if_pos (by omega), e, if_pos ⟨by omega, by omega⟩]
theorem s_addl_4 (d : Nat) (σ : Nat → Int → Int) (x1 : Int) (hw : σ 4 0 = 4) (hM : σ 4 3 ≤ 6) (h0 : 0 ≤ x1) (h1 : x1 < σ 4 3) : ∀ (n : Nat) (j : Int), 0 ≤ j → j + n = 4 →
    zE (d + 1) 90 26 [some (.inr 8), some (.inl x1), some (.inl j)] [] (zS, z_rw σ 5 (4 * x1) j (fun _ => 0)) = some (.inl x1, (zS, z_rw σ 5 (4 * x1) 4 (fun _ => 0)))
  | 0, j, hj, hn => by
    have e : j = 4 := by omega
    subst e
    rw [e_90_26_1, z_rw_ne (by decide), hw, if_neg (by omega)]
  | n + 1, j, hj, hn => by
    rw [e_90_26_1, z_rw_ne (by decide), hw, if_pos (by omega), s_set_4 _ _ _ _ _ (by rw [z_rw_ne (by decide)]; exact hw) (by rw [z_rw_ne (by decide)]; exact hM) (by rw [z_rw_ne (by decide)]; omega), Option.bind_some, z_rw_grow hj, e_90_41_1, z_wid (by omega) (by omega)]
    exact s_addl_4 d σ x1 hw hM h0 h1 n (j + 1) (by omega) (by omega)
theorem s_add_4 (d : Nat) (σ : Nat → Int → Int) (hw : σ 4 0 = 4) (hm : σ 4 1 = 6) (h0 : 0 ≤ σ 4 3) (hM : σ 4 3 < 6) : zE (d + 1) 90 0 [some (.inr 8), none, none] [] (zS, σ) = some (.inl (σ 4 3), (zS, z_rw (z_up σ 4 3 (σ 4 3 + 1)) 5 (4 * σ 4 3) 4 (fun _ => 0))) := by
  rw [e_90_0_1, e_86_0_1, hm, if_pos hM, Option.bind_some, e_90_4_1, if_pos rfl, z_wid (by omega) (by omega)]
  have q := s_addl_4 d (z_up σ 4 3 (σ 4 3 + 1)) (σ 4 3) (by rw [z_up_at, if_neg (by decide)]; exact hw) (by rw [z_up_eq]; omega) h0 (by rw [z_up_eq]; omega) 4 0 (by omega) (by omega)
  rw [z_rw_zero] at q
  exact q

theorem s_has_6 (d : Nat) (σ : Nat → Int → Int) (x1 : Int) : zE d 87 0 [some (.inr 10), some (.inl x1)] [] (zS, σ) = some (.inl (if 0 ≤ x1 ∧ x1 < σ 6 3 then 1 else 0), (zS, σ)) := by
  rw [e_87_0_5]
  repeat' split
  all_goals first | rfl | omega
theorem s_get_6 (d : Nat) (σ : Nat → Int → Int) (x1 x2 : Int) (hw : σ 6 0 = 2) (hM : σ 6 3 ≤ 12) : zE d 88 0 [some (.inr 10), some (.inl x1), some (.inl x2)] [] (zS, σ) = some (.inl (if 0 ≤ x1 ∧ x1 < σ 6 3 ∧ 0 ≤ x2 ∧ x2 < 2 then σ 7 (2 * x1 + x2) else -1), (zS, σ)) := by
  rw [e_88_0_3, hw]
  by_cases c : 0 ≤ x1 ∧ x1 < σ 6 3 ∧ 0 ≤ x2 ∧ x2 < 2
  · have e : z_wrap (z_wrap (x1 * 2) + x2) = 2 * x1 + x2 := by unfold z_wrap; omega
    rw [if_neg (by omega), if_pos (by omega), if_neg (by omega), if_pos (by omega), e, if_pos ⟨by omega, by omega⟩, if_pos c]
  · rw [if_neg c]
    repeat' split
    all_goals first | rfl | omega
theorem s_set_6 (d : Nat) (σ : Nat → Int → Int) (x1 x2 x3 : Int) (hw : σ 6 0 = 2) (hM : σ 6 3 ≤ 12) (c : 0 ≤ x1 ∧ x1 < σ 6 3 ∧ 0 ≤ x2 ∧ x2 < 2) : zE d 89 0 [some (.inr 10), some (.inl x1), some (.inl x2), some (.inl x3)] [] (zS, σ) = some (.inl 0, (zS, z_up σ 7 (2 * x1 + x2) x3)) := by
  rw [e_89_0_4, hw]
  have e : z_wrap (z_wrap (x1 * 2) + x2) = 2 * x1 + x2 := by unfold z_wrap; omega
  rw [if_neg (by omega), if_pos (by omega), if_neg (by omega), if_pos (by omega), e, if_pos ⟨by omega, by omega⟩]
theorem s_addl_6 (d : Nat) (σ : Nat → Int → Int) (x1 : Int) (hw : σ 6 0 = 2) (hM : σ 6 3 ≤ 12) (h0 : 0 ≤ x1) (h1 : x1 < σ 6 3) : ∀ (n : Nat) (j : Int), 0 ≤ j → j + n = 2 →
    zE (d + 1) 90 26 [some (.inr 10), some (.inl x1), some (.inl j)] [] (zS, z_rw σ 7 (2 * x1) j (fun _ => 0)) = some (.inl x1, (zS, z_rw σ 7 (2 * x1) 2 (fun _ => 0)))
  | 0, j, hj, hn => by
    have e : j = 2 := by omega
    subst e
    rw [e_90_26_3, z_rw_ne (by decide), hw, if_neg (by omega)]
  | n + 1, j, hj, hn => by
    rw [e_90_26_3, z_rw_ne (by decide), hw, if_pos (by omega), s_set_6 _ _ _ _ _ (by rw [z_rw_ne (by decide)]; exact hw) (by rw [z_rw_ne (by decide)]; exact hM) (by rw [z_rw_ne (by decide)]; omega), Option.bind_some, z_rw_grow hj, e_90_41_3, z_wid (by omega) (by omega)]
    exact s_addl_6 d σ x1 hw hM h0 h1 n (j + 1) (by omega) (by omega)
theorem s_add_6 (d : Nat) (σ : Nat → Int → Int) (hw : σ 6 0 = 2) (hm : σ 6 1 = 12) (h0 : 0 ≤ σ 6 3) (hM : σ 6 3 < 12) : zE (d + 1) 90 0 [some (.inr 10), none, none] [] (zS, σ) = some (.inl (σ 6 3), (zS, z_rw (z_up σ 6 3 (σ 6 3 + 1)) 7 (2 * σ 6 3) 2 (fun _ => 0))) := by
  rw [e_90_0_3, e_86_0_4, hm, if_pos hM, Option.bind_some, e_90_4_3, if_pos rfl, z_wid (by omega) (by omega)]
  have q := s_addl_6 d (z_up σ 6 3 (σ 6 3 + 1)) (σ 6 3) (by rw [z_up_at, if_neg (by decide)]; exact hw) (by rw [z_up_eq]; omega) h0 (by rw [z_up_eq]; omega) 2 0 (by omega) (by omega)
  rw [z_rw_zero] at q
  exact q

theorem s_has_8 (d : Nat) (σ : Nat → Int → Int) (x1 : Int) : zE d 87 0 [some (.inr 12), some (.inl x1)] [] (zS, σ) = some (.inl (if 0 ≤ x1 ∧ x1 < σ 8 3 then 1 else 0), (zS, σ)) := by
  rw [e_87_0_0]
  repeat' split
  all_goals first | rfl | omega
theorem s_get_8 (d : Nat) (σ : Nat → Int → Int) (x1 x2 : Int) (hw : σ 8 0 = 7) (hM : σ 8 3 ≤ 20) : zE d 88 0 [some (.inr 12), some (.inl x1), some (.inl x2)] [] (zS, σ) = some (.inl (if 0 ≤ x1 ∧ x1 < σ 8 3 ∧ 0 ≤ x2 ∧ x2 < 7 then σ 9 (7 * x1 + x2) else -1), (zS, σ)) := by
  rw [e_88_0_2, hw]
  by_cases c : 0 ≤ x1 ∧ x1 < σ 8 3 ∧ 0 ≤ x2 ∧ x2 < 7
  · have e : z_wrap (z_wrap (x1 * 7) + x2) = 7 * x1 + x2 := by unfold z_wrap; omega
    rw [if_neg (by omega), if_pos (by omega), if_neg (by omega), if_pos (by omega), e, if_pos ⟨by omega, by omega⟩, if_pos c]
  · rw [if_neg c]
    repeat' split
    all_goals first | rfl | omega
theorem s_set_8 (d : Nat) (σ : Nat → Int → Int) (x1 x2 x3 : Int) (hw : σ 8 0 = 7) (hM : σ 8 3 ≤ 20) (c : 0 ≤ x1 ∧ x1 < σ 8 3 ∧ 0 ≤ x2 ∧ x2 < 7) : zE d 89 0 [some (.inr 12), some (.inl x1), some (.inl x2), some (.inl x3)] [] (zS, σ) = some (.inl 0, (zS, z_up σ 9 (7 * x1 + x2) x3)) := by
  rw [e_89_0_1, hw]
  have e : z_wrap (z_wrap (x1 * 7) + x2) = 7 * x1 + x2 := by unfold z_wrap; omega
  rw [if_neg (by omega), if_pos (by omega), if_neg (by omega), if_pos (by omega), e, if_pos ⟨by omega, by omega⟩]
theorem s_addl_8 (d : Nat) (σ : Nat → Int → Int) (x1 : Int) (hw : σ 8 0 = 7) (hM : σ 8 3 ≤ 20) (h0 : 0 ≤ x1) (h1 : x1 < σ 8 3) : ∀ (n : Nat) (j : Int), 0 ≤ j → j + n = 7 →
    zE (d + 1) 90 26 [some (.inr 12), some (.inl x1), some (.inl j)] [] (zS, z_rw σ 9 (7 * x1) j (fun _ => 0)) = some (.inl x1, (zS, z_rw σ 9 (7 * x1) 7 (fun _ => 0)))
  | 0, j, hj, hn => by
    have e : j = 7 := by omega
    subst e
    rw [e_90_26_2, z_rw_ne (by decide), hw, if_neg (by omega)]
  | n + 1, j, hj, hn => by
    rw [e_90_26_2, z_rw_ne (by decide), hw, if_pos (by omega), s_set_8 _ _ _ _ _ (by rw [z_rw_ne (by decide)]; exact hw) (by rw [z_rw_ne (by decide)]; exact hM) (by rw [z_rw_ne (by decide)]; omega), Option.bind_some, z_rw_grow hj, e_90_41_2, z_wid (by omega) (by omega)]
    exact s_addl_8 d σ x1 hw hM h0 h1 n (j + 1) (by omega) (by omega)
theorem s_add_8 (d : Nat) (σ : Nat → Int → Int) (hw : σ 8 0 = 7) (hm : σ 8 1 = 20) (h0 : 0 ≤ σ 8 3) (hM : σ 8 3 < 20) : zE (d + 1) 90 0 [some (.inr 12), none, none] [] (zS, σ) = some (.inl (σ 8 3), (zS, z_rw (z_up σ 8 3 (σ 8 3 + 1)) 9 (7 * σ 8 3) 7 (fun _ => 0))) := by
  rw [e_90_0_2, e_86_0_2, hm, if_pos hM, Option.bind_some, e_90_4_2, if_pos rfl, z_wid (by omega) (by omega)]
  have q := s_addl_8 d (z_up σ 8 3 (σ 8 3 + 1)) (σ 8 3) (by rw [z_up_at, if_neg (by decide)]; exact hw) (by rw [z_up_eq]; omega) h0 (by rw [z_up_eq]; omega) 7 0 (by omega) (by omega)
  rw [z_rw_zero] at q
  exact q

theorem s_has_10 (d : Nat) (σ : Nat → Int → Int) (x1 : Int) : zE d 87 0 [some (.inr 14), some (.inl x1)] [] (zS, σ) = some (.inl (if 0 ≤ x1 ∧ x1 < σ 10 3 then 1 else 0), (zS, σ)) := by
  rw [e_87_0_1]
  repeat' split
  all_goals first | rfl | omega
theorem s_get_10 (d : Nat) (σ : Nat → Int → Int) (x1 x2 : Int) (hw : σ 10 0 = 9) (hM : σ 10 3 ≤ 12) : zE d 88 0 [some (.inr 14), some (.inl x1), some (.inl x2)] [] (zS, σ) = some (.inl (if 0 ≤ x1 ∧ x1 < σ 10 3 ∧ 0 ≤ x2 ∧ x2 < 9 then σ 11 (9 * x1 + x2) else -1), (zS, σ)) := by
  rw [e_88_0_0, hw]
  by_cases c : 0 ≤ x1 ∧ x1 < σ 10 3 ∧ 0 ≤ x2 ∧ x2 < 9
  · have e : z_wrap (z_wrap (x1 * 9) + x2) = 9 * x1 + x2 := by unfold z_wrap; omega
    rw [if_neg (by omega), if_pos (by omega), if_neg (by omega), if_pos (by omega), e, if_pos ⟨by omega, by omega⟩, if_pos c]
  · rw [if_neg c]
    repeat' split
    all_goals first | rfl | omega
theorem s_set_10 (d : Nat) (σ : Nat → Int → Int) (x1 x2 x3 : Int) (hw : σ 10 0 = 9) (hM : σ 10 3 ≤ 12) (c : 0 ≤ x1 ∧ x1 < σ 10 3 ∧ 0 ≤ x2 ∧ x2 < 9) : zE d 89 0 [some (.inr 14), some (.inl x1), some (.inl x2), some (.inl x3)] [] (zS, σ) = some (.inl 0, (zS, z_up σ 11 (9 * x1 + x2) x3)) := by
  rw [e_89_0_0, hw]
  have e : z_wrap (z_wrap (x1 * 9) + x2) = 9 * x1 + x2 := by unfold z_wrap; omega
  rw [if_neg (by omega), if_pos (by omega), if_neg (by omega), if_pos (by omega), e, if_pos ⟨by omega, by omega⟩]
theorem s_addl_10 (d : Nat) (σ : Nat → Int → Int) (x1 : Int) (hw : σ 10 0 = 9) (hM : σ 10 3 ≤ 12) (h0 : 0 ≤ x1) (h1 : x1 < σ 10 3) : ∀ (n : Nat) (j : Int), 0 ≤ j → j + n = 9 →
    zE (d + 1) 90 26 [some (.inr 14), some (.inl x1), some (.inl j)] [] (zS, z_rw σ 11 (9 * x1) j (fun _ => 0)) = some (.inl x1, (zS, z_rw σ 11 (9 * x1) 9 (fun _ => 0)))
  | 0, j, hj, hn => by
    have e : j = 9 := by omega
    subst e
    rw [e_90_26_6, z_rw_ne (by decide), hw, if_neg (by omega)]
  | n + 1, j, hj, hn => by
    rw [e_90_26_6, z_rw_ne (by decide), hw, if_pos (by omega), s_set_10 _ _ _ _ _ (by rw [z_rw_ne (by decide)]; exact hw) (by rw [z_rw_ne (by decide)]; exact hM) (by rw [z_rw_ne (by decide)]; omega), Option.bind_some, z_rw_grow hj, e_90_41_6, z_wid (by omega) (by omega)]
    exact s_addl_10 d σ x1 hw hM h0 h1 n (j + 1) (by omega) (by omega)
theorem s_add_10 (d : Nat) (σ : Nat → Int → Int) (hw : σ 10 0 = 9) (hm : σ 10 1 = 12) (h0 : 0 ≤ σ 10 3) (hM : σ 10 3 < 12) : zE (d + 1) 90 0 [some (.inr 14), none, none] [] (zS, σ) = some (.inl (σ 10 3), (zS, z_rw (z_up σ 10 3 (σ 10 3 + 1)) 11 (9 * σ 10 3) 9 (fun _ => 0))) := by
  rw [e_90_0_6, e_86_0_7, hm, if_pos hM, Option.bind_some, e_90_4_6, if_pos rfl, z_wid (by omega) (by omega)]
  have q := s_addl_10 d (z_up σ 10 3 (σ 10 3 + 1)) (σ 10 3) (by rw [z_up_at, if_neg (by decide)]; exact hw) (by rw [z_up_eq]; omega) h0 (by rw [z_up_eq]; omega) 9 0 (by omega) (by omega)
  rw [z_rw_zero] at q
  exact q

theorem s_has_12 (d : Nat) (σ : Nat → Int → Int) (x1 : Int) : zE d 87 0 [some (.inr 16), some (.inl x1)] [] (zS, σ) = some (.inl (if 0 ≤ x1 ∧ x1 < σ 12 3 then 1 else 0), (zS, σ)) := by
  rw [e_87_0_6]
  repeat' split
  all_goals first | rfl | omega
theorem s_get_12 (d : Nat) (σ : Nat → Int → Int) (x1 x2 : Int) (hw : σ 12 0 = 6) (hM : σ 12 3 ≤ 6) : zE d 88 0 [some (.inr 16), some (.inl x1), some (.inl x2)] [] (zS, σ) = some (.inl (if 0 ≤ x1 ∧ x1 < σ 12 3 ∧ 0 ≤ x2 ∧ x2 < 6 then σ 13 (6 * x1 + x2) else -1), (zS, σ)) := by
  rw [e_88_0_6, hw]
  by_cases c : 0 ≤ x1 ∧ x1 < σ 12 3 ∧ 0 ≤ x2 ∧ x2 < 6
  · have e : z_wrap (z_wrap (x1 * 6) + x2) = 6 * x1 + x2 := by unfold z_wrap; omega
    rw [if_neg (by omega), if_pos (by omega), if_neg (by omega), if_pos (by omega), e, if_pos ⟨by omega, by omega⟩, if_pos c]
  · rw [if_neg c]
    repeat' split
    all_goals first | rfl | omega
theorem s_set_12 (d : Nat) (σ : Nat → Int → Int) (x1 x2 x3 : Int) (hw : σ 12 0 = 6) (hM : σ 12 3 ≤ 6) (c : 0 ≤ x1 ∧ x1 < σ 12 3 ∧ 0 ≤ x2 ∧ x2 < 6) : zE d 89 0 [some (.inr 16), some (.inl x1), some (.inl x2), some (.inl x3)] [] (zS, σ) = some (.inl 0, (zS, z_up σ 13 (6 * x1 + x2) x3)) := by
  rw [e_89_0_8, hw]
  have e : z_wrap (z_wrap (x1 * 6) + x2) = 6 * x1 + x2 := by unfold z_wrap; omega
  rw [if_neg (by omega), if_pos (by omega), if_neg (by omega), if_pos (by omega), e, if_pos ⟨by omega, by omega⟩]
theorem s_addl_12 (d : Nat) (σ : Nat → Int → Int) (x1 : Int) (hw : σ 12 0 = 6) (hM : σ 12 3 ≤ 6) (h0 : 0 ≤ x1) (h1 : x1 < σ 12 3) : ∀ (n : Nat) (j : Int), 0 ≤ j → j + n = 6 →
    zE (d + 1) 90 26 [some (.inr 16), some (.inl x1), some (.inl j)] [] (zS, z_rw σ 13 (6 * x1) j (fun _ => 0)) = some (.inl x1, (zS, z_rw σ 13 (6 * x1) 6 (fun _ => 0)))
  | 0, j, hj, hn => by
    have e : j = 6 := by omega
    subst e
    rw [e_90_26_8, z_rw_ne (by decide), hw, if_neg (by omega)]
  | n + 1, j, hj, hn => by
    rw [e_90_26_8, z_rw_ne (by decide), hw, if_pos (by omega), s_set_12 _ _ _ _ _ (by rw [z_rw_ne (by decide)]; exact hw) (by rw [z_rw_ne (by decide)]; exact hM) (by rw [z_rw_ne (by decide)]; omega), Option.bind_some, z_rw_grow hj, e_90_41_8, z_wid (by omega) (by omega)]
    exact s_addl_12 d σ x1 hw hM h0 h1 n (j + 1) (by omega) (by omega)
theorem s_add_12 (d : Nat) (σ : Nat → Int → Int) (hw : σ 12 0 = 6) (hm : σ 12 1 = 6) (h0 : 0 ≤ σ 12 3) (hM : σ 12 3 < 6) : zE (d + 1) 90 0 [some (.inr 16), none, none] [] (zS, σ) = some (.inl (σ 12 3), (zS, z_rw (z_up σ 12 3 (σ 12 3 + 1)) 13 (6 * σ 12 3) 6 (fun _ => 0))) := by
  rw [e_90_0_8, e_86_0_8, hm, if_pos hM, Option.bind_some, e_90_4_8, if_pos rfl, z_wid (by omega) (by omega)]
  have q := s_addl_12 d (z_up σ 12 3 (σ 12 3 + 1)) (σ 12 3) (by rw [z_up_at, if_neg (by decide)]; exact hw) (by rw [z_up_eq]; omega) h0 (by rw [z_up_eq]; omega) 6 0 (by omega) (by omega)
  rw [z_rw_zero] at q
  exact q

theorem s_get_14 (d : Nat) (σ : Nat → Int → Int) (x1 x2 : Int) (hw : σ 14 0 = 1) (hM : σ 14 3 ≤ 4) : zE d 88 0 [some (.inr 18), some (.inl x1), some (.inl x2)] [] (zS, σ) = some (.inl (if 0 ≤ x1 ∧ x1 < σ 14 3 ∧ 0 ≤ x2 ∧ x2 < 1 then σ 15 (1 * x1 + x2) else -1), (zS, σ)) := by
  rw [e_88_0_7, hw]
  by_cases c : 0 ≤ x1 ∧ x1 < σ 14 3 ∧ 0 ≤ x2 ∧ x2 < 1
  · have e : z_wrap (z_wrap (x1 * 1) + x2) = 1 * x1 + x2 := by unfold z_wrap; omega
    rw [if_neg (by omega), if_pos (by omega), if_neg (by omega), if_pos (by omega), e, if_pos ⟨by omega, by omega⟩, if_pos c]
  · rw [if_neg c]
    repeat' split
    all_goals first | rfl | omega
theorem s_set_14 (d : Nat) (σ : Nat → Int → Int) (x1 x2 x3 : Int) (hw : σ 14 0 = 1) (hM : σ 14 3 ≤ 4) (c : 0 ≤ x1 ∧ x1 < σ 14 3 ∧ 0 ≤ x2 ∧ x2 < 1) : zE d 89 0 [some (.inr 18), some (.inl x1), some (.inl x2), some (.inl x3)] [] (zS, σ) = some (.inl 0, (zS, z_up σ 15 (1 * x1 + x2) x3)) := by
  rw [e_89_0_5, hw]
  have e : z_wrap (z_wrap (x1 * 1) + x2) = 1 * x1 + x2 := by unfold z_wrap; omega
  rw [if_neg (by omega), if_pos (by omega), if_neg (by omega), if_pos (by omega), e, if_pos ⟨by omega, by omega⟩]
theorem s_addl_14 (d : Nat) (σ : Nat → Int → Int) (x1 : Int) (hw : σ 14 0 = 1) (hM : σ 14 3 ≤ 4) (h0 : 0 ≤ x1) (h1 : x1 < σ 14 3) : ∀ (n : Nat) (j : Int), 0 ≤ j → j + n = 1 →
    zE (d + 1) 90 26 [some (.inr 18), some (.inl x1), some (.inl j)] [] (zS, z_rw σ 15 (1 * x1) j (fun _ => 0)) = some (.inl x1, (zS, z_rw σ 15 (1 * x1) 1 (fun _ => 0)))
  | 0, j, hj, hn => by
    have e : j = 1 := by omega
    subst e
    rw [e_90_26_4, z_rw_ne (by decide), hw, if_neg (by omega)]
  | n + 1, j, hj, hn => by
    rw [e_90_26_4, z_rw_ne (by decide), hw, if_pos (by omega), s_set_14 _ _ _ _ _ (by rw [z_rw_ne (by decide)]; exact hw) (by rw [z_rw_ne (by decide)]; exact hM) (by rw [z_rw_ne (by decide)]; omega), Option.bind_some, z_rw_grow hj, e_90_41_4, z_wid (by omega) (by omega)]
    exact s_addl_14 d σ x1 hw hM h0 h1 n (j + 1) (by omega) (by omega)
theorem s_add_14 (d : Nat) (σ : Nat → Int → Int) (hw : σ 14 0 = 1) (hm : σ 14 1 = 4) (h0 : 0 ≤ σ 14 3) (hM : σ 14 3 < 4) : zE (d + 1) 90 0 [some (.inr 18), none, none] [] (zS, σ) = some (.inl (σ 14 3), (zS, z_rw (z_up σ 14 3 (σ 14 3 + 1)) 15 (1 * σ 14 3) 1 (fun _ => 0))) := by
  rw [e_90_0_4, e_86_0_3, hm, if_pos hM, Option.bind_some, e_90_4_4, if_pos rfl, z_wid (by omega) (by omega)]
  have q := s_addl_14 d (z_up σ 14 3 (σ 14 3 + 1)) (σ 14 3) (by rw [z_up_at, if_neg (by decide)]; exact hw) (by rw [z_up_eq]; omega) h0 (by rw [z_up_eq]; omega) 1 0 (by omega) (by omega)
  rw [z_rw_zero] at q
  exact q

theorem s_get_16 (d : Nat) (σ : Nat → Int → Int) (x1 x2 : Int) (hw : σ 16 0 = 4) (hM : σ 16 3 ≤ 6) : zE d 88 0 [some (.inr 20), some (.inl x1), some (.inl x2)] [] (zS, σ) = some (.inl (if 0 ≤ x1 ∧ x1 < σ 16 3 ∧ 0 ≤ x2 ∧ x2 < 4 then σ 17 (4 * x1 + x2) else -1), (zS, σ)) := by
  rw [e_88_0_8, hw]
  by_cases c : 0 ≤ x1 ∧ x1 < σ 16 3 ∧ 0 ≤ x2 ∧ x2 < 4
  · have e : z_wrap (z_wrap (x1 * 4) + x2) = 4 * x1 + x2 := by unfold z_wrap; omega
    rw [if_neg (by omega), if_pos (by omega), if_neg (by omega), if_pos (by omega), e, if_pos ⟨by omega, by omega⟩, if_pos c]
  · rw [if_neg c]
    repeat' split
    all_goals first | rfl | omega
theorem s_set_16 (d : Nat) (σ : Nat → Int → Int) (x1 x2 x3 : Int) (hw : σ 16 0 = 4) (hM : σ 16 3 ≤ 6) (c : 0 ≤ x1 ∧ x1 < σ 16 3 ∧ 0 ≤ x2 ∧ x2 < 4) : zE d 89 0 [some (.inr 20), some (.inl x1), some (.inl x2), some (.inl x3)] [] (zS, σ) = some (.inl 0, (zS, z_up σ 17 (4 * x1 + x2) x3)) := by
  rw [e_89_0_7, hw]
  have e : z_wrap (z_wrap (x1 * 4) + x2) = 4 * x1 + x2 := by unfold z_wrap; omega
  rw [if_neg (by omega), if_pos (by omega), if_neg (by omega), if_pos (by omega), e, if_pos ⟨by omega, by omega⟩]
theorem s_addl_16 (d : Nat) (σ : Nat → Int → Int) (x1 : Int) (hw : σ 16 0 = 4) (hM : σ 16 3 ≤ 6) (h0 : 0 ≤ x1) (h1 : x1 < σ 16 3) : ∀ (n : Nat) (j : Int), 0 ≤ j → j + n = 4 →
    zE (d + 1) 90 26 [some (.inr 20), some (.inl x1), some (.inl j)] [] (zS, z_rw σ 17 (4 * x1) j (fun _ => 0)) = some (.inl x1, (zS, z_rw σ 17 (4 * x1) 4 (fun _ => 0)))
  | 0, j, hj, hn => by
    have e : j = 4 := by omega
    subst e
    rw [e_90_26_7, z_rw_ne (by decide), hw, if_neg (by omega)]
  | n + 1, j, hj, hn => by
    rw [e_90_26_7, z_rw_ne (by decide), hw, if_pos (by omega), s_set_16 _ _ _ _ _ (by rw [z_rw_ne (by decide)]; exact hw) (by rw [z_rw_ne (by decide)]; exact hM) (by rw [z_rw_ne (by decide)]; omega), Option.bind_some, z_rw_grow hj, e_90_41_7, z_wid (by omega) (by omega)]
    exact s_addl_16 d σ x1 hw hM h0 h1 n (j + 1) (by omega) (by omega)
theorem s_add_16 (d : Nat) (σ : Nat → Int → Int) (hw : σ 16 0 = 4) (hm : σ 16 1 = 6) (h0 : 0 ≤ σ 16 3) (hM : σ 16 3 < 6) : zE (d + 1) 90 0 [some (.inr 20), none, none] [] (zS, σ) = some (.inl (σ 16 3), (zS, z_rw (z_up σ 16 3 (σ 16 3 + 1)) 17 (4 * σ 16 3) 4 (fun _ => 0))) := by
  rw [e_90_0_7, e_86_0_6, hm, if_pos hM, Option.bind_some, e_90_4_7, if_pos rfl, z_wid (by omega) (by omega)]
  have q := s_addl_16 d (z_up σ 16 3 (σ 16 3 + 1)) (σ 16 3) (by rw [z_up_at, if_neg (by decide)]; exact hw) (by rw [z_up_eq]; omega) h0 (by rw [z_up_eq]; omega) 4 0 (by omega) (by omega)
  rw [z_rw_zero] at q
  exact q

theorem s_has_18 (d : Nat) (σ : Nat → Int → Int) (x1 : Int) : zE d 87 0 [some (.inr 22), some (.inl x1)] [] (zS, σ) = some (.inl (if 0 ≤ x1 ∧ x1 < σ 18 3 then 1 else 0), (zS, σ)) := by
  rw [e_87_0_4]
  repeat' split
  all_goals first | rfl | omega
theorem s_get_18 (d : Nat) (σ : Nat → Int → Int) (x1 x2 : Int) (hw : σ 18 0 = 6) (hM : σ 18 3 ≤ 10) : zE d 88 0 [some (.inr 22), some (.inl x1), some (.inl x2)] [] (zS, σ) = some (.inl (if 0 ≤ x1 ∧ x1 < σ 18 3 ∧ 0 ≤ x2 ∧ x2 < 6 then σ 19 (6 * x1 + x2) else -1), (zS, σ)) := by
  rw [e_88_0_4, hw]
  by_cases c : 0 ≤ x1 ∧ x1 < σ 18 3 ∧ 0 ≤ x2 ∧ x2 < 6
  · have e : z_wrap (z_wrap (x1 * 6) + x2) = 6 * x1 + x2 := by unfold z_wrap; omega
    rw [if_neg (by omega), if_pos (by omega), if_neg (by omega), if_pos (by omega), e, if_pos ⟨by omega, by omega⟩, if_pos c]
  · rw [if_neg c]
    repeat' split
    all_goals first | rfl | omega
theorem s_set_18 (d : Nat) (σ : Nat → Int → Int) (x1 x2 x3 : Int) (hw : σ 18 0 = 6) (hM : σ 18 3 ≤ 10) (c : 0 ≤ x1 ∧ x1 < σ 18 3 ∧ 0 ≤ x2 ∧ x2 < 6) : zE d 89 0 [some (.inr 22), some (.inl x1), some (.inl x2), some (.inl x3)] [] (zS, σ) = some (.inl 0, (zS, z_up σ 19 (6 * x1 + x2) x3)) := by
  rw [e_89_0_6, hw]
  have e : z_wrap (z_wrap (x1 * 6) + x2) = 6 * x1 + x2 := by unfold z_wrap; omega
  rw [if_neg (by omega), if_pos (by omega), if_neg (by omega), if_pos (by omega), e, if_pos ⟨by omega, by omega⟩]
theorem s_addl_18 (d : Nat) (σ : Nat → Int → Int) (x1 : Int) (hw : σ 18 0 = 6) (hM : σ 18 3 ≤ 10) (h0 : 0 ≤ x1) (h1 : x1 < σ 18 3) : ∀ (n : Nat) (j : Int), 0 ≤ j → j + n = 6 →
    zE (d + 1) 90 26 [some (.inr 22), some (.inl x1), some (.inl j)] [] (zS, z_rw σ 19 (6 * x1) j (fun _ => 0)) = some (.inl x1, (zS, z_rw σ 19 (6 * x1) 6 (fun _ => 0)))
  | 0, j, hj, hn => by
    have e : j = 6 := by omega
    subst e
    rw [e_90_26_5, z_rw_ne (by decide), hw, if_neg (by omega)]
  | n + 1, j, hj, hn => by
    rw [e_90_26_5, z_rw_ne (by decide), hw, if_pos (by omega), s_set_18 _ _ _ _ _ (by rw [z_rw_ne (by decide)]; exact hw) (by rw [z_rw_ne (by decide)]; exact hM) (by rw [z_rw_ne (by decide)]; omega), Option.bind_some, z_rw_grow hj, e_90_41_5, z_wid (by omega) (by omega)]
    exact s_addl_18 d σ x1 hw hM h0 h1 n (j + 1) (by omega) (by omega)
theorem s_add_18 (d : Nat) (σ : Nat → Int → Int) (hw : σ 18 0 = 6) (hm : σ 18 1 = 10) (h0 : 0 ≤ σ 18 3) (hM : σ 18 3 < 10) : zE (d + 1) 90 0 [some (.inr 22), none, none] [] (zS, σ) = some (.inl (σ 18 3), (zS, z_rw (z_up σ 18 3 (σ 18 3 + 1)) 19 (6 * σ 18 3) 6 (fun _ => 0))) := by
  rw [e_90_0_5, e_86_0_5, hm, if_pos hM, Option.bind_some, e_90_4_5, if_pos rfl, z_wid (by omega) (by omega)]
  have q := s_addl_18 d (z_up σ 18 3 (σ 18 3 + 1)) (σ 18 3) (by rw [z_up_at, if_neg (by decide)]; exact hw) (by rw [z_up_eq]; omega) h0 (by rw [z_up_eq]; omega) 6 0 (by omega) (by omega)
  rw [z_rw_zero] at q
  exact q
