theorem s_43a (d : Nat) (nr : Nat) (hr : nr ≤ 4) : ∀ (j k : Nat) (σ : Nat → Int → Int), k + j = nr → σ 49 11 = (nr : Int) → σ 14 0 = 1 → σ 14 3 = (nr : Int) → ∃ σ' : Nat → Int → Int, zE (d + 1) 43 17 [some (.inr 53), some (.inr 5), some (.inl k)] [] (zS, σ) = zE (d + 1) 43 17 [some (.inr 53), some (.inr 5), some (.inl nr)] [] (zS, σ') ∧ (∀ c : Nat, c ≠ 50 → σ' c = σ c) ∧ (∀ i : Int, i < k → σ' 50 i = σ 50 i) ∧ (∀ i : Int, k ≤ i → i < nr → σ' 50 i = σ 15 i)
  | 0, k, σ, hk, e1, e2, e3 => ⟨σ, by rw [show k = nr by omega], fun _ _ => rfl, fun _ _ => rfl, fun i a b => by omega⟩
  | j + 1, k, σ, hk, e1, e2, e3 => by
    have b4 : 0 ≤ ((k : Nat) : Int) ∧ ((k : Nat) : Int) < 4 := by omega
    rw [e_43_17, if_pos (by omega), s_get_14 _ _ _ _ e2 (by omega), if_pos (by omega), Option.bind_some, e_43_39, if_pos b4, z_wid (x := (k : Int) + 1) (by omega) (by omega), show 1 * (k : Int) + 0 = k by omega]
    obtain ⟨σ', h1, h2, h3, h4⟩ := s_43a d nr hr j (k + 1) (z_up σ 50 k (σ 15 k)) (by omega) (by rw [z_up_fn (by omega)]; exact e1) (by rw [z_up_fn (by omega)]; exact e2) (by rw [z_up_fn (by omega)]; exact e3)
    refine ⟨σ', h1, fun c hc => ?_, fun i hi => ?_, fun i hi hj => ?_⟩
    · rw [h2 c hc, z_up_fn hc]
    · rw [h3 i (by omega), z_up_ni (by omega)]
    · by_cases w : i = k
      · subst w
        rw [h3 _ (by omega), z_up_eq]
      · rw [h4 i (by omega) hj, z_up_fn (by omega)]
theorem s_43b (d : Nat) (n : Nat) (na ma fi la : Int → Int) (hn : n ≤ 6) (hb : ∀ g : Nat, g < n → 1 ≤ ma g ∧ ma g ≤ 9 ∧ 0 ≤ fi g ∧ fi g ≤ la g ∧ la g ≤ 19) : ∀ (m : Nat) (σ : Nat → Int → Int), m ≤ n → σ 16 0 = 4 → σ 16 3 = (n : Int) → (∀ g : Nat, g < n → σ 17 (4 * g) = na g ∧ σ 17 (4 * g + 1) = ma g ∧ σ 17 (4 * g + 2) = fi g ∧ σ 17 (4 * g + 3) = la g) → σ 57 m = w_left ma fi la (n - m) m → ∃ σ' : Nat → Int → Int, zE (d + 1) 43 79 [some (.inr 53), some (.inr 5), some (.inl ((m : Int) - 1))] [] (zS, σ) = some (.inl 0, (zS, σ')) ∧ (∀ c : Nat, ¬ (51 ≤ c ∧ c ≤ 54) → c ≠ 57 → σ' c = σ c) ∧ (∀ g : Nat, g < m → σ' 51 g = ma g ∧ σ' 52 g = na g ∧ σ' 53 g = fi g ∧ σ' 54 g = la g ∧ σ' 57 g = w_left ma fi la (n - g) g) ∧ (∀ g : Nat, m ≤ g → σ' 51 g = σ 51 g ∧ σ' 52 g = σ 52 g ∧ σ' 53 g = σ 53 g ∧ σ' 54 g = σ 54 g ∧ σ' 57 g = σ 57 g)
  | 0, σ, hm, e0, e3, hT, hl => by
    rw [e_43_79, if_pos (by omega)]
    exact ⟨σ, rfl, fun _ _ _ => rfl, fun g h => absurd h (Nat.not_lt_zero g), fun _ _ => ⟨rfl, rfl, rfl, rfl, rfl⟩⟩
  | m + 1, σ, hm, e0, e3, hT, hl => by
    have q := hT m (by omega)
    obtain ⟨q0, q1, q2, q3⟩ := q
    have b := hb m (by omega)
    have wr := w_wt_rng b
    have wx : w_wt ma fi la m = ma m * (la m - fi m + 1) := rfl
    have lr := w_left_rng (ma := ma) (fi := fi) (la := la) (k := n - (m + 1)) (g := m + 1) (fun j a b => hb j (by omega))
    have l1 : w_left ma fi la (n - m) m = w_wt ma fi la m + w_left ma fi la (n - (m + 1)) (m + 1) := by
      rw [show n - m = (n - (m + 1)) + 1 by omega]
      rfl
    have hl : σ 57 ((m : Int) + 1) = w_left ma fi la (n - (m + 1)) (m + 1) := hl
    have ne : ((n - (m + 1) : Nat) : Int) ≤ 6 := by omega
    obtain ⟨σ', h1, h2, h3, h4⟩ := s_43b d n na ma fi la hn hb m (z_up (z_up (z_up (z_up (z_up σ 51 m (ma m)) 52 m (na m)) 53 m (fi m)) 54 m (la m)) 57 m (w_left ma fi la (n - m) m)) (by omega) (by simp (disch := omega) only [z_up_fn]; exact e0) (by simp (disch := omega) only [z_up_fn]; exact e3) (by simp (disch := omega) only [z_up_fn]; exact hT) z_up_eq
    rw [show (((m + 1 : Nat) : Int) - 1) = (m : Int) by omega, e_43_79, if_neg (by omega)]
    have run : zE (d + 1) 43 79 [some (.inr 53), some (.inr 5), some (.inl ((m : Int) - 1))] [] (zS, z_up (z_up (z_up (z_up (z_up σ 51 m (ma m)) 52 m (na m)) 53 m (fi m)) 54 m (la m)) 57 m (w_left ma fi la (n - m) m)) = some (.inl 0, (zS, σ')) := h1
    rw [l1, wx] at run
    simp (disch := first | omega | (simp (disch := omega) only [z_up_fn, z_up_ni, z_up_eq, z_up_qi, z_rw_fn] <;> omega) | fail) only [e_43_0, e_43_8, e_43_12, e_43_39, e_43_54, e_43_59, e_43_97, e_43_112, e_43_128, e_43_131, e_43_148, e_43_151, e_43_170, e_44_0, s_get_16, s_235, w_min1, z_wid, Option.bind_some, if_pos, if_neg, z_up_eq, z_up_ni, z_up_fn, Int.add_zero, q0, q1, q2, q3, hl]
    rw [show (m : Int) + -1 = (m : Int) - 1 by omega, Int.add_comm (w_left ma fi la (n - (m + 1)) (m + 1)), run]
    refine ⟨σ', rfl, fun c c1 c2 => ?_, fun g hg => ?_, fun g hg => ?_⟩
    · rw [h2 c c1 c2]
      simp (disch := omega) only [z_up_fn]
    · by_cases w : g = m
      · subst w
        have t := h4 g (by omega)
        simp (disch := omega) only [z_up_fn, z_up_eq] at t
        exact t
      · exact h3 g (by omega)
    · have t := h4 g (by omega)
      simp (disch := omega) only [z_up_fn, z_up_ni] at t
      exact t
theorem s_43 (d : Nat) (σ : Nat → Int → Int) (nr n : Nat) (bd na ma fi la : Int → Int) (hr : nr ≤ 4) (hn : n ≤ 6) (hb : ∀ g : Nat, g < n → 1 ≤ ma g ∧ ma g ≤ 9 ∧ 0 ≤ fi g ∧ fi g ≤ la g ∧ la g ≤ 19) (o0 : σ 14 0 = 1) (o3 : σ 14 3 = (nr : Int)) (o4 : ∀ x : Int, 0 ≤ x → x < nr → σ 15 x = bd x) (e0 : σ 16 0 = 4) (e3 : σ 16 3 = (n : Int)) (hT : ∀ g : Nat, g < n → σ 17 (4 * g) = na g ∧ σ 17 (4 * g + 1) = ma g ∧ σ 17 (4 * g + 2) = fi g ∧ σ 17 (4 * g + 3) = la g) : ∃ σ' : Nat → Int → Int, zE (d + 1) 43 0 [some (.inr 53), some (.inr 5), none] [] (zS, σ) = some (.inl 0, (zS, σ')) ∧ (∀ c : Nat, ¬ (49 ≤ c ∧ c ≤ 54) → c ≠ 57 → σ' c = σ c) ∧ (∀ j : Int, j ≠ 10 → j ≠ 11 → σ' 49 j = σ 49 j) ∧ w_DC nr n bd na ma fi la σ' := by
  rw [e_43_0, e_85_0_6, Option.bind_some, e_43_8, o3, s_236 _ _ _ _ (by omega), Option.bind_some, e_43_12]
  obtain ⟨σ1, a1, a2, a3, a4⟩ := s_43a d nr hr nr 0 (z_up σ 49 11 nr) (by omega) z_up_eq (by rw [z_up_fn (by omega)]; exact o0) (by rw [z_up_fn (by omega)]; exact o3)
  have a1 : zE (d + 1) 43 17 [some (.inr 53), some (.inr 5), some (.inl 0)] [] (zS, z_up σ 49 11 nr) = zE (d + 1) 43 17 [some (.inr 53), some (.inr 5), some (.inl nr)] [] (zS, σ1) := a1
  have f11 : σ1 49 11 = (nr : Int) := by rw [a2 49 (by omega), z_up_eq]
  have f16 : σ1 16 = σ 16 := by rw [a2 16 (by omega), z_up_fn (by omega)]
  have f17 : σ1 17 = σ 17 := by rw [a2 17 (by omega), z_up_fn (by omega)]
  rw [a1, e_43_17, if_neg (by omega), e_85_0_7, Option.bind_some, e_43_54, f16, e3, s_236 _ _ _ _ (by omega), Option.bind_some, e_43_59, if_pos (by omega), z_wid (by omega) (by omega)]
  obtain ⟨σ2, b1, b2, b3, b4⟩ := s_43b d n na ma fi la hn hb n (z_up (z_up σ1 49 10 n) 57 n 0) (by omega) (by simp (disch := omega) only [z_up_fn, f16]; exact e0) (by simp (disch := omega) only [z_up_fn, f16]; exact e3) (by simp (disch := omega) only [z_up_fn, f17]; exact hT) (by rw [z_up_eq, Nat.sub_self]; rfl)
  rw [b1]
  refine ⟨σ2, rfl, fun c c1 c2 => ?_, fun j j1 j2 => ?_, ?_, ?_, ?_, ?_, ?_⟩
  · rw [b2 c (by omega) c2, z_up_fn c2, z_up_fn (by omega), a2 c (by omega), z_up_fn (by omega)]
  · rw [b2 49 (by omega) (by omega), z_up_fn (by omega), z_up_ni j1, a2 49 (by omega), z_up_ni j2]
  · rw [b2 49 (by omega) (by omega), z_up_fn (by omega), z_up_ni (by omega), f11]
  · rw [b2 49 (by omega) (by omega), z_up_fn (by omega), z_up_eq]
  · intro x x0 x1
    rw [b2 50 (by omega) (by omega), z_up_fn (by omega), z_up_fn (by omega), a4 x (by omega) x1, z_up_fn (by omega), o4 x x0 x1]
  · intro g hg
    have t := b3 g hg
    exact ⟨t.1, t.2.1, t.2.2.1, t.2.2.2.1⟩
  · intro g hg
    by_cases w : g = n
    · subst w
      rw [(b4 g (by omega)).2.2.2.2, z_up_eq, Nat.sub_self]
      rfl
    · exact (b3 g (by omega)).2.2.2.2
/-- the office's rooming, worked out -/
theorem s_42 (d : Nat) (σ : Nat → Int → Int) (nr n : Nat) (bd na ma fi la : Int → Int) (B : w_DB nr n bd ma fi la) (o0 : σ 14 0 = 1) (o3 : σ 14 3 = (nr : Int)) (o4 : ∀ x : Int, 0 ≤ x → x < nr → σ 15 x = bd x) (e0 : σ 16 0 = 4) (e3 : σ 16 3 = (n : Int)) (hT : ∀ g : Nat, g < n → σ 17 (4 * g) = na g ∧ σ 17 (4 * g + 1) = ma g ∧ σ 17 (4 * g + 2) = fi g ∧ σ 17 (4 * g + 3) = la g) (hu : ∀ i : Int, 0 ≤ i → i < 80 → σ 55 i = 0) (hf : σ 49 13 = 0) : ∃ σ' : Nat → Int → Int, zE (d + 3 + n + 1) 42 0 [some (.inr 53), some (.inr 5)] [] (zS, σ) = some (.inl 0, (zS, σ')) ∧ (∀ c : Nat, ¬ (49 ≤ c ∧ c ≤ 59) → σ' c = σ c) ∧ σ' 49 13 = 1 ∧ σ' 49 10 = (n : Int) ∧ (∀ i : Int, 0 ≤ i → i < 80 → σ' 55 i = 0) ∧ w_R (σ' 49 12) (σ' 59) n (w_lo nr bd na ma fi la n 0 (fun _ => 0) 0 (-1, fun _ => 0)) := by
  have hB := B
  obtain ⟨b1, b2, b3, b4, b5⟩ := B
  obtain ⟨σ1, h1, h2, h3, h4⟩ := s_43 (d + 2 + n) σ nr n bd na ma fi la (by omega) b3 b5 o0 o3 o4 e0 e3 hT
  have h1 : zE (d + 3 + n) 43 0 [some (.inr 53), some (.inr 5), none] [] (zS, σ) = some (.inl 0, (zS, σ1)) := by
    rw [show d + 3 + n = d + 2 + n + 1 by omega]
    exact h1
  have f1 : w_FC σ1 (z_up σ1 49 12 (-1)) := ⟨fun c c1 _ _ _ _ => z_up_fn c1, fun j hj => z_up_ni hj⟩
  have u0 : ∀ i : Int, 0 ≤ i → i < 80 → z_up σ1 49 12 (-1) 55 i = 0 := fun i i0 i1 => by rw [z_up_fn (by omega), h2 55 (by omega) (by omega)]; exact hu i i0 i1
  obtain ⟨σ2, t1, t2, t3, t4, t5, t6⟩ := s_45m d nr n bd na ma fi la hB n 0 (by omega) (fun _ => 0) 0 (-1, fun _ => 0) (z_up σ1 49 12 (-1)) (w_DC_F f1 h4) rfl (fun x t x0 x1 y0 y1 => u0 _ (by omega) (by omega)) (fun x t k _ _ _ _ hk => absurd hk (Nat.not_lt_zero k)) (fun i hi => absurd hi (Nat.not_lt_zero i)) ⟨z_up_eq, fun q => absurd rfl q⟩
  have t1 : zE (d + 3 + n) 45 0 [some (.inr 53), some (.inl 0), some (.inl 0), none] [] (zS, z_up σ1 49 12 (-1)) = some (.inl 0, (zS, σ2)) := t1
  rw [e_42_0, if_pos hf, h1, Option.bind_some, e_42_13, t1, Option.bind_some, e_42_24]
  refine ⟨_, rfl, fun c hc => ?_, z_up_eq, ?_, fun i i0 i1 => ?_, ?_⟩
  · rw [z_up_fn (by omega), t2.1 c (by omega) (by omega) (by omega) (by omega) (by omega), z_up_fn (by omega), h2 c (by omega) (by omega)]
  · rw [z_up_ni (by omega), t2.2 10 (by omega), z_up_ni (by omega)]
    exact h4.2.1
  · rw [z_up_fn (by omega), t3]
    exact u0 i i0 i1
  · rw [z_up_ni (by omega), z_up_fn (by omega)]
    exact t6
