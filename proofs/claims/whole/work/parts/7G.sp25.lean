/-- the office's table of units -/
def w_TU (n : Nat) (ha le wh bh rs li : Int → Int) (σ : Nat → Int → Int) : Prop := σ 12 0 = 6 ∧ σ 12 3 = (n : Int) ∧ ∀ u : Nat, u < n → σ 13 (6 * u) = ha u ∧ σ 13 (6 * u + 1) = le u ∧ σ 13 (6 * u + 2) = wh u ∧ σ 13 (6 * u + 3) = bh u ∧ σ 13 (6 * u + 4) = rs u ∧ σ 13 (6 * u + 5) = li u
theorem w_TU_F {n : Nat} {ha le wh bh rs li : Int → Int} {σ σ' : Nat → Int → Int} (a : σ' 12 = σ 12) (b : σ' 13 = σ 13) (h : w_TU n ha le wh bh rs li σ) : w_TU n ha le wh bh rs li σ' := by
  unfold w_TU at h ⊢
  rw [a, b]
  exact h
theorem s_55 (d : Nat) (n : Nat) (ha le wh bh rs li : Int → Int) (hn : n ≤ 6) (σ : Nat → Int → Int) (T : w_TU n ha le wh bh rs li σ) (u v : Nat) (hu : u < n) (hv : v < n) : zE (d + 1) 55 0 [some (.inr 16), some (.inl u), some (.inl v)] [] (zS, σ) = some (.inl (z_gap ha wh u v), (zS, σ)) := by
  obtain ⟨t0, t3, tt⟩ := T
  have a := tt u hu
  have b := tt v hv
  have g : ∀ (w : Nat) (c : Int), w < n → 0 ≤ c → c < 6 → zE d 88 0 [some (.inr 16), some (.inl w), some (.inl c)] [] (zS, σ) = some (.inl (σ 13 (6 * w + c)), (zS, σ)) := by
    intro w c hw c0 c1
    rw [s_get_12 _ _ _ _ t0 (by omega), if_pos (by omega)]
  unfold z_gap
  rw [e_55_0, g u 2 hu (by omega) (by omega), Option.bind_some, e_55_6, g v 2 hv (by omega) (by omega), Option.bind_some, e_55_12, a.2.2.1, b.2.2.1]
  by_cases c : z_and (wh u) (wh v) = 0
  · rw [if_pos c, if_pos c, g u 0 hu (by omega) (by omega), Option.bind_some, e_55_25, g v 0 hv (by omega) (by omega), Option.bind_some, e_55_31, Int.add_zero, Int.add_zero, a.1, b.1]
    by_cases e : ha u = ha v
    · rw [if_pos e, if_pos e]
    · rw [if_neg e, if_neg e]
  · rw [if_neg c, if_neg c]
theorem s_54g (d : Nat) (n : Nat) (ha le wh bh rs li : Int → Int) (hn : n ≤ 6) (u : Nat) (hu : u < n) : ∀ (j k : Nat) (σ : Nat → Int → Int), k + j = n → w_TU n ha le wh bh rs li σ → σ 39 9 = (n : Int) → ∃ σ' : Nat → Int → Int, zE (d + 2) 54 93 [some (.inr 43), some (.inr 16), some (.inl u), some (.inl k)] [] (zS, σ) = zE (d + 2) 54 93 [some (.inr 43), some (.inr 16), some (.inl u), some (.inl n)] [] (zS, σ') ∧ (∀ c : Nat, c ≠ 44 → σ' c = σ c) ∧ (∀ i : Int, i < 6 * u + k ∨ 6 * u + n ≤ i → σ' 44 i = σ 44 i) ∧ (∀ v : Nat, k ≤ v → v < n → σ' 44 (6 * u + v) = z_gap ha wh u v)
  | 0, k, σ, hk, T, e9 => ⟨σ, by rw [show k = n by omega], fun _ _ => rfl, fun _ _ => rfl, fun i a b => by omega⟩
  | j + 1, k, σ, hk, T, e9 => by
    have ix : 0 ≤ 6 * (u : Int) + (k : Int) ∧ 6 * (u : Int) + (k : Int) < 36 := by omega
    rw [e_54_93, e9, if_pos (by omega), s_55 d n ha le wh bh rs li hn σ T u k hu (by omega), Option.bind_some, e_54_117, z_wid (x := (u : Int) * 6) (by omega) (by omega), z_wid (x := (u : Int) * 6 + k) (by omega) (by omega), show (u : Int) * 6 + k = 6 * u + k by omega, if_pos ix, z_wid (x := (k : Int) + 1) (by omega) (by omega)]
    obtain ⟨σ', h1, h2, h3, h4⟩ := s_54g d n ha le wh bh rs li hn u hu j (k + 1) (z_up σ 44 (6 * u + k) (z_gap ha wh u k)) (by omega) (w_TU_F (z_up_fn (by omega)) (z_up_fn (by omega)) T) (by rw [z_up_fn (by omega)]; exact e9)
    refine ⟨σ', h1, fun c hc => ?_, fun i hi => ?_, fun v v0 v1 => ?_⟩
    · rw [h2 c hc, z_up_fn hc]
    · rw [h3 i (by omega), z_up_ni (by omega)]
    · by_cases w : v = k
      · subst w
        rw [h3 _ (by omega), z_up_eq]
      · exact h4 v (by omega) v1
theorem s_54a (d : Nat) (n : Nat) (ha le wh bh rs li : Int → Int) (hn : n ≤ 6) (u : Nat) (hu : u < n) (σ : Nat → Int → Int) (T : w_TU n ha le wh bh rs li σ) (e9 : σ 39 9 = (n : Int)) (b0 : 1 ≤ le u) (b1 : le u ≤ 240) (l : li u = 0 ∨ li u = 1) (o3 : Option (Int ⊕ Nat)) : zE (d + 2) 54 15 [some (.inr 43), some (.inr 16), some (.inl u), o3] [] (zS, σ) = zE (d + 2) 54 93 [some (.inr 43), some (.inr 16), some (.inl u), some (.inl 0)] [] (zS, z_up (z_up (z_up (z_up σ 40 u (le u)) 41 u (w_lim li u - le u)) 42 u (bh u)) 43 u (rs u)) := by
  obtain ⟨t0, t3, tt⟩ := T
  obtain ⟨a0, a1, a2, a3, a4, a5⟩ := tt u hu
  rw [e_54_15, if_pos (by omega)]
  unfold w_lim
  rcases l with l | l
  · rw [if_pos l]
    simp (disch := first | omega | (simp (disch := omega) only [z_up_fn, z_up_ni, z_up_eq, z_up_qi, z_rw_fn] <;> omega) | fail) only [e_54_0, e_54_5, e_54_10, e_54_34, e_54_46, e_54_78, e_54_90, e_54_117, s_get_12, z_wid, Option.bind_some, if_pos, if_neg, z_up_eq, z_up_fn, a1, a3, a4, a5]
  · rw [if_neg (by omega)]
    simp (disch := first | omega | (simp (disch := omega) only [z_up_fn, z_up_ni, z_up_eq, z_up_qi, z_rw_fn] <;> omega) | fail) only [e_54_0, e_54_5, e_54_10, e_54_34, e_54_46, e_54_78, e_54_90, e_54_117, s_get_12, z_wid, Option.bind_some, if_pos, if_neg, z_up_eq, z_up_fn, a1, a3, a4, a5]
theorem s_54l (d : Nat) (n : Nat) (ha le wh bh rs li : Int → Int) (hn : n ≤ 6) (hb : ∀ u : Nat, u < n → 1 ≤ le u ∧ le u ≤ 240 ∧ (li u = 0 ∨ li u = 1)) : ∀ (j u : Nat) (σ : Nat → Int → Int) (o3 : Option (Int ⊕ Nat)), u + j = n → w_TU n ha le wh bh rs li σ → σ 39 9 = (n : Int) → ∃ σ' : Nat → Int → Int, zE (d + 2) 54 15 [some (.inr 43), some (.inr 16), some (.inl u), o3] [] (zS, σ) = some (.inl 0, (zS, σ')) ∧ (∀ c : Nat, ¬ (40 ≤ c ∧ c ≤ 44) → σ' c = σ c) ∧ (∀ w : Nat, w < u → σ' 40 w = σ 40 w ∧ σ' 41 w = σ 41 w ∧ σ' 42 w = σ 42 w ∧ σ' 43 w = σ 43 w) ∧ (∀ i : Int, i < 6 * u → σ' 44 i = σ 44 i) ∧ (∀ w : Nat, u ≤ w → w < n → σ' 40 w = le w ∧ σ' 41 w = w_lim li w - le w ∧ σ' 42 w = bh w ∧ σ' 43 w = rs w ∧ ∀ v : Nat, v < n → σ' 44 (6 * w + v) = z_gap ha wh w v)
  | 0, u, σ, o3, hu, T, e9 => by
    rw [e_54_15, if_neg (by omega)]
    exact ⟨σ, rfl, fun _ _ => rfl, fun _ _ => ⟨rfl, rfl, rfl, rfl⟩, fun _ _ => rfl, fun w a b => by omega⟩
  | j + 1, u, σ, o3, hu, T, e9 => by
    have bu := hb u (by omega)
    have T1 : w_TU n ha le wh bh rs li (z_up (z_up (z_up (z_up σ 40 u (le u)) 41 u (w_lim li u - le u)) 42 u (bh u)) 43 u (rs u)) := w_TU_F (by simp (disch := omega) only [z_up_fn]) (by simp (disch := omega) only [z_up_fn]) T
    obtain ⟨σ1, g1, g2, g3, g4⟩ := s_54g d n ha le wh bh rs li hn u (by omega) n 0 _ (by omega) T1 (by simp (disch := omega) only [z_up_fn]; exact e9)
    have g1 : zE (d + 2) 54 93 [some (.inr 43), some (.inr 16), some (.inl u), some (.inl 0)] [] (zS, z_up (z_up (z_up (z_up σ 40 u (le u)) 41 u (w_lim li u - le u)) 42 u (bh u)) 43 u (rs u)) = zE (d + 2) 54 93 [some (.inr 43), some (.inr 16), some (.inl u), some (.inl n)] [] (zS, σ1) := g1
    have f9 : σ1 39 9 = (n : Int) := by
      rw [g2 39 (by omega)]
      simp (disch := omega) only [z_up_fn]
      exact e9
    obtain ⟨σ2, y1, y2, y3, y4, y5⟩ := s_54l d n ha le wh bh rs li hn hb j (u + 1) σ1 (some (.inl n)) (by omega) (w_TU_F (g2 12 (by omega)) (g2 13 (by omega)) T1) f9
    have y1 : zE (d + 2) 54 15 [some (.inr 43), some (.inr 16), some (.inl ((u : Int) + 1)), some (.inl n)] [] (zS, σ1) = some (.inl 0, (zS, σ2)) := y1
    rw [s_54a d n ha le wh bh rs li hn u (by omega) σ T e9 bu.1 bu.2.1 bu.2.2 o3, g1, e_54_93, f9, if_neg (by omega), z_wid (x := (u : Int) + 1) (by omega) (by omega), y1]
    refine ⟨σ2, rfl, fun c hc => ?_, fun w hw => ?_, fun i hi => ?_, fun w w0 w1 => ?_⟩
    · rw [y2 c hc, g2 c (by omega)]
      simp (disch := omega) only [z_up_fn]
    · have q := y3 w (by omega)
      rw [g2 40 (by omega), g2 41 (by omega), g2 42 (by omega), g2 43 (by omega)] at q
      simp (disch := omega) only [z_up_fn, z_up_ni] at q
      exact q
    · rw [y4 i (by omega), g3 i (by omega)]
      simp (disch := omega) only [z_up_fn]
    · by_cases e : w = u
      · subst e
        have q := y3 w (by omega)
        rw [g2 40 (by omega), g2 41 (by omega), g2 42 (by omega), g2 43 (by omega)] at q
        simp (disch := omega) only [z_up_fn, z_up_eq] at q
        refine ⟨q.1, q.2.1, q.2.2.1, q.2.2.2, fun v hv => ?_⟩
        rw [y4 _ (by omega)]
        exact g4 v (Nat.zero_le _) hv
      · exact y5 w (by omega) w1
theorem s_54 (d : Nat) (n : Nat) (ha le wh bh rs li : Int → Int) (hn : n ≤ 6) (hb : ∀ u : Nat, u < n → 1 ≤ le u ∧ le u ≤ 240 ∧ (li u = 0 ∨ li u = 1)) (σ : Nat → Int → Int) (T : w_TU n ha le wh bh rs li σ) : ∃ σ' : Nat → Int → Int, zE (d + 2) 54 0 [some (.inr 43), some (.inr 16), none, none] [] (zS, σ) = some (.inl 0, (zS, σ')) ∧ (∀ c : Nat, ¬ (39 ≤ c ∧ c ≤ 44) → σ' c = σ c) ∧ (∀ j : Int, j ≠ 9 → σ' 39 j = σ 39 j) ∧ σ' 39 9 = (n : Int) ∧ (∀ w : Nat, w < n → σ' 40 w = le w ∧ σ' 41 w = w_lim li w - le w ∧ σ' 42 w = bh w ∧ σ' 43 w = rs w ∧ ∀ v : Nat, v < n → σ' 44 (6 * w + v) = z_gap ha wh w v) := by
  obtain ⟨σ', h1, h2, h3, h4, h5⟩ := s_54l d n ha le wh bh rs li hn hb n 0 (z_up σ 39 9 n) none (by omega) (w_TU_F (z_up_fn (by omega)) (z_up_fn (by omega)) T) z_up_eq
  have h1 : zE (d + 2) 54 15 [some (.inr 43), some (.inr 16), some (.inl 0), none] [] (zS, z_up σ 39 9 n) = some (.inl 0, (zS, σ')) := h1
  have e3 := T.2.1
  rw [e_54_0, e_85_0_5, Option.bind_some, e_54_5, e3, s_236 _ _ _ _ (by omega), Option.bind_some, e_54_10, h1]
  exact ⟨σ', rfl, fun c hc => by rw [h2 c (by omega), z_up_fn (by omega)], fun j hj => by rw [h2 39 (by omega), z_up_ni hj], by rw [h2 39 (by omega), z_up_eq], fun w hw => h5 w (Nat.zero_le _) hw⟩
/-- the office's plan, worked out -/
theorem s_53 (d : Nat) (n : Nat) (ha le wh be li : Int → Int) (U : w_DU n ha le wh be li) (σ : Nat → Int → Int) (T : w_TU n ha le wh (fun u => if be u = -1 then -1 else be u % 10) (fun u => if be u = -1 then 0 else be u / 10) li σ) (hf : σ 39 11 = 0) : ∃ σ' : Nat → Int → Int, zE (d + 4 + n + 1) 53 0 [some (.inr 43), some (.inr 16)] [] (zS, σ) = some (.inl 0, (zS, σ')) ∧ (∀ c : Nat, ¬ (39 ≤ c ∧ c ≤ 48) → σ' c = σ c) ∧ σ' 39 11 = 1 ∧ w_DP n ha le wh be li σ' ∧ w_R3 (σ' 39 10) (σ' 47) (σ' 48) n (w_pl n ha le wh be li n 0 (fun _ => 0) (fun _ => 0) 0 (-1, fun _ => 0, fun _ => 0)) := by
  have n6 := U.1
  obtain ⟨σ1, a1, a2, a3, a4, a5⟩ := s_54 (d + 2 + n) n ha le wh _ _ li n6 (fun u hu => by have := U.2 u hu; exact ⟨by omega, by omega, this.2.2.2.2.2.2.2⟩) σ T
  have a1 : zE (d + 4 + n) 54 0 [some (.inr 43), some (.inr 16), none, none] [] (zS, σ) = some (.inl 0, (zS, σ1)) := by
    rw [show d + 4 + n = d + 2 + n + 2 by omega]
    exact a1
  have D : w_DP n ha le wh be li (z_up σ1 39 10 (-1)) := by
    refine ⟨by rw [z_up_ni (by omega)]; exact a4, fun u hu => ?_⟩
    simp (disch := omega) only [z_up_fn]
    exact a5 u hu
  obtain ⟨σ2, t1, t2, t3, t4⟩ := s_56m d n ha le wh be li U n 0 (by omega) (fun _ => 0) (fun _ => 0) 0 0 (-1, fun _ => 0, fun _ => 0) (z_up σ1 39 10 (-1)) D (fun k hk => absurd hk (Nat.not_lt_zero k)) (fun k hk => absurd hk (Nat.not_lt_zero k)) (by omega) (by omega) (fun v hv => by
    rw [w_zb0 _ (by omega) (by omega)]
    exact ⟨fun q => absurd q (by decide), fun ⟨k, k1, _⟩ => absurd k1 (Nat.not_lt_zero k)⟩) (by omega) (by omega) ⟨z_up_eq, fun q => absurd rfl q⟩ (Or.inl rfl)
  have t1 : zE (d + 4 + n) 56 0 [some (.inr 43), some (.inl 0), some (.inl 0), some (.inl 0), none, none, none] [] (zS, z_up σ1 39 10 (-1)) = some (.inl 0, (zS, σ2)) := t1
  have D2 := w_DP_F t2 D
  rw [e_53_0, if_pos hf, a1, Option.bind_some, e_53_13, t1, Option.bind_some, e_53_25]
  refine ⟨_, rfl, fun c hc => ?_, z_up_eq, ?_, ?_⟩
  · rw [z_up_fn (by omega), t2.1 c (by omega) (by omega), z_up_fn (by omega), a2 c (by omega)]
  · refine ⟨by rw [z_up_ni (by omega)]; exact D2.1, fun u hu => ?_⟩
    simp (disch := omega) only [z_up_fn]
    exact D2.2 u hu
  · rw [z_up_ni (by omega), z_up_fn (by omega), z_up_fn (by omega)]
    exact t4
