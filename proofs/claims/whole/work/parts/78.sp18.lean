/-- what the office's search reads -/
def w_DC (nr : Int) (n : Nat) (bd na ma fi la : Int → Int) (σ : Nat → Int → Int) : Prop := σ 49 11 = nr ∧ σ 49 10 = (n : Int) ∧ (∀ x, 0 ≤ x → x < nr → σ 50 x = bd x) ∧ (∀ g : Nat, g < n → σ 51 g = ma g ∧ σ 52 g = na g ∧ σ 53 g = fi g ∧ σ 54 g = la g) ∧ ∀ g : Nat, g ≤ n → σ 57 g = w_left ma fi la (n - g) g
def w_FC (σ σ' : Nat → Int → Int) : Prop := (∀ c : Nat, c ≠ 49 → c ≠ 55 → c ≠ 56 → c ≠ 58 → c ≠ 59 → σ' c = σ c) ∧ ∀ j : Int, j ≠ 12 → σ' 49 j = σ 49 j
theorem w_FC_tr {σ σ' σ'' : Nat → Int → Int} (a : w_FC σ σ') (b : w_FC σ' σ'') : w_FC σ σ'' := ⟨fun c h1 h2 h3 h4 h5 => by rw [b.1 c h1 h2 h3 h4 h5, a.1 c h1 h2 h3 h4 h5], fun j h => by rw [b.2 j h, a.2 j h]⟩
theorem w_FC_rf (σ : Nat → Int → Int) : w_FC σ σ := ⟨fun _ _ _ _ _ _ => rfl, fun _ _ => rfl⟩
theorem w_DC_F {nr : Int} {n : Nat} {bd na ma fi la : Int → Int} {σ σ' : Nat → Int → Int} (f : w_FC σ σ') (h : w_DC nr n bd na ma fi la σ) : w_DC nr n bd na ma fi la σ' := by
  obtain ⟨h1, h2, h3, h4, h5⟩ := h
  have F : ∀ c : Nat, c ≠ 49 → c ≠ 55 → c ≠ 56 → c ≠ 58 → c ≠ 59 → σ' c = σ c := f.1
  refine ⟨by rw [f.2 11 (by omega)]; exact h1, by rw [f.2 10 (by omega)]; exact h2, ?_, ?_, ?_⟩
  · rw [F 50 (by omega) (by omega) (by omega) (by omega) (by omega)]; exact h3
  · rw [F 51 (by omega) (by omega) (by omega) (by omega) (by omega), F 52 (by omega) (by omega) (by omega) (by omega) (by omega), F 53 (by omega) (by omega) (by omega) (by omega) (by omega), F 54 (by omega) (by omega) (by omega) (by omega) (by omega)]; exact h4
  · rw [F 57 (by omega) (by omega) (by omega) (by omega) (by omega)]; exact h5
/-- who is where -/
def w_U (nr : Int) (ma fi la r : Int → Int) (g : Nat) (u : Int → Int) : Prop := ∀ x t : Int, 0 ≤ x → x < nr → 0 ≤ t → t < 20 → u (20 * x + t) = w_use r ma fi la x t g
def w_N (nr : Int) (na fi la r : Int → Int) (g : Nat) (v : Int → Int) : Prop := ∀ (x t : Int) (k : Nat), 0 ≤ x → x < nr → 0 ≤ t → t < 20 → k < g → r k = x → fi k ≤ t → t ≤ la k → v (20 * x + t) = na k
def w_CS (d : Nat) (nr : Int) (n : Nat) (bd na ma fi la : Int → Int) (k g : Nat) : Prop := ∀ (r : Int → Int) (sum : Int) (st : Int × (Int → Int)) (σ : Nat → Int → Int), w_DC nr n bd na ma fi la σ → sum = w_sr nr r ma fi la g → w_U nr ma fi la r g (σ 55) → w_N nr na fi la r g (σ 56) → (∀ i : Nat, i < g → σ 58 i = if r i < nr then r i else -1) → w_R (σ 49 12) (σ 59) n st → ∃ σ' : Nat → Int → Int, zE (d + 3 + k) 45 0 [some (.inr 53), some (.inl g), some (.inl sum), none] [] (zS, σ) = some (.inl 0, (zS, σ')) ∧ w_FC σ σ' ∧ σ' 55 = σ 55 ∧ w_N nr na fi la r g (σ' 56) ∧ (∀ i : Nat, i < g → σ' 58 i = σ 58 i) ∧ w_R (σ' 49 12) (σ' 59) n (w_lo nr bd na ma fi la k g r sum st)
theorem s_45z (d : Nat) (nr : Int) (n : Nat) (bd na ma fi la : Int → Int) (B : w_DB nr n bd ma fi la) : w_CS d nr n bd na ma fi la 0 n := by
  intro r sum st σ hD hs hU hN hr hR
  obtain ⟨b1, b2, b3, b4, b5⟩ := B
  obtain ⟨e1, e2, e3, e4, e5⟩ := hD
  have el : σ 57 n = 0 := by
    rw [e5 n (by omega), Nat.sub_self]
    rfl
  have sr := w_sr_rng (nr := nr) (r := r) (ma := ma) (fi := fi) (la := la) (g := n) (fun k hk => b5 k hk)
  have n7 : 0 ≤ ((n : Nat) : Int) ∧ ((n : Nat) : Int) < 7 := by omega
  have u : w_lo nr bd na ma fi la 0 n r sum st = if st.1 < sum then (sum, fun i => if r i < nr then r i else -1) else st := by
    unfold w_lo
    rfl
  rw [e_45_0, if_neg (by omega), if_pos n7, el, Int.add_zero, z_wid (x := sum) (by omega) (by omega), u]
  by_cases c : σ 49 12 < sum
  · obtain ⟨σ', h1, h2, h3, h4⟩ := s_46l (d + 2) (some (.inl sum)) n b3 n 0 (z_up σ 49 12 sum) (by omega) (by rw [z_up_ni (by omega)]; exact e2)
    have h1 : zE (d + 2) 46 7 [some (.inr 53), some (.inl sum), some (.inl 0)] [] (zS, z_up σ 49 12 sum) = some (.inl 0, (zS, σ')) := h1
    rw [if_pos c, if_pos e2.symm, e_46_0, h1, Option.bind_some, e_45_37, if_pos (by rw [← hR.1]; exact c)]
    refine ⟨σ', rfl, ⟨fun q a1 a2 a3 a4 a5 => by rw [h2 q a5, z_up_fn a1], fun j hj => by rw [h2 49 (by omega), z_up_ni hj]⟩, by rw [h2 55 (by omega), z_up_fn (by omega)], by rw [h2 56 (by omega), z_up_fn (by omega)]; exact hN, fun i hi => by rw [h2 58 (by omega), z_up_fn (by omega)], by rw [h2 49 (by omega), z_up_eq], fun _ i hi => ?_⟩
    rw [h4 i (by omega) hi, z_up_fn (by omega)]
    exact hr i hi
  · rw [if_neg c, if_neg (by rw [← hR.1]; exact c)]
    exact ⟨σ, rfl, w_FC_rf σ, rfl, hN, fun _ _ => rfl, hR⟩
theorem s_45r (d : Nat) (nr : Int) (n : Nat) (bd na ma fi la : Int → Int) (B : w_DB nr n bd ma fi la) (k g : Nat) (hk : g + 1 + k = n) (IH : w_CS d nr n bd na ma fi la k (g + 1)) (r : Int → Int) : ∀ (m : Nat) (x : Int) (st : Int × (Int → Int)) (σ : Nat → Int → Int), x + m = nr → 0 ≤ x → w_DC nr n bd na ma fi la σ → w_U nr ma fi la r g (σ 55) → w_N nr na fi la r g (σ 56) → (∀ i : Nat, i < g → σ 58 i = if r i < nr then r i else -1) → w_R (σ 49 12) (σ 59) n st → ∃ σ' : Nat → Int → Int, zE (d + 3 + k + 1) 45 40 [some (.inr 53), some (.inl g), some (.inl (w_sr nr r ma fi la g)), some (.inl x)] [] (zS, σ) = some (.inl 0, (zS, σ')) ∧ w_FC σ σ' ∧ σ' 55 = σ 55 ∧ w_N nr na fi la r g (σ' 56) ∧ (∀ i : Nat, i < g → σ' 58 i = σ 58 i) ∧ w_R (σ' 49 12) (σ' 59) n (w_lo nr bd na ma fi la k (g + 1) (w_set r g nr) (w_sr nr r ma fi la g) (w_fold (fun x s => w_sel (w_stay bd na ma fi la r g x) (w_lo nr bd na ma fi la k (g + 1) (w_set r g x) (w_sr nr r ma fi la g + w_wt ma fi la g) s) s) m x st))
  | 0, x, st, σ, hm, x0, hD, hU, hN, hr, hR => by
    have hn6 := B.2.2.1
    have g6 : 0 ≤ ((g : Nat) : Int) ∧ ((g : Nat) : Int) < 6 := by omega
    have e1 := hD.1
    have u : w_sr nr (w_set r g nr) ma fi la (g + 1) = w_sr nr r ma fi la g := by
      have w : w_sr nr (w_set r g nr) ma fi la (g + 1) = w_sr nr (w_set r g nr) ma fi la g + (if w_set r g nr g < nr then w_wt ma fi la g else 0) := rfl
      rw [w, w_set_eq, w_sr_congr (fun i hi => w_set_ne r g nr i (by omega)), if_neg (by omega), Int.add_zero]
    have F1 : w_FC σ (z_up σ 58 g (-1)) := ⟨fun c a1 a2 a3 a4 a5 => z_up_fn a4, fun j hj => by rw [z_up_fn (by omega)]⟩
    obtain ⟨σ', t1, t2, t3, t4, t5, t6⟩ := IH (w_set r g nr) (w_sr nr r ma fi la g) st (z_up σ 58 g (-1)) (w_DC_F F1 hD) u.symm (fun x' t a1 a2 a3 a4 => by
        have w : w_use (w_set r g nr) ma fi la x' t (g + 1) = w_use (w_set r g nr) ma fi la x' t g + (if w_set r g nr g = x' ∧ fi g ≤ t ∧ t ≤ la g then ma g else 0) := rfl
        rw [w, w_set_eq, if_neg (fun q => by omega), Int.add_zero, w_use_congr (fun i hi => w_set_ne r g nr i (by omega)), z_up_fn (by omega)]
        exact hU x' t a1 a2 a3 a4) (fun x' t k' a1 a2 a3 a4 a5 a6 a7 a8 => by
        by_cases w : k' = g
        · subst w
          rw [w_set_eq] at a6
          omega
        · rw [w_set_ne _ _ _ _ (by omega)] at a6
          rw [z_up_fn (by omega)]
          exact hN x' t k' a1 a2 a3 a4 (by omega) a6 a7 a8) (fun i hi => by
        by_cases w : i = g
        · subst w
          rw [z_up_eq, w_set_eq, if_neg (by omega)]
        · rw [z_up_ni (by omega), w_set_ne _ _ _ _ (by omega)]
          exact hr i (by omega)) (by rw [z_up_fn (by omega), z_up_fn (by omega)]; exact hR)
    rw [e_45_40, if_neg (by omega), if_pos g6, z_wid (x := (g : Int) + 1) (by omega) (by omega), show (g : Int) + 1 = ((g + 1 : Nat) : Int) by omega, t1, Option.bind_some, e_45_127]
    refine ⟨σ', rfl, w_FC_tr F1 t2, by rw [t3, z_up_fn (by omega)], fun x' t k' a1 a2 a3 a4 a5 a6 a7 a8 => t4 x' t k' a1 a2 a3 a4 (by omega) (by rw [w_set_ne _ _ _ _ (by omega)]; exact a6) a7 a8, fun i hi => by rw [t5 i (by omega), z_up_ni (by omega)], t6⟩
  | m + 1, x, st, σ, hm, x0, hD, hU, hN, hr, hR => by
    have hD0 := hD
    have hB := B
    obtain ⟨b1, b2, b3, b4, b5⟩ := B
    obtain ⟨e1, e2, e3, e4, e5⟩ := hD
    have hg : g < n := by omega
    have g6 : 0 ≤ ((g : Nat) : Int) ∧ ((g : Nat) : Int) < 6 := by omega
    have xn : x < nr := by omega
    have bg := b5 g hg
    have bx := b4 x x0 xn
    have eg := e4 g hg
    have ex := e3 x x0 xn
    have hb : ∀ i : Nat, i < g → 1 ≤ ma i ∧ ma i ≤ 9 := fun i hi => by have := b5 i (by omega); omega
    have u : ∀ f : Int → Int × (Int → Int) → Int × (Int → Int), w_fold f (m + 1) x st = w_fold f m (x + 1) (f x st) := fun _ => rfl
    rw [u]
    obtain ⟨v, v1, v2⟩ := s_47 (d + 3 + k) g (by omega) x (fi g) (la g) σ (by omega) eg.2.2.1 eg.2.2.2 (by omega) (by omega) (by omega) (by omega)
    rw [e_45_40, if_pos (by omega), v1, Option.bind_some, e_45_54]
    rw [ex, eg.1, eg.2.1] at v2
    by_cases c : w_stay bd na ma fi la r g x
    · have v3 : v = 1 := by
        rcases v2 with v2 | v2
        · exact v2.1
        · exfalso
          rcases v2.2 with w | w
          · have q := (c (fi g) (by omega) (by omega)).1
            have p := w_use_rng (r := r) (ma := ma) (fi := fi) (la := la) (x := x) (d := fi g) (g := g) hb
            omega
          · obtain ⟨t, t1, t2, t3⟩ := w
            apply t3
            have q := c (t - 20 * x) (by omega) (by omega)
            have h5 := hU x (t - 20 * x) x0 xn (by omega) (by omega)
            rw [show 20 * x + (t - 20 * x) = t by omega] at h5
            refine ⟨by rw [h5]; omega, fun p => ?_⟩
            rw [h5] at p
            obtain ⟨k', k1, k2, k3, k4⟩ := w_use_pos hb p
            have h6 := hN x (t - 20 * x) k' x0 xn (by omega) (by omega) k1 k2 k3 k4
            rw [show 20 * x + (t - 20 * x) = t by omega] at h6
            rw [h6]
            exact q.2 k' k1 k2 k3 k4
      rw [v3, if_neg (by decide), if_pos g6, eg.1]
      have rng : ∀ t, 20 * x + fi g ≤ t → t ≤ 20 * x + la g → 0 ≤ σ 55 t ∧ σ 55 t ≤ 54 := by
        intro t t0 t1
        have h5 := hU x (t - 20 * x) x0 xn (by omega) (by omega)
        rw [show 20 * x + (t - 20 * x) = t by omega] at h5
        have p := w_use_rng (r := r) (ma := ma) (fi := fi) (la := la) (x := x) (d := t - 20 * x) (g := g) hb
        omega
      obtain ⟨σ1, p1, p2, p3, p4⟩ := s_48 (d + 3 + k) g (by omega) x (ma g) (fi g) (la g) σ (by omega) eg.2.2.1 eg.2.2.2 (by omega) (by omega) (by omega) (fun t t0 t1 => by have := rng t t0 t1; omega)
      have F1 : w_FC σ σ1 := ⟨fun c a1 a2 a3 a4 a5 => p2 c a2 a3, fun j hj => by rw [p2 49 (by omega) (by omega)]⟩
      have F2 : w_FC σ (z_up σ1 58 g x) := ⟨fun c a1 a2 a3 a4 a5 => by rw [z_up_fn a4, p2 c a2 a3], fun j hj => by rw [z_up_fn (by omega), p2 49 (by omega) (by omega)]⟩
      have D2 := w_DC_F F2 hD0
      have d4 := D2.2.2.2.1 g hg
      have wt : w_wt (z_up σ1 58 g x 51) (z_up σ1 58 g x 53) (z_up σ1 58 g x 54) g = w_wt ma fi la g := by
        unfold w_wt
        rw [d4.1, d4.2.2.1, d4.2.2.2]
      have wr := w_wt_rng bg
      have sr := w_sr_rng (nr := nr) (r := r) (ma := ma) (fi := fi) (la := la) (g := g) (fun k hk => b5 k (by omega))
      have us : w_sr nr (w_set r g x) ma fi la (g + 1) = w_sr nr r ma fi la g + w_wt ma fi la g := by
        have w : w_sr nr (w_set r g x) ma fi la (g + 1) = w_sr nr (w_set r g x) ma fi la g + (if w_set r g x g < nr then w_wt ma fi la g else 0) := rfl
        rw [w, w_set_eq, w_sr_congr (fun i hi => w_set_ne r g x i (by omega)), if_pos xn]
      obtain ⟨σ2, t1, t2, t3, t4, t5, t6⟩ := IH (w_set r g x) (w_sr nr r ma fi la g + w_wt ma fi la g) st (z_up σ1 58 g x) D2 us.symm (fun x' t a1 a2 a3 a4 => by
          have w : w_use (w_set r g x) ma fi la x' t (g + 1) = w_use (w_set r g x) ma fi la x' t g + (if w_set r g x g = x' ∧ fi g ≤ t ∧ t ≤ la g then ma g else 0) := rfl
          rw [w, w_set_eq, w_use_congr (fun i hi => w_set_ne r g x i (by omega)), z_up_fn (by omega), p3, hU x' t a1 a2 a3 a4]
          by_cases q : x = x' ∧ fi g ≤ t ∧ t ≤ la g
          · rw [if_pos q, if_pos (by omega)]
          · rw [if_neg q, if_neg (by omega)]) (fun x' t k' a1 a2 a3 a4 a5 a6 a7 a8 => by
          rw [z_up_fn (by omega), p4]
          by_cases q : 20 * x + fi g ≤ 20 * x' + t ∧ 20 * x' + t ≤ 20 * x + la g
          · rw [if_pos q, eg.2.1]
            by_cases w : k' = g
            · rw [w]
            · rw [w_set_ne _ _ _ _ (by omega)] at a6
              exact ((c t (by omega) (by omega)).2 k' (by omega) (by omega) a7 a8).symm
          · rw [if_neg q]
            by_cases w : k' = g
            · subst w
              rw [w_set_eq] at a6
              omega
            · rw [w_set_ne _ _ _ _ (by omega)] at a6
              exact hN x' t k' a1 a2 a3 a4 (by omega) a6 a7 a8) (fun i hi => by
          by_cases w : i = g
          · subst w
            rw [z_up_eq, w_set_eq, if_pos xn]
          · rw [z_up_ni (by omega), w_set_ne _ _ _ _ (by omega), p2 58 (by omega) (by omega)]
            exact hr i (by omega)) (by rw [z_up_fn (by omega), z_up_fn (by omega), p2 49 (by omega) (by omega), p2 59 (by omega) (by omega)]; exact hR)
      have D3 := w_DC_F t2 D2
      have d5 := D3.2.2.2.1 g hg
      rw [p1, Option.bind_some, e_45_72, if_pos g6, s_44 _ _ g (by omega) (by rw [d4.2.2.1, d4.2.2.2]; omega) (by rw [wt]; omega) (by rw [wt]; omega), Option.bind_some, e_45_89, wt, z_wid (x := (g : Int) + 1) (by omega) (by omega), z_wid (x := w_sr nr r ma fi la g + w_wt ma fi la g) (by omega) (by omega), show (g : Int) + 1 = ((g + 1 : Nat) : Int) by omega, t1, Option.bind_some, e_45_93, if_pos g6, d5.1, z_wid (x := -(ma g)) (by omega) (by omega)]
      have e55 : ∀ t, σ2 55 t = σ1 55 t := fun t => by rw [t3, z_up_fn (by omega)]
      obtain ⟨σ3, y1, y2, y3, y4⟩ := s_48 (d + 3 + k) g (by omega) x (-(ma g)) (fi g) (la g) σ2 (by omega) d5.2.2.1 d5.2.2.2 (by omega) (by omega) (by omega) (fun t q0 q1 => by
        have := rng t q0 q1
        rw [e55, p3, if_pos ⟨q0, q1⟩]
        omega)
      have F3 : w_FC σ2 σ3 := ⟨fun c a1 a2 a3 a4 a5 => y2 c a2 a3, fun j hj => by rw [y2 49 (by omega) (by omega)]⟩
      have f55 : σ3 55 = σ 55 := by
        funext t
        rw [y3, e55, p3]
        by_cases q : 20 * x + fi g ≤ t ∧ t ≤ 20 * x + la g
        · rw [if_pos q, if_pos q]; omega
        · rw [if_neg q, if_neg q]; omega
      have F : w_FC σ σ3 := w_FC_tr F2 (w_FC_tr t2 F3)
      obtain ⟨σ4, z1, z2, z3, z4, z5, z6⟩ := s_45r d nr n bd na ma fi la hB k g hk IH r m (x + 1) (w_lo nr bd na ma fi la k (g + 1) (w_set r g x) (w_sr nr r ma fi la g + w_wt ma fi la g) st) σ3 (by omega) (by omega) (w_DC_F F hD0) (by rw [f55]; exact hU) (fun x' t k' a1 a2 a3 a4 a5 a6 a7 a8 => by
        rw [y4]
        by_cases q : 20 * x + fi g ≤ 20 * x' + t ∧ 20 * x' + t ≤ 20 * x + la g
        · rw [if_pos q, d5.2.1]
          exact ((c t (by omega) (by omega)).2 k' a5 (by omega) a7 a8).symm
        · rw [if_neg q]
          exact t4 x' t k' a1 a2 a3 a4 (by omega) (by rw [w_set_ne _ _ _ _ (by omega)]; exact a6) a7 a8) (fun i hi => by
        rw [y2 58 (by omega) (by omega), t5 i (by omega), z_up_ni (by omega), p2 58 (by omega) (by omega)]
        exact hr i hi) (by rw [y2 49 (by omega) (by omega), y2 59 (by omega) (by omega)]; exact t6)
      rw [y1, Option.bind_some, e_45_106, z_wid (x := x + 1) (by omega) (by omega), z1]
      refine ⟨σ4, rfl, w_FC_tr F z2, by rw [z3, f55], z4, fun i hi => by rw [z5 i hi, y2 58 (by omega) (by omega), t5 i (by omega), z_up_ni (by omega), p2 58 (by omega) (by omega)], ?_⟩
      rw [w_sel_pos c]
      exact z6
    · have v3 : v = 0 := by
        rcases v2 with v2 | v2
        · exfalso
          apply c
          intro t t0 t1
          have h5 := hU x t x0 xn (by omega) (by omega)
          have w := v2.2.2 (20 * x + t) (by omega) (by omega)
          refine ⟨by omega, fun k' k1 k2 k3 k4 => ?_⟩
          have p := w_use_in hb k' k1 k2 k3 k4
          have h6 := hN x t k' x0 xn (by omega) (by omega) k1 k2 k3 k4
          rw [← h6]
          exact w.2 (by omega)
        · exact v2.1
      obtain ⟨σ4, z1, z2, z3, z4, z5, z6⟩ := s_45r d nr n bd na ma fi la hB k g hk IH r m (x + 1) st σ (by omega) (by omega) hD0 hU hN hr hR
      rw [v3, if_pos rfl, e_45_106, z_wid (x := x + 1) (by omega) (by omega), z1]
      refine ⟨σ4, rfl, z2, z3, z4, z5, ?_⟩
      rw [w_sel_neg c]
      exact z6
theorem s_45m (d : Nat) (nr : Int) (n : Nat) (bd na ma fi la : Int → Int) (B : w_DB nr n bd ma fi la) : ∀ (k g : Nat), g + k = n → w_CS d nr n bd na ma fi la k g
  | 0, g, hk => by
    have e : g = n := by omega
    subst e
    exact s_45z d nr g bd na ma fi la B
  | k + 1, g, hk => by
    intro r sum st σ hD hs hU hN hr hR
    have IH := s_45m d nr n bd na ma fi la B k (g + 1) (by omega)
    have hB := B
    obtain ⟨b1, b2, b3, b4, b5⟩ := B
    have hD0 := hD
    obtain ⟨e1, e2, e3, e4, e5⟩ := hD
    have el : σ 57 g = w_left ma fi la (k + 1) g := by
      rw [e5 g (by omega), show n - g = k + 1 by omega]
    have sr := w_sr_rng (nr := nr) (r := r) (ma := ma) (fi := fi) (la := la) (g := g) (fun k hk => b5 k (by omega))
    have lr := w_left_rng (ma := ma) (fi := fi) (la := la) (k := k + 1) (g := g) (fun j a b => b5 j (by omega))
    have g7 : 0 ≤ ((g : Nat) : Int) ∧ ((g : Nat) : Int) < 7 := by omega
    show ∃ σ' : Nat → Int → Int, zE (d + 3 + k + 1) 45 0 [some (.inr 53), some (.inl g), some (.inl sum), none] [] (zS, σ) = some (.inl 0, (zS, σ')) ∧ _
    rw [e_45_0, if_neg (by omega), if_pos g7, el, z_wid (x := sum + w_left ma fi la (k + 1) g) (by omega) (by omega)]
    by_cases c : σ 49 12 < sum + w_left ma fi la (k + 1) g
    · obtain ⟨σ', h1, h2, h3, h4, h5, h6⟩ := s_45r d nr n bd na ma fi la hB k g (by omega) IH r nr.toNat 0 st σ (by omega) (by omega) hD0 hU hN hr hR
      rw [if_pos c, if_neg (by omega), hs, h1]
      refine ⟨σ', rfl, h2, h3, h4, h5, ?_⟩
      unfold w_lo
      exact h6
    · rw [if_neg c, w_lo_le nr bd na ma fi la (k + 1) g r sum st (fun j a b => (w_wt_rng (b5 j (by omega))).1) (by rw [← hR.1]; omega)]
      exact ⟨σ, rfl, w_FC_rf σ, rfl, hN, fun _ _ => rfl, hR⟩
