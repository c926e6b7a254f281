/-- what the reference's search reads -/
def w_DM (nr : Int) (n : Nat) (bd na ma fi la : Int → Int) (σ : Nat → Int → Int) : Prop := σ 71 36 = nr ∧ σ 71 38 = (n : Int) ∧ σ 99 = bd ∧ σ 100 = na ∧ σ 101 = ma ∧ σ 102 = fi ∧ σ 103 = la
/-- what a search of n groups may take for granted -/
def w_DB (nr : Int) (n : Nat) (bd ma fi la : Int → Int) : Prop := 0 ≤ nr ∧ nr ≤ 4 ∧ n ≤ 6 ∧ (∀ x, 0 ≤ x → x < nr → 1 ≤ bd x ∧ bd x ≤ 9) ∧ ∀ g : Nat, g < n → 1 ≤ ma g ∧ ma g ≤ 9 ∧ 0 ≤ fi g ∧ fi g ≤ la g ∧ la g ≤ 19
theorem s_194b (d : Nat) (σ : Nat → Int → Int) (n g : Nat) (x dd : Int) (hn : n ≤ 6) (hg : g < n) (hm : ∀ k : Nat, k < n → 1 ≤ σ 101 k ∧ σ 101 k ≤ 9) : ∀ (j k : Nat), k + j = g →
    ((∀ k' : Nat, k ≤ k' → k' < g → σ 111 k' = x → σ 102 k' ≤ dd → dd ≤ σ 103 k' → σ 100 k' = σ 100 g) ∧ zE (d + 1) 194 43 [some (.inr 75), some (.inl g), some (.inl x), some (.inl dd), some (.inl (σ 101 g + w_use (σ 111) (σ 101) (σ 102) (σ 103) x dd k)), some (.inl k)] [] (zS, σ) = zE (d + 1) 194 43 [some (.inr 75), some (.inl g), some (.inl x), some (.inl dd), some (.inl (σ 101 g + w_use (σ 111) (σ 101) (σ 102) (σ 103) x dd g)), some (.inl g)] [] (zS, σ))
    ∨ ((∃ k' : Nat, k' < g ∧ σ 111 k' = x ∧ σ 102 k' ≤ dd ∧ dd ≤ σ 103 k' ∧ σ 100 k' ≠ σ 100 g) ∧ zE (d + 1) 194 43 [some (.inr 75), some (.inl g), some (.inl x), some (.inl dd), some (.inl (σ 101 g + w_use (σ 111) (σ 101) (σ 102) (σ 103) x dd k)), some (.inl k)] [] (zS, σ) = some (.inl 0, (zS, σ)))
  | 0, k, hk => by
    have e : k = g := by omega
    subst e
    exact Or.inl ⟨fun k' a b => by omega, rfl⟩
  | j + 1, k, hk => by
    have ih := s_194b d σ n g x dd hn hg hm j (k + 1) (by omega)
    have u : w_use (σ 111) (σ 101) (σ 102) (σ 103) x dd (k + 1) = w_use (σ 111) (σ 101) (σ 102) (σ 103) x dd k + (if σ 111 k = x ∧ σ 102 k ≤ dd ∧ dd ≤ σ 103 k then σ 101 k else 0) := rfl
    have rg := w_use_rng (r := σ 111) (ma := σ 101) (fi := σ 102) (la := σ 103) (x := x) (d := dd) (g := k) (fun i hi => hm i (by omega))
    have mg := hm g hg
    have mk := hm k (by omega)
    rw [u, show (((k + 1 : Nat) : Nat) : Int) = (k : Int) + 1 by omega] at ih
    have b : ((k : Nat) : Int) < (g : Int) := by omega
    have b6 : 0 ≤ ((k : Nat) : Int) ∧ ((k : Nat) : Int) < 6 := by omega
    have g6 : 0 ≤ ((g : Nat) : Int) ∧ ((g : Nat) : Int) < 6 := by omega
    rw [e_194_43, if_pos b, if_pos b6]
    by_cases c : σ 111 k = x
    · rw [if_pos c, if_pos b6, if_pos b6, s_149, Option.bind_some, e_194_78]
      by_cases e : σ 102 k ≤ dd ∧ dd ≤ σ 103 k
      · rw [if_pos ⟨c, e.1, e.2⟩, ← Int.add_assoc] at ih
        rw [if_pos e, if_neg (by decide), if_pos b6, if_pos b6, if_pos g6]
        by_cases f : σ 100 k = σ 100 g
        · rw [if_pos f, z_wid (by omega) (by omega), z_wid (by omega) (by omega)]
          rcases ih with ih | ih
          · refine Or.inl ⟨fun k' h1 h2 h3 h4 h5 => ?_, ih.2⟩
            by_cases w : k' = k
            · subst w
              exact f
            · exact ih.1 k' (by omega) h2 h3 h4 h5
          · exact Or.inr ih
        · rw [if_neg f]
          exact Or.inr ⟨⟨k, by omega, c, e.1, e.2, f⟩, rfl⟩
      · rw [if_neg (fun q => e q.2), Int.add_zero] at ih
        rw [if_neg e, if_pos rfl, z_wid (by omega) (by omega)]
        rcases ih with ih | ih
        · refine Or.inl ⟨fun k' h1 h2 h3 h4 h5 => ?_, ih.2⟩
          by_cases w : k' = k
          · subst w
            exact absurd ⟨h4, h5⟩ e
          · exact ih.1 k' (by omega) h2 h3 h4 h5
        · exact Or.inr ih
    · rw [if_neg (fun q => c q.1), Int.add_zero] at ih
      rw [if_neg c, z_wid (by omega) (by omega)]
      rcases ih with ih | ih
      · refine Or.inl ⟨fun k' h1 h2 h3 h4 h5 => ?_, ih.2⟩
        by_cases w : k' = k
        · subst w
          exact absurd h3 c
        · exact ih.1 k' (by omega) h2 h3 h4 h5
      · exact Or.inr ih
theorem s_194a (d : Nat) (σ : Nat → Int → Int) (n g : Nat) (x : Int) (hn : n ≤ 6) (hg : g < n) (hr : σ 71 36 ≤ 4) (hx : 0 ≤ x ∧ x < σ 71 36) (hm : ∀ k : Nat, k < n → 1 ≤ σ 101 k ∧ σ 101 k ≤ 9) (hl : σ 103 g ≤ 19) : ∀ (j : Nat) (dd : Int) (o4 o5 : Option (Int ⊕ Nat)), 0 ≤ dd → dd + j = σ 103 g + 1 → ∃ v : Int, zE (d + 1) 194 14 [some (.inr 75), some (.inl g), some (.inl x), some (.inl dd), o4, o5] [] (zS, σ) = some (.inl v, (zS, σ)) ∧ ((v = 1 ∧ ∀ d' : Int, dd ≤ d' → d' ≤ σ 103 g → σ 101 g + w_use (σ 111) (σ 101) (σ 102) (σ 103) x d' g ≤ σ 99 x ∧ ∀ k : Nat, k < g → σ 111 k = x → σ 102 k ≤ d' → d' ≤ σ 103 k → σ 100 k = σ 100 g) ∨ (v = 0 ∧ ∃ d' : Int, dd ≤ d' ∧ d' ≤ σ 103 g ∧ ¬ (σ 101 g + w_use (σ 111) (σ 101) (σ 102) (σ 103) x d' g ≤ σ 99 x ∧ ∀ k : Nat, k < g → σ 111 k = x → σ 102 k ≤ d' → d' ≤ σ 103 k → σ 100 k = σ 100 g)))
  | 0, dd, o4, o5, d0, d1 => by
    have g6 : 0 ≤ ((g : Nat) : Int) ∧ ((g : Nat) : Int) < 6 := by omega
    refine ⟨1, ?_, Or.inl ⟨rfl, fun d' a b => by omega⟩⟩
    rw [e_194_14, if_pos hx.2, if_pos g6, if_pos (by omega)]
  | j + 1, dd, o4, o5, d0, d1 => by
    have g6 : 0 ≤ ((g : Nat) : Int) ∧ ((g : Nat) : Int) < 6 := by omega
    have lt : ¬ σ 103 g < dd := by omega
    have mg := hm g hg
    have q := s_194b d σ n g x dd hn hg hm g 0 (by omega)
    have u0 : w_use (σ 111) (σ 101) (σ 102) (σ 103) x dd 0 = 0 := rfl
    rw [u0, Int.add_zero, show (((0 : Nat) : Nat) : Int) = 0 by rfl] at q
    rw [e_194_14, if_pos hx.2, if_pos g6, if_neg lt, if_pos g6]
    rcases q with q | q
    · rw [q.2, e_194_43, if_neg (by omega), if_pos (by omega)]
      by_cases c : σ 99 x < σ 101 g + w_use (σ 111) (σ 101) (σ 102) (σ 103) x dd g
      · rw [if_pos c]
        exact ⟨0, rfl, Or.inr ⟨rfl, dd, Int.le_refl _, by omega, fun w => by omega⟩⟩
      · rw [if_neg c, z_wid (by omega) (by omega)]
        obtain ⟨v, h1, h2⟩ := s_194a d σ n g x hn hg hr hx hm hl j (dd + 1) (some (.inl (σ 101 g + w_use (σ 111) (σ 101) (σ 102) (σ 103) x dd g))) (some (.inl g)) (by omega) (by omega)
        refine ⟨v, h1, ?_⟩
        rcases h2 with h2 | h2
        · refine Or.inl ⟨h2.1, fun d' a b => ?_⟩
          by_cases w : d' = dd
          · subst w
            exact ⟨by omega, fun k hk => q.1 k (by omega) hk⟩
          · exact h2.2 d' (by omega) b
        · obtain ⟨h3, d', h4, h5, h6⟩ := h2
          exact Or.inr ⟨h3, d', by omega, h5, h6⟩
    · rw [q.2]
      obtain ⟨k, h1, h2, h3, h4, h5⟩ := q.1
      exact ⟨0, rfl, Or.inr ⟨rfl, dd, Int.le_refl _, by omega, fun w => h5 (w.2 k h1 h2 h3 h4)⟩⟩
/-- whether a group can stay where it is -/
theorem s_194 (d : Nat) (σ : Nat → Int → Int) (n g : Nat) (x : Int) (hn : n ≤ 6) (hg : g < n) (hr : σ 71 36 ≤ 4) (hx : 0 ≤ x) (e : σ 111 g = x) (hm : ∀ k : Nat, k < n → 1 ≤ σ 101 k ∧ σ 101 k ≤ 9) (hl : 0 ≤ σ 102 g ∧ σ 102 g ≤ σ 103 g ∧ σ 103 g ≤ 19) : ∃ v : Int, zE (d + 1) 194 0 [some (.inr 75), some (.inl g), none, none, none, none] [] (zS, σ) = some (.inl v, (zS, σ)) ∧ ((v = 1 ∧ (x < σ 71 36 → w_stay (σ 99) (σ 100) (σ 101) (σ 102) (σ 103) (σ 111) g x)) ∨ (v = 0 ∧ x < σ 71 36 ∧ ¬ w_stay (σ 99) (σ 100) (σ 101) (σ 102) (σ 103) (σ 111) g x)) := by
  have g6 : 0 ≤ ((g : Nat) : Int) ∧ ((g : Nat) : Int) < 6 := by omega
  rw [e_194_0, if_pos g6, if_pos g6, e]
  by_cases c : x < σ 71 36
  · obtain ⟨v, h1, h2⟩ := s_194a d σ n g x hn hg hr ⟨hx, c⟩ hm hl.2.2 (σ 103 g + 1 - σ 102 g).toNat (σ 102 g) none none hl.1 (by omega)
    refine ⟨v, h1, ?_⟩
    rcases h2 with h2 | h2
    · exact Or.inl ⟨h2.1, fun _ d' a b => h2.2 d' a b⟩
    · obtain ⟨h3, d', h4, h5, h6⟩ := h2
      exact Or.inr ⟨h3, c, fun w => h6 (w d' h4 h5)⟩
  · rw [e_194_14, if_neg c]
    exact ⟨1, rfl, Or.inl ⟨rfl, fun q => absurd q c⟩⟩
theorem s_195l (d : Nat) (σ : Nat → Int → Int) (n : Nat) (hn : n ≤ 6) (en : σ 71 38 = (n : Int)) (hm : ∀ g : Nat, g < n → 1 ≤ σ 101 g ∧ σ 101 g ≤ 9 ∧ 0 ≤ σ 102 g ∧ σ 102 g ≤ σ 103 g ∧ σ 103 g ≤ 19) : ∀ (j k : Nat), k + j = n → zE d 195 4 [some (.inr 75), some (.inl (w_sr (σ 71 36) (σ 111) (σ 101) (σ 102) (σ 103) k)), some (.inl k)] [] (zS, σ) = some (.inl (w_sr (σ 71 36) (σ 111) (σ 101) (σ 102) (σ 103) n), (zS, σ))
  | 0, k, hk => by
    have e : k = n := by omega
    subst e
    rw [e_195_4, if_neg (by omega)]
  | j + 1, k, hk => by
    have ih := s_195l d σ n hn en hm j (k + 1) (by omega)
    have u : w_sr (σ 71 36) (σ 111) (σ 101) (σ 102) (σ 103) (k + 1) = w_sr (σ 71 36) (σ 111) (σ 101) (σ 102) (σ 103) k + (if σ 111 k < σ 71 36 then w_wt (σ 101) (σ 102) (σ 103) k else 0) := rfl
    have a := w_sr_rng (nr := σ 71 36) (r := σ 111) (ma := σ 101) (fi := σ 102) (la := σ 103) (g := k) (fun i hi => hm i (by omega))
    have w := w_wt_rng (hm k (by omega))
    have hk2 := hm k (by omega)
    have b6 : 0 ≤ ((k : Nat) : Int) ∧ ((k : Nat) : Int) < 6 := by omega
    have x : w_wt (σ 101) (σ 102) (σ 103) k = σ 101 k * (σ 103 k - σ 102 k + 1) := rfl
    rw [u, show (((k + 1 : Nat) : Nat) : Int) = (k : Int) + 1 by omega] at ih
    rw [e_195_4, if_pos (by omega), if_pos b6]
    by_cases c : σ 111 k < σ 71 36
    · rw [if_pos c] at ih
      rw [if_pos c, if_pos b6, if_pos b6, if_pos b6, z_wid (x := σ 103 k - σ 102 k) (by omega) (by omega), z_wid (x := σ 103 k - σ 102 k + 1) (by omega) (by omega), ← x, z_wid (x := w_wt (σ 101) (σ 102) (σ 103) k) (by omega) (by omega), z_wid (by omega) (by omega), z_wid (by omega) (by omega)]
      exact ih
    · rw [if_neg c, Int.add_zero] at ih
      rw [if_neg c, Int.add_zero, z_wid (by omega) (by omega), z_wid (by omega) (by omega)]
      exact ih
theorem s_195 (d : Nat) (σ : Nat → Int → Int) (n : Nat) (hn : n ≤ 6) (en : σ 71 38 = (n : Int)) (hm : ∀ g : Nat, g < n → 1 ≤ σ 101 g ∧ σ 101 g ≤ 9 ∧ 0 ≤ σ 102 g ∧ σ 102 g ≤ σ 103 g ∧ σ 103 g ≤ 19) : zE d 195 0 [some (.inr 75), none, none] [] (zS, σ) = some (.inl (w_sr (σ 71 36) (σ 111) (σ 101) (σ 102) (σ 103) n), (zS, σ)) := by
  rw [e_195_0]
  exact s_195l d σ n hn en hm n 0 (by omega)
theorem s_196k (d : Nat) (n : Nat) (hn : n ≤ 6) (x1 : Int) (o2 : Option (Int ⊕ Nat)) : ∀ (j k : Nat) (σ : Nat → Int → Int), k + j = n → σ 71 38 = (n : Int) → ∃ σ' : Nat → Int → Int, zE d 196 59 [some (.inr 75), some (.inl x1), o2, some (.inl k)] [] (zS, σ) = zE d 196 59 [some (.inr 75), some (.inl x1), o2, some (.inl n)] [] (zS, σ') ∧ (∀ c : Nat, c ≠ 112 → σ' c = σ c) ∧ (∀ i : Nat, i < k → σ' 112 i = σ 112 i) ∧ (∀ i : Nat, k ≤ i → i < n → σ' 112 i = if σ 111 i < σ 71 36 then σ 111 i else -1)
  | 0, k, σ, hk, en => ⟨σ, by rw [show k = n by omega], fun _ _ => rfl, fun _ _ => rfl, fun i a b => by omega⟩
  | j + 1, k, σ, hk, en => by
    have b6 : 0 ≤ ((k : Nat) : Int) ∧ ((k : Nat) : Int) < 6 := by omega
    rw [e_196_59, if_pos (by omega), if_pos b6, z_wid (x := (k : Int) + 1) (by omega) (by omega)]
    by_cases c : σ 111 k < σ 71 36
    · rw [if_pos c, if_pos b6, if_pos b6]
      obtain ⟨σ', h1, h2, h3, h4⟩ := s_196k d n hn x1 o2 j (k + 1) (z_up σ 112 k (σ 111 k)) (by omega) (by simp (disch := omega) only [z_up_fn]; exact en)
      refine ⟨σ', h1, fun e he => ?_, fun i hi => ?_, fun i hi hj => ?_⟩
      · rw [h2 e he, z_up_fn he]
      · rw [h3 i (by omega), z_up_ni (by omega)]
      · by_cases w : i = k
        · subst w
          rw [h3 i (by omega), z_up_eq, if_pos c]
        · have q := h4 i (by omega) hj
          simp (disch := omega) only [z_up_fn] at q
          exact q
    · rw [if_neg c, if_pos b6]
      obtain ⟨σ', h1, h2, h3, h4⟩ := s_196k d n hn x1 o2 j (k + 1) (z_up σ 112 k (-1)) (by omega) (by simp (disch := omega) only [z_up_fn]; exact en)
      refine ⟨σ', h1, fun e he => ?_, fun i hi => ?_, fun i hi hj => ?_⟩
      · rw [h2 e he, z_up_fn he]
      · rw [h3 i (by omega), z_up_ni (by omega)]
      · by_cases w : i = k
        · subst w
          rw [h3 i (by omega), z_up_eq, if_neg c]
        · have q := h4 i (by omega) hj
          simp (disch := omega) only [z_up_fn] at q
          exact q
def w_FM (σ σ' : Nat → Int → Int) : Prop := (∀ c : Nat, c ≠ 111 → c ≠ 112 → c ≠ 71 → σ' c = σ c) ∧ ∀ j : Int, j ≠ 57 → σ' 71 j = σ 71 j
theorem w_FM_tr {σ σ' σ'' : Nat → Int → Int} (a : w_FM σ σ') (b : w_FM σ' σ'') : w_FM σ σ'' := ⟨fun c h1 h2 h3 => by rw [b.1 c h1 h2 h3, a.1 c h1 h2 h3], fun j h => by rw [b.2 j h, a.2 j h]⟩
theorem w_FM_111 (σ : Nat → Int → Int) (i v : Int) : w_FM σ (z_up σ 111 i v) := ⟨fun c h1 h2 h3 => z_up_fn h1, fun j h => by rw [z_up_fn (by omega)]⟩
theorem w_DM_F {nr : Int} {n : Nat} {bd na ma fi la : Int → Int} {σ σ' : Nat → Int → Int} (f : w_FM σ σ') (h : w_DM nr n bd na ma fi la σ) : w_DM nr n bd na ma fi la σ' := by
  obtain ⟨h1, h2, h3, h4, h5, h6, h7⟩ := h
  refine ⟨by rw [f.2 36 (by omega)]; exact h1, by rw [f.2 38 (by omega)]; exact h2, ?_, ?_, ?_, ?_, ?_⟩
  · rw [f.1 99 (by omega) (by omega) (by omega)]; exact h3
  · rw [f.1 100 (by omega) (by omega) (by omega)]; exact h4
  · rw [f.1 101 (by omega) (by omega) (by omega)]; exact h5
  · rw [f.1 102 (by omega) (by omega) (by omega)]; exact h6
  · rw [f.1 103 (by omega) (by omega) (by omega)]; exact h7
/-- the reference's search from group g on, k groups long -/
def w_MS (d : Nat) (nr : Int) (n : Nat) (bd na ma fi la : Int → Int) (k g : Nat) : Prop := ∀ (r : Int → Int) (sum : Int) (st : Int × (Int → Int)) (σ : Nat → Int → Int) (o2 o3 : Option (Int ⊕ Nat)), w_DM nr n bd na ma fi la σ → (∀ i : Nat, i < g → σ 111 i = r i) → (k ≠ 0 → σ 111 g = -1) → sum = w_sr nr r ma fi la g → w_R (σ 71 57) (σ 112) n st → ∃ (σ' : Nat → Int → Int) (p2 p3 : Option (Int ⊕ Nat)), zE (d + 2) 196 27 [some (.inr 75), some (.inl g), o2, o3] [] (zS, σ) = zE (d + 2) 196 27 [some (.inr 75), some (.inl ((g : Int) - 1)), p2, p3] [] (zS, σ') ∧ w_FM σ σ' ∧ (∀ i : Nat, i < g → σ' 111 i = σ 111 i) ∧ w_R (σ' 71 57) (σ' 112) n (w_lo nr bd na ma fi la k g r sum st)
theorem s_196z (d : Nat) (nr : Int) (n : Nat) (bd na ma fi la : Int → Int) (B : w_DB nr n bd ma fi la) : w_MS d nr n bd na ma fi la 0 n := by
  intro r sum st σ o2 o3 hD ha h1 hs hR
  obtain ⟨b1, b2, b3, b4, b5⟩ := B
  obtain ⟨e1, e2, e3, e4, e5, e6, e7⟩ := hD
  have es : w_sr (σ 71 36) (σ 111) (σ 101) (σ 102) (σ 103) n = sum := by
    rw [e1, e5, e6, e7, w_sr_congr ha, hs]
  rw [e_196_27, if_neg (by omega), if_pos e2.symm, s_195 _ σ n b3 e2 (by rw [e5, e6, e7]; exact b5), Option.bind_some, es, e_196_43]
  have u : w_lo nr bd na ma fi la 0 n r sum st = if st.1 < sum then (sum, fun i => if r i < nr then r i else -1) else st := by
    unfold w_lo
    rfl
  rw [u]
  by_cases c : σ 71 57 < sum
  · obtain ⟨σ', h2, h3, h4, h5⟩ := s_196k (d + 2) n b3 n (some (.inl sum)) n 0 (z_up σ 71 57 sum) (by omega) (by rw [z_up_ni (by omega)]; exact e2)
    have h2 : zE (d + 2) 196 59 [some (.inr 75), some (.inl (n : Int)), some (.inl sum), some (.inl 0)] [] (zS, z_up σ 71 57 sum) = zE (d + 2) 196 59 [some (.inr 75), some (.inl (n : Int)), some (.inl sum), some (.inl n)] [] (zS, σ') := h2
    have e38 : σ' 71 38 = (n : Int) := by rw [h3 71 (by omega), z_up_ni (by omega)]; exact e2
    rw [if_pos c, if_pos (by rw [← hR.1]; exact c), h2, e_196_59, if_neg (by omega), z_wid (by omega) (by omega)]
    refine ⟨σ', _, _, rfl, ⟨fun e f1 f2 f3 => by rw [h3 e f2, z_up_fn f3], fun j hj => by rw [h3 71 (by omega), z_up_ni hj]⟩, fun i hi => by rw [h3 111 (by omega), z_up_fn (by omega)], by rw [h3 71 (by omega), z_up_eq], fun _ i hi => ?_⟩
    have q := h5 i (by omega) hi
    rw [z_up_fn (by omega), z_up_ni (by omega), e1, ha i hi] at q
    exact q
  · rw [if_neg c, if_neg (by rw [← hR.1]; exact c), z_wid (by omega) (by omega)]
    exact ⟨σ, _, _, rfl, ⟨fun _ _ _ _ => rfl, fun _ _ => rfl⟩, fun _ _ => rfl, hR⟩
/-- a room that may be is tried out -/
theorem s_196d (d : Nat) (nr : Int) (n : Nat) (bd na ma fi la : Int → Int) (B : w_DB nr n bd ma fi la) (k g : Nat) (hk : g + 1 + k = n) (IH : w_MS d nr n bd na ma fi la k (g + 1)) (r : Int → Int) (x : Int) (st : Int × (Int → Int)) (σ : Nat → Int → Int) (o2 o3 : Option (Int ⊕ Nat)) (hD : w_DM nr n bd na ma fi la σ) (ha : ∀ i : Nat, i < g → σ 111 i = r i) (hx : σ 111 g = x) (x0 : 0 ≤ x) (x1 : x ≤ nr) (hf : x < nr → w_stay bd na ma fi la r g x) (hR : w_R (σ 71 57) (σ 112) n st) : ∃ (σ' : Nat → Int → Int) (p2 p3 : Option (Int ⊕ Nat)), zE (d + 2) 196 118 [some (.inr 75), some (.inl g), o2, o3] [] (zS, σ) = zE (d + 2) 196 118 [some (.inr 75), some (.inl g), p2, p3] [] (zS, σ') ∧ w_FM σ σ' ∧ (∀ i : Nat, i < g → σ' 111 i = σ 111 i) ∧ σ' 111 g = x + 1 ∧ w_R (σ' 71 57) (σ' 112) n (w_lo nr bd na ma fi la k (g + 1) (w_set r g x) (w_sr nr r ma fi la g + (if x < nr then w_wt ma fi la g else 0)) st) := by
  have hD0 := hD
  obtain ⟨b1, b2, b3, b4, b5⟩ := B
  obtain ⟨e1, e2, e3, e4, e5, e6, e7⟩ := hD
  have hg : g < n := by omega
  have g6 : 0 ≤ ((g : Nat) : Int) ∧ ((g : Nat) : Int) < 6 := by omega
  have bg := b5 g hg
  have lt : ¬ σ 71 36 < σ 111 g := by rw [hx, e1]; omega
  obtain ⟨v, v1, v2⟩ := s_194 d σ n g x b3 hg (by omega) x0 hx (by rw [e5]; intro i hi; have := b5 i hi; omega) (by rw [e6, e7]; omega)
  have v3 : v = 1 := by
    rcases v2 with v2 | v2
    · exact v2.1
    · exfalso
      apply v2.2.2
      rw [e3, e4, e5, e6, e7]
      exact w_stay_congr (fun i hi => (ha i hi).symm) (hf (by omega))
  have u : w_sr nr (w_set r g x) ma fi la (g + 1) = w_sr nr r ma fi la g + (if x < nr then w_wt ma fi la g else 0) := by
    have w : w_sr nr (w_set r g x) ma fi la (g + 1) = w_sr nr (w_set r g x) ma fi la g + (if w_set r g x g < nr then w_wt ma fi la g else 0) := rfl
    rw [w, w_set_eq, w_sr_congr (fun i hi => w_set_ne r g x i (by omega))]
  have step : ∃ σ2 : Nat → Int → Int, zE (d + 2) 196 118 [some (.inr 75), some (.inl g), o2, o3] [] (zS, σ) = zE (d + 2) 196 27 [some (.inr 75), some (.inl ((g + 1 : Nat) : Int)), o2, o3] [] (zS, σ2) ∧ w_FM σ σ2 ∧ (∀ i : Nat, i ≤ g → σ2 111 i = σ 111 i) ∧ (k ≠ 0 → σ2 111 ((g + 1 : Nat) : Int) = -1) ∧ σ2 71 = σ 71 ∧ σ2 112 = σ 112 := by
    rw [e_196_118, if_pos g6, if_neg lt, v1, v3, Option.bind_some, e_196_136, if_neg (by decide), if_pos g6, if_neg lt, z_wid (by omega) (by omega)]
    by_cases c : (g : Int) + 1 < σ 71 38
    · rw [if_pos c, if_pos (by omega)]
      refine ⟨_, by rw [show ((g + 1 : Nat) : Int) = (g : Int) + 1 by omega], w_FM_111 _ _ _, fun i hi => by rw [z_up_ni (by omega)], fun _ => by rw [show ((g + 1 : Nat) : Int) = (g : Int) + 1 by omega, z_up_eq], z_up_fn (by omega), z_up_fn (by omega)⟩
    · rw [if_neg c]
      exact ⟨σ, by rw [show ((g + 1 : Nat) : Int) = (g : Int) + 1 by omega], ⟨fun _ _ _ _ => rfl, fun _ _ => rfl⟩, fun _ _ => rfl, fun q => by omega, rfl, rfl⟩
  obtain ⟨σ2, s1, s2, s3, s4, s5, s6⟩ := step
  obtain ⟨σ3, p2, p3, t1, t2, t3, t4⟩ := IH (w_set r g x) (w_sr nr (w_set r g x) ma fi la (g + 1)) st σ2 o2 o3 (w_DM_F s2 hD0) (fun i hi => by
      rw [s3 i (by omega)]
      by_cases w : i = g
      · subst w
        rw [w_set_eq, hx]
      · rw [w_set_ne _ _ _ _ (by omega), ha i (by omega)]) s4 rfl (by rw [s5, s6]; exact hR)
  have f3 := w_FM_tr s2 t2
  have h38 : σ3 71 38 = (n : Int) := by rw [f3.2 38 (by omega)]; exact e2
  have hx3 : σ3 111 g = x := by rw [t3 g (by omega), s3 g (by omega), hx]
  rw [s1, t1, show (((g + 1 : Nat) : Int) - 1) = (g : Int) by omega, e_196_27, if_neg (by omega), if_neg (by omega), if_pos g6, if_pos g6, hx3, z_wid (by omega) (by omega)]
  refine ⟨_, _, _, rfl, w_FM_tr f3 (w_FM_111 _ _ _), fun i hi => ?_, z_up_eq, ?_⟩
  · rw [z_up_ni (by omega), t3 i (by omega), s3 i (by omega)]
  · rw [z_up_fn (by omega), z_up_fn (by omega), ← u]
    exact t4
theorem s_196r (d : Nat) (nr : Int) (n : Nat) (bd na ma fi la : Int → Int) (B : w_DB nr n bd ma fi la) (k g : Nat) (hk : g + 1 + k = n) (IH : w_MS d nr n bd na ma fi la k (g + 1)) (r : Int → Int) : ∀ (m : Nat) (x : Int) (st : Int × (Int → Int)) (σ : Nat → Int → Int) (o2 o3 : Option (Int ⊕ Nat)), x + m = nr → 0 ≤ x → w_DM nr n bd na ma fi la σ → (∀ i : Nat, i < g → σ 111 i = r i) → σ 111 g = x → w_R (σ 71 57) (σ 112) n st → ∃ (σ' : Nat → Int → Int) (p2 p3 : Option (Int ⊕ Nat)), zE (d + 2) 196 118 [some (.inr 75), some (.inl g), o2, o3] [] (zS, σ) = zE (d + 2) 196 27 [some (.inr 75), some (.inl ((g : Int) - 1)), p2, p3] [] (zS, σ') ∧ w_FM σ σ' ∧ (∀ i : Nat, i < g → σ' 111 i = σ 111 i) ∧ w_R (σ' 71 57) (σ' 112) n (w_lo nr bd na ma fi la k (g + 1) (w_set r g nr) (w_sr nr r ma fi la g) (w_fold (fun x s => w_sel (w_stay bd na ma fi la r g x) (w_lo nr bd na ma fi la k (g + 1) (w_set r g x) (w_sr nr r ma fi la g + w_wt ma fi la g) s) s) m x st))
  | 0, x, st, σ, o2, o3, hm, x0, hD, ha, hx, hR => by
    have g6 : 0 ≤ ((g : Nat) : Int) ∧ ((g : Nat) : Int) < 6 := by have := B.2.2.1; omega
    obtain ⟨σ2, p2, p3, t1, t2, t3, t4, t5⟩ := s_196d d nr n bd na ma fi la B k g hk IH r x st σ o2 o3 hD ha hx x0 (by omega) (fun q => by omega) hR
    have e : x = nr := by omega
    have e36 : σ2 71 36 = nr := by rw [t2.2 36 (by omega)]; exact hD.1
    rw [if_neg (by omega), Int.add_zero, e] at t5
    have lt : σ2 71 36 < σ2 111 g := by rw [e36, t4]; omega
    rw [t1, e_196_118, if_pos g6, if_pos lt, if_pos g6, if_pos lt, z_wid (by omega) (by omega)]
    exact ⟨σ2, p2, p3, rfl, t2, t3, t5⟩
  | m + 1, x, st, σ, o2, o3, hm, x0, hD, ha, hx, hR => by
    have g6 : 0 ≤ ((g : Nat) : Int) ∧ ((g : Nat) : Int) < 6 := by have := B.2.2.1; omega
    have u : ∀ f : Int → Int × (Int → Int) → Int × (Int → Int), w_fold f (m + 1) x st = w_fold f m (x + 1) (f x st) := fun _ => rfl
    rw [u]
    have xn : x < nr := by omega
    by_cases c : w_stay bd na ma fi la r g x
    · obtain ⟨σ2, p2, p3, t1, t2, t3, t4, t5⟩ := s_196d d nr n bd na ma fi la B k g hk IH r x st σ o2 o3 hD ha hx x0 (by omega) (fun _ => c) hR
      rw [if_pos xn] at t5
      obtain ⟨σ3, q2, q3, y1, y2, y3, y4⟩ := s_196r d nr n bd na ma fi la B k g hk IH r m (x + 1) _ σ2 p2 p3 (by omega) (by omega) (w_DM_F t2 hD) (fun i hi => by rw [t3 i hi, ha i hi]) t4 t5
      refine ⟨σ3, q2, q3, by rw [t1, y1], w_FM_tr t2 y2, fun i hi => by rw [y3 i hi, t3 i hi], ?_⟩
      rw [w_sel_pos c]
      exact y4
    · have hD0 := hD
      obtain ⟨b1, b2, b3, b4, b5⟩ := B
      obtain ⟨e1, e2, e3, e4, e5, e6, e7⟩ := hD
      have bg := b5 g (by omega)
      have lt : ¬ σ 71 36 < σ 111 g := by rw [hx, e1]; omega
      obtain ⟨v, v1, v2⟩ := s_194 d σ n g x b3 (by omega) (by omega) x0 hx (by rw [e5]; intro i hi; have := b5 i hi; omega) (by rw [e6, e7]; omega)
      have v3 : v = 0 := by
        rcases v2 with v2 | v2
        · exfalso
          apply c
          have w := v2.2 (by omega)
          rw [e3, e4, e5, e6, e7] at w
          exact w_stay_congr (fun i hi => ha i hi) w
        · exact v2.1
      obtain ⟨σ3, q2, q3, y1, y2, y3, y4⟩ := s_196r d nr n bd na ma fi la ⟨b1, b2, b3, b4, b5⟩ k g hk IH r m (x + 1) st (z_up σ 111 g (x + 1)) o2 o3 (by omega) (by omega) (w_DM_F (w_FM_111 _ _ _) hD0) (fun i hi => by rw [z_up_ni (by omega), ha i hi]) z_up_eq (by rw [z_up_fn (by omega), z_up_fn (by omega)]; exact hR)
      rw [e_196_118, if_pos g6, if_neg lt, v1, v3, Option.bind_some, e_196_136, if_pos rfl, if_pos g6, if_pos g6, hx, z_wid (by omega) (by omega)]
      refine ⟨σ3, q2, q3, y1, w_FM_tr (w_FM_111 _ _ _) y2, fun i hi => by rw [y3 i hi, z_up_ni (by omega)], ?_⟩
      rw [w_sel_neg c]
      exact y4
theorem s_196m (d : Nat) (nr : Int) (n : Nat) (bd na ma fi la : Int → Int) (B : w_DB nr n bd ma fi la) : ∀ (k g : Nat), g + k = n → w_MS d nr n bd na ma fi la k g
  | 0, g, hk => by
    have e : g = n := by omega
    subst e
    exact s_196z d nr g bd na ma fi la B
  | k + 1, g, hk => by
    intro r sum st σ o2 o3 hD ha h1 hs hR
    have g6 : 0 ≤ ((g : Nat) : Int) ∧ ((g : Nat) : Int) < 6 := by have := B.2.2.1; omega
    have IH := s_196m d nr n bd na ma fi la B k (g + 1) (by omega)
    have e2 := hD.2.1
    have nr0 := B.1
    obtain ⟨σ3, q2, q3, y1, y2, y3, y4⟩ := s_196r d nr n bd na ma fi la B k g (by omega) IH r nr.toNat 0 st (z_up σ 111 g 0) o2 o3 (by omega) (by omega) (w_DM_F (w_FM_111 _ _ _) hD) (fun i hi => by rw [z_up_ni (by omega), ha i hi]) z_up_eq (by rw [z_up_fn (by omega), z_up_fn (by omega)]; exact hR)
    rw [e_196_27, if_neg (by omega), if_neg (by omega), if_pos g6, if_pos g6, h1 (by omega), show z_wrap (-1 + 1) = 0 by decide]
    refine ⟨σ3, q2, q3, y1, w_FM_tr (w_FM_111 _ _ _) y2, fun i hi => by rw [y3 i hi, z_up_ni (by omega)], ?_⟩
    rw [hs]
    unfold w_lo
    exact y4
/-- the reference's search -/
theorem s_196 (d : Nat) (nr : Int) (n : Nat) (bd na ma fi la : Int → Int) (B : w_DB nr n bd ma fi la) (σ : Nat → Int → Int) (hD : w_DM nr n bd na ma fi la σ) (h0 : σ 71 48 = 0) : ∃ σ' : Nat → Int → Int, zE (d + 2) 196 0 [some (.inr 75), none, none, none] [] (zS, σ) = some (.inl 0, (zS, σ')) ∧ (∀ c : Nat, c ≠ 111 → c ≠ 112 → c ≠ 71 → σ' c = σ c) ∧ (∀ j : Int, j ≠ 57 → j ≠ 48 → σ' 71 j = σ 71 j) ∧ σ' 71 48 = 1 ∧ w_R (σ' 71 57) (σ' 112) n (w_lo nr bd na ma fi la n 0 (fun _ => 0) 0 (-1, fun _ => 0)) := by
  obtain ⟨e1, e2, e3, e4, e5, e6, e7⟩ := hD
  have D2 : w_DM nr n bd na ma fi la (z_up (z_up (z_up σ 71 48 1) 71 57 (-1)) 111 0 (-1)) := by
    refine ⟨?_, ?_, ?_, ?_, ?_, ?_, ?_⟩
    · simp (disch := omega) only [z_up_fn, z_up_ni]; exact e1
    · simp (disch := omega) only [z_up_fn, z_up_ni]; exact e2
    · simp (disch := omega) only [z_up_fn]; exact e3
    · simp (disch := omega) only [z_up_fn]; exact e4
    · simp (disch := omega) only [z_up_fn]; exact e5
    · simp (disch := omega) only [z_up_fn]; exact e6
    · simp (disch := omega) only [z_up_fn]; exact e7
  obtain ⟨σ', p2, p3, t1, t2, t3, t4⟩ := s_196m d nr n bd na ma fi la B n 0 (by omega) (fun _ => 0) 0 (-1, fun _ => 0) _ none none D2 (fun i hi => absurd hi (Nat.not_lt_zero i)) (fun _ => z_up_eq) rfl ⟨by simp (disch := omega) only [z_up_fn, z_up_eq], fun q => absurd rfl q⟩
  have t1 : zE (d + 2) 196 27 [some (.inr 75), some (.inl 0), none, none] [] (zS, z_up (z_up (z_up σ 71 48 1) 71 57 (-1)) 111 0 (-1)) = zE (d + 2) 196 27 [some (.inr 75), some (.inl (-1)), p2, p3] [] (zS, σ') := t1
  rw [e_196_0, if_pos h0, t1, e_196_27, if_pos (by omega)]
  refine ⟨σ', rfl, fun c h1 h2 h3 => ?_, fun j h1 h2 => ?_, ?_, t4⟩
  · rw [t2.1 c h1 h2 h3]
    simp (disch := omega) only [z_up_fn]
  · rw [t2.2 j h1]
    simp (disch := omega) only [z_up_fn, z_up_ni]
  · rw [t2.2 48 (by omega)]
    simp (disch := omega) only [z_up_fn, z_up_ni, z_up_eq]
