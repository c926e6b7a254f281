def w_DN (n : Nat) (ha le wh be li : Int → Int) (σ : Nat → Int → Int) : Prop := σ 71 29 = (n : Int) ∧ σ 94 = ha ∧ σ 95 = le ∧ σ 96 = wh ∧ σ 97 = be ∧ σ 98 = li
theorem s_181s (d : Nat) (n : Nat) (ha le wh be li : Int → Int) (σ : Nat → Int → Int) (U : w_DU n ha le wh be li) (D : w_DN n ha le wh be li σ) (p u v k : Nat) (t : Int) (hp : p ≤ n) (hu : u < n) (hv : v < n) (hk : k < p) (e : σ 107 k = v) (b0 : 0 ≤ σ 108 v) (b1 : σ 108 v ≤ 2000) (t0 : 0 ≤ t) (t1 : t ≤ 2000) (o5 o6 : Option (Int ⊕ Nat)) : (w_clash ha le wh (σ 108) u t v ∧ zE d 181 10 [some (.inr 75), some (.inl p), some (.inl t), some (.inl u), some (.inl k), o5, o6] [] (zS, σ) = some (.inl 0, (zS, σ))) ∨ (¬ w_clash ha le wh (σ 108) u t v ∧ ∃ p5 p6 : Option (Int ⊕ Nat), zE d 181 10 [some (.inr 75), some (.inl p), some (.inl t), some (.inl u), some (.inl k), o5, o6] [] (zS, σ) = zE d 181 10 [some (.inr 75), some (.inl p), some (.inl t), some (.inl u), some (.inl ((k : Int) + 1)), p5, p6] [] (zS, σ)) := by
  obtain ⟨d1, d2, d3, d4, d5, d6⟩ := D
  have n6 := U.1
  have kp : ((k : Nat) : Int) < ((p : Nat) : Int) := by omega
  have bu : 1 ≤ le u ∧ le u ≤ 240 := by have := U.2 u hu; omega
  have bv : 1 ≤ le v ∧ le v ≤ 240 := by have := U.2 v hv; omega
  have k6 : 0 ≤ ((k : Nat) : Int) ∧ ((k : Nat) : Int) < 6 := by omega
  have u6 : 0 ≤ ((u : Nat) : Int) ∧ ((u : Nat) : Int) < 6 := by omega
  have v6 : 0 ≤ ((v : Nat) : Int) ∧ ((v : Nat) : Int) < 6 := by omega
  have w1 : z_wrap ((k : Int) + 1) = (k : Int) + 1 := z_wid (by omega) (by omega)
  have w2 : z_wrap (σ 108 v + le v) = σ 108 v + le v := z_wid (by omega) (by omega)
  have w3 : z_wrap (t + le u) = t + le u := z_wid (by omega) (by omega)
  rw [e_181_10, if_pos kp, if_pos k6, if_pos u6, e, if_pos v6, d2, d3, d4, w1, w2, w3]
  unfold w_clash w_rest
  by_cases c : z_and (wh u) (wh v) = 0
  · rw [if_pos c, if_pos c, if_pos u6, if_pos v6]
    by_cases g : ha u = ha v
    · rw [if_pos g, if_pos g, if_pos v6, if_pos v6, z_wid (x := σ 108 v + le v + 0) (by omega) (by omega), z_wid (x := t + le u + 0) (by omega) (by omega)]
      by_cases c1 : t < σ 108 v + le v + 0
      · rw [if_pos c1, if_pos v6, if_pos u6]
        by_cases c2 : σ 108 v < t + le u + 0
        · rw [if_pos c2]
          exact Or.inl ⟨⟨c1, c2⟩, rfl⟩
        · rw [if_neg c2]
          exact Or.inr ⟨fun q => c2 q.2, _, _, rfl⟩
      · rw [if_neg c1]
        exact Or.inr ⟨fun q => c1 q.1, _, _, rfl⟩
    · have c1 : ¬ t < σ 108 v + le v + (-10000) := by omega
      rw [if_neg g, if_neg g, if_pos v6, if_pos v6, z_wid (x := σ 108 v + le v + (-10000)) (by omega) (by omega), if_neg c1]
      exact Or.inr ⟨fun q => c1 q.1, _, _, rfl⟩
  · rw [if_neg c, if_neg c, if_pos v6, if_pos v6, z_wid (x := σ 108 v + le v + 30) (by omega) (by omega), z_wid (x := t + le u + 30) (by omega) (by omega)]
    by_cases c1 : t < σ 108 v + le v + 30
    · rw [if_pos c1, if_pos v6, if_pos u6]
      by_cases c2 : σ 108 v < t + le u + 30
      · rw [if_pos c2]
        exact Or.inl ⟨⟨c1, c2⟩, rfl⟩
      · rw [if_neg c2]
        exact Or.inr ⟨fun q => c2 q.2, _, _, rfl⟩
    · rw [if_neg c1]
      exact Or.inr ⟨fun q => c1 q.1, _, _, rfl⟩
theorem s_181l (d : Nat) (n : Nat) (ha le wh be li : Int → Int) (σ : Nat → Int → Int) (U : w_DU n ha le wh be li) (D : w_DN n ha le wh be li σ) (p u : Nat) (t : Int) (hp : p ≤ n) (hu : u < n) (K : w_OK n le (σ 107) (σ 108) p) (t0 : 0 ≤ t) (t1 : t ≤ 2000) : ∀ (m k : Nat) (o5 o6 : Option (Int ⊕ Nat)), k + m = p → ∃ v : Int, zE d 181 10 [some (.inr 75), some (.inl p), some (.inl t), some (.inl u), some (.inl k), o5, o6] [] (zS, σ) = some (.inl v, (zS, σ)) ∧ ((v = 1 ∧ ∀ i : Nat, k ≤ i → i < p → ¬ w_clash ha le wh (σ 108) u t (σ 107 i)) ∨ (v = 0 ∧ ∃ i : Nat, k ≤ i ∧ i < p ∧ w_clash ha le wh (σ 108) u t (σ 107 i)))
  | 0, k, o5, o6, h => by
    rw [e_181_10, if_neg (by omega)]
    exact ⟨1, rfl, Or.inl ⟨rfl, fun i a b => by omega⟩⟩
  | m + 1, k, o5, o6, h => by
    obtain ⟨k1, k2, k3, k4, k5⟩ := K k (by omega)
    obtain ⟨v, hv⟩ := Int.eq_ofNat_of_zero_le k1
    have bv := U.2 v (by omega)
    rw [hv] at k3 k4
    rcases s_181s d n ha le wh be li σ U D p u v k t hp hu (by omega) (by omega) hv (by omega) (by omega) t0 t1 o5 o6 with q | q
    · exact ⟨0, q.2, Or.inr ⟨rfl, k, Nat.le_refl _, by omega, by rw [hv]; exact q.1⟩⟩
    · obtain ⟨q1, p5, p6, q2⟩ := q
      obtain ⟨w, w1, w2⟩ := s_181l d n ha le wh be li σ U D p u t hp hu K t0 t1 m (k + 1) p5 p6 (by omega)
      have w1 : zE d 181 10 [some (.inr 75), some (.inl p), some (.inl t), some (.inl u), some (.inl ((k : Int) + 1)), p5, p6] [] (zS, σ) = some (.inl w, (zS, σ)) := w1
      rw [q2, w1]
      refine ⟨w, rfl, ?_⟩
      rcases w2 with w2 | w2
      · refine Or.inl ⟨w2.1, fun i a b => ?_⟩
        by_cases e : i = k
        · subst e
          rw [hv]
          exact q1
        · exact w2.2 i (by omega) b
      · obtain ⟨h1, i, h2, h3, h4⟩ := w2
        exact Or.inr ⟨h1, i, by omega, h3, h4⟩
theorem s_180c (d : Nat) (n : Nat) (ha le wh be li : Int → Int) (σ : Nat → Int → Int) (U : w_DU n ha le wh be li) (D : w_DN n ha le wh be li σ) (p u : Nat) (hp : p < n) (hu : u < n) (eu : σ 107 p = u) (K : w_OK n le (σ 107) (σ 108) p) (lim : Int) (hl : lim ≤ 1440) (o3 o6 : Option (Int ⊕ Nat)) : ∀ (m : Nat) (t : Int), m = (lim - le u + 1 - t).toNat → 0 ≤ t → t ≤ 2000 → zE (d + 1) 180 144 [some (.inr 75), some (.inl p), some (.inl u), o3, some (.inl lim), some (.inl t), o6] [] (zS, σ) = some (.inl (w_scan ha le wh (σ 107) (σ 108) p u m t), (zS, σ))
  | 0, t, hm, t0, t1 => by
    have n6 := U.1
    have bu := U.2 u hu
    have u6 : 0 ≤ ((u : Nat) : Int) ∧ ((u : Nat) : Int) < 6 := by omega
    rw [e_180_144, if_pos u6, D.2.2.1, z_wid (by omega) (by omega), if_pos (by omega)]
    rfl
  | m + 1, t, hm, t0, t1 => by
    have n6 := U.1
    have bu := U.2 u hu
    have u6 : 0 ≤ ((u : Nat) : Int) ∧ ((u : Nat) : Int) < 6 := by omega
    have p6 : 0 ≤ ((p : Nat) : Int) ∧ ((p : Nat) : Int) < 6 := by omega
    obtain ⟨v, v1, v2⟩ := s_181l d n ha le wh be li σ U D p u t (by omega) hu K t0 t1 p 0 none none (by omega)
    have v1 : zE d 181 10 [some (.inr 75), some (.inl p), some (.inl t), some (.inl u), some (.inl 0), none, none] [] (zS, σ) = some (.inl v, (zS, σ)) := v1
    unfold w_scan
    rw [e_180_144, if_pos u6, D.2.2.1, z_wid (by omega) (by omega), if_neg (by omega), e_181_0, if_pos p6, eu, v1, Option.bind_some, e_180_165]
    rcases v2 with v2 | v2
    · have f : w_free ha le wh (σ 107) (σ 108) p u t := fun i hi => v2.2 i (by omega) hi
      rw [w_sel_pos f, v2.1, if_neg (by decide)]
    · have f : ¬ w_free ha le wh (σ 107) (σ 108) p u t := by
        intro f
        obtain ⟨i, i1, i2, i3⟩ := v2.2
        exact f i i2 i3
      rw [w_sel_neg f, v2.1, if_pos rfl, z_wid (by omega) (by omega)]
      exact s_180c d n ha le wh be li σ U D p u hp hu eu K lim hl o3 o6 m (t + 1) (by omega) (by omega) (by omega)
theorem s_180h (d : Nat) (σ : Nat → Int → Int) (p : Nat) (hp : p < 6) (bb : Int) (o2 o3 : Int) : ∀ (m k : Nat) (f : Int), k + m = p → (f = 0 ∨ f = 1) → ∃ f' : Int, zE d 180 38 [some (.inr 75), some (.inl p), some (.inl o2), some (.inl o3), some (.inl bb), some (.inl f), some (.inl k)] [] (zS, σ) = zE d 180 38 [some (.inr 75), some (.inl p), some (.inl o2), some (.inl o3), some (.inl bb), some (.inl f'), some (.inl p)] [] (zS, σ) ∧ ((f' = 0 ∧ f = 0 ∧ ∀ i : Nat, k ≤ i → i < p → σ 107 i ≠ bb) ∨ (f' = 1 ∧ (f = 1 ∨ ∃ i : Nat, i < p ∧ σ 107 i = bb)))
  | 0, k, f, h, hf => by
    have e : k = p := by omega
    subst e
    refine ⟨f, rfl, ?_⟩
    rcases hf with hf | hf
    · exact Or.inl ⟨hf, hf, fun i a b => by omega⟩
    · exact Or.inr ⟨hf, Or.inl hf⟩
  | m + 1, k, f, h, hf => by
    have k6 : 0 ≤ ((k : Nat) : Int) ∧ ((k : Nat) : Int) < 6 := by omega
    rw [e_180_38, if_pos (by omega), z_wid (by omega) (by omega)]
    have ih := s_180h d σ p hp bb o2 o3 m (k + 1)
    rcases hf with hf | hf
    · rw [if_pos hf, if_pos k6]
      by_cases c : σ 107 k = bb
      · rw [if_pos c]
        obtain ⟨f', h1, h2⟩ := ih 1 (by omega) (Or.inr rfl)
        refine ⟨f', h1, ?_⟩
        rcases h2 with h2 | h2
        · exact absurd h2.2.1 (by decide)
        · exact Or.inr ⟨h2.1, Or.inr ⟨k, by omega, c⟩⟩
      · rw [if_neg c]
        obtain ⟨f', h1, h2⟩ := ih 0 (by omega) (Or.inl rfl)
        refine ⟨f', h1, ?_⟩
        rcases h2 with h2 | h2
        · refine Or.inl ⟨h2.1, hf, fun i a b => ?_⟩
          by_cases e : i = k
          · subst e
            exact c
          · exact h2.2.2 i (by omega) b
        · rcases h2.2 with w | w
          · exact absurd w (by decide)
          · exact Or.inr ⟨h2.1, Or.inr w⟩
    · rw [if_neg (by omega)]
      obtain ⟨f', h1, h2⟩ := ih 1 (by omega) (Or.inr rfl)
      refine ⟨f', h1, ?_⟩
      rcases h2 with h2 | h2
      · exact absurd h2.2.1 (by decide)
      · exact Or.inr ⟨h2.1, Or.inl hf⟩
/-- when the unit at place p begins -/
theorem s_180 (d : Nat) (n : Nat) (ha le wh be li : Int → Int) (σ : Nat → Int → Int) (U : w_DU n ha le wh be li) (D : w_DN n ha le wh be li σ) (p u : Nat) (hp : p < n) (hu : u < n) (eu : σ 107 p = u) (K : w_OK n le (σ 107) (σ 108) p) : zE (d + 1) 180 0 [some (.inr 75), some (.inl p), none, none, none, none, none] [] (zS, σ) = some (.inl (w_beg ha le wh be li (σ 107) (σ 108) p u), (zS, σ)) := by
  have n6 := U.1
  have bu := U.2 u hu
  have u6 : 0 ≤ ((u : Nat) : Int) ∧ ((u : Nat) : Int) < 6 := by omega
  have p6 : 0 ≤ ((p : Nat) : Int) ∧ ((p : Nat) : Int) < 6 := by omega
  obtain ⟨d1, d2, d3, d4, d5, d6⟩ := D
  have D : w_DN n ha le wh be li σ := ⟨d1, d2, d3, d4, d5, d6⟩
  have run : ∀ (lim t : Int) (o3 o6 : Option (Int ⊕ Nat)), lim ≤ 1440 → 0 ≤ t → t ≤ 2000 → zE (d + 1) 180 144 [some (.inr 75), some (.inl p), some (.inl u), o3, some (.inl lim), some (.inl t), o6] [] (zS, σ) = some (.inl (w_scan ha le wh (σ 107) (σ 108) p u (lim - le u + 1 - t).toNat t), (zS, σ)) := fun lim t o3 o6 hl h0 h1 => s_180c d n ha le wh be li σ U D p u hp hu eu K lim hl o3 o6 _ t rfl h0 h1
  unfold w_beg w_from w_lim
  rw [e_180_0, if_pos p6, eu, if_pos u6, d5, d6]
  by_cases c : be u = -1
  · rw [if_pos c, if_pos u6, w_sel_neg (fun q => q.1 c), if_pos c]
    by_cases l : li u = 0
    · rw [if_pos l, if_pos l]
      exact run 1440 360 _ _ (by omega) (by omega) (by omega)
    · rw [if_neg l, if_neg l]
      exact run 1200 360 _ _ (by omega) (by omega) (by omega)
  · have bb : 0 ≤ be u ∧ be u % 10 < u ∧ be u / 10 ≤ 200 := by
      rcases bu.2.2.2.2.2.2.1 with w | w
      · exact absurd w c
      · exact w
    obtain ⟨v, hv⟩ := Int.eq_ofNat_of_zero_le (show 0 ≤ be u % 10 by omega)
    have v6 : 0 ≤ ((v : Nat) : Int) ∧ ((v : Nat) : Int) < 6 := by omega
    have bv := U.2 v (by omega)
    rw [if_neg c, if_pos u6, w_tdm _ 10 bb.1, hv, if_neg c]
    obtain ⟨f, f1, f2⟩ := s_180h (d + 1) σ p (by omega) v u 360 p 0 0 (by omega) (Or.inl rfl)
    have f1 : zE (d + 1) 180 38 [some (.inr 75), some (.inl p), some (.inl u), some (.inl 360), some (.inl (v : Int)), some (.inl 0), some (.inl 0)] [] (zS, σ) = zE (d + 1) 180 38 [some (.inr 75), some (.inl p), some (.inl u), some (.inl 360), some (.inl (v : Int)), some (.inl f), some (.inl p)] [] (zS, σ) := f1
    rw [f1, e_180_38, if_neg (by omega)]
    rcases f2 with f2 | f2
    · rw [if_pos f2.1, w_sel_pos ⟨c, fun ⟨i, i1, i2⟩ => f2.2.2 i (by omega) i1 i2⟩]
    · have g : w_has (σ 107) p v := by
        rcases f2.2 with w | ⟨i, i1, i2⟩
        · exact absurd w (by decide)
        · exact ⟨i, i1, i2⟩
      have g2 := g
      obtain ⟨k, k1, k2⟩ := g2
      have kk := K k k1
      rw [k2] at kk
      rw [if_neg (by omega), if_pos v6, if_pos v6, if_pos u6, d3, d5, d6, w_tdd _ 10 bb.1, z_wid (x := σ 108 v + le v) (by omega) (by omega), z_wid (x := be u / 10) (by omega) (by omega), z_wid (x := σ 108 v + le v + be u / 10) (by omega) (by omega), w_sel_neg (fun q => q.2 g)]
      by_cases z : 360 < σ 108 v + le v + be u / 10
      · rw [if_pos z, if_pos z, if_pos u6]
        by_cases l : li u = 0
        · rw [if_pos l, if_pos l]
          exact run 1440 _ _ _ (by omega) (by omega) (by omega)
        · rw [if_neg l, if_neg l]
          exact run 1200 _ _ _ (by omega) (by omega) (by omega)
      · rw [if_neg z, if_neg z, if_pos u6]
        by_cases l : li u = 0
        · rw [if_pos l, if_pos l]
          exact run 1440 _ _ _ (by omega) (by omega) (by omega)
        · rw [if_neg l, if_neg l]
          exact run 1200 _ _ _ (by omega) (by omega) (by omega)
/-- an order of all n units -/
def w_PM (n : Nat) (o : Int → Int) : Prop := ∀ k : Nat, k < n → 0 ≤ o k ∧ o k < n ∧ ∀ j : Nat, j < k → o j ≠ o k
theorem w_OK_upm {n : Nat} {le o b : Int → Int} {p : Nat} (P : w_PM n o) (hp : p < n) (h : w_OK n le o b p) (t : Int) (h1 : 360 ≤ t) (h2 : t + le (o p) ≤ 1440) : w_OK n le o (w_set b (o p) t) (p + 1) := by
  intro k hk
  obtain ⟨q1, q2, q3⟩ := P k (by omega)
  by_cases e : k = p
  · subst e
    rw [w_set_eq]
    exact ⟨q1, q2, h1, h2, q3⟩
  · obtain ⟨r1, r2, r3, r4, r5⟩ := h k (by omega)
    have ne : o k ≠ o p := (P p hp).2.2 k (by omega)
    rw [w_set_ne _ _ _ _ ne]
    exact ⟨r1, r2, r3, r4, r5⟩
theorem w_up_set (σ : Nat → Int → Int) (c : Nat) (i v : Int) : z_up σ c i v c = w_set (σ c) i v := by
  funext j
  rw [z_up_at]
  unfold w_set
  by_cases e : j = i
  · rw [if_pos ⟨rfl, e⟩, if_pos e]
  · rw [if_neg (fun q => e q.2), if_neg e]
theorem w_DN_F {n : Nat} {ha le wh be li : Int → Int} {σ σ' : Nat → Int → Int} (h29 : σ' 71 29 = σ 71 29) (f : ∀ c : Nat, 94 ≤ c → c ≤ 98 → σ' c = σ c) (h : w_DN n ha le wh be li σ) : w_DN n ha le wh be li σ' := by
  obtain ⟨h1, h2, h3, h4, h5, h6⟩ := h
  exact ⟨by rw [h29]; exact h1, by rw [f 94 (by omega) (by omega)]; exact h2, by rw [f 95 (by omega) (by omega)]; exact h3, by rw [f 96 (by omega) (by omega)]; exact h4, by rw [f 97 (by omega) (by omega)]; exact h5, by rw [f 98 (by omega) (by omega)]; exact h6⟩
/-- the reference's beginnings of an order -/
theorem s_182l (d : Nat) (n : Nat) (ha le wh be li : Int → Int) (U : w_DU n ha le wh be li) : ∀ (m i : Nat) (e : Int) (σ : Nat → Int → Int) (o3 : Option (Int ⊕ Nat)), i + m = n → w_DN n ha le wh be li σ → w_PM n (σ 107) → w_OK n le (σ 107) (σ 108) i → 0 ≤ e → e ≤ 1440 → ∃ σ' : Nat → Int → Int, zE (d + 2) 182 4 [some (.inr 75), some (.inl e), some (.inl i), o3] [] (zS, σ) = some (.inl (w_po ha le wh be li (σ 107) m i (σ 108) e).1, (zS, σ')) ∧ (∀ c : Nat, c ≠ 108 → σ' c = σ c) ∧ σ' 108 = (w_po ha le wh be li (σ 107) m i (σ 108) e).2
  | 0, i, e, σ, o3, h, D, P, K, e0, e1 => by
    rw [e_182_4, D.1, if_neg (by omega)]
    exact ⟨σ, rfl, fun _ _ => rfl, rfl⟩
  | m + 1, i, e, σ, o3, h, D, P, K, e0, e1 => by
    have n6 := U.1
    obtain ⟨p1, p2, p3⟩ := P i (by omega)
    obtain ⟨u, hu⟩ := Int.eq_ofNat_of_zero_le p1
    have bu := U.2 u (by omega)
    have i6 : 0 ≤ ((i : Nat) : Int) ∧ ((i : Nat) : Int) < 6 := by omega
    have u6 : 0 ≤ ((u : Nat) : Int) ∧ ((u : Nat) : Int) < 6 := by omega
    have po : w_po ha le wh be li (σ 107) (m + 1) i (σ 108) e = if w_beg ha le wh be li (σ 107) (σ 108) i u = -1 then (-1, σ 108) else w_po ha le wh be li (σ 107) m (i + 1) (w_set (σ 108) u (w_beg ha le wh be li (σ 107) (σ 108) i u)) (if e < w_beg ha le wh be li (σ 107) (σ 108) i u + le u then w_beg ha le wh be li (σ 107) (σ 108) i u + le u else e) := by
      rw [← hu]
      rfl
    rw [po, e_182_4, D.1, if_pos (by omega), s_180 d n ha le wh be li σ U D i u (by omega) (by omega) hu K, Option.bind_some, e_182_17]
    by_cases c : w_beg ha le wh be li (σ 107) (σ 108) i u = -1
    · rw [if_pos c, if_pos c]
      exact ⟨σ, rfl, fun _ _ => rfl, rfl⟩
    · have br : 360 ≤ w_beg ha le wh be li (σ 107) (σ 108) i u ∧ w_beg ha le wh be li (σ 107) (σ 108) i u + le u ≤ 1440 := by
        rcases w_beg_rng ha le wh be li (σ 107) (σ 108) i u with w | w
        · exact absurd w c
        · exact w
      have s7 : z_up σ 108 u (w_beg ha le wh be li (σ 107) (σ 108) i u) 107 = σ 107 := z_up_fn (by omega)
      have s8 : z_up σ 108 u (w_beg ha le wh be li (σ 107) (σ 108) i u) 108 = w_set (σ 108) u (w_beg ha le wh be li (σ 107) (σ 108) i u) := w_up_set σ 108 u _
      have D1 : w_DN n ha le wh be li (z_up σ 108 u (w_beg ha le wh be li (σ 107) (σ 108) i u)) := w_DN_F (by rw [z_up_fn (by omega)]) (fun c _ _ => z_up_fn (by omega)) D
      have K1 : w_OK n le (σ 107) (w_set (σ 108) u (w_beg ha le wh be li (σ 107) (σ 108) i u)) (i + 1) := by
        have q := w_OK_upm P (by omega) K (w_beg ha le wh be li (σ 107) (σ 108) i u) br.1 (by rw [hu]; exact br.2)
        rw [hu] at q
        exact q
      rw [if_neg c, if_neg c, if_pos i6, hu, if_pos u6, if_pos i6, if_pos u6, D.2.2.1, z_wid (x := (i : Int) + 1) (by omega) (by omega), z_wid (x := w_beg ha le wh be li (σ 107) (σ 108) i u + le u) (by omega) (by omega)]
      have ih : ∀ (e' : Int) (o3 : Option (Int ⊕ Nat)), 0 ≤ e' → e' ≤ 1440 → ∃ σ' : Nat → Int → Int, zE (d + 2) 182 4 [some (.inr 75), some (.inl e'), some (.inl ((i : Int) + 1)), o3] [] (zS, z_up σ 108 u (w_beg ha le wh be li (σ 107) (σ 108) i u)) = some (.inl (w_po ha le wh be li (σ 107) m (i + 1) (w_set (σ 108) u (w_beg ha le wh be li (σ 107) (σ 108) i u)) e').1, (zS, σ')) ∧ (∀ c : Nat, c ≠ 108 → σ' c = σ c) ∧ σ' 108 = (w_po ha le wh be li (σ 107) m (i + 1) (w_set (σ 108) u (w_beg ha le wh be li (σ 107) (σ 108) i u)) e').2 := by
        intro e' o3 h0 h1
        obtain ⟨σ', t1, t2, t3⟩ := s_182l d n ha le wh be li U m (i + 1) e' _ o3 (by omega) D1 (by rw [s7]; exact P) (by rw [s7, s8]; exact K1) h0 h1
        rw [s7, s8] at t1 t3
        exact ⟨σ', t1, fun c hc => by rw [t2 c hc, z_up_fn hc], t3⟩
      by_cases y : e < w_beg ha le wh be li (σ 107) (σ 108) i u + le u
      · rw [if_pos y, if_pos y, if_pos i6, if_pos u6]
        exact ih _ _ (by omega) (by omega)
      · rw [if_neg y, if_neg y]
        exact ih _ _ e0 e1
theorem s_182 (d : Nat) (n : Nat) (ha le wh be li : Int → Int) (U : w_DU n ha le wh be li) (σ : Nat → Int → Int) (D : w_DN n ha le wh be li σ) (P : w_PM n (σ 107)) : ∃ σ' : Nat → Int → Int, zE (d + 2) 182 0 [some (.inr 75), none, none, none] [] (zS, σ) = some (.inl (w_po ha le wh be li (σ 107) n 0 (σ 108) 0).1, (zS, σ')) ∧ (∀ c : Nat, c ≠ 108 → σ' c = σ c) ∧ σ' 108 = (w_po ha le wh be li (σ 107) n 0 (σ 108) 0).2 := by
  rw [e_182_0]
  exact s_182l d n ha le wh be li U n 0 0 σ none (by omega) D P (fun k hk => absurd hk (Nat.not_lt_zero k)) (by omega) (by omega)
theorem w_po_rel (n : Nat) (ha le wh be li o o' : Int → Int) (ho : ∀ k : Nat, k < n → o k = o' k) (P : w_PM n o) : ∀ (m i : Nat) (b b' : Int → Int) (e : Int), i + m = n → (∀ k : Nat, k < i → b (o k) = b' (o k)) → (w_po ha le wh be li o m i b e).1 = (w_po ha le wh be li o' m i b' e).1 ∧ ((w_po ha le wh be li o m i b e).1 ≠ -1 → ∀ k : Nat, k < n → (w_po ha le wh be li o m i b e).2 (o k) = (w_po ha le wh be li o' m i b' e).2 (o k))
  | 0, i, b, b', e, h, hb => ⟨rfl, fun _ k hk => hb k (by omega)⟩
  | m + 1, i, b, b', e, h, hb => by
    have eb : w_beg ha le wh be li o b i (o i) = w_beg ha le wh be li o' b' i (o i) := w_beg_congr (fun k hk => ho k (by omega)) hb
    have u1 : w_po ha le wh be li o (m + 1) i b e = if w_beg ha le wh be li o b i (o i) = -1 then (-1, b) else w_po ha le wh be li o m (i + 1) (w_set b (o i) (w_beg ha le wh be li o b i (o i))) (if e < w_beg ha le wh be li o b i (o i) + le (o i) then w_beg ha le wh be li o b i (o i) + le (o i) else e) := rfl
    have u2 : w_po ha le wh be li o' (m + 1) i b' e = if w_beg ha le wh be li o' b' i (o' i) = -1 then (-1, b') else w_po ha le wh be li o' m (i + 1) (w_set b' (o' i) (w_beg ha le wh be li o' b' i (o' i))) (if e < w_beg ha le wh be li o' b' i (o' i) + le (o' i) then w_beg ha le wh be li o' b' i (o' i) + le (o' i) else e) := rfl
    rw [u1, u2, ← ho i (by omega), ← eb]
    by_cases c : w_beg ha le wh be li o b i (o i) = -1
    · rw [if_pos c, if_pos c]
      exact ⟨rfl, fun q => absurd rfl q⟩
    · rw [if_neg c, if_neg c]
      apply w_po_rel n ha le wh be li o o' ho P m (i + 1) _ _ _ (by omega)
      intro k hk
      by_cases w : k = i
      · subst w
        rw [w_set_eq, w_set_eq]
      · have ne : o k ≠ o i := (P i (by omega)).2.2 k (by omega)
        rw [w_set_ne _ _ _ _ ne, w_set_ne _ _ _ _ ne]
        exact hb k (by omega)
