def w_DP (n : Nat) (ha le wh be li : Int → Int) (σ : Nat → Int → Int) : Prop := σ 39 9 = (n : Int) ∧ ∀ u : Nat, u < n → σ 40 u = le u ∧ σ 41 u = w_lim li u - le u ∧ σ 42 u = (if be u = -1 then -1 else be u % 10) ∧ σ 43 u = (if be u = -1 then 0 else be u / 10) ∧ ∀ v : Nat, v < n → σ 44 (6 * u + v) = z_gap ha wh u v
def w_AG (o b : Int → Int) (p : Nat) (σ : Nat → Int → Int) : Prop := ∀ k : Nat, k < p → σ 45 k = o k ∧ σ 46 (o k) = b (o k)
def w_FP (σ σ' : Nat → Int → Int) : Prop := (∀ c : Nat, c ≠ 39 → ¬ (45 ≤ c ∧ c ≤ 48) → σ' c = σ c) ∧ ∀ j : Int, j ≠ 10 → σ' 39 j = σ 39 j
theorem w_FP_tr {σ σ' σ'' : Nat → Int → Int} (a : w_FP σ σ') (b : w_FP σ' σ'') : w_FP σ σ'' := ⟨fun c h1 h2 => by rw [b.1 c h1 h2, a.1 c h1 h2], fun j h => by rw [b.2 j h, a.2 j h]⟩
theorem w_FP_rf (σ : Nat → Int → Int) : w_FP σ σ := ⟨fun _ _ _ => rfl, fun _ _ => rfl⟩
theorem w_DP_F {n : Nat} {ha le wh be li : Int → Int} {σ σ' : Nat → Int → Int} (f : w_FP σ σ') (h : w_DP n ha le wh be li σ) : w_DP n ha le wh be li σ' := by
  obtain ⟨h1, h2⟩ := h
  refine ⟨by rw [f.2 9 (by omega)]; exact h1, ?_⟩
  rw [f.1 40 (by omega) (by omega), f.1 41 (by omega) (by omega), f.1 42 (by omega) (by omega), f.1 43 (by omega) (by omega), f.1 44 (by omega) (by omega)]
  exact h2
def w_R3 (e : Int) (v w : Int → Int) (n : Nat) (st : Int × (Int → Int) × (Int → Int)) : Prop := e = st.1 ∧ (st.1 ≠ -1 → ∀ i : Nat, i < n → v i = st.2.1 i ∧ w i = st.2.2 i)
theorem w_gap_rest (ha wh : Int → Int) (u v : Int) : (z_gap ha wh u v = -1 ∧ w_rest ha wh u v = -10000) ∨ (z_gap ha wh u v ≠ -1 ∧ w_rest ha wh u v = z_gap ha wh u v ∧ 0 ≤ z_gap ha wh u v ∧ z_gap ha wh u v ≤ 30) := by
  unfold z_gap w_rest
  by_cases c : z_and (wh u) (wh v) = 0
  · rw [if_pos c, if_pos c]
    by_cases e : ha u = ha v
    · rw [if_pos e, if_pos e]
      exact Or.inr ⟨by decide, rfl, by decide, by decide⟩
    · rw [if_neg e, if_neg e]
      exact Or.inl ⟨rfl, rfl⟩
  · rw [if_neg c, if_neg c]
    exact Or.inr ⟨by decide, rfl, by decide, by decide⟩
theorem w_ps_bd (ha le wh b : Int → Int) (u v t : Int) (h : t ≤ 2000) (hb : b v + le v ≤ 1440) : w_ps ha le wh b u v t ≤ 2000 := by
  unfold w_ps
  have r := w_rest_or ha wh u v
  by_cases c : w_clash ha le wh b u t v
  · rw [w_sel_pos c]
    omega
  · rw [w_sel_neg c]
    exact h
theorem w_pu_bd (n : Nat) (ha le wh o b : Int → Int) (u : Int) (p : Nat) (K : w_OK n le o b p) : ∀ (m i : Nat) (t : Int), i + m ≤ p → t ≤ 2000 → w_pu ha le wh o b u m i t ≤ 2000
  | 0, i, t, h, ht => ht
  | m + 1, i, t, h, ht => w_pu_bd n ha le wh o b u p K m (i + 1) _ (by omega) (w_ps_bd ha le wh b u (o i) t ht (K i (by omega)).2.2.2.1)
theorem s_59l (d : Nat) (n : Nat) (ha le wh be li o b : Int → Int) (p : Nat) (σ : Nat → Int → Int) (U : w_DU n ha le wh be li) (D : w_DP n ha le wh be li σ) (A : w_AG o b p σ) (K : w_OK n le o b p) (u : Nat) (hu : u < n) (o2 : Option (Int ⊕ Nat)) : ∀ (m i : Nat) (t : Int) (o6 o7 o8 : Option (Int ⊕ Nat)), i + m = p → p ≤ n → 0 ≤ t → t ≤ 2000 → zE d 59 6 [some (.inr 43), some (.inl u), o2, some (.inl p), some (.inl t), some (.inl i), o6, o7, o8] [] (zS, σ) = some (.inl (w_pu ha le wh o b u m i t), (zS, σ))
  | 0, i, t, o6, o7, o8, h, hp, t0, t1 => by
    rw [e_59_6, if_neg (by omega)]
    rfl
  | m + 1, i, t, o6, o7, o8, h, hp, t0, t1 => by
    have n6 := U.1
    obtain ⟨a1, a2⟩ := A i (by omega)
    obtain ⟨k1, k2, k3, k4, k5⟩ := K i (by omega)
    obtain ⟨v, hv⟩ := Int.eq_ofNat_of_zero_le k1
    rw [hv] at a1 a2 k2 k3 k4
    have bu := U.2 u hu
    have bv := U.2 v (by omega)
    have du := D.2 u hu
    have dv := D.2 v (by omega)
    have dg := du.2.2.2.2 v (by omega)
    have gr := w_gap_rest ha wh u v
    have i6 : 0 ≤ ((i : Nat) : Int) ∧ ((i : Nat) : Int) < 6 := by omega
    have u6 : 0 ≤ ((u : Nat) : Int) ∧ ((u : Nat) : Int) < 6 := by omega
    have v6 : 0 ≤ ((v : Nat) : Int) ∧ ((v : Nat) : Int) < 6 := by omega
    have uv : 0 ≤ 6 * ((u : Nat) : Int) + ((v : Nat) : Int) ∧ 6 * ((u : Nat) : Int) + ((v : Nat) : Int) < 36 := by omega
    have w : w_pu ha le wh o b u (m + 1) i t = w_pu ha le wh o b u m (i + 1) (w_ps ha le wh b u v t) := by
      rw [← hv]
      rfl
    have bd := w_ps_bd ha le wh b u v t t1 k4
    have ge := w_ps_ge ha le wh b u v t
    have ih : ∀ (t : Int) (o6 o7 o8 : Option (Int ⊕ Nat)), 0 ≤ t → t ≤ 2000 → zE d 59 6 [some (.inr 43), some (.inl u), o2, some (.inl p), some (.inl t), some (.inl ((i : Int) + 1)), o6, o7, o8] [] (zS, σ) = some (.inl (w_pu ha le wh o b u m (i + 1) t), (zS, σ)) := fun t o6 o7 o8 h0 h1 => s_59l d n ha le wh be li o b p σ U D A K u hu o2 m (i + 1) t o6 o7 o8 (by omega) hp h0 h1
    rw [e_59_6, if_pos (by omega), if_pos i6, a1, z_wid (x := ((u : Nat) : Int) * 6) (by omega) (by omega), z_wid (x := ((u : Nat) : Int) * 6 + ((v : Nat) : Int)) (by omega) (by omega), show ((u : Nat) : Int) * 6 + ((v : Nat) : Int) = 6 * ((u : Nat) : Int) + ((v : Nat) : Int) by omega, if_pos uv, if_pos v6, if_pos v6, dg, a2, dv.1, du.1, z_wid (x := (i : Int) + 1) (by omega) (by omega), z_wid (x := b v + le v) (by omega) (by omega), w]
    rcases gr with gr | gr
    · have ps : w_ps ha le wh b u v t = t := by
        unfold w_ps
        rw [w_sel_neg]
        intro c
        have c1 := c.1
        omega
      rw [if_pos gr.1, ps]
      exact ih t _ _ _ t0 t1
    · rw [if_neg gr.1, z_wid (x := b v + le v + z_gap ha wh u v) (by omega) (by omega), z_wid (x := t + le u) (by omega) (by omega), z_wid (x := t + le u + z_gap ha wh u v) (by omega) (by omega)]
      by_cases c1 : t < b v + le v + z_gap ha wh u v
      · rw [if_pos c1, if_pos u6, if_pos v6]
        by_cases c2 : b v < t + le u + z_gap ha wh u v
        · have ps : w_ps ha le wh b u v t = b v + le v + z_gap ha wh u v := by
            unfold w_ps
            rw [w_sel_pos ⟨by rw [gr.2.1]; exact c1, by rw [gr.2.1]; exact c2⟩, gr.2.1]
          rw [if_pos c2, ps]
          exact ih _ _ _ _ (by omega) (by omega)
        · have ps : w_ps ha le wh b u v t = t := by
            unfold w_ps
            rw [w_sel_neg]
            intro c
            have c3 := c.2
            rw [gr.2.1] at c3
            exact c2 c3
          rw [if_neg c2, ps]
          exact ih t _ _ _ t0 t1
      · have ps : w_ps ha le wh b u v t = t := by
          unfold w_ps
          rw [w_sel_neg]
          intro c
          have c3 := c.1
          rw [gr.2.1] at c3
          exact c1 c3
        rw [if_neg c1, ps]
        exact ih t _ _ _ t0 t1
theorem s_58l (d : Nat) (n : Nat) (ha le wh be li o b : Int → Int) (p : Nat) (σ : Nat → Int → Int) (U : w_DU n ha le wh be li) (D : w_DP n ha le wh be li σ) (A : w_AG o b p σ) (K : w_OK n le o b p) (hp : p ≤ n) (u : Nat) (hu : u < n) (o3 o5 : Option (Int ⊕ Nat)) : ∀ (m i : Nat) (t : Int), i + m = p → 0 ≤ t → t ≤ 2000 → zE (d + 1) 58 70 [some (.inr 43), some (.inl u), some (.inl p), o3, some (.inl t), o5, some (.inl i)] [] (zS, σ) = some (.inl (if w_it (w_pu ha le wh o b u p 0) m t ≤ w_lim li u - le u then w_it (w_pu ha le wh o b u p 0) m t else -1), (zS, σ))
  | 0, i, t, h, t0, t1 => by
    have n6 := U.1
    have u6 : 0 ≤ ((u : Nat) : Int) ∧ ((u : Nat) : Int) < 6 := by omega
    have du := D.2 u hu
    have w : w_it (w_pu ha le wh o b u p 0) 0 t = t := rfl
    rw [e_58_70, if_neg (by omega), if_pos u6, du.2.1, w]
    by_cases c : w_lim li u - le u < t
    · rw [if_pos c, if_neg (by omega)]
    · rw [if_neg c, if_pos (by omega)]
  | m + 1, i, t, h, t0, t1 => by
    have n6 := U.1
    have w : w_it (w_pu ha le wh o b u p 0) (m + 1) t = w_it (w_pu ha le wh o b u p 0) m (w_pu ha le wh o b u p 0 t) := rfl
    have ge := w_pu_ge ha le wh o b u p 0 t
    have bd := w_pu_bd n ha le wh o b u p K p 0 t (by omega) t1
    have run : zE d 59 6 [some (.inr 43), some (.inl u), some (.inl t), some (.inl p), some (.inl t), some (.inl 0), none, none, none] [] (zS, σ) = some (.inl (w_pu ha le wh o b u p 0 t), (zS, σ)) := s_59l d n ha le wh be li o b p σ U D A K u hu _ p 0 t none none none (by omega) hp t0 t1
    rw [e_58_70, if_pos (by omega), e_59_0, run, Option.bind_some, e_58_84, z_wid (x := (i : Int) + 1) (by omega) (by omega), w]
    exact s_58l d n ha le wh be li o b p σ U D A K hp u hu o3 o5 m (i + 1) _ (by omega) (by omega) bd
/-- when a unit begins -/
theorem s_58 (d : Nat) (n : Nat) (ha le wh be li o b : Int → Int) (p : Nat) (σ : Nat → Int → Int) (U : w_DU n ha le wh be li) (D : w_DP n ha le wh be li σ) (A : w_AG o b p σ) (K : w_OK n le o b p) (hp : p ≤ n) (u : Nat) (hu : u < n) (T : Int) (T0 : 0 ≤ T) (T1 : T < 64) (hT : ∀ v : Nat, v < 6 → (z_b T v = 1 ↔ w_has o p v)) : zE (d + 1) 58 0 [some (.inr 43), some (.inl u), some (.inl p), some (.inl T), none, none, none] [] (zS, σ) = some (.inl (w_beg ha le wh be li o b p u), (zS, σ)) := by
  have n6 := U.1
  have u6 : 0 ≤ ((u : Nat) : Int) ∧ ((u : Nat) : Int) < 6 := by omega
  have du := D.2 u hu
  have bu := U.2 u hu
  have run : ∀ (t : Int) (o5 : Option (Int ⊕ Nat)), 0 ≤ t → t ≤ 2000 → zE (d + 1) 58 70 [some (.inr 43), some (.inl u), some (.inl p), some (.inl T), some (.inl t), o5, some (.inl 0)] [] (zS, σ) = some (.inl (if w_it (w_pu ha le wh o b u p 0) p t ≤ w_lim li u - le u then w_it (w_pu ha le wh o b u p 0) p t else -1), (zS, σ)) := fun t o5 h0 h1 => s_58l d n ha le wh be li o b p σ U D A K hp u hu _ o5 p 0 t (by omega) h0 h1
  have sc : w_scan ha le wh o b p u (w_lim li u - le u + 1 - w_from le be b u).toNat (w_from le be b u) = if w_it (w_pu ha le wh o b u p 0) p (w_from le be b u) ≤ w_lim li u - le u then w_it (w_pu ha le wh o b u p 0) p (w_from le be b u) else -1 := w_scan_it ha le wh o b p u (w_lim li u - le u) (w_from le be b u)
  unfold w_beg
  rw [e_58_0, if_pos u6, du.2.2.1]
  by_cases c : be u = -1
  · have fr : w_from le be b u = 360 := if_pos c
    rw [if_pos c, if_pos (by omega), run 360 _ (by omega) (by omega), w_sel_neg (fun q => q.1 c), sc, fr]
  · have bb : 0 ≤ be u ∧ be u % 10 < u ∧ be u / 10 ≤ 200 := by
      rcases bu.2.2.2.2.2.2.1 with w | w
      · exact absurd w c
      · exact w
    obtain ⟨v, hv⟩ := Int.eq_ofNat_of_zero_le (show 0 ≤ be u % 10 by omega)
    have v6 : 0 ≤ ((v : Nat) : Int) ∧ ((v : Nat) : Int) < 6 := by omega
    have dv := D.2 v (by omega)
    have bv := U.2 v (by omega)
    have bits := hT v (by omega)
    have b01 := w_zb01 T v T0 (by omega) v6.1 (by omega)
    rw [if_neg c, hv, if_neg (by omega), if_pos (by rw [D.1]; omega)]
    by_cases g : w_has o p v
    · have g1 : ¬ z_and (z_shr T v) 1 = 0 := by
        intro w
        have w2 : z_b T v = 0 := w
        have w3 := bits.2 g
        omega
      obtain ⟨k, k1, k2⟩ := g
      have a2 := (A k k1).2
      have kk := K k k1
      rw [k2] at a2 kk
      have d43 := du.2.2.2.1
      rw [if_neg c] at d43
      have fr : w_from le be b u = if 360 < b v + le v + be u / 10 then b v + le v + be u / 10 else 360 := by
        unfold w_from
        rw [if_neg c, hv]
      rw [if_neg g1, if_pos v6, if_pos v6, if_pos u6, a2, dv.1, d43, z_wid (x := b v + le v) (by omega) (by omega), z_wid (x := b v + le v + be u / 10) (by omega) (by omega), e_235_0, w_sel_neg (fun q => q.2 ⟨k, k1, k2⟩), sc]
      by_cases z : 360 < b v + le v + be u / 10
      · rw [if_pos z] at fr
        rw [if_pos z, Option.bind_some, e_58_65, run _ _ (by omega) (by omega), fr]
      · rw [if_neg z] at fr
        rw [if_neg z, Option.bind_some, e_58_65, run _ _ (by omega) (by omega), fr]
    · have g1 : z_and (z_shr T v) 1 = 0 := by
        have w3 : ¬ z_b T v = 1 := fun w => g (bits.1 w)
        have w2 : z_b T v = 0 := by omega
        exact w2
      rw [if_pos g1, w_sel_pos ⟨c, g⟩]
theorem s_57l (d : Nat) (o1 : Option (Int ⊕ Nat)) (n : Nat) (hn : n ≤ 6) : ∀ (j k : Nat) (σ : Nat → Int → Int), k + j = n → σ 39 9 = (n : Int) → ∃ σ' : Nat → Int → Int, zE d 57 7 [some (.inr 43), o1, some (.inl k)] [] (zS, σ) = some (.inl 0, (zS, σ')) ∧ (∀ c : Nat, c ≠ 47 → c ≠ 48 → σ' c = σ c) ∧ (∀ i : Nat, i < k → σ' 47 i = σ 47 i ∧ σ' 48 i = σ 48 i) ∧ (∀ i : Nat, k ≤ i → i < n → σ' 47 i = σ 45 i ∧ σ' 48 i = σ 46 i)
  | 0, k, σ, hk, en => by
    rw [e_57_7, if_neg (by omega)]
    exact ⟨σ, rfl, fun _ _ _ => rfl, fun _ _ => ⟨rfl, rfl⟩, fun i a b => by omega⟩
  | j + 1, k, σ, hk, en => by
    have b6 : 0 ≤ ((k : Nat) : Int) ∧ ((k : Nat) : Int) < 6 := by omega
    rw [e_57_7, if_pos (by omega), if_pos b6, if_pos b6, if_pos b6, if_pos b6, z_wid (by omega) (by omega)]
    obtain ⟨σ', h1, h2, h3, h4⟩ := s_57l d o1 n hn j (k + 1) (z_up (z_up σ 47 k (σ 45 k)) 48 k (σ 46 k)) (by omega) (by rw [z_up_fn (by omega), z_up_fn (by omega)]; exact en)
    refine ⟨σ', h1, fun e e1 e2 => ?_, fun i hi => ?_, fun i hi hj => ?_⟩
    · rw [h2 e e1 e2, z_up_fn e2, z_up_fn e1]
    · have q := h3 i (by omega)
      simp (disch := omega) only [z_up_fn, z_up_ni] at q
      exact q
    · by_cases w : i = k
      · subst w
        have q := h3 i (by omega)
        simp (disch := omega) only [z_up_fn, z_up_eq] at q
        exact q
      · have q := h4 i (by omega) hj
        simp (disch := omega) only [z_up_fn] at q
        exact q
def w_CP (d : Nat) (n : Nat) (ha le wh be li : Int → Int) (k p : Nat) : Prop := ∀ (o b : Int → Int) (T e : Int) (st : Int × (Int → Int) × (Int → Int)) (σ : Nat → Int → Int), w_DP n ha le wh be li σ → w_AG o b p σ → w_OK n le o b p → 0 ≤ T → T < 64 → (∀ v : Nat, v < 6 → (z_b T v = 1 ↔ w_has o p v)) → 0 ≤ e → e ≤ 1440 → w_R3 (σ 39 10) (σ 47) (σ 48) n st → (st.1 = -1 ∨ e < st.1) → ∃ σ' : Nat → Int → Int, zE (d + 4 + k) 56 0 [some (.inr 43), some (.inl p), some (.inl T), some (.inl e), none, none, none] [] (zS, σ) = some (.inl 0, (zS, σ')) ∧ w_FP σ σ' ∧ w_AG o b p σ' ∧ w_R3 (σ' 39 10) (σ' 47) (σ' 48) n (w_pl n ha le wh be li k p o b e st)
theorem s_56z (d : Nat) (n : Nat) (ha le wh be li : Int → Int) (U : w_DU n ha le wh be li) : w_CP d n ha le wh be li 0 n := by
  intro o b T e st σ D A K T0 T1 hT e0 e1 hR hst
  have n6 := U.1
  have u : w_pl n ha le wh be li 0 n o b e st = (e, o, b) := by
    unfold w_pl
    rw [if_pos hst]
  obtain ⟨σ', h1, h2, h3, h4⟩ := s_57l (d + 3) (some (.inl e)) n n6 n 0 (z_up σ 39 10 e) (by omega) (by rw [z_up_ni (by omega)]; exact D.1)
  have h1 : zE (d + 3) 57 7 [some (.inr 43), some (.inl e), some (.inl 0)] [] (zS, z_up σ 39 10 e) = some (.inl 0, (zS, σ')) := h1
  rw [u, e_56_0, D.1, if_neg (by omega), e_57_0, h1, Option.bind_some, e_56_13]
  refine ⟨σ', rfl, ⟨fun c c1 c2 => by rw [h2 c (by omega) (by omega), z_up_fn c1], fun j hj => by rw [h2 39 (by omega) (by omega), z_up_ni hj]⟩, fun k hk => ?_, by rw [h2 39 (by omega) (by omega), z_up_eq], fun _ i hi => ?_⟩
  · rw [h2 45 (by omega) (by omega), h2 46 (by omega) (by omega), z_up_fn (by omega), z_up_fn (by omega)]
    exact A k hk
  · have q := h4 i (by omega) hi
    rw [z_up_fn (by omega), z_up_fn (by omega)] at q
    refine ⟨q.1.trans (A i hi).1, ?_⟩
    obtain ⟨k, k1, k2⟩ := w_surj n o (fun k hk => ⟨(K k hk).1, (K k hk).2.1, (K k hk).2.2.2.2⟩) i (by omega) (by omega)
    have a := (A k k1).2
    rw [k2] at a
    exact q.2.trans a
theorem s_56r (d : Nat) (n : Nat) (ha le wh be li : Int → Int) (U : w_DU n ha le wh be li) (k p : Nat) (hk : p + 1 + k = n) (IH : w_CP d n ha le wh be li k (p + 1)) (o b : Int → Int) (T e : Int) (K : w_OK n le o b p) (T0 : 0 ≤ T) (T1 : T < 64) (hT : ∀ v : Nat, v < 6 → (z_b T v = 1 ↔ w_has o p v)) (e0 : 0 ≤ e) (e1 : e ≤ 1440) : ∀ (m u : Nat) (st : Int × (Int → Int) × (Int → Int)) (σ : Nat → Int → Int) (o5 o6 : Option (Int ⊕ Nat)), u + m = n → w_DP n ha le wh be li σ → w_AG o b p σ → w_R3 (σ 39 10) (σ 47) (σ 48) n st → ∃ σ' : Nat → Int → Int, zE (d + 4 + k + 1) 56 17 [some (.inr 43), some (.inl p), some (.inl T), some (.inl e), some (.inl u), o5, o6] [] (zS, σ) = some (.inl 0, (zS, σ')) ∧ w_FP σ σ' ∧ w_AG o b p σ' ∧ w_R3 (σ' 39 10) (σ' 47) (σ' 48) n (w_fold (fun u s => w_sel (w_has o p u) s (if w_beg ha le wh be li o b p u = -1 then s else w_pl n ha le wh be li k (p + 1) (w_set o p u) (w_set b u (w_beg ha le wh be li o b p u)) (if e < w_beg ha le wh be li o b p u + le u then w_beg ha le wh be li o b p u + le u else e) s)) m u st)
  | 0, u, st, σ, o5, o6, hm, D, A, hR => by
    rw [e_56_17, D.1, if_neg (by omega)]
    exact ⟨σ, rfl, w_FP_rf σ, A, hR⟩
  | m + 1, u, st, σ, o5, o6, hm, D, A, hR => by
    have n6 := U.1
    have hu : u < n := by omega
    have bu := U.2 u hu
    have du := D.2 u hu
    have u6 : 0 ≤ ((u : Nat) : Int) ∧ ((u : Nat) : Int) < 6 := by omega
    have p6 : 0 ≤ ((p : Nat) : Int) ∧ ((p : Nat) : Int) < 6 := by omega
    have bits := hT u (by omega)
    have b01 := w_zb01 T u T0 (by omega) u6.1 (by omega)
    have fo : ∀ f : Int → Int × (Int → Int) × (Int → Int) → Int × (Int → Int) × (Int → Int), w_fold f (m + 1) u st = w_fold f m ((u + 1 : Nat) : Int) (f u st) := fun _ => rfl
    rw [fo, e_56_17, D.1, if_pos (by omega)]
    have next : ∀ (st' : Int × (Int → Int) × (Int → Int)) (σ1 : Nat → Int → Int) (p5 p6 : Option (Int ⊕ Nat)), w_FP σ σ1 → w_AG o b p σ1 → w_R3 (σ1 39 10) (σ1 47) (σ1 48) n st' → ∃ σ' : Nat → Int → Int, zE (d + 4 + k + 1) 56 123 [some (.inr 43), some (.inl p), some (.inl T), some (.inl e), some (.inl u), p5, p6] [] (zS, σ1) = some (.inl 0, (zS, σ')) ∧ w_FP σ σ' ∧ w_AG o b p σ' ∧ w_R3 (σ' 39 10) (σ' 47) (σ' 48) n (w_fold (fun u s => w_sel (w_has o p u) s (if w_beg ha le wh be li o b p u = -1 then s else w_pl n ha le wh be li k (p + 1) (w_set o p u) (w_set b u (w_beg ha le wh be li o b p u)) (if e < w_beg ha le wh be li o b p u + le u then w_beg ha le wh be li o b p u + le u else e) s)) m ((u + 1 : Nat) : Int) st') := by
      intro st' σ1 p5 p6 F1 A1 R1
      obtain ⟨σ', h1, h2, h3, h4⟩ := s_56r d n ha le wh be li U k p hk IH o b T e K T0 T1 hT e0 e1 m (u + 1) st' σ1 p5 p6 (by omega) (w_DP_F F1 D) A1 R1
      rw [e_56_123, z_wid (by omega) (by omega)]
      exact ⟨σ', h1, w_FP_tr F1 h2, h3, h4⟩
    by_cases g : w_has o p u
    · have g1 : ¬ z_and (z_shr T u) 1 = 0 := by
        intro w
        have w2 : z_b T u = 0 := w
        have w3 := bits.2 g
        omega
      rw [if_neg g1, w_sel_pos g]
      exact next st σ _ _ (w_FP_rf σ) A hR
    · have g1 : z_and (z_shr T u) 1 = 0 := by
        have w3 : ¬ z_b T u = 1 := fun w => g (bits.1 w)
        have w2 : z_b T u = 0 := by omega
        exact w2
      have s58 : zE (d + 4 + k) 58 0 [some (.inr 43), some (.inl u), some (.inl p), some (.inl T), none, none, none] [] (zS, σ) = some (.inl (w_beg ha le wh be li o b p u), (zS, σ)) := by
        rw [show d + 4 + k = d + 3 + k + 1 by omega]
        exact s_58 (d + 3 + k) n ha le wh be li o b p σ U D A K (by omega) u hu T T0 T1 hT
      rw [if_pos g1, s58, Option.bind_some, e_56_43, w_sel_neg g]
      by_cases c : w_beg ha le wh be li o b p u = -1
      · rw [if_pos c, if_pos c]
        exact next st σ _ _ (w_FP_rf σ) A hR
      · have br : 360 ≤ w_beg ha le wh be li o b p u ∧ w_beg ha le wh be li o b p u + le u ≤ 1440 := by
          rcases w_beg_rng ha le wh be li o b p u with w | w
          · exact absurd w c
          · exact w
        rw [if_neg c, if_neg c, if_pos p6, if_pos u6, if_pos u6, du.1, z_wid (x := w_beg ha le wh be li o b p u + le u) (by omega) (by omega), e_235_0]
        have F1 : w_FP σ (z_up (z_up σ 45 p u) 46 u (w_beg ha le wh be li o b p u)) := ⟨fun c c1 c2 => by rw [z_up_fn (by omega), z_up_fn (by omega)], fun j hj => by rw [z_up_fn (by omega), z_up_fn (by omega)]⟩
        have A1 : w_AG o b p (z_up (z_up σ 45 p u) 46 u (w_beg ha le wh be li o b p u)) := by
          intro i hi
          have a := A i hi
          have ne : o i ≠ (u : Int) := fun w => g ⟨i, hi, w⟩
          rw [z_up_fn (by omega), z_up_ni (by omega), z_up_ni ne, z_up_fn (by omega)]
          exact a
        have A2 : w_AG (w_set o p u) (w_set b u (w_beg ha le wh be li o b p u)) (p + 1) (z_up (z_up σ 45 p u) 46 u (w_beg ha le wh be li o b p u)) := by
          intro i hi
          by_cases w : i = p
          · subst w
            rw [w_set_eq, w_set_eq, z_up_eq, z_up_fn (by omega), z_up_eq]
            exact ⟨rfl, rfl⟩
          · have a := A1 i (by omega)
            have ne : o i ≠ (u : Int) := fun w => g ⟨i, by omega, w⟩
            rw [w_set_ne _ _ _ _ (by omega), w_set_ne _ _ _ _ ne]
            exact a
        have R1 : w_R3 (z_up (z_up σ 45 p u) 46 u (w_beg ha le wh be li o b p u) 39 10) (z_up (z_up σ 45 p u) 46 u (w_beg ha le wh be li o b p u) 47) (z_up (z_up σ 45 p u) 46 u (w_beg ha le wh be li o b p u) 48) n st := by
          simp (disch := omega) only [z_up_fn]
          exact hR
        have K1 := w_OK_up K u (w_beg ha le wh be li o b p u) hu g br.1 br.2
        have or6 := w_or6 T u T0 T1 u6.1 u6.2
        have hT1 : ∀ v : Nat, v < 6 → (z_b (z_or T (z_shl 1 u)) v = 1 ↔ w_has (w_set o p u) (p + 1) v) := by
          intro v hv
          rw [w_zbor T u v T0 (by omega) u6.1 (by omega) (by omega) (by omega)]
          by_cases w : (v : Int) = (u : Int)
          · rw [if_pos w]
            exact ⟨fun _ => ⟨p, by omega, by rw [w_set_eq, w]⟩, fun _ => rfl⟩
          · rw [if_neg w, hT v hv]
            constructor
            · intro ⟨i, i1, i2⟩
              exact ⟨i, by omega, by rw [w_set_ne _ _ _ _ (by omega)]; exact i2⟩
            · intro ⟨i, i1, i2⟩
              by_cases y : i = p
              · subst y
                rw [w_set_eq] at i2
                exact absurd i2.symm w
              · rw [w_set_ne _ _ _ _ (by omega)] at i2
                exact ⟨i, by omega, i2⟩
        have la : ∃ la : Int, la = (if e < w_beg ha le wh be li o b p u + le u then w_beg ha le wh be li o b p u + le u else e) ∧ (if e < w_beg ha le wh be li o b p u + le u then (some (.inl (w_beg ha le wh be li o b p u + le u), (zS, z_up (z_up σ 45 p u) 46 u (w_beg ha le wh be li o b p u))) : Option ((Int ⊕ Nat) × Zh)) else some (.inl e, (zS, z_up (z_up σ 45 p u) 46 u (w_beg ha le wh be li o b p u)))) = some (.inl la, (zS, z_up (z_up σ 45 p u) 46 u (w_beg ha le wh be li o b p u))) ∧ 0 ≤ la ∧ la ≤ 1440 := by
          by_cases y : e < w_beg ha le wh be li o b p u + le u
          · exact ⟨_, (if_pos y).symm, by rw [if_pos y], by omega, by omega⟩
          · exact ⟨_, (if_neg y).symm, by rw [if_neg y], by omega, by omega⟩
        obtain ⟨la, l1, l2, l3, l4⟩ := la
        rw [l2, Option.bind_some, e_56_89, ← l1]
        have r10 : z_up (z_up σ 45 p u) 46 u (w_beg ha le wh be li o b p u) 39 10 = st.1 := R1.1
        by_cases y : st.1 = -1 ∨ la < st.1
        · obtain ⟨σ2, t1, t2, t3, t4⟩ := IH (w_set o p u) (w_set b u (w_beg ha le wh be li o b p u)) (z_or T (z_shl 1 u)) la st _ (w_DP_F F1 D) A2 K1 or6.1 or6.2 hT1 l3 l4 R1 y
          have A3 : w_AG o b p σ2 := by
            intro i hi
            have a := t3 i (by omega)
            have ne : o i ≠ (u : Int) := fun w => g ⟨i, by omega, w⟩
            rw [w_set_ne _ _ _ _ (by omega), w_set_ne _ _ _ _ ne] at a
            exact a
          rw [r10, z_wid (x := (p : Int) + 1) (by omega) (by omega), show (p : Int) + 1 = ((p + 1 : Nat) : Int) by omega, t1]
          by_cases z : st.1 = -1
          · rw [if_pos z, Option.bind_some]
            exact next _ σ2 _ _ (w_FP_tr F1 t2) A3 t4
          · rw [if_neg z, if_pos (by omega), Option.bind_some]
            exact next _ σ2 _ _ (w_FP_tr F1 t2) A3 t4
        · have z : ¬ st.1 = -1 := fun w => y (Or.inl w)
          rw [r10, if_neg z, if_neg (fun w => y (Or.inr w)), w_pl_prune n ha le wh be li k (p + 1) _ _ la st z (by omega)]
          exact next st _ _ _ F1 A1 R1
theorem s_56m (d : Nat) (n : Nat) (ha le wh be li : Int → Int) (U : w_DU n ha le wh be li) : ∀ (k p : Nat), p + k = n → w_CP d n ha le wh be li k p
  | 0, p, hk => by
    have e : p = n := by omega
    subst e
    exact s_56z d p ha le wh be li U
  | k + 1, p, hk => by
    intro o b T e st σ D A K T0 T1 hT e0 e1 hR hst
    have IH := s_56m d n ha le wh be li U k (p + 1) (by omega)
    obtain ⟨σ', h1, h2, h3, h4⟩ := s_56r d n ha le wh be li U k p (by omega) IH o b T e K T0 T1 hT e0 e1 n 0 st σ none none (by omega) D A hR
    have h1 : zE (d + 4 + k + 1) 56 17 [some (.inr 43), some (.inl p), some (.inl T), some (.inl e), some (.inl 0), none, none] [] (zS, σ) = some (.inl 0, (zS, σ')) := h1
    show ∃ σ' : Nat → Int → Int, zE (d + 4 + k + 1) 56 0 [some (.inr 43), some (.inl p), some (.inl T), some (.inl e), none, none, none] [] (zS, σ) = some (.inl 0, (zS, σ')) ∧ _
    rw [e_56_0, D.1, if_pos (by omega), h1]
    refine ⟨σ', rfl, h2, h3, ?_⟩
    unfold w_pl
    exact h4
