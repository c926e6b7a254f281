def w_d6 : Nat → Int → Int
  | 0, x => x % 6
  | i + 1, x => w_d6 i (x / 6)
def w_q6 : Nat → Int → Int
  | 0, x => x
  | m + 1, x => w_q6 m (x / 6)
theorem w_d6_rng : ∀ (i : Nat) (x : Int), 0 ≤ w_d6 i x ∧ w_d6 i x ≤ 5
  | 0, x => by unfold w_d6; omega
  | i + 1, x => w_d6_rng i (x / 6)
/-- from place i on the order goes on as an order of n units -/
def w_PF (n : Nat) (o : Int → Int) (i : Nat) : Prop := ∀ k : Nat, i ≤ k → k < n → o k < n ∧ ∀ j : Nat, j < k → o j ≠ o k
theorem w_po_ge (ha le wh be li o : Int → Int) : ∀ (m i : Nat) (b : Int → Int) (e : Int), 0 ≤ e → (w_po ha le wh be li o m i b e).1 = -1 ∨ 0 ≤ (w_po ha le wh be li o m i b e).1
  | 0, i, b, e, h => Or.inr h
  | m + 1, i, b, e, h => by
    unfold w_po
    by_cases c : w_beg ha le wh be li o b i (o i) = -1
    · rw [if_pos c]
      exact Or.inl rfl
    · rw [if_neg c]
      have br : 360 ≤ w_beg ha le wh be li o b i (o i) := by
        rcases w_beg_rng ha le wh be li o b i (o i) with w | w
        · exact absurd w c
        · exact w.1
      apply w_po_ge ha le wh be li o m (i + 1)
      split <;> omega
theorem s_63l (d : Nat) (n : Nat) (ha le wh be li : Int → Int) (U : w_DU n ha le wh be li) (o : Int → Int) (y : Nat) (hy : y < n) (o1 : Option (Int ⊕ Nat)) : ∀ (m i : Nat) (b : Int → Int) (rest T e : Int) (σ : Nat → Int → Int) (o6 o7 : Option (Int ⊕ Nat)), i + m = n → (∀ j : Nat, o ((i + j : Nat) : Int) = w_d6 j rest) → w_DP n ha le wh be li σ → w_AG o b i σ → w_OK n le o b i → 0 ≤ T → T < 64 → (∀ v : Nat, v < 6 → (z_b T v = 1 ↔ w_has o i v)) → 0 ≤ rest → rest < 2147483648 → 0 ≤ e → ∃ σ' : Nat → Int → Int, zE (d + 2) 63 26 [some (.inr 43), o1, some (.inl y), some (.inl rest), some (.inl T), some (.inl i), o6, o7] [] (zS, σ) = some (.inl (w_sel (w_PF n o i) (if (w_po ha le wh be li o m i b e).1 = -1 then -1 else if w_q6 m rest = 0 then (w_po ha le wh be li o m i b e).2 y else -1) (-1)), (zS, σ')) ∧ ∀ c : Nat, c ≠ 45 → c ≠ 46 → σ' c = σ c
  | 0, i, b, rest, T, e, σ, o6, o7, h, hd, D, A, K, T0, T1, hT, r0, r1, e0 => by
    have n6 := U.1
    have P : w_PF n o i := fun k a b => by omega
    have po : w_po ha le wh be li o 0 i b e = (e, b) := rfl
    have e1 : i = n := by omega
    subst e1
    rw [w_sel_pos P, po, e_63_26, D.1, if_neg (by omega), if_neg (show ¬ (e, b).1 = -1 by show ¬ e = -1; omega)]
    by_cases c : rest = 0
    · have sj := w_surj i o (fun k hk => ⟨(K k hk).1, (K k hk).2.1, (K k hk).2.2.2.2⟩) y (by omega) (by omega)
      obtain ⟨k, k1, k2⟩ := sj
      have a := (A k k1).2
      rw [k2] at a
      rw [if_pos c, if_pos (by omega), a, if_pos (show w_q6 0 rest = 0 from c)]
      exact ⟨σ, rfl, fun _ _ _ => rfl⟩
    · rw [if_neg c, if_neg (show ¬ w_q6 0 rest = 0 from c)]
      exact ⟨σ, rfl, fun _ _ _ => rfl⟩
  | m + 1, i, b, rest, T, e, σ, o6, o7, h, hd, D, A, K, T0, T1, hT, r0, r1, e0 => by
    have n6 := U.1
    have d0 : o (i : Nat) = rest % 6 := hd 0
    have i6 : 0 ≤ ((i : Nat) : Int) ∧ ((i : Nat) : Int) < 6 := by omega
    rw [e_63_26, D.1, if_pos (by omega), w_tdm rest 6 r0, w_tdd rest 6 r0, ← d0]
    by_cases c1 : o (i : Nat) < n
    · rw [if_pos c1]
      obtain ⟨u, hu⟩ := Int.eq_ofNat_of_zero_le (show 0 ≤ o (i : Nat) by omega)
      have u6 : 0 ≤ ((u : Nat) : Int) ∧ ((u : Nat) : Int) < 6 := by omega
      have un : u < n := by omega
      have bits := hT u (by omega)
      have b01 := w_zb01 T u T0 (by omega) u6.1 (by omega)
      rw [hu]
      by_cases g : w_has o i u
      · have g1 : ¬ z_and (z_shr T u) 1 = 0 := by
          intro w
          have w2 : z_b T u = 0 := w
          have w3 := bits.2 g
          omega
        have nP : ¬ w_PF n o i := by
          intro P
          obtain ⟨k, k1, k2⟩ := g
          exact (P i (Nat.le_refl _) (by omega)).2 k k1 (by rw [k2, hu])
        rw [if_neg g1, w_sel_neg nP]
        exact ⟨σ, rfl, fun _ _ _ => rfl⟩
      · have g1 : z_and (z_shr T u) 1 = 0 := by
          have w3 : ¬ z_b T u = 1 := fun w => g (bits.1 w)
          have w2 : z_b T u = 0 := by omega
          exact w2
        have po : w_po ha le wh be li o (m + 1) i b e = if w_beg ha le wh be li o b i u = -1 then (-1, b) else w_po ha le wh be li o m (i + 1) (w_set b u (w_beg ha le wh be li o b i u)) (if e < w_beg ha le wh be li o b i u + le u then w_beg ha le wh be li o b i u + le u else e) := by
          rw [← hu]
          rfl
        have run : zE (d + 1) 58 0 [some (.inr 43), some (.inl u), some (.inl i), some (.inl T), none, none, none] [] (zS, σ) = some (.inl (w_beg ha le wh be li o b i u), (zS, σ)) := s_58 d n ha le wh be li o b i σ U D A K (by omega) u un T T0 T1 hT
        rw [if_pos g1, run, Option.bind_some, e_63_77, po]
        by_cases c : w_beg ha le wh be li o b i u = -1
        · rw [if_pos c, if_pos c, if_pos rfl]
          refine ⟨σ, ?_, fun _ _ _ => rfl⟩
          by_cases P : w_PF n o i
          · rw [w_sel_pos P]
          · rw [w_sel_neg P]
        · have br : 360 ≤ w_beg ha le wh be li o b i u ∧ w_beg ha le wh be li o b i u + le u ≤ 1440 := by
            rcases w_beg_rng ha le wh be li o b i u with w | w
            · exact absurd w c
            · exact w
          have eo : w_set o i u = o := by
            funext j
            unfold w_set
            by_cases w : j = i
            · rw [if_pos w, w, hu]
            · rw [if_neg w]
          have K1 := w_OK_up K u (w_beg ha le wh be li o b i u) un g br.1 br.2
          rw [eo] at K1
          have or6 := w_or6 T u T0 T1 u6.1 u6.2
          have F1 : w_FP σ (z_up (z_up σ 45 i u) 46 u (w_beg ha le wh be li o b i u)) := ⟨fun c c1 c2 => by rw [z_up_fn (by omega), z_up_fn (by omega)], fun j hj => by rw [z_up_fn (by omega), z_up_fn (by omega)]⟩
          have A1 : w_AG o (w_set b u (w_beg ha le wh be li o b i u)) (i + 1) (z_up (z_up σ 45 i u) 46 u (w_beg ha le wh be li o b i u)) := by
            intro k hk
            by_cases w : k = i
            · subst w
              rw [hu, w_set_eq, z_up_eq, z_up_fn (by omega), z_up_eq]
              exact ⟨rfl, rfl⟩
            · have a := A k (by omega)
              have ne : o k ≠ (u : Int) := fun w => g ⟨k, by omega, w⟩
              rw [w_set_ne _ _ _ _ ne, z_up_fn (by omega), z_up_ni (by omega), z_up_ni ne, z_up_fn (by omega)]
              exact a
          have hT1 : ∀ v : Nat, v < 6 → (z_b (z_or T (z_shl 1 u)) v = 1 ↔ w_has o (i + 1) v) := by
            intro v hv
            rw [w_zbor T u v T0 (by omega) u6.1 (by omega) (by omega) (by omega)]
            by_cases w : (v : Int) = (u : Int)
            · rw [if_pos w]
              exact ⟨fun _ => ⟨i, by omega, by rw [hu, w]⟩, fun _ => rfl⟩
            · rw [if_neg w, hT v hv]
              constructor
              · intro ⟨k, k1, k2⟩
                exact ⟨k, by omega, k2⟩
              · intro ⟨k, k1, k2⟩
                by_cases y : k = i
                · subst y
                  rw [hu] at k2
                  exact absurd k2.symm w
                · exact ⟨k, by omega, k2⟩
          have PP : w_PF n o i ↔ w_PF n o (i + 1) := by
            constructor
            · intro P k a b
              exact P k (by omega) b
            · intro P k a b
              by_cases w : k = i
              · subst w
                refine ⟨by omega, fun j hj e => ?_⟩
                exact g ⟨j, hj, by rw [e, hu]⟩
              · exact P k (by omega) b
          obtain ⟨σ', y1, y2⟩ := s_63l d n ha le wh be li U o y hy o1 m (i + 1) (w_set b u (w_beg ha le wh be li o b i u)) (rest / 6) (z_or T (z_shl 1 u)) (if e < w_beg ha le wh be li o b i u + le u then w_beg ha le wh be li o b i u + le u else e) (z_up (z_up σ 45 i u) 46 u (w_beg ha le wh be li o b i u)) (some (.inl u)) (some (.inl (w_beg ha le wh be li o b i u))) (by omega) (fun j => by
            have q := hd (j + 1)
            rw [show ((i + 1 + j : Nat) : Int) = ((i + (j + 1) : Nat) : Int) by omega]
            exact q) (w_DP_F F1 D) A1 K1 or6.1 or6.2 hT1 (by omega) (by omega) (by split <;> omega)
          have y1 : zE (d + 2) 63 26 [some (.inr 43), o1, some (.inl y), some (.inl (rest / 6)), some (.inl (z_or T (z_shl 1 u))), some (.inl ((i : Int) + 1)), some (.inl u), some (.inl (w_beg ha le wh be li o b i u))] [] (zS, z_up (z_up σ 45 i u) 46 u (w_beg ha le wh be li o b i u)) = _ := y1
          rw [if_neg c, if_neg c, if_pos i6, if_pos u6, z_wid (x := rest / 6) (by omega) (by omega), z_wid (x := (i : Int) + 1) (by omega) (by omega), y1, w_sel_iff PP]
          exact ⟨σ', rfl, fun c c1 c2 => by rw [y2 c c1 c2, z_up_fn c2, z_up_fn c1]⟩
    · have nP : ¬ w_PF n o i := fun P => c1 (P i (Nat.le_refl _) (by omega)).1
      rw [if_neg c1, w_sel_neg nP]
      exact ⟨σ, rfl, fun _ _ _ => rfl⟩
/-- how many of n units are among the first i -/
theorem w_seen_sum (o : Int → Int) (n : Nat) : ∀ i : Nat, w_sumf (fun v => w_sel (w_has o i v) 1 0) n 0 ≤ i ∧ (w_sumf (fun v => w_sel (w_has o i v) 1 0) n 0 = i → ∀ k : Nat, k < i → (0 ≤ o k ∧ o k < n) ∧ ∀ j : Nat, j < k → o j ≠ o k)
  | 0 => by
    have z : ∀ (n : Nat) (k : Int), w_sumf (fun v => w_sel (w_has o 0 v) 1 0) n k = 0 := by
      intro n
      induction n with
      | zero => intro k; rfl
      | succ n ih =>
        intro k
        have u : w_sumf (fun v => w_sel (w_has o 0 v) (1 : Int) 0) (n + 1) k = w_sel (w_has o 0 k) 1 0 + w_sumf (fun v => w_sel (w_has o 0 v) 1 0) n (k + 1) := rfl
        rw [u, ih, w_sel_neg (fun ⟨k, k1, _⟩ => absurd k1 (Nat.not_lt_zero k))]
        rfl
    rw [z]
    exact ⟨by omega, fun _ k hk => absurd hk (Nat.not_lt_zero k)⟩
  | i + 1 => by
    have ih := w_seen_sum o n i
    have same : w_has o i (o i) → ∀ v, (w_has o (i + 1) v ↔ w_has o i v) := by
      intro h v
      constructor
      · intro ⟨k, k1, k2⟩
        by_cases w : k = i
        · subst w
          rw [← k2]
          exact h
        · exact ⟨k, by omega, k2⟩
      · intro ⟨k, k1, k2⟩
        exact ⟨k, by omega, k2⟩
    have other : ∀ v, v ≠ o i → (w_has o (i + 1) v ↔ w_has o i v) := by
      intro v hv
      constructor
      · intro ⟨k, k1, k2⟩
        by_cases w : k = i
        · subst w
          exact absurd k2.symm hv
        · exact ⟨k, by omega, k2⟩
      · intro ⟨k, k1, k2⟩
        exact ⟨k, by omega, k2⟩
    have z : ∀ (n : Nat) (k : Int), w_sumf (fun v => w_sel (w_has o (i + 1) v) 1 0) n k = w_sumf (fun v => w_sel (w_has o i v) 1 0) n k + (if k ≤ o i ∧ o i < k + n then w_sel (w_has o i (o i)) 0 1 else 0) := by
      intro n
      induction n with
      | zero =>
        intro k
        rw [if_neg (by omega)]
        rfl
      | succ n ih =>
        intro k
        have u : ∀ j : Nat, w_sumf (fun v => w_sel (w_has o j v) (1 : Int) 0) (n + 1) k = w_sel (w_has o j k) 1 0 + w_sumf (fun v => w_sel (w_has o j v) 1 0) n (k + 1) := fun _ => rfl
        rw [u, u, ih]
        by_cases c : o i = k
        · rw [if_neg (by omega), if_pos (by omega)]
          by_cases g : w_has o i (o i)
          · rw [w_sel_pos g, w_sel_iff (same g k)]
            omega
          · rw [w_sel_neg g]
            rw [c] at g
            have hk : w_has o (i + 1) k := ⟨i, by omega, c⟩
            rw [w_sel_pos hk, w_sel_neg g]
            omega
        · rw [w_sel_iff (other k (fun w => c w.symm))]
          by_cases g : k + 1 ≤ o i ∧ o i < k + 1 + n
          · rw [if_pos g, if_pos (by omega)]
            omega
          · rw [if_neg g, if_neg (by omega)]
            omega
    rw [z n 0]
    by_cases c : 0 ≤ o i ∧ o i < 0 + n
    · rw [if_pos c]
      by_cases g : w_has o i (o i)
      · rw [w_sel_pos g]
        refine ⟨by omega, fun w => by omega⟩
      · rw [w_sel_neg g]
        refine ⟨by omega, fun w k hk => ?_⟩
        by_cases e : k = i
        · subst e
          exact ⟨by omega, fun j hj w => g ⟨j, hj, w⟩⟩
        · exact ih.2 (by omega) k (by omega)
    · rw [if_neg c]
      exact ⟨by omega, fun w => by omega⟩
theorem w_mask : ∀ n : Fin 7, ∀ s : Fin 64, ((s.val : Int) = z_wrap (z_shl 1 (n.val : Int) - 1) ↔ ∀ v : Fin 6, z_b (s.val : Int) (v.val : Int) = if v.val < n.val then 1 else 0) := by decide +kernel
theorem w_sumf_ext (f g : Int → Int) : ∀ (n : Nat) (k : Int), (∀ v, k ≤ v → v < k + n → f v = g v) → w_sumf f n k = w_sumf g n k
  | 0, k, h => rfl
  | n + 1, k, h => by
    show f k + w_sumf f n (k + 1) = g k + w_sumf g n (k + 1)
    rw [h k (by omega) (by omega), w_sumf_ext f g n (k + 1) (fun v a b => h v (by omega) (by omega))]
theorem w_sumf_one : ∀ (n : Nat) (k : Int), w_sumf (fun _ => 1) n k = n
  | 0, k => rfl
  | n + 1, k => by
    show 1 + w_sumf (fun _ => 1) n (k + 1) = _
    rw [w_sumf_one n (k + 1)]
    omega
/-- the bits of what is seen tell whether it is an order -/
theorem w_mask_PF (n : Nat) (hn : n ≤ 6) (o : Int → Int) (ho : ∀ k : Nat, k < n → 0 ≤ o k ∧ o k ≤ 5) (S : Int) (S0 : 0 ≤ S) (S1 : S < 64) (hS : ∀ v : Nat, v < 6 → (z_b S v = 1 ↔ w_has o n v)) : S = z_wrap (z_shl 1 (n : Int) - 1) ↔ w_PF n o 0 := by
  obtain ⟨x, hx⟩ := Int.eq_ofNat_of_zero_le S0
  have m := w_mask ⟨n, by omega⟩ ⟨x, by omega⟩
  have m : (x : Int) = z_wrap (z_shl 1 (n : Int) - 1) ↔ ∀ v : Fin 6, z_b (x : Int) (v.val : Int) = if v.val < n then 1 else 0 := m
  rw [hx, m]
  constructor
  · intro b
    have all : ∀ v : Int, 0 ≤ v → v < 0 + n → w_sel (w_has o n v) 1 0 = (1 : Int) := by
      intro v v0 v1
      obtain ⟨k, hk⟩ := Int.eq_ofNat_of_zero_le v0
      subst hk
      have q := b ⟨k, by omega⟩
      have q : z_b (x : Int) (k : Int) = if k < n then 1 else 0 := q
      rw [if_pos (by omega), ← hx] at q
      exact w_sel_pos ((hS k (by omega)).1 q)
    have s := w_sumf_ext (fun v => w_sel (w_has o n v) 1 0) (fun _ => 1) n 0 all
    rw [w_sumf_one] at s
    have r := (w_seen_sum o n n).2 s
    intro k _ hk
    exact ⟨(r k hk).1.2, (r k hk).2⟩
  · intro P v
    have b01 := w_zb01 (x : Int) (v.val : Int) (by omega) (by omega) (by omega) (by have := v.2; omega)
    have hv := hS v.val v.2
    rw [hx] at hv
    by_cases c : v.val < n
    · rw [if_pos c]
      exact hv.2 (w_surj n o (fun k hk => ⟨(ho k hk).1, (P k (Nat.zero_le _) hk).1, (P k (Nat.zero_le _) hk).2⟩) v.val (by omega) (by omega))
    · rw [if_neg c]
      have nh : ¬ w_has o n (v.val : Int) := by
        intro ⟨k, k1, k2⟩
        have q := (P k (Nat.zero_le _) k1).1
        omega
      have w : ¬ z_b (x : Int) (v.val : Int) = 1 := fun w => nh (hv.1 w)
      omega
theorem s_183n (d : Nat) (n : Nat) (hn : n ≤ 6) (x1 : Int) : ∀ (m i : Nat) (rest S : Int) (σ : Nat → Int → Int), i + m = n → σ 71 29 = (n : Int) → ∃ (r' S' : Int) (σ' : Nat → Int → Int), zE d 183 7 [some (.inr 75), some (.inl x1), some (.inl rest), some (.inl S), some (.inl i)] [] (zS, σ) = zE d 183 7 [some (.inr 75), some (.inl x1), some (.inl r'), some (.inl S'), some (.inl n)] [] (zS, σ') ∧ ∀ c : Nat, c ≠ 107 → σ' c = σ c
  | 0, i, rest, S, σ, h, en => ⟨rest, S, σ, by rw [show i = n by omega], fun _ _ => rfl⟩
  | m + 1, i, rest, S, σ, h, en => by
    have i6 : 0 ≤ ((i : Nat) : Int) ∧ ((i : Nat) : Int) < 6 := by omega
    rw [e_183_7, en, if_pos (by omega), if_pos i6, if_pos i6, z_wid (x := (i : Int) + 1) (by omega) (by omega)]
    obtain ⟨r', S', σ', t1, t2⟩ := s_183n d n hn x1 m (i + 1) (z_wrap (Int.tdiv rest 6)) (z_or S (z_shl 1 (z_up σ 107 i (Int.tmod rest 6) 107 i))) (z_up σ 107 i (Int.tmod rest 6)) (by omega) (by rw [z_up_fn (by omega)]; exact en)
    exact ⟨r', S', σ', t1, fun c hc => by rw [t2 c hc, z_up_fn hc]⟩
theorem s_183l (d : Nat) (n : Nat) (hn : n ≤ 6) (x1 : Int) : ∀ (m i : Nat) (rest S : Int) (σ : Nat → Int → Int), i + m = n → σ 71 29 = (n : Int) → 0 ≤ rest → rest < 2147483648 → 0 ≤ S → S < 64 → (∀ v : Nat, v < 6 → (z_b S v = 1 ↔ w_has (σ 107) i v)) → ∃ (S' : Int) (σ' : Nat → Int → Int), zE d 183 7 [some (.inr 75), some (.inl x1), some (.inl rest), some (.inl S), some (.inl i)] [] (zS, σ) = zE d 183 7 [some (.inr 75), some (.inl x1), some (.inl (w_q6 m rest)), some (.inl S'), some (.inl n)] [] (zS, σ') ∧ (∀ c : Nat, c ≠ 107 → σ' c = σ c) ∧ (∀ k : Nat, k < i → σ' 107 k = σ 107 k) ∧ (∀ j : Nat, i + j < n → σ' 107 ((i + j : Nat) : Int) = w_d6 j rest) ∧ 0 ≤ S' ∧ S' < 64 ∧ ∀ v : Nat, v < 6 → (z_b S' v = 1 ↔ w_has (σ' 107) n v)
  | 0, i, rest, S, σ, h, en, r0, r1, S0, S1, hS => by
    have e : i = n := by omega
    subst e
    exact ⟨S, σ, rfl, fun _ _ => rfl, fun _ _ => rfl, fun j hj => by omega, S0, S1, hS⟩
  | m + 1, i, rest, S, σ, h, en, r0, r1, S0, S1, hS => by
    have i6 : 0 ≤ ((i : Nat) : Int) ∧ ((i : Nat) : Int) < 6 := by omega
    rw [e_183_7, en, if_pos (by omega), if_pos i6, if_pos i6, z_wid (x := (i : Int) + 1) (by omega) (by omega), w_tdm rest 6 r0, w_tdd rest 6 r0, z_up_eq, z_wid (x := rest / 6) (by omega) (by omega)]
    obtain ⟨u, hu⟩ := Int.eq_ofNat_of_zero_le (show 0 ≤ rest % 6 by omega)
    have u6 : 0 ≤ ((u : Nat) : Int) ∧ ((u : Nat) : Int) < 6 := by omega
    have or6 := w_or6 S u S0 S1 u6.1 u6.2
    rw [hu]
    obtain ⟨S', σ', t1, t2, t3, t4, t5, t6, t7⟩ := s_183l d n hn x1 m (i + 1) (rest / 6) (z_or S (z_shl 1 u)) (z_up σ 107 i u) (by omega) (by rw [z_up_fn (by omega)]; exact en) (by omega) (by omega) or6.1 or6.2 (by
      intro v hv
      rw [w_zbor S u v S0 (by omega) u6.1 (by omega) (by omega) (by omega)]
      by_cases w : (v : Int) = (u : Int)
      · rw [if_pos w]
        exact ⟨fun _ => ⟨i, by omega, by rw [z_up_eq, w]⟩, fun _ => rfl⟩
      · rw [if_neg w, hS v hv]
        constructor
        · intro ⟨k, k1, k2⟩
          exact ⟨k, by omega, by rw [z_up_ni (by omega)]; exact k2⟩
        · intro ⟨k, k1, k2⟩
          by_cases y : k = i
          · subst y
            rw [z_up_eq] at k2
            exact absurd k2.symm w
          · rw [z_up_ni (by omega)] at k2
            exact ⟨k, by omega, k2⟩)
    refine ⟨S', σ', t1, fun c hc => by rw [t2 c hc, z_up_fn hc], fun k hk => by rw [t3 k (by omega), z_up_ni (by omega)], fun j hj => ?_, t5, t6, t7⟩
    match j, hj with
    | 0, hj =>
      show σ' 107 ((i : Nat) : Int) = rest % 6
      rw [t3 i (by omega), z_up_eq, hu]
    | j + 1, hj =>
      have q := t4 j (by omega)
      rw [show ((i + (j + 1) : Nat) : Int) = ((i + 1 + j : Nat) : Int) by omega]
      exact q
