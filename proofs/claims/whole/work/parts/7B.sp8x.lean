/-- a unit that is in the way pushes -/
noncomputable def w_ps (ha le wh b : Int → Int) (u v t : Int) : Int := w_sel (w_clash ha le wh b u t v) (b v + le v + w_rest ha wh u v) t
noncomputable def w_pu (ha le wh o b : Int → Int) (u : Int) : Nat → Nat → Int → Int
  | 0, _, t => t
  | m + 1, i, t => w_pu ha le wh o b u m (i + 1) (w_ps ha le wh b u (o i) t)
noncomputable def w_it (f : Int → Int) : Nat → Int → Int
  | 0, t => t
  | m + 1, t => w_it f m (f t)
theorem w_rest_or (ha wh : Int → Int) (u v : Int) : w_rest ha wh u v = 0 ∨ w_rest ha wh u v = 30 ∨ w_rest ha wh u v = -10000 := by
  unfold w_rest
  repeat' split
  · exact Or.inl rfl
  · exact Or.inr (Or.inr rfl)
  · exact Or.inr (Or.inl rfl)
theorem w_ps_ge (ha le wh b : Int → Int) (u v t : Int) : t ≤ w_ps ha le wh b u v t := by
  unfold w_ps
  by_cases c : w_clash ha le wh b u t v
  · rw [w_sel_pos c]
    exact Int.le_of_lt c.1
  · rw [w_sel_neg c]
    exact Int.le_refl _
theorem w_ps_le (ha le wh b : Int → Int) (u v t x : Int) (h : t ≤ x) (hx : ¬ w_clash ha le wh b u x v) : w_ps ha le wh b u v t ≤ x := by
  unfold w_ps
  by_cases c : w_clash ha le wh b u t v
  · rw [w_sel_pos c]
    obtain ⟨c1, c2⟩ := c
    by_cases e : x < b v + le v + w_rest ha wh u v
    · exact absurd ⟨e, by omega⟩ hx
    · omega
  · rw [w_sel_neg c]
    exact h
theorem w_ps_past (ha le wh b : Int → Int) (u v t x : Int) (h : x ≤ t) (hx : w_clash ha le wh b u x v) : b v + le v + w_rest ha wh u v ≤ w_ps ha le wh b u v t := by
  unfold w_ps
  by_cases c : w_clash ha le wh b u t v
  · rw [w_sel_pos c]
    exact Int.le_refl _
  · rw [w_sel_neg c]
    obtain ⟨h1, h2⟩ := hx
    by_cases e : t < b v + le v + w_rest ha wh u v
    · exact absurd ⟨e, by omega⟩ c
    · omega
theorem w_pu_ge (ha le wh o b : Int → Int) (u : Int) : ∀ (m i : Nat) (t : Int), t ≤ w_pu ha le wh o b u m i t
  | 0, i, t => Int.le_refl _
  | m + 1, i, t => Int.le_trans (w_ps_ge ha le wh b u (o i) t) (w_pu_ge ha le wh o b u m (i + 1) _)
theorem w_pu_le (ha le wh o b : Int → Int) (u x : Int) : ∀ (m i : Nat) (t : Int), t ≤ x → (∀ k : Nat, i ≤ k → k < i + m → ¬ w_clash ha le wh b u x (o k)) → w_pu ha le wh o b u m i t ≤ x
  | 0, i, t, h, hx => h
  | m + 1, i, t, h, hx => w_pu_le ha le wh o b u x m (i + 1) _ (w_ps_le ha le wh b u (o i) t x h (hx i (by omega) (by omega))) (fun k k0 k1 => hx k (by omega) (by omega))
theorem w_pu_past (ha le wh o b : Int → Int) (u x : Int) : ∀ (m i : Nat) (t : Int), x ≤ t → ∀ k : Nat, i ≤ k → k < i + m → w_clash ha le wh b u x (o k) → b (o k) + le (o k) + w_rest ha wh u (o k) ≤ w_pu ha le wh o b u m i t
  | 0, i, t, h, k, k0, k1, hx => by omega
  | m + 1, i, t, h, k, k0, k1, hx => by
    by_cases e : k = i
    · subst e
      exact Int.le_trans (w_ps_past ha le wh b u (o k) t x h hx) (w_pu_ge ha le wh o b u m (k + 1) _)
    · exact w_pu_past ha le wh o b u x m (i + 1) _ (Int.le_trans h (w_ps_ge ha le wh b u (o i) t)) k (by omega) (by omega) hx
/-- how many units are passed -/
def w_pc (E : Nat → Int) (t : Int) : Nat → Int
  | 0 => 0
  | k + 1 => w_pc E t k + (if E k ≤ t then 1 else 0)
theorem w_pc_mono (E : Nat → Int) (t t' : Int) (h : t ≤ t') : ∀ p : Nat, w_pc E t p ≤ w_pc E t' p
  | 0 => Int.le_refl _
  | p + 1 => by
    have q := w_pc_mono E t t' h p
    unfold w_pc
    repeat' split
    all_goals omega
theorem w_pc_lt (E : Nat → Int) (t t' : Int) (h : t ≤ t') (i : Nat) (h1 : t < E i) (h2 : E i ≤ t') : ∀ p : Nat, i < p → w_pc E t p + 1 ≤ w_pc E t' p
  | 0, hp => absurd hp (Nat.not_lt_zero i)
  | p + 1, hp => by
    unfold w_pc
    by_cases e : i = p
    · subst e
      have q := w_pc_mono E t t' h i
      rw [if_neg (by omega), if_pos h2]
      omega
    · have q := w_pc_lt E t t' h i h1 h2 p (by omega)
      repeat' split
      all_goals omega
theorem w_pc_all (E : Nat → Int) (t : Int) : ∀ p : Nat, w_pc E t p ≤ p ∧ (w_pc E t p = p → ∀ i : Nat, i < p → E i ≤ t)
  | 0 => ⟨Int.le_refl _, fun _ i hi => absurd hi (Nat.not_lt_zero i)⟩
  | p + 1 => by
    obtain ⟨q1, q2⟩ := w_pc_all E t p
    unfold w_pc
    by_cases c : E p ≤ t
    · rw [if_pos c]
      refine ⟨by omega, fun h i hi => ?_⟩
      by_cases e : i = p
      · subst e
        exact c
      · exact q2 (by omega) i (by omega)
    · rw [if_neg c]
      refine ⟨by omega, fun h i hi => by omega⟩
theorem w_it_free (ha le wh o b : Int → Int) (u : Int) (p : Nat) : ∀ (m : Nat) (t : Int), (w_free ha le wh o b p u t → w_it (w_pu ha le wh o b u p 0) m t = t) ∧ t ≤ w_it (w_pu ha le wh o b u p 0) m t ∧ (∀ x : Int, t ≤ x → w_free ha le wh o b p u x → w_it (w_pu ha le wh o b u p 0) m t ≤ x) ∧ (w_free ha le wh o b p u (w_it (w_pu ha le wh o b u p 0) m t) ∨ w_pc (fun k => b (o k) + le (o k) + w_rest ha wh u (o k)) t p + m ≤ w_pc (fun k => b (o k) + le (o k) + w_rest ha wh u (o k)) (w_it (w_pu ha le wh o b u p 0) m t) p)
  | 0, t => ⟨fun _ => rfl, Int.le_refl _, fun x h _ => h, Or.inr (by show _ + ((0 : Nat) : Int) ≤ w_pc _ t p; omega)⟩
  | m + 1, t => by
    have u1 : w_it (w_pu ha le wh o b u p 0) (m + 1) t = w_it (w_pu ha le wh o b u p 0) m (w_pu ha le wh o b u p 0 t) := rfl
    have ge := w_pu_ge ha le wh o b u p 0 t
    have ih := w_it_free ha le wh o b u p m (w_pu ha le wh o b u p 0 t)
    have fx : w_free ha le wh o b p u t → w_pu ha le wh o b u p 0 t = t := fun f => by
      have q := w_pu_le ha le wh o b u t p 0 t (Int.le_refl _) (fun k _ k1 => f k (by omega))
      omega
    rw [u1]
    refine ⟨fun f => ?_, Int.le_trans ge ih.2.1, fun x h f => ih.2.2.1 x (w_pu_le ha le wh o b u x p 0 t h (fun k _ k1 => f k (by omega))) f, ?_⟩
    · have e := fx f
      rw [e] at ih ⊢
      exact ih.1 f
    · by_cases f : w_free ha le wh o b p u t
      · have e := fx f
        rw [e] at ih ⊢
        rw [ih.1 f]
        exact Or.inl f
      · have ex : ∃ k : Nat, k < p ∧ w_clash ha le wh b u t (o k) := by
          by_cases g : ∃ k : Nat, k < p ∧ w_clash ha le wh b u t (o k)
          · exact g
          · exact absurd (fun k hk c => g ⟨k, hk, c⟩) f
        obtain ⟨k, hk, c⟩ := ex
        have past := w_pu_past ha le wh o b u t p 0 t (Int.le_refl _) k (by omega) (by omega) c
        have q := w_pc_lt (fun k => b (o k) + le (o k) + w_rest ha wh u (o k)) t _ ge k c.1 past p hk
        rcases ih.2.2.2 with w | w
        · exact Or.inl w
        · exact Or.inr (by omega)
/-- behind as many rounds as units are placed nothing is in the way -/
theorem w_it_end (ha le wh o b : Int → Int) (u : Int) (p : Nat) (t : Int) : w_free ha le wh o b p u (w_it (w_pu ha le wh o b u p 0) p t) := by
  have q := w_it_free ha le wh o b u p p t
  rcases q.2.2.2 with w | w
  · exact w
  · have a := w_pc_all (fun k => b (o k) + le (o k) + w_rest ha wh u (o k)) (w_it (w_pu ha le wh o b u p 0) p t) p
    have z : ∀ (E : Nat → Int) (t : Int) (p : Nat), 0 ≤ w_pc E t p := by
      intro E t p
      induction p with
      | zero => exact Int.le_refl _
      | succ p ih =>
        unfold w_pc
        split <;> omega
    have z1 := z (fun k => b (o k) + le (o k) + w_rest ha wh u (o k)) t p
    intro k hk c
    have e := a.2 (by omega) k hk
    have c1 := c.1
    exact absurd c1 (by
      have e : b (o k) + le (o k) + w_rest ha wh u (o k) ≤ w_it (w_pu ha le wh o b u p 0) p t := e
      omega)
theorem w_scan_eq (ha le wh o b : Int → Int) (p : Nat) (u B : Int) (hf : w_free ha le wh o b p u B) : ∀ (m : Nat) (t : Int), t ≤ B → (∀ x : Int, t ≤ x → w_free ha le wh o b p u x → B ≤ x) → w_scan ha le wh o b p u m t = if B < t + m then B else -1
  | 0, t, h, hl => by
    unfold w_scan
    rw [if_neg (by omega)]
  | m + 1, t, h, hl => by
    unfold w_scan
    by_cases e : t = B
    · subst e
      rw [w_sel_pos hf, if_pos (by omega)]
    · have nf : ¬ w_free ha le wh o b p u t := fun f => by
        have q := hl t (Int.le_refl _) f
        omega
      rw [w_sel_neg nf, w_scan_eq ha le wh o b p u B hf m (t + 1) (by omega) (fun x hx f => hl x (by omega) f)]
      by_cases c : B < t + 1 + m
      · rw [if_pos c, if_pos (by omega)]
      · rw [if_neg c, if_neg (by omega)]
theorem w_scan_it (ha le wh o b : Int → Int) (p : Nat) (u lim t : Int) : w_scan ha le wh o b p u (lim + 1 - t).toNat t = if w_it (w_pu ha le wh o b u p 0) p t ≤ lim then w_it (w_pu ha le wh o b u p 0) p t else -1 := by
  have q := w_it_free ha le wh o b u p p t
  rw [w_scan_eq ha le wh o b p u _ (w_it_end ha le wh o b u p t) _ t q.2.1 q.2.2.1]
  by_cases c : w_it (w_pu ha le wh o b u p 0) p t ≤ lim
  · rw [if_pos c, if_pos (by omega)]
  · rw [if_neg c, if_neg (by omega)]
theorem w_has_congr {o o' : Int → Int} {p : Nat} {v : Int} (h : ∀ k : Nat, k < p → o k = o' k) : w_has o p v ↔ w_has o' p v := by
  constructor
  · intro ⟨k, a, b⟩
    exact ⟨k, a, by rw [← h k a]; exact b⟩
  · intro ⟨k, a, b⟩
    exact ⟨k, a, by rw [h k a]; exact b⟩
theorem w_sel_iff {α : Type} {p q : Prop} {a b : α} (h : p ↔ q) : w_sel p a b = w_sel q a b := by
  by_cases c : p
  · rw [w_sel_pos c, w_sel_pos (h.1 c)]
  · rw [w_sel_neg c, w_sel_neg (fun w => c (h.2 w))]
theorem w_free_congr {ha le wh o o' b b' : Int → Int} {p : Nat} {u t : Int} (h : ∀ k : Nat, k < p → o k = o' k) (hb : ∀ k : Nat, k < p → b (o k) = b' (o k)) : w_free ha le wh o b p u t ↔ w_free ha le wh o' b' p u t := by
  constructor
  · intro f k hk c
    apply f k hk
    rw [← h k hk] at c
    unfold w_clash at c ⊢
    rw [hb k hk]
    exact c
  · intro f k hk c
    apply f k hk
    rw [← h k hk]
    unfold w_clash at c ⊢
    rw [← hb k hk]
    exact c
theorem w_scan_congr {ha le wh o o' b b' : Int → Int} {p : Nat} {u : Int} (h : ∀ k : Nat, k < p → o k = o' k) (hb : ∀ k : Nat, k < p → b (o k) = b' (o k)) : ∀ (m : Nat) (t : Int), w_scan ha le wh o b p u m t = w_scan ha le wh o' b' p u m t
  | 0, t => rfl
  | m + 1, t => by
    unfold w_scan
    rw [w_sel_iff (w_free_congr h hb), w_scan_congr h hb m (t + 1)]
theorem w_beg_congr {ha le wh be li o o' b b' : Int → Int} {p : Nat} {u : Int} (h : ∀ k : Nat, k < p → o k = o' k) (hb : ∀ k : Nat, k < p → b (o k) = b' (o k)) : w_beg ha le wh be li o b p u = w_beg ha le wh be li o' b' p u := by
  unfold w_beg
  rw [w_sel_iff (show (be u ≠ -1 ∧ ¬ w_has o p (be u % 10)) ↔ (be u ≠ -1 ∧ ¬ w_has o' p (be u % 10)) by rw [w_has_congr h])]
  by_cases c : be u ≠ -1 ∧ ¬ w_has o' p (be u % 10)
  · rw [w_sel_pos c, w_sel_pos c]
  · rw [w_sel_neg c, w_sel_neg c]
    have e : w_from le be b u = w_from le be b' u := by
      unfold w_from
      by_cases z : be u = -1
      · rw [if_pos z, if_pos z]
      · rw [if_neg z, if_neg z]
        have g : w_has o' p (be u % 10) := by
          by_cases y : w_has o' p (be u % 10)
          · exact y
          · exact absurd ⟨z, y⟩ c
        obtain ⟨k, k1, k2⟩ := g
        have q := hb k k1
        rw [h k k1, k2] at q
        rw [q]
    rw [e, w_scan_congr h hb]
/-- what is known of the units -/
def w_DU (n : Nat) (ha le wh be li : Int → Int) : Prop := n ≤ 6 ∧ ∀ u : Nat, u < n → 0 ≤ ha u ∧ ha u ≤ 3 ∧ 1 ≤ le u ∧ le u ≤ 240 ∧ 0 ≤ wh u ∧ wh u < 4096 ∧ (be u = -1 ∨ 0 ≤ be u ∧ be u % 10 < u ∧ be u / 10 ≤ 200) ∧ (li u = 0 ∨ li u = 1)
/-- what is known of the first p of an order -/
def w_OK (n : Nat) (le o b : Int → Int) (p : Nat) : Prop := ∀ k : Nat, k < p → 0 ≤ o k ∧ o k < n ∧ 360 ≤ b (o k) ∧ b (o k) + le (o k) ≤ 1440 ∧ ∀ j : Nat, j < k → o j ≠ o k
theorem w_scan_rng (ha le wh o b : Int → Int) (p : Nat) (u : Int) : ∀ (m : Nat) (t : Int), w_scan ha le wh o b p u m t = -1 ∨ (t ≤ w_scan ha le wh o b p u m t ∧ w_scan ha le wh o b p u m t < t + m)
  | 0, t => Or.inl rfl
  | m + 1, t => by
    unfold w_scan
    by_cases c : w_free ha le wh o b p u t
    · rw [w_sel_pos c]
      exact Or.inr ⟨Int.le_refl _, by omega⟩
    · rw [w_sel_neg c]
      rcases w_scan_rng ha le wh o b p u m (t + 1) with q | q
      · exact Or.inl q
      · exact Or.inr ⟨by omega, by omega⟩
theorem w_from_ge (le be b : Int → Int) (u : Int) : 360 ≤ w_from le be b u := by
  unfold w_from
  repeat' split
  all_goals omega
theorem w_lim_le (li : Int → Int) (u : Int) : w_lim li u = 1440 ∨ w_lim li u = 1200 := by
  unfold w_lim
  split
  · exact Or.inl rfl
  · exact Or.inr rfl
theorem w_beg_rng (ha le wh be li o b : Int → Int) (p : Nat) (u : Int) : w_beg ha le wh be li o b p u = -1 ∨ (360 ≤ w_beg ha le wh be li o b p u ∧ w_beg ha le wh be li o b p u + le u ≤ 1440) := by
  unfold w_beg
  by_cases c : be u ≠ -1 ∧ ¬ w_has o p (be u % 10)
  · rw [w_sel_pos c]
    exact Or.inl rfl
  · rw [w_sel_neg c]
    have a := w_from_ge le be b u
    have l := w_lim_le li u
    rcases w_scan_rng ha le wh o b p u (w_lim li u - le u + 1 - w_from le be b u).toNat (w_from le be b u) with q | q
    · exact Or.inl q
    · exact Or.inr ⟨by omega, by omega⟩
theorem w_OK_up {n : Nat} {le o b : Int → Int} {p : Nat} (h : w_OK n le o b p) (u : Nat) (t : Int) (hu : u < n) (nh : ¬ w_has o p u) (h1 : 360 ≤ t) (h2 : t + le u ≤ 1440) : w_OK n le (w_set o p u) (w_set b u t) (p + 1) := by
  intro k hk
  by_cases e : k = p
  · subst e
    rw [w_set_eq, w_set_eq]
    refine ⟨by omega, by omega, h1, h2, fun j hj w => ?_⟩
    rw [w_set_ne _ _ _ _ (by omega)] at w
    exact nh ⟨j, hj, w⟩
  · obtain ⟨q1, q2, q3, q4, q5⟩ := h k (by omega)
    have ne : o k ≠ (u : Int) := fun w => nh ⟨k, by omega, w⟩
    rw [w_set_ne _ _ _ _ (by omega), w_set_ne _ _ _ _ ne]
    refine ⟨q1, q2, q3, q4, fun j hj => ?_⟩
    rw [w_set_ne _ _ _ _ (by omega)]
    exact q5 j hj
/-- what ends no earlier changes nothing -/
theorem w_pl_prune (n : Nat) (ha le wh be li : Int → Int) : ∀ (k p : Nat) (o b : Int → Int) (e : Int) (st : Int × (Int → Int) × (Int → Int)), st.1 ≠ -1 → st.1 ≤ e → w_pl n ha le wh be li k p o b e st = st
  | 0, p, o, b, e, st, h1, h2 => by
    unfold w_pl
    rw [if_neg (fun q => by omega)]
  | k + 1, p, o, b, e, st, h1, h2 => by
    unfold w_pl
    have fid : ∀ (f : Int → Int × (Int → Int) × (Int → Int) → Int × (Int → Int) × (Int → Int)), (∀ x, f x st = st) → ∀ (m : Nat) (x : Int), w_fold f m x st = st := by
      intro f hf m
      induction m with
      | zero => intro x; rfl
      | succ m ih =>
        intro x
        have u : w_fold f (m + 1) x st = w_fold f m (x + 1) (f x st) := rfl
        rw [u, hf x]
        exact ih (x + 1)
    apply fid
    intro u
    show w_sel (w_has o p u) st _ = st
    by_cases c : w_has o p u
    · rw [w_sel_pos c]
    · rw [w_sel_neg c]
      by_cases g : w_beg ha le wh be li o b p u = -1
      · rw [if_pos g]
      · rw [if_neg g]
        apply w_pl_prune n ha le wh be li k (p + 1) _ _ _ st h1
        split <;> omega
/-- distinct ones of n below n are all that are below n -/
theorem w_cnt_sum (f : Int → Int) (n : Nat) : ∀ m : Nat, (∀ k : Nat, k < m → 0 ≤ f k ∧ f k < n) → w_sumf (fun v => z_cnt f v m) n 0 = m
  | 0, h => by
    have z : ∀ (n : Nat) (k : Int), w_sumf (fun v => z_cnt f v 0) n k = 0 := by
      intro n
      induction n with
      | zero => intro k; rfl
      | succ n ih =>
        intro k
        have u : w_sumf (fun v => z_cnt f v 0) (n + 1) k = 0 + w_sumf (fun v => z_cnt f v 0) n (k + 1) := rfl
        rw [u, ih]
        rfl
    exact z n 0
  | m + 1, h => by
    have ih := w_cnt_sum f n m (fun k hk => h k (by omega))
    have hm := h m (by omega)
    have z : ∀ (n : Nat) (k : Int), w_sumf (fun v => z_cnt f v (m + 1)) n k = w_sumf (fun v => z_cnt f v m) n k + (if k ≤ f m ∧ f m < k + n then 1 else 0) := by
      intro n
      induction n with
      | zero =>
        intro k
        rw [if_neg (by omega)]
        rfl
      | succ n ih =>
        intro k
        have u : w_sumf (fun v => z_cnt f v (m + 1)) (n + 1) k = (z_cnt f k m + (if f m = k then 1 else 0)) + w_sumf (fun v => z_cnt f v (m + 1)) n (k + 1) := rfl
        have u2 : w_sumf (fun v => z_cnt f v m) (n + 1) k = z_cnt f k m + w_sumf (fun v => z_cnt f v m) n (k + 1) := rfl
        rw [u, u2, ih]
        by_cases c : f m = k
        · rw [if_pos c, if_neg (by omega), if_pos (by omega)]
          omega
        · rw [if_neg c]
          by_cases g : k + 1 ≤ f m ∧ f m < k + 1 + n
          · rw [if_pos g, if_pos (by omega)]
            omega
          · rw [if_neg g, if_neg (by omega)]
            omega
    rw [z n 0, ih, if_pos (by omega)]
    rfl
theorem w_cnt_le1 (f : Int → Int) (v : Int) : ∀ m : Nat, (∀ k : Nat, k < m → ∀ j : Nat, j < k → f j ≠ f k) → (z_cnt f v m = 0 ∧ ∀ k : Nat, k < m → f k ≠ v) ∨ (z_cnt f v m = 1 ∧ ∃ k : Nat, k < m ∧ f k = v)
  | 0, h => Or.inl ⟨rfl, fun k hk => absurd hk (Nat.not_lt_zero k)⟩
  | m + 1, h => by
    have ih := w_cnt_le1 f v m (fun k hk => h k (by omega))
    have u : z_cnt f v (m + 1) = z_cnt f v m + (if f m = v then 1 else 0) := rfl
    rw [u]
    by_cases c : f m = v
    · rw [if_pos c]
      rcases ih with q | q
      · exact Or.inr ⟨by omega, m, by omega, c⟩
      · obtain ⟨k, k1, k2⟩ := q.2
        exact absurd (k2.trans c.symm) (h m (by omega) k k1)
    · rw [if_neg c]
      rcases ih with q | q
      · refine Or.inl ⟨by omega, fun k hk => ?_⟩
        by_cases e : k = m
        · subst e
          exact c
        · exact q.2 k (by omega)
      · obtain ⟨k, k1, k2⟩ := q.2
        exact Or.inr ⟨by omega, k, by omega, k2⟩
theorem w_sum_all (g : Int → Int) (hg : ∀ v, g v ≤ 1) : ∀ (n : Nat) (k : Int), w_sumf g n k ≤ n ∧ (w_sumf g n k = n → ∀ v, k ≤ v → v < k + n → g v = 1)
  | 0, k => ⟨Int.le_refl _, fun _ v a b => by omega⟩
  | n + 1, k => by
    have ih := w_sum_all g hg n (k + 1)
    have u : w_sumf g (n + 1) k = g k + w_sumf g n (k + 1) := rfl
    have gk := hg k
    rw [u]
    refine ⟨by omega, fun h v a b => ?_⟩
    by_cases e : v = k
    · subst e
      omega
    · exact ih.2 (by omega) v (by omega) (by omega)
theorem w_surj (n : Nat) (o : Int → Int) (h : ∀ k : Nat, k < n → 0 ≤ o k ∧ o k < n ∧ ∀ j : Nat, j < k → o j ≠ o k) (v : Int) (v0 : 0 ≤ v) (v1 : v < n) : w_has o n v := by
  have s := w_cnt_sum o n n (fun k hk => ⟨(h k hk).1, (h k hk).2.1⟩)
  have a : ∀ v, z_cnt o v n ≤ 1 := fun v => by
    rcases w_cnt_le1 o v n (fun k hk => (h k hk).2.2) with q | q <;> omega
  have b := (w_sum_all (fun v => z_cnt o v n) a n 0).2 s v v0 (by omega)
  have b : z_cnt o v n = 1 := b
  rcases w_cnt_le1 o v n (fun k hk => (h k hk).2.2) with q | q
  · omega
  · exact q.2
