theorem w_set_eq (r : Int → Int) (g x : Int) : w_set r g x g = x := if_pos rfl
theorem w_set_ne (r : Int → Int) (g x i : Int) (h : i ≠ g) : w_set r g x i = r i := if_neg h
theorem w_fold_ge (f : Int → Int × (Int → Int) → Int × (Int → Int)) (hf : ∀ x s, s.1 ≤ (f x s).1) : ∀ (m : Nat) (x : Int) (s : Int × (Int → Int)), s.1 ≤ (w_fold f m x s).1
  | 0, x, s => Int.le_refl _
  | m + 1, x, s => Int.le_trans (hf x s) (w_fold_ge f hf m (x + 1) (f x s))
theorem w_fold_id (f : Int → Int × (Int → Int) → Int × (Int → Int)) (s : Int × (Int → Int)) (hf : ∀ x, f x s = s) : ∀ (m : Nat) (x : Int), w_fold f m x s = s
  | 0, x => rfl
  | m + 1, x => by
    have u : w_fold f (m + 1) x s = w_fold f m (x + 1) (f x s) := rfl
    rw [u, hf x]
    exact w_fold_id f s hf m (x + 1)
theorem w_lo_ge (nr : Int) (bd na ma fi la : Int → Int) : ∀ (k g : Nat) (r : Int → Int) (sum : Int) (st : Int × (Int → Int)), sum ≤ (w_lo nr bd na ma fi la k g r sum st).1 ∧ st.1 ≤ (w_lo nr bd na ma fi la k g r sum st).1
  | 0, g, r, sum, st => by
    unfold w_lo
    split
    · next h => exact ⟨Int.le_refl _, Int.le_of_lt h⟩
    · next h => exact ⟨by omega, Int.le_refl _⟩
  | k + 1, g, r, sum, st => by
    unfold w_lo
    have a := w_lo_ge nr bd na ma fi la k (g + 1) (w_set r g nr) sum (w_fold (fun x s => w_sel (w_stay bd na ma fi la r g x) (w_lo nr bd na ma fi la k (g + 1) (w_set r g x) (sum + w_wt ma fi la g) s) s) nr.toNat 0 st)
    refine ⟨a.1, Int.le_trans ?_ a.2⟩
    apply w_fold_ge
    intro x s
    by_cases c : w_stay bd na ma fi la r g x
    · show s.1 ≤ (w_sel (w_stay bd na ma fi la r g x) (w_lo nr bd na ma fi la k (g + 1) (w_set r g x) (sum + w_wt ma fi la g) s) s).1
      rw [w_sel_pos c]
      exact (w_lo_ge nr bd na ma fi la k (g + 1) _ _ s).2
    · show s.1 ≤ (w_sel (w_stay bd na ma fi la r g x) (w_lo nr bd na ma fi la k (g + 1) (w_set r g x) (sum + w_wt ma fi la g) s) s).1
      rw [w_sel_neg c]
      exact Int.le_refl _
def w_left (ma fi la : Int → Int) : Nat → Nat → Int
  | 0, _ => 0
  | k + 1, g => w_wt ma fi la g + w_left ma fi la k (g + 1)
theorem w_lo_le (nr : Int) (bd na ma fi la : Int → Int) : ∀ (k g : Nat) (r : Int → Int) (sum : Int) (st : Int × (Int → Int)), (∀ j : Nat, g ≤ j → j < g + k → 0 ≤ w_wt ma fi la j) → sum + w_left ma fi la k g ≤ st.1 → w_lo nr bd na ma fi la k g r sum st = st
  | 0, g, r, sum, st, hw, h => by
    have u : w_left ma fi la 0 g = 0 := rfl
    unfold w_lo
    rw [if_neg (by omega)]
  | k + 1, g, r, sum, st, hw, h => by
    have u : w_left ma fi la (k + 1) g = w_wt ma fi la g + w_left ma fi la k (g + 1) := rfl
    have w0 := hw g (by omega) (by omega)
    unfold w_lo
    have e : w_fold (fun x s => w_sel (w_stay bd na ma fi la r g x) (w_lo nr bd na ma fi la k (g + 1) (w_set r g x) (sum + w_wt ma fi la g) s) s) nr.toNat 0 st = st := by
      apply w_fold_id
      intro x
      by_cases c : w_stay bd na ma fi la r g x
      · show w_sel _ _ _ = st
        rw [w_sel_pos c]
        exact w_lo_le nr bd na ma fi la k (g + 1) _ _ st (fun j a b => hw j (by omega) (by omega)) (by omega)
      · show w_sel _ _ _ = st
        rw [w_sel_neg c]
    rw [e]
    exact w_lo_le nr bd na ma fi la k (g + 1) _ _ st (fun j a b => hw j (by omega) (by omega)) (by omega)
theorem w_use_congr {r r' ma fi la : Int → Int} {x d : Int} : ∀ {g : Nat}, (∀ k : Nat, k < g → r k = r' k) → w_use r ma fi la x d g = w_use r' ma fi la x d g
  | 0, _ => rfl
  | g + 1, h => by
    unfold w_use
    rw [w_use_congr (fun k hk => h k (by omega)), h g (by omega)]
theorem w_use_rng {r ma fi la : Int → Int} {x d : Int} : ∀ {g : Nat}, (∀ k : Nat, k < g → 1 ≤ ma k ∧ ma k ≤ 9) → 0 ≤ w_use r ma fi la x d g ∧ w_use r ma fi la x d g ≤ 9 * g
  | 0, _ => by unfold w_use; omega
  | g + 1, h => by
    have q := @w_use_rng r ma fi la x d g (fun k hk => h k (by omega))
    have w := h g (by omega)
    unfold w_use
    split <;> omega
theorem w_use_pos {r ma fi la : Int → Int} {x d : Int} : ∀ {g : Nat}, (∀ k : Nat, k < g → 1 ≤ ma k ∧ ma k ≤ 9) → 0 < w_use r ma fi la x d g → ∃ k : Nat, k < g ∧ r k = x ∧ fi k ≤ d ∧ d ≤ la k
  | 0, _, p => by
    have u : w_use r ma fi la x d 0 = 0 := rfl
    omega
  | g + 1, h, p => by
    unfold w_use at p
    split at p
    · next c => exact ⟨g, by omega, c.1, c.2.1, c.2.2⟩
    · obtain ⟨k, a, b⟩ := w_use_pos (fun k hk => h k (by omega)) (show 0 < w_use r ma fi la x d g by omega)
      exact ⟨k, by omega, b⟩
theorem w_use_in {r ma fi la : Int → Int} {x d : Int} : ∀ {g : Nat}, (∀ k : Nat, k < g → 1 ≤ ma k ∧ ma k ≤ 9) → ∀ k : Nat, k < g → r k = x → fi k ≤ d → d ≤ la k → 0 < w_use r ma fi la x d g
  | 0, _, k, hk, _, _, _ => absurd hk (Nat.not_lt_zero k)
  | g + 1, h, k, hk, a, b, c => by
    have q := @w_use_rng r ma fi la x d g (fun k hk => h k (by omega))
    have w := h g (by omega)
    unfold w_use
    by_cases e : k = g
    · subst e
      rw [if_pos ⟨a, b, c⟩]
      omega
    · have t := w_use_in (fun k hk => h k (by omega)) k (show k < g by omega) a b c
      split <;> omega
theorem w_stay_congr {bd na ma fi la r r' : Int → Int} {g : Nat} {x : Int} (h : ∀ k : Nat, k < g → r k = r' k) (f : w_stay bd na ma fi la r g x) : w_stay bd na ma fi la r' g x := by
  intro d d0 d1
  obtain ⟨a, b⟩ := f d d0 d1
  refine ⟨by rw [← w_use_congr h]; exact a, fun k hk e => b k hk (by rw [h k hk]; exact e)⟩
/-- the best in memory is st -/
def w_R (b : Int) (v : Int → Int) (n : Nat) (st : Int × (Int → Int)) : Prop := b = st.1 ∧ (st.1 ≠ -1 → ∀ i : Nat, i < n → v i = st.2 i)
def w_sr (nr : Int) (r ma fi la : Int → Int) : Nat → Int
  | 0 => 0
  | i + 1 => w_sr nr r ma fi la i + (if r i < nr then w_wt ma fi la i else 0)
theorem w_sr_congr {nr : Int} {r r' ma fi la : Int → Int} : ∀ {g : Nat}, (∀ k : Nat, k < g → r k = r' k) → w_sr nr r ma fi la g = w_sr nr r' ma fi la g
  | 0, _ => rfl
  | g + 1, h => by
    unfold w_sr
    rw [w_sr_congr (fun k hk => h k (by omega)), h g (by omega)]
theorem w_wt_rng {ma fi la : Int → Int} {g : Int} (h : 1 ≤ ma g ∧ ma g ≤ 9 ∧ 0 ≤ fi g ∧ fi g ≤ la g ∧ la g ≤ 19) : 0 ≤ w_wt ma fi la g ∧ w_wt ma fi la g ≤ 180 := by
  obtain ⟨h1, h2, h3, h4, h5⟩ := h
  unfold w_wt
  have a : 0 ≤ la g - fi g + 1 := by omega
  have b : la g - fi g + 1 ≤ 20 := by omega
  constructor
  · exact Int.mul_nonneg (by omega) a
  · have c := Int.mul_le_mul h2 b a (show (0 : Int) ≤ 9 by decide)
    omega
theorem w_sr_rng {nr : Int} {r ma fi la : Int → Int} : ∀ {g : Nat}, (∀ k : Nat, k < g → 1 ≤ ma k ∧ ma k ≤ 9 ∧ 0 ≤ fi k ∧ fi k ≤ la k ∧ la k ≤ 19) → 0 ≤ w_sr nr r ma fi la g ∧ w_sr nr r ma fi la g ≤ 180 * g
  | 0, _ => by unfold w_sr; omega
  | g + 1, h => by
    have q := @w_sr_rng nr r ma fi la g (fun k hk => h k (by omega))
    have w := w_wt_rng (h g (by omega))
    unfold w_sr
    split <;> omega
theorem w_left_rng {ma fi la : Int → Int} : ∀ {k g : Nat}, (∀ j : Nat, g ≤ j → j < g + k → 1 ≤ ma j ∧ ma j ≤ 9 ∧ 0 ≤ fi j ∧ fi j ≤ la j ∧ la j ≤ 19) → 0 ≤ w_left ma fi la k g ∧ w_left ma fi la k g ≤ 180 * k
  | 0, g, _ => by unfold w_left; omega
  | k + 1, g, h => by
    have q := @w_left_rng ma fi la k (g + 1) (fun j a b => h j (by omega) (by omega))
    have w := w_wt_rng (h g (by omega) (by omega))
    unfold w_left
    omega
