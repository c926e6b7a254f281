def w_olr : List Nat → Nat → (Int → Int) → (Int → Int)
  | [], _, f => f
  | u :: r, j, f => w_olr r (j + 1) (w_set f j u)
/-- an order that is written down -/
def w_ol (l : List Nat) : Int → Int := w_olr l 0 (fun _ => 0)
def w_PLu (f : Nat → List (List Nat)) (pre : List Nat) : Nat → Nat → List (List Nat)
  | 0, _ => []
  | m + 1, u => (if pre.contains u then [] else f u) ++ w_PLu f pre m (u + 1)
/-- all orders of n units that go on with some -/
def w_PL (n : Nat) : Nat → List Nat → List (List Nat)
  | 0, pre => [pre]
  | k + 1, pre => w_PLu (fun u => w_PL n k (pre ++ [u])) pre n 0
theorem w_olr_app : ∀ (a b : List Nat) (j : Nat) (f : Int → Int), w_olr (a ++ b) j f = w_olr b (j + a.length) (w_olr a j f)
  | [], b, j, f => rfl
  | u :: a, b, j, f => by
    have q := w_olr_app a b (j + 1) (w_set f j u)
    show w_olr (a ++ b) (j + 1) (w_set f j u) = w_olr b (j + (a.length + 1)) (w_olr a (j + 1) (w_set f j u))
    rw [q, show j + 1 + a.length = j + (a.length + 1) by omega]
theorem w_olr_lt : ∀ (a : List Nat) (j : Nat) (f : Int → Int) (i : Nat), i < j → w_olr a j f i = f i
  | [], j, f, i, h => rfl
  | u :: a, j, f, i, h => by
    show w_olr a (j + 1) (w_set f j u) i = f i
    rw [w_olr_lt a (j + 1) _ i (by omega), w_set_ne _ _ _ _ (by omega)]
theorem w_ol_snoc (l : List Nat) (u : Nat) : w_ol (l ++ [u]) = w_set (w_ol l) l.length u := by
  unfold w_ol
  rw [w_olr_app]
  show w_set _ ((0 + l.length : Nat) : Int) u = _
  rw [Nat.zero_add]
theorem w_ol_pre (l s : List Nat) (i : Nat) (h : i < l.length) : w_ol (l ++ s) i = w_ol l i := by
  unfold w_ol
  rw [w_olr_app, w_olr_lt _ _ _ _ (by omega)]
theorem w_olr_mem : ∀ (l : List Nat) (j : Nat) (f : Int → Int) (v : Nat), (∃ k : Nat, j ≤ k ∧ k < j + l.length ∧ w_olr l j f k = v) ↔ v ∈ l
  | [], j, f, v => by
    constructor
    · intro ⟨k, a, b, _⟩
      have b : k < j + 0 := b
      omega
    · intro h
      exact absurd h List.not_mem_nil
  | u :: l, j, f, v => by
    have ih := w_olr_mem l (j + 1) (w_set f j u) v
    have e : w_olr (u :: l) j f = w_olr l (j + 1) (w_set f j u) := rfl
    have hj : w_olr l (j + 1) (w_set f j u) j = u := by
      rw [w_olr_lt _ _ _ _ (by omega), w_set_eq]
    rw [e]
    constructor
    · intro ⟨k, a, b, c⟩
      have b : k < j + (l.length + 1) := b
      by_cases w : k = j
      · subst w
        rw [hj] at c
        have c2 : v = u := by omega
        rw [c2]
        exact List.mem_cons_self
      · exact List.mem_cons_of_mem _ (ih.1 ⟨k, by omega, by omega, c⟩)
    · intro h
      rcases List.mem_cons.1 h with h | h
      · subst h
        exact ⟨j, Nat.le_refl _, by show j < j + (l.length + 1); omega, hj⟩
      · obtain ⟨k, a, b, c⟩ := ih.2 h
        exact ⟨k, by omega, by show k < j + (l.length + 1); omega, c⟩
theorem w_has_ol (l : List Nat) (u : Nat) : w_has (w_ol l) l.length u ↔ l.contains u = true := by
  rw [List.contains_iff_mem, ← w_olr_mem l 0 (fun _ => 0) u]
  constructor
  · intro ⟨k, a, b⟩
    exact ⟨k, Nat.zero_le _, by omega, b⟩
  · intro ⟨k, _, b, c⟩
    exact ⟨k, by omega, c⟩
theorem w_PLu_mem (f : Nat → List (List Nat)) (pre l : List Nat) : ∀ (m u : Nat), l ∈ w_PLu f pre m u → ∃ u : Nat, l ∈ f u
  | 0, u, h => absurd h List.not_mem_nil
  | m + 1, u, h => by
    have h : l ∈ (if pre.contains u then [] else f u) ++ w_PLu f pre m (u + 1) := h
    rcases List.mem_append.1 h with h | h
    · by_cases c : pre.contains u = true
      · rw [if_pos c] at h
        exact absurd h List.not_mem_nil
      · rw [if_neg c] at h
        exact ⟨u, h⟩
    · exact w_PLu_mem f pre l m (u + 1) h
theorem w_PL_pre (n : Nat) : ∀ (k : Nat) (pre l : List Nat), l ∈ w_PL n k pre → ∃ s, l = pre ++ s
  | 0, pre, l, h => by
    have h : l ∈ [pre] := h
    exact ⟨[], by rw [List.append_nil]; exact List.mem_singleton.1 h⟩
  | k + 1, pre, l, h => by
    obtain ⟨u, hu⟩ := w_PLu_mem _ pre l n 0 h
    obtain ⟨s, hs⟩ := w_PL_pre n k (pre ++ [u]) l hu
    exact ⟨[u] ++ s, by rw [hs, List.append_assoc]⟩
/-- when the units of an order begin, from the one at place i on -/
noncomputable def w_po (ha le wh be li o : Int → Int) : Nat → Nat → (Int → Int) → Int → Int × (Int → Int)
  | 0, _, b, e => (e, b)
  | m + 1, i, b, e => if w_beg ha le wh be li o b i (o i) = -1 then (-1, b) else w_po ha le wh be li o m (i + 1) (w_set b (o i) (w_beg ha le wh be li o b i (o i))) (if e < w_beg ha le wh be li o b i (o i) + le (o i) then w_beg ha le wh be li o b i (o i) + le (o i) else e)
def w_upd (s : Int × (Int → Int) × (Int → Int)) (r : Int × (Int → Int)) (o : Int → Int) : Int × (Int → Int) × (Int → Int) := if r.1 ≠ -1 ∧ (s.1 = -1 ∨ r.1 < s.1) then (r.1, o, r.2) else s
theorem w_foldl_ext {α β : Type} (f g : β → α → β) : ∀ (l : List α) (s : β), (∀ a, a ∈ l → ∀ s, f s a = g s a) → l.foldl f s = l.foldl g s
  | [], s, h => rfl
  | a :: l, s, h => by
    show l.foldl f (f s a) = l.foldl g (g s a)
    rw [h a List.mem_cons_self s]
    exact w_foldl_ext f g l _ (fun b hb s => h b (List.mem_cons_of_mem _ hb) s)
theorem w_foldl_id {α β : Type} (f : β → α → β) : ∀ (l : List α) (s : β), (∀ a, a ∈ l → ∀ s, f s a = s) → l.foldl f s = s
  | [], s, h => rfl
  | a :: l, s, h => by
    show l.foldl f (f s a) = s
    rw [h a List.mem_cons_self s]
    exact w_foldl_id f l s (fun b hb s => h b (List.mem_cons_of_mem _ hb) s)
/-- the plan that is found by going on is the one that is found among all orders -/
theorem w_pl_PL (n : Nat) (ha le wh be li : Int → Int) : ∀ (k : Nat) (pre : List Nat) (b : Int → Int) (e : Int) (st : Int × (Int → Int) × (Int → Int)), 0 ≤ e → w_pl n ha le wh be li k pre.length (w_ol pre) b e st = (w_PL n k pre).foldl (fun s l => w_upd s (w_po ha le wh be li (w_ol l) k pre.length b e) (w_ol l)) st
  | 0, pre, b, e, st, he => by
    show _ = w_upd st (e, b) (w_ol pre)
    unfold w_pl w_upd
    by_cases c : st.1 = -1 ∨ e < st.1
    · rw [if_pos c, if_pos ⟨by show e ≠ -1; omega, c⟩]
    · rw [if_neg c, if_neg (fun q => c q.2)]
  | k + 1, pre, b, e, st, he => by
    unfold w_pl
    have main : ∀ (m u : Nat) (s : Int × (Int → Int) × (Int → Int)), w_fold (fun u s => w_sel (w_has (w_ol pre) pre.length u) s (if w_beg ha le wh be li (w_ol pre) b pre.length u = -1 then s else w_pl n ha le wh be li k (pre.length + 1) (w_set (w_ol pre) pre.length u) (w_set b u (w_beg ha le wh be li (w_ol pre) b pre.length u)) (if e < w_beg ha le wh be li (w_ol pre) b pre.length u + le u then w_beg ha le wh be li (w_ol pre) b pre.length u + le u else e) s)) m u s = (w_PLu (fun u => w_PL n k (pre ++ [u])) pre m u).foldl (fun s l => w_upd s (w_po ha le wh be li (w_ol l) (k + 1) pre.length b e) (w_ol l)) s := by
      intro m
      induction m with
      | zero => intro u s; rfl
      | succ m ih =>
        intro u s
        have e1 : ∀ f : Int → Int × (Int → Int) × (Int → Int) → Int × (Int → Int) × (Int → Int), w_fold f (m + 1) u s = w_fold f m ((u + 1 : Nat) : Int) (f u s) := fun _ => rfl
        have e2 : w_PLu (fun u => w_PL n k (pre ++ [u])) pre (m + 1) u = (if pre.contains u then [] else w_PL n k (pre ++ [u])) ++ w_PLu (fun u => w_PL n k (pre ++ [u])) pre m (u + 1) := rfl
        rw [e1, ih (u + 1), e2, List.foldl_append]
        congr 1
        by_cases c : pre.contains u = true
        · rw [if_pos c, w_sel_pos ((w_has_ol pre u).2 c)]
          rfl
        · rw [if_neg c, w_sel_neg (fun q => c ((w_has_ol pre u).1 q))]
          have first : ∀ l, l ∈ w_PL n k (pre ++ [u]) → w_ol l (pre.length : Nat) = u ∧ w_beg ha le wh be li (w_ol l) b pre.length u = w_beg ha le wh be li (w_ol pre) b pre.length u := by
            intro l hl
            obtain ⟨t, ht⟩ := w_PL_pre n k (pre ++ [u]) l hl
            have a : ∀ i : Nat, i < pre.length → w_ol l i = w_ol pre i := by
              intro i hi
              rw [ht, List.append_assoc, w_ol_pre pre _ i hi]
            refine ⟨?_, w_beg_congr a (fun i hi => rfl)⟩
            rw [ht, w_ol_pre (pre ++ [u]) t pre.length (by rw [List.length_append]; show pre.length < pre.length + 1; omega), w_ol_snoc, w_set_eq]
          by_cases g : w_beg ha le wh be li (w_ol pre) b pre.length u = -1
          · rw [if_pos g, w_foldl_id]
            intro l hl s
            obtain ⟨f1, f2⟩ := first l hl
            have po : w_po ha le wh be li (w_ol l) (k + 1) pre.length b e = (-1, b) := by
              unfold w_po
              rw [f1, f2, if_pos g]
            show w_upd s (w_po ha le wh be li (w_ol l) (k + 1) pre.length b e) (w_ol l) = s
            rw [po]
            unfold w_upd
            exact if_neg (fun q => q.1 rfl)
          · rw [if_neg g]
            have br : 360 ≤ w_beg ha le wh be li (w_ol pre) b pre.length u := by
              rcases w_beg_rng ha le wh be li (w_ol pre) b pre.length u with w | w
              · exact absurd w g
              · exact w.1
            have len : (pre ++ [u]).length = pre.length + 1 := by
              rw [List.length_append]
              rfl
            have IH := w_pl_PL n ha le wh be li k (pre ++ [u]) (w_set b u (w_beg ha le wh be li (w_ol pre) b pre.length u)) (if e < w_beg ha le wh be li (w_ol pre) b pre.length u + le u then w_beg ha le wh be li (w_ol pre) b pre.length u + le u else e) s (by split <;> omega)
            rw [len, w_ol_snoc] at IH
            rw [IH]
            apply w_foldl_ext
            intro l hl s
            obtain ⟨f1, f2⟩ := first l hl
            have po : w_po ha le wh be li (w_ol l) (k + 1) pre.length b e = w_po ha le wh be li (w_ol l) k (pre.length + 1) (w_set b u (w_beg ha le wh be li (w_ol pre) b pre.length u)) (if e < w_beg ha le wh be li (w_ol pre) b pre.length u + le u then w_beg ha le wh be li (w_ol pre) b pre.length u + le u else e) := by
              have un : w_po ha le wh be li (w_ol l) (k + 1) pre.length b e = if w_beg ha le wh be li (w_ol l) b pre.length (w_ol l (pre.length : Nat)) = -1 then (-1, b) else w_po ha le wh be li (w_ol l) k (pre.length + 1) (w_set b (w_ol l (pre.length : Nat)) (w_beg ha le wh be li (w_ol l) b pre.length (w_ol l (pre.length : Nat)))) (if e < w_beg ha le wh be li (w_ol l) b pre.length (w_ol l (pre.length : Nat)) + le (w_ol l (pre.length : Nat)) then w_beg ha le wh be li (w_ol l) b pre.length (w_ol l (pre.length : Nat)) + le (w_ol l (pre.length : Nat)) else e) := rfl
              rw [un, f1, f2, if_neg g]
            show w_upd s _ (w_ol l) = w_upd s _ (w_ol l)
            rw [po]
    exact main n 0 st
/-- the order behind an order -/
def w_ti (o : Int → Int) : Nat → Int → Int
  | 0, i => i
  | m + 1, i => if i < 0 then i else if o (i + 1) < o i then w_ti o m (i - 1) else i
def w_tk (o : Int → Int) (i : Int) : Nat → Int → Int
  | 0, k => k
  | m + 1, k => if k < 0 then k else if o k < o i then w_tk o i m (k - 1) else k
def w_sw (o : Int → Int) (a b : Int) : Int → Int := w_set (w_set o a (o b)) b (o a)
def w_rv : Nat → Int → Int → (Int → Int) → (Int → Int)
  | 0, _, _, o => o
  | m + 1, a, b, o => if a < b then w_rv m (a + 1) (b - 1) (w_sw o a b) else o
def w_good (n : Nat) (o : Int → Int) : Bool := decide (∀ k : Fin n, 0 ≤ o (k.val : Int) ∧ o (k.val : Int) < n ∧ ∀ j : Fin n, j.val < k.val → o (j.val : Int) ≠ o (k.val : Int))
def w_next (n : Nat) (o o' : Int → Int) : Bool := decide (0 ≤ w_ti o 7 ((n : Int) - 2) ∧ 0 ≤ w_tk o (w_ti o 7 ((n : Int) - 2)) 7 ((n : Int) - 1) ∧ ∀ i : Fin n, w_rv 7 (w_ti o 7 ((n : Int) - 2) + 1) ((n : Int) - 1) (w_sw o (w_ti o 7 ((n : Int) - 2)) (w_tk o (w_ti o 7 ((n : Int) - 2)) 7 ((n : Int) - 1))) (i.val : Int) = o' (i.val : Int))
def w_chk (n : Nat) : List (List Nat) → Bool
  | [] => true
  | [l] => w_good n (w_ol l) && decide (w_ti (w_ol l) 7 ((n : Int) - 2) < 0)
  | l :: l' :: r => w_good n (w_ol l) && w_next n (w_ol l) (w_ol l') && w_chk n (l' :: r)
def w_fst (n : Nat) : List (List Nat) → Bool
  | [] => false
  | l :: _ => decide (∀ i : Fin n, w_ol l (i.val : Int) = (i.val : Int))
theorem w_chk0 : w_chk 0 (w_PL 0 0 []) = true ∧ w_fst 0 (w_PL 0 0 []) = true := by decide +kernel
theorem w_chk1 : w_chk 1 (w_PL 1 1 []) = true ∧ w_fst 1 (w_PL 1 1 []) = true := by decide +kernel
theorem w_chk2 : w_chk 2 (w_PL 2 2 []) = true ∧ w_fst 2 (w_PL 2 2 []) = true := by decide +kernel
theorem w_chk3 : w_chk 3 (w_PL 3 3 []) = true ∧ w_fst 3 (w_PL 3 3 []) = true := by decide +kernel
theorem w_chk4 : w_chk 4 (w_PL 4 4 []) = true ∧ w_fst 4 (w_PL 4 4 []) = true := by decide +kernel
theorem w_chk5 : w_chk 5 (w_PL 5 5 []) = true ∧ w_fst 5 (w_PL 5 5 []) = true := by decide +kernel
theorem w_chk6 : w_chk 6 (w_PL 6 6 []) = true ∧ w_fst 6 (w_PL 6 6 []) = true := by decide +kernel
theorem w_chkn (n : Nat) (h : n ≤ 6) : w_chk n (w_PL n n []) = true ∧ w_fst n (w_PL n n []) = true := by
  match n, h with
  | 0, _ => exact w_chk0
  | 1, _ => exact w_chk1
  | 2, _ => exact w_chk2
  | 3, _ => exact w_chk3
  | 4, _ => exact w_chk4
  | 5, _ => exact w_chk5
  | 6, _ => exact w_chk6
