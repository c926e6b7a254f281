section ZE
variable {K K' : Zk (Zv × Zh)} {C C' : Nat → Nat → Zl → Zh → Zr}
theorem zX_ret {en : Ze} {d pc : Nat} {ls : Zl} {st : List Zv} {h : Zh} {r : Zv × Zh} (hx : (∃ v, en.1 = .ireturn ∧ st = [.inl v] ∧ (en.2.2.1 = 1 → v = 0 ∨ v = 1) ∧ r = (.inl v, h)) ∨ (en.1 = .return_ ∧ st = [] ∧ r = (.inl 0, h))) : zX en d pc ls st h K C = some r := by
  obtain ⟨i, len, x, y, z⟩ := en
  rcases hx with ⟨v, hi, rfl, h1, rfl⟩ | ⟨hi, rfl, rfl⟩
  · dsimp only at hi h1
    subst hi
    simp only [zX]
    by_cases hx1 : x = 1
    · rw [if_pos hx1, if_pos (h1 hx1)]
    · rw [if_neg hx1]
  · dsimp only at hi
    subst hi
    rfl
theorem zX_simple {en : Ze} {d pc : Nat} {ls : Zl} {st : List Zv} {h : Zh} {r : Zv × Zh} {q : Zc} (h1 : z_n en pc ls st h = some q) (h2 : K q.1 q.2.1 q.2.2.1 q.2.2.2 = some r) (h5 : (∀ i, en.1 = .invokestatic i → en.2.2.2.2 = 5) ∧ (∀ i, en.1 = .invokespecial i → en.2.2.2.2 = 5)) : zX en d pc ls st h K C = some r := by
  have key : z_st en pc ls st h K = some r := by rw [z_st_b, h1]; exact h2
  obtain ⟨i, len, x, y, z⟩ := en
  cases i
  case ireturn => cases h1
  case return_ => cases h1
  case invokevirtual ix => cases h1
  case invokestatic ix => simp only [zX]; rw [if_pos (h5.1 ix rfl)]; exact key
  case invokespecial ix => simp only [zX]; rw [if_pos (h5.2 ix rfl)]; exact key
  all_goals exact key
theorem zX_call {en : Ze} {d pc : Nat} {ls : Zl} {st : List Zv} {h : Zh} {r q : Zv × Zh} (hk : (∃ i, en.1 = .invokevirtual i) ∨ (∃ i, en.1 = .invokestatic i ∧ en.2.2.2.2 ≠ 5) ∨ (∃ i, en.1 = .invokespecial i ∧ en.2.2.2.2 ≠ 5)) (hy1 : en.2.2.2.1 ≤ st.length) (hy2 : st.length ≤ en.2.2.2.1 + 8) (hrc : z_rcv h (zkind en.2.2.1) en.2.2.2.2 (st.take en.2.2.2.1).reverse = true)
    (h1 : C d en.2.2.1 (z_loc (zmaxl en.2.2.1) (st.take en.2.2.2.1).reverse) h = some q) (h2 : K (pc + 3) ls (z_psh en.2.2.2.2 q.1 (st.drop en.2.2.2.1)) q.2 = some r) : zX en (d + 1) pc ls st h K C = some r := by
  have key : z_call en (d + 1) pc ls st h K C = some r := by
    unfold z_call
    dsimp only
    rw [if_pos ⟨hy1, hy2, hrc⟩, h1]
    exact h2
  obtain ⟨i, len, x, y, z⟩ := en
  rcases hk with ⟨i', hi⟩ | ⟨i', hi, h5⟩ | ⟨i', hi, h5⟩
  · dsimp only at hi; subst hi; exact key
  · dsimp only at hi h5; subst hi; simp only [zX]; rw [if_neg h5]; exact key
  · dsimp only at hi h5; subst hi; simp only [zX]; rw [if_neg h5]; exact key
end ZE
theorem zR_succ : ∀ (n : Nat) {d m pc : Nat} {ls : Zl} {st : List Zv} {h : Zh} {r : Zv × Zh}, zR n d m pc ls st h = some r → zR (n + 1) d m pc ls st h = some r
  | 0, _, _, _, _, _, _, _, hn => by cases hn
  | n + 1, d, m, pc, ls, st, h, r, hn => by
    unfold zR at hn ⊢
    split at hn
    · cases hn
    · rename_i en he
      rcases zX_inv hn with h1 | h1 | ⟨q, h1, h2, h5⟩ | ⟨d', rfl, hk, hy1, hy2, hrc, q, h1, h2⟩
      · exact zX_ret (Or.inl h1)
      · exact zX_ret (Or.inr h1)
      · exact zX_simple h1 (zR_succ n h2) h5
      · exact zX_call hk hy1 hy2 hrc (zR_succ n h1) (zR_succ n h2)
theorem zR_le {n k d m pc : Nat} {ls : Zl} {st : List Zv} {h : Zh} {r : Zv × Zh} (hnk : n ≤ k) (hn : zR n d m pc ls st h = some r) : zR k d m pc ls st h = some r := by
  induction hnk with
  | refl => exact hn
  | step _ ih => exact zR_succ _ ih
theorem zE_iff {d m pc : Nat} {ls : Zl} {st : List Zv} {h : Zh} {r : Zv × Zh} : zE d m pc ls st h = some r ↔ ∃ n, zR n d m pc ls st h = some r := by
  unfold zE
  constructor
  · intro hz
    split at hz
    · exact ⟨_, hz⟩
    · cases hz
  · rintro ⟨n, hn⟩
    have q : ∃ n, (zR n d m pc ls st h).isSome = true := ⟨n, by rw [hn]; rfl⟩
    rw [dif_pos q]
    have h1 := Classical.choose_spec q
    obtain ⟨r2, h2⟩ := Option.isSome_iff_exists.mp h1
    have h3 := zR_le (Nat.le_max_left (Classical.choose q) n) h2
    have h4 := zR_le (Nat.le_max_right (Classical.choose q) n) hn
    rw [h3] at h4
    rw [h2]; exact h4
theorem z_ext_some {α : Type} {a b : Option α} (h : ∀ r, a = some r ↔ b = some r) : a = b := by
  cases a with
  | none =>
    cases b with
    | none => rfl
    | some y => exact (h y).mpr rfl
  | some x => exact ((h x).mp rfl).symm
theorem zE_unf (d m pc : Nat) (ls : Zl) (st : List Zv) (h : Zh) : zE d m pc ls st h = match zcode m pc with
    | none => none
    | some e => zX e d pc ls st h (fun pc ls st h => zE d m pc ls st h) (fun d m ls h => zE d m 0 ls [] h) := by
  apply z_ext_some
  intro r
  constructor
  · intro hz
    obtain ⟨n, hn⟩ := zE_iff.mp hz
    match n, hn with
    | 0, hn => cases hn
    | n + 1, hn =>
      unfold zR at hn
      split at hn
      · cases hn
      · rename_i en he
        rw [he]
        dsimp only
        rcases zX_inv hn with h1 | h1 | ⟨q, h1, h2, h5⟩ | ⟨d', rfl, hk, hy1, hy2, hrc, q, h1, h2⟩
        · exact zX_ret (Or.inl h1)
        · exact zX_ret (Or.inr h1)
        · exact zX_simple h1 (zE_iff.mpr ⟨n, h2⟩) h5
        · exact zX_call hk hy1 hy2 hrc (zE_iff.mpr ⟨n, h1⟩) (zE_iff.mpr ⟨n, h2⟩)
  · intro hz
    split at hz
    · cases hz
    · rename_i en he
      rcases zX_inv hz with h1 | h1 | ⟨q, h1, h2, h5⟩ | ⟨d', rfl, hk, hy1, hy2, hrc, q, h1, h2⟩
      · exact zE_iff.mpr ⟨1, by unfold zR; rw [he]; exact zX_ret (Or.inl h1)⟩
      · exact zE_iff.mpr ⟨1, by unfold zR; rw [he]; exact zX_ret (Or.inr h1)⟩
      · obtain ⟨n, hn⟩ := zE_iff.mp h2
        exact zE_iff.mpr ⟨n + 1, by unfold zR; rw [he]; exact zX_simple h1 hn h5⟩
      · obtain ⟨n1, hn1⟩ := zE_iff.mp h1
        obtain ⟨n2, hn2⟩ := zE_iff.mp h2
        exact zE_iff.mpr ⟨max n1 n2 + 1, by unfold zR; rw [he]; exact zX_call hk hy1 hy2 hrc (zR_le (Nat.le_max_left _ _) hn1) (zR_le (Nat.le_max_right _ _) hn2)⟩
theorem zI_eq (stop : List Nat) : ∀ (k d m pc : Nat) (ls : Zl) (st : List Zv) (h : Zh), zI stop k d m pc ls st h = zE d m pc ls st h
  | 0, _, _, _, _, _, _ => rfl
  | k + 1, d, m, pc, ls, st, h => by
    unfold zI
    split
    · rfl
    · rw [zE_unf]
      have e : (fun pc ls st h => zI stop k d m pc ls st h) = fun pc ls st h => zE d m pc ls st h := by
        funext pc ls st h
        exact zI_eq stop k d m pc ls st h
      rw [e]
      cases zcode m pc <;> rfl
theorem zE_J (stop : List Nat) (k d m pc : Nat) (ls : Zl) (st : List Zv) (h : Zh) : zE d m pc ls st h = zJ stop k d m pc ls st h := by
  rw [zE_unf]
  unfold zJ
  have e : (fun pc ls st h => zI stop k d m pc ls st h) = fun pc ls st h => zE d m pc ls st h := by
    funext pc ls st h
    exact zI_eq stop k d m pc ls st h
  rw [e]
  cases zcode m pc <;> rfl
