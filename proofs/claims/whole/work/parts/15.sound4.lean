section ZI
variable {β : Type}
theorem z_rd_inv {h : Zh} {kd a : Nat} {i : Int} {K : Int → Option β} {q : β} (hn : z_rd h kd a i K = some q) :
    (a = 1 ∧ kd = 8 ∧ 0 ≤ i ∧ i < h.2 1001 0 ∧ K (h.2 1000 i) = some q) ∨ (a = 2 ∧ kd = 8 ∧ 0 ≤ i ∧ i < 6 ∧ K (z_above i) = some q) ∨ (a = 3 ∧ kd = 8 ∧ 0 ≤ i ∧ i < 24 ∧ K (z_bodies i) = some q) ∨
    ∃ (k : Nat) (c : Nat × Nat × List Nat), a = k + 4 ∧ h.1[k]? = some c ∧ c.1 = kd ∧ 0 ≤ i ∧ i < c.2.1 ∧ K (h.2 k i) = some q := by
  unfold z_rd at hn
  repeat' split at hn
  all_goals first | (cases hn; done) | grind
theorem z_len_inv {h : Zh} {a : Nat} {K : Int → Option β} {q : β} (hn : z_len h a K = some q) :
    (a = 1 ∧ K (h.2 1001 0) = some q) ∨ (a = 2 ∧ K 6 = some q) ∨ (a = 3 ∧ K 24 = some q) ∨
    ∃ (k : Nat) (c : Nat × Nat × List Nat), a = k + 4 ∧ h.1[k]? = some c ∧ c.1 = 8 ∧ K c.2.1 = some q := by
  unfold z_len at hn
  repeat' split at hn
  all_goals first | (cases hn; done) | grind
theorem z_wr_inv {h : Zh} {kd a : Nat} {i v : Int} {K : Zh → Option β} {q : β} (hn : z_wr h kd a i v K = some q) :
    ∃ (k : Nat) (c : Nat × Nat × List Nat), a = k + 4 ∧ h.1[k]? = some c ∧ c.1 = kd ∧ 0 ≤ i ∧ i < c.2.1 ∧ K (h.1, z_up h.2 k i v) = some q := by
  unfold z_wr at hn
  repeat' split at hn
  all_goals first | (cases hn; done) | grind
theorem z_get_inv {h : Zh} {a x y z : Nat} {K : Zv → Option β} {q : β} (hn : z_get h a x y z K = some q) :
    ∃ (k : Nat) (c : Nat × Nat × List Nat), a = k + 4 ∧ h.1[k]? = some c ∧ c.1 = x ∧ ((z = 2 ∧ ∃ r, c.2.2[y]? = some r ∧ K (.inr r) = some q) ∨ (z ≠ 2 ∧ K (.inl (h.2 k y)) = some q)) := by
  unfold z_get at hn
  repeat' split at hn
  all_goals first | (cases hn; done) | grind
theorem z_puti_inv {h : Zh} {a x y z : Nat} {v : Int} {K : Zh → Option β} {q : β} (hn : z_puti h a x y z v K = some q) :
    ∃ (k : Nat) (c : Nat × Nat × List Nat), a = k + 4 ∧ h.1[k]? = some c ∧ c.1 = x ∧ (z = 0 ∨ (z = 1 ∧ (v = 0 ∨ v = 1))) ∧ K (h.1, z_up h.2 k y v) = some q := by
  unfold z_puti at hn
  repeat' split at hn
  all_goals first | (cases hn; done) | grind
theorem z_putr_inv {h : Zh} {a x y z r : Nat} {K : Zh → Option β} {q : β} (hn : z_putr h a x y z r K = some q) :
    ∃ (k : Nat) (c : Nat × Nat × List Nat), a = k + 4 ∧ h.1[k]? = some c ∧ c.1 = x ∧ z = 2 ∧ y < c.2.2.length ∧ K (h.1.set k (c.1, c.2.1, c.2.2.set y r), h.2) = some q := by
  unfold z_putr at hn
  repeat' split at hn
  all_goals first | (cases hn; done) | grind
theorem z_rdq_inv {h : Zh} {a : Nat} {i : Int} {K : Nat → Option β} {q : β} (hn : z_rdq h a i K = some q) :
    ∃ (k : Nat) (c : Nat × Nat × List Nat) (r : Nat), a = k + 4 ∧ h.1[k]? = some c ∧ c.1 = 10 ∧ 0 ≤ i ∧ i < c.2.1 ∧ c.2.2[i.toNat]? = some r ∧ K r = some q := by
  unfold z_rdq at hn
  repeat' split at hn
  all_goals first | (cases hn; done) | grind
theorem z_wrq_inv {h : Zh} {a r : Nat} {i : Int} {K : Zh → Option β} {q : β} (hn : z_wrq h a r i K = some q) :
    ∃ (k : Nat) (c : Nat × Nat × List Nat) (kr : Nat) (cr : Nat × Nat × List Nat), a = k + 4 ∧ r = kr + 4 ∧ h.1[k]? = some c ∧ h.1[kr]? = some cr ∧ c.1 = 10 ∧ cr.1 = 5 ∧ 0 ≤ i ∧ i < c.2.1 ∧ i.toNat < c.2.2.length ∧ K (h.1.set k (c.1, c.2.1, c.2.2.set i.toNat r), h.2) = some q := by
  unfold z_wrq at hn
  repeat' split at hn
  all_goals first
    | (cases hn; done)
    | (rename_i h1 h2 h3 h4
       exact ⟨_, _, r - 4, _, rfl, by omega, h1, h2, h3.1, h3.2.1, h4.1, h4.2.1, h4.2.2, hn⟩)
end ZI
-- the relation behind a write
theorem z_up_ne {σ : Nat → Int → Int} {k k' : Nat} {i i' v : Int} (h : k' ≠ k) : z_up σ k i v k' i' = σ k' i' := by
  unfold z_up; rw [if_neg (fun q => h q.1)]
theorem z_clr_ne {σ : Nat → Int → Int} {k k' : Nat} {i' : Int} (h : k' ≠ k) : z_clr σ k k' i' = σ k' i' := by
  unfold z_clr; rw [if_neg h]
section ZR
variable {g : Nat × Nat × Nat × Nat} {D : va_G} {A3 : Nat × Nat × Nat} {L : Nat} {xs : Nat → Int32}
theorem z_cl_kept {σ σ' : Nat → Int → Int} {k : Nat} {c : Nat × Nat × List Nat} {H H1 : Heap} (h : z_cl g D A3 σ k c H) (hs : ∀ j, σ' k j = σ k j) (hq : H1[g.1 + k]? = H[g.1 + k]?) : z_cl g D A3 σ' k c H1 := by
  obtain ⟨h1, h2, h3, h4⟩ := h
  refine ⟨fun q => ?_, fun q => ?_, fun q => ?_, fun q => ?_⟩
  · rw [hq, h1 q]; simp only [hs]
  · rw [hq, h2 q]; simp only [hs]
  · rw [hq, h3 q]
  · refine ((h4 q).kept hq).to (fun j _ => ?_)
    unfold z_fv; simp only [hs]
theorem z_wf_lt {h : Zh} (hw : z_wf L xs h) {k : Nat} {c : Nat × Nat × List Nat} (hk : h.1[k]? = some c) : k < 900 := by
  have h1 : k < h.1.length := (List.getElem?_eq_some_iff.mp hk).1
  have h2 := hw.2.2.1
  omega
theorem z_wf_up {h : Zh} (hw : z_wf L xs h) {k : Nat} {c : Nat × Nat × List Nat} (hk : h.1[k]? = some c) {i v : Int} (hv : z_rng v) : z_wf L xs (h.1, z_up h.2 k i v) := by
  have hl := z_wf_lt hw hk
  obtain ⟨w1, w2, w3, w4, w5, w6⟩ := hw
  refine ⟨fun k' i' => ?_, w2, w3, ?_, fun j hj => ?_, w6⟩
  · show z_rng (z_up h.2 k i v k' i')
    unfold z_up
    split
    · exact hv
    · exact w1 _ _
  · show z_up h.2 k i v 1001 0 = L
    rw [z_up_ne (by omega)]; exact w4
  · show z_up h.2 k i v 1000 j = _
    rw [z_up_ne (by omega)]; exact w5 j hj
theorem z_updV_up {σ : Nat → Int → Int} {k : Nat} {i v : Int} (h0 : 0 ≤ i) : updV (fun j => .int (Int32.ofInt (σ k j))) i.toNat (.int (Int32.ofInt v)) = fun j : Nat => Value.int (Int32.ofInt (z_up σ k i v k j)) := by
  funext j
  unfold updV z_up
  by_cases hj : j = i.toNat
  · rw [if_pos hj, if_pos ⟨rfl, by omega⟩]
  · rw [if_neg hj, if_neg (fun q => hj (by omega))]
theorem z_rel_wr {h : Zh} {H H1 : Heap} {k : Nat} {c : Nat × Nat × List Nat} {i v : Int} {cI : ClassId} (hrel : z_rel g D A3 L xs h H) (hk : h.1[k]? = some c) (hc : (c.1 = 8 ∧ cI = A3.1) ∨ (c.1 = 9 ∧ cI = A3.2.1)) (h0 : 0 ≤ i) (hv : z_rng v)
    (e : H1[g.1 + k]? = some ((arrV cI c.2.1 (fun j => .int (Int32.ofInt (h.2 k j)))).setSlot i.toNat (.int (Int32.ofInt v)))) (z : H1.size = H.size) (o : ∀ q : Nat, q ≠ g.1 + k → H1[q]? = H[q]?) : z_rel g D A3 L xs (h.1, z_up h.2 k i v) H1 := by
  obtain ⟨r1, r2, r3⟩ := hrel
  refine ⟨z.trans r1, fun k' c' hk' => ?_, z_wf_up r3 hk hv⟩
  by_cases hkk : k' = k
  · subst hkk
    cases hk.symm.trans hk'
    rw [arrV_store, z_updV_up h0] at e
    rcases hc with ⟨hc, rfl⟩ | ⟨hc, rfl⟩
    · exact ⟨fun _ => e, fun q => absurd q (by omega), fun q => absurd q (by omega), fun q => absurd q (by omega)⟩
    · exact ⟨fun q => absurd q (by omega), fun _ => e, fun q => absurd q (by omega), fun q => absurd q (by omega)⟩
  · exact z_cl_kept (r2 k' c' hk') (fun j => z_up_ne hkk) (o _ (by omega))
theorem z_S_put {H0 H H1 : Heap} {locs : List Loc} {a k : Nat} (h : va_S (fun q => g.1 ≤ q) H0 H locs) (z : H1.size = H.size) (oq : ∀ q : Nat, q ≠ a → H1[q]? = H[q]?) (ha : g.1 ≤ a) : va_S (fun q => g.1 ≤ q) H0 H1 (locs ++ [⟨a, k⟩]) := h.put z oq ha
theorem z_S_new {H0 H H1 : Heap} {locs : List Loc} (h : va_S (fun q => g.1 ≤ q) H0 H locs) (z : H1.size = H.size + 1) (oq : ∀ q : Nat, q < H.size → H1[q]? = H[q]?) : va_S (fun q => g.1 ≤ q) H0 H1 locs :=
  ⟨Nat.le_trans h.1 (by omega), fun q h1 h2 => (oq q (Nat.lt_of_lt_of_le h1 h.1)).trans (h.2.1 q h1 h2), h.2.2⟩
/-- one more cell at the end -/
theorem z_rel_new {h : Zh} {H H1 : Heap} {c : Nat × Nat × List Nat} (hrel : z_rel g D A3 L xs h H) (z : H1.size = H.size + 1) (o : ∀ q : Nat, q < H.size → H1[q]? = H[q]?) (hlen : h.1.length < 900) (hc : c.2.1 < 100000) (hc2 : c.1 < 8 → c.2.1 = zN c.1)
    (hcl : z_cl g D A3 (z_clr h.2 h.1.length) h.1.length c H1) : z_rel g D A3 L xs (h.1 ++ [c], z_clr h.2 h.1.length) H1 := by
  obtain ⟨r1, r2, w1, w2, w3, w4, w5, w6⟩ := hrel
  have hsz : (h.1 ++ [c]).length = h.1.length + 1 := by simp
  refine ⟨by rw [z, r1]; simp; omega, fun k' c' hk' => ?_, fun k' i' => ?_, fun k' c' hk' => ?_, by rw [hsz]; omega, ?_, fun j hj => ?_, w6⟩
  · by_cases hl : k' < h.1.length
    · rw [List.getElem?_append_left hl] at hk'
      exact z_cl_kept (r2 k' c' hk') (fun j => z_clr_ne (by omega)) (o _ (by omega))
    · have hl2 : k' < (h.1 ++ [c]).length := (List.getElem?_eq_some_iff.mp hk').1
      have e : k' = h.1.length := by omega
      subst e
      rw [List.getElem?_concat_length] at hk'
      cases hk'
      exact hcl
  · show z_rng (z_clr h.2 h.1.length k' i')
    unfold z_clr
    split
    · exact z_r0
    · exact w1 _ _
  · by_cases hl : k' < h.1.length
    · rw [List.getElem?_append_left hl] at hk'
      exact w2 k' c' hk'
    · have hl2 : k' < (h.1 ++ [c]).length := (List.getElem?_eq_some_iff.mp hk').1
      have e : k' = h.1.length := by omega
      subst e
      rw [List.getElem?_concat_length] at hk'
      cases hk'
      exact ⟨hc, hc2⟩
  · show z_clr h.2 h.1.length 1001 0 = L
    rw [z_clr_ne (by omega)]; exact w4
  · show z_clr h.2 h.1.length 1000 j = _
    rw [z_clr_ne (by omega)]; exact w5 j hj
/-- another list of references in a cell -/
theorem z_rel_set {h : Zh} {H H1 : Heap} {k : Nat} {c : Nat × Nat × List Nat} {rs : List Nat} (hrel : z_rel g D A3 L xs h H) (hk : h.1[k]? = some c) (o : ∀ q : Nat, q ≠ g.1 + k → H1[q]? = H[q]?) (z : H1.size = H.size)
    (hcl : z_cl g D A3 h.2 k (c.1, c.2.1, rs) H1) : z_rel g D A3 L xs (h.1.set k (c.1, c.2.1, rs), h.2) H1 := by
  obtain ⟨r1, r2, w1, w2, w3, w4, w5, w6⟩ := hrel
  have hl : k < h.1.length := (List.getElem?_eq_some_iff.mp hk).1
  refine ⟨by rw [z, r1]; simp, fun k' c' hk' => ?_, w1, fun k' c' hk' => ?_, by simpa using w3, w4, w5, w6⟩
  · by_cases hkk : k' = k
    · subst hkk
      rw [List.getElem?_set_self hl] at hk'
      cases hk'
      exact hcl
    · rw [List.getElem?_set_ne (Ne.symm hkk)] at hk'
      exact z_cl_kept (r2 k' c' hk') (fun j => rfl) (o _ (by omega))
  · by_cases hkk : k' = k
    · subst hkk
      rw [List.getElem?_set_self hl] at hk'
      cases hk'
      exact w2 k' c hk
    · rw [List.getElem?_set_ne (Ne.symm hkk)] at hk'
      exact w2 k' c' hk'
theorem z_sz_set {s : Zsh} {k : Nat} {c : Nat × Nat × List Nat} {rs : List Nat} (hk : s[k]? = some c) : z_sz (s.set k (c.1, c.2.1, rs)) = z_sz s := by
  unfold z_sz
  rw [List.map_set]
  congr 1
  apply List.ext_getElem?
  intro j
  by_cases hj : j = k
  · subst hj
    have hl : j < s.length := (List.getElem?_eq_some_iff.mp hk).1
    rw [List.getElem?_set_self (by simpa using hl), List.getElem?_map, hk]
    rfl
  · rw [List.getElem?_set_ne (Ne.symm hj)]
theorem z_sz_app {s : Zsh} {c : Nat × Nat × List Nat} : z_sz (s ++ [c]) = z_sz s + c.2.1 := by simp [z_sz]
theorem z_catsum (g : Nat × Nat × Nat × Nat) (r : List Zv) : ((r.map (z_va g)).map fun v => v.category).sum = r.length := by
  induction r with
  | nil => rfl
  | cons v t ih => simp only [List.map_cons, List.sum_cons, List.length_cons, z_cat, ih]; omega
end ZR
theorem zclasses_at : ∀ x, x < 8 → zclasses[x]? = some (zcls x, zT x, zN x)
  | 0, _ => rfl
  | 1, _ => rfl
  | 2, _ => rfl
  | 3, _ => rfl
  | 4, _ => rfl
  | 5, _ => rfl
  | 6, _ => rfl
  | 7, _ => rfl
  | n + 8, h => absurd h (by omega)
theorem z_ws_in {x : Nat} (hx : x < 8) : ∀ w ∈ u_ws (zcls x) (zT x) (zN x), w ∈ zgw := by
  intro w hw
  obtain ⟨k, hk, rfl⟩ := List.mem_map.mp hw
  have h1 := zLP_ok x hx k (List.mem_range.mp hk)
  refine zgw_in (List.mem_of_getElem? h1) ?_
  unfold u_lay
  split <;> rfl
