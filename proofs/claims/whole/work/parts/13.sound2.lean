def z_rng (x : Int) : Prop := -2147483648 ≤ x ∧ x < 2147483648
theorem z_wrap_rng (x : Int) : z_rng (z_wrap x) := by unfold z_rng z_wrap; omega
theorem z_wrap_id {x : Int} (h : z_rng x) : z_wrap x = x := by unfold z_rng at h; unfold z_wrap; omega
theorem z_bmod (x : Int) : Int.bmod x 4294967296 = z_wrap x := by unfold z_wrap; simp only [Int.bmod]; split <;> omega
theorem z_toInt (x : Int) : (Int32.ofInt x).toInt = z_wrap x := by
  have h : (Int32.ofInt x).toInt = Int.bmod x 4294967296 := Int32.toInt_ofInt
  rw [h, z_bmod]
theorem z_ti {x : Int} (h : z_rng x) : (Int32.ofInt x).toInt = x := by rw [z_toInt, z_wrap_id h]
theorem z_rt (v : Int32) : z_rng v.toInt := ⟨by have := Int32.le_toInt v; omega, by have := Int32.toInt_lt v; omega⟩
theorem z_ofw (x : Int) : Int32.ofInt (z_wrap x) = Int32.ofInt x := Int32.toInt_inj.mp (by rw [z_toInt, z_toInt]; unfold z_wrap; omega)
theorem z_oadd (x y : Int) : Int32.ofInt (z_wrap (x + y)) = Int32.ofInt x + Int32.ofInt y := by rw [z_ofw, Int32.ofInt_add]
theorem z_osub (x y : Int) : Int32.ofInt (z_wrap (x - y)) = Int32.ofInt x - Int32.ofInt y := by rw [z_ofw, Int32.ofInt_sub]
theorem z_omul (x y : Int) : Int32.ofInt (z_wrap (x * y)) = Int32.ofInt x * Int32.ofInt y := by rw [z_ofw, Int32.ofInt_mul]
theorem z_oneg (x : Int) : Int32.ofInt (z_wrap (-x)) = -Int32.ofInt x := by rw [z_ofw, Int32.ofInt_neg]
theorem z_odiv {x y : Int} (hx : z_rng x) (hy : z_rng y) : Int32.ofInt (z_wrap (x.tdiv y)) = Int32.ofInt x / Int32.ofInt y := by
  apply Int32.toInt_inj.mp
  have h : (Int32.ofInt x / Int32.ofInt y).toInt = Int.bmod ((Int32.ofInt x).toInt.tdiv (Int32.ofInt y).toInt) 4294967296 := Int32.toInt_div _ _
  rw [h, z_ti hx, z_ti hy, z_bmod, z_ti (z_wrap_rng _)]
theorem z_rmod {x y : Int} (hx : z_rng x) (hy : z_rng y) : z_rng (x.tmod y) := by
  have h := Int32.toInt_mod (Int32.ofInt x) (Int32.ofInt y)
  rw [z_ti hx, z_ti hy] at h
  rw [← h]; exact z_rt _
theorem z_omod {x y : Int} (hx : z_rng x) (hy : z_rng y) : Int32.ofInt (x.tmod y) = Int32.ofInt x % Int32.ofInt y := by
  apply Int32.toInt_inj.mp
  rw [Int32.toInt_mod, z_ti hx, z_ti hy, z_ti (z_rmod hx hy)]
theorem z_omod2 {x y : Int} (hx : z_rng x) (hy : z_rng y) : Int32.ofInt (x.tmod y) = Int32.ofInt x - Int32.ofInt x / Int32.ofInt y * Int32.ofInt y := by
  rw [Int.tmod_def, Int32.ofInt_sub, Int.mul_comm, Int32.ofInt_mul, ← z_odiv hx hy, z_ofw]
theorem z_lt {x y : Int} (hx : z_rng x) (hy : z_rng y) : Int32.ofInt x < Int32.ofInt y ↔ x < y := by rw [Int32.lt_iff_toInt_lt, z_ti hx, z_ti hy]
theorem z_eq {x y : Int} (hx : z_rng x) (hy : z_rng y) : Int32.ofInt x = Int32.ofInt y ↔ x = y := by rw [← Int32.toInt_inj, z_ti hx, z_ti hy]
theorem z_r0 : z_rng 0 := by unfold z_rng; omega
theorem z_eq0 {x : Int} (hx : z_rng x) : Int32.ofInt x = 0 ↔ x = 0 := z_eq hx z_r0
theorem z_lt0 {x : Int} (hx : z_rng x) : Int32.ofInt x < 0 ↔ x < 0 := z_lt hx z_r0
theorem z_gt0 {x : Int} (hx : z_rng x) : (0 : Int32) < Int32.ofInt x ↔ 0 < x := z_lt z_r0 hx
theorem z_nc {x : Int} (hx : z_rng x) : (Int32.ofInt x).toNatClampNeg = x.toNat := by rw [← Int32.toNat_toInt, z_ti hx]
theorem z_vin {x : Int} {n : Nat} (hx : z_rng x) (h0 : 0 ≤ x) (h1 : x < n) : vp_in (Int32.ofInt x) n := by
  unfold vp_in
  rw [z_lt0 hx, z_nc hx]
  omega
theorem z_vin' {x : Int} {n : Nat} (hx : z_rng x) (h0 : 0 ≤ x) (h1 : x < n) : ¬ (Int32.ofInt x < 0 ∨ n ≤ (Int32.ofInt x).toNatClampNeg) := z_vin hx h0 h1
theorem z_onat (n : Nat) : Int32.ofNat n = Int32.ofInt (n : Int) := rfl
theorem z_i2b (x : Int) : (Int32.ofInt x).toInt8.toInt32 = Int32.ofInt ((x + 128) % 256 - 128) := by
  apply Int32.toInt_inj.mp
  rw [z_ti (by unfold z_rng; omega), Int8.toInt_toInt32]
  have h : (Int32.ofInt x).toInt8.toInt = Int.bmod (Int32.ofInt x).toInt 256 := Int32.toInt_toInt8 _
  rw [h, z_toInt]
  unfold z_wrap
  simp only [Int.bmod]; split <;> omega
-- the machine's picture of the abstract heap
def z_ad (g : Nat × Nat × Nat × Nat) : Nat → Nat
  | 0 => 0
  | 1 => g.2.1
  | 2 => g.2.2.1
  | 3 => g.2.2.2
  | k + 4 => g.1 + k
def z_va (g : Nat × Nat × Nat × Nat) : Zv → Value
  | .inl z => .int (Int32.ofInt z)
  | .inr 0 => .null
  | .inr (r + 1) => .ref (z_ad g (r + 1))
theorem z_cat (g : Nat × Nat × Nat × Nat) (v : Zv) : (z_va g v).category = 1 := by
  match v with
  | .inl z => rfl
  | .inr 0 => rfl
  | .inr (r + 1) => rfl
def z_fv (g : Nat × Nat × Nat × Nat) (σ : Nat → Int → Int) (k : Nat) (c : Nat × Nat × List Nat) (j : Nat) : Value :=
  if zflag c.1 j = 2 then z_va g (.inr (c.2.2.getD j 0)) else .int (Int32.ofInt (σ k j))
def z_cl (g : Nat × Nat × Nat × Nat) (D : va_G) (A3 : Nat × Nat × Nat) (σ : Nat → Int → Int) (k : Nat) (c : Nat × Nat × List Nat) (H : Heap) : Prop :=
  (c.1 = 8 → H[g.1 + k]? = some (arrV A3.1 c.2.1 (fun j => .int (Int32.ofInt (σ k j))))) ∧
  (c.1 = 9 → H[g.1 + k]? = some (arrV A3.2.1 c.2.1 (fun j => .int (Int32.ofInt (σ k j))))) ∧
  (c.1 = 10 → H[g.1 + k]? = some (arrV A3.2.2 c.2.1 (fun j => z_va g (.inr (c.2.2.getD j 0))))) ∧
  (c.1 < 8 → t_OB (g.1 + k) (D.1 c.1) (zN c.1) (D.2 c.1) H (z_fv g σ k c))
def z_wf (L : Nat) (xs : Nat → Int32) (h : Zh) : Prop :=
  (∀ k i, z_rng (h.2 k i)) ∧ (∀ (k : Nat) (c : Nat × Nat × List Nat), h.1[k]? = some c → c.2.1 < 100000 ∧ (c.1 < 8 → c.2.1 = zN c.1)) ∧ h.1.length ≤ 900 ∧ h.2 1001 0 = L ∧ (∀ j, j < L → h.2 1000 j = (xs j).toInt) ∧ L ≤ 3072
def z_rel (g : Nat × Nat × Nat × Nat) (D : va_G) (A3 : Nat × Nat × Nat) (L : Nat) (xs : Nat → Int32) (h : Zh) (H : Heap) : Prop :=
  H.size = g.1 + h.1.length ∧ (∀ (k : Nat) (c : Nat × Nat × List Nat), h.1[k]? = some c → z_cl g D A3 h.2 k c H) ∧ z_wf L xs h
def z_ext (g : Nat × Nat × Nat × Nat) (L : Nat) (xs : Nat → Int32) (U : State) (H : Heap) : Prop :=
  va_X g.2.1 L xs U H ∧ va_Z "GamesOffice$Kinds" "ABOVE" "[I" (.ref g.2.2.1) (fun q => g.1 ≤ q) U H ∧ va_T .int g.2.2.1 6 (fun j => .int (Int32.ofInt (z_above j))) (fun q => g.1 ≤ q) U H ∧
  va_Z "GamesOffice$Acts" "BODIES" "[I" (.ref g.2.2.2) (fun q => g.1 ≤ q) U H ∧ va_T .int g.2.2.2 24 (fun j => .int (Int32.ofInt (z_bodies j))) (fun q => g.1 ≤ q) U H ∧ g.2.1 < g.1 ∧ g.1 ≤ H.size
theorem z_ext.moved {g : Nat × Nat × Nat × Nat} {L : Nat} {xs : Nat → Int32} {u U : State} {H : Heap} (hvm : u.vm.Alike U.vm) (h : z_ext g L xs u H) : z_ext g L xs U H :=
  ⟨va_X.moved hvm h.1, va_Z.moved hvm h.2.1, va_T.moved hvm h.2.2.1, va_Z.moved hvm h.2.2.2.1, va_T.moved hvm h.2.2.2.2.1, h.2.2.2.2.2⟩
theorem z_ext.kept {g : Nat × Nat × Nat × Nat} {L : Nat} {xs : Nat → Int32} {U : State} {H H1 : Heap} (h : z_ext g L xs U H) (hs : H.size ≤ H1.size) (hq : ∀ a : Nat, a < H.size → ¬ g.1 ≤ a → H1[a]? = H[a]?) : z_ext g L xs U H1 := by
  obtain ⟨h1, h2, h3, h4, h5, h6, h7⟩ := h
  exact ⟨va_X.kept h1 (hq _ (by omega) (by omega)), va_Z.kept h2 hq, va_T.kept h3 hq, va_Z.kept h4 hq, va_T.kept h5 hq, h6, by omega⟩
-- locals
def z_lv (g : Nat × Nat × Nat × Nat) (ls : Zl) : List (Nat × Value) := (List.range ls.length).filterMap (fun i => match ls[i]? with
  | some (some v) => some (i, z_va g v)
  | _ => none)
theorem z_lv_mem {g : Nat × Nat × Nat × Nat} {ls : Zl} {i : Nat} {w : Value} : (i, w) ∈ z_lv g ls ↔ ∃ v, ls[i]? = some (some v) ∧ w = z_va g v := by
  unfold z_lv
  rw [List.mem_filterMap]
  constructor
  · rintro ⟨j, -, hj⟩
    split at hj
    · rename_i v hv
      cases hj
      exact ⟨v, hv, rfl⟩
    · cases hj
  · rintro ⟨v, hv, rfl⟩
    have hl : i < ls.length := (List.getElem?_eq_some_iff.mp hv).1
    exact ⟨i, List.mem_range.mpr hl, by rw [hv]⟩
theorem z_lv_at {g : Nat × Nat × Nat × Nat} {ls : Zl} {la : Array Slot} {nL i : Nat} {v : Zv} (h : lv_has la nL (z_lv g ls)) (hi : ls[i]? = some (some v)) : la[i]? = some (.val (z_va g v)) :=
  h.2.2 (i, z_va g v) (z_lv_mem.mpr ⟨v, hi, rfl⟩)
theorem z_lv_weak {la : Array Slot} {nL : Nat} {l l' : List (Nat × Value)} (h : lv_has la nL l) (hs : ∀ q ∈ l', q ∈ l) : lv_has la nL l' := ⟨h.1, h.2.1, fun q hq => h.2.2 q (hs q hq)⟩
theorem z_lv_set {g : Nat × Nat × Nat × Nat} {ls : Zl} {i : Nat} (v : Zv) (hi : i < ls.length) : ∀ q ∈ z_lv g (ls.set i (some v)), q ∈ (i, z_va g v) :: (z_lv g ls).filter (fun q => !(q.1 == i) && !(q.1 + 1 == i && q.2.category == 2)) := by
  rintro ⟨j, w⟩ hq
  obtain ⟨u, hu, rfl⟩ := z_lv_mem.mp hq
  by_cases hj : j = i
  · subst hj
    rw [List.getElem?_set_self hi] at hu
    cases hu
    exact List.mem_cons_self
  · rw [List.getElem?_set_ne (Ne.symm hj)] at hu
    refine List.mem_cons_of_mem _ (List.mem_filter.mpr ⟨z_lv_mem.mpr ⟨u, hu, rfl⟩, ?_⟩)
    have hc := z_cat g u
    simp [hj, hc]
def z_rv : Zv → Prop
  | .inl x => z_rng x
  | .inr _ => True
def z_vs (ls : Zl) (st : List Zv) : Prop := (∀ (i : Nat) (v : Zv), ls[i]? = some (some v) → z_rv v) ∧ ∀ v ∈ st, z_rv v
def z_sz (s : Zsh) : Nat := (s.map (fun c => c.2.1)).sum
theorem z_vs_set {ls : Zl} {st : List Zv} {i : Nat} {v : Zv} (h : z_vs ls st) (hv : z_rv v) : z_vs (ls.set i (some v)) st := by
  refine ⟨fun j w hw => ?_, h.2⟩
  by_cases hj : j = i
  · subst hj
    by_cases hl : j < ls.length
    · rw [List.getElem?_set_self hl] at hw
      cases hw
      exact hv
    · rw [List.getElem?_eq_none (by simpa using hl)] at hw
      cases hw
  · rw [List.getElem?_set_ne (Ne.symm hj)] at hw
    exact h.1 j w hw
