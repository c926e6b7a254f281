theorem w_i32 (n : Nat) : (Int32.ofInt (n : Int)).toBitVec = BitVec.ofNat 32 n := by
  show BitVec.ofInt 32 (n : Int) = BitVec.ofNat 32 n
  rw [BitVec.ofInt_natCast]
theorem w_bv_toInt (n : Nat) (h : n < 2147483648) : (BitVec.ofNat 32 n).toInt = (n : Int) := by
  rw [BitVec.toInt_eq_toNat_of_lt]
  · rw [BitVec.toNat_ofNat, Nat.mod_eq_of_lt (by omega)]
  · rw [BitVec.toNat_ofNat, Nat.mod_eq_of_lt (by omega)]
    omega
theorem w_or (a b : Nat) (ha : a < 2147483648) (hb : b < 2147483648) : z_or a b = ((a ||| b : Nat) : Int) := by
  show (Int32.ofInt (a : Int) ||| Int32.ofInt (b : Int)).toBitVec.toInt = _
  rw [Int32.toBitVec_or, w_i32, w_i32, ← BitVec.ofNat_or, w_bv_toInt _ (Nat.or_lt_two_pow (n := 31) ha hb)]
theorem w_and (a b : Nat) (ha : a < 2147483648) (hb : b < 2147483648) : z_and a b = ((a &&& b : Nat) : Int) := by
  show (Int32.ofInt (a : Int) &&& Int32.ofInt (b : Int)).toBitVec.toInt = _
  rw [Int32.toBitVec_and, w_i32, w_i32, ← BitVec.ofNat_and, w_bv_toInt _ (Nat.lt_of_le_of_lt Nat.and_le_left ha)]
theorem w_key : ∀ i : Fin 32, ((Int32.ofInt (i.val : Int) &&& 31).toBitVec.smod 32) = BitVec.ofNat 32 i.val := by decide +kernel
theorem w_shr (a i : Nat) (ha : a < 2147483648) (hi : i < 32) : z_shr a i = ((a / 2 ^ i : Nat) : Int) := by
  show (Int32.ofInt (a : Int) >>> (Int32.ofInt (i : Int) &&& 31)).toBitVec.toInt = _
  rw [Int32.toBitVec_shiftRight, w_key ⟨i, hi⟩, w_i32, BitVec.sshiftRight_eq', BitVec.toInt_sshiftRight, w_bv_toInt _ ha, BitVec.toNat_ofNat, Nat.mod_eq_of_lt (by show i < 2 ^ 32; omega), Int.shiftRight_eq_div_pow]
  rfl
theorem w_shlb : ∀ i : Fin 31, z_shl 1 (i.val : Int) = ((2 ^ i.val : Nat) : Int) := by decide +kernel
theorem w_zb (a i : Nat) (ha : a < 2147483648) (hi : i < 32) : z_b a i = if a.testBit i then 1 else 0 := by
  unfold z_b
  have e := w_shr a i ha hi
  have b : a / 2 ^ i < 2147483648 := Nat.lt_of_le_of_lt (Nat.div_le_self _ _) ha
  rw [e]
  show z_and ((a / 2 ^ i : Nat) : Int) ((1 : Nat) : Int) = _
  rw [w_and _ _ b (by omega), Nat.and_one_is_mod, Nat.testBit_eq_decide_div_mod_eq]
  have c : a / 2 ^ i % 2 = 0 ∨ a / 2 ^ i % 2 = 1 := by omega
  rcases c with c | c <;> rw [c] <;> decide
theorem w_zbi (x i : Int) (h0 : 0 ≤ x) (h1 : x < 2147483648) (i0 : 0 ≤ i) (i1 : i < 32) : z_b x i = if x.toNat.testBit i.toNat then 1 else 0 := by
  obtain ⟨a, rfl⟩ := Int.eq_ofNat_of_zero_le h0
  obtain ⟨b, rfl⟩ := Int.eq_ofNat_of_zero_le i0
  exact w_zb a b (by omega) (by omega)
theorem w_zb01 (x i : Int) (h0 : 0 ≤ x) (h1 : x < 2147483648) (i0 : 0 ≤ i) (i1 : i < 32) : z_b x i = 0 ∨ z_b x i = 1 := by
  rw [w_zbi x i h0 h1 i0 i1]
  split
  · exact Or.inr rfl
  · exact Or.inl rfl
theorem w_zb0 (i : Int) (i0 : 0 ≤ i) (i1 : i < 32) : z_b 0 i = 0 := by
  rw [w_zbi 0 i (by omega) (by omega) i0 i1]
  show (if (0 : Nat).testBit i.toNat then (1 : Int) else 0) = 0
  rw [Nat.zero_testBit]
  rfl
theorem w_zbor (x p q : Int) (h0 : 0 ≤ x) (h1 : x < 2147483648) (p0 : 0 ≤ p) (p1 : p < 31) (q0 : 0 ≤ q) (q1 : q < 31) : z_b (z_or x (z_shl 1 p)) q = if q = p then 1 else z_b x q := by
  obtain ⟨a, rfl⟩ := Int.eq_ofNat_of_zero_le h0
  obtain ⟨b, rfl⟩ := Int.eq_ofNat_of_zero_le p0
  obtain ⟨c, rfl⟩ := Int.eq_ofNat_of_zero_le q0
  have b1 : b < 31 := by omega
  have c1 : c < 31 := by omega
  have a1 : a < 2147483648 := by omega
  have t : 2 ^ b < 2 ^ 31 := Nat.pow_lt_pow_right (by omega) b1
  show z_b (z_or (a : Int) (z_shl 1 (b : Int))) (c : Int) = _
  rw [w_shlb ⟨b, b1⟩, w_or _ _ a1 t, w_zb _ _ (Nat.or_lt_two_pow (n := 31) a1 t) (by omega), Nat.testBit_or]
  show _ = if ((c : Int) = (b : Int)) then (1 : Int) else z_b (a : Int) (c : Int)
  rw [w_zb a c a1 (by omega), Nat.testBit_two_pow]
  by_cases e : c = b
  · subst e
    rw [if_pos rfl]
    simp
  · have e2 : ¬ ((c : Int) = (b : Int)) := by omega
    rw [if_neg e2]
    have e3 : ¬ b = c := fun q => e q.symm
    simp [e3]
theorem w_or_rng (n : Nat) (hn : n ≤ 30) (x p : Int) (h0 : 0 ≤ x) (h1 : x < ((2 ^ n : Nat) : Int)) (p0 : 0 ≤ p) (p1 : p < n) : 0 ≤ z_or x (z_shl 1 p) ∧ z_or x (z_shl 1 p) < ((2 ^ n : Nat) : Int) := by
  obtain ⟨a, rfl⟩ := Int.eq_ofNat_of_zero_le h0
  obtain ⟨b, rfl⟩ := Int.eq_ofNat_of_zero_le p0
  have b1 : b < n := by omega
  have a1 : a < 2 ^ n := by
    have h1 : (a : Int) < ((2 ^ n : Nat) : Int) := h1
    omega
  have t : 2 ^ b < 2 ^ n := Nat.pow_lt_pow_right (by omega) b1
  have u : 2 ^ n ≤ 2 ^ 30 := Nat.pow_le_pow_right (by omega) hn
  have u2 : 2 ^ n < 2147483648 := Nat.lt_of_le_of_lt u (by decide)
  show 0 ≤ z_or (a : Int) (z_shl 1 (b : Int)) ∧ z_or (a : Int) (z_shl 1 (b : Int)) < ((2 ^ n : Nat) : Int)
  have s : z_shl 1 (b : Int) = ((2 ^ b : Nat) : Int) := w_shlb ⟨b, by omega⟩
  have t2 : 2 ^ b < 2147483648 := by omega
  rw [s, w_or _ _ (by omega) t2]
  have v := Nat.or_lt_two_pow a1 t
  constructor
  · omega
  · show ((a ||| 2 ^ b : Nat) : Int) < ((2 ^ n : Nat) : Int)
    omega
theorem w_or12 (x p : Int) (h0 : 0 ≤ x) (h1 : x < 4096) (p0 : 0 ≤ p) (p1 : p < 12) : 0 ≤ z_or x (z_shl 1 p) ∧ z_or x (z_shl 1 p) < 4096 := w_or_rng 12 (by omega) x p h0 h1 p0 p1
theorem w_or5 (x p : Int) (h0 : 0 ≤ x) (h1 : x < 32) (p0 : 0 ≤ p) (p1 : p < 5) : 0 ≤ z_or x (z_shl 1 p) ∧ z_or x (z_shl 1 p) < 32 := w_or_rng 5 (by omega) x p h0 h1 p0 p1
theorem w_or6 (x p : Int) (h0 : 0 ≤ x) (h1 : x < 64) (p0 : 0 ≤ p) (p1 : p < 6) : 0 ≤ z_or x (z_shl 1 p) ∧ z_or x (z_shl 1 p) < 64 := w_or_rng 6 (by omega) x p h0 h1 p0 p1
