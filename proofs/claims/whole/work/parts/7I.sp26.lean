theorem w_ukey : ∀ i : Fin 32, (((Int32.ofInt (i.val : Int)).toUInt32 &&& Int32.toUInt32 31).toBitVec % 32) = BitVec.ofNat 32 i.val := by decide +kernel
theorem w_ushr (a i : Nat) (ha : a < 2147483648) (hi : i < 32) : z_ushr a i = ((a / 2 ^ i : Nat) : Int) := by
  show ((Int32.ofInt (a : Int)).toUInt32 >>> ((Int32.ofInt (i : Int)).toUInt32 &&& Int32.toUInt32 31)).toBitVec.toInt = _
  have e : (Int32.ofInt (a : Int)).toUInt32.toBitVec = BitVec.ofNat 32 a := w_i32 a
  have q : a / 2 ^ i < 2147483648 := Nat.lt_of_le_of_lt (Nat.div_le_self _ _) ha
  have t : (BitVec.ofNat 32 a >>> BitVec.ofNat 32 i).toNat = a / 2 ^ i := by
    rw [BitVec.ushiftRight_eq', BitVec.toNat_ushiftRight, BitVec.toNat_ofNat, BitVec.toNat_ofNat, Nat.mod_eq_of_lt (by omega), Nat.mod_eq_of_lt (by show i < 2 ^ 32; omega), Nat.shiftRight_eq_div_pow]
  rw [UInt32.toBitVec_shiftRight, w_ukey ⟨i, hi⟩, e, BitVec.toInt_eq_toNat_of_lt (by rw [t]; omega), t]
def w_nb1 (x : Nat) : Nat := x - (x / 2 &&& 1431655765)
def w_nb2 (y : Nat) : Nat := (y &&& 858993459) + (y / 4 &&& 858993459)
def w_nb3 (y : Nat) : Nat := (y + y / 16) &&& 252645135
def w_nb4 (y : Nat) : Nat := y + y / 256
def w_nb5 (y : Nat) : Nat := y + y / 65536
def w_nb (x : Nat) : Nat := w_nb5 (w_nb4 (w_nb3 (w_nb2 (w_nb1 x)))) &&& 63
def w_nbs (x : Nat) : Nat := x % 2 + x / 2 % 2 + x / 4 % 2 + x / 8 % 2 + x / 16 % 2 + x / 32 % 2 + x / 64 % 2 + x / 128 % 2 + x / 256 % 2 + x / 512 % 2 + x / 1024 % 2 + x / 2048 % 2
theorem w_nb_sq : ∀ k : Fin 64, ∀ x : Fin 64, w_nb (64 * k.val + x.val) = w_nbs (64 * k.val + x.val) := by decide +kernel
theorem w_nb_all : ∀ x : Fin 4096, w_nb x.val = w_nbs x.val := by
  intro x
  have q := w_nb_sq ⟨x.val / 64, by omega⟩ ⟨x.val % 64, by omega⟩
  have e : 64 * (x.val / 64) + x.val % 64 = x.val := by omega
  have q : w_nb (64 * (x.val / 64) + x.val % 64) = w_nbs (64 * (x.val / 64) + x.val % 64) := q
  rw [e] at q
  exact q
theorem s_233 (d : Nat) (σ : Nat → Int → Int) (x : Nat) (hx : x < 4096) : zE d 233 0 [some (.inl (x : Int))] [] (zS, σ) = some (.inl (w_nbs x : Nat), (zS, σ)) := by
  have a1 : x / 2 &&& 1431655765 ≤ x / 2 := Nat.and_le_left
  have h1 : z_wrap ((x : Int) - z_and (z_ushr x 1) 1431655765) = (w_nb1 x : Nat) := by
    have u : z_ushr (x : Int) 1 = ((x / 2 : Nat) : Int) := w_ushr x 1 (by omega) (by omega)
    have v : z_and ((x / 2 : Nat) : Int) 1431655765 = ((x / 2 &&& 1431655765 : Nat) : Int) := w_and (x / 2) 1431655765 (by omega) (by omega)
    unfold w_nb1
    rw [u, v, z_wid (by omega) (by omega)]
    omega
  have b1 : w_nb1 x ≤ 4095 := by unfold w_nb1; omega
  have a2 : w_nb1 x &&& 858993459 ≤ w_nb1 x := Nat.and_le_left
  have a3 : w_nb1 x / 4 &&& 858993459 ≤ w_nb1 x / 4 := Nat.and_le_left
  have h2 : z_wrap (z_and (w_nb1 x : Nat) 858993459 + z_and (z_ushr (w_nb1 x : Nat) 2) 858993459) = (w_nb2 (w_nb1 x) : Nat) := by
    have u : z_ushr (w_nb1 x : Nat) 2 = ((w_nb1 x / 4 : Nat) : Int) := w_ushr (w_nb1 x) 2 (by omega) (by omega)
    have v : z_and ((w_nb1 x / 4 : Nat) : Int) 858993459 = ((w_nb1 x / 4 &&& 858993459 : Nat) : Int) := w_and (w_nb1 x / 4) 858993459 (by omega) (by omega)
    have w : z_and (w_nb1 x : Nat) 858993459 = ((w_nb1 x &&& 858993459 : Nat) : Int) := w_and (w_nb1 x) 858993459 (by omega) (by omega)
    unfold w_nb2
    rw [u, v, w, z_wid (by omega) (by omega)]
    omega
  have b2 : w_nb2 (w_nb1 x) ≤ 8190 := by unfold w_nb2; omega
  have h3 : z_and (z_wrap ((w_nb2 (w_nb1 x) : Nat) + z_ushr (w_nb2 (w_nb1 x) : Nat) 4)) 252645135 = (w_nb3 (w_nb2 (w_nb1 x)) : Nat) := by
    have u : z_ushr (w_nb2 (w_nb1 x) : Nat) 4 = ((w_nb2 (w_nb1 x) / 16 : Nat) : Int) := w_ushr (w_nb2 (w_nb1 x)) 4 (by omega) (by omega)
    have v : z_and ((w_nb2 (w_nb1 x) + w_nb2 (w_nb1 x) / 16 : Nat) : Int) 252645135 = (((w_nb2 (w_nb1 x) + w_nb2 (w_nb1 x) / 16) &&& 252645135 : Nat) : Int) := w_and (w_nb2 (w_nb1 x) + w_nb2 (w_nb1 x) / 16) 252645135 (by omega) (by omega)
    unfold w_nb3
    rw [u, z_wid (by omega) (by omega), show ((w_nb2 (w_nb1 x) : Nat) : Int) + ((w_nb2 (w_nb1 x) / 16 : Nat) : Int) = ((w_nb2 (w_nb1 x) + w_nb2 (w_nb1 x) / 16 : Nat) : Int) by omega, v]
  have b3 : w_nb3 (w_nb2 (w_nb1 x)) ≤ 16380 := by
    have q : (w_nb2 (w_nb1 x) + w_nb2 (w_nb1 x) / 16) &&& 252645135 ≤ w_nb2 (w_nb1 x) + w_nb2 (w_nb1 x) / 16 := Nat.and_le_left
    unfold w_nb3
    omega
  have h4 : z_wrap ((w_nb3 (w_nb2 (w_nb1 x)) : Nat) + z_ushr (w_nb3 (w_nb2 (w_nb1 x)) : Nat) 8) = (w_nb4 (w_nb3 (w_nb2 (w_nb1 x))) : Nat) := by
    have u : z_ushr (w_nb3 (w_nb2 (w_nb1 x)) : Nat) 8 = ((w_nb3 (w_nb2 (w_nb1 x)) / 256 : Nat) : Int) := w_ushr (w_nb3 (w_nb2 (w_nb1 x))) 8 (by omega) (by omega)
    unfold w_nb4
    rw [u, z_wid (by omega) (by omega)]
    omega
  have b4 : w_nb4 (w_nb3 (w_nb2 (w_nb1 x))) ≤ 32760 := by unfold w_nb4; omega
  have h5 : z_wrap ((w_nb4 (w_nb3 (w_nb2 (w_nb1 x))) : Nat) + z_ushr (w_nb4 (w_nb3 (w_nb2 (w_nb1 x))) : Nat) 16) = (w_nb5 (w_nb4 (w_nb3 (w_nb2 (w_nb1 x)))) : Nat) := by
    have u : z_ushr (w_nb4 (w_nb3 (w_nb2 (w_nb1 x))) : Nat) 16 = ((w_nb4 (w_nb3 (w_nb2 (w_nb1 x))) / 65536 : Nat) : Int) := w_ushr (w_nb4 (w_nb3 (w_nb2 (w_nb1 x)))) 16 (by omega) (by omega)
    unfold w_nb5
    rw [u, z_wid (by omega) (by omega)]
    omega
  have b5 : w_nb5 (w_nb4 (w_nb3 (w_nb2 (w_nb1 x)))) ≤ 65520 := by unfold w_nb5; omega
  have h6 : z_and (w_nb5 (w_nb4 (w_nb3 (w_nb2 (w_nb1 x)))) : Nat) 63 = (w_nb x : Nat) := w_and (w_nb5 (w_nb4 (w_nb3 (w_nb2 (w_nb1 x))))) 63 (by omega) (by omega)
  have all : w_nb x = w_nbs x := w_nb_all ⟨x, hx⟩
  rw [e_233_0, h1, h2, h3, h4, h5, h6, all]
theorem w_zbn (a i : Nat) (ha : a < 2147483648) (hi : i < 32) : z_b a i = ((a / 2 ^ i % 2 : Nat) : Int) := by
  unfold z_b
  have b : a / 2 ^ i < 2147483648 := Nat.lt_of_le_of_lt (Nat.div_le_self _ _) ha
  rw [w_shr a i ha hi]
  show z_and ((a / 2 ^ i : Nat) : Int) ((1 : Nat) : Int) = _
  rw [w_and _ _ b (by omega), Nat.and_one_is_mod]
theorem w_nbs_sum (x : Nat) (hx : x < 4096) : w_sumf (fun p => z_b (x : Int) p) 12 0 = (w_nbs x : Nat) := by
  have z : ∀ i : Nat, i < 12 → z_b (x : Int) (i : Int) = ((x / 2 ^ i % 2 : Nat) : Int) := fun i hi => w_zbn x i (by omega) (by omega)
  have z0 := z 0 (by omega)
  have z1 := z 1 (by omega)
  have z2 := z 2 (by omega)
  have z3 := z 3 (by omega)
  have z4 := z 4 (by omega)
  have z5 := z 5 (by omega)
  have z6 := z 6 (by omega)
  have z7 := z 7 (by omega)
  have z8 := z 8 (by omega)
  have z9 := z 9 (by omega)
  have z10 := z 10 (by omega)
  have z11 := z 11 (by omega)
  show z_b (x : Int) ((0 : Nat) : Int) + (z_b (x : Int) ((1 : Nat) : Int) + (z_b (x : Int) ((2 : Nat) : Int) + (z_b (x : Int) ((3 : Nat) : Int) + (z_b (x : Int) ((4 : Nat) : Int) + (z_b (x : Int) ((5 : Nat) : Int) + (z_b (x : Int) ((6 : Nat) : Int) + (z_b (x : Int) ((7 : Nat) : Int) + (z_b (x : Int) ((8 : Nat) : Int) + (z_b (x : Int) ((9 : Nat) : Int) + (z_b (x : Int) ((10 : Nat) : Int) + (z_b (x : Int) ((11 : Nat) : Int) + 0))))))))))) = _
  rw [z0, z1, z2, z3, z4, z5, z6, z7, z8, z9, z10, z11]
  unfold w_nbs
  simp only [Nat.reducePow, Nat.div_one]
  omega
/-- how many buses a unit wants -/
def w_tp (wh : Int → Int) (se o : Int) : Int := z_wrap (Int.tdiv (z_wrap (z_wrap (((w_nbs (wh o).toNat : Nat) : Int) + se) - 1)) se)
theorem w_nbs_le (x : Nat) : w_nbs x ≤ 12 := by
  unfold w_nbs
  omega
theorem w_tp_rng (wh : Int → Int) (se o : Int) (s1 : 1 ≤ se) (s2 : se ≤ 12) : 0 ≤ w_tp wh se o ∧ w_tp wh se o ≤ 23 := by
  have a := w_nbs_le (wh o).toNat
  unfold w_tp
  rw [z_wid (x := ((w_nbs (wh o).toNat : Nat) : Int) + se) (by omega) (by omega), z_wid (x := ((w_nbs (wh o).toNat : Nat) : Int) + se - 1) (by omega) (by omega), w_tdd _ _ (by omega)]
  have b : 0 ≤ (((w_nbs (wh o).toNat : Nat) : Int) + se - 1) / se := Int.ediv_nonneg (by omega) (by omega)
  have c : (((w_nbs (wh o).toNat : Nat) : Int) + se - 1) / se ≤ ((w_nbs (wh o).toNat : Nat) : Int) + se - 1 := Int.ediv_le_self _ (by omega)
  rw [z_wid (by omega) (by omega)]
  omega
theorem s_24 (d : Nat) (n : Nat) (ha le wh bh rs li : Int → Int) (hn : n ≤ 6) (σ : Nat → Int → Int) (T : w_TU n ha le wh bh rs li σ) (u : Nat) (hu : u < n) (w0 : 0 ≤ wh u) (w1 : wh u < 4096) (s1 : 1 ≤ σ 1 10) : zE (d + 1) 24 0 [some (.inr 5), some (.inl u), none, none] [] (zS, σ) = some (.inl (w_tp wh (σ 1 10) u), (zS, σ)) := by
  obtain ⟨t0, t3, tt⟩ := T
  have a := (tt u hu).2.2.1
  obtain ⟨x, hx⟩ := Int.eq_ofNat_of_zero_le w0
  unfold w_tp
  rw [e_24_0, s_get_12 _ _ _ _ t0 (by omega), if_pos (by omega), Option.bind_some, e_24_9, a, hx, s_233 d σ x (by omega), Option.bind_some, e_24_12, if_pos (by omega), if_neg (by omega)]
  rfl
theorem s_190l (d : Nat) (σ : Nat → Int → Int) (u x : Nat) (hu : u < 6) (e : σ 96 u = x) (hx : x < 4096) (s1 : 1 ≤ σ 71 35) : ∀ (m k : Nat) (c : Int), k + m = 12 → 0 ≤ c → c ≤ k → zE d 190 4 [some (.inr 75), some (.inl u), some (.inl c), some (.inl k)] [] (zS, σ) = some (.inl (z_wrap (Int.tdiv (z_wrap (z_wrap (c + w_sumf (fun p => z_b (x : Int) p) m k + σ 71 35) - 1)) (σ 71 35))), (zS, σ))
  | 0, k, c, h, c0, c1 => by
    rw [e_190_4, if_neg (by omega), if_neg (by omega), w_sumf0, Int.add_zero]
  | m + 1, k, c, h, c0, c1 => by
    have u6 : 0 ≤ ((u : Nat) : Int) ∧ ((u : Nat) : Int) < 6 := by omega
    have b01 := w_zb01 (x : Int) (k : Int) (by omega) (by omega) (by omega) (by omega)
    have s : w_sumf (fun p => z_b (x : Int) p) (m + 1) k = z_b (x : Int) k + w_sumf (fun p => z_b (x : Int) p) m ((k : Int) + 1) := rfl
    have zb : z_and (z_shr (x : Int) (k : Int)) 1 = z_b (x : Int) k := rfl
    have ih : zE d 190 4 [some (.inr 75), some (.inl u), some (.inl (c + z_b (x : Int) k)), some (.inl ((k : Int) + 1))] [] (zS, σ) = some (.inl (z_wrap (Int.tdiv (z_wrap (z_wrap (c + z_b (x : Int) k + w_sumf (fun p => z_b (x : Int) p) m ((k : Int) + 1) + σ 71 35) - 1)) (σ 71 35))), (zS, σ)) := s_190l d σ u x hu e hx s1 m (k + 1) (c + z_b (x : Int) k) (by omega) (by omega) (by omega)
    rw [e_190_4, if_pos (by omega), if_pos u6, e, zb, z_wid (x := c + z_b (x : Int) k) (by omega) (by omega), z_wid (x := (k : Int) + 1) (by omega) (by omega), ih, s, ← Int.add_assoc]
theorem s_190 (d : Nat) (σ : Nat → Int → Int) (u : Nat) (hu : u < 6) (w0 : 0 ≤ σ 96 u) (w1 : σ 96 u < 4096) (s1 : 1 ≤ σ 71 35) : zE d 190 0 [some (.inr 75), some (.inl u), none, none] [] (zS, σ) = some (.inl (w_tp (σ 96) (σ 71 35) u), (zS, σ)) := by
  obtain ⟨x, hx⟩ := Int.eq_ofNat_of_zero_le w0
  have q := s_190l d σ u x hu hx (by omega) s1 12 0 0 (by omega) (by omega) (by omega)
  have q : zE d 190 4 [some (.inr 75), some (.inl u), some (.inl 0), some (.inl 0)] [] (zS, σ) = some (.inl (z_wrap (Int.tdiv (z_wrap (z_wrap (0 + w_sumf (fun p => z_b (x : Int) p) 12 0 + σ 71 35) - 1)) (σ 71 35))), (zS, σ)) := q
  unfold w_tp
  rw [e_190_0, q, w_nbs_sum x (by omega), Int.zero_add, hx]
  rfl
