set_option maxRecDepth 100000 in
theorem w_first (s0 : Nat → Int → Int) (s : Int → Int) (L : Int) (h1 : s0 1000 = s) (h2 : s0 1001 0 = L) : zV s L (w_s2 s0) := by
  refine ⟨?_, ?_, ?_, ?_, ?_, ?_, ?_, ?_, ?_, ?_, ?_, ?_, ?_, ?_, ?_, ?_, ?_, ?_, ?_, ?_, ?_, ?_, ?_, ?_, ?_, ?_, ?_, ?_, ?_, ?_, ?_, ?_, ?_, ?_, ?_, ?_, ?_, ?_, ?_, ?_, ?_, ?_, ?_, ?_, ?_, ?_, ?_⟩
  · exact ⟨h1, h2⟩
  · exact rfl
  · exact ⟨rfl, (by decide : (0 : Int) ≤ 0), (by decide : (0 : Int) ≤ 28799)⟩
  · exact ⟨rfl, (by decide : (1 : Int) ≤ 4), (by decide : (4 : Int) ≤ 12)⟩
  · exact ⟨rfl, Or.inl rfl⟩
  · exact ⟨rfl, (by decide : (0 : Int) ≤ 0), (by decide : (0 : Int) ≤ 10)⟩
  · exact ⟨rfl, rfl⟩
  · exact ⟨rfl, rfl⟩
  · exact ⟨rfl, rfl⟩
  · exact ⟨rfl, rfl⟩
  · exact ⟨rfl, rfl⟩
  · exact ⟨rfl, rfl⟩
  · exact ⟨rfl, rfl⟩
  · exact ⟨rfl, rfl⟩
  · exact ⟨rfl, rfl⟩
  · exact ⟨rfl, (by decide : (0 : Int) ≤ 0), (by decide : (0 : Int) ≤ 12), fun p a b => absurd (show p < 0 from b) (by omega)⟩
  · exact fun p a b => absurd (show p < 0 from b) (by omega)
  · exact ⟨rfl, (by decide : (0 : Int) ≤ 0), (by decide : (0 : Int) ≤ 6), fun p a b => absurd (show p < 0 from b) (by omega)⟩
  · exact ⟨rfl, (by decide : (0 : Int) ≤ 0), (by decide : (0 : Int) ≤ 12), fun p a b => absurd (show p < 0 from b) (by omega)⟩
  · exact ⟨rfl, (by decide : (0 : Int) ≤ 0), (by decide : (0 : Int) ≤ 20), fun p a b => absurd (show p < 0 from b) (by omega)⟩
  · exact ⟨rfl, (by decide : (0 : Int) ≤ 0), (by decide : (0 : Int) ≤ 12), fun p a b => absurd (show p < 0 from b) (by omega)⟩
  · exact ⟨rfl, (by decide : (0 : Int) ≤ 0), (by decide : (0 : Int) ≤ 6), fun p a b => absurd (show p < 0 from b) (by omega)⟩
  · exact ⟨rfl, (by decide : (0 : Int) ≤ 0), (by decide : (0 : Int) ≤ 4), fun p a b => absurd (show p < 0 from b) (by omega)⟩
  · exact ⟨rfl, (by decide : (0 : Int) ≤ 0), (by decide : (0 : Int) ≤ 6), fun p a b => absurd (show p < 0 from b) (by omega)⟩
  · exact ⟨rfl, (by decide : (0 : Int) ≤ 0), (by decide : (0 : Int) ≤ 10), fun p a b => absurd (show p < 0 from b) (by omega)⟩
  · exact fun k => absurd (show (0 : Int) = 1 from k) (by decide)
  · exact fun k => absurd (show (0 : Int) = 1 from k) (by decide)
  · exact fun k => absurd (show (0 : Int) = 1 from k) (by decide)
  · exact fun k => absurd (show (0 : Int) = 1 from k) (by decide)
  · exact fun k => absurd (show (0 : Int) = 1 from k) (by decide)
  · exact fun k => absurd (show (0 : Int) = 1 from k) (by decide)
  · exact fun k => absurd (show (0 : Int) = 1 from k) (by decide)
  · exact fun k => absurd (show (0 : Int) = 1 from k) (by decide)
  · exact fun k => absurd (show (0 : Int) = 1 from k) (by decide)
  · exact fun k => absurd (show (0 : Int) = 1 from k) (by decide)
  · exact fun k => absurd (show (0 : Int) = 1 from k) (by decide)
  · exact fun k => absurd (show (0 : Int) = 1 from k) (by decide)
  · exact fun k => absurd (show (0 : Int) = 1 from k) (by decide)
  · exact ⟨rfl, (by decide : (0 : Int) ≤ 0), (by decide : (0 : Int) ≤ 50), fun p a b => absurd (show p < 0 from b) (by omega)⟩
  · exact ⟨rfl, rfl, (by decide : (-1 : Int) ≤ -1), (by decide : (-1 : Int) ≤ 2), (by decide : (0 : Int) ≤ 0), (by decide : (0 : Int) ≤ 40), fun i a b => ⟨rfl, (by decide : (-2000 : Int) ≤ 0), (by decide : (0 : Int) ≤ 2000)⟩⟩
  · exact ⟨rfl, rfl, (by decide : (-1 : Int) ≤ -1), (by decide : (-1 : Int) ≤ 2), (by decide : (0 : Int) ≤ 0), (by decide : (0 : Int) ≤ 40), fun i a b => ⟨rfl, (by decide : (-2000 : Int) ≤ 0), (by decide : (0 : Int) ≤ 2000)⟩⟩
  · exact ⟨rfl, rfl, (by decide : (-1 : Int) ≤ -1), (by decide : (-1 : Int) ≤ 2), (by decide : (0 : Int) ≤ 0), (by decide : (0 : Int) ≤ 40), fun i a b => ⟨rfl, (by decide : (-2000 : Int) ≤ 0), (by decide : (0 : Int) ≤ 2000)⟩⟩
  · exact ⟨rfl, rfl, (by decide : (-1 : Int) ≤ -1), (by decide : (-1 : Int) ≤ 2), (by decide : (0 : Int) ≤ 0), (by decide : (0 : Int) ≤ 40), fun i a b => ⟨rfl, (by decide : (-2000 : Int) ≤ 0), (by decide : (0 : Int) ≤ 2000)⟩⟩
  · exact ⟨Or.inl rfl, fun k => absurd (show (0 : Int) = 1 from k) (by decide)⟩
  · exact ⟨Or.inl rfl, Or.inl rfl, fun k => absurd (show (0 : Int) = 1 from k) (by decide)⟩
  · exact ⟨fun i a b => rfl, Or.inl rfl, fun k => absurd (show (0 : Int) = 1 from k) (by decide)⟩
  · exact ⟨Or.inl rfl, fun k => absurd (show (0 : Int) = 1 from k) (by decide)⟩
theorem z_pure {L : Nat} (hL : L ≤ 3072) (xs : Nat → Int32) : ∃ (n : Nat) (σ' : Nat → Int → Int), zR n 100 237 0 (z_loc 4 [.inr 1]) [] ([], z_s0 L xs) = some (.inl 1, (zS, σ')) := by
  have v := w_first (z_s0 L xs) (z_s0 L xs 1000) (L : Int) rfl (z_s0_len L xs)
  obtain ⟨σ', w⟩ := w_loop (z_s0 L xs 1000) (L : Int) (fun j => by
    show -2147483648 ≤ z_s0 L xs 1000 j ∧ z_s0 L xs 1000 j < 2147483648
    unfold z_s0
    rw [if_neg (by decide), if_pos rfl]
    split
    · have a := Int32.le_toInt (xs j.toNat)
      have b := Int32.toInt_lt (xs j.toNat)
      omega
    · omega) (by omega) (by omega) (L + 1) 0 _ (by omega) (by omega) v (by omega)
  have e : zE 100 237 0 (z_loc 4 [.inr 1]) [] ([], z_s0 L xs) = some (.inl 1, (zS, σ')) := (w_start (z_s0 L xs)).trans w
  obtain ⟨n, hn⟩ := zE_iff.1 e
  exact ⟨n, σ', hn⟩
