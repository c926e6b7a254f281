theorem z_pure {L : Nat} (hL : L ≤ 3072) (xs : Nat → Int32) : ∃ (n : Nat) (σ' : Nat → Int → Int), zR n 100 237 0 (z_loc 4 [.inr 1]) [] ([], z_s0 L xs) = some (.inl 1, (zS, σ')) := by
  sorry
