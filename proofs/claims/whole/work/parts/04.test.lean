theorem zt_1 (d : Nat) (σ : Nat → Int → Int) (x lo hi : Int) : zJ [] 40 d 149 0 [some (.inl x), some (.inl lo), some (.inl hi)] [] (zS, σ) = (if x < lo then some (.inl 0, (zS, σ)) else if hi < x then some (.inl 0, (zS, σ)) else some (.inl 1, (zS, σ))) := rfl
theorem zt_2 (d : Nat) (σ : Nat → Int → Int) (n : Int) : zJ [7] 40 (d+1) 157 0 [some (.inr 75), some (.inl n)] [] (zS, σ) = (zE d 149 0 [some (.inl n), some (.inl 0), some (.inl 7)] [] (zS, σ)).bind (fun q => zE (d+1) 157 7 [some (.inr 75), some (.inl n)] [q.1] q.2) := rfl
theorem zt_3 (d : Nat) (σ : Nat → Int → Int) (n r : Int) : zJ [15,30,81] 60 (d+1) 157 7 [some (.inr 75), some (.inl n)] [.inl r] (zS, σ) = 
  (if r = 0 then (zE d 150 0 [some (.inr 75), some (.inl 1)] [] (zS, σ)).bind (fun q => zE (d+1) 157 15 [some (.inr 75), some (.inl n)] [q.1] q.2)
   else if σ 71 2 = 12 then (zE d 150 0 [some (.inr 75), some (.inl 2)] [] (zS, σ)).bind (fun q => zE (d+1) 157 30 [some (.inr 75), some (.inl n)] [q.1] q.2)
   else if 0 ≤ σ 71 2 ∧ σ 71 2 < 12 then 
     (let σ1 := z_up σ 72 (σ 71 2) n; if 0 ≤ σ1 71 2 ∧ σ1 71 2 < 12 then 
       (let σ2 := z_up σ1 73 (σ1 71 2) (-1); if 0 ≤ σ2 71 2 ∧ σ2 71 2 < 12 then 
        (let σ3 := z_up σ2 74 (σ2 71 2) 0; let σ4 := z_up σ3 71 2 (z_wrap (σ3 71 2 + 1)); (zE d 151 0 [some (.inr 75), some (.inl (z_wrap (σ4 71 2 - 1)))] [] (zS, σ4)).bind (fun q => zE (d+1) 157 81 [some (.inr 75), some (.inl n)] [q.1] q.2)) else none) else none) else none) := rfl
