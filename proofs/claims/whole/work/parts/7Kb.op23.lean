theorem o_planned (d : Nat) (s : Int → Int) (L : Int) (σ : Nat → Int → Int) (h : zV s L σ) (x y : Int) (bx : x < 2147483648) : zOK s L (d + 29) 118 189 [some (.inl x), some (.inl y)] [some (.inl x), some (.inl y)] σ := by
  obtain ⟨σ1, t1, t2, t3, t4, t5⟩ := w_plan_c (d + 8) s L σ h
  have e71 : σ1 71 = σ 71 := t2 71 (by omega)
  have b2 := (zV_U h).2.1
  have b3 := (zV_U h).2.2.1
  have U := w_DUv h
  have n6 := U.1
  have e2 : ((σ 71 29).toNat : Int) = σ 71 29 := by omega
  have t1 : zE (d + 28) 53 0 [some (.inr 43), some (.inr 16)] [] (zS, σ) = some (.inl 0, (zS, σ1)) := t1
  have e9 : σ1 39 9 = σ 71 29 := by rw [t4.1, e2]
  have e29 : σ1 71 29 = ((σ 71 29).toNat : Int) := by rw [e71, e2]
  by_cases c1 : x < 0
  · -- no order
    have cls : zE (d + 29) 118 0 [some (.inr 4), some (.inl x), some (.inl y)] [] (zS, σ) = some (.inl (-1), (zS, σ1)) := by
      rw [e_118_0, t1, Option.bind_some, e_118_14, e_63_0, if_pos c1, Option.bind_some, e_118_23]
    by_cases c2 : 0 ≤ y ∧ y ≤ σ 71 29 - 1
    · obtain ⟨r', S', σ', a1, a2⟩ := s_183n (d + 28) (σ 71 29).toNat n6 x (σ 71 29).toNat 0 x 0 σ1 (by omega) e29
      have a1 : zE (d + 28) 183 7 [some (.inr 75), some (.inl x), some (.inl x), some (.inl 0), some (.inl 0)] [] (zS, σ1) = zE (d + 28) 183 7 [some (.inr 75), some (.inl x), some (.inl r'), some (.inl S'), some (.inl ((σ 71 29).toNat : Int))] [] (zS, σ') := a1
      have f29 : σ' 71 29 = ((σ 71 29).toNat : Int) := by rw [a2 71 (by omega)]; exact e29
      refine ⟨-1, σ1, σ', cls, ?_, ?_, t2 1000 (by omega), t2 1001 (by omega)⟩
      · rw [e_189_0, e71, z_wid (by omega) (by omega), s_149, if_pos c2, Option.bind_some, e_189_11, if_neg (by decide), e_183_0, a1, e_183_7, f29, if_neg (by omega), if_pos c1, Option.bind_some, e_189_19, if_pos rfl]
      · have E : σ' = fun k => if k = 107 then σ' k else σ1 k := by
          funext k
          by_cases a : k = 107
          · rw [if_pos a]
          · rw [if_neg a, a2 k a]
        rw [E]
        clear E
        obtain ⟨v_sc, v_st, v_mo, v_se, v_ik, v_ba, v_wP, v_wZ, v_wD, v_wS, v_wR, v_wU, v_wO, v_wG, v_wT, v_P, v_Q, v_Z, v_D, v_S, v_R, v_U, v_O, v_G, v_T, v_kl, v_kmo, v_kse, v_kP, v_kQ, v_kZ, v_kD, v_kS, v_kR, v_kU, v_kO, v_kG, v_kT, v_A, v_X0, v_X1, v_X2, v_X3, v_pc, v_pm, v_lc, v_lm⟩ := t3
        exact ⟨v_sc, v_st, v_mo, v_se, v_ik, v_ba, v_wP, v_wZ, v_wD, v_wS, v_wR, v_wU, v_wO, v_wG, v_wT, v_P, v_Q, v_Z, v_D, v_S, v_R, v_U, v_O, v_G, v_T, v_kl, v_kmo, v_kse, v_kP, v_kQ, v_kZ, v_kD, v_kS, v_kR, v_kU, v_kO, v_kG, v_kT, v_A, v_X0, v_X1, v_X2, v_X3, v_pc, v_pm, v_lc, v_lm⟩
    · refine ⟨-1, σ1, σ1, cls, ?_, t3, t2 1000 (by omega), t2 1001 (by omega)⟩
      rw [e_189_0, e71, z_wid (by omega) (by omega), s_149, if_neg c2, Option.bind_some, e_189_11, if_pos rfl]
  · by_cases c2 : 0 ≤ y ∧ y ≤ σ 71 29 - 1
    · obtain ⟨w, hw⟩ := Int.eq_ofNat_of_zero_le c2.1
      subst hw
      -- the reference's order
      obtain ⟨S', σ2, a1, a2, a3, a4, a5, a6, a7⟩ := s_183l (d + 28) (σ 71 29).toNat n6 x (σ 71 29).toNat 0 x 0 σ1 (by omega) e29 (by omega) bx (by omega) (by omega) (fun v hv => by
        rw [w_zb0 _ (by omega) (by omega)]
        exact ⟨fun q => absurd q (by decide), fun ⟨k, k1, _⟩ => absurd k1 (Nat.not_lt_zero k)⟩)
      have a1 : zE (d + 28) 183 7 [some (.inr 75), some (.inl x), some (.inl x), some (.inl 0), some (.inl 0)] [] (zS, σ1) = zE (d + 28) 183 7 [some (.inr 75), some (.inl x), some (.inl (w_q6 (σ 71 29).toNat x)), some (.inl S'), some (.inl ((σ 71 29).toNat : Int))] [] (zS, σ2) := a1
      have f29 : σ2 71 29 = ((σ 71 29).toNat : Int) := by rw [a2 71 (by omega)]; exact e29
      have od : ∀ k : Nat, k < (σ 71 29).toNat → σ2 107 k = w_d6 k x := by
        intro k hk
        have q := a4 k (by omega)
        rw [Nat.zero_add] at q
        exact q
      -- the office's
      obtain ⟨σ3, g1, g2⟩ := s_63l (d + 26) (σ 71 29).toNat (σ 94) (σ 95) (σ 96) (σ 97) (σ 98) U (fun i => w_d6 i.toNat x) w (by omega) (some (.inl x)) (σ 71 29).toNat 0 (fun _ => 0) x 0 0 σ1 none none (by omega) (fun j => by
        show w_d6 ((0 + j : Nat) : Int).toNat x = w_d6 j x
        rw [show ((0 + j : Nat) : Int).toNat = j by omega]) t4 (fun k hk => absurd hk (Nat.not_lt_zero k)) (fun k hk => absurd hk (Nat.not_lt_zero k)) (by omega) (by omega) (fun v hv => by
        rw [w_zb0 _ (by omega) (by omega)]
        exact ⟨fun q => absurd q (by decide), fun ⟨k, k1, _⟩ => absurd k1 (Nat.not_lt_zero k)⟩) (by omega) bx (by omega)
      have od2 : ∀ k : Nat, k < (σ 71 29).toNat → σ2 107 k = (fun i : Int => w_d6 i.toNat x) k := by
        intro k hk
        show σ2 107 k = w_d6 (k : Int).toNat x
        rw [od k hk, show (k : Int).toNat = k by omega]
      have g1 : zE (d + 28) 63 26 [some (.inr 43), some (.inl x), some (.inl (w : Int)), some (.inl x), some (.inl 0), some (.inl 0), none, none] [] (zS, σ1) = _ := g1
      generalize ho : (fun i : Int => w_d6 i.toNat x) = o at g1 od2
      have rng : ∀ k : Nat, k < (σ 71 29).toNat → 0 ≤ σ2 107 k ∧ σ2 107 k ≤ 5 := by
        intro k hk
        rw [od k hk]
        exact w_d6_rng k x
      have mk := w_mask_PF (σ 71 29).toNat n6 (σ2 107) rng S' a5 a6 a7
      have PFe : w_PF (σ 71 29).toNat (σ2 107) 0 ↔ w_PF (σ 71 29).toNat o 0 := by
        constructor
        · intro P k k0 k1
          obtain ⟨p1, p2⟩ := P k k0 k1
          rw [← od2 k k1]
          exact ⟨p1, fun j hj => by rw [← od2 j (by omega)]; exact p2 j hj⟩
        · intro P k k0 k1
          obtain ⟨p1, p2⟩ := P k k0 k1
          rw [od2 k k1]
          exact ⟨p1, fun j hj => by rw [od2 j (by omega)]; exact p2 j hj⟩
      have V3 : zV s L σ3 := by
        have E : σ3 = fun k => if k = 45 ∨ k = 46 then σ3 k else σ1 k := by
          funext k
          by_cases a : k = 45 ∨ k = 46
          · rw [if_pos a]
          · rw [if_neg a, g2 k (fun q => a (Or.inl q)) (fun q => a (Or.inr q))]
        rw [E]
        clear E
        obtain ⟨v_sc, v_st, v_mo, v_se, v_ik, v_ba, v_wP, v_wZ, v_wD, v_wS, v_wR, v_wU, v_wO, v_wG, v_wT, v_P, v_Q, v_Z, v_D, v_S, v_R, v_U, v_O, v_G, v_T, v_kl, v_kmo, v_kse, v_kP, v_kQ, v_kZ, v_kD, v_kS, v_kR, v_kU, v_kO, v_kG, v_kT, v_A, v_X0, v_X1, v_X2, v_X3, v_pc, v_pm, v_lc, v_lm⟩ := t3
        exact ⟨v_sc, v_st, v_mo, v_se, v_ik, v_ba, v_wP, v_wZ, v_wD, v_wS, v_wR, v_wU, v_wO, v_wG, v_wT, v_P, v_Q, v_Z, v_D, v_S, v_R, v_U, v_O, v_G, v_T, v_kl, v_kmo, v_kse, v_kP, v_kQ, v_kZ, v_kD, v_kS, v_kR, v_kU, v_kO, v_kG, v_kT, v_A, v_X0, v_X1, v_X2, v_X3, v_pc, v_pm, v_lc, v_lm⟩
      -- the reference goes on from what the office left
      have h71 : ∀ k : Nat, 71 ≤ k → σ3 k = σ1 k := fun k hk => g2 k (by omega) (by omega)
      obtain ⟨S4, σ4, u1, u2, u3, u4, u5, u6, u7⟩ := s_183l (d + 28) (σ 71 29).toNat n6 x (σ 71 29).toNat 0 x 0 σ3 (by omega) (by rw [h71 71 (by omega)]; exact e29) (by omega) bx (by omega) (by omega) (fun v hv => by
        rw [w_zb0 _ (by omega) (by omega)]
        exact ⟨fun q => absurd q (by decide), fun ⟨k, k1, _⟩ => absurd k1 (Nat.not_lt_zero k)⟩)
      have u1 : zE (d + 28) 183 7 [some (.inr 75), some (.inl x), some (.inl x), some (.inl 0), some (.inl 0)] [] (zS, σ3) = zE (d + 28) 183 7 [some (.inr 75), some (.inl x), some (.inl (w_q6 (σ 71 29).toNat x)), some (.inl S4), some (.inl ((σ 71 29).toNat : Int))] [] (zS, σ4) := u1
      have k29 : σ4 71 29 = ((σ 71 29).toNat : Int) := by rw [u2 71 (by omega), h71 71 (by omega)]; exact e29
      have od4 : ∀ k : Nat, k < (σ 71 29).toNat → σ4 107 k = o k := by
        intro k hk
        have q := u4 k (by omega)
        rw [Nat.zero_add] at q
        rw [q, ← ho]
        show w_d6 k x = w_d6 (k : Int).toNat x
        rw [show (k : Int).toNat = k by omega]
      have mk4 := w_mask_PF (σ 71 29).toNat n6 (σ4 107) (fun k hk => by
        have q := w_d6_rng k x
        rw [od4 k hk, ← od2 k hk, od k hk]
        exact q) S4 u5 u6 u7
      have PF4 : w_PF (σ 71 29).toNat (σ4 107) 0 ↔ w_PF (σ 71 29).toNat o 0 := by
        constructor
        · intro P k k0 k1
          obtain ⟨p1, p2⟩ := P k k0 k1
          rw [← od4 k k1]
          exact ⟨p1, fun j hj => by rw [← od4 j (by omega)]; exact p2 j hj⟩
        · intro P k k0 k1
          obtain ⟨p1, p2⟩ := P k k0 k1
          rw [od4 k k1]
          exact ⟨p1, fun j hj => by rw [od4 j (by omega)]; exact p2 j hj⟩
      have V4 : ∀ σ5 : Nat → Int → Int, (∀ k : Nat, k ≠ 107 → k ≠ 108 → σ5 k = σ3 k) → zV s L σ5 := by
        intro σ5 f5
        have E : σ5 = fun k => if k = 107 ∨ k = 108 then σ5 k else σ3 k := by
          funext k
          by_cases a : k = 107 ∨ k = 108
          · rw [if_pos a]
          · rw [if_neg a, f5 k (fun q => a (Or.inl q)) (fun q => a (Or.inr q))]
        rw [E]
        clear E
        obtain ⟨v_sc, v_st, v_mo, v_se, v_ik, v_ba, v_wP, v_wZ, v_wD, v_wS, v_wR, v_wU, v_wO, v_wG, v_wT, v_P, v_Q, v_Z, v_D, v_S, v_R, v_U, v_O, v_G, v_T, v_kl, v_kmo, v_kse, v_kP, v_kQ, v_kZ, v_kD, v_kS, v_kR, v_kU, v_kO, v_kG, v_kT, v_A, v_X0, v_X1, v_X2, v_X3, v_pc, v_pm, v_lc, v_lm⟩ := V3
        exact ⟨v_sc, v_st, v_mo, v_se, v_ik, v_ba, v_wP, v_wZ, v_wD, v_wS, v_wR, v_wU, v_wO, v_wG, v_wT, v_P, v_Q, v_Z, v_D, v_S, v_R, v_U, v_O, v_G, v_T, v_kl, v_kmo, v_kse, v_kP, v_kQ, v_kZ, v_kD, v_kS, v_kR, v_kU, v_kO, v_kG, v_kT, v_A, v_X0, v_X1, v_X2, v_X3, v_pc, v_pm, v_lc, v_lm⟩
      have cls : ∀ v : Int, w_sel (w_PF (σ 71 29).toNat o 0) (if (w_po (σ 94) (σ 95) (σ 96) (σ 97) (σ 98) o (σ 71 29).toNat 0 (fun _ => 0) 0).1 = -1 then -1 else if w_q6 (σ 71 29).toNat x = 0 then (w_po (σ 94) (σ 95) (σ 96) (σ 97) (σ 98) o (σ 71 29).toNat 0 (fun _ => 0) 0).2 (w : Int) else -1) (-1) = v → zE (d + 29) 118 0 [some (.inr 4), some (.inl x), some (.inl (w : Int))] [] (zS, σ) = some (.inl v, (zS, σ3)) := by
        intro v hv
        rw [e_118_0, t1, Option.bind_some, e_118_14, e_63_0, if_neg c1, if_neg (by omega), e9, if_pos (by omega), g1, hv, Option.bind_some, e_118_23]
      have keep : σ3 1000 = σ 1000 ∧ σ3 1001 = σ 1001 := ⟨by rw [h71 1000 (by omega), t2 1000 (by omega)], by rw [h71 1001 (by omega), t2 1001 (by omega)]⟩
      have first : zE (d + 29) 189 0 [some (.inr 75), some (.inl x), some (.inl (w : Int))] [] (zS, σ3) = (zE (d + 28) 183 7 [some (.inr 75), some (.inl x), some (.inl (w_q6 (σ 71 29).toNat x)), some (.inl S4), some (.inl ((σ 71 29).toNat : Int))] [] (zS, σ4)).bind (fun q => zE (d + 29) 189 19 [some (.inr 75), some (.inl x), some (.inl (w : Int))] [q.1] q.2) := by
        rw [e_189_0, h71 71 (by omega), e71, z_wid (by omega) (by omega), s_149, if_pos c2, Option.bind_some, e_189_11, if_neg (by decide), e_183_0, u1]
      by_cases P : w_PF (σ 71 29).toNat o 0
      · have S4e := mk4.2 (PF4.2 P)
        by_cases q0 : w_q6 (σ 71 29).toNat x = 0
        · have PM : w_PM (σ 71 29).toNat (σ4 107) := by
            intro k hk
            have r1 := w_d6_rng k x
            have p := (PF4.2 P) k (Nat.zero_le _) hk
            refine ⟨?_, p.1, p.2⟩
            rw [od4 k hk, ← od2 k hk, od k hk]
            exact r1.1
          have D4 : w_DN (σ 71 29).toNat (σ 94) (σ 95) (σ 96) (σ 97) (σ 98) σ4 := by
            refine ⟨k29, ?_, ?_, ?_, ?_, ?_⟩
            · rw [u2 94 (by omega), h71 94 (by omega), t2 94 (by omega)]
            · rw [u2 95 (by omega), h71 95 (by omega), t2 95 (by omega)]
            · rw [u2 96 (by omega), h71 96 (by omega), t2 96 (by omega)]
            · rw [u2 97 (by omega), h71 97 (by omega), t2 97 (by omega)]
            · rw [u2 98 (by omega), h71 98 (by omega), t2 98 (by omega)]
          obtain ⟨σ5, z1, z2, z3⟩ := s_182 (d + 26) (σ 71 29).toNat (σ 94) (σ 95) (σ 96) (σ 97) (σ 98) U σ4 D4 PM
          have rel := w_po_rel (σ 71 29).toNat (σ 94) (σ 95) (σ 96) (σ 97) (σ 98) (σ4 107) o od4 PM (σ 71 29).toNat 0 (σ4 108) (fun _ => 0) 0 (by omega) (fun k hk => absurd hk (Nat.not_lt_zero k))
          have z1 : zE (d + 28) 182 0 [some (.inr 75), none, none, none] [] (zS, σ4) = some (.inl (w_po (σ 94) (σ 95) (σ 96) (σ 97) (σ 98) o (σ 71 29).toNat 0 (fun _ => 0) 0).1, (zS, σ5)) := by
            rw [← rel.1]
            exact z1
          have V5 := V4 σ5 (fun k k1 k2 => by rw [z2 k k2, u2 k k1])
          refine ⟨_, σ3, σ5, cls _ rfl, ?_, V5, keep.1, keep.2⟩
          rw [first, e_183_7, k29, if_neg (by omega), if_neg c1, if_pos q0, if_pos S4e, Option.bind_some, e_189_19, if_neg (by decide), z1, Option.bind_some, e_189_28, w_sel_pos P, if_pos q0]
          by_cases pe : (w_po (σ 94) (σ 95) (σ 96) (σ 97) (σ 98) o (σ 71 29).toNat 0 (fun _ => 0) 0).1 = -1
          · rw [if_pos pe, if_pos pe]
          · obtain ⟨k, k1, k2⟩ := w_surj (σ 71 29).toNat (σ4 107) PM w (by omega) (by omega)
            have r := rel.2 (by rw [rel.1]; exact pe) k k1
            rw [k2] at r
            rw [if_neg pe, if_neg pe, if_pos (by omega), z3, r]
        · refine ⟨_, σ3, σ4, cls _ rfl, ?_, V4 σ4 (fun k k1 _ => u2 k k1), keep.1, keep.2⟩
          rw [first, e_183_7, k29, if_neg (by omega), if_neg c1, if_neg q0, Option.bind_some, e_189_19, if_pos rfl, w_sel_pos P, if_neg q0]
          split <;> rfl
      · have S4n : ¬ S4 = z_wrap (z_shl 1 ((σ 71 29).toNat : Int) - 1) := fun q => P (PF4.1 (mk4.1 q))
        refine ⟨_, σ3, σ4, cls _ rfl, ?_, V4 σ4 (fun k k1 _ => u2 k k1), keep.1, keep.2⟩
        rw [first, e_183_7, k29, if_neg (by omega), if_neg c1, w_sel_neg P]
        by_cases q0 : w_q6 (σ 71 29).toNat x = 0
        · rw [if_pos q0, if_neg S4n, Option.bind_some, e_189_19, if_pos rfl]
        · rw [if_neg q0, Option.bind_some, e_189_19, if_pos rfl]
    · refine ⟨-1, σ1, σ1, ?_, ?_, t3, t2 1000 (by omega), t2 1001 (by omega)⟩
      · rw [e_118_0, t1, Option.bind_some, e_118_14, e_63_0, if_neg c1]
        by_cases c3 : y < 0
        · rw [if_pos c3, Option.bind_some, e_118_23]
        · rw [if_neg c3, e9, if_neg (by omega), Option.bind_some, e_118_23]
      · rw [e_189_0, e71, z_wid (by omega) (by omega), s_149, if_neg c2, Option.bind_some, e_189_11, if_pos rfl]
