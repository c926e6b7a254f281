theorem w_mx_congr (g g' : Int → Int) : ∀ (m k : Nat) (a : Int), (∀ u : Nat, k ≤ u → u < k + m → g u = g' u) → w_mx g m k a = w_mx g' m k a
  | 0, k, a, h => rfl
  | m + 1, k, a, h => by
    show w_mx g m ((k + 1 : Nat) : Int) (if a < g k then g k else a) = w_mx g' m ((k + 1 : Nat) : Int) (if a < g' k then g' k else a)
    rw [h k (by omega) (by omega)]
    exact w_mx_congr g g' m (k + 1) _ (fun u a b => h u (by omega) (by omega))
theorem o_fleet (d : Nat) (s : Int → Int) (L : Int) (σ : Nat → Int → Int) (h : zV s L σ) : zOK s L (d + 29) 119 191 [] [none, none, none, none, none, none] σ := by
  obtain ⟨σ1, t1, t2, t3, t4, t5⟩ := w_plan_c (d + 8) s L σ h
  have e71 : σ1 71 = σ 71 := t2 71 (by omega)
  have e94 : σ1 94 = σ 94 := t2 94 (by omega)
  have e96 : σ1 96 = σ 96 := t2 96 (by omega)
  have b2 := (zV_U h).2.1
  have b3 := (zV_U h).2.2.1
  have U := w_DUv h
  have hse := zV_se h
  have T1 := w_TUv t3
  rw [e71, e94, t2 95 (by omega), e96, t2 97 (by omega), t2 98 (by omega)] at T1
  have e2 : ((σ 71 29).toNat : Int) = σ 71 29 := by omega
  have G : w_G (σ 71 29).toNat (w_V σ) := w_pl_good _ _ _ _ _ _ U (σ 71 29).toNat 0 _ _ _ _ (by omega) (fun k hk => absurd hk (Nat.not_lt_zero k)) (fun q => absurd rfl q)
  have t1 : zE (d + 28) 53 0 [some (.inr 43), some (.inr 16)] [] (zS, σ) = some (.inl 0, (zS, σ1)) := t1
  have s110 : σ1 1 10 = σ 71 35 := by rw [t2 1 (by omega)]; exact hse.1
  have cls : zE (d + 29) 119 0 [some (.inr 4)] [] (zS, σ) = some (.inl (if (w_V σ).1 = -1 then -1 else w_mx (fun u => w_sumf (w_bf (w_V σ).2.2 (σ 94) (w_tp (σ 96) (σ 71 35)) (w_lv (w_V σ).2.2 (σ 94) u)) (σ 71 29).toNat 0) (σ 71 29).toNat 0 0), (zS, σ1)) := by
    rw [e_119_0, t1, Option.bind_some, e_119_14, e_20_0, e_60_0, Option.bind_some, e_20_4, t5.1]
    by_cases g : (w_V σ).1 = -1
    · rw [if_pos g, if_pos g, Option.bind_some, e_119_25]
    · have run : zE (d + 28) 20 14 [some (.inr 5), some (.inr 43), some (.inl 0), some (.inl 0)] [] (zS, σ1) = some (.inl (w_mx (fun u => w_sumf (w_bf (w_V σ).2.2 (σ 94) (w_tp (σ 96) (σ1 1 10)) (w_lv (w_V σ).2.2 (σ 94) u)) (σ 71 29).toNat 0) (σ 71 29).toNat 0 0), (zS, σ1)) := s_20l (d + 24) (σ 71 29).toNat (σ 94) _ (σ 96) _ _ _ (w_V σ).2.2 U.1 σ1 T1 t4.1 (by rw [t5.1]; exact g) (fun u hu => by
        have q := U.2 u hu
        have w := G g u hu
        exact ⟨q.1, q.2.1, q.2.2.2.2.1, q.2.2.2.2.2.1, (t5.2 g u hu).2, w.1, w.2⟩) (by omega) (by omega) (σ 71 29).toNat 0 0 (by omega)
      rw [if_neg g, if_neg g, run, Option.bind_some, e_119_25, s110]
  obtain ⟨σ2, r1, r2, r3, r4, r5⟩ := w_plan_m (d + 25) s L σ1 t3
  rw [w_V_eq t2, e71] at r5
  have r1 : zE (d + 28) 186 0 [some (.inr 75), none, none, none] [] (zS, σ1) = some (.inl 0, (zS, σ2)) := r1
  refine ⟨_, σ1, σ2, cls, ?_, r2, t2 1000 (by omega), t2 1001 (by omega)⟩
  rw [e_191_0, r1, Option.bind_some, e_191_4]
  rcases r5 with r5 | r5
  · rw [if_pos r5.1, if_pos r5.2]
  · have g := r5.2.2.1
    have f29 : σ2 71 29 = ((σ 71 29).toNat : Int) := by rw [r4 29 (by omega) (by omega) (by omega), e71, e2]
    have f35 : σ2 71 35 = σ 71 35 := by rw [r4 35 (by omega) (by omega) (by omega), e71]
    have f94 : σ2 94 = σ 94 := by rw [r3 94 (by omega) (by omega), e94]
    have f96 : σ2 96 = σ 96 := by rw [r3 96 (by omega) (by omega), e96]
    have run := s_191l (d + 28) (σ 71 29).toNat (w_V σ).2.2 U.1 σ2 f29 (fun u hu => by
        have q := U.2 u hu
        have w := G g u hu
        rw [f94, f96]
        exact ⟨q.1, q.2.1, q.2.2.2.2.1, q.2.2.2.2.2.1, (r5.2.2.2 u hu).2, w.1, w.2⟩) (by rw [f35]; omega) (by rw [f35]; omega) (σ 71 29).toNat 0 0 none none none none (by omega)
    rw [f94, f96, f35] at run
    rw [if_neg (by omega), if_neg g]
    exact run
