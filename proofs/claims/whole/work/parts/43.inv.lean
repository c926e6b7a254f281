/-- how many of the first n stand at a value -/
def z_cnt (f : Int → Int) (v : Int) : Nat → Int
  | 0 => 0
  | n + 1 => z_cnt f v n + (if f n = v then 1 else 0)
theorem z_cnt_rng (f : Int → Int) (v : Int) : ∀ n : Nat, 0 ≤ z_cnt f v n ∧ z_cnt f v n ≤ n
  | 0 => by unfold z_cnt; omega
  | n + 1 => by
    have h := z_cnt_rng f v n
    unfold z_cnt
    split <;> omega
theorem z_cnt_congr {f g : Int → Int} {v : Int} : ∀ {n : Nat}, (∀ i : Int, 0 ≤ i → i < n → f i = g i) → z_cnt f v n = z_cnt g v n
  | 0, _ => rfl
  | n + 1, h => by
    unfold z_cnt
    rw [z_cnt_congr (fun i h0 h1 => h i h0 (by omega)), h n (by omega) (by omega)]
/-- bit i of x -/
def z_b (x i : Int) : Int := z_and (z_shr x i) 1
def zBP (m : Int) (c : Int → Int) (n nz : Int) (na at' we : Int → Int) : Prop := m = n ∧ 0 ≤ n ∧ n ≤ 12 ∧ ∀ p, 0 ≤ p → p < n → c (4 * p) = na p ∧ c (4 * p + 1) = at' p ∧ c (4 * p + 3) = we p ∧ 0 ≤ na p ∧ na p ≤ 7 ∧ -1 ≤ at' p ∧ at' p < nz
def zBQ (c : Int → Int) (n : Int) (of : Int → Int) (k : Int) : Prop := ∀ p, 0 ≤ p → p < n → c (4 * p + 2) = z_cnt of p k.toNat
def zBZ (m : Int) (c : Int → Int) (n : Int) (at' : Int → Int) (np : Int) (ho ca wo : Int → Int) : Prop := m = n ∧ 0 ≤ n ∧ n ≤ 6 ∧ ∀ z, 0 ≤ z → z < n → c (4 * z) = ho z ∧ c (4 * z + 1) = z_cnt at' z np.toNat ∧ c (4 * z + 2) = ca z ∧ c (4 * z + 3) = wo z ∧ 0 ≤ ho z ∧ ho z ≤ 99
def zBD (m : Int) (c : Int → Int) (n nz : Int) (fr to : Int → Int) : Prop := m = n ∧ 0 ≤ n ∧ n ≤ 12 ∧ ∀ d, 0 ≤ d → d < n → c (2 * d) = fr d ∧ c (2 * d + 1) = to d ∧ -1 ≤ fr d ∧ fr d < nz ∧ -1 ≤ to d ∧ to d < nz ∧ fr d ≠ to d
def zBS (m : Int) (c : Int → Int) (n np : Int) (of ki fi la nu lf lt : Int → Int) : Prop := m = n ∧ 0 ≤ n ∧ n ≤ 20 ∧ ∀ p, 0 ≤ p → p < n → c (7 * p) = of p ∧ c (7 * p + 1) = ki p ∧ c (7 * p + 2) = fi p ∧ c (7 * p + 3) = la p ∧ c (7 * p + 4) = nu p ∧ c (7 * p + 5) = lf p ∧ c (7 * p + 6) = lt p ∧ 0 ≤ of p ∧ of p < np ∧ 0 ≤ ki p ∧ ki p ≤ 5 ∧ 0 ≤ fi p ∧ fi p ≤ la p ∧ la p ≤ 19 ∧ 0 ≤ nu p ∧ nu p ≤ 11 ∧ (ki p = 2 → nu p < np) ∧ -1 ≤ lf p
def zBR (m : Int) (c : Int → Int) (n : Int) (le ki zo da mi si en : Int → Int) : Prop := m = n ∧ 0 ≤ n ∧ n ≤ 12 ∧ ∀ r, 0 ≤ r → r < n → c (9 * r) = le r ∧ c (9 * r + 1) = ki r ∧ c (9 * r + 2) = zo r ∧ c (9 * r + 3) = da (2 * r) ∧ c (9 * r + 4) = da (2 * r + 1) ∧ c (9 * r + 5) = mi (2 * r) ∧ c (9 * r + 6) = mi (2 * r + 1) ∧ c (9 * r + 7) = si r ∧ c (9 * r + 8) = en r ∧ (le r = 0 ∨ le r = 1) ∧ 0 ≤ ki r ∧ ki r ≤ 5 ∧ -1 ≤ en r
def zBU (m : Int) (c : Int → Int) (n : Int) (ha le wh be li : Int → Int) : Prop := m = n ∧ 0 ≤ n ∧ n ≤ 6 ∧ ∀ u, 0 ≤ u → u < n → c (6 * u) = ha u ∧ c (6 * u + 1) = le u ∧ c (6 * u + 2) = wh u ∧ c (6 * u + 3) = (if be u = -1 then -1 else be u % 10) ∧ c (6 * u + 4) = (if be u = -1 then 0 else be u / 10) ∧ c (6 * u + 5) = li u ∧ 0 ≤ ha u ∧ ha u ≤ 3 ∧ 1 ≤ le u ∧ le u ≤ 240 ∧ 0 ≤ wh u ∧ wh u < 4096 ∧ (be u = -1 ∨ 0 ≤ be u ∧ be u % 10 < u ∧ be u / 10 ≤ 200) ∧ (li u = 0 ∨ li u = 1)
def zBO (m : Int) (c : Int → Int) (n : Int) (be : Int → Int) : Prop := m = n ∧ 0 ≤ n ∧ n ≤ 4 ∧ ∀ r, 0 ≤ r → r < n → c r = be r ∧ 1 ≤ be r ∧ be r ≤ 9
def zBG (m : Int) (c : Int → Int) (n : Int) (na ma fi la : Int → Int) : Prop := m = n ∧ 0 ≤ n ∧ n ≤ 6 ∧ ∀ g, 0 ≤ g → g < n → c (4 * g) = na g ∧ c (4 * g + 1) = ma g ∧ c (4 * g + 2) = fi g ∧ c (4 * g + 3) = la g ∧ 1 ≤ ma g ∧ ma g ≤ 9 ∧ 0 ≤ fi g ∧ fi g ≤ la g ∧ la g ≤ 19
def zBT (m : Int) (c : Int → Int) (n np : Int) (rs ro st : Int → Int) : Prop := m = n ∧ 0 ≤ n ∧ n ≤ 10 ∧ ∀ r, 0 ≤ r → r < n → 0 ≤ rs r ∧ rs r ≤ 5 ∧ 0 ≤ c (6 * r + 5) ∧ c (6 * r + 5) < 4096 ∧ 0 ≤ st r ∧ st r < 32 ∧ (∀ i, rs r ≤ i → i < 5 → c (6 * r + i) = -1) ∧ (∀ i, 0 ≤ i → i < rs r → c (6 * r + i) = ro (5 * r + i) ∧ 0 ≤ ro (5 * r + i) ∧ ro (5 * r + i) < np ∧ z_b (c (6 * r + 5)) (ro (5 * r + i)) = z_b (st r) i ∧ ∀ j, 0 ≤ j → j < i → ro (5 * r + j) ≠ ro (5 * r + i))
def zBX (so mn : Int) (c ss sz mc : Int → Int) (s : Int) : Prop := so = ss s ∧ mn = sz s ∧ -1 ≤ so ∧ so ≤ 2 ∧ 0 ≤ mn ∧ mn ≤ 40 ∧ ∀ i, 0 ≤ i → i < 40 → c i = mc (40 * s + i) ∧ -2000 ≤ c i ∧ c i ≤ 2000
def zBA (m : Int) (c : Int → Int) (n : Int) (tr : Int → Int) : Prop := m = n ∧ 0 ≤ n ∧ n ≤ 50 ∧ ∀ i, 0 ≤ i → i < n → c i = tr i
def zKL (a0 b0 a1 b1 a2 b2 a3 b3 a4 b4 a5 b5 a6 b6 a7 b7 a8 b8 : Int) : Prop := a0 ≤ b0 ∧ a1 ≤ b1 ∧ a2 ≤ b2 ∧ a3 ≤ b3 ∧ a4 ≤ b4 ∧ a5 ≤ b5 ∧ a6 ≤ b6 ∧ a7 ≤ b7 ∧ a8 ≤ b8
noncomputable def w_sel {α : Type} (p : Prop) (a b : α) : α := @ite α p (Classical.propDecidable p) a b
theorem w_sel_pos {α : Type} {p : Prop} {a b : α} (h : p) : w_sel p a b = a := by
  unfold w_sel
  exact if_pos h
theorem w_sel_neg {α : Type} {p : Prop} {a b : α} (h : ¬ p) : w_sel p a b = b := by
  unfold w_sel
  exact if_neg h
def w_set (r : Int → Int) (g x : Int) : Int → Int := fun i => if i = g then x else r i
def w_fold {α : Type} (f : Int → α → α) : Nat → Int → α → α
  | 0, _, s => s
  | m + 1, x, s => w_fold f m (x + 1) (f x s)
/-- how many of the groups below number k are in room x on day d -/
def w_use (r ma fi la : Int → Int) (x d : Int) : Nat → Int
  | 0 => 0
  | k + 1 => w_use r ma fi la x d k + (if r k = x ∧ fi k ≤ d ∧ d ≤ la k then ma k else 0)
def w_stay (bd na ma fi la r : Int → Int) (g : Nat) (x : Int) : Prop := ∀ d : Int, fi g ≤ d → d ≤ la g → ma g + w_use r ma fi la x d g ≤ bd x ∧ ∀ k : Nat, k < g → r k = x → fi k ≤ d → d ≤ la k → na k = na g
def w_wt (ma fi la : Int → Int) (g : Int) : Int := ma g * (la g - fi g + 1)
/-- the first one of the best of all roomings that go on with r from group g on, k groups long; st: the best before -/
noncomputable def w_lo (nr : Int) (bd na ma fi la : Int → Int) : Nat → Nat → (Int → Int) → Int → Int × (Int → Int) → Int × (Int → Int)
  | 0, _, r, sum, st => if st.1 < sum then (sum, fun i => if r i < nr then r i else -1) else st
  | k + 1, g, r, sum, st => w_lo nr bd na ma fi la k (g + 1) (w_set r g nr) sum (w_fold (fun x s => w_sel (w_stay bd na ma fi la r g x) (w_lo nr bd na ma fi la k (g + 1) (w_set r g x) (sum + w_wt ma fi la g) s) s) nr.toNat 0 st)
/-- what lies between two units: minutes, or nothing -/
def w_rest (ha wh : Int → Int) (u v : Int) : Int := if z_and (wh u) (wh v) = 0 then (if ha u = ha v then 0 else -10000) else 30
def w_clash (ha le wh b : Int → Int) (u t v : Int) : Prop := t < b v + le v + w_rest ha wh u v ∧ b v < t + le u + w_rest ha wh u v
/-- unit u can begin at t beside the first p of the order -/
def w_free (ha le wh o b : Int → Int) (p : Nat) (u t : Int) : Prop := ∀ k : Nat, k < p → ¬ w_clash ha le wh b u t (o k)
noncomputable def w_scan (ha le wh o b : Int → Int) (p : Nat) (u : Int) : Nat → Int → Int
  | 0, _ => -1
  | m + 1, t => w_sel (w_free ha le wh o b p u t) t (w_scan ha le wh o b p u m (t + 1))
def w_from (le be b : Int → Int) (u : Int) : Int := if be u = -1 then 360 else if 360 < b (be u % 10) + le (be u % 10) + be u / 10 then b (be u % 10) + le (be u % 10) + be u / 10 else 360
def w_has (o : Int → Int) (p : Nat) (v : Int) : Prop := ∃ k : Nat, k < p ∧ o k = v
def w_lim (li : Int → Int) (u : Int) : Int := if li u = 0 then 1440 else 1200
/-- when unit u begins behind the first p of the order; -1: it can't -/
noncomputable def w_beg (ha le wh be li o b : Int → Int) (p : Nat) (u : Int) : Int := w_sel (be u ≠ -1 ∧ ¬ w_has o p (be u % 10)) (-1) (w_scan ha le wh o b p u (w_lim li u - le u + 1 - w_from le be b u).toNat (w_from le be b u))
/-- the first one of the best of all plans that go on with the first p of the order, k units more -/
noncomputable def w_pl (n : Nat) (ha le wh be li : Int → Int) : Nat → Nat → (Int → Int) → (Int → Int) → Int → Int × (Int → Int) × (Int → Int) → Int × (Int → Int) × (Int → Int)
  | 0, _, o, b, e, st => if st.1 = -1 ∨ e < st.1 then (e, o, b) else st
  | k + 1, p, o, b, e, st => w_fold (fun u s => w_sel (w_has o p u) s (if w_beg ha le wh be li o b p u = -1 then s else w_pl n ha le wh be li k (p + 1) (w_set o p u) (w_set b u (w_beg ha le wh be li o b p u)) (if e < w_beg ha le wh be li o b p u + le u then w_beg ha le wh be li o b p u + le u else e) s)) n 0 st
def zPlan (n : Int) (ha le wh be li : Int → Int) (e : Int) (o b : Int → Int) : Prop := e = (w_pl n.toNat ha le wh be li n.toNat 0 (fun _ => 0) (fun _ => 0) 0 (-1, fun _ => 0, fun _ => 0)).1 ∧ (e ≠ -1 → ∀ i : Nat, i < n.toNat → o i = (w_pl n.toNat ha le wh be li n.toNat 0 (fun _ => 0) (fun _ => 0) 0 (-1, fun _ => 0, fun _ => 0)).2.1 i ∧ b i = (w_pl n.toNat ha le wh be li n.toNat 0 (fun _ => 0) (fun _ => 0) 0 (-1, fun _ => 0, fun _ => 0)).2.2 i)
def zLodge (nr n : Int) (bd na ma fi la : Int → Int) (e : Int) (b : Int → Int) : Prop := e = (w_lo nr bd na ma fi la n.toNat 0 (fun _ => 0) 0 (-1, fun _ => 0)).1 ∧ ∀ i : Nat, i < n.toNat → b i = (w_lo nr bd na ma fi la n.toNat 0 (fun _ => 0) 0 (-1, fun _ => 0)).2 i
def z_gap (ha wh : Int → Int) (u v : Int) : Int := if z_and (wh u) (wh v) = 0 then (if ha u = ha v then 0 else -1) else 30
def zPC (fresh many be : Int) (ln ls bh rs gp bo bb : Int → Int) (n : Int) (ha le wh bd li : Int → Int) : Prop := (fresh = 0 ∨ fresh = 1) ∧ (fresh = 1 → many = n ∧ (∀ u, 0 ≤ u → u < n → ln u = le u ∧ ls u = (if li u = 1 then 1200 else 1440) - le u ∧ bh u = (if bd u = -1 then -1 else bd u % 10) ∧ rs u = (if bd u = -1 then 0 else bd u / 10) ∧ ∀ v, 0 ≤ v → v < n → gp (6 * u + v) = z_gap ha wh u v) ∧ zPlan n ha le wh bd li be bo bb)
def zPM (fresh has be : Int) (bo bb : Int → Int) (n : Int) (ha le wh bd li : Int → Int) : Prop := (fresh = 0 ∨ fresh = 1) ∧ (has = 0 ∨ has = 1) ∧ (fresh = 1 → zPlan n ha le wh bd li (if has = 1 then be else -1) bo bb ∧ (has = 1 → be ≠ -1))
def zLC (fresh many : Int) (us : Int → Int) (best : Int) (br : Int → Int) (nr n : Int) (bd na ma fi la : Int → Int) : Prop := (∀ i, 0 ≤ i → i < 80 → us i = 0) ∧ (fresh = 0 ∨ fresh = 1) ∧ (fresh = 1 → many = n ∧ zLodge nr n bd na ma fi la best br)
def zLM (fresh best : Int) (br : Int → Int) (nr n : Int) (bd na ma fi la : Int → Int) : Prop := (fresh = 0 ∨ fresh = 1) ∧ (fresh = 1 → zLodge nr n bd na ma fi la best br)
/-- what holds between the office and the reference before and behind every call -/
def zV (s : Int → Int) (L : Int) (σ : Nat → Int → Int) : Prop := (σ 1000 = s ∧ σ 1001 0 = L) ∧ (σ 0 8 = σ 71 0) ∧ (σ 1 9 = σ 71 1 ∧ 0 ≤ σ 71 1 ∧ σ 71 1 ≤ 28799) ∧ (σ 1 10 = σ 71 35 ∧ 1 ≤ σ 71 35 ∧ σ 71 35 ≤ 12) ∧ (σ 0 6 = σ 71 58 ∧ (σ 71 58 = 0 ∨ σ 71 58 = 1)) ∧ (σ 0 7 = σ 71 59 ∧ 0 ≤ σ 71 59 ∧ σ 71 59 ≤ 10) ∧ (σ 2 0 = 4 ∧ σ 2 1 = 12) ∧ (σ 4 0 = 4 ∧ σ 4 1 = 6) ∧ (σ 6 0 = 2 ∧ σ 6 1 = 12) ∧ (σ 8 0 = 7 ∧ σ 8 1 = 20) ∧ (σ 10 0 = 9 ∧ σ 10 1 = 12) ∧ (σ 12 0 = 6 ∧ σ 12 1 = 6) ∧ (σ 14 0 = 1 ∧ σ 14 1 = 4) ∧ (σ 16 0 = 4 ∧ σ 16 1 = 6) ∧ (σ 18 0 = 6 ∧ σ 18 1 = 10) ∧ (zBP (σ 2 3) (σ 3) (σ 71 2) (σ 71 6) (σ 72) (σ 73) (σ 74)) ∧ (zBQ (σ 3) (σ 71 2) (σ 80) (σ 71 13)) ∧ (zBZ (σ 4 3) (σ 5) (σ 71 6) (σ 73) (σ 71 2) (σ 75) (σ 76) (σ 77)) ∧ (zBD (σ 6 3) (σ 7) (σ 71 10) (σ 71 6) (σ 78) (σ 79)) ∧ (zBS (σ 8 3) (σ 9) (σ 71 13) (σ 71 2) (σ 80) (σ 81) (σ 82) (σ 83) (σ 84) (σ 85) (σ 86)) ∧ (zBR (σ 10 3) (σ 11) (σ 71 21) (σ 87) (σ 88) (σ 89) (σ 90) (σ 91) (σ 92) (σ 93)) ∧ (zBU (σ 12 3) (σ 13) (σ 71 29) (σ 94) (σ 95) (σ 96) (σ 97) (σ 98)) ∧ (zBO (σ 14 3) (σ 15) (σ 71 36) (σ 99)) ∧ (zBG (σ 16 3) (σ 17) (σ 71 38) (σ 100) (σ 101) (σ 102) (σ 103)) ∧ (zBT (σ 18 3) (σ 19) (σ 71 43) (σ 71 2) (σ 104) (σ 105) (σ 106)) ∧ (σ 71 58 = 1 → zKL (σ 113 0) (σ 71 2) (σ 113 1) (σ 71 6) (σ 113 2) (σ 71 10) (σ 113 3) (σ 71 13) (σ 113 4) (σ 71 21) (σ 113 6) (σ 71 29) (σ 113 7) (σ 71 36) (σ 113 8) (σ 71 38) (σ 113 9) (σ 71 43)) ∧ (σ 71 58 = 1 → σ 20 9 = σ 113 5 ∧ 0 ≤ σ 113 5 ∧ σ 113 5 ≤ 28799) ∧ (σ 71 58 = 1 → σ 20 10 = σ 113 10 ∧ 1 ≤ σ 113 10 ∧ σ 113 10 ≤ 12) ∧ (σ 71 58 = 1 → zBP (σ 21 3) (σ 22) (σ 113 0) (σ 113 1) (σ 72) (σ 114) (fun p => σ 114 (12 + p))) ∧ (σ 71 58 = 1 → zBQ (σ 22) (σ 113 0) (σ 80) (σ 113 3)) ∧ (σ 71 58 = 1 → zBZ (σ 23 3) (σ 24) (σ 113 1) (σ 114) (σ 113 0) (σ 75) (σ 115) (fun z => σ 115 (6 + z))) ∧ (σ 71 58 = 1 → zBD (σ 25 3) (σ 26) (σ 113 2) (σ 113 1) (σ 78) (σ 79)) ∧ (σ 71 58 = 1 → zBS (σ 27 3) (σ 28) (σ 113 3) (σ 113 0) (σ 80) (σ 81) (σ 82) (σ 83) (σ 84) (σ 116) (fun p => σ 116 (20 + p))) ∧ (σ 71 58 = 1 → zBR (σ 29 3) (σ 30) (σ 113 4) (σ 87) (σ 88) (σ 89) (σ 90) (σ 91) (σ 92) (σ 117)) ∧ (σ 71 58 = 1 → zBU (σ 31 3) (σ 32) (σ 113 6) (σ 94) (σ 95) (σ 96) (σ 97) (σ 98)) ∧ (σ 71 58 = 1 → zBO (σ 33 3) (σ 34) (σ 113 7) (σ 99)) ∧ (σ 71 58 = 1 → zBG (σ 35 3) (σ 36) (σ 113 8) (σ 100) (σ 101) (σ 102) (σ 103)) ∧ (σ 71 58 = 1 → zBT (σ 37 3) (σ 38) (σ 113 9) (σ 113 0) (σ 104) (σ 105) (σ 118)) ∧ (zBA (σ 60 1) (σ 61) (σ 71 67) (σ 119)) ∧ (zBX (σ 63 1) (σ 63 2) (σ 64) (σ 120) (σ 121) (σ 122) 0) ∧ (zBX (σ 65 1) (σ 65 2) (σ 66) (σ 120) (σ 121) (σ 122) 1) ∧ (zBX (σ 67 1) (σ 67 2) (σ 68) (σ 120) (σ 121) (σ 122) 2) ∧ (zBX (σ 69 1) (σ 69 2) (σ 70) (σ 120) (σ 121) (σ 122) 3) ∧ (zPC (σ 39 11) (σ 39 9) (σ 39 10) (σ 40) (σ 41) (σ 42) (σ 43) (σ 44) (σ 47) (σ 48) (σ 71 29) (σ 94) (σ 95) (σ 96) (σ 97) (σ 98)) ∧ (zPM (σ 71 47) (σ 71 53) (σ 71 54) (σ 109) (σ 110) (σ 71 29) (σ 94) (σ 95) (σ 96) (σ 97) (σ 98)) ∧ (zLC (σ 49 13) (σ 49 10) (σ 55) (σ 49 12) (σ 59) (σ 71 36) (σ 71 38) (σ 99) (σ 100) (σ 101) (σ 102) (σ 103)) ∧ (zLM (σ 71 48) (σ 71 57) (σ 112) (σ 71 36) (σ 71 38) (σ 99) (σ 100) (σ 101) (σ 102) (σ 103))
theorem zV_sc {s : Int → Int} {L : Int} {σ : Nat → Int → Int} (h : zV s L σ) : σ 1000 = s ∧ σ 1001 0 = L := by
  obtain ⟨v_sc, v_st, v_mo, v_se, v_ik, v_ba, v_wP, v_wZ, v_wD, v_wS, v_wR, v_wU, v_wO, v_wG, v_wT, v_P, v_Q, v_Z, v_D, v_S, v_R, v_U, v_O, v_G, v_T, v_kl, v_kmo, v_kse, v_kP, v_kQ, v_kZ, v_kD, v_kS, v_kR, v_kU, v_kO, v_kG, v_kT, v_A, v_X0, v_X1, v_X2, v_X3, v_pc, v_pm, v_lc, v_lm⟩ := h
  exact v_sc
theorem zV_st {s : Int → Int} {L : Int} {σ : Nat → Int → Int} (h : zV s L σ) : σ 0 8 = σ 71 0 := by
  obtain ⟨v_sc, v_st, v_mo, v_se, v_ik, v_ba, v_wP, v_wZ, v_wD, v_wS, v_wR, v_wU, v_wO, v_wG, v_wT, v_P, v_Q, v_Z, v_D, v_S, v_R, v_U, v_O, v_G, v_T, v_kl, v_kmo, v_kse, v_kP, v_kQ, v_kZ, v_kD, v_kS, v_kR, v_kU, v_kO, v_kG, v_kT, v_A, v_X0, v_X1, v_X2, v_X3, v_pc, v_pm, v_lc, v_lm⟩ := h
  exact v_st
theorem zV_mo {s : Int → Int} {L : Int} {σ : Nat → Int → Int} (h : zV s L σ) : σ 1 9 = σ 71 1 ∧ 0 ≤ σ 71 1 ∧ σ 71 1 ≤ 28799 := by
  obtain ⟨v_sc, v_st, v_mo, v_se, v_ik, v_ba, v_wP, v_wZ, v_wD, v_wS, v_wR, v_wU, v_wO, v_wG, v_wT, v_P, v_Q, v_Z, v_D, v_S, v_R, v_U, v_O, v_G, v_T, v_kl, v_kmo, v_kse, v_kP, v_kQ, v_kZ, v_kD, v_kS, v_kR, v_kU, v_kO, v_kG, v_kT, v_A, v_X0, v_X1, v_X2, v_X3, v_pc, v_pm, v_lc, v_lm⟩ := h
  exact v_mo
theorem zV_se {s : Int → Int} {L : Int} {σ : Nat → Int → Int} (h : zV s L σ) : σ 1 10 = σ 71 35 ∧ 1 ≤ σ 71 35 ∧ σ 71 35 ≤ 12 := by
  obtain ⟨v_sc, v_st, v_mo, v_se, v_ik, v_ba, v_wP, v_wZ, v_wD, v_wS, v_wR, v_wU, v_wO, v_wG, v_wT, v_P, v_Q, v_Z, v_D, v_S, v_R, v_U, v_O, v_G, v_T, v_kl, v_kmo, v_kse, v_kP, v_kQ, v_kZ, v_kD, v_kS, v_kR, v_kU, v_kO, v_kG, v_kT, v_A, v_X0, v_X1, v_X2, v_X3, v_pc, v_pm, v_lc, v_lm⟩ := h
  exact v_se
theorem zV_ik {s : Int → Int} {L : Int} {σ : Nat → Int → Int} (h : zV s L σ) : σ 0 6 = σ 71 58 ∧ (σ 71 58 = 0 ∨ σ 71 58 = 1) := by
  obtain ⟨v_sc, v_st, v_mo, v_se, v_ik, v_ba, v_wP, v_wZ, v_wD, v_wS, v_wR, v_wU, v_wO, v_wG, v_wT, v_P, v_Q, v_Z, v_D, v_S, v_R, v_U, v_O, v_G, v_T, v_kl, v_kmo, v_kse, v_kP, v_kQ, v_kZ, v_kD, v_kS, v_kR, v_kU, v_kO, v_kG, v_kT, v_A, v_X0, v_X1, v_X2, v_X3, v_pc, v_pm, v_lc, v_lm⟩ := h
  exact v_ik
theorem zV_ba {s : Int → Int} {L : Int} {σ : Nat → Int → Int} (h : zV s L σ) : σ 0 7 = σ 71 59 ∧ 0 ≤ σ 71 59 ∧ σ 71 59 ≤ 10 := by
  obtain ⟨v_sc, v_st, v_mo, v_se, v_ik, v_ba, v_wP, v_wZ, v_wD, v_wS, v_wR, v_wU, v_wO, v_wG, v_wT, v_P, v_Q, v_Z, v_D, v_S, v_R, v_U, v_O, v_G, v_T, v_kl, v_kmo, v_kse, v_kP, v_kQ, v_kZ, v_kD, v_kS, v_kR, v_kU, v_kO, v_kG, v_kT, v_A, v_X0, v_X1, v_X2, v_X3, v_pc, v_pm, v_lc, v_lm⟩ := h
  exact v_ba
theorem zV_wP {s : Int → Int} {L : Int} {σ : Nat → Int → Int} (h : zV s L σ) : σ 2 0 = 4 ∧ σ 2 1 = 12 := by
  obtain ⟨v_sc, v_st, v_mo, v_se, v_ik, v_ba, v_wP, v_wZ, v_wD, v_wS, v_wR, v_wU, v_wO, v_wG, v_wT, v_P, v_Q, v_Z, v_D, v_S, v_R, v_U, v_O, v_G, v_T, v_kl, v_kmo, v_kse, v_kP, v_kQ, v_kZ, v_kD, v_kS, v_kR, v_kU, v_kO, v_kG, v_kT, v_A, v_X0, v_X1, v_X2, v_X3, v_pc, v_pm, v_lc, v_lm⟩ := h
  exact v_wP
theorem zV_wZ {s : Int → Int} {L : Int} {σ : Nat → Int → Int} (h : zV s L σ) : σ 4 0 = 4 ∧ σ 4 1 = 6 := by
  obtain ⟨v_sc, v_st, v_mo, v_se, v_ik, v_ba, v_wP, v_wZ, v_wD, v_wS, v_wR, v_wU, v_wO, v_wG, v_wT, v_P, v_Q, v_Z, v_D, v_S, v_R, v_U, v_O, v_G, v_T, v_kl, v_kmo, v_kse, v_kP, v_kQ, v_kZ, v_kD, v_kS, v_kR, v_kU, v_kO, v_kG, v_kT, v_A, v_X0, v_X1, v_X2, v_X3, v_pc, v_pm, v_lc, v_lm⟩ := h
  exact v_wZ
theorem zV_wD {s : Int → Int} {L : Int} {σ : Nat → Int → Int} (h : zV s L σ) : σ 6 0 = 2 ∧ σ 6 1 = 12 := by
  obtain ⟨v_sc, v_st, v_mo, v_se, v_ik, v_ba, v_wP, v_wZ, v_wD, v_wS, v_wR, v_wU, v_wO, v_wG, v_wT, v_P, v_Q, v_Z, v_D, v_S, v_R, v_U, v_O, v_G, v_T, v_kl, v_kmo, v_kse, v_kP, v_kQ, v_kZ, v_kD, v_kS, v_kR, v_kU, v_kO, v_kG, v_kT, v_A, v_X0, v_X1, v_X2, v_X3, v_pc, v_pm, v_lc, v_lm⟩ := h
  exact v_wD
theorem zV_wS {s : Int → Int} {L : Int} {σ : Nat → Int → Int} (h : zV s L σ) : σ 8 0 = 7 ∧ σ 8 1 = 20 := by
  obtain ⟨v_sc, v_st, v_mo, v_se, v_ik, v_ba, v_wP, v_wZ, v_wD, v_wS, v_wR, v_wU, v_wO, v_wG, v_wT, v_P, v_Q, v_Z, v_D, v_S, v_R, v_U, v_O, v_G, v_T, v_kl, v_kmo, v_kse, v_kP, v_kQ, v_kZ, v_kD, v_kS, v_kR, v_kU, v_kO, v_kG, v_kT, v_A, v_X0, v_X1, v_X2, v_X3, v_pc, v_pm, v_lc, v_lm⟩ := h
  exact v_wS
theorem zV_wR {s : Int → Int} {L : Int} {σ : Nat → Int → Int} (h : zV s L σ) : σ 10 0 = 9 ∧ σ 10 1 = 12 := by
  obtain ⟨v_sc, v_st, v_mo, v_se, v_ik, v_ba, v_wP, v_wZ, v_wD, v_wS, v_wR, v_wU, v_wO, v_wG, v_wT, v_P, v_Q, v_Z, v_D, v_S, v_R, v_U, v_O, v_G, v_T, v_kl, v_kmo, v_kse, v_kP, v_kQ, v_kZ, v_kD, v_kS, v_kR, v_kU, v_kO, v_kG, v_kT, v_A, v_X0, v_X1, v_X2, v_X3, v_pc, v_pm, v_lc, v_lm⟩ := h
  exact v_wR
theorem zV_wU {s : Int → Int} {L : Int} {σ : Nat → Int → Int} (h : zV s L σ) : σ 12 0 = 6 ∧ σ 12 1 = 6 := by
  obtain ⟨v_sc, v_st, v_mo, v_se, v_ik, v_ba, v_wP, v_wZ, v_wD, v_wS, v_wR, v_wU, v_wO, v_wG, v_wT, v_P, v_Q, v_Z, v_D, v_S, v_R, v_U, v_O, v_G, v_T, v_kl, v_kmo, v_kse, v_kP, v_kQ, v_kZ, v_kD, v_kS, v_kR, v_kU, v_kO, v_kG, v_kT, v_A, v_X0, v_X1, v_X2, v_X3, v_pc, v_pm, v_lc, v_lm⟩ := h
  exact v_wU
theorem zV_wO {s : Int → Int} {L : Int} {σ : Nat → Int → Int} (h : zV s L σ) : σ 14 0 = 1 ∧ σ 14 1 = 4 := by
  obtain ⟨v_sc, v_st, v_mo, v_se, v_ik, v_ba, v_wP, v_wZ, v_wD, v_wS, v_wR, v_wU, v_wO, v_wG, v_wT, v_P, v_Q, v_Z, v_D, v_S, v_R, v_U, v_O, v_G, v_T, v_kl, v_kmo, v_kse, v_kP, v_kQ, v_kZ, v_kD, v_kS, v_kR, v_kU, v_kO, v_kG, v_kT, v_A, v_X0, v_X1, v_X2, v_X3, v_pc, v_pm, v_lc, v_lm⟩ := h
  exact v_wO
theorem zV_wG {s : Int → Int} {L : Int} {σ : Nat → Int → Int} (h : zV s L σ) : σ 16 0 = 4 ∧ σ 16 1 = 6 := by
  obtain ⟨v_sc, v_st, v_mo, v_se, v_ik, v_ba, v_wP, v_wZ, v_wD, v_wS, v_wR, v_wU, v_wO, v_wG, v_wT, v_P, v_Q, v_Z, v_D, v_S, v_R, v_U, v_O, v_G, v_T, v_kl, v_kmo, v_kse, v_kP, v_kQ, v_kZ, v_kD, v_kS, v_kR, v_kU, v_kO, v_kG, v_kT, v_A, v_X0, v_X1, v_X2, v_X3, v_pc, v_pm, v_lc, v_lm⟩ := h
  exact v_wG
theorem zV_wT {s : Int → Int} {L : Int} {σ : Nat → Int → Int} (h : zV s L σ) : σ 18 0 = 6 ∧ σ 18 1 = 10 := by
  obtain ⟨v_sc, v_st, v_mo, v_se, v_ik, v_ba, v_wP, v_wZ, v_wD, v_wS, v_wR, v_wU, v_wO, v_wG, v_wT, v_P, v_Q, v_Z, v_D, v_S, v_R, v_U, v_O, v_G, v_T, v_kl, v_kmo, v_kse, v_kP, v_kQ, v_kZ, v_kD, v_kS, v_kR, v_kU, v_kO, v_kG, v_kT, v_A, v_X0, v_X1, v_X2, v_X3, v_pc, v_pm, v_lc, v_lm⟩ := h
  exact v_wT
theorem zV_P {s : Int → Int} {L : Int} {σ : Nat → Int → Int} (h : zV s L σ) : zBP (σ 2 3) (σ 3) (σ 71 2) (σ 71 6) (σ 72) (σ 73) (σ 74) := by
  obtain ⟨v_sc, v_st, v_mo, v_se, v_ik, v_ba, v_wP, v_wZ, v_wD, v_wS, v_wR, v_wU, v_wO, v_wG, v_wT, v_P, v_Q, v_Z, v_D, v_S, v_R, v_U, v_O, v_G, v_T, v_kl, v_kmo, v_kse, v_kP, v_kQ, v_kZ, v_kD, v_kS, v_kR, v_kU, v_kO, v_kG, v_kT, v_A, v_X0, v_X1, v_X2, v_X3, v_pc, v_pm, v_lc, v_lm⟩ := h
  exact v_P
theorem zV_Q {s : Int → Int} {L : Int} {σ : Nat → Int → Int} (h : zV s L σ) : zBQ (σ 3) (σ 71 2) (σ 80) (σ 71 13) := by
  obtain ⟨v_sc, v_st, v_mo, v_se, v_ik, v_ba, v_wP, v_wZ, v_wD, v_wS, v_wR, v_wU, v_wO, v_wG, v_wT, v_P, v_Q, v_Z, v_D, v_S, v_R, v_U, v_O, v_G, v_T, v_kl, v_kmo, v_kse, v_kP, v_kQ, v_kZ, v_kD, v_kS, v_kR, v_kU, v_kO, v_kG, v_kT, v_A, v_X0, v_X1, v_X2, v_X3, v_pc, v_pm, v_lc, v_lm⟩ := h
  exact v_Q
theorem zV_Z {s : Int → Int} {L : Int} {σ : Nat → Int → Int} (h : zV s L σ) : zBZ (σ 4 3) (σ 5) (σ 71 6) (σ 73) (σ 71 2) (σ 75) (σ 76) (σ 77) := by
  obtain ⟨v_sc, v_st, v_mo, v_se, v_ik, v_ba, v_wP, v_wZ, v_wD, v_wS, v_wR, v_wU, v_wO, v_wG, v_wT, v_P, v_Q, v_Z, v_D, v_S, v_R, v_U, v_O, v_G, v_T, v_kl, v_kmo, v_kse, v_kP, v_kQ, v_kZ, v_kD, v_kS, v_kR, v_kU, v_kO, v_kG, v_kT, v_A, v_X0, v_X1, v_X2, v_X3, v_pc, v_pm, v_lc, v_lm⟩ := h
  exact v_Z
theorem zV_D {s : Int → Int} {L : Int} {σ : Nat → Int → Int} (h : zV s L σ) : zBD (σ 6 3) (σ 7) (σ 71 10) (σ 71 6) (σ 78) (σ 79) := by
  obtain ⟨v_sc, v_st, v_mo, v_se, v_ik, v_ba, v_wP, v_wZ, v_wD, v_wS, v_wR, v_wU, v_wO, v_wG, v_wT, v_P, v_Q, v_Z, v_D, v_S, v_R, v_U, v_O, v_G, v_T, v_kl, v_kmo, v_kse, v_kP, v_kQ, v_kZ, v_kD, v_kS, v_kR, v_kU, v_kO, v_kG, v_kT, v_A, v_X0, v_X1, v_X2, v_X3, v_pc, v_pm, v_lc, v_lm⟩ := h
  exact v_D
theorem zV_S {s : Int → Int} {L : Int} {σ : Nat → Int → Int} (h : zV s L σ) : zBS (σ 8 3) (σ 9) (σ 71 13) (σ 71 2) (σ 80) (σ 81) (σ 82) (σ 83) (σ 84) (σ 85) (σ 86) := by
  obtain ⟨v_sc, v_st, v_mo, v_se, v_ik, v_ba, v_wP, v_wZ, v_wD, v_wS, v_wR, v_wU, v_wO, v_wG, v_wT, v_P, v_Q, v_Z, v_D, v_S, v_R, v_U, v_O, v_G, v_T, v_kl, v_kmo, v_kse, v_kP, v_kQ, v_kZ, v_kD, v_kS, v_kR, v_kU, v_kO, v_kG, v_kT, v_A, v_X0, v_X1, v_X2, v_X3, v_pc, v_pm, v_lc, v_lm⟩ := h
  exact v_S
theorem zV_R {s : Int → Int} {L : Int} {σ : Nat → Int → Int} (h : zV s L σ) : zBR (σ 10 3) (σ 11) (σ 71 21) (σ 87) (σ 88) (σ 89) (σ 90) (σ 91) (σ 92) (σ 93) := by
  obtain ⟨v_sc, v_st, v_mo, v_se, v_ik, v_ba, v_wP, v_wZ, v_wD, v_wS, v_wR, v_wU, v_wO, v_wG, v_wT, v_P, v_Q, v_Z, v_D, v_S, v_R, v_U, v_O, v_G, v_T, v_kl, v_kmo, v_kse, v_kP, v_kQ, v_kZ, v_kD, v_kS, v_kR, v_kU, v_kO, v_kG, v_kT, v_A, v_X0, v_X1, v_X2, v_X3, v_pc, v_pm, v_lc, v_lm⟩ := h
  exact v_R
theorem zV_U {s : Int → Int} {L : Int} {σ : Nat → Int → Int} (h : zV s L σ) : zBU (σ 12 3) (σ 13) (σ 71 29) (σ 94) (σ 95) (σ 96) (σ 97) (σ 98) := by
  obtain ⟨v_sc, v_st, v_mo, v_se, v_ik, v_ba, v_wP, v_wZ, v_wD, v_wS, v_wR, v_wU, v_wO, v_wG, v_wT, v_P, v_Q, v_Z, v_D, v_S, v_R, v_U, v_O, v_G, v_T, v_kl, v_kmo, v_kse, v_kP, v_kQ, v_kZ, v_kD, v_kS, v_kR, v_kU, v_kO, v_kG, v_kT, v_A, v_X0, v_X1, v_X2, v_X3, v_pc, v_pm, v_lc, v_lm⟩ := h
  exact v_U
theorem zV_O {s : Int → Int} {L : Int} {σ : Nat → Int → Int} (h : zV s L σ) : zBO (σ 14 3) (σ 15) (σ 71 36) (σ 99) := by
  obtain ⟨v_sc, v_st, v_mo, v_se, v_ik, v_ba, v_wP, v_wZ, v_wD, v_wS, v_wR, v_wU, v_wO, v_wG, v_wT, v_P, v_Q, v_Z, v_D, v_S, v_R, v_U, v_O, v_G, v_T, v_kl, v_kmo, v_kse, v_kP, v_kQ, v_kZ, v_kD, v_kS, v_kR, v_kU, v_kO, v_kG, v_kT, v_A, v_X0, v_X1, v_X2, v_X3, v_pc, v_pm, v_lc, v_lm⟩ := h
  exact v_O
theorem zV_G {s : Int → Int} {L : Int} {σ : Nat → Int → Int} (h : zV s L σ) : zBG (σ 16 3) (σ 17) (σ 71 38) (σ 100) (σ 101) (σ 102) (σ 103) := by
  obtain ⟨v_sc, v_st, v_mo, v_se, v_ik, v_ba, v_wP, v_wZ, v_wD, v_wS, v_wR, v_wU, v_wO, v_wG, v_wT, v_P, v_Q, v_Z, v_D, v_S, v_R, v_U, v_O, v_G, v_T, v_kl, v_kmo, v_kse, v_kP, v_kQ, v_kZ, v_kD, v_kS, v_kR, v_kU, v_kO, v_kG, v_kT, v_A, v_X0, v_X1, v_X2, v_X3, v_pc, v_pm, v_lc, v_lm⟩ := h
  exact v_G
theorem zV_T {s : Int → Int} {L : Int} {σ : Nat → Int → Int} (h : zV s L σ) : zBT (σ 18 3) (σ 19) (σ 71 43) (σ 71 2) (σ 104) (σ 105) (σ 106) := by
  obtain ⟨v_sc, v_st, v_mo, v_se, v_ik, v_ba, v_wP, v_wZ, v_wD, v_wS, v_wR, v_wU, v_wO, v_wG, v_wT, v_P, v_Q, v_Z, v_D, v_S, v_R, v_U, v_O, v_G, v_T, v_kl, v_kmo, v_kse, v_kP, v_kQ, v_kZ, v_kD, v_kS, v_kR, v_kU, v_kO, v_kG, v_kT, v_A, v_X0, v_X1, v_X2, v_X3, v_pc, v_pm, v_lc, v_lm⟩ := h
  exact v_T
theorem zV_kl {s : Int → Int} {L : Int} {σ : Nat → Int → Int} (h : zV s L σ) : σ 71 58 = 1 → zKL (σ 113 0) (σ 71 2) (σ 113 1) (σ 71 6) (σ 113 2) (σ 71 10) (σ 113 3) (σ 71 13) (σ 113 4) (σ 71 21) (σ 113 6) (σ 71 29) (σ 113 7) (σ 71 36) (σ 113 8) (σ 71 38) (σ 113 9) (σ 71 43) := by
  obtain ⟨v_sc, v_st, v_mo, v_se, v_ik, v_ba, v_wP, v_wZ, v_wD, v_wS, v_wR, v_wU, v_wO, v_wG, v_wT, v_P, v_Q, v_Z, v_D, v_S, v_R, v_U, v_O, v_G, v_T, v_kl, v_kmo, v_kse, v_kP, v_kQ, v_kZ, v_kD, v_kS, v_kR, v_kU, v_kO, v_kG, v_kT, v_A, v_X0, v_X1, v_X2, v_X3, v_pc, v_pm, v_lc, v_lm⟩ := h
  exact v_kl
theorem zV_kmo {s : Int → Int} {L : Int} {σ : Nat → Int → Int} (h : zV s L σ) : σ 71 58 = 1 → σ 20 9 = σ 113 5 ∧ 0 ≤ σ 113 5 ∧ σ 113 5 ≤ 28799 := by
  obtain ⟨v_sc, v_st, v_mo, v_se, v_ik, v_ba, v_wP, v_wZ, v_wD, v_wS, v_wR, v_wU, v_wO, v_wG, v_wT, v_P, v_Q, v_Z, v_D, v_S, v_R, v_U, v_O, v_G, v_T, v_kl, v_kmo, v_kse, v_kP, v_kQ, v_kZ, v_kD, v_kS, v_kR, v_kU, v_kO, v_kG, v_kT, v_A, v_X0, v_X1, v_X2, v_X3, v_pc, v_pm, v_lc, v_lm⟩ := h
  exact v_kmo
theorem zV_kse {s : Int → Int} {L : Int} {σ : Nat → Int → Int} (h : zV s L σ) : σ 71 58 = 1 → σ 20 10 = σ 113 10 ∧ 1 ≤ σ 113 10 ∧ σ 113 10 ≤ 12 := by
  obtain ⟨v_sc, v_st, v_mo, v_se, v_ik, v_ba, v_wP, v_wZ, v_wD, v_wS, v_wR, v_wU, v_wO, v_wG, v_wT, v_P, v_Q, v_Z, v_D, v_S, v_R, v_U, v_O, v_G, v_T, v_kl, v_kmo, v_kse, v_kP, v_kQ, v_kZ, v_kD, v_kS, v_kR, v_kU, v_kO, v_kG, v_kT, v_A, v_X0, v_X1, v_X2, v_X3, v_pc, v_pm, v_lc, v_lm⟩ := h
  exact v_kse
theorem zV_kP {s : Int → Int} {L : Int} {σ : Nat → Int → Int} (h : zV s L σ) : σ 71 58 = 1 → zBP (σ 21 3) (σ 22) (σ 113 0) (σ 113 1) (σ 72) (σ 114) (fun p => σ 114 (12 + p)) := by
  obtain ⟨v_sc, v_st, v_mo, v_se, v_ik, v_ba, v_wP, v_wZ, v_wD, v_wS, v_wR, v_wU, v_wO, v_wG, v_wT, v_P, v_Q, v_Z, v_D, v_S, v_R, v_U, v_O, v_G, v_T, v_kl, v_kmo, v_kse, v_kP, v_kQ, v_kZ, v_kD, v_kS, v_kR, v_kU, v_kO, v_kG, v_kT, v_A, v_X0, v_X1, v_X2, v_X3, v_pc, v_pm, v_lc, v_lm⟩ := h
  exact v_kP
theorem zV_kQ {s : Int → Int} {L : Int} {σ : Nat → Int → Int} (h : zV s L σ) : σ 71 58 = 1 → zBQ (σ 22) (σ 113 0) (σ 80) (σ 113 3) := by
  obtain ⟨v_sc, v_st, v_mo, v_se, v_ik, v_ba, v_wP, v_wZ, v_wD, v_wS, v_wR, v_wU, v_wO, v_wG, v_wT, v_P, v_Q, v_Z, v_D, v_S, v_R, v_U, v_O, v_G, v_T, v_kl, v_kmo, v_kse, v_kP, v_kQ, v_kZ, v_kD, v_kS, v_kR, v_kU, v_kO, v_kG, v_kT, v_A, v_X0, v_X1, v_X2, v_X3, v_pc, v_pm, v_lc, v_lm⟩ := h
  exact v_kQ
theorem zV_kZ {s : Int → Int} {L : Int} {σ : Nat → Int → Int} (h : zV s L σ) : σ 71 58 = 1 → zBZ (σ 23 3) (σ 24) (σ 113 1) (σ 114) (σ 113 0) (σ 75) (σ 115) (fun z => σ 115 (6 + z)) := by
  obtain ⟨v_sc, v_st, v_mo, v_se, v_ik, v_ba, v_wP, v_wZ, v_wD, v_wS, v_wR, v_wU, v_wO, v_wG, v_wT, v_P, v_Q, v_Z, v_D, v_S, v_R, v_U, v_O, v_G, v_T, v_kl, v_kmo, v_kse, v_kP, v_kQ, v_kZ, v_kD, v_kS, v_kR, v_kU, v_kO, v_kG, v_kT, v_A, v_X0, v_X1, v_X2, v_X3, v_pc, v_pm, v_lc, v_lm⟩ := h
  exact v_kZ
theorem zV_kD {s : Int → Int} {L : Int} {σ : Nat → Int → Int} (h : zV s L σ) : σ 71 58 = 1 → zBD (σ 25 3) (σ 26) (σ 113 2) (σ 113 1) (σ 78) (σ 79) := by
  obtain ⟨v_sc, v_st, v_mo, v_se, v_ik, v_ba, v_wP, v_wZ, v_wD, v_wS, v_wR, v_wU, v_wO, v_wG, v_wT, v_P, v_Q, v_Z, v_D, v_S, v_R, v_U, v_O, v_G, v_T, v_kl, v_kmo, v_kse, v_kP, v_kQ, v_kZ, v_kD, v_kS, v_kR, v_kU, v_kO, v_kG, v_kT, v_A, v_X0, v_X1, v_X2, v_X3, v_pc, v_pm, v_lc, v_lm⟩ := h
  exact v_kD
theorem zV_kS {s : Int → Int} {L : Int} {σ : Nat → Int → Int} (h : zV s L σ) : σ 71 58 = 1 → zBS (σ 27 3) (σ 28) (σ 113 3) (σ 113 0) (σ 80) (σ 81) (σ 82) (σ 83) (σ 84) (σ 116) (fun p => σ 116 (20 + p)) := by
  obtain ⟨v_sc, v_st, v_mo, v_se, v_ik, v_ba, v_wP, v_wZ, v_wD, v_wS, v_wR, v_wU, v_wO, v_wG, v_wT, v_P, v_Q, v_Z, v_D, v_S, v_R, v_U, v_O, v_G, v_T, v_kl, v_kmo, v_kse, v_kP, v_kQ, v_kZ, v_kD, v_kS, v_kR, v_kU, v_kO, v_kG, v_kT, v_A, v_X0, v_X1, v_X2, v_X3, v_pc, v_pm, v_lc, v_lm⟩ := h
  exact v_kS
theorem zV_kR {s : Int → Int} {L : Int} {σ : Nat → Int → Int} (h : zV s L σ) : σ 71 58 = 1 → zBR (σ 29 3) (σ 30) (σ 113 4) (σ 87) (σ 88) (σ 89) (σ 90) (σ 91) (σ 92) (σ 117) := by
  obtain ⟨v_sc, v_st, v_mo, v_se, v_ik, v_ba, v_wP, v_wZ, v_wD, v_wS, v_wR, v_wU, v_wO, v_wG, v_wT, v_P, v_Q, v_Z, v_D, v_S, v_R, v_U, v_O, v_G, v_T, v_kl, v_kmo, v_kse, v_kP, v_kQ, v_kZ, v_kD, v_kS, v_kR, v_kU, v_kO, v_kG, v_kT, v_A, v_X0, v_X1, v_X2, v_X3, v_pc, v_pm, v_lc, v_lm⟩ := h
  exact v_kR
theorem zV_kU {s : Int → Int} {L : Int} {σ : Nat → Int → Int} (h : zV s L σ) : σ 71 58 = 1 → zBU (σ 31 3) (σ 32) (σ 113 6) (σ 94) (σ 95) (σ 96) (σ 97) (σ 98) := by
  obtain ⟨v_sc, v_st, v_mo, v_se, v_ik, v_ba, v_wP, v_wZ, v_wD, v_wS, v_wR, v_wU, v_wO, v_wG, v_wT, v_P, v_Q, v_Z, v_D, v_S, v_R, v_U, v_O, v_G, v_T, v_kl, v_kmo, v_kse, v_kP, v_kQ, v_kZ, v_kD, v_kS, v_kR, v_kU, v_kO, v_kG, v_kT, v_A, v_X0, v_X1, v_X2, v_X3, v_pc, v_pm, v_lc, v_lm⟩ := h
  exact v_kU
theorem zV_kO {s : Int → Int} {L : Int} {σ : Nat → Int → Int} (h : zV s L σ) : σ 71 58 = 1 → zBO (σ 33 3) (σ 34) (σ 113 7) (σ 99) := by
  obtain ⟨v_sc, v_st, v_mo, v_se, v_ik, v_ba, v_wP, v_wZ, v_wD, v_wS, v_wR, v_wU, v_wO, v_wG, v_wT, v_P, v_Q, v_Z, v_D, v_S, v_R, v_U, v_O, v_G, v_T, v_kl, v_kmo, v_kse, v_kP, v_kQ, v_kZ, v_kD, v_kS, v_kR, v_kU, v_kO, v_kG, v_kT, v_A, v_X0, v_X1, v_X2, v_X3, v_pc, v_pm, v_lc, v_lm⟩ := h
  exact v_kO
theorem zV_kG {s : Int → Int} {L : Int} {σ : Nat → Int → Int} (h : zV s L σ) : σ 71 58 = 1 → zBG (σ 35 3) (σ 36) (σ 113 8) (σ 100) (σ 101) (σ 102) (σ 103) := by
  obtain ⟨v_sc, v_st, v_mo, v_se, v_ik, v_ba, v_wP, v_wZ, v_wD, v_wS, v_wR, v_wU, v_wO, v_wG, v_wT, v_P, v_Q, v_Z, v_D, v_S, v_R, v_U, v_O, v_G, v_T, v_kl, v_kmo, v_kse, v_kP, v_kQ, v_kZ, v_kD, v_kS, v_kR, v_kU, v_kO, v_kG, v_kT, v_A, v_X0, v_X1, v_X2, v_X3, v_pc, v_pm, v_lc, v_lm⟩ := h
  exact v_kG
theorem zV_kT {s : Int → Int} {L : Int} {σ : Nat → Int → Int} (h : zV s L σ) : σ 71 58 = 1 → zBT (σ 37 3) (σ 38) (σ 113 9) (σ 113 0) (σ 104) (σ 105) (σ 118) := by
  obtain ⟨v_sc, v_st, v_mo, v_se, v_ik, v_ba, v_wP, v_wZ, v_wD, v_wS, v_wR, v_wU, v_wO, v_wG, v_wT, v_P, v_Q, v_Z, v_D, v_S, v_R, v_U, v_O, v_G, v_T, v_kl, v_kmo, v_kse, v_kP, v_kQ, v_kZ, v_kD, v_kS, v_kR, v_kU, v_kO, v_kG, v_kT, v_A, v_X0, v_X1, v_X2, v_X3, v_pc, v_pm, v_lc, v_lm⟩ := h
  exact v_kT
theorem zV_A {s : Int → Int} {L : Int} {σ : Nat → Int → Int} (h : zV s L σ) : zBA (σ 60 1) (σ 61) (σ 71 67) (σ 119) := by
  obtain ⟨v_sc, v_st, v_mo, v_se, v_ik, v_ba, v_wP, v_wZ, v_wD, v_wS, v_wR, v_wU, v_wO, v_wG, v_wT, v_P, v_Q, v_Z, v_D, v_S, v_R, v_U, v_O, v_G, v_T, v_kl, v_kmo, v_kse, v_kP, v_kQ, v_kZ, v_kD, v_kS, v_kR, v_kU, v_kO, v_kG, v_kT, v_A, v_X0, v_X1, v_X2, v_X3, v_pc, v_pm, v_lc, v_lm⟩ := h
  exact v_A
theorem zV_X0 {s : Int → Int} {L : Int} {σ : Nat → Int → Int} (h : zV s L σ) : zBX (σ 63 1) (σ 63 2) (σ 64) (σ 120) (σ 121) (σ 122) 0 := by
  obtain ⟨v_sc, v_st, v_mo, v_se, v_ik, v_ba, v_wP, v_wZ, v_wD, v_wS, v_wR, v_wU, v_wO, v_wG, v_wT, v_P, v_Q, v_Z, v_D, v_S, v_R, v_U, v_O, v_G, v_T, v_kl, v_kmo, v_kse, v_kP, v_kQ, v_kZ, v_kD, v_kS, v_kR, v_kU, v_kO, v_kG, v_kT, v_A, v_X0, v_X1, v_X2, v_X3, v_pc, v_pm, v_lc, v_lm⟩ := h
  exact v_X0
theorem zV_X1 {s : Int → Int} {L : Int} {σ : Nat → Int → Int} (h : zV s L σ) : zBX (σ 65 1) (σ 65 2) (σ 66) (σ 120) (σ 121) (σ 122) 1 := by
  obtain ⟨v_sc, v_st, v_mo, v_se, v_ik, v_ba, v_wP, v_wZ, v_wD, v_wS, v_wR, v_wU, v_wO, v_wG, v_wT, v_P, v_Q, v_Z, v_D, v_S, v_R, v_U, v_O, v_G, v_T, v_kl, v_kmo, v_kse, v_kP, v_kQ, v_kZ, v_kD, v_kS, v_kR, v_kU, v_kO, v_kG, v_kT, v_A, v_X0, v_X1, v_X2, v_X3, v_pc, v_pm, v_lc, v_lm⟩ := h
  exact v_X1
theorem zV_X2 {s : Int → Int} {L : Int} {σ : Nat → Int → Int} (h : zV s L σ) : zBX (σ 67 1) (σ 67 2) (σ 68) (σ 120) (σ 121) (σ 122) 2 := by
  obtain ⟨v_sc, v_st, v_mo, v_se, v_ik, v_ba, v_wP, v_wZ, v_wD, v_wS, v_wR, v_wU, v_wO, v_wG, v_wT, v_P, v_Q, v_Z, v_D, v_S, v_R, v_U, v_O, v_G, v_T, v_kl, v_kmo, v_kse, v_kP, v_kQ, v_kZ, v_kD, v_kS, v_kR, v_kU, v_kO, v_kG, v_kT, v_A, v_X0, v_X1, v_X2, v_X3, v_pc, v_pm, v_lc, v_lm⟩ := h
  exact v_X2
theorem zV_X3 {s : Int → Int} {L : Int} {σ : Nat → Int → Int} (h : zV s L σ) : zBX (σ 69 1) (σ 69 2) (σ 70) (σ 120) (σ 121) (σ 122) 3 := by
  obtain ⟨v_sc, v_st, v_mo, v_se, v_ik, v_ba, v_wP, v_wZ, v_wD, v_wS, v_wR, v_wU, v_wO, v_wG, v_wT, v_P, v_Q, v_Z, v_D, v_S, v_R, v_U, v_O, v_G, v_T, v_kl, v_kmo, v_kse, v_kP, v_kQ, v_kZ, v_kD, v_kS, v_kR, v_kU, v_kO, v_kG, v_kT, v_A, v_X0, v_X1, v_X2, v_X3, v_pc, v_pm, v_lc, v_lm⟩ := h
  exact v_X3
theorem zV_pc {s : Int → Int} {L : Int} {σ : Nat → Int → Int} (h : zV s L σ) : zPC (σ 39 11) (σ 39 9) (σ 39 10) (σ 40) (σ 41) (σ 42) (σ 43) (σ 44) (σ 47) (σ 48) (σ 71 29) (σ 94) (σ 95) (σ 96) (σ 97) (σ 98) := by
  obtain ⟨v_sc, v_st, v_mo, v_se, v_ik, v_ba, v_wP, v_wZ, v_wD, v_wS, v_wR, v_wU, v_wO, v_wG, v_wT, v_P, v_Q, v_Z, v_D, v_S, v_R, v_U, v_O, v_G, v_T, v_kl, v_kmo, v_kse, v_kP, v_kQ, v_kZ, v_kD, v_kS, v_kR, v_kU, v_kO, v_kG, v_kT, v_A, v_X0, v_X1, v_X2, v_X3, v_pc, v_pm, v_lc, v_lm⟩ := h
  exact v_pc
theorem zV_pm {s : Int → Int} {L : Int} {σ : Nat → Int → Int} (h : zV s L σ) : zPM (σ 71 47) (σ 71 53) (σ 71 54) (σ 109) (σ 110) (σ 71 29) (σ 94) (σ 95) (σ 96) (σ 97) (σ 98) := by
  obtain ⟨v_sc, v_st, v_mo, v_se, v_ik, v_ba, v_wP, v_wZ, v_wD, v_wS, v_wR, v_wU, v_wO, v_wG, v_wT, v_P, v_Q, v_Z, v_D, v_S, v_R, v_U, v_O, v_G, v_T, v_kl, v_kmo, v_kse, v_kP, v_kQ, v_kZ, v_kD, v_kS, v_kR, v_kU, v_kO, v_kG, v_kT, v_A, v_X0, v_X1, v_X2, v_X3, v_pc, v_pm, v_lc, v_lm⟩ := h
  exact v_pm
theorem zV_lc {s : Int → Int} {L : Int} {σ : Nat → Int → Int} (h : zV s L σ) : zLC (σ 49 13) (σ 49 10) (σ 55) (σ 49 12) (σ 59) (σ 71 36) (σ 71 38) (σ 99) (σ 100) (σ 101) (σ 102) (σ 103) := by
  obtain ⟨v_sc, v_st, v_mo, v_se, v_ik, v_ba, v_wP, v_wZ, v_wD, v_wS, v_wR, v_wU, v_wO, v_wG, v_wT, v_P, v_Q, v_Z, v_D, v_S, v_R, v_U, v_O, v_G, v_T, v_kl, v_kmo, v_kse, v_kP, v_kQ, v_kZ, v_kD, v_kS, v_kR, v_kU, v_kO, v_kG, v_kT, v_A, v_X0, v_X1, v_X2, v_X3, v_pc, v_pm, v_lc, v_lm⟩ := h
  exact v_lc
theorem zV_lm {s : Int → Int} {L : Int} {σ : Nat → Int → Int} (h : zV s L σ) : zLM (σ 71 48) (σ 71 57) (σ 112) (σ 71 36) (σ 71 38) (σ 99) (σ 100) (σ 101) (σ 102) (σ 103) := by
  obtain ⟨v_sc, v_st, v_mo, v_se, v_ik, v_ba, v_wP, v_wZ, v_wD, v_wS, v_wR, v_wU, v_wO, v_wG, v_wT, v_P, v_Q, v_Z, v_D, v_S, v_R, v_U, v_O, v_G, v_T, v_kl, v_kmo, v_kse, v_kP, v_kQ, v_kZ, v_kD, v_kS, v_kR, v_kU, v_kO, v_kG, v_kT, v_A, v_X0, v_X1, v_X2, v_X3, v_pc, v_pm, v_lc, v_lm⟩ := h
  exact v_lm
