theorem z_nest_in : zNW ∈ lw_tbl := by decide +kernel
/-! THE CLAIM OUT OF ONE WALK OF THE LAW'S BODY. Your part is whole_start (and what it stands on); all else here is the same for every law, but numbers. -/
def R_law : String := "GamesOfficeLaw"
def lw_P (b : Addr) (xs : List Int32) (args : Array Value) (s : State) : Prop := args = #[.ref b] ∧ s.IntsAt b xs ∧ xs.length ≤ 3072 ∧ (Jvm.Cond.and given_1 narrow_1).before args s = true
def lw_Q (_ : Array Value) (s : State) (o : Outcome) (t : State) : Prop := o = .returned (some (.int 1)) ∧ Framed s o t [] 600000 7302250
def lw_Z (below : List Frame) (a : Array Value) (s : State) : State → Prop := fun t => ∃ o, t.status = .running ∧ Ended t below o ∧ lw_Q a s o t
/-- the law's own end, with 1 on the stack, nothing written that was there before, its room as the claim has it -/
theorem lw_ret {p : Program} {l : Launch} {e : Env} {s : State} {m : MethodId} {below : List Frame} {meth : Method} {c : Code} {b : Nat} (hx : p.tables.exec = Jvm.exec) (hb : c.code = code) (hr : meth.sig.returnType = ret) (hlocks : meth.locks = false) {pc : Nat} {H : Heap} {ls : Array Slot} (hdg : decode code pc = .ok (.ireturn, 1)) : W p l e room_1 s m #[Value.ref b] below meth c H [] 600000 7302250 (lw_Z below #[Value.ref b] s) (F0 m pc ls [.int 1]) := by
  intro T hT X
  obtain ⟨fs, hret, hrun, hended, hW, hframe⟩ := X.leave (v := some (.int 1)) (hlocks := hlocks) (fun h => by rw [hr] at h; cases h)
  have hmeth' : T.vm.method? m = some meth := X.method'
  refine ⟨T.setFrames fs, ?_, .returned (some (.int 1)), hrun, hended, rfl, ⟨_, rfl⟩, hW, hframe⟩
  jvm_step X.here [X.here.top, hx, hb, hdg, hmeth', hr, ret, narrow_b1]
  (try refine ⟨rfl, ?_⟩); (try refine ⟨rfl, ?_⟩)
  first | (intro acts; rw [hret _ acts rfl rfl rfl]) | rw [hret _ _ rfl rfl rfl]
  exact Steps.refl _
/-- what holds at the law's entry: the machine, the code, the tables' words (any of lw_tbl by 'hts w (by decide +kernel)'), the script of L ints xs at the cell b, what the Statement gives of the start (any of its parts by flat_of_before) -/
def lw_At (p : Program) (s : State) (m : MethodId) (meth : Method) (c : Code) (b L : Nat) (xs : Nat → Int32) : Prop :=
  p.tables.exec = Jvm.exec ∧ c.code = code ∧ meth.sig.returnType = ret ∧ c.maxLocals = 4 ∧ s.vm.findClass R_law = some m.cls ∧ (∀ w ∈ lw_tbl, w.before #[Value.ref b] s = true) ∧ va_X b L xs s s.heap ∧ b < s.heap.size ∧ meth.locks = false ∧ (Jvm.Cond.and given_1 narrow_1).before #[Value.ref b] s = true
def z_s0 (L : Nat) (xs : Nat → Int32) : Nat → Int → Int := fun k i => if k = 1001 then (if i = 0 then (L : Int) else 0) else if k = 1000 then (if 0 ≤ i ∧ i < L then (xs i.toNat).toInt else 0) else 0
theorem z_s0_len (L : Nat) (xs : Nat → Int32) : z_s0 L xs 1001 0 = L := by
  unfold z_s0
  rw [if_pos rfl, if_pos rfl]
theorem z_s0_at {L : Nat} (xs : Nat → Int32) {j : Nat} (hj : j < L) : z_s0 L xs 1000 j = (xs j).toInt := by
  unfold z_s0
  rw [if_neg (by decide), if_pos rfl, if_pos ⟨by omega, by omega⟩]
  rfl
set_option maxHeartbeats 4000000 in
set_option maxRecDepth 100000 in
theorem z_statics {s : State} {b : Nat} (hts : ∀ w ∈ lw_tbl, w.before #[Value.ref b] s = true) (hgv : (Jvm.Cond.and given_1 narrow_1).before #[Value.ref b] s = true) :
    ∃ a2 a3 : Nat, va_Z "GamesOffice$Kinds" "ABOVE" "[I" (.ref a2) (fun q => s.heap.size ≤ q) s s.heap ∧ va_T .int a2 6 (fun j => .int (Int32.ofInt (z_above j))) (fun q => s.heap.size ≤ q) s s.heap ∧
      va_Z "GamesOffice$Acts" "BODIES" "[I" (.ref a3) (fun q => s.heap.size ≤ q) s s.heap ∧ va_T .int a3 24 (fun j => .int (Int32.ofInt (z_bodies j))) (fun q => s.heap.size ≤ q) s s.heap := by
  have hs := flat_of_before _ hgv
  have hA : ∀ a : Nat, a < s.heap.size → ¬ (fun q => s.heap.size ≤ q) a := fun a ha => Nat.not_le.mpr ha
  have h1 : ∀ j : Nat, j < 6 → (Term.elem (.static "GamesOffice$Kinds" "ABOVE" "[I") (.int (Int32.ofNat j))).eval #[Value.ref b] s none [] s = some (.int (Int32.ofInt (z_above j))) := by
    intro j hj
    match j, hj with
    | 0, _ => exact va_eqt (z := (-1)) (hs (.eq (.elem (.static "GamesOffice$Kinds" "ABOVE" "[I") (.int 0)) (.int (-1))) (by decide +kernel))
    | 1, _ => exact va_eqt (z := 0) (hs (.eq (.elem (.static "GamesOffice$Kinds" "ABOVE" "[I") (.int 1)) (.int 0)) (by decide +kernel))
    | 2, _ => exact va_eqt (z := 0) (hs (.eq (.elem (.static "GamesOffice$Kinds" "ABOVE" "[I") (.int 2)) (.int 0)) (by decide +kernel))
    | 3, _ => exact va_eqt (z := 0) (hs (.eq (.elem (.static "GamesOffice$Kinds" "ABOVE" "[I") (.int 3)) (.int 0)) (by decide +kernel))
    | 4, _ => exact va_eqt (z := 3) (hs (.eq (.elem (.static "GamesOffice$Kinds" "ABOVE" "[I") (.int 4)) (.int 3)) (by decide +kernel))
    | 5, _ => exact va_eqt (z := 1) (hs (.eq (.elem (.static "GamesOffice$Kinds" "ABOVE" "[I") (.int 5)) (.int 1)) (by decide +kernel))
    | n + 6, h => omega
  have h2 : ∀ j : Nat, j < 24 → (Term.elem (.static "GamesOffice$Acts" "BODIES" "[I") (.int (Int32.ofNat j))).eval #[Value.ref b] s none [] s = some (.int (Int32.ofInt (z_bodies j))) := by
    intro j hj
    match j, hj with
    | 0, _ => exact va_eqt (z := 10) (hs (.eq (.elem (.static "GamesOffice$Acts" "BODIES" "[I") (.int 0)) (.int 10)) (by decide +kernel))
    | 1, _ => exact va_eqt (z := 11) (hs (.eq (.elem (.static "GamesOffice$Acts" "BODIES" "[I") (.int 1)) (.int 11)) (by decide +kernel))
    | 2, _ => exact va_eqt (z := 12) (hs (.eq (.elem (.static "GamesOffice$Acts" "BODIES" "[I") (.int 2)) (.int 12)) (by decide +kernel))
    | 3, _ => exact va_eqt (z := 13) (hs (.eq (.elem (.static "GamesOffice$Acts" "BODIES" "[I") (.int 3)) (.int 13)) (by decide +kernel))
    | 4, _ => exact va_eqt (z := 20) (hs (.eq (.elem (.static "GamesOffice$Acts" "BODIES" "[I") (.int 4)) (.int 20)) (by decide +kernel))
    | 5, _ => exact va_eqt (z := 0) (hs (.eq (.elem (.static "GamesOffice$Acts" "BODIES" "[I") (.int 5)) (.int 0)) (by decide +kernel))
    | 6, _ => exact va_eqt (z := 0) (hs (.eq (.elem (.static "GamesOffice$Acts" "BODIES" "[I") (.int 6)) (.int 0)) (by decide +kernel))
    | 7, _ => exact va_eqt (z := 21) (hs (.eq (.elem (.static "GamesOffice$Acts" "BODIES" "[I") (.int 7)) (.int 21)) (by decide +kernel))
    | 8, _ => exact va_eqt (z := 0) (hs (.eq (.elem (.static "GamesOffice$Acts" "BODIES" "[I") (.int 8)) (.int 0)) (by decide +kernel))
    | 9, _ => exact va_eqt (z := 0) (hs (.eq (.elem (.static "GamesOffice$Acts" "BODIES" "[I") (.int 9)) (.int 0)) (by decide +kernel))
    | 10, _ => exact va_eqt (z := 30) (hs (.eq (.elem (.static "GamesOffice$Acts" "BODIES" "[I") (.int 10)) (.int 30)) (by decide +kernel))
    | 11, _ => exact va_eqt (z := 0) (hs (.eq (.elem (.static "GamesOffice$Acts" "BODIES" "[I") (.int 11)) (.int 0)) (by decide +kernel))
    | 12, _ => exact va_eqt (z := 0) (hs (.eq (.elem (.static "GamesOffice$Acts" "BODIES" "[I") (.int 12)) (.int 0)) (by decide +kernel))
    | 13, _ => exact va_eqt (z := 40) (hs (.eq (.elem (.static "GamesOffice$Acts" "BODIES" "[I") (.int 13)) (.int 40)) (by decide +kernel))
    | 14, _ => exact va_eqt (z := 41) (hs (.eq (.elem (.static "GamesOffice$Acts" "BODIES" "[I") (.int 14)) (.int 41)) (by decide +kernel))
    | 15, _ => exact va_eqt (z := 0) (hs (.eq (.elem (.static "GamesOffice$Acts" "BODIES" "[I") (.int 15)) (.int 0)) (by decide +kernel))
    | 16, _ => exact va_eqt (z := 50) (hs (.eq (.elem (.static "GamesOffice$Acts" "BODIES" "[I") (.int 16)) (.int 50)) (by decide +kernel))
    | 17, _ => exact va_eqt (z := 51) (hs (.eq (.elem (.static "GamesOffice$Acts" "BODIES" "[I") (.int 17)) (.int 51)) (by decide +kernel))
    | 18, _ => exact va_eqt (z := 0) (hs (.eq (.elem (.static "GamesOffice$Acts" "BODIES" "[I") (.int 18)) (.int 0)) (by decide +kernel))
    | 19, _ => exact va_eqt (z := 0) (hs (.eq (.elem (.static "GamesOffice$Acts" "BODIES" "[I") (.int 19)) (.int 0)) (by decide +kernel))
    | 20, _ => exact va_eqt (z := 61) (hs (.eq (.elem (.static "GamesOffice$Acts" "BODIES" "[I") (.int 20)) (.int 61)) (by decide +kernel))
    | 21, _ => exact va_eqt (z := 0) (hs (.eq (.elem (.static "GamesOffice$Acts" "BODIES" "[I") (.int 21)) (.int 0)) (by decide +kernel))
    | 22, _ => exact va_eqt (z := 0) (hs (.eq (.elem (.static "GamesOffice$Acts" "BODIES" "[I") (.int 22)) (.int 0)) (by decide +kernel))
    | 23, _ => exact va_eqt (z := 60) (hs (.eq (.elem (.static "GamesOffice$Acts" "BODIES" "[I") (.int 23)) (.int 60)) (by decide +kernel))
    | n + 24, h => omega
  obtain ⟨a2, e2, t2⟩ := va_Tof (s := s) (N := 6) (f := fun j => .int (Int32.ofInt (z_above j))) (A := fun q => s.heap.size ≤ q) (by decide) (hs (.arrayOf (.static "GamesOffice$Kinds" "ABOVE" "[I") .int) (by decide +kernel)) (va_eqt (z := 6) (hs (.eq (.length (.static "GamesOffice$Kinds" "ABOVE" "[I")) (.int 6)) (by decide +kernel))) h1 hA
  obtain ⟨a3, e3, t3⟩ := va_Tof (s := s) (N := 24) (f := fun j => .int (Int32.ofInt (z_bodies j))) (A := fun q => s.heap.size ≤ q) (by decide) (hs (.arrayOf (.static "GamesOffice$Acts" "BODIES" "[I") .int) (by decide +kernel)) (va_eqt (z := 24) (hs (.eq (.length (.static "GamesOffice$Acts" "BODIES" "[I")) (.int 24)) (by decide +kernel))) h2 hA
  refine ⟨a2, a3, va_Zref (hts _ (by decide +kernel)) (hts _ (by decide +kernel)) e2 hA, t2, va_Zref (hts _ (by decide +kernel)) (hts _ (by decide +kernel)) e3 hA, t3⟩
theorem z_envAt {s : State} {b L : Nat} {xs : Nat → Int32} (hts : ∀ w ∈ lw_tbl, w.before #[Value.ref b] s = true) (hgv : (Jvm.Cond.and given_1 narrow_1).before #[Value.ref b] s = true) (hX : va_X b L xs s s.heap) (hbl : b < s.heap.size) :
    ∃ (g : Nat × Nat × Nat × Nat) (D : va_G) (A3 : Nat × Nat × Nat), g.1 = s.heap.size ∧ g.2.1 = b ∧ z_env g D A3 L xs s s.heap := by
  obtain ⟨a2, a3, hZ1, hT1, hZ2, hT2⟩ := z_statics hts hgv
  have hK : ∀ x, ∃ (cC : ClassId) (iS : Nat → Nat), x < 8 → u_Kn s (zcls x) (zT x) (zN x) cC iS := by
    intro x
    by_cases hx : x < 8
    · obtain ⟨cC, iS, h⟩ := u_known (C := zcls x) (T := zT x) (N := zN x) (n := zN x) hts (fun w hw => (List.mem_filter.mp (z_ws_in hx w hw)).1) (hts _ (List.mem_of_getElem? (zIN_ok x hx)))
      exact ⟨cC, iS, fun _ => h⟩
    · exact ⟨0, fun _ => 0, fun h => absurd h hx⟩
  obtain ⟨c1, k1, p1, f1, f2, f3⟩ := Cond.arrayClass_spec (hts _ zwA.1)
  obtain ⟨c2, k2, p2, f4, f5, f6⟩ := Cond.arrayClass_spec (hts _ zwA.2.1)
  obtain ⟨p3, c3, k3, f7, -, f8, f9, f10⟩ := Cond.arrayOver_spec (hts _ zwA.2.2.1)
  refine ⟨(s.heap.size, b, a2, a3), (fun x => Classical.choose (hK x), fun x => Classical.choose (Classical.choose_spec (hK x))), (c1, c2, c3), rfl, rfl, ⟨?_, ?_⟩, ⟨hX, hZ1, hT1, hZ2, hT2, hbl, Nat.le_refl _⟩, va_AO.of (hts _ zwA.2.2.1), va_Nw.of rfl (hts _ z_nest_in)⟩
  · intro x q hq
    have hx : x < 8 := (List.getElem?_eq_some_iff.mp hq).1
    cases (zclasses_at x hx).symm.trans hq
    exact Classical.choose_spec (Classical.choose_spec (hK x)) hx
  · intro k q hq
    match k, hq with
    | 0, hq =>
      cases hq
      exact ⟨fun n z => ⟨fun k h => (by cases h), k1, f2, p1, f3⟩, f1⟩
    | 1, hq =>
      cases hq
      exact ⟨fun n z => ⟨fun k h => (by cases h), k2, f5, p2, f6⟩, f4⟩
    | 2, hq =>
      cases hq
      exact ⟨fun n z => ⟨fun k h => (by cases h), k3, f8, p3, f9⟩, ⟨k3, p3, f8, f9, f7, f10⟩⟩
    | k + 3, hq => simp at hq
theorem z_start {p : Program} {e : Env} {s : State} {m : MethodId} {below : List Frame} {meth : Method} {c : Code} (l : Launch) {b L : Nat} {xs : Nat → Int32} (hL : L ≤ 3072) (C0 : lw_At p s m meth c b L xs) {n : Nat} {h' : Zh} (hpure : zR n 100 237 0 (z_loc 4 [.inr 1]) [] ([], z_s0 L xs) = some (.inl 1, h')) (hc : h'.1.length ≤ 600000) (hz : z_sz h'.1 ≤ 7302250) :
    W p l e room_1 s m #[Value.ref b] below meth c s.heap [] 0 0 (lw_Z below #[Value.ref b] s) (entryFrame m ([Value.ref b] : List Value).toArray 4) := by
  obtain ⟨hx, hb, hr, hml, hown, hts, hX, hbl, hlocks, hgv⟩ := C0
  obtain ⟨g, D, A3, g1, g2, henv⟩ := z_envAt hts hgv hX hbl
  have C : z_cx g D A3 L xs 237 p s m #[Value.ref b] meth c := ⟨hx, hb, hml, hown, fun w hw => hts w (List.mem_filter.mp hw).1, fun h => absurd h (by decide +kernel), henv⟩
  have K := z_sound l n hpure (by omega) p e s m #[Value.ref b] below meth c 0 0 room_1 (lw_Z below #[Value.ref b] s) C ⟨by show 100 + 1 ≤ 2048; omega, by show 64 * (100 + 1) ≤ 84000; omega, by show h'.1.length - 0 ≤ 600000; omega, by show z_sz h'.1 - 0 ≤ 7302250; omega⟩ (by
    rintro en pc ls st h ⟨he, hlast⟩
    obtain ⟨ho, hd⟩ := zgood_all 237 (by omega) pc en he
    rcases hlast with ⟨v, hi, rfl, -, hv⟩ | ⟨hi, -, hv⟩
    · obtain ⟨i, len, x, y, z⟩ := en
      dsimp only at hi
      subst hi
      have hv1 : v = 1 := by cases hv; rfl
      subst hv1
      have hh : h' = h := by cases hv; rfl
      subst hh
      have hlen1 : len = 1 := by
        simp only [z_ok, Bool.and_eq_true, beq_iff_eq] at ho
        exact ho.1
      subst hlen1
      intro H locs la hrel hS hla hlen hvs hn0 hs0
      refine va_forget (fun q hq => by rw [← g1]; exact hS.2.2 q hq) ?_
      refine W.widen (k := 600000) (n := 7302250) (by omega) (by omega) ?_
      exact lw_ret hx hb hr hlocks hd
    · cases hv)
  have hl := lv_entry ([Value.ref b]) (n := 4) (Nat.le_of_ble_eq_true rfl)
  rw [lg_entry_eq]
  have hrel : z_rel g D A3 L xs ([], z_s0 L xs) s.heap := by
    refine ⟨by rw [g1]; rfl, fun k c hk => by simp at hk, fun k i => ?_, fun k c hk => by simp at hk, by simp, ?_, fun j hj => ?_, hL⟩
    · show z_rng (z_s0 L xs k i)
      unfold z_s0
      split
      · split
        · unfold z_rng; omega
        · exact z_r0
      · split
        · split
          · exact z_rt _
          · exact z_r0
        · exact z_r0
    · exact z_s0_len L xs
    · exact z_s0_at xs hj
  have K3 := K s.heap [] _ hrel va_S.rf (z_lv_weak hl (fun w hw => by
    obtain ⟨j, w⟩ := w
    obtain ⟨u, hu, rfl⟩ := z_lv_mem.mp hw
    have hu2 := z_loc_at hu
    match j, hu2 with
    | 0, hu2 =>
      cases hu2
      show (0, Value.ref g.2.1) ∈ _
      rw [g2]
      exact List.mem_cons_self
    | j + 1, hu2 => simp at hu2)) (z_loc_len (by decide)) ⟨fun j u hu => by
      have hu2 := z_loc_at hu
      match j, hu2 with
      | 0, hu2 => cases hu2; exact trivial
      | j + 1, hu2 => simp at hu2, fun _ h => by cases h⟩ (Nat.le_refl _) (Nat.le_refl _)
  rw [Nat.sub_zero, Nat.sub_zero] at K3
  exact K3
