theorem z_maxl_ok : ∀ m < 237, zmaxl m ≤ 45 ∧ (zmn m).2.2.2 + (if (zmw m).1 = 0 then 0 else 1) ≤ zmaxl m ∧ ((zmw m).1 ≠ 0 → zkind m < 8) ∧ (zmw m).1 ≤ 2 := by decide +kernel
def zws (x : Nat) : List Cond := Cond.code (zy x) (zbytes x) (zmaxl x) (zret x) :: zgw
def zrm (d mc ms : Nat) : Room := { frames := d + 1, cells := mc, slots := ms, locals := 64 * (d + 1) }
def zPc (g : Nat × Nat × Nat × Nat) (D : va_G) (A3 : Nat × Nat × Nat) (L : Nat) (xs : Nat → Int32) (as : List Zv) (h : Zh) : Array Value → State → Prop := fun v U => v = (as.map (z_va g)).toArray ∧ z_rel g D A3 L xs h U.heap ∧ z_env g D A3 L xs U U.heap ∧ ∀ w ∈ as, z_rv w
def zQc (g : Nat × Nat × Nat × Nat) (D : va_G) (A3 : Nat × Nat × Nat) (L : Nat) (xs : Nat → Int32) (x : Nat) (r : Zv × Zh) : Array Value → State → Outcome → State → Prop := fun _ st o t =>
  o = .returned (if (zmn x).2.2.1 = 0 then none else some (z_va g r.1)) ∧ z_rel g D A3 L xs r.2 t.heap ∧ va_F (fun q => g.1 ≤ q) st t ∧ z_rv r.1
theorem z_env.moved {g : Nat × Nat × Nat × Nat} {D : va_G} {A3 : Nat × Nat × Nat} {L : Nat} {xs : Nat → Int32} {u U : State} {H : Heap} (hvm : u.vm.Alike U.vm) (hN : va_Nw zNW U) (h : z_env g D A3 L xs u H) : z_env g D A3 L xs U H :=
  ⟨va_K.moved hvm h.1, z_ext.moved hvm h.2.1, va_AO.moved hvm h.2.2.1, hN⟩
theorem z_blind (g : Nat × Nat × Nat × Nat) (D : va_G) (A3 : Nat × Nat × Nat) (L : Nat) (xs : Nat → Int32) (as : List Zv) (h : Zh) : FrameBlind (zPc g D A3 L xs as h) := by
  intro a U gf mk q
  obtain ⟨h1, h2, h3, h4⟩ := q
  exact ⟨h1, h2, z_env.moved (u := U) (U := U.calling gf mk a) (Vm.Alike.refl U.vm) (va_Nw.same rfl rfl h3.2.2.2) h3, h4⟩
theorem z_goodin {x : Nat} (hx : x < 237) : GoodIn zgw (zws x) := by
  intro w hw
  have key : w ∈ zgw := by
    rcases List.mem_cons.mp hw with rfl | h
    · exact zgw_in (zcw x hx) rfl
    · exact h
  exact ⟨key, good_of_word (List.mem_filter.mp key).2⟩
theorem z_ofW {l : Launch} {y : MethodName} {ws ws' : List Cond} {rm : Room} {Pc : Array Value → State → Prop} {Qc : Array Value → State → Outcome → State → Prop} {mc ms : Nat} {free : Addr → Prop} {cc : ByteArray} {maxL : Nat} {ret : Option FieldType}
    (hy : plainFor y = true) (hw : ws = Cond.code y cc maxL ret :: ws')
    (body : ∀ p e s m args below meth c s₁, BodyLoose p l y (headSpec ws rm) cc maxL ret e s m args below meth c s₁ → c.maxLocals = maxL → Pc args s →
      W p l e (headSpec ws rm).room s m args below meth c s.heap [] 0 0 (MQ below Qc args s mc ms free) (entryFrame m args maxL)) : Met l y ws rm Pc Qc mc ms free := by
  refine MetFree.of_bodySF (code := cc) (maxLocals := maxL) (ret := ret) hy ?_ ?_
  · intro args s m h hn
    obtain ⟨meth, c, h1, h2, h3, h4, h5, h6, -, -⟩ := Cond.code_spec hn (atoms_spec (ws := ws) h _ (by rw [hw]; exact List.mem_cons_self))
    exact ⟨meth, c, h1, h2, h3, h4, h5, h6⟩
  · intro p e s m args below meth c s₁ B hml hP _
    have hh0 : s₁.heap = s.heap := by rw [B.state]; rfl
    obtain ⟨t, a1, o, b1, b2, b3⟩ := body p e s m args below meth c s₁ B hml hP s₁ hh0 (Stand.of_body B)
    exact ⟨t, o, a1, b1, b2, ⟨b3.1, b3.2⟩⟩
theorem z_sl_len (g : Nat × Nat × Nat × Nat) (as : List Zv) : (lg_sl (as.map (z_va g))).length = as.length := by
  induction as with
  | nil => rfl
  | cons v t ih =>
    have e : lg_sl ((v :: t).map (z_va g)) = [Slot.val (z_va g v)] ++ lg_sl (t.map (z_va g)) := by
      unfold lg_sl
      rw [List.map_cons, List.flatMap_cons, if_neg (by rw [z_cat]; omega)]
    rw [e, List.length_append, ih]
    simp; omega
theorem z_args_mem (g : Nat × Nat × Nat × Nat) : ∀ (as : List Zv) (i j : Nat) (v : Zv), as[j]? = some v → (i + j, z_va g v) ∈ lv_args i (as.map (z_va g))
  | [], i, j, v, h => by simp at h
  | a :: as, i, j, v, h => by
    rw [List.map_cons]
    unfold lv_args
    rw [if_neg (by rw [z_cat]; omega)]
    match j, h with
    | 0, h =>
      cases h
      exact List.mem_cons_self
    | j + 1, h =>
      have q := z_args_mem g as (i + 1) j v (by simpa using h)
      rw [show i + (j + 1) = i + 1 + j by omega]
      exact List.mem_cons_of_mem _ q
theorem z_loc_at {n : Nat} {as : List Zv} {j : Nat} {v : Zv} (h : (z_loc n as)[j]? = some (some v)) : as[j]? = some v := by
  unfold z_loc at h
  by_cases hj : j < as.length
  · rw [List.getElem?_append_left (by simpa using hj), List.getElem?_map] at h
    cases ha : as[j]? with
    | none => rw [ha] at h; cases h
    | some w => rw [ha] at h; cases h; rfl
  · rw [List.getElem?_append_right (by simpa using hj), List.getElem?_replicate] at h
    split at h <;> cases h
theorem z_loc_len {n : Nat} {as : List Zv} (h : as.length ≤ n) : (z_loc n as).length = n := by
  unfold z_loc
  simp; omega
section ZM
variable {p : Program} {l : Launch} {e : Env} {s : State} {m : MethodId} {args : Array Value} {below : List Frame} {meth : Method} {c : Code} {Q : State → Prop}
variable {g : Nat × Nat × Nat × Nat} {D : va_G} {A3 : Nat × Nat × Nat} {L : Nat} {xs : Nat → Int32} {mi n0 s0 : Nat}
/-- behind a call -/
theorem z_after {R : Room} {x z pc mc ms : Nat} {q : Zv × Zh} {h : Zh} {ls : Zl} {rest : List Zv} {stk : List Value} {a : Array Value} {H : Heap} {locs : List Loc} {la : Array Slot}
    (hr : va_Run p l e R s m args below meth c H locs (h.1.length - n0) (z_sz h.1 - s0) mc ms (F0 m pc la stk) (rest.map (z_va g)) (zQc g D A3 L xs x q a) (fun q => g.1 ≤ q))
    (hmc : mc = q.2.1.length - h.1.length) (hms : ms = z_sz q.2.1 - z_sz h.1) (hm1 : h.1.length ≤ q.2.1.length) (hm2 : z_sz h.1 ≤ z_sz q.2.1) (hz : (z = 0 ∨ z = 2) ↔ (zmn x).2.2.1 ≠ 0)
    (hS : va_S (fun q => g.1 ≤ q) s.heap H locs) (hla : lv_has la (zmaxl mi) (z_lv g ls)) (hlen : ls.length = zmaxl mi) (hvl : ∀ (i : Nat) (v : Zv), ls[i]? = some (some v) → z_rv v) (hvr : ∀ v ∈ rest, z_rv v) (hn0 : n0 ≤ h.1.length) (hs0 : s0 ≤ z_sz h.1)
    (kk : z_W p l e R s m args below meth c Q g D A3 L xs mi n0 s0 (pc + 3) ls (z_psh z q.1 rest) q.2) : W p l e R s m args below meth c H locs (h.1.length - n0) (z_sz h.1 - s0) Q (F0 m pc la stk) := by
  subst hmc; subst hms
  intro T hT X
  obtain ⟨v, st₀, t, T', L', h0, X', hL, e1, e2, ⟨hv, hrel1, hF, hrv⟩, st⟩ := hr T hT X
  have ec : h.1.length - n0 + (q.2.1.length - h.1.length) = q.2.1.length - n0 := by omega
  have es : z_sz h.1 - s0 + (z_sz q.2.1 - z_sz h.1) = z_sz q.2.1 - s0 := by omega
  rw [ec, es] at X'
  have hv2 : v = if (zmn x).2.2.1 = 0 then none else some (z_va g q.1) := Outcome.returned.inj hv
  unfold va_F at hF
  rw [h0] at hF
  have hS' : va_S (fun q => g.1 ≤ q) s.heap T'.heap (locs ++ L') := by
    rw [e1]
    exact ⟨Nat.le_trans hS.1 hF.1, fun q h1 h2 => (hF.2 q (Nat.lt_of_lt_of_le h1 hS.1) h2).trans (hS.2.1 q h1 h2), fun q hq => (List.mem_append.mp hq).elim (hS.2.2 q) (hL q)⟩
  have hst : v.toList ++ rest.map (z_va g) = (z_psh z q.1 rest).map (z_va g) := by
    rw [hv2]
    unfold z_psh
    by_cases hc : (zmn x).2.2.1 = 0
    · rw [if_pos hc, if_neg (fun k => hz.mp k hc)]; rfl
    · rw [if_neg hc, if_pos (hz.mpr hc)]; rfl
  have hvs : z_vs ls (z_psh z q.1 rest) := by
    refine ⟨hvl, ?_⟩
    unfold z_psh
    split
    · exact List.forall_mem_cons.mpr ⟨hrv, hvr⟩
    · exact hvr
  obtain ⟨t2, a1, b1⟩ := kk T'.heap (locs ++ L') la (by rw [e1]; exact hrel1) hS' hla hlen hvs (by omega) (by omega) T' rfl X'
  refine ⟨t2, st t2 ?_, b1⟩
  rw [← hst] at a1
  exact a1
def z_last (mi pc : Nat) (st : List Zv) (h : Zh) (r : Zv × Zh) (en : Ze) : Prop :=
  zcode mi pc = some en ∧ ((∃ v, en.1 = .ireturn ∧ st = [.inl v] ∧ (en.2.2.1 = 1 → v = 0 ∨ v = 1) ∧ r = (.inl v, h)) ∨ (en.1 = .return_ ∧ st = [] ∧ r = (.inl 0, h)))
/-- the end of a method -/
theorem z_fin (l : Launch) {d mi : Nat} {r : Zv × Zh} (hmi : mi < 237) (C : z_cx g D A3 L xs mi p s m args meth c) (hret : meth.sig.returnType = zret mi) (hlocks : meth.locks = false) (R : Room) :
    ∀ (en : Ze) (pc : Nat) (ls : Zl) (st : List Zv) (h : Zh), z_last mi pc st h r en →
    z_W p l e R s m args below meth c (MQ below (zQc g D A3 L xs mi r) args s (r.2.1.length - n0) (z_sz r.2.1 - s0) (fun q => g.1 ≤ q)) g D A3 L xs mi n0 s0 pc ls st h := by
  rintro en pc ls st h ⟨he, hlast⟩
  obtain ⟨ho, hd⟩ := zgood_all mi (by omega) pc en he
  rcases hlast with ⟨v, hi, rfl, hv01, rfl⟩ | ⟨hi, rfl, rfl⟩
  · obtain ⟨i, len, x, y, z⟩ := en
    dsimp only at hi
    subst hi
    simp only [z_ok, Bool.and_eq_true, Bool.or_eq_true, beq_iff_eq] at ho
    obtain ⟨rfl, ho⟩ := ho
    obtain ⟨hx, hb, hml, hown, hts, hin, hE⟩ := C
    intro H locs la hrel hS hla hlen hvs hn0 hs0
    have hv := List.forall_mem_cons.mp hvs.2
    have hq : ∀ t : State, t.heap = H → s.WarmedH t.vm → zQc g D A3 L xs mi (.inl v, h) args s (.returned (some (.int (Int32.ofInt v)))) t := fun t ht hW => by
      have hne : ¬ (zmn mi).2.2.1 = 0 := by omega
      refine ⟨by rw [if_neg hne]; rfl, by rw [ht]; exact hrel, va_S.F hS ht, hv.1⟩
    rcases ho with ⟨h0, hc⟩ | ⟨h0, hc⟩
    · exact W.iret hx hb (by rw [hret]; unfold zret; rw [if_neg (by omega), if_pos hc]) hq (fun q hq => hS.2.2 q hq) hd hlocks
    · exact W.zret (ty := .boolean) hx hb (by rw [hret]; unfold zret; rw [if_neg (by omega), if_neg (by omega)]) (z_narrowZ (hv01 h0)) hq (fun q hq => hS.2.2 q hq) hd hlocks
  · obtain ⟨i, len, x, y, z⟩ := en
    dsimp only at hi
    subst hi
    simp only [z_ok, Bool.and_eq_true, beq_iff_eq] at ho
    obtain ⟨rfl, hc⟩ := ho
    obtain ⟨hx, hb, hml, hown, hts, hin, hE⟩ := C
    intro H locs la hrel hS hla hlen hvs hn0 hs0
    refine W.vret hx hb (by rw [hret]; unfold zret; rw [if_pos hc]) (fun t ht hW => ⟨by rw [if_pos hc], by rw [ht]; exact hrel, va_S.F hS ht, z_r0⟩) (fun q hq => hS.2.2 q hq) hd hlocks
theorem z_sound (l : Launch) : ∀ (n : Nat) {d mi pc : Nat} {ls : Zl} {st : List Zv} {h : Zh} {r : Zv × Zh}, zR n d mi pc ls st h = some r → mi < 238 →
    ∀ (p : Program) (e : Env) (s : State) (m : MethodId) (args : Array Value) (below : List Frame) (meth : Method) (c : Code) (n0 s0 : Nat) (R : Room) (Q : State → Prop), z_cx g D A3 L xs mi p s m args meth c →
    (d + 1 ≤ R.frames ∧ 64 * (d + 1) ≤ R.locals ∧ r.2.1.length - n0 ≤ R.cells ∧ z_sz r.2.1 - s0 ≤ R.slots) →
    (∀ (en : Ze) (pc : Nat) (ls : Zl) (st : List Zv) (h : Zh), z_last mi pc st h r en → z_W p l e R s m args below meth c Q g D A3 L xs mi n0 s0 pc ls st h) →
    z_W p l e R s m args below meth c Q g D A3 L xs mi n0 s0 pc ls st h
  | 0, _, _, _, _, _, _, _, hn, _ => by cases hn
  | n + 1, d, mi, pc, ls, st, h, r, hn, hmi => by
    intro p e s m args below meth c n0 s0 R Q C hRm hfin
    unfold zR at hn
    split at hn
    · cases hn
    · rename_i en he
      obtain ⟨ho, hd⟩ := zgood_all mi hmi pc en he
      rcases zX_inv hn with h1 | h1 | ⟨q, h1, h2, h5⟩ | ⟨d', rfl, hkind, hy1, hy2, hrc, q, h1, h2⟩
      · exact hfin en pc ls st h ⟨he, Or.inl h1⟩
      · exact hfin en pc ls st h ⟨he, Or.inr h1⟩
      · have hm := zR_mono n h2
        exact z_step C hd ho h1 ⟨by omega, by omega, by omega, by omega⟩ h5 (z_sound l n h2 hmi p e s m args below meth c n0 s0 R Q C hRm hfin)
      · have hm1 := zR_mono n h1
        have hm2 := zR_mono n h2
        obtain ⟨i, len, x, y, z⟩ := en
        dsimp only at hkind hy1 hy2 hrc h1 h2 hd
        have K := z_sound l n h2 hmi p e s m args below meth c n0 s0 R Q C hRm hfin
        generalize has : (st.take y).reverse = as at *
        have hasl : as.length = y := by rw [← has]; simp; omega
        have hstk : st.map (z_va g) = (as.map (z_va g)).reverse ++ (st.drop y).map (z_va g) := by
          rw [← has, ← List.map_reverse, List.reverse_reverse, ← List.map_append, List.take_append_drop]
        have hrest : (st.drop y).length ≤ 8 := by simp; omega
        obtain ⟨hx, hb, hml, hown, hts, hin, hK, hE, hAO, hNw⟩ := id C
        -- the callee's contract
        have met : x < 237 → as.length ≤ zmaxl x → (∀ w ∈ as, z_rv w) → Met l (zy x) (zws x) (zrm d' (q.2.1.length - h.1.length) (z_sz q.2.1 - z_sz h.1)) (zPc g D A3 L xs as h) (zQc g D A3 L xs x q) (q.2.1.length - h.1.length) (z_sz q.2.1 - z_sz h.1) (fun q => g.1 ≤ q) := by
          intro hx2 hal hrv
          refine z_ofW (cc := zbytes x) (maxL := zmaxl x) (ret := zret x) (zPF_ok x hx2) rfl ?_
          intro p e s m args below meth c s₁ B hml hv
          obtain ⟨rfl, hrel, henv, -⟩ := hv
          have hts := atoms_spec (ws := zws x) B.pre
          have hown : s.vm.findClass (zcls (zkind x)) = some m.cls := findClass_of_methodNamed B.named
          have hmw := (zMW_ok x (by omega) (by unfold zlaw; omega)).2.2.2
          have C2 : z_cx g D A3 L xs x p s m ((as.map (z_va g)).toArray) meth c := ⟨B.exec, B.bytes, hml, hown, fun w hw => hts w (List.mem_cons_of_mem _ hw), fun h2 => (name_of_methodNamed B.named B.method).1.trans (hmw.mp h2), henv⟩
          have K2 := z_sound l n h1 (by omega) p e s m ((as.map (z_va g)).toArray) below meth c h.1.length (z_sz h.1) (zrm d' (q.2.1.length - h.1.length) (z_sz q.2.1 - z_sz h.1)) _ C2 ⟨Nat.le_refl _, Nat.le_refl _, Nat.le_refl _, Nat.le_refl _⟩ (z_fin (d := d') l hx2 C2 B.returns B.notSynchronized _)
          have hl := lv_entry (as.map (z_va g)) (n := zmaxl x) (by rw [z_sl_len]; exact hal)
          rw [lg_entry_eq]
          have K3 := K2 s.heap [] _ hrel va_S.rf (z_lv_weak hl (fun w hw => by
            obtain ⟨j, w⟩ := w
            obtain ⟨u, hu, rfl⟩ := z_lv_mem.mp hw
            have hm := z_args_mem g as 0 j u (z_loc_at hu)
            rwa [Nat.zero_add] at hm)) (z_loc_len hal) ⟨fun j u hu => hrv u (List.mem_of_getElem? (z_loc_at hu)), fun _ h => by cases h⟩ (Nat.le_refl _) (Nat.le_refl _)
          rw [Nat.sub_self, Nat.sub_self] at K3
          exact K3
        intro H locs la hrel hS hla hlen hvs hn0 hs0
        have hrv : ∀ w ∈ as, z_rv w := fun w hw => hvs.2 w (by rw [← has] at hw; exact List.mem_of_mem_take (List.mem_reverse.mp hw))
        have hrr : ∀ w ∈ st.drop y, z_rv w := fun w hw => hvs.2 w (List.mem_of_mem_drop hw)
        have hW8 : ((((st.drop y).map (z_va g)).map fun v => v.category).sum) ≤ 8 := by rw [z_catsum]; exact hrest
        have hpc : ∀ U : State, U.heap = H → s.WarmedH U.vm → zPc g D A3 L xs as h (as.map (z_va g)).toArray U := fun U hU hW =>
          ⟨rfl, by rw [hU]; exact hrel, z_env.moved hW.alike (va_Nw.warmM hW hNw) ⟨hK, by rw [hU]; exact hE.kept hS.1 hS.2.1, hAO, hNw⟩, hrv⟩
        have hf : h.1.length - n0 + (q.2.1.length - h.1.length) ≤ R.cells ∧ z_sz h.1 - s0 + (z_sz q.2.1 - z_sz h.1) ≤ R.slots := by omega
        have hR : x < 237 → (zrm d' (q.2.1.length - h.1.length) (z_sz q.2.1 - z_sz h.1)).frames + 1 ≤ R.frames ∧ 8 + (zmaxl x + 11) + (zrm d' (q.2.1.length - h.1.length) (z_sz q.2.1 - z_sz h.1)).locals ≤ R.locals := fun hx2 => by
          have hmx := (z_maxl_ok x hx2).1
          unfold zrm; dsimp only; omega
        have fix : CallFix p m c (zbytes mi) (zmaxl mi) s args zgw (zcls (zkind mi)) := ⟨hx, hb, hml, hown, hts⟩
        rw [hstk]
        rcases hkind with ⟨ix, rfl⟩ | ⟨ix, rfl, hz5⟩ | ⟨ix, rfl, hz5⟩
        · simp only [z_ok, Bool.and_eq_true, Bool.or_eq_true, beq_iff_eq, bne_iff_ne, decide_eq_true_eq, List.any_eq_true] at ho
          obtain ⟨⟨⟨⟨⟨rfl, hx2⟩, hya⟩, hk1⟩, hzz⟩, w, hw, ⟨w1, w2⟩, w3⟩ := ho
          have h6 := zML_ok w hw
          rw [w1, w2, w3] at h6
          obtain ⟨m1, m2, m3, m4⟩ := z_maxl_ok x hx2
          obtain ⟨u1, u2, u3, u4⟩ := zMW_ok x (by omega) (by unfold zlaw; omega)
          obtain ⟨v1, v2, v3⟩ := zMD_ok x (by omega)
          rw [if_neg (by omega)] at m2 u2
          have hM := met hx2 (by omega) hrv
          have hz2 : ¬ z < 2 := by omega
          unfold z_rcv at hrc
          rw [if_neg hz2] at hrc
          split at hrc
          · rename_i k as'
            split at hrc
            · rename_i cc hcc
              have hck : cc.1 = zkind x := by simpa using hrc
              have hk8 : zkind x < 8 := m3 (by omega)
              obtain ⟨cell, g1, g2, g3, -⟩ := (hrel.2.1 k cc hcc).2.2.2 (by omega)
              rw [hck] at g2
              have cwb := callB_of (args := args) (index := ix) (own := zcls (zkind mi)) (zmn x).2.2.2 hts (z_goodin hx2) rfl rfl rfl (hts _ (zgw_in (List.mem_of_getElem? u1) rfl)) (hts _ (zgw_in (List.mem_of_getElem? h6) rfl)) ⟨v1, v2, v3⟩ (hR hx2)
              have run := va_runV (l := l) (e := e) (below := below) (meth := meth) (H := H) (locs := locs) (cells := h.1.length - n0) (slots := z_sz h.1 - s0) (As := as'.map (z_va g)) (rest := (st.drop y).map (z_va g)) (b := g.1 + k) (C := zcls (zkind x)) (g := F0 m pc la ((((.inr (k + 4) :: as' : List Zv)).map (z_va g)).reverse ++ (st.drop y).map (z_va g))) fix hM ⟨cwb, hts _ (zgw_in (List.mem_of_getElem? u2) rfl), hts _ (zgw_in (List.mem_of_getElem? (u3 hk1)) rfl)⟩
                ⟨z_blind g D A3 L xs _ h, ⟨cell, g1, by rw [g3]; rfl, by rw [g2]; exact (hK.1 _ _ (zclasses_at _ hk8)).2.1⟩, hpc⟩ rfl (by simp only [List.length_map, List.length_cons] at hasl ⊢; omega) hla.1 (by simp [z_va, z_ad]) (by show 2 * 0 + _ ≤ 8; omega) hd hf
              exact z_after run rfl rfl hm1.1 hm1.2 (by omega) hS hla hlen hvs.1 hrr hn0 hs0 K
            · cases hrc
          · cases hrc
        · simp only [z_ok, Bool.and_eq_true, Bool.or_eq_true, beq_iff_eq, bne_iff_ne, decide_eq_true_eq, List.any_eq_true, if_neg hz5] at ho
          obtain ⟨rfl, ⟨⟨⟨hx2, hya⟩, hk1⟩, hzz⟩, hlnk⟩ := ho
          obtain ⟨m1, m2, m3, m4⟩ := z_maxl_ok x hx2
          obtain ⟨u1, u2, u3, u4⟩ := zMW_ok x (by omega) (by unfold zlaw; omega)
          obtain ⟨v1, v2, v3⟩ := zMD_ok x (by omega)
          rw [if_pos hk1] at m2 u2
          have hM := met hx2 (by omega) hrv
          rcases hlnk with ⟨w, hw, ⟨w1, w2⟩, w3⟩ | ⟨w, hw, ⟨w1, w2⟩, w3⟩
          · have h6 := zML_ok w hw
            rw [w1, w2, w3] at h6
            have cwb := callB_of (args := args) (index := ix) (own := zcls (zkind mi)) (zmn x).2.2.2 hts (z_goodin hx2) rfl rfl rfl (hts _ (zgw_in (List.mem_of_getElem? u1) rfl)) (hts _ (zgw_in (List.mem_of_getElem? h6) rfl)) ⟨v1, v2, v3⟩ (hR hx2)
            have run := va_runS (l := l) (e := e) (below := below) (meth := meth) (H := H) (locs := locs) (cells := h.1.length - n0) (slots := z_sz h.1 - s0) (As := as.map (z_va g)) (rest := (st.drop y).map (z_va g)) (g := F0 m pc la ((as.map (z_va g)).reverse ++ (st.drop y).map (z_va g))) fix hM ⟨cwb, hts _ (zgw_in (List.mem_of_getElem? u2) rfl)⟩
              ⟨z_blind g D A3 L xs _ h, hpc⟩ rfl (by simp only [List.length_map]; omega) hla.1 rfl (by show 2 * 0 + _ ≤ 8; omega) hd hf
            exact z_after run rfl rfl hm1.1 hm1.2 (by omega) hS hla hlen hvs.1 hrr hn0 hs0 K
          · have hw1 : w = (9, 54, 133, 471) := List.mem_singleton.mp hw
            subst hw1
            dsimp only at w1 w2 w3
            subst w2; subst w3
            have hl : va_Nw (.methodLinkNest (zcls (zkind mi)) 54 (zy 133) (zcls (zkind 133))) s := by rw [← w1]; exact hNw
            have cwb := va_cnB (args := args) (zmn 133).2.2.2 hts (z_goodin hx2) rfl rfl rfl hl (hts _ (zgw_in (List.mem_of_getElem? u1) rfl)) ⟨v1, v2, v3⟩ (hR hx2)
            have run := va_runSN (l := l) (e := e) (below := below) (meth := meth) (H := H) (locs := locs) (cells := h.1.length - n0) (slots := z_sz h.1 - s0) (As := as.map (z_va g)) (rest := (st.drop y).map (z_va g)) (g := F0 m pc la ((as.map (z_va g)).reverse ++ (st.drop y).map (z_va g))) fix hM ⟨cwb, hts _ (zgw_in (List.mem_of_getElem? u2) rfl), trivial⟩
              ⟨z_blind g D A3 L xs _ h, hpc⟩ rfl (by simp only [List.length_map]; omega) hla.1 rfl (by show 2 * 0 + _ ≤ 8; omega) hd hf
            exact z_after run rfl rfl hm1.1 hm1.2 (by omega) hS hla hlen hvs.1 hrr hn0 hs0 K
        · simp only [z_ok, Bool.and_eq_true, Bool.or_eq_true, beq_iff_eq, bne_iff_ne, decide_eq_true_eq, List.any_eq_true, if_neg hz5] at ho
          obtain ⟨rfl, ⟨⟨⟨⟨hx2, hya⟩, hk1⟩, hz4⟩, hv0⟩, w, hw, ⟨w1, w2⟩, w3⟩ := ho
          have h6 := zML_ok w hw
          rw [w1, w2, w3] at h6
          obtain ⟨m1, m2, m3, m4⟩ := z_maxl_ok x hx2
          obtain ⟨u1, u2, u3, u4⟩ := zMW_ok x (by omega) (by unfold zlaw; omega)
          obtain ⟨v1, v2, v3⟩ := zMD_ok x (by omega)
          rw [if_neg (by omega)] at m2 u2
          have hM := met hx2 (by omega) hrv
          have hz2 : ¬ z < 2 := by omega
          unfold z_rcv at hrc
          rw [if_neg hz2] at hrc
          split at hrc
          · rename_i k as'
            have hrn : zret x = none := by unfold zret; rw [if_pos hv0]
            have cwb := callB_of (args := args) (index := ix) (own := zcls (zkind mi)) (ret := none) (zmn x).2.2.2 hts (z_goodin hx2) (by unfold zws; rw [hrn]) rfl rfl (hts _ (zgw_in (List.mem_of_getElem? u1) rfl)) (hts _ (zgw_in (List.mem_of_getElem? h6) rfl)) ⟨v1, v2, v3⟩ (hR hx2)
            have run := va_runI (l := l) (e := e) (below := below) (meth := meth) (H := H) (locs := locs) (cells := h.1.length - n0) (slots := z_sz h.1 - s0) (As := as'.map (z_va g)) (rest := (st.drop y).map (z_va g)) (b := g.1 + k) (g := F0 m pc la ((((.inr (k + 4) :: as' : List Zv)).map (z_va g)).reverse ++ (st.drop y).map (z_va g))) fix hM ⟨cwb, u4.mp hk1, hts _ (zgw_in (List.mem_of_getElem? u2) rfl)⟩
              ⟨z_blind g D A3 L xs _ h, hpc⟩ rfl (by simp only [List.length_map, List.length_cons] at hasl ⊢; omega) hla.1 (by simp [z_va, z_ad]) (by show 2 * 0 + _ ≤ 8; omega) hd hf
            exact z_after run rfl rfl hm1.1 hm1.2 (by omega) hS hla hlen hvs.1 hrr hn0 hs0 K
          · cases hrc
end ZM
