def zNW : Cond := Cond.methodLinkNest (zcls 9) 54 (zy 133) (zcls (zkind 133))
def z_env (g : Nat × Nat × Nat × Nat) (D : va_G) (A3 : Nat × Nat × Nat) (L : Nat) (xs : Nat → Int32) (U : State) (H : Heap) : Prop :=
  va_K D zclasses [(A3.1, .int), (A3.2.1, .boolean), (A3.2.2, .object (zcls 5))] U ∧ z_ext g L xs U H ∧ va_AO (zcls 5) U ∧ va_Nw zNW U
def z_cx (g : Nat × Nat × Nat × Nat) (D : va_G) (A3 : Nat × Nat × Nat) (L : Nat) (xs : Nat → Int32) (mi : Nat) (p : Program) (s : State) (m : MethodId) (args : Array Value) (meth : Method) (c : Code) : Prop :=
  p.tables.exec = Jvm.exec ∧ c.code = zbytes mi ∧ c.maxLocals = zmaxl mi ∧ s.vm.findClass (zcls (zkind mi)) = some m.cls ∧ (∀ w ∈ zgw, w.before args s = true) ∧ ((zmw mi).1 = 2 → meth.name = "<init>") ∧ z_env g D A3 L xs s s.heap
section ZS
variable {p : Program} {l : Launch} {e : Env} {R : Room} {s : State} {m : MethodId} {args : Array Value} {below : List Frame} {meth : Method} {c : Code} {Q : State → Prop}
variable {g : Nat × Nat × Nat × Nat} {D : va_G} {A3 : Nat × Nat × Nat} {L : Nat} {xs : Nat → Int32} {mi n0 s0 : Nat}
def z_W (p : Program) (l : Launch) (e : Env) (R : Room) (s : State) (m : MethodId) (args : Array Value) (below : List Frame) (meth : Method) (c : Code) (Q : State → Prop) (g : Nat × Nat × Nat × Nat) (D : va_G) (A3 : Nat × Nat × Nat) (L : Nat) (xs : Nat → Int32) (mi n0 s0 : Nat) (pc : Nat) (ls : Zl) (st : List Zv) (h : Zh) : Prop :=
  ∀ (H : Heap) (locs : List Loc) (la : Array Slot), z_rel g D A3 L xs h H → va_S (fun q => g.1 ≤ q) s.heap H locs → lv_has la (zmaxl mi) (z_lv g ls) → ls.length = zmaxl mi → z_vs ls st → n0 ≤ h.1.length → s0 ≤ z_sz h.1 →
    W p l e R s m args below meth c H locs (h.1.length - n0) (z_sz h.1 - s0) Q (F0 m pc la (st.map (z_va g)))
theorem z_ifnT {P A B G : Prop} (row : (¬ P → A) → (P → B) → G) (h : ¬ P) (k : A) : G := row (fun _ => k) (fun q => absurd q h)
theorem z_ifnF {P A B G : Prop} (row : (¬ P → A) → (P → B) → G) (h : P) (k : B) : G := row (fun q => absurd h q) (fun _ => k)
theorem z_ifT {P A B G : Prop} (row : (P → A) → (¬ P → B) → G) (h : P) (k : A) : G := row (fun _ => k) (fun q => absurd h q)
theorem z_ifF {P A B G : Prop} (row : (P → A) → (¬ P → B) → G) (h : ¬ P) (k : B) : G := row (fun q => absurd q h) (fun _ => k)
theorem z_s_iconst (C : z_cx g D A3 L xs mi p s m args meth c) {n : Int} {len x y z pc : Nat} {ls : Zl} {st : List Zv} {h : Zh} {q : Zc} (hd : decode (zbytes mi) pc = .ok (.iconst n, len)) (ho : z_ok mi pc (.iconst n, len, x, y, z) = true) (hn : z_n (.iconst n, len, x, y, z) pc ls st h = some q)
    (kk : z_W p l e R s m args below meth c Q g D A3 L xs mi n0 s0 q.1 q.2.1 q.2.2.1 q.2.2.2) : z_W p l e R s m args below meth c Q g D A3 L xs mi n0 s0 pc ls st h := by
  obtain ⟨hx, hb, hml, hown, hts, hin, hK, hE, hAO, hNw⟩ := C
  cases hn
  have ho2 : len = 1 ∧ -32768 ≤ n ∧ n ≤ 32767 := by simpa [z_ok] using ho
  obtain ⟨rfl, h1, h2⟩ := ho2
  intro H locs la hrel hS hla hlen hvs hn0 hs0
  refine lv_iconst hx hb hd rfl ?_
  exact kk H locs la hrel hS hla hlen ⟨hvs.1, List.forall_mem_cons.mpr ⟨show z_rng n by unfold z_rng; omega, hvs.2⟩⟩ hn0 hs0
theorem z_s_bipush (C : z_cx g D A3 L xs mi p s m args meth c) {n : Int} {len x y z pc : Nat} {ls : Zl} {st : List Zv} {h : Zh} {q : Zc} (hd : decode (zbytes mi) pc = .ok (.bipush n, len)) (ho : z_ok mi pc (.bipush n, len, x, y, z) = true) (hn : z_n (.bipush n, len, x, y, z) pc ls st h = some q)
    (kk : z_W p l e R s m args below meth c Q g D A3 L xs mi n0 s0 q.1 q.2.1 q.2.2.1 q.2.2.2) : z_W p l e R s m args below meth c Q g D A3 L xs mi n0 s0 pc ls st h := by
  obtain ⟨hx, hb, hml, hown, hts, hin, hK, hE, hAO, hNw⟩ := C
  cases hn
  have ho2 : len = 2 ∧ -128 ≤ n ∧ n ≤ 127 := by simpa [z_ok] using ho
  obtain ⟨rfl, h1, h2⟩ := ho2
  intro H locs la hrel hS hla hlen hvs hn0 hs0
  refine lv_bipush hx hb hd (Int8.toInt32_ofInt h1 h2) ?_
  exact kk H locs la hrel hS hla hlen ⟨hvs.1, List.forall_mem_cons.mpr ⟨show z_rng n by unfold z_rng; omega, hvs.2⟩⟩ hn0 hs0
theorem z_s_sipush (C : z_cx g D A3 L xs mi p s m args meth c) {n : Int} {len x y z pc : Nat} {ls : Zl} {st : List Zv} {h : Zh} {q : Zc} (hd : decode (zbytes mi) pc = .ok (.sipush n, len)) (ho : z_ok mi pc (.sipush n, len, x, y, z) = true) (hn : z_n (.sipush n, len, x, y, z) pc ls st h = some q)
    (kk : z_W p l e R s m args below meth c Q g D A3 L xs mi n0 s0 q.1 q.2.1 q.2.2.1 q.2.2.2) : z_W p l e R s m args below meth c Q g D A3 L xs mi n0 s0 pc ls st h := by
  obtain ⟨hx, hb, hml, hown, hts, hin, hK, hE, hAO, hNw⟩ := C
  cases hn
  have ho2 : len = 3 ∧ -32768 ≤ n ∧ n ≤ 32767 := by simpa [z_ok] using ho
  obtain ⟨rfl, h1, h2⟩ := ho2
  intro H locs la hrel hS hla hlen hvs hn0 hs0
  refine lv_sipush hx hb hd (Int16.toInt32_ofInt h1 h2) ?_
  exact kk H locs la hrel hS hla hlen ⟨hvs.1, List.forall_mem_cons.mpr ⟨show z_rng n by unfold z_rng; omega, hvs.2⟩⟩ hn0 hs0
theorem z_s_ldc_w (C : z_cx g D A3 L xs mi p s m args meth c) {i : Nat} {len x y z pc : Nat} {ls : Zl} {st : List Zv} {h : Zh} {q : Zc} (hd : decode (zbytes mi) pc = .ok (.ldc_w i, len)) (ho : z_ok mi pc (.ldc_w i, len, x, y, z) = true) (hn : z_n (.ldc_w i, len, x, y, z) pc ls st h = some q)
    (kk : z_W p l e R s m args below meth c Q g D A3 L xs mi n0 s0 q.1 q.2.1 q.2.2.1 q.2.2.2) : z_W p l e R s m args below meth c Q g D A3 L xs mi n0 s0 pc ls st h := by
  obtain ⟨hx, hb, hml, hown, hts, hin, hK, hE, hAO, hNw⟩ := C
  cases hn
  simp only [z_ok, Bool.and_eq_true, beq_iff_eq, decide_eq_true_eq, List.any_eq_true] at ho
  obtain ⟨⟨rfl, h1⟩, w, hw, ⟨h2, h3⟩, h4⟩ := ho
  have h5 := zCN_ok w hw
  rw [h2, h3, h4] at h5
  intro H locs la hrel hS hla hlen hvs hn0 hs0
  refine lv_ldcw hx hb hown (hts _ (zgw_in (List.mem_of_getElem? h5) rfl)) hd ?_
  exact kk H locs la hrel hS hla hlen ⟨hvs.1, List.forall_mem_cons.mpr ⟨show z_rng (x : Int) by unfold z_rng; omega, hvs.2⟩⟩ hn0 hs0
theorem z_s_iload_n (C : z_cx g D A3 L xs mi p s m args meth c) {i : Fin 4} {len x y z pc : Nat} {ls : Zl} {st : List Zv} {h : Zh} {q : Zc} (hd : decode (zbytes mi) pc = .ok (.iload_n i, len)) (ho : z_ok mi pc (.iload_n i, len, x, y, z) = true) (hn : z_n (.iload_n i, len, x, y, z) pc ls st h = some q)
    (kk : z_W p l e R s m args below meth c Q g D A3 L xs mi n0 s0 q.1 q.2.1 q.2.2.1 q.2.2.2) : z_W p l e R s m args below meth c Q g D A3 L xs mi n0 s0 pc ls st h := by
  obtain ⟨hx, hb, hml, hown, hts, hin, hK, hE, hAO, hNw⟩ := C
  simp only [z_n, z_st] at hn
  split at hn
  · rename_i v hi
    cases hn
    have hl : len = 1 := by simpa [z_ok] using ho
    subst hl
    intro H locs la hrel hS hla hlen hvs hn0 hs0
    refine lv_iload_n hx hb hd rfl (z_lv_at hla hi) ?_
    exact kk H locs la hrel hS hla hlen ⟨hvs.1, List.forall_mem_cons.mpr ⟨hvs.1 _ _ hi, hvs.2⟩⟩ hn0 hs0
  · cases hn
theorem z_s_iload (C : z_cx g D A3 L xs mi p s m args meth c) {i : Nat} {len x y z pc : Nat} {ls : Zl} {st : List Zv} {h : Zh} {q : Zc} (hd : decode (zbytes mi) pc = .ok (.iload i, len)) (ho : z_ok mi pc (.iload i, len, x, y, z) = true) (hn : z_n (.iload i, len, x, y, z) pc ls st h = some q)
    (kk : z_W p l e R s m args below meth c Q g D A3 L xs mi n0 s0 q.1 q.2.1 q.2.2.1 q.2.2.2) : z_W p l e R s m args below meth c Q g D A3 L xs mi n0 s0 pc ls st h := by
  obtain ⟨hx, hb, hml, hown, hts, hin, hK, hE, hAO, hNw⟩ := C
  simp only [z_n, z_st] at hn
  split at hn
  · rename_i v hi
    cases hn
    have hl : len = 2 := by simpa [z_ok] using ho
    subst hl
    intro H locs la hrel hS hla hlen hvs hn0 hs0
    refine lv_iload hx hb hd (z_lv_at hla hi) ?_
    exact kk H locs la hrel hS hla hlen ⟨hvs.1, List.forall_mem_cons.mpr ⟨hvs.1 _ _ hi, hvs.2⟩⟩ hn0 hs0
  · cases hn
theorem z_s_aload_n (C : z_cx g D A3 L xs mi p s m args meth c) {i : Fin 4} {len x y z pc : Nat} {ls : Zl} {st : List Zv} {h : Zh} {q : Zc} (hd : decode (zbytes mi) pc = .ok (.aload_n i, len)) (ho : z_ok mi pc (.aload_n i, len, x, y, z) = true) (hn : z_n (.aload_n i, len, x, y, z) pc ls st h = some q)
    (kk : z_W p l e R s m args below meth c Q g D A3 L xs mi n0 s0 q.1 q.2.1 q.2.2.1 q.2.2.2) : z_W p l e R s m args below meth c Q g D A3 L xs mi n0 s0 pc ls st h := by
  obtain ⟨hx, hb, hml, hown, hts, hin, hK, hE, hAO, hNw⟩ := C
  simp only [z_n, z_st] at hn
  split at hn
  · rename_i v hi
    cases hn
    have hl : len = 1 := by simpa [z_ok] using ho
    subst hl
    intro H locs la hrel hS hla hlen hvs hn0 hs0
    refine lv_aload_n hx hb hd rfl (z_lv_at hla hi) ?_
    exact kk H locs la hrel hS hla hlen ⟨hvs.1, List.forall_mem_cons.mpr ⟨hvs.1 _ _ hi, hvs.2⟩⟩ hn0 hs0
  · cases hn
theorem z_s_aload (C : z_cx g D A3 L xs mi p s m args meth c) {i : Nat} {len x y z pc : Nat} {ls : Zl} {st : List Zv} {h : Zh} {q : Zc} (hd : decode (zbytes mi) pc = .ok (.aload i, len)) (ho : z_ok mi pc (.aload i, len, x, y, z) = true) (hn : z_n (.aload i, len, x, y, z) pc ls st h = some q)
    (kk : z_W p l e R s m args below meth c Q g D A3 L xs mi n0 s0 q.1 q.2.1 q.2.2.1 q.2.2.2) : z_W p l e R s m args below meth c Q g D A3 L xs mi n0 s0 pc ls st h := by
  obtain ⟨hx, hb, hml, hown, hts, hin, hK, hE, hAO, hNw⟩ := C
  simp only [z_n, z_st] at hn
  split at hn
  · rename_i v hi
    cases hn
    have hl : len = 2 := by simpa [z_ok] using ho
    subst hl
    intro H locs la hrel hS hla hlen hvs hn0 hs0
    refine lv_aload hx hb hd (z_lv_at hla hi) ?_
    exact kk H locs la hrel hS hla hlen ⟨hvs.1, List.forall_mem_cons.mpr ⟨hvs.1 _ _ hi, hvs.2⟩⟩ hn0 hs0
  · cases hn
theorem z_s_istore_n (C : z_cx g D A3 L xs mi p s m args meth c) {i : Fin 4} {len x y z pc : Nat} {ls : Zl} {st : List Zv} {h : Zh} {q : Zc} (hd : decode (zbytes mi) pc = .ok (.istore_n i, len)) (ho : z_ok mi pc (.istore_n i, len, x, y, z) = true) (hn : z_n (.istore_n i, len, x, y, z) pc ls st h = some q)
    (kk : z_W p l e R s m args below meth c Q g D A3 L xs mi n0 s0 q.1 q.2.1 q.2.2.1 q.2.2.2) : z_W p l e R s m args below meth c Q g D A3 L xs mi n0 s0 pc ls st h := by
  obtain ⟨hx, hb, hml, hown, hts, hin, hK, hE, hAO, hNw⟩ := C
  simp only [z_n, z_st] at hn
  split at hn
  · rename_i v r
    cases hn
    have ho2 : len = 1 ∧ i.val < zmaxl mi := by simpa [z_ok] using ho
    obtain ⟨rfl, h2⟩ := ho2
    intro H locs la hrel hS hla hlen hvs hn0 hs0
    have hv := List.forall_mem_cons.mp hvs.2
    refine lv_istore_n hx hb hd rfl hla h2 rfl (fun la2 hla2 => ?_)
    exact kk H locs la2 hrel hS (z_lv_weak hla2 (z_lv_set (.inl v) (by rw [hlen]; exact h2))) (by rw [List.length_set]; exact hlen) (z_vs_set ⟨hvs.1, hv.2⟩ hv.1) hn0 hs0
  · cases hn
theorem z_s_istore (C : z_cx g D A3 L xs mi p s m args meth c) {i : Nat} {len x y z pc : Nat} {ls : Zl} {st : List Zv} {h : Zh} {q : Zc} (hd : decode (zbytes mi) pc = .ok (.istore i, len)) (ho : z_ok mi pc (.istore i, len, x, y, z) = true) (hn : z_n (.istore i, len, x, y, z) pc ls st h = some q)
    (kk : z_W p l e R s m args below meth c Q g D A3 L xs mi n0 s0 q.1 q.2.1 q.2.2.1 q.2.2.2) : z_W p l e R s m args below meth c Q g D A3 L xs mi n0 s0 pc ls st h := by
  obtain ⟨hx, hb, hml, hown, hts, hin, hK, hE, hAO, hNw⟩ := C
  simp only [z_n, z_st] at hn
  split at hn
  · rename_i v r
    cases hn
    have ho2 : len = 2 ∧ i < zmaxl mi := by simpa [z_ok] using ho
    obtain ⟨rfl, h2⟩ := ho2
    intro H locs la hrel hS hla hlen hvs hn0 hs0
    have hv := List.forall_mem_cons.mp hvs.2
    refine lv_istore hx hb hd hla h2 rfl (fun la2 hla2 => ?_)
    exact kk H locs la2 hrel hS (z_lv_weak hla2 (z_lv_set (.inl v) (by rw [hlen]; exact h2))) (by rw [List.length_set]; exact hlen) (z_vs_set ⟨hvs.1, hv.2⟩ hv.1) hn0 hs0
  · cases hn
theorem z_s_astore_n (C : z_cx g D A3 L xs mi p s m args meth c) {i : Fin 4} {len x y z pc : Nat} {ls : Zl} {st : List Zv} {h : Zh} {q : Zc} (hd : decode (zbytes mi) pc = .ok (.astore_n i, len)) (ho : z_ok mi pc (.astore_n i, len, x, y, z) = true) (hn : z_n (.astore_n i, len, x, y, z) pc ls st h = some q)
    (kk : z_W p l e R s m args below meth c Q g D A3 L xs mi n0 s0 q.1 q.2.1 q.2.2.1 q.2.2.2) : z_W p l e R s m args below meth c Q g D A3 L xs mi n0 s0 pc ls st h := by
  obtain ⟨hx, hb, hml, hown, hts, hin, hK, hE, hAO, hNw⟩ := C
  simp only [z_n, z_st] at hn
  split at hn
  · rename_i v r
    cases hn
    have ho2 : len = 1 ∧ i.val < zmaxl mi := by simpa [z_ok] using ho
    obtain ⟨rfl, h2⟩ := ho2
    intro H locs la hrel hS hla hlen hvs hn0 hs0
    have hv := List.forall_mem_cons.mp hvs.2
    refine lv_astore_n hx hb hd rfl hla h2 rfl (fun la2 hla2 => ?_)
    exact kk H locs la2 hrel hS (z_lv_weak hla2 (z_lv_set (.inr (v + 1)) (by rw [hlen]; exact h2))) (by rw [List.length_set]; exact hlen) (z_vs_set ⟨hvs.1, hv.2⟩ hv.1) hn0 hs0
  · cases hn
theorem z_s_astore (C : z_cx g D A3 L xs mi p s m args meth c) {i : Nat} {len x y z pc : Nat} {ls : Zl} {st : List Zv} {h : Zh} {q : Zc} (hd : decode (zbytes mi) pc = .ok (.astore i, len)) (ho : z_ok mi pc (.astore i, len, x, y, z) = true) (hn : z_n (.astore i, len, x, y, z) pc ls st h = some q)
    (kk : z_W p l e R s m args below meth c Q g D A3 L xs mi n0 s0 q.1 q.2.1 q.2.2.1 q.2.2.2) : z_W p l e R s m args below meth c Q g D A3 L xs mi n0 s0 pc ls st h := by
  obtain ⟨hx, hb, hml, hown, hts, hin, hK, hE, hAO, hNw⟩ := C
  simp only [z_n, z_st] at hn
  split at hn
  · rename_i v r
    cases hn
    have ho2 : len = 2 ∧ i < zmaxl mi := by simpa [z_ok] using ho
    obtain ⟨rfl, h2⟩ := ho2
    intro H locs la hrel hS hla hlen hvs hn0 hs0
    have hv := List.forall_mem_cons.mp hvs.2
    refine lv_astore hx hb hd hla h2 rfl (fun la2 hla2 => ?_)
    exact kk H locs la2 hrel hS (z_lv_weak hla2 (z_lv_set (.inr (v + 1)) (by rw [hlen]; exact h2))) (by rw [List.length_set]; exact hlen) (z_vs_set ⟨hvs.1, hv.2⟩ hv.1) hn0 hs0
  · cases hn
theorem z_s_iinc (C : z_cx g D A3 L xs mi p s m args meth c) {i : Nat} {n : Int} {len x y z pc : Nat} {ls : Zl} {st : List Zv} {h : Zh} {q : Zc} (hd : decode (zbytes mi) pc = .ok (.iinc i n, len)) (ho : z_ok mi pc (.iinc i n, len, x, y, z) = true) (hn : z_n (.iinc i n, len, x, y, z) pc ls st h = some q)
    (kk : z_W p l e R s m args below meth c Q g D A3 L xs mi n0 s0 q.1 q.2.1 q.2.2.1 q.2.2.2) : z_W p l e R s m args below meth c Q g D A3 L xs mi n0 s0 pc ls st h := by
  obtain ⟨hx, hb, hml, hown, hts, hin, hK, hE, hAO, hNw⟩ := C
  simp only [z_n, z_st] at hn
  split at hn
  · rename_i v hi
    cases hn
    have ho2 : (len = 3 ∧ i < zmaxl mi) ∧ -32768 ≤ n ∧ n ≤ 32767 := by simpa [z_ok] using ho
    obtain ⟨⟨rfl, h2⟩, h3, h4⟩ := ho2
    intro H locs la hrel hS hla hlen hvs hn0 hs0
    obtain ⟨k, hk⟩ := List.getElem?_of_mem (z_lv_mem (g := g).mpr ⟨.inl v, hi, rfl⟩)
    refine lv_iinc hx hb hd hla hk (z_oadd v n).symm h2 rfl (fun la2 hla2 => ?_)
    exact kk H locs la2 hrel hS (z_lv_weak hla2 (z_lv_set (.inl (z_wrap (v + n))) (by rw [hlen]; exact h2))) (by rw [List.length_set]; exact hlen) (z_vs_set hvs (z_wrap_rng _)) hn0 hs0
  · cases hn
theorem z_s_iadd (C : z_cx g D A3 L xs mi p s m args meth c) {len x y z pc : Nat} {ls : Zl} {st : List Zv} {h : Zh} {q : Zc} (hd : decode (zbytes mi) pc = .ok (.iadd, len)) (ho : z_ok mi pc (.iadd, len, x, y, z) = true) (hn : z_n (.iadd, len, x, y, z) pc ls st h = some q)
    (kk : z_W p l e R s m args below meth c Q g D A3 L xs mi n0 s0 q.1 q.2.1 q.2.2.1 q.2.2.2) : z_W p l e R s m args below meth c Q g D A3 L xs mi n0 s0 pc ls st h := by
  obtain ⟨hx, hb, hml, hown, hts, hin, hK, hE, hAO, hNw⟩ := C
  simp only [z_n, z_st] at hn
  split at hn
  · rename_i y x r
    cases hn
    have hl : len = 1 := by simpa [z_ok] using ho
    subst hl
    intro H locs la hrel hS hla hlen hvs hn0 hs0
    have hv := List.forall_mem_cons.mp hvs.2
    have hv2 := List.forall_mem_cons.mp hv.2
    refine lv_iadd hx hb hd ?_
    rw [← z_oadd]
    exact kk H locs la hrel hS hla hlen ⟨hvs.1, List.forall_mem_cons.mpr ⟨z_wrap_rng _, hv2.2⟩⟩ hn0 hs0
  · cases hn
theorem z_s_isub (C : z_cx g D A3 L xs mi p s m args meth c) {len x y z pc : Nat} {ls : Zl} {st : List Zv} {h : Zh} {q : Zc} (hd : decode (zbytes mi) pc = .ok (.isub, len)) (ho : z_ok mi pc (.isub, len, x, y, z) = true) (hn : z_n (.isub, len, x, y, z) pc ls st h = some q)
    (kk : z_W p l e R s m args below meth c Q g D A3 L xs mi n0 s0 q.1 q.2.1 q.2.2.1 q.2.2.2) : z_W p l e R s m args below meth c Q g D A3 L xs mi n0 s0 pc ls st h := by
  obtain ⟨hx, hb, hml, hown, hts, hin, hK, hE, hAO, hNw⟩ := C
  simp only [z_n, z_st] at hn
  split at hn
  · rename_i y x r
    cases hn
    have hl : len = 1 := by simpa [z_ok] using ho
    subst hl
    intro H locs la hrel hS hla hlen hvs hn0 hs0
    have hv := List.forall_mem_cons.mp hvs.2
    have hv2 := List.forall_mem_cons.mp hv.2
    refine lv_isub hx hb hd ?_
    rw [← z_osub]
    exact kk H locs la hrel hS hla hlen ⟨hvs.1, List.forall_mem_cons.mpr ⟨z_wrap_rng _, hv2.2⟩⟩ hn0 hs0
  · cases hn
theorem z_s_imul (C : z_cx g D A3 L xs mi p s m args meth c) {len x y z pc : Nat} {ls : Zl} {st : List Zv} {h : Zh} {q : Zc} (hd : decode (zbytes mi) pc = .ok (.imul, len)) (ho : z_ok mi pc (.imul, len, x, y, z) = true) (hn : z_n (.imul, len, x, y, z) pc ls st h = some q)
    (kk : z_W p l e R s m args below meth c Q g D A3 L xs mi n0 s0 q.1 q.2.1 q.2.2.1 q.2.2.2) : z_W p l e R s m args below meth c Q g D A3 L xs mi n0 s0 pc ls st h := by
  obtain ⟨hx, hb, hml, hown, hts, hin, hK, hE, hAO, hNw⟩ := C
  simp only [z_n, z_st] at hn
  split at hn
  · rename_i y x r
    cases hn
    have hl : len = 1 := by simpa [z_ok] using ho
    subst hl
    intro H locs la hrel hS hla hlen hvs hn0 hs0
    have hv := List.forall_mem_cons.mp hvs.2
    have hv2 := List.forall_mem_cons.mp hv.2
    refine lv_imul hx hb hd ?_
    rw [← z_omul]
    exact kk H locs la hrel hS hla hlen ⟨hvs.1, List.forall_mem_cons.mpr ⟨z_wrap_rng _, hv2.2⟩⟩ hn0 hs0
  · cases hn
theorem z_s_iand (C : z_cx g D A3 L xs mi p s m args meth c) {len x y z pc : Nat} {ls : Zl} {st : List Zv} {h : Zh} {q : Zc} (hd : decode (zbytes mi) pc = .ok (.iand, len)) (ho : z_ok mi pc (.iand, len, x, y, z) = true) (hn : z_n (.iand, len, x, y, z) pc ls st h = some q)
    (kk : z_W p l e R s m args below meth c Q g D A3 L xs mi n0 s0 q.1 q.2.1 q.2.2.1 q.2.2.2) : z_W p l e R s m args below meth c Q g D A3 L xs mi n0 s0 pc ls st h := by
  obtain ⟨hx, hb, hml, hown, hts, hin, hK, hE, hAO, hNw⟩ := C
  simp only [z_n, z_st] at hn
  split at hn
  · rename_i y x r
    cases hn
    have hl : len = 1 := by simpa [z_ok] using ho
    subst hl
    intro H locs la hrel hS hla hlen hvs hn0 hs0
    have hv := List.forall_mem_cons.mp hvs.2
    have hv2 := List.forall_mem_cons.mp hv.2
    refine lv_iand hx hb hd ?_
    rw [← Int32.ofInt_toInt (_ &&& _)]
    exact kk H locs la hrel hS hla hlen ⟨hvs.1, List.forall_mem_cons.mpr ⟨z_rt _, hv2.2⟩⟩ hn0 hs0
  · cases hn
theorem z_s_ior (C : z_cx g D A3 L xs mi p s m args meth c) {len x y z pc : Nat} {ls : Zl} {st : List Zv} {h : Zh} {q : Zc} (hd : decode (zbytes mi) pc = .ok (.ior, len)) (ho : z_ok mi pc (.ior, len, x, y, z) = true) (hn : z_n (.ior, len, x, y, z) pc ls st h = some q)
    (kk : z_W p l e R s m args below meth c Q g D A3 L xs mi n0 s0 q.1 q.2.1 q.2.2.1 q.2.2.2) : z_W p l e R s m args below meth c Q g D A3 L xs mi n0 s0 pc ls st h := by
  obtain ⟨hx, hb, hml, hown, hts, hin, hK, hE, hAO, hNw⟩ := C
  simp only [z_n, z_st] at hn
  split at hn
  · rename_i y x r
    cases hn
    have hl : len = 1 := by simpa [z_ok] using ho
    subst hl
    intro H locs la hrel hS hla hlen hvs hn0 hs0
    have hv := List.forall_mem_cons.mp hvs.2
    have hv2 := List.forall_mem_cons.mp hv.2
    refine lv_ior hx hb hd ?_
    rw [← Int32.ofInt_toInt (_ ||| _)]
    exact kk H locs la hrel hS hla hlen ⟨hvs.1, List.forall_mem_cons.mpr ⟨z_rt _, hv2.2⟩⟩ hn0 hs0
  · cases hn
theorem z_s_ixor (C : z_cx g D A3 L xs mi p s m args meth c) {len x y z pc : Nat} {ls : Zl} {st : List Zv} {h : Zh} {q : Zc} (hd : decode (zbytes mi) pc = .ok (.ixor, len)) (ho : z_ok mi pc (.ixor, len, x, y, z) = true) (hn : z_n (.ixor, len, x, y, z) pc ls st h = some q)
    (kk : z_W p l e R s m args below meth c Q g D A3 L xs mi n0 s0 q.1 q.2.1 q.2.2.1 q.2.2.2) : z_W p l e R s m args below meth c Q g D A3 L xs mi n0 s0 pc ls st h := by
  obtain ⟨hx, hb, hml, hown, hts, hin, hK, hE, hAO, hNw⟩ := C
  simp only [z_n, z_st] at hn
  split at hn
  · rename_i y x r
    cases hn
    have hl : len = 1 := by simpa [z_ok] using ho
    subst hl
    intro H locs la hrel hS hla hlen hvs hn0 hs0
    have hv := List.forall_mem_cons.mp hvs.2
    have hv2 := List.forall_mem_cons.mp hv.2
    refine lv_ixor hx hb hd ?_
    rw [← Int32.ofInt_toInt (_ ^^^ _)]
    exact kk H locs la hrel hS hla hlen ⟨hvs.1, List.forall_mem_cons.mpr ⟨z_rt _, hv2.2⟩⟩ hn0 hs0
  · cases hn
theorem z_s_ishl (C : z_cx g D A3 L xs mi p s m args meth c) {len x y z pc : Nat} {ls : Zl} {st : List Zv} {h : Zh} {q : Zc} (hd : decode (zbytes mi) pc = .ok (.ishl, len)) (ho : z_ok mi pc (.ishl, len, x, y, z) = true) (hn : z_n (.ishl, len, x, y, z) pc ls st h = some q)
    (kk : z_W p l e R s m args below meth c Q g D A3 L xs mi n0 s0 q.1 q.2.1 q.2.2.1 q.2.2.2) : z_W p l e R s m args below meth c Q g D A3 L xs mi n0 s0 pc ls st h := by
  obtain ⟨hx, hb, hml, hown, hts, hin, hK, hE, hAO, hNw⟩ := C
  simp only [z_n, z_st] at hn
  split at hn
  · rename_i y x r
    cases hn
    have hl : len = 1 := by simpa [z_ok] using ho
    subst hl
    intro H locs la hrel hS hla hlen hvs hn0 hs0
    have hv := List.forall_mem_cons.mp hvs.2
    have hv2 := List.forall_mem_cons.mp hv.2
    refine lv_ishl hx hb hd ?_
    rw [← Int32.ofInt_toInt (_ <<< _)]
    exact kk H locs la hrel hS hla hlen ⟨hvs.1, List.forall_mem_cons.mpr ⟨z_rt _, hv2.2⟩⟩ hn0 hs0
  · cases hn
theorem z_s_ishr (C : z_cx g D A3 L xs mi p s m args meth c) {len x y z pc : Nat} {ls : Zl} {st : List Zv} {h : Zh} {q : Zc} (hd : decode (zbytes mi) pc = .ok (.ishr, len)) (ho : z_ok mi pc (.ishr, len, x, y, z) = true) (hn : z_n (.ishr, len, x, y, z) pc ls st h = some q)
    (kk : z_W p l e R s m args below meth c Q g D A3 L xs mi n0 s0 q.1 q.2.1 q.2.2.1 q.2.2.2) : z_W p l e R s m args below meth c Q g D A3 L xs mi n0 s0 pc ls st h := by
  obtain ⟨hx, hb, hml, hown, hts, hin, hK, hE, hAO, hNw⟩ := C
  simp only [z_n, z_st] at hn
  split at hn
  · rename_i y x r
    cases hn
    have hl : len = 1 := by simpa [z_ok] using ho
    subst hl
    intro H locs la hrel hS hla hlen hvs hn0 hs0
    have hv := List.forall_mem_cons.mp hvs.2
    have hv2 := List.forall_mem_cons.mp hv.2
    refine lv_ishr hx hb hd ?_
    rw [← Int32.ofInt_toInt (_ >>> _)]
    exact kk H locs la hrel hS hla hlen ⟨hvs.1, List.forall_mem_cons.mpr ⟨z_rt _, hv2.2⟩⟩ hn0 hs0
  · cases hn
theorem z_s_iushr (C : z_cx g D A3 L xs mi p s m args meth c) {len x y z pc : Nat} {ls : Zl} {st : List Zv} {h : Zh} {q : Zc} (hd : decode (zbytes mi) pc = .ok (.iushr, len)) (ho : z_ok mi pc (.iushr, len, x, y, z) = true) (hn : z_n (.iushr, len, x, y, z) pc ls st h = some q)
    (kk : z_W p l e R s m args below meth c Q g D A3 L xs mi n0 s0 q.1 q.2.1 q.2.2.1 q.2.2.2) : z_W p l e R s m args below meth c Q g D A3 L xs mi n0 s0 pc ls st h := by
  obtain ⟨hx, hb, hml, hown, hts, hin, hK, hE, hAO, hNw⟩ := C
  simp only [z_n, z_st] at hn
  split at hn
  · rename_i y x r
    cases hn
    have hl : len = 1 := by simpa [z_ok] using ho
    subst hl
    intro H locs la hrel hS hla hlen hvs hn0 hs0
    have hv := List.forall_mem_cons.mp hvs.2
    have hv2 := List.forall_mem_cons.mp hv.2
    refine lv_iushr hx hb hd rfl ?_
    rw [← Int32.ofInt_toInt (UInt32.toInt32 _)]
    exact kk H locs la hrel hS hla hlen ⟨hvs.1, List.forall_mem_cons.mpr ⟨z_rt _, hv2.2⟩⟩ hn0 hs0
  · cases hn
theorem z_s_idiv (C : z_cx g D A3 L xs mi p s m args meth c) {len x y z pc : Nat} {ls : Zl} {st : List Zv} {h : Zh} {q : Zc} (hd : decode (zbytes mi) pc = .ok (.idiv, len)) (ho : z_ok mi pc (.idiv, len, x, y, z) = true) (hn : z_n (.idiv, len, x, y, z) pc ls st h = some q)
    (kk : z_W p l e R s m args below meth c Q g D A3 L xs mi n0 s0 q.1 q.2.1 q.2.2.1 q.2.2.2) : z_W p l e R s m args below meth c Q g D A3 L xs mi n0 s0 pc ls st h := by
  obtain ⟨hx, hb, hml, hown, hts, hin, hK, hE, hAO, hNw⟩ := C
  simp only [z_n, z_st] at hn
  split at hn
  · rename_i y x r
    split at hn
    · cases hn
    · rename_i hy
      cases hn
      have hl : len = 1 := by simpa [z_ok] using ho
      subst hl
      intro H locs la hrel hS hla hlen hvs hn0 hs0
      have hv := List.forall_mem_cons.mp hvs.2
      have hv2 := List.forall_mem_cons.mp hv.2
      refine lv_idiv hx hb hd (fun q => hy ((z_eq0 hv.1).mp q)) ?_
      rw [← z_odiv hv2.1 hv.1]
      exact kk H locs la hrel hS hla hlen ⟨hvs.1, List.forall_mem_cons.mpr ⟨z_wrap_rng _, hv2.2⟩⟩ hn0 hs0
  · cases hn
theorem z_s_irem (C : z_cx g D A3 L xs mi p s m args meth c) {len x y z pc : Nat} {ls : Zl} {st : List Zv} {h : Zh} {q : Zc} (hd : decode (zbytes mi) pc = .ok (.irem, len)) (ho : z_ok mi pc (.irem, len, x, y, z) = true) (hn : z_n (.irem, len, x, y, z) pc ls st h = some q)
    (kk : z_W p l e R s m args below meth c Q g D A3 L xs mi n0 s0 q.1 q.2.1 q.2.2.1 q.2.2.2) : z_W p l e R s m args below meth c Q g D A3 L xs mi n0 s0 pc ls st h := by
  obtain ⟨hx, hb, hml, hown, hts, hin, hK, hE, hAO, hNw⟩ := C
  simp only [z_n, z_st] at hn
  split at hn
  · rename_i y x r
    split at hn
    · cases hn
    · rename_i hy
      cases hn
      have hl : len = 1 := by simpa [z_ok] using ho
      subst hl
      intro H locs la hrel hS hla hlen hvs hn0 hs0
      have hv := List.forall_mem_cons.mp hvs.2
      have hv2 := List.forall_mem_cons.mp hv.2
      refine lv_irem hx hb hd (fun q => hy ((z_eq0 hv.1).mp q)) ?_
      rw [← z_omod2 hv2.1 hv.1]
      exact kk H locs la hrel hS hla hlen ⟨hvs.1, List.forall_mem_cons.mpr ⟨z_rmod hv2.1 hv.1, hv2.2⟩⟩ hn0 hs0
  · cases hn
theorem z_s_ineg (C : z_cx g D A3 L xs mi p s m args meth c) {len x y z pc : Nat} {ls : Zl} {st : List Zv} {h : Zh} {q : Zc} (hd : decode (zbytes mi) pc = .ok (.ineg, len)) (ho : z_ok mi pc (.ineg, len, x, y, z) = true) (hn : z_n (.ineg, len, x, y, z) pc ls st h = some q)
    (kk : z_W p l e R s m args below meth c Q g D A3 L xs mi n0 s0 q.1 q.2.1 q.2.2.1 q.2.2.2) : z_W p l e R s m args below meth c Q g D A3 L xs mi n0 s0 pc ls st h := by
  obtain ⟨hx, hb, hml, hown, hts, hin, hK, hE, hAO, hNw⟩ := C
  simp only [z_n, z_st] at hn
  split at hn
  · rename_i x r
    cases hn
    have hl : len = 1 := by simpa [z_ok] using ho
    subst hl
    intro H locs la hrel hS hla hlen hvs hn0 hs0
    have hv := List.forall_mem_cons.mp hvs.2
    refine lv_ineg hx hb hd ?_
    rw [← z_oneg]
    exact kk H locs la hrel hS hla hlen ⟨hvs.1, List.forall_mem_cons.mpr ⟨z_wrap_rng _, hv.2⟩⟩ hn0 hs0
  · cases hn
theorem z_s_i2b (C : z_cx g D A3 L xs mi p s m args meth c) {len x y z pc : Nat} {ls : Zl} {st : List Zv} {h : Zh} {q : Zc} (hd : decode (zbytes mi) pc = .ok (.i2b, len)) (ho : z_ok mi pc (.i2b, len, x, y, z) = true) (hn : z_n (.i2b, len, x, y, z) pc ls st h = some q)
    (kk : z_W p l e R s m args below meth c Q g D A3 L xs mi n0 s0 q.1 q.2.1 q.2.2.1 q.2.2.2) : z_W p l e R s m args below meth c Q g D A3 L xs mi n0 s0 pc ls st h := by
  obtain ⟨hx, hb, hml, hown, hts, hin, hK, hE, hAO, hNw⟩ := C
  simp only [z_n, z_st] at hn
  split at hn
  · rename_i x r
    cases hn
    have hl : len = 1 := by simpa [z_ok] using ho
    subst hl
    intro H locs la hrel hS hla hlen hvs hn0 hs0
    have hv := List.forall_mem_cons.mp hvs.2
    refine lv_i2b hx hb hd (z_i2b x) ?_
    exact kk H locs la hrel hS hla hlen ⟨hvs.1, List.forall_mem_cons.mpr ⟨show z_rng _ by unfold z_rng; omega, hv.2⟩⟩ hn0 hs0
  · cases hn
theorem z_s_dup (C : z_cx g D A3 L xs mi p s m args meth c) {len x y z pc : Nat} {ls : Zl} {st : List Zv} {h : Zh} {q : Zc} (hd : decode (zbytes mi) pc = .ok (.dup, len)) (ho : z_ok mi pc (.dup, len, x, y, z) = true) (hn : z_n (.dup, len, x, y, z) pc ls st h = some q)
    (kk : z_W p l e R s m args below meth c Q g D A3 L xs mi n0 s0 q.1 q.2.1 q.2.2.1 q.2.2.2) : z_W p l e R s m args below meth c Q g D A3 L xs mi n0 s0 pc ls st h := by
  obtain ⟨hx, hb, hml, hown, hts, hin, hK, hE, hAO, hNw⟩ := C
  simp only [z_n, z_st] at hn
  split at hn
  · rename_i a r
    cases hn
    have hl : len = 1 := by simpa [z_ok] using ho
    subst hl
    intro H locs la hrel hS hla hlen hvs hn0 hs0
    have hv := List.forall_mem_cons.mp hvs.2
    refine lv_dup hx hb hd (z_cat g a) ?_
    exact kk H locs la hrel hS hla hlen ⟨hvs.1, List.forall_mem_cons.mpr ⟨hv.1, hvs.2⟩⟩ hn0 hs0
  · cases hn
theorem z_s_dup2 (C : z_cx g D A3 L xs mi p s m args meth c) {len x y z pc : Nat} {ls : Zl} {st : List Zv} {h : Zh} {q : Zc} (hd : decode (zbytes mi) pc = .ok (.dup2, len)) (ho : z_ok mi pc (.dup2, len, x, y, z) = true) (hn : z_n (.dup2, len, x, y, z) pc ls st h = some q)
    (kk : z_W p l e R s m args below meth c Q g D A3 L xs mi n0 s0 q.1 q.2.1 q.2.2.1 q.2.2.2) : z_W p l e R s m args below meth c Q g D A3 L xs mi n0 s0 pc ls st h := by
  obtain ⟨hx, hb, hml, hown, hts, hin, hK, hE, hAO, hNw⟩ := C
  simp only [z_n, z_st] at hn
  split at hn
  · rename_i a b r
    cases hn
    have hl : len = 1 := by simpa [z_ok] using ho
    subst hl
    intro H locs la hrel hS hla hlen hvs hn0 hs0
    have hv := List.forall_mem_cons.mp hvs.2
    have hv2 := List.forall_mem_cons.mp hv.2
    refine lv_dup2_11 hx hb hd (z_cat g a) (z_cat g b) ?_
    exact kk H locs la hrel hS hla hlen ⟨hvs.1, List.forall_mem_cons.mpr ⟨hv.1, List.forall_mem_cons.mpr ⟨hv2.1, hvs.2⟩⟩⟩ hn0 hs0
  · cases hn
theorem z_s_dup_x1 (C : z_cx g D A3 L xs mi p s m args meth c) {len x y z pc : Nat} {ls : Zl} {st : List Zv} {h : Zh} {q : Zc} (hd : decode (zbytes mi) pc = .ok (.dup_x1, len)) (ho : z_ok mi pc (.dup_x1, len, x, y, z) = true) (hn : z_n (.dup_x1, len, x, y, z) pc ls st h = some q)
    (kk : z_W p l e R s m args below meth c Q g D A3 L xs mi n0 s0 q.1 q.2.1 q.2.2.1 q.2.2.2) : z_W p l e R s m args below meth c Q g D A3 L xs mi n0 s0 pc ls st h := by
  obtain ⟨hx, hb, hml, hown, hts, hin, hK, hE, hAO, hNw⟩ := C
  simp only [z_n, z_st] at hn
  split at hn
  · rename_i a b r
    cases hn
    have hl : len = 1 := by simpa [z_ok] using ho
    subst hl
    intro H locs la hrel hS hla hlen hvs hn0 hs0
    have hv := List.forall_mem_cons.mp hvs.2
    have hv2 := List.forall_mem_cons.mp hv.2
    refine lv_dup_x1 hx hb hd (z_cat g a) (z_cat g b) ?_
    exact kk H locs la hrel hS hla hlen ⟨hvs.1, List.forall_mem_cons.mpr ⟨hv.1, List.forall_mem_cons.mpr ⟨hv2.1, List.forall_mem_cons.mpr ⟨hv.1, hv2.2⟩⟩⟩⟩ hn0 hs0
  · cases hn
theorem z_s_dup_x2 (C : z_cx g D A3 L xs mi p s m args meth c) {len x y z pc : Nat} {ls : Zl} {st : List Zv} {h : Zh} {q : Zc} (hd : decode (zbytes mi) pc = .ok (.dup_x2, len)) (ho : z_ok mi pc (.dup_x2, len, x, y, z) = true) (hn : z_n (.dup_x2, len, x, y, z) pc ls st h = some q)
    (kk : z_W p l e R s m args below meth c Q g D A3 L xs mi n0 s0 q.1 q.2.1 q.2.2.1 q.2.2.2) : z_W p l e R s m args below meth c Q g D A3 L xs mi n0 s0 pc ls st h := by
  obtain ⟨hx, hb, hml, hown, hts, hin, hK, hE, hAO, hNw⟩ := C
  simp only [z_n, z_st] at hn
  split at hn
  · rename_i a b d r
    cases hn
    have hl : len = 1 := by simpa [z_ok] using ho
    subst hl
    intro H locs la hrel hS hla hlen hvs hn0 hs0
    have hv := List.forall_mem_cons.mp hvs.2
    have hv2 := List.forall_mem_cons.mp hv.2
    have hv3 := List.forall_mem_cons.mp hv2.2
    refine lv_dup_x2 hx hb hd (z_cat g a) (z_cat g b) (z_cat g d) ?_
    exact kk H locs la hrel hS hla hlen ⟨hvs.1, List.forall_mem_cons.mpr ⟨hv.1, List.forall_mem_cons.mpr ⟨hv2.1, List.forall_mem_cons.mpr ⟨hv3.1, List.forall_mem_cons.mpr ⟨hv.1, hv3.2⟩⟩⟩⟩⟩ hn0 hs0
  · cases hn
theorem z_s_pop (C : z_cx g D A3 L xs mi p s m args meth c) {len x y z pc : Nat} {ls : Zl} {st : List Zv} {h : Zh} {q : Zc} (hd : decode (zbytes mi) pc = .ok (.pop, len)) (ho : z_ok mi pc (.pop, len, x, y, z) = true) (hn : z_n (.pop, len, x, y, z) pc ls st h = some q)
    (kk : z_W p l e R s m args below meth c Q g D A3 L xs mi n0 s0 q.1 q.2.1 q.2.2.1 q.2.2.2) : z_W p l e R s m args below meth c Q g D A3 L xs mi n0 s0 pc ls st h := by
  obtain ⟨hx, hb, hml, hown, hts, hin, hK, hE, hAO, hNw⟩ := C
  simp only [z_n, z_st] at hn
  split at hn
  · rename_i a r
    cases hn
    have hl : len = 1 := by simpa [z_ok] using ho
    subst hl
    intro H locs la hrel hS hla hlen hvs hn0 hs0
    have hv := List.forall_mem_cons.mp hvs.2
    refine lv_pop hx hb hd (z_cat g a) ?_
    exact kk H locs la hrel hS hla hlen ⟨hvs.1, hv.2⟩ hn0 hs0
  · cases hn
theorem z_s_goto (C : z_cx g D A3 L xs mi p s m args meth c) {o : Int} {len x y z pc : Nat} {ls : Zl} {st : List Zv} {h : Zh} {q : Zc} (hd : decode (zbytes mi) pc = .ok (.goto o, len)) (ho : z_ok mi pc (.goto o, len, x, y, z) = true) (hn : z_n (.goto o, len, x, y, z) pc ls st h = some q)
    (kk : z_W p l e R s m args below meth c Q g D A3 L xs mi n0 s0 q.1 q.2.1 q.2.2.1 q.2.2.2) : z_W p l e R s m args below meth c Q g D A3 L xs mi n0 s0 pc ls st h := by
  obtain ⟨hx, hb, hml, hown, hts, hin, hK, hE, hAO, hNw⟩ := C
  cases hn
  have ho2 : len = 3 ∧ (pc : Int) + o = (x : Int) := by simpa [z_ok] using ho
  obtain ⟨rfl, ht⟩ := ho2
  intro H locs la hrel hS hla hlen hvs hn0 hs0
  exact lv_goto hx hb hd ht (kk H locs la hrel hS hla hlen hvs hn0 hs0)
theorem z_s_if_eq (C : z_cx g D A3 L xs mi p s m args meth c) {o : Int} {len x y z pc : Nat} {ls : Zl} {st : List Zv} {h : Zh} {q : Zc} (hd : decode (zbytes mi) pc = .ok (.ifCond .eq o, len)) (ho : z_ok mi pc (.ifCond .eq o, len, x, y, z) = true) (hn : z_n (.ifCond .eq o, len, x, y, z) pc ls st h = some q)
    (kk : z_W p l e R s m args below meth c Q g D A3 L xs mi n0 s0 q.1 q.2.1 q.2.2.1 q.2.2.2) : z_W p l e R s m args below meth c Q g D A3 L xs mi n0 s0 pc ls st h := by
  obtain ⟨hx, hb, hml, hown, hts, hin, hK, hE, hAO, hNw⟩ := C
  have ho2 : len = 3 ∧ (pc : Int) + o = (x : Int) := by simpa [z_ok] using ho
  obtain ⟨rfl, ht⟩ := ho2
  simp only [z_n, z_st] at hn
  split at hn
  · rename_i v r
    intro H locs la hrel hS hla hlen hvs hn0 hs0
    have hv := List.forall_mem_cons.mp hvs.2
    have hi := z_eq0 (show z_rng v from hv.1)
    by_cases hP : v = 0
    · rw [if_pos hP] at hn
      cases hn
      exact z_ifT (fun a b => lv_if_eq hx hb hd ht a b) (hi.mpr hP) (kk H locs la hrel hS hla hlen ⟨hvs.1, hv.2⟩ hn0 hs0)
    · rw [if_neg hP] at hn
      cases hn
      exact z_ifF (fun a b => lv_if_eq hx hb hd ht a b) (fun q => hP (hi.mp q)) (kk H locs la hrel hS hla hlen ⟨hvs.1, hv.2⟩ hn0 hs0)
  · cases hn
theorem z_s_if_ne (C : z_cx g D A3 L xs mi p s m args meth c) {o : Int} {len x y z pc : Nat} {ls : Zl} {st : List Zv} {h : Zh} {q : Zc} (hd : decode (zbytes mi) pc = .ok (.ifCond .ne o, len)) (ho : z_ok mi pc (.ifCond .ne o, len, x, y, z) = true) (hn : z_n (.ifCond .ne o, len, x, y, z) pc ls st h = some q)
    (kk : z_W p l e R s m args below meth c Q g D A3 L xs mi n0 s0 q.1 q.2.1 q.2.2.1 q.2.2.2) : z_W p l e R s m args below meth c Q g D A3 L xs mi n0 s0 pc ls st h := by
  obtain ⟨hx, hb, hml, hown, hts, hin, hK, hE, hAO, hNw⟩ := C
  have ho2 : len = 3 ∧ (pc : Int) + o = (x : Int) := by simpa [z_ok] using ho
  obtain ⟨rfl, ht⟩ := ho2
  simp only [z_n, z_st] at hn
  split at hn
  · rename_i v r
    intro H locs la hrel hS hla hlen hvs hn0 hs0
    have hv := List.forall_mem_cons.mp hvs.2
    have hi := z_eq0 (show z_rng v from hv.1)
    by_cases hP : v = 0
    · rw [if_pos hP] at hn
      cases hn
      exact z_ifnF (fun a b => lv_if_ne hx hb hd ht a b) (hi.mpr hP) (kk H locs la hrel hS hla hlen ⟨hvs.1, hv.2⟩ hn0 hs0)
    · rw [if_neg hP] at hn
      cases hn
      exact z_ifnT (fun a b => lv_if_ne hx hb hd ht a b) (fun q => hP (hi.mp q)) (kk H locs la hrel hS hla hlen ⟨hvs.1, hv.2⟩ hn0 hs0)
  · cases hn
theorem z_s_if_lt (C : z_cx g D A3 L xs mi p s m args meth c) {o : Int} {len x y z pc : Nat} {ls : Zl} {st : List Zv} {h : Zh} {q : Zc} (hd : decode (zbytes mi) pc = .ok (.ifCond .lt o, len)) (ho : z_ok mi pc (.ifCond .lt o, len, x, y, z) = true) (hn : z_n (.ifCond .lt o, len, x, y, z) pc ls st h = some q)
    (kk : z_W p l e R s m args below meth c Q g D A3 L xs mi n0 s0 q.1 q.2.1 q.2.2.1 q.2.2.2) : z_W p l e R s m args below meth c Q g D A3 L xs mi n0 s0 pc ls st h := by
  obtain ⟨hx, hb, hml, hown, hts, hin, hK, hE, hAO, hNw⟩ := C
  have ho2 : len = 3 ∧ (pc : Int) + o = (x : Int) := by simpa [z_ok] using ho
  obtain ⟨rfl, ht⟩ := ho2
  simp only [z_n, z_st] at hn
  split at hn
  · rename_i v r
    intro H locs la hrel hS hla hlen hvs hn0 hs0
    have hv := List.forall_mem_cons.mp hvs.2
    have hi := z_lt0 (show z_rng v from hv.1)
    by_cases hP : v < 0
    · rw [if_pos hP] at hn
      cases hn
      exact z_ifT (fun a b => lv_if_lt hx hb hd ht a b) (hi.mpr hP) (kk H locs la hrel hS hla hlen ⟨hvs.1, hv.2⟩ hn0 hs0)
    · rw [if_neg hP] at hn
      cases hn
      exact z_ifF (fun a b => lv_if_lt hx hb hd ht a b) (fun q => hP (hi.mp q)) (kk H locs la hrel hS hla hlen ⟨hvs.1, hv.2⟩ hn0 hs0)
  · cases hn
theorem z_s_if_ge (C : z_cx g D A3 L xs mi p s m args meth c) {o : Int} {len x y z pc : Nat} {ls : Zl} {st : List Zv} {h : Zh} {q : Zc} (hd : decode (zbytes mi) pc = .ok (.ifCond .ge o, len)) (ho : z_ok mi pc (.ifCond .ge o, len, x, y, z) = true) (hn : z_n (.ifCond .ge o, len, x, y, z) pc ls st h = some q)
    (kk : z_W p l e R s m args below meth c Q g D A3 L xs mi n0 s0 q.1 q.2.1 q.2.2.1 q.2.2.2) : z_W p l e R s m args below meth c Q g D A3 L xs mi n0 s0 pc ls st h := by
  obtain ⟨hx, hb, hml, hown, hts, hin, hK, hE, hAO, hNw⟩ := C
  have ho2 : len = 3 ∧ (pc : Int) + o = (x : Int) := by simpa [z_ok] using ho
  obtain ⟨rfl, ht⟩ := ho2
  simp only [z_n, z_st] at hn
  split at hn
  · rename_i v r
    intro H locs la hrel hS hla hlen hvs hn0 hs0
    have hv := List.forall_mem_cons.mp hvs.2
    have hi := z_lt0 (show z_rng v from hv.1)
    have hj := Int32.not_lt.symm.trans (not_congr hi)
    by_cases hP : v < 0
    · rw [if_pos hP] at hn
      cases hn
      exact z_ifF (fun a b => lv_if_ge hx hb hd ht a b) (fun q => hj.mp q hP) (kk H locs la hrel hS hla hlen ⟨hvs.1, hv.2⟩ hn0 hs0)
    · rw [if_neg hP] at hn
      cases hn
      exact z_ifT (fun a b => lv_if_ge hx hb hd ht a b) (hj.mpr hP) (kk H locs la hrel hS hla hlen ⟨hvs.1, hv.2⟩ hn0 hs0)
  · cases hn
theorem z_s_if_gt (C : z_cx g D A3 L xs mi p s m args meth c) {o : Int} {len x y z pc : Nat} {ls : Zl} {st : List Zv} {h : Zh} {q : Zc} (hd : decode (zbytes mi) pc = .ok (.ifCond .gt o, len)) (ho : z_ok mi pc (.ifCond .gt o, len, x, y, z) = true) (hn : z_n (.ifCond .gt o, len, x, y, z) pc ls st h = some q)
    (kk : z_W p l e R s m args below meth c Q g D A3 L xs mi n0 s0 q.1 q.2.1 q.2.2.1 q.2.2.2) : z_W p l e R s m args below meth c Q g D A3 L xs mi n0 s0 pc ls st h := by
  obtain ⟨hx, hb, hml, hown, hts, hin, hK, hE, hAO, hNw⟩ := C
  have ho2 : len = 3 ∧ (pc : Int) + o = (x : Int) := by simpa [z_ok] using ho
  obtain ⟨rfl, ht⟩ := ho2
  simp only [z_n, z_st] at hn
  split at hn
  · rename_i v r
    intro H locs la hrel hS hla hlen hvs hn0 hs0
    have hv := List.forall_mem_cons.mp hvs.2
    have hi := z_gt0 (show z_rng v from hv.1)
    by_cases hP : 0 < v
    · rw [if_pos hP] at hn
      cases hn
      exact z_ifT (fun a b => lv_if_gt hx hb hd ht a b) (hi.mpr hP) (kk H locs la hrel hS hla hlen ⟨hvs.1, hv.2⟩ hn0 hs0)
    · rw [if_neg hP] at hn
      cases hn
      exact z_ifF (fun a b => lv_if_gt hx hb hd ht a b) (fun q => hP (hi.mp q)) (kk H locs la hrel hS hla hlen ⟨hvs.1, hv.2⟩ hn0 hs0)
  · cases hn
theorem z_s_if_le (C : z_cx g D A3 L xs mi p s m args meth c) {o : Int} {len x y z pc : Nat} {ls : Zl} {st : List Zv} {h : Zh} {q : Zc} (hd : decode (zbytes mi) pc = .ok (.ifCond .le o, len)) (ho : z_ok mi pc (.ifCond .le o, len, x, y, z) = true) (hn : z_n (.ifCond .le o, len, x, y, z) pc ls st h = some q)
    (kk : z_W p l e R s m args below meth c Q g D A3 L xs mi n0 s0 q.1 q.2.1 q.2.2.1 q.2.2.2) : z_W p l e R s m args below meth c Q g D A3 L xs mi n0 s0 pc ls st h := by
  obtain ⟨hx, hb, hml, hown, hts, hin, hK, hE, hAO, hNw⟩ := C
  have ho2 : len = 3 ∧ (pc : Int) + o = (x : Int) := by simpa [z_ok] using ho
  obtain ⟨rfl, ht⟩ := ho2
  simp only [z_n, z_st] at hn
  split at hn
  · rename_i v r
    intro H locs la hrel hS hla hlen hvs hn0 hs0
    have hv := List.forall_mem_cons.mp hvs.2
    have hi := z_gt0 (show z_rng v from hv.1)
    have hj := Int32.not_lt.symm.trans (not_congr hi)
    by_cases hP : 0 < v
    · rw [if_pos hP] at hn
      cases hn
      exact z_ifF (fun a b => lv_if_le hx hb hd ht a b) (fun q => hj.mp q hP) (kk H locs la hrel hS hla hlen ⟨hvs.1, hv.2⟩ hn0 hs0)
    · rw [if_neg hP] at hn
      cases hn
      exact z_ifT (fun a b => lv_if_le hx hb hd ht a b) (hj.mpr hP) (kk H locs la hrel hS hla hlen ⟨hvs.1, hv.2⟩ hn0 hs0)
  · cases hn
theorem z_s_ic_eq (C : z_cx g D A3 L xs mi p s m args meth c) {o : Int} {len x y z pc : Nat} {ls : Zl} {st : List Zv} {h : Zh} {q : Zc} (hd : decode (zbytes mi) pc = .ok (.if_icmp .eq o, len)) (ho : z_ok mi pc (.if_icmp .eq o, len, x, y, z) = true) (hn : z_n (.if_icmp .eq o, len, x, y, z) pc ls st h = some q)
    (kk : z_W p l e R s m args below meth c Q g D A3 L xs mi n0 s0 q.1 q.2.1 q.2.2.1 q.2.2.2) : z_W p l e R s m args below meth c Q g D A3 L xs mi n0 s0 pc ls st h := by
  obtain ⟨hx, hb, hml, hown, hts, hin, hK, hE, hAO, hNw⟩ := C
  have ho2 : len = 3 ∧ (pc : Int) + o = (x : Int) := by simpa [z_ok] using ho
  obtain ⟨rfl, ht⟩ := ho2
  simp only [z_n, z_st] at hn
  split at hn
  · rename_i v w r
    intro H locs la hrel hS hla hlen hvs hn0 hs0
    have hv := List.forall_mem_cons.mp hvs.2
    have hv2 := List.forall_mem_cons.mp hv.2
    have hi := z_eq (show z_rng _ from hv2.1) (show z_rng _ from hv.1)
    by_cases hP : w = v
    · rw [if_pos hP] at hn
      cases hn
      exact z_ifT (fun a b => lv_icmp_eq hx hb hd ht a b) (hi.mpr hP) (kk H locs la hrel hS hla hlen ⟨hvs.1, hv2.2⟩ hn0 hs0)
    · rw [if_neg hP] at hn
      cases hn
      exact z_ifF (fun a b => lv_icmp_eq hx hb hd ht a b) (fun q => hP (hi.mp q)) (kk H locs la hrel hS hla hlen ⟨hvs.1, hv2.2⟩ hn0 hs0)
  · cases hn
theorem z_s_ic_ne (C : z_cx g D A3 L xs mi p s m args meth c) {o : Int} {len x y z pc : Nat} {ls : Zl} {st : List Zv} {h : Zh} {q : Zc} (hd : decode (zbytes mi) pc = .ok (.if_icmp .ne o, len)) (ho : z_ok mi pc (.if_icmp .ne o, len, x, y, z) = true) (hn : z_n (.if_icmp .ne o, len, x, y, z) pc ls st h = some q)
    (kk : z_W p l e R s m args below meth c Q g D A3 L xs mi n0 s0 q.1 q.2.1 q.2.2.1 q.2.2.2) : z_W p l e R s m args below meth c Q g D A3 L xs mi n0 s0 pc ls st h := by
  obtain ⟨hx, hb, hml, hown, hts, hin, hK, hE, hAO, hNw⟩ := C
  have ho2 : len = 3 ∧ (pc : Int) + o = (x : Int) := by simpa [z_ok] using ho
  obtain ⟨rfl, ht⟩ := ho2
  simp only [z_n, z_st] at hn
  split at hn
  · rename_i v w r
    intro H locs la hrel hS hla hlen hvs hn0 hs0
    have hv := List.forall_mem_cons.mp hvs.2
    have hv2 := List.forall_mem_cons.mp hv.2
    have hi := z_eq (show z_rng _ from hv2.1) (show z_rng _ from hv.1)
    by_cases hP : w = v
    · rw [if_pos hP] at hn
      cases hn
      exact z_ifnF (fun a b => lv_icmp_ne hx hb hd ht a b) (hi.mpr hP) (kk H locs la hrel hS hla hlen ⟨hvs.1, hv2.2⟩ hn0 hs0)
    · rw [if_neg hP] at hn
      cases hn
      exact z_ifnT (fun a b => lv_icmp_ne hx hb hd ht a b) (fun q => hP (hi.mp q)) (kk H locs la hrel hS hla hlen ⟨hvs.1, hv2.2⟩ hn0 hs0)
  · cases hn
theorem z_s_ic_lt (C : z_cx g D A3 L xs mi p s m args meth c) {o : Int} {len x y z pc : Nat} {ls : Zl} {st : List Zv} {h : Zh} {q : Zc} (hd : decode (zbytes mi) pc = .ok (.if_icmp .lt o, len)) (ho : z_ok mi pc (.if_icmp .lt o, len, x, y, z) = true) (hn : z_n (.if_icmp .lt o, len, x, y, z) pc ls st h = some q)
    (kk : z_W p l e R s m args below meth c Q g D A3 L xs mi n0 s0 q.1 q.2.1 q.2.2.1 q.2.2.2) : z_W p l e R s m args below meth c Q g D A3 L xs mi n0 s0 pc ls st h := by
  obtain ⟨hx, hb, hml, hown, hts, hin, hK, hE, hAO, hNw⟩ := C
  have ho2 : len = 3 ∧ (pc : Int) + o = (x : Int) := by simpa [z_ok] using ho
  obtain ⟨rfl, ht⟩ := ho2
  simp only [z_n, z_st] at hn
  split at hn
  · rename_i v w r
    intro H locs la hrel hS hla hlen hvs hn0 hs0
    have hv := List.forall_mem_cons.mp hvs.2
    have hv2 := List.forall_mem_cons.mp hv.2
    have hi := z_lt (show z_rng _ from hv2.1) (show z_rng _ from hv.1)
    by_cases hP : w < v
    · rw [if_pos hP] at hn
      cases hn
      exact z_ifT (fun a b => lv_icmp_lt hx hb hd ht a b) (hi.mpr hP) (kk H locs la hrel hS hla hlen ⟨hvs.1, hv2.2⟩ hn0 hs0)
    · rw [if_neg hP] at hn
      cases hn
      exact z_ifF (fun a b => lv_icmp_lt hx hb hd ht a b) (fun q => hP (hi.mp q)) (kk H locs la hrel hS hla hlen ⟨hvs.1, hv2.2⟩ hn0 hs0)
  · cases hn
theorem z_s_ic_ge (C : z_cx g D A3 L xs mi p s m args meth c) {o : Int} {len x y z pc : Nat} {ls : Zl} {st : List Zv} {h : Zh} {q : Zc} (hd : decode (zbytes mi) pc = .ok (.if_icmp .ge o, len)) (ho : z_ok mi pc (.if_icmp .ge o, len, x, y, z) = true) (hn : z_n (.if_icmp .ge o, len, x, y, z) pc ls st h = some q)
    (kk : z_W p l e R s m args below meth c Q g D A3 L xs mi n0 s0 q.1 q.2.1 q.2.2.1 q.2.2.2) : z_W p l e R s m args below meth c Q g D A3 L xs mi n0 s0 pc ls st h := by
  obtain ⟨hx, hb, hml, hown, hts, hin, hK, hE, hAO, hNw⟩ := C
  have ho2 : len = 3 ∧ (pc : Int) + o = (x : Int) := by simpa [z_ok] using ho
  obtain ⟨rfl, ht⟩ := ho2
  simp only [z_n, z_st] at hn
  split at hn
  · rename_i v w r
    intro H locs la hrel hS hla hlen hvs hn0 hs0
    have hv := List.forall_mem_cons.mp hvs.2
    have hv2 := List.forall_mem_cons.mp hv.2
    have hi := z_lt (show z_rng _ from hv2.1) (show z_rng _ from hv.1)
    have hj := Int32.not_lt.symm.trans (not_congr hi)
    by_cases hP : w < v
    · rw [if_pos hP] at hn
      cases hn
      exact z_ifF (fun a b => lv_icmp_ge hx hb hd ht a b) (fun q => hj.mp q hP) (kk H locs la hrel hS hla hlen ⟨hvs.1, hv2.2⟩ hn0 hs0)
    · rw [if_neg hP] at hn
      cases hn
      exact z_ifT (fun a b => lv_icmp_ge hx hb hd ht a b) (hj.mpr hP) (kk H locs la hrel hS hla hlen ⟨hvs.1, hv2.2⟩ hn0 hs0)
  · cases hn
theorem z_s_ic_gt (C : z_cx g D A3 L xs mi p s m args meth c) {o : Int} {len x y z pc : Nat} {ls : Zl} {st : List Zv} {h : Zh} {q : Zc} (hd : decode (zbytes mi) pc = .ok (.if_icmp .gt o, len)) (ho : z_ok mi pc (.if_icmp .gt o, len, x, y, z) = true) (hn : z_n (.if_icmp .gt o, len, x, y, z) pc ls st h = some q)
    (kk : z_W p l e R s m args below meth c Q g D A3 L xs mi n0 s0 q.1 q.2.1 q.2.2.1 q.2.2.2) : z_W p l e R s m args below meth c Q g D A3 L xs mi n0 s0 pc ls st h := by
  obtain ⟨hx, hb, hml, hown, hts, hin, hK, hE, hAO, hNw⟩ := C
  have ho2 : len = 3 ∧ (pc : Int) + o = (x : Int) := by simpa [z_ok] using ho
  obtain ⟨rfl, ht⟩ := ho2
  simp only [z_n, z_st] at hn
  split at hn
  · rename_i v w r
    intro H locs la hrel hS hla hlen hvs hn0 hs0
    have hv := List.forall_mem_cons.mp hvs.2
    have hv2 := List.forall_mem_cons.mp hv.2
    have hi := z_lt (show z_rng _ from hv.1) (show z_rng _ from hv2.1)
    by_cases hP : v < w
    · rw [if_pos hP] at hn
      cases hn
      exact z_ifT (fun a b => lv_icmp_gt hx hb hd ht a b) (hi.mpr hP) (kk H locs la hrel hS hla hlen ⟨hvs.1, hv2.2⟩ hn0 hs0)
    · rw [if_neg hP] at hn
      cases hn
      exact z_ifF (fun a b => lv_icmp_gt hx hb hd ht a b) (fun q => hP (hi.mp q)) (kk H locs la hrel hS hla hlen ⟨hvs.1, hv2.2⟩ hn0 hs0)
  · cases hn
theorem z_s_ic_le (C : z_cx g D A3 L xs mi p s m args meth c) {o : Int} {len x y z pc : Nat} {ls : Zl} {st : List Zv} {h : Zh} {q : Zc} (hd : decode (zbytes mi) pc = .ok (.if_icmp .le o, len)) (ho : z_ok mi pc (.if_icmp .le o, len, x, y, z) = true) (hn : z_n (.if_icmp .le o, len, x, y, z) pc ls st h = some q)
    (kk : z_W p l e R s m args below meth c Q g D A3 L xs mi n0 s0 q.1 q.2.1 q.2.2.1 q.2.2.2) : z_W p l e R s m args below meth c Q g D A3 L xs mi n0 s0 pc ls st h := by
  obtain ⟨hx, hb, hml, hown, hts, hin, hK, hE, hAO, hNw⟩ := C
  have ho2 : len = 3 ∧ (pc : Int) + o = (x : Int) := by simpa [z_ok] using ho
  obtain ⟨rfl, ht⟩ := ho2
  simp only [z_n, z_st] at hn
  split at hn
  · rename_i v w r
    intro H locs la hrel hS hla hlen hvs hn0 hs0
    have hv := List.forall_mem_cons.mp hvs.2
    have hv2 := List.forall_mem_cons.mp hv.2
    have hi := z_lt (show z_rng _ from hv.1) (show z_rng _ from hv2.1)
    have hj := Int32.not_lt.symm.trans (not_congr hi)
    by_cases hP : v < w
    · rw [if_pos hP] at hn
      cases hn
      exact z_ifF (fun a b => lv_icmp_le hx hb hd ht a b) (fun q => hj.mp q hP) (kk H locs la hrel hS hla hlen ⟨hvs.1, hv2.2⟩ hn0 hs0)
    · rw [if_neg hP] at hn
      cases hn
      exact z_ifT (fun a b => lv_icmp_le hx hb hd ht a b) (hj.mpr hP) (kk H locs la hrel hS hla hlen ⟨hvs.1, hv2.2⟩ hn0 hs0)
  · cases hn
theorem z_s_ifnull (C : z_cx g D A3 L xs mi p s m args meth c) {o : Int} {len x y z pc : Nat} {ls : Zl} {st : List Zv} {h : Zh} {q : Zc} (hd : decode (zbytes mi) pc = .ok (.ifnull o, len)) (ho : z_ok mi pc (.ifnull o, len, x, y, z) = true) (hn : z_n (.ifnull o, len, x, y, z) pc ls st h = some q)
    (kk : z_W p l e R s m args below meth c Q g D A3 L xs mi n0 s0 q.1 q.2.1 q.2.2.1 q.2.2.2) : z_W p l e R s m args below meth c Q g D A3 L xs mi n0 s0 pc ls st h := by
  obtain ⟨hx, hb, hml, hown, hts, hin, hK, hE, hAO, hNw⟩ := C
  have ho2 : len = 3 ∧ (pc : Int) + o = (x : Int) := by simpa [z_ok] using ho
  obtain ⟨rfl, ht⟩ := ho2
  simp only [z_n, z_st] at hn
  split at hn
  · rename_i v r
    cases hn
    intro H locs la hrel hS hla hlen hvs hn0 hs0
    have hv := List.forall_mem_cons.mp hvs.2
    exact lv_ifnull hx hb hd (kk H locs la hrel hS hla hlen ⟨hvs.1, hv.2⟩ hn0 hs0)
  · cases hn
theorem z_s_ifnonnull (C : z_cx g D A3 L xs mi p s m args meth c) {o : Int} {len x y z pc : Nat} {ls : Zl} {st : List Zv} {h : Zh} {q : Zc} (hd : decode (zbytes mi) pc = .ok (.ifnonnull o, len)) (ho : z_ok mi pc (.ifnonnull o, len, x, y, z) = true) (hn : z_n (.ifnonnull o, len, x, y, z) pc ls st h = some q)
    (kk : z_W p l e R s m args below meth c Q g D A3 L xs mi n0 s0 q.1 q.2.1 q.2.2.1 q.2.2.2) : z_W p l e R s m args below meth c Q g D A3 L xs mi n0 s0 pc ls st h := by
  obtain ⟨hx, hb, hml, hown, hts, hin, hK, hE, hAO, hNw⟩ := C
  have ho2 : len = 3 ∧ (pc : Int) + o = (x : Int) := by simpa [z_ok] using ho
  obtain ⟨rfl, ht⟩ := ho2
  simp only [z_n, z_st] at hn
  split at hn
  · rename_i v r
    cases hn
    intro H locs la hrel hS hla hlen hvs hn0 hs0
    have hv := List.forall_mem_cons.mp hvs.2
    exact lv_ifnonnull hx hb hd ht (kk H locs la hrel hS hla hlen ⟨hvs.1, hv.2⟩ hn0 hs0)
  · cases hn
end ZS
