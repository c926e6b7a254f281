theorem zFL_ok : ∀ q ∈ zFL, lw_tbl[q.2.2.2.2]? = some (.fieldLink (zcls q.1) q.2.1 (zcls q.2.2.1) (zT q.2.2.1 q.2.2.2.1).2.1 (zT q.2.2.1 q.2.2.2.1).2.2.1) := by decide +kernel
theorem zSL_ok : ∀ q ∈ zSL, lw_tbl[q.2.2.2]? = some (if q.2.2.1 = 2 then .fieldLink (zcls q.1) q.2.1 "GamesOffice$Kinds" "ABOVE" "[I" else .fieldLink (zcls q.1) q.2.1 "GamesOffice$Acts" "BODIES" "[I") := by decide +kernel
theorem zCL_ok : ∀ q ∈ zCL, lw_tbl[q.2.2.2]? = some (.classLink (zcls q.1) q.2.1 (zcls q.2.2.1)) := by decide +kernel
theorem zCN_ok : ∀ q ∈ zCN, lw_tbl[q.2.2.2]? = some (.constant (zcls q.1) q.2.1 (Int32.ofNat q.2.2.1)) := by decide +kernel
theorem zML_ok : ∀ q ∈ zML, lw_tbl[q.2.2.2]? = some (.methodLink (zcls q.1) q.2.1 (zy q.2.2.1)) := by decide +kernel
theorem zNL_ok : ∀ q ∈ zNL, lw_tbl[q.2.2.2]? = some (.methodLinkNest (zcls q.1) q.2.1 (zy q.2.2.1) (zcls (zkind q.2.2.1))) := by decide +kernel
theorem zOL_ok : ∀ q ∈ zOL, lw_tbl[q.2.2]? = some (.methodLink (zcls q.1) q.2.1 objectInit) := by decide +kernel
theorem zAL_ok : ∀ q ∈ zAL, lw_tbl[q.2.2]? = some (.methodLink (zcls q.1) q.2.1 arraycopyName) := by decide +kernel
theorem zMW_ok : ∀ m < 238, m ≠ zlaw → lw_tbl[(zmw m).2.2.2]? = some (.initialized (zcls (zkind m))) ∧ lw_tbl[(zmw m).2.1]? = some (if (zmw m).1 = 0 then .static (zy m) else .instanceMethod (zy m)) ∧ ((zmw m).1 = 1 → lw_tbl[(zmw m).2.2.1]? = some (.selects (zcls (zkind m)) (zy m) (zy m))) ∧ ((zmw m).1 = 2 ↔ (zy m).name = "<init>") := by decide +kernel
theorem zMD_ok : ∀ m < 238, (zy m).cls ≠ "java/lang/invoke/MethodHandle" ∧ (zy m).cls ≠ "java/lang/invoke/VarHandle" ∧ (parseMethodDescriptor (zy m).desc).map (fun d => d.parameters.length) = some (zmn m).2.2.2 := by decide +kernel
theorem zPF_ok : ∀ m < 237, plainFor (zy m) = true := by decide +kernel
theorem zLP_ok : ∀ c < 8, ∀ k < zN c, lw_tbl[(zLP.getD c []).getD k 0]? = some (u_lay (zcls c) (zT c) k) := by decide +kernel
theorem zTY_ok : ∀ c < 8, ∀ k < zN c, parseFieldDescriptor (zT c k).2.2.1 = some (zty c k) := by decide +kernel
theorem zNM_ok : ∀ c < 8, ∀ a < zN c, ∀ b < zN c, a ≠ b → (zT c a).2.1 ≠ (zT c b).2.1 := by decide +kernel
theorem zDC_ok : ∀ c < 8, ∀ k < zN c, (zT c k).1 = zcls c := by decide +kernel
theorem zFG_ok : ∀ c < 8, ∀ k < zN c, (zflag c k = 0 → zty c k = .int) ∧ (zflag c k = 1 → zty c k = .boolean) ∧ (zflag c k = 2 → (defaultValue (zty c k) = .null)) := by decide +kernel
def zgw : List Cond := lw_tbl.filter goodWord
theorem zgw_in {w : Cond} (h : w ∈ lw_tbl) (hg : goodWord w = true) : w ∈ zgw := List.mem_filter.mpr ⟨h, hg⟩
theorem zIN_ok : ∀ c < 8, lw_tbl[([77, 263, 85, 214, 171, 289, 91, 913] : List Nat).getD c 0]? = some (Cond.instantiable (zcls c) (zN c)) := by decide +kernel
theorem zIC_ok : ∀ c < 8, Cond.initialized (zcls c) ∈ lw_tbl := by
  intro c hc
  have h : ∀ c < 8, ∃ m, m < 237 ∧ zkind m = c := by
    intro c hc
    have h2 : ∀ c < 8, ([92, 0, 9, 40, 51, 74, 84, 148] : List Nat).getD c 0 < 237 ∧ zkind (([92, 0, 9, 40, 51, 74, 84, 148] : List Nat).getD c 0) = c := by decide +kernel
    exact ⟨_, h2 c hc⟩
  obtain ⟨m, hm, hk⟩ := h c hc
  have h3 := (zMW_ok m (by omega) (by unfold zlaw; omega)).1
  rw [hk] at h3
  exact List.mem_of_getElem? h3
theorem zwA : Cond.arrayClass .int ∈ lw_tbl ∧ Cond.arrayClass .boolean ∈ lw_tbl ∧ Cond.arrayOver (.object (zcls 5)) ∈ lw_tbl ∧ Cond.native arraycopyName ∈ lw_tbl ∧ Cond.static arraycopyName ∈ lw_tbl ∧ Cond.initialized "java/lang/System" ∈ lw_tbl ∧ Cond.code objectInit ⟨#[0xb1]⟩ 1 none ∈ lw_tbl ∧ Cond.instanceMethod objectInit ∈ lw_tbl := by decide +kernel
