section ZS
variable {p : Program} {l : Launch} {e : Env} {R : Room} {s : State} {m : MethodId} {args : Array Value} {below : List Frame} {meth : Method} {c : Code} {Q : State → Prop}
variable {g : Nat × Nat × Nat × Nat} {D : va_G} {A3 : Nat × Nat × Nat} {L : Nat} {xs : Nat → Int32} {mi n0 s0 : Nat}
theorem z_step (C : z_cx g D A3 L xs mi p s m args meth c) {en : Ze} {pc : Nat} {ls : Zl} {st : List Zv} {h : Zh} {q : Zc} (hd : decode (zbytes mi) pc = .ok (en.1, en.2.1)) (ho : z_ok mi pc en = true) (hn : z_n en pc ls st h = some q)
    (hr : q.2.2.2.1.length - n0 ≤ R.cells ∧ z_sz q.2.2.2.1 - s0 ≤ R.slots ∧ 1 ≤ R.frames ∧ 60 ≤ R.locals) (h5 : (∀ i, en.1 = .invokestatic i → en.2.2.2.2 = 5) ∧ (∀ i, en.1 = .invokespecial i → en.2.2.2.2 = 5))
    (kk : z_W p l e R s m args below meth c Q g D A3 L xs mi n0 s0 q.1 q.2.1 q.2.2.1 q.2.2.2) : z_W p l e R s m args below meth c Q g D A3 L xs mi n0 s0 pc ls st h := by
  obtain ⟨i, len, x, y, z⟩ := en
  cases i
  case iconst n => exact z_s_iconst C hd ho hn kk
  case bipush n => exact z_s_bipush C hd ho hn kk
  case sipush n => exact z_s_sipush C hd ho hn kk
  case ldc_w i => exact z_s_ldc_w C hd ho hn kk
  case iload_n i => exact z_s_iload_n C hd ho hn kk
  case iload i => exact z_s_iload C hd ho hn kk
  case aload_n i => exact z_s_aload_n C hd ho hn kk
  case aload i => exact z_s_aload C hd ho hn kk
  case istore_n i => exact z_s_istore_n C hd ho hn kk
  case istore i => exact z_s_istore C hd ho hn kk
  case astore_n i => exact z_s_astore_n C hd ho hn kk
  case astore i => exact z_s_astore C hd ho hn kk
  case iinc i n => exact z_s_iinc C hd ho hn kk
  case iadd => exact z_s_iadd C hd ho hn kk
  case isub => exact z_s_isub C hd ho hn kk
  case imul => exact z_s_imul C hd ho hn kk
  case idiv => exact z_s_idiv C hd ho hn kk
  case irem => exact z_s_irem C hd ho hn kk
  case iand => exact z_s_iand C hd ho hn kk
  case ior => exact z_s_ior C hd ho hn kk
  case ixor => exact z_s_ixor C hd ho hn kk
  case ishl => exact z_s_ishl C hd ho hn kk
  case ishr => exact z_s_ishr C hd ho hn kk
  case iushr => exact z_s_iushr C hd ho hn kk
  case ineg => exact z_s_ineg C hd ho hn kk
  case i2b => exact z_s_i2b C hd ho hn kk
  case dup => exact z_s_dup C hd ho hn kk
  case dup2 => exact z_s_dup2 C hd ho hn kk
  case dup_x1 => exact z_s_dup_x1 C hd ho hn kk
  case dup_x2 => exact z_s_dup_x2 C hd ho hn kk
  case pop => exact z_s_pop C hd ho hn kk
  case goto o => exact z_s_goto C hd ho hn kk
  case ifnull o => exact z_s_ifnull C hd ho hn kk
  case ifnonnull o => exact z_s_ifnonnull C hd ho hn kk
  case iaload => exact z_s_iaload C hd ho hn kk
  case baload => exact z_s_baload C hd ho hn kk
  case iastore => exact z_s_iastore C hd ho hn kk
  case bastore => exact z_s_bastore C hd ho hn kk
  case aaload => exact z_s_aaload C hd ho hn kk
  case arraylength => exact z_s_arraylength C hd ho hn kk
  case getfield i => exact z_s_getfield C hd ho hn kk
  case putfield i => exact z_s_putfield C hd ho hn kk
  case getstatic i => exact z_s_getstatic C hd ho hn kk
  case aastore => exact z_s_aastore C hd ho hn kk
  case new i => exact z_s_new C hd ho hn hr kk
  case anewarray i => exact z_s_anewarray C hd ho hn hr kk
  case invokestatic i => exact z_s_arraycopy C hd ho hn hr (h5.1 i rfl) kk
  case invokespecial i => exact z_s_objinit C hd ho hn hr (h5.2 i rfl) kk
  case tableswitch d lo hi os => exact z_s_tableswitch C hd ho hn kk
  case newarray t =>
    cases t
    case int => exact z_s_newarray_int C hd ho hn hr kk
    case boolean => exact z_s_newarray_boolean C hd ho hn hr kk
    all_goals exact absurd ho (by simp [z_ok])
  case ifCond c o =>
    cases c
    case eq => exact z_s_if_eq C hd ho hn kk
    case ne => exact z_s_if_ne C hd ho hn kk
    case lt => exact z_s_if_lt C hd ho hn kk
    case ge => exact z_s_if_ge C hd ho hn kk
    case gt => exact z_s_if_gt C hd ho hn kk
    case le => exact z_s_if_le C hd ho hn kk
  case if_icmp c o =>
    cases c
    case eq => exact z_s_ic_eq C hd ho hn kk
    case ne => exact z_s_ic_ne C hd ho hn kk
    case lt => exact z_s_ic_lt C hd ho hn kk
    case ge => exact z_s_ic_ge C hd ho hn kk
    case gt => exact z_s_ic_gt C hd ho hn kk
    case le => exact z_s_ic_le C hd ho hn kk
  all_goals exact absurd hn (by simp [z_n, z_st])
end ZS
set_option maxHeartbeats 4000000 in
theorem z_n_mono {en : Ze} {pc : Nat} {ls : Zl} {st : List Zv} {h : Zh} {q : Zc} (hn : z_n en pc ls st h = some q) : h.1.length ≤ q.2.2.2.1.length ∧ z_sz h.1 ≤ z_sz q.2.2.2.1 := by
  obtain ⟨i, len, x, y, z⟩ := en
  unfold z_n at hn
  cases i
  all_goals first
    | (cases hn; done)
    | (cases hn; exact ⟨Nat.le_refl _, Nat.le_refl _⟩)
    | (simp only [z_st] at hn
       repeat' split at hn
       all_goals first
         | (cases hn; done)
         | (cases hn; exact ⟨Nat.le_refl _, Nat.le_refl _⟩)
         | (rcases z_rd_inv hn with ⟨-, -, -, -, hq⟩ | ⟨-, -, -, -, hq⟩ | ⟨-, -, -, -, hq⟩ | ⟨k, cc, -, -, -, -, -, hq⟩ <;> (cases hq; exact ⟨Nat.le_refl _, Nat.le_refl _⟩))
         | (rcases z_len_inv hn with ⟨-, hq⟩ | ⟨-, hq⟩ | ⟨-, hq⟩ | ⟨k, cc, -, -, -, hq⟩ <;> (cases hq; exact ⟨Nat.le_refl _, Nat.le_refl _⟩))
         | (obtain ⟨k, cc, -, -, -, -, -, hq⟩ := z_wr_inv hn; cases hq; exact ⟨Nat.le_refl _, Nat.le_refl _⟩)
         | (obtain ⟨k, cc, -, -, -, hq⟩ := z_get_inv hn; rcases hq with ⟨-, w, -, hq⟩ | ⟨-, hq⟩ <;> (cases hq; exact ⟨Nat.le_refl _, Nat.le_refl _⟩))
         | (obtain ⟨k, cc, -, -, -, -, hq⟩ := z_puti_inv hn; cases hq; exact ⟨Nat.le_refl _, Nat.le_refl _⟩)
         | (obtain ⟨k, cc, -, hk, -, -, -, hq⟩ := z_putr_inv hn; cases hq; exact ⟨by simp, by show _ ≤ z_sz (h.1.set _ _); rw [z_sz_set hk]; exact Nat.le_refl _⟩)
         | (obtain ⟨k, cc, r, -, -, -, -, -, -, hq⟩ := z_rdq_inv hn; cases hq; exact ⟨Nat.le_refl _, Nat.le_refl _⟩)
         | (obtain ⟨k, cc, kr, cr, -, -, hk, -, -, -, -, -, -, hq⟩ := z_wrq_inv hn; cases hq; exact ⟨by simp, by show _ ≤ z_sz (h.1.set _ _); rw [z_sz_set hk]; exact Nat.le_refl _⟩)
         | (rw [z_sw_b] at hn; obtain ⟨w, -, hq⟩ := Option.bind_eq_some_iff.mp hn; cases hq; exact ⟨Nat.le_refl _, Nat.le_refl _⟩)
         | (cases hn; exact ⟨by simp, by show _ ≤ z_sz (h.1 ++ [_]); rw [z_sz_app]; omega⟩))
/-- what a step of the whole machine is -/
theorem zX_inv {en : Ze} {d pc : Nat} {ls : Zl} {st : List Zv} {h : Zh} {K : Zk (Zv × Zh)} {C : Nat → Nat → Zl → Zh → Zr} {r : Zv × Zh} (hn : zX en d pc ls st h K C = some r) :
    (∃ v, en.1 = .ireturn ∧ st = [.inl v] ∧ (en.2.2.1 = 1 → v = 0 ∨ v = 1) ∧ r = (.inl v, h)) ∨ (en.1 = .return_ ∧ st = [] ∧ r = (.inl 0, h)) ∨
    (∃ q, z_n en pc ls st h = some q ∧ K q.1 q.2.1 q.2.2.1 q.2.2.2 = some r ∧ (∀ i, en.1 = .invokestatic i → en.2.2.2.2 = 5) ∧ (∀ i, en.1 = .invokespecial i → en.2.2.2.2 = 5)) ∨
    (∃ d', d = d' + 1 ∧ ((∃ i, en.1 = .invokevirtual i) ∨ (∃ i, en.1 = .invokestatic i ∧ en.2.2.2.2 ≠ 5) ∨ (∃ i, en.1 = .invokespecial i ∧ en.2.2.2.2 ≠ 5)) ∧ en.2.2.2.1 ≤ st.length ∧ st.length ≤ en.2.2.2.1 + 8 ∧ z_rcv h (zkind en.2.2.1) en.2.2.2.2 (st.take en.2.2.2.1).reverse = true ∧
      ∃ q, C d' en.2.2.1 (z_loc (zmaxl en.2.2.1) (st.take en.2.2.2.1).reverse) h = some q ∧ K (pc + 3) ls (z_psh en.2.2.2.2 q.1 (st.drop en.2.2.2.1)) q.2 = some r) := by
  have call : ∀ {en : Ze}, z_call en d pc ls st h K C = some r → ∃ d', d = d' + 1 ∧ en.2.2.2.1 ≤ st.length ∧ st.length ≤ en.2.2.2.1 + 8 ∧ z_rcv h (zkind en.2.2.1) en.2.2.2.2 (st.take en.2.2.2.1).reverse = true ∧
      ∃ q, C d' en.2.2.1 (z_loc (zmaxl en.2.2.1) (st.take en.2.2.2.1).reverse) h = some q ∧ K (pc + 3) ls (z_psh en.2.2.2.2 q.1 (st.drop en.2.2.2.1)) q.2 = some r := by
    intro en hc
    unfold z_call at hc
    split at hc
    · cases hc
    · rename_i d'
      split at hc
      · rename_i hcond
        obtain ⟨q, h1, h2⟩ := Option.bind_eq_some_iff.mp hc
        exact ⟨d', rfl, hcond.1, hcond.2.1, hcond.2.2, q, h1, h2⟩
      · cases hc
  have simple : z_st en pc ls st h K = some r → ∃ q, z_n en pc ls st h = some q ∧ K q.1 q.2.1 q.2.2.1 q.2.2.2 = some r := by
    intro hs
    rw [z_st_b] at hs
    exact Option.bind_eq_some_iff.mp hs
  obtain ⟨i, len, x, y, z⟩ := en
  cases i
  case ireturn =>
    simp only [zX] at hn
    split at hn
    · split at hn
      · split at hn
        · rename_i h1 h2
          cases hn
          exact Or.inl ⟨_, rfl, rfl, fun _ => h2, rfl⟩
        · cases hn
      · rename_i h1
        cases hn
        exact Or.inl ⟨_, rfl, rfl, fun q => absurd q h1, rfl⟩
    · cases hn
  case return_ =>
    simp only [zX] at hn
    split at hn
    · cases hn
      exact Or.inr (Or.inl ⟨rfl, rfl, rfl⟩)
    · cases hn
  case invokevirtual ix =>
    obtain ⟨d', h1, h2⟩ := call hn
    exact Or.inr (Or.inr (Or.inr ⟨d', h1, Or.inl ⟨ix, rfl⟩, h2⟩))
  case invokestatic ix =>
    simp only [zX] at hn
    split at hn
    · rename_i h5
      obtain ⟨q, h1, h2⟩ := simple hn
      exact Or.inr (Or.inr (Or.inl ⟨q, h1, h2, fun _ _ => h5, fun _ q => (by cases q)⟩))
    · rename_i h5
      obtain ⟨d', h1, h2⟩ := call hn
      exact Or.inr (Or.inr (Or.inr ⟨d', h1, Or.inr (Or.inl ⟨ix, rfl, h5⟩), h2⟩))
  case invokespecial ix =>
    simp only [zX] at hn
    split at hn
    · rename_i h5
      obtain ⟨q, h1, h2⟩ := simple hn
      exact Or.inr (Or.inr (Or.inl ⟨q, h1, h2, fun _ q => (by cases q), fun _ _ => h5⟩))
    · rename_i h5
      obtain ⟨d', h1, h2⟩ := call hn
      exact Or.inr (Or.inr (Or.inr ⟨d', h1, Or.inr (Or.inr ⟨ix, rfl, h5⟩), h2⟩))
  all_goals
    obtain ⟨q, h1, h2⟩ := simple hn
    exact Or.inr (Or.inr (Or.inl ⟨q, h1, h2, fun _ q => (by cases q), fun _ q => (by cases q)⟩))
theorem zR_mono : ∀ (n : Nat) {d m pc : Nat} {ls : Zl} {st : List Zv} {h : Zh} {r : Zv × Zh}, zR n d m pc ls st h = some r → h.1.length ≤ r.2.1.length ∧ z_sz h.1 ≤ z_sz r.2.1
  | 0, _, _, _, _, _, _, _, hn => by cases hn
  | n + 1, d, m, pc, ls, st, h, r, hn => by
    unfold zR at hn
    split at hn
    · cases hn
    · rename_i en _
      rcases zX_inv hn with ⟨v, -, -, -, rfl⟩ | ⟨-, -, rfl⟩ | ⟨q, h1, h2, -⟩ | ⟨d', -, -, -, -, -, q, h1, h2⟩
      · exact ⟨Nat.le_refl _, Nat.le_refl _⟩
      · exact ⟨Nat.le_refl _, Nat.le_refl _⟩
      · have a := z_n_mono h1
        have b := zR_mono n h2
        exact ⟨Nat.le_trans a.1 b.1, Nat.le_trans a.2 b.2⟩
      · have a := zR_mono n h1
        have b := zR_mono n h2
        exact ⟨Nat.le_trans a.1 b.1, Nat.le_trans a.2 b.2⟩
