/-! an abstract machine for this claim's bytecode: whole numbers for ints, cell numbers for references -/
abbrev Zv : Type := Sum Int Nat
abbrev Zsh : Type := List (Nat × Nat × List Nat)
abbrev Zh : Type := Zsh × (Nat → Int → Int)
abbrev Zl : Type := List (Option Zv)
abbrev Zr : Type := Option (Zv × Zh)
abbrev Zk (β : Type) : Type := Nat → Zl → List Zv → Zh → Option β
def z_wrap (z : Int) : Int := (z + 2147483648) % 4294967296 - 2147483648
def z_up (σ : Nat → Int → Int) (k : Nat) (i v : Int) : Nat → Int → Int := fun k' i' => if k' = k ∧ i' = i then v else σ k' i'
def z_clr (σ : Nat → Int → Int) (k : Nat) : Nat → Int → Int := fun k' i' => if k' = k then 0 else σ k' i'
def z_and (x y : Int) : Int := (Int32.ofInt x &&& Int32.ofInt y).toInt
def z_or (x y : Int) : Int := (Int32.ofInt x ||| Int32.ofInt y).toInt
def z_xor (x y : Int) : Int := (Int32.ofInt x ^^^ Int32.ofInt y).toInt
def z_shl (x y : Int) : Int := (Int32.ofInt x <<< (Int32.ofInt y &&& 31)).toInt
def z_shr (x y : Int) : Int := (Int32.ofInt x >>> (Int32.ofInt y &&& 31)).toInt
def z_ushr (x y : Int) : Int := ((Int32.ofInt x).toUInt32 >>> ((Int32.ofInt y).toUInt32 &&& Int32.toUInt32 31)).toInt32.toInt
def z_above (i : Int) : Int := if i = 0 then -1 else if i = 1 then 0 else if i = 2 then 0 else if i = 3 then 0 else if i = 4 then 3 else 1
def z_bodies (i : Int) : Int := ([10, 11, 12, 13, 20, 0, 0, 21, 0, 0, 30, 0, 0, 40, 41, 0, 50, 51, 0, 0, 61, 0, 0, 60] : List Int).getD i.toNat 0
/-- the script's numbers lie at 1000, its length at 1001 -/
def z_rd {β : Type} (h : Zh) (kd a : Nat) (i : Int) (K : Int → Option β) : Option β :=
  match a with
  | 0 => none
  | 1 => if kd = 8 then (if 0 ≤ i ∧ i < h.2 1001 0 then K (h.2 1000 i) else none) else none
  | 2 => if kd = 8 then (if 0 ≤ i ∧ i < 6 then K (z_above i) else none) else none
  | 3 => if kd = 8 then (if 0 ≤ i ∧ i < 24 then K (z_bodies i) else none) else none
  | k + 4 => match h.1[k]? with
    | none => none
    | some c => if c.1 = kd then (if 0 ≤ i ∧ i < c.2.1 then K (h.2 k i) else none) else none
def z_len {β : Type} (h : Zh) (a : Nat) (K : Int → Option β) : Option β :=
  match a with
  | 0 => none
  | 1 => K (h.2 1001 0)
  | 2 => K 6
  | 3 => K 24
  | k + 4 => match h.1[k]? with
    | none => none
    | some c => if c.1 = 8 then K c.2.1 else none
def z_wr {β : Type} (h : Zh) (kd a : Nat) (i v : Int) (K : Zh → Option β) : Option β :=
  match a with
  | 0 => none
  | 1 => none
  | 2 => none
  | 3 => none
  | k + 4 => match h.1[k]? with
    | none => none
    | some c => if c.1 = kd then (if 0 ≤ i ∧ i < c.2.1 then K (h.1, z_up h.2 k i v) else none) else none
def z_get {β : Type} (h : Zh) (a x y z : Nat) (K : Zv → Option β) : Option β :=
  match a with
  | 0 => none
  | 1 => none
  | 2 => none
  | 3 => none
  | k + 4 => match h.1[k]? with
    | none => none
    | some c => if c.1 = x then (if z = 2 then (match c.2.2[y]? with
        | none => none
        | some r => K (.inr r)) else K (.inl (h.2 k y))) else none
def z_puti {β : Type} (h : Zh) (a x y z : Nat) (v : Int) (K : Zh → Option β) : Option β :=
  match a with
  | 0 => none
  | 1 => none
  | 2 => none
  | 3 => none
  | k + 4 => match h.1[k]? with
    | none => none
    | some c => if c.1 = x then (if z = 0 then K (h.1, z_up h.2 k y v) else if z = 1 then (if v = 0 ∨ v = 1 then K (h.1, z_up h.2 k y v) else none) else none) else none
def z_putr {β : Type} (h : Zh) (a x y z r : Nat) (K : Zh → Option β) : Option β :=
  match a with
  | 0 => none
  | 1 => none
  | 2 => none
  | 3 => none
  | k + 4 => match h.1[k]? with
    | none => none
    | some c => if c.1 = x then (if z = 2 ∧ y < c.2.2.length then K (h.1.set k (c.1, c.2.1, c.2.2.set y r), h.2) else none) else none
def z_rdq {β : Type} (h : Zh) (a : Nat) (i : Int) (K : Nat → Option β) : Option β :=
  match a with
  | 0 => none
  | 1 => none
  | 2 => none
  | 3 => none
  | k + 4 => match h.1[k]? with
    | none => none
    | some c => if c.1 = 10 then (if 0 ≤ i ∧ i < c.2.1 then (match c.2.2[i.toNat]? with
        | none => none
        | some r => K r) else none) else none
def z_wrq {β : Type} (h : Zh) (a r : Nat) (i : Int) (K : Zh → Option β) : Option β :=
  match a with
  | 0 => none
  | 1 => none
  | 2 => none
  | 3 => none
  | k + 4 => match h.1[k]?, h.1[r - 4]? with
    | some c, some q => if c.1 = 10 ∧ q.1 = 5 ∧ 4 ≤ r then (if 0 ≤ i ∧ i < c.2.1 ∧ i.toNat < c.2.2.length then K (h.1.set k (c.1, c.2.1, c.2.2.set i.toNat r), h.2) else none) else none
    | _, _ => none
def z_sw {β : Type} (x lo : Int) (K : Nat → Option β) (dflt : Nat) : List Nat → Option β
  | [] => K dflt
  | t :: ts => if x = lo then K t else z_sw x (lo + 1) K dflt ts
def z_tg (pc : Nat) (o : Int) : Nat := ((pc : Int) + o).toNat
def z_copy (σ : Nat → Int → Int) (a b : Nat) (i j n : Int) : Nat → Int → Int := fun k' i' => if k' = b ∧ j ≤ i' ∧ i' < j + n then σ a (i + (i' - j)) else σ k' i'
/-- an instruction that neither calls nor returns -/
def z_st {β : Type} (e : Ze) (pc : Nat) (ls : Zl) (st : List Zv) (h : Zh) (K : Zk β) : Option β :=
  match e.1 with
  | .iconst n => K (pc + 1) ls (.inl n :: st) h
  | .bipush n => K (pc + 2) ls (.inl n :: st) h
  | .sipush n => K (pc + 3) ls (.inl n :: st) h
  | .ldc_w _ => K (pc + 3) ls (.inl (e.2.2.1 : Int) :: st) h
  | .iload_n i => match ls[i.val]? with
    | some (some (.inl v)) => K (pc + 1) ls (.inl v :: st) h
    | _ => none
  | .iload i => match ls[i]? with
    | some (some (.inl v)) => K (pc + 2) ls (.inl v :: st) h
    | _ => none
  | .aload_n i => match ls[i.val]? with
    | some (some (.inr (v + 1))) => K (pc + 1) ls (.inr (v + 1) :: st) h
    | _ => none
  | .aload i => match ls[i]? with
    | some (some (.inr (v + 1))) => K (pc + 2) ls (.inr (v + 1) :: st) h
    | _ => none
  | .istore_n i => match st with
    | .inl v :: r => K (pc + 1) (ls.set i.val (some (.inl v))) r h
    | _ => none
  | .istore i => match st with
    | .inl v :: r => K (pc + 2) (ls.set i (some (.inl v))) r h
    | _ => none
  | .astore_n i => match st with
    | .inr (v + 1) :: r => K (pc + 1) (ls.set i.val (some (.inr (v + 1)))) r h
    | _ => none
  | .astore i => match st with
    | .inr (v + 1) :: r => K (pc + 2) (ls.set i (some (.inr (v + 1)))) r h
    | _ => none
  | .iinc i n => match ls[i]? with
    | some (some (.inl v)) => K (pc + 3) (ls.set i (some (.inl (z_wrap (v + n))))) st h
    | _ => none
  | .iadd => match st with
    | .inl y :: .inl x :: r => K (pc + 1) ls (.inl (z_wrap (x + y)) :: r) h
    | _ => none
  | .isub => match st with
    | .inl y :: .inl x :: r => K (pc + 1) ls (.inl (z_wrap (x - y)) :: r) h
    | _ => none
  | .imul => match st with
    | .inl y :: .inl x :: r => K (pc + 1) ls (.inl (z_wrap (x * y)) :: r) h
    | _ => none
  | .idiv => match st with
    | .inl y :: .inl x :: r => if y = 0 then none else K (pc + 1) ls (.inl (z_wrap (x.tdiv y)) :: r) h
    | _ => none
  | .irem => match st with
    | .inl y :: .inl x :: r => if y = 0 then none else K (pc + 1) ls (.inl (x.tmod y) :: r) h
    | _ => none
  | .iand => match st with
    | .inl y :: .inl x :: r => K (pc + 1) ls (.inl (z_and x y) :: r) h
    | _ => none
  | .ior => match st with
    | .inl y :: .inl x :: r => K (pc + 1) ls (.inl (z_or x y) :: r) h
    | _ => none
  | .ixor => match st with
    | .inl y :: .inl x :: r => K (pc + 1) ls (.inl (z_xor x y) :: r) h
    | _ => none
  | .ishl => match st with
    | .inl y :: .inl x :: r => K (pc + 1) ls (.inl (z_shl x y) :: r) h
    | _ => none
  | .ishr => match st with
    | .inl y :: .inl x :: r => K (pc + 1) ls (.inl (z_shr x y) :: r) h
    | _ => none
  | .iushr => match st with
    | .inl y :: .inl x :: r => K (pc + 1) ls (.inl (z_ushr x y) :: r) h
    | _ => none
  | .ineg => match st with
    | .inl x :: r => K (pc + 1) ls (.inl (z_wrap (-x)) :: r) h
    | _ => none
  | .i2b => match st with
    | .inl x :: r => K (pc + 1) ls (.inl ((x + 128) % 256 - 128) :: r) h
    | _ => none
  | .dup => match st with
    | a :: r => K (pc + 1) ls (a :: a :: r) h
    | _ => none
  | .dup2 => match st with
    | a :: b :: r => K (pc + 1) ls (a :: b :: a :: b :: r) h
    | _ => none
  | .dup_x1 => match st with
    | a :: b :: r => K (pc + 1) ls (a :: b :: a :: r) h
    | _ => none
  | .dup_x2 => match st with
    | a :: b :: c :: r => K (pc + 1) ls (a :: b :: c :: a :: r) h
    | _ => none
  | .pop => match st with
    | _ :: r => K (pc + 1) ls r h
    | _ => none
  | .goto _ => K e.2.2.1 ls st h
  | .ifCond c _ => match st with
    | .inl x :: r => (match c with
      | .eq => if x = 0 then K e.2.2.1 ls r h else K (pc + 3) ls r h
      | .ne => if x = 0 then K (pc + 3) ls r h else K e.2.2.1 ls r h
      | .lt => if x < 0 then K e.2.2.1 ls r h else K (pc + 3) ls r h
      | .ge => if x < 0 then K (pc + 3) ls r h else K e.2.2.1 ls r h
      | .gt => if 0 < x then K e.2.2.1 ls r h else K (pc + 3) ls r h
      | .le => if 0 < x then K (pc + 3) ls r h else K e.2.2.1 ls r h)
    | _ => none
  | .if_icmp c _ => match st with
    | .inl y :: .inl x :: r => (match c with
      | .eq => if x = y then K e.2.2.1 ls r h else K (pc + 3) ls r h
      | .ne => if x = y then K (pc + 3) ls r h else K e.2.2.1 ls r h
      | .lt => if x < y then K e.2.2.1 ls r h else K (pc + 3) ls r h
      | .ge => if x < y then K (pc + 3) ls r h else K e.2.2.1 ls r h
      | .gt => if y < x then K e.2.2.1 ls r h else K (pc + 3) ls r h
      | .le => if y < x then K (pc + 3) ls r h else K e.2.2.1 ls r h)
    | _ => none
  | .ifnull _ => match st with
    | .inr (_ + 1) :: r => K (pc + 3) ls r h
    | _ => none
  | .ifnonnull _ => match st with
    | .inr (_ + 1) :: r => K e.2.2.1 ls r h
    | _ => none
  | .tableswitch d lo _ os => match st with
    | .inl x :: r => z_sw x lo (fun t => K t ls r h) (z_tg pc d) (os.toList.map (z_tg pc))
    | _ => none
  | .iaload => match st with
    | .inl i :: .inr a :: r => z_rd h 8 a i (fun v => K (pc + 1) ls (.inl v :: r) h)
    | _ => none
  | .baload => match st with
    | .inl i :: .inr a :: r => z_rd h 9 a i (fun v => K (pc + 1) ls (.inl v :: r) h)
    | _ => none
  | .iastore => match st with
    | .inl v :: .inl i :: .inr a :: r => z_wr h 8 a i v (fun h => K (pc + 1) ls r h)
    | _ => none
  | .bastore => match st with
    | .inl v :: .inl i :: .inr a :: r => if v = 0 ∨ v = 1 then z_wr h 9 a i v (fun h => K (pc + 1) ls r h) else none
    | _ => none
  | .aaload => match st with
    | .inl i :: .inr a :: r => z_rdq h a i (fun q => K (pc + 1) ls (.inr q :: r) h)
    | _ => none
  | .aastore => match st with
    | .inr q :: .inl i :: .inr a :: r => z_wrq h a q i (fun h => K (pc + 1) ls r h)
    | _ => none
  | .arraylength => match st with
    | .inr a :: r => z_len h a (fun n => K (pc + 1) ls (.inl n :: r) h)
    | _ => none
  | .getfield _ => match st with
    | .inr a :: r => z_get h a e.2.2.1 e.2.2.2.1 e.2.2.2.2 (fun v => K (pc + 3) ls (v :: r) h)
    | _ => none
  | .putfield _ => match st with
    | .inl v :: .inr a :: r => z_puti h a e.2.2.1 e.2.2.2.1 e.2.2.2.2 v (fun h => K (pc + 3) ls r h)
    | .inr q :: .inr a :: r => z_putr h a e.2.2.1 e.2.2.2.1 e.2.2.2.2 q (fun h => K (pc + 3) ls r h)
    | _ => none
  | .getstatic _ => K (pc + 3) ls (.inr e.2.2.1 :: st) h
  | .new _ => if h.1.length < 900 then K (pc + 3) ls (.inr (h.1.length + 4) :: st) (h.1 ++ [(e.2.2.1, e.2.2.2.1, List.replicate e.2.2.2.1 0)], z_clr h.2 h.1.length) else none
  | .newarray _ => match st with
    | .inl n :: r => if 0 ≤ n ∧ n < 100000 ∧ h.1.length < 900 then K (pc + 2) ls (.inr (h.1.length + 4) :: r) (h.1 ++ [(e.2.2.1, n.toNat, [])], z_clr h.2 h.1.length) else none
    | _ => none
  | .anewarray _ => match st with
    | .inl n :: r => if 0 ≤ n ∧ n < 100000 ∧ h.1.length < 900 then K (pc + 3) ls (.inr (h.1.length + 4) :: r) (h.1 ++ [(10, n.toNat, List.replicate n.toNat 0)], z_clr h.2 h.1.length) else none
    | _ => none
  | .invokespecial _ => match st with
    | .inr (_ + 4) :: r => if r.length ≤ 8 then K (pc + 3) ls r h else none
    | _ => none
  | .invokestatic _ => match st with
    | .inl n :: .inl j :: .inr (b + 4) :: .inl i :: .inr (a + 4) :: r => (match h.1[a]?, h.1[b]? with
      | some ca, some cb => if ca.1 = 8 ∧ cb.1 = 8 ∧ 0 ≤ i ∧ 0 ≤ j ∧ 0 ≤ n ∧ i + n ≤ ca.2.1 ∧ j + n ≤ cb.2.1 ∧ ¬ a = b ∧ r.length ≤ 8 then K (pc + 3) ls r (h.1, z_copy h.2 a b i j n) else none
      | _, _ => none)
    | _ => none
  | _ => none
def z_rcv (h : Zh) (kd z : Nat) (as : List Zv) : Bool :=
  if z < 2 then true else match as with
    | .inr (k + 4) :: _ => (match h.1[k]? with
      | some c => c.1 == kd
      | none => false)
    | _ => false
def z_loc (n : Nat) (as : List Zv) : Zl := as.map some ++ List.replicate (n - as.length) none
def z_psh (z : Nat) (v : Zv) (r : List Zv) : List Zv := if z = 0 ∨ z = 2 then v :: r else r
def z_call (e : Ze) (d pc : Nat) (ls : Zl) (st : List Zv) (h : Zh) (K : Zk (Zv × Zh)) (C : Nat → Nat → Zl → Zh → Zr) : Zr :=
  match d with
  | 0 => none
  | d + 1 => if e.2.2.2.1 ≤ st.length ∧ st.length ≤ e.2.2.2.1 + 8 ∧ z_rcv h (zkind e.2.2.1) e.2.2.2.2 (st.take e.2.2.2.1).reverse = true then
      (C d e.2.2.1 (z_loc (zmaxl e.2.2.1) (st.take e.2.2.2.1).reverse) h).bind (fun q => K (pc + 3) ls (z_psh e.2.2.2.2 q.1 (st.drop e.2.2.2.1)) q.2) else none
def zX (e : Ze) (d pc : Nat) (ls : Zl) (st : List Zv) (h : Zh) (K : Zk (Zv × Zh)) (C : Nat → Nat → Zl → Zh → Zr) : Zr :=
  match e.1 with
  | .ireturn => match st with
    | [.inl v] => if e.2.2.1 = 1 then (if v = 0 ∨ v = 1 then some (.inl v, h) else none) else some (.inl v, h)
    | _ => none
  | .return_ => match st with
    | [] => some (.inl 0, h)
    | _ => none
  | .invokevirtual _ => z_call e d pc ls st h K C
  | .invokestatic _ => if e.2.2.2.2 = 5 then z_st e pc ls st h K else z_call e d pc ls st h K C
  | .invokespecial _ => if e.2.2.2.2 = 5 then z_st e pc ls st h K else z_call e d pc ls st h K C
  | _ => z_st e pc ls st h K
def zR : Nat → Nat → Nat → Nat → Zl → List Zv → Zh → Zr
  | 0, _, _, _, _, _, _ => none
  | n + 1, d, m, pc, ls, st, h => match zcode m pc with
    | none => none
    | some e => zX e d pc ls st h (fun pc ls st h => zR n d m pc ls st h) (fun d m ls h => zR n d m 0 ls [] h)
noncomputable def zE (d m pc : Nat) (ls : Zl) (st : List Zv) (h : Zh) : Zr :=
  @dite _ (∃ n, (zR n d m pc ls st h).isSome = true) (Classical.propDecidable _) (fun q => zR (Classical.choose q) d m pc ls st h) (fun _ => none)
noncomputable def zI (stop : List Nat) : Nat → Nat → Nat → Nat → Zl → List Zv → Zh → Zr
  | 0, d, m, pc, ls, st, h => zE d m pc ls st h
  | k + 1, d, m, pc, ls, st, h => if stop.contains pc = true then zE d m pc ls st h else match zcode m pc with
    | none => none
    | some e => zX e d pc ls st h (fun pc ls st h => zI stop k d m pc ls st h) (fun d m ls h => zE d m 0 ls [] h)
noncomputable def zJ (stop : List Nat) (k d m pc : Nat) (ls : Zl) (st : List Zv) (h : Zh) : Zr := match zcode m pc with
  | none => none
  | some e => zX e d pc ls st h (fun pc ls st h => zI stop k d m pc ls st h) (fun d m ls h => zE d m 0 ls [] h)
def zS : Zsh := [(0, 9, [5, 24, 43, 53, 64, 66, 0, 0, 0]), (2, 11, [6, 8, 10, 12, 14, 16, 18, 20, 22, 0, 0]), (6, 4, [0, 0, 7, 0]), (8, 48, []), (6, 4, [0, 0, 9, 0]), (8, 24, []), (6, 4, [0, 0, 11, 0]), (8, 24, []), (6, 4, [0, 0, 13, 0]), (8, 140, []), (6, 4, [0, 0, 15, 0]), (8, 108, []), (6, 4, [0, 0, 17, 0]), (8, 36, []), (6, 4, [0, 0, 19, 0]), (8, 4, []), (6, 4, [0, 0, 21, 0]), (8, 24, []), (6, 4, [0, 0, 23, 0]), (8, 60, []), (2, 11, [25, 27, 29, 31, 33, 35, 37, 39, 41, 0, 0]), (6, 4, [0, 0, 26, 0]), (8, 48, []), (6, 4, [0, 0, 28, 0]), (8, 24, []), (6, 4, [0, 0, 30, 0]), (8, 24, []), (6, 4, [0, 0, 32, 0]), (8, 140, []), (6, 4, [0, 0, 34, 0]), (8, 108, []), (6, 4, [0, 0, 36, 0]), (8, 36, []), (6, 4, [0, 0, 38, 0]), (8, 4, []), (6, 4, [0, 0, 40, 0]), (8, 24, []), (6, 4, [0, 0, 42, 0]), (8, 60, []), (4, 12, [44, 45, 46, 47, 48, 49, 50, 51, 52, 0, 0, 0]), (8, 6, []), (8, 6, []), (8, 6, []), (8, 6, []), (8, 36, []), (8, 6, []), (8, 6, []), (8, 6, []), (8, 6, []), (3, 14, [54, 55, 56, 57, 58, 59, 60, 61, 62, 63, 0, 0, 0, 0]), (8, 4, []), (8, 6, []), (8, 6, []), (8, 6, []), (8, 6, []), (8, 80, []), (8, 80, []), (8, 7, []), (8, 6, []), (8, 6, []), (1, 6, [65, 0, 0, 0, 0, 0]), (8, 50, []), (10, 4, [67, 69, 71, 73]), (5, 3, [68, 0, 0]), (8, 40, []), (5, 3, [70, 0, 0]), (8, 40, []), (5, 3, [72, 0, 0]), (8, 40, []), (5, 3, [74, 0, 0]), (8, 40, []), (7, 71, [0, 0, 0, 76, 77, 78, 0, 79, 80, 81, 0, 82, 83, 0, 84, 85, 86, 87, 88, 89, 90, 0, 91, 92, 93, 94, 95, 96, 97, 0, 98, 99, 100, 101, 102, 0, 0, 103, 0, 104, 105, 106, 107, 0, 108, 109, 110, 0, 0, 111, 112, 113, 114, 0, 0, 115, 116, 0, 0, 0, 117, 118, 119, 120, 121, 122, 123, 0, 124, 125, 126]), (8, 12, []), (8, 12, []), (8, 12, []), (8, 6, []), (8, 6, []), (8, 6, []), (8, 12, []), (8, 12, []), (8, 20, []), (8, 20, []), (8, 20, []), (8, 20, []), (8, 20, []), (8, 20, []), (8, 20, []), (9, 12, []), (8, 12, []), (8, 12, []), (8, 24, []), (8, 24, []), (8, 12, []), (8, 12, []), (8, 6, []), (8, 6, []), (8, 6, []), (8, 6, []), (9, 6, []), (8, 4, []), (8, 6, []), (8, 6, []), (8, 6, []), (8, 6, []), (8, 10, []), (8, 50, []), (8, 10, []), (8, 6, []), (8, 6, []), (8, 6, []), (8, 6, []), (8, 6, []), (8, 6, []), (8, 11, []), (8, 24, []), (8, 12, []), (8, 40, []), (8, 12, []), (8, 10, []), (8, 50, []), (8, 4, []), (8, 4, []), (8, 160, [])]
