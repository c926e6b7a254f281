def z_rcv (h : Zh) (kd z : Nat) (as : List Zv) : Bool :=
  if z < 2 then true else match as with
    | .inr (k + 4) :: _ => (match h.1[k]? with
      | some c => c.1 == kd
      | none => false)
    | _ => false
def z_loc (n : Nat) (as : List Zv) : Zl := as.map some ++ List.replicate (n - as.length) none
def z_psh (z : Nat) (v : Zv) (r : List Zv) : List Zv := if z = 0 ∨ z = 2 then v :: r else r
def z_call (e : Ze) (d pc : Nat) (ls : Zl) (st : List Zv) (h : Zh) (K : Zk) (C : Nat → Nat → Zl → Zh → Zr) : Zr :=
  match d with
  | 0 => none
  | d + 1 => if e.2.2.2.1 ≤ st.length ∧ st.length ≤ e.2.2.2.1 + 8 ∧ z_rcv h (zkind e.2.2.1) e.2.2.2.2 (st.take e.2.2.2.1).reverse = true then
      (C d e.2.2.1 (z_loc (zmaxl e.2.2.1) (st.take e.2.2.2.1).reverse) h).bind (fun q => K (pc + 3) ls (z_psh e.2.2.2.2 q.1 (st.drop e.2.2.2.1)) q.2) else none
def zX (e : Ze) (d pc : Nat) (ls : Zl) (st : List Zv) (h : Zh) (K : Zk) (C : Nat → Nat → Zl → Zh → Zr) : Zr :=
  match e.1 with
  | .ireturn => match st with
    | [.inl v] => if e.2.2.1 = 1 then (if v = 0 ∨ v = 1 then some (.inl v, h) else none) else some (.inl v, h)
    | _ => none
  | .return_ => match st with
    | [] => some (.inl 0, h)
    | _ => none
  | .invokevirtual _ => z_call e d pc ls st h K C
  | .invokestatic _ => if e.2.2.2.2 = 5 then z_st e pc ls st h K else z_call e d pc ls st h K C
  | .invokespecial _ => if e.2.2.2.2 = 5 then z_st e pc ls st h K else z_call e d pc ls st h K C
  | _ => z_st e pc ls st h K
def zR : Nat → Nat → Nat → Nat → Zl → List Zv → Zh → Zr
  | 0, _, _, _, _, _, _ => none
  | n + 1, d, m, pc, ls, st, h => match zcode m pc with
    | none => none
    | some e => zX e d pc ls st h (fun pc ls st h => zR n d m pc ls st h) (fun d m ls h => zR n d m 0 ls [] h)
noncomputable def zE (d m pc : Nat) (ls : Zl) (st : List Zv) (h : Zh) : Zr :=
  @dite _ (∃ n, (zR n d m pc ls st h).isSome = true) (Classical.propDecidable _) (fun q => zR (Classical.choose q) d m pc ls st h) (fun _ => none)
noncomputable def zI (stop : List Nat) : Nat → Nat → Nat → Nat → Zl → List Zv → Zh → Zr
  | 0, d, m, pc, ls, st, h => zE d m pc ls st h
  | k + 1, d, m, pc, ls, st, h => if stop.contains pc = true then zE d m pc ls st h else match zcode m pc with
    | none => none
    | some e => zX e d pc ls st h (fun pc ls st h => zI stop k d m pc ls st h) (fun d m ls h => zE d m 0 ls [] h)
noncomputable def zJ (stop : List Nat) (k d m pc : Nat) (ls : Zl) (st : List Zv) (h : Zh) : Zr := match zcode m pc with
  | none => none
  | some e => zX e d pc ls st h (fun pc ls st h => zI stop k d m pc ls st h) (fun d m ls h => zE d m 0 ls [] h)
def zS : Zsh := [(0, 9, [5, 24, 43, 53, 64, 66, 0, 0, 0]), (2, 11, [6, 8, 10, 12, 14, 16, 18, 20, 22, 0, 0]), (6, 4, [0, 0, 7, 0]), (8, 48, []), (6, 4, [0, 0, 9, 0]), (8, 24, []), (6, 4, [0, 0, 11, 0]), (8, 24, []), (6, 4, [0, 0, 13, 0]), (8, 140, []), (6, 4, [0, 0, 15, 0]), (8, 108, []), (6, 4, [0, 0, 17, 0]), (8, 36, []), (6, 4, [0, 0, 19, 0]), (8, 4, []), (6, 4, [0, 0, 21, 0]), (8, 24, []), (6, 4, [0, 0, 23, 0]), (8, 60, []), (2, 11, [25, 27, 29, 31, 33, 35, 37, 39, 41, 0, 0]), (6, 4, [0, 0, 26, 0]), (8, 48, []), (6, 4, [0, 0, 28, 0]), (8, 24, []), (6, 4, [0, 0, 30, 0]), (8, 24, []), (6, 4, [0, 0, 32, 0]), (8, 140, []), (6, 4, [0, 0, 34, 0]), (8, 108, []), (6, 4, [0, 0, 36, 0]), (8, 36, []), (6, 4, [0, 0, 38, 0]), (8, 4, []), (6, 4, [0, 0, 40, 0]), (8, 24, []), (6, 4, [0, 0, 42, 0]), (8, 60, []), (4, 12, [44, 45, 46, 47, 48, 49, 50, 51, 52, 0, 0, 0]), (8, 6, []), (8, 6, []), (8, 6, []), (8, 6, []), (8, 36, []), (8, 6, []), (8, 6, []), (8, 6, []), (8, 6, []), (3, 14, [54, 55, 56, 57, 58, 59, 60, 61, 62, 63, 0, 0, 0, 0]), (8, 4, []), (8, 6, []), (8, 6, []), (8, 6, []), (8, 6, []), (8, 80, []), (8, 80, []), (8, 7, []), (8, 6, []), (8, 6, []), (1, 6, [65, 0, 0, 0, 0, 0]), (8, 50, []), (10, 4, [67, 69, 71, 73]), (5, 3, [68, 0, 0]), (8, 40, []), (5, 3, [70, 0, 0]), (8, 40, []), (5, 3, [72, 0, 0]), (8, 40, []), (5, 3, [74, 0, 0]), (8, 40, []), (7, 71, [0, 0, 0, 76, 77, 78, 0, 79, 80, 81, 0, 82, 83, 0, 84, 85, 86, 87, 88, 89, 90, 0, 91, 92, 93, 94, 95, 96, 97, 0, 98, 99, 100, 101, 102, 0, 0, 103, 0, 104, 105, 106, 107, 0, 108, 109, 110, 0, 0, 111, 112, 113, 114, 0, 0, 115, 116, 0, 0, 0, 117, 118, 119, 120, 121, 122, 123, 0, 124, 125, 126]), (8, 12, []), (8, 12, []), (8, 12, []), (8, 6, []), (8, 6, []), (8, 6, []), (8, 12, []), (8, 12, []), (8, 20, []), (8, 20, []), (8, 20, []), (8, 20, []), (8, 20, []), (8, 20, []), (8, 20, []), (9, 12, []), (8, 12, []), (8, 12, []), (8, 24, []), (8, 24, []), (8, 12, []), (8, 12, []), (8, 6, []), (8, 6, []), (8, 6, []), (8, 6, []), (9, 6, []), (8, 4, []), (8, 6, []), (8, 6, []), (8, 6, []), (8, 6, []), (8, 10, []), (8, 50, []), (8, 10, []), (8, 6, []), (8, 6, []), (8, 6, []), (8, 6, []), (8, 6, []), (8, 6, []), (8, 11, []), (8, 24, []), (8, 12, []), (8, 40, []), (8, 12, []), (8, 10, []), (8, 50, []), (8, 4, []), (8, 4, []), (8, 160, [])]
