-- the checks of an entry
def z_ok (mi pc : Nat) (e : Ze) : Bool :=
  match e.1 with
  | .iconst n => e.2.1 == 1 && decide (-32768 ≤ n ∧ n ≤ 32767)
  | .bipush n => e.2.1 == 2 && decide (-128 ≤ n ∧ n ≤ 127)
  | .sipush n => e.2.1 == 3 && decide (-32768 ≤ n ∧ n ≤ 32767)
  | .ldc_w i => e.2.1 == 3 && decide (e.2.2.1 < 2147483648) && zCN.any (fun q => q.1 == zkind mi && q.2.1 == i && q.2.2.1 == e.2.2.1)
  | .iload_n _ => e.2.1 == 1
  | .iload _ => e.2.1 == 2
  | .aload_n _ => e.2.1 == 1
  | .aload _ => e.2.1 == 2
  | .istore_n i => e.2.1 == 1 && decide (i.val < zmaxl mi)
  | .istore i => e.2.1 == 2 && decide (i < zmaxl mi)
  | .astore_n i => e.2.1 == 1 && decide (i.val < zmaxl mi)
  | .astore i => e.2.1 == 2 && decide (i < zmaxl mi)
  | .iinc i n => e.2.1 == 3 && decide (i < zmaxl mi) && decide (-32768 ≤ n ∧ n ≤ 32767)
  | .goto o => e.2.1 == 3 && decide ((pc : Int) + o = e.2.2.1)
  | .ifCond _ o => e.2.1 == 3 && decide ((pc : Int) + o = e.2.2.1)
  | .if_icmp _ o => e.2.1 == 3 && decide ((pc : Int) + o = e.2.2.1)
  | .ifnull o => e.2.1 == 3 && decide ((pc : Int) + o = e.2.2.1)
  | .ifnonnull o => e.2.1 == 3 && decide ((pc : Int) + o = e.2.2.1)
  | .tableswitch d lo hi os => decide (0 ≤ (pc : Int) + d) && os.toList.all (fun o => decide (0 ≤ (pc : Int) + o)) && decide ((os.toList.length : Int) = hi - lo + 1) && decide (-32768 ≤ lo ∧ hi ≤ 32767)
  | .getfield i => e.2.1 == 3 && decide (e.2.2.1 < 8) && decide (e.2.2.2.1 < zN e.2.2.1) && decide (e.2.2.2.2 = zflag e.2.2.1 e.2.2.2.1) && zFL.any (fun q => q.1 == zkind mi && q.2.1 == i && q.2.2.1 == e.2.2.1 && q.2.2.2.1 == e.2.2.2.1)
  | .putfield i => e.2.1 == 3 && decide (e.2.2.1 < 8) && decide (e.2.2.2.1 < zN e.2.2.1) && decide (e.2.2.2.2 = zflag e.2.2.1 e.2.2.2.1) && zFL.any (fun q => q.1 == zkind mi && q.2.1 == i && q.2.2.1 == e.2.2.1 && q.2.2.2.1 == e.2.2.2.1) &&
      (!(zT e.2.2.1 e.2.2.2.1).2.2.2 || (zkind mi == e.2.2.1 && (zmw mi).1 == 2))
  | .getstatic i => e.2.1 == 3 && (e.2.2.1 == 2 || e.2.2.1 == 3) && zSL.any (fun q => q.1 == zkind mi && q.2.1 == i && q.2.2.1 == e.2.2.1)
  | .new i => e.2.1 == 3 && decide (e.2.2.1 < 8) && decide (e.2.2.2.1 = zN e.2.2.1) && zCL.any (fun q => q.1 == zkind mi && q.2.1 == i && q.2.2.1 == e.2.2.1)
  | .newarray t => e.2.1 == 2 && (match t with
    | .int => e.2.2.1 == 8
    | .boolean => e.2.2.1 == 9
    | _ => false)
  | .anewarray i => e.2.1 == 3 && zCL.any (fun q => q.1 == zkind mi && q.2.1 == i && q.2.2.1 == 5)
  | .ireturn => e.2.1 == 1 && ((e.2.2.1 == 0 && (zmn mi).2.2.1 == 1) || (e.2.2.1 == 1 && (zmn mi).2.2.1 == 2))
  | .return_ => e.2.1 == 1 && (zmn mi).2.2.1 == 0
  | .invokevirtual i => e.2.1 == 3 && decide (e.2.2.1 < 237) && decide (e.2.2.2.1 = (zmn e.2.2.1).2.2.2 + 1) && (zmw e.2.2.1).1 == 1 && ((e.2.2.2.2 == 2 && (zmn e.2.2.1).2.2.1 != 0) || (e.2.2.2.2 == 3 && (zmn e.2.2.1).2.2.1 == 0)) && zML.any (fun q => q.1 == zkind mi && q.2.1 == i && q.2.2.1 == e.2.2.1)
  | .invokestatic i => e.2.1 == 3 && (if e.2.2.2.2 = 5 then zAL.any (fun q => q.1 == zkind mi && q.2.1 == i) else
      decide (e.2.2.1 < 237) && decide (e.2.2.2.1 = (zmn e.2.2.1).2.2.2) && (zmw e.2.2.1).1 == 0 && ((e.2.2.2.2 == 0 && (zmn e.2.2.1).2.2.1 != 0) || (e.2.2.2.2 == 1 && (zmn e.2.2.1).2.2.1 == 0)) && (zML.any (fun q => q.1 == zkind mi && q.2.1 == i && q.2.2.1 == e.2.2.1) || zNL.any (fun q => q.1 == zkind mi && q.2.1 == i && q.2.2.1 == e.2.2.1)))
  | .invokespecial i => e.2.1 == 3 && (if e.2.2.2.2 = 5 then zOL.any (fun q => q.1 == zkind mi && q.2.1 == i) else
      decide (e.2.2.1 < 237) && decide (e.2.2.2.1 = (zmn e.2.2.1).2.2.2 + 1) && (zmw e.2.2.1).1 == 2 && e.2.2.2.2 == 4 && (zmn e.2.2.1).2.2.1 == 0 && zML.any (fun q => q.1 == zkind mi && q.2.1 == i && q.2.2.1 == e.2.2.1))
  | _ => e.2.1 == 1
