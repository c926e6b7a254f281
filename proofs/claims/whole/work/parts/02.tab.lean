-- ===== PART A: goes FIRST, ahead of the names: the tables' words, and 'selects' of the private methods out of them =====
/-- a private method of a class that the tables say can be made, by its rows of tables_1 -/
def lw_okq (q : MethodName × Nat) : Prop := (q.1.cls ≠ "java/lang/invoke/MethodHandle" ∧ q.1.cls ≠ "java/lang/invoke/VarHandle") ∧ Cond.instantiable q.1.cls q.2 ∈ tables_1 ∧ Cond.privateMethod q.1 ∈ tables_1 ∧ Cond.instanceMethod q.1 ∈ tables_1
theorem lw_p0 : lw_okq (⟨"GamesOffice", "refused", "(I)I"⟩, 9) := ⟨⟨by decide +kernel, by decide +kernel⟩, List.mem_of_getElem? (i := 17) (by decide +kernel), List.mem_of_getElem? (i := 283) (by decide +kernel), List.mem_of_getElem? (i := 284) (by decide +kernel)⟩
theorem lw_p1 : lw_okq (⟨"GamesOffice", "done", "(I)I"⟩, 9) := ⟨⟨by decide +kernel, by decide +kernel⟩, List.mem_of_getElem? (i := 17) (by decide +kernel), List.mem_of_getElem? (i := 305) (by decide +kernel), List.mem_of_getElem? (i := 306) (by decide +kernel)⟩
theorem lw_p2 : lw_okq (⟨"GamesOffice", "isPlace", "(I)Z"⟩, 9) := ⟨⟨by decide +kernel, by decide +kernel⟩, List.mem_of_getElem? (i := 17) (by decide +kernel), List.mem_of_getElem? (i := 321) (by decide +kernel), List.mem_of_getElem? (i := 322) (by decide +kernel)⟩
theorem lw_p3 : lw_okq (⟨"GamesOffice", "tellsPass", "(IIII)Z"⟩, 9) := ⟨⟨by decide +kernel, by decide +kernel⟩, List.mem_of_getElem? (i := 17) (by decide +kernel), List.mem_of_getElem? (i := 337) (by decide +kernel), List.mem_of_getElem? (i := 338) (by decide +kernel)⟩
theorem lw_p4 : lw_okq (⟨"GamesOffice", "arePersons", "(I)Z"⟩, 9) := ⟨⟨by decide +kernel, by decide +kernel⟩, List.mem_of_getElem? (i := 17) (by decide +kernel), List.mem_of_getElem? (i := 451) (by decide +kernel), List.mem_of_getElem? (i := 452) (by decide +kernel)⟩
theorem lw_p5 : lw_okq (⟨"GamesOffice", "isBehind", "(I)Z"⟩, 9) := ⟨⟨by decide +kernel, by decide +kernel⟩, List.mem_of_getElem? (i := 17) (by decide +kernel), List.mem_of_getElem? (i := 456) (by decide +kernel), List.mem_of_getElem? (i := 457) (by decide +kernel)⟩
theorem lw_p6 : lw_okq (⟨"GamesOffice$Planner", "load", "(LGamesOffice$Table;)V"⟩, 12) := ⟨⟨by decide +kernel, by decide +kernel⟩, List.mem_of_getElem? (i := 111) (by decide +kernel), List.mem_of_getElem? (i := 573) (by decide +kernel), List.mem_of_getElem? (i := 574) (by decide +kernel)⟩
theorem lw_p7 : lw_okq (⟨"GamesOffice$Planner", "keep", "(I)V"⟩, 12) := ⟨⟨by decide +kernel, by decide +kernel⟩, List.mem_of_getElem? (i := 111) (by decide +kernel), List.mem_of_getElem? (i := 588) (by decide +kernel), List.mem_of_getElem? (i := 589) (by decide +kernel)⟩
theorem lw_p8 : lw_okq (⟨"GamesOffice$Planner", "firstBegin", "(III)I"⟩, 12) := ⟨⟨by decide +kernel, by decide +kernel⟩, List.mem_of_getElem? (i := 111) (by decide +kernel), List.mem_of_getElem? (i := 592) (by decide +kernel), List.mem_of_getElem? (i := 593) (by decide +kernel)⟩
theorem lw_p9 : lw_okq (⟨"GamesOffice$Planner", "pushed", "(III)I"⟩, 12) := ⟨⟨by decide +kernel, by decide +kernel⟩, List.mem_of_getElem? (i := 111) (by decide +kernel), List.mem_of_getElem? (i := 597) (by decide +kernel), List.mem_of_getElem? (i := 598) (by decide +kernel)⟩
theorem lw_p10 : lw_okq (⟨"GamesOffice$Lodging", "load", "(LGamesOffice$Books;)V"⟩, 14) := ⟨⟨by decide +kernel, by decide +kernel⟩, List.mem_of_getElem? (i := 154) (by decide +kernel), List.mem_of_getElem? (i := 663) (by decide +kernel), List.mem_of_getElem? (i := 664) (by decide +kernel)⟩
theorem lw_p11 : lw_okq (⟨"GamesOffice$Lodging", "worth", "(I)I"⟩, 14) := ⟨⟨by decide +kernel, by decide +kernel⟩, List.mem_of_getElem? (i := 154) (by decide +kernel), List.mem_of_getElem? (i := 671) (by decide +kernel), List.mem_of_getElem? (i := 672) (by decide +kernel)⟩
theorem lw_p12 : lw_okq (⟨"GamesOffice$Lodging", "keep", "(I)V"⟩, 14) := ⟨⟨by decide +kernel, by decide +kernel⟩, List.mem_of_getElem? (i := 154) (by decide +kernel), List.mem_of_getElem? (i := 678) (by decide +kernel), List.mem_of_getElem? (i := 679) (by decide +kernel)⟩
theorem lw_p13 : lw_okq (⟨"GamesOffice$Lodging", "fits", "(II)Z"⟩, 14) := ⟨⟨by decide +kernel, by decide +kernel⟩, List.mem_of_getElem? (i := 154) (by decide +kernel), List.mem_of_getElem? (i := 682) (by decide +kernel), List.mem_of_getElem? (i := 683) (by decide +kernel)⟩
theorem lw_p14 : lw_okq (⟨"GamesOffice$Lodging", "put", "(III)V"⟩, 14) := ⟨⟨by decide +kernel, by decide +kernel⟩, List.mem_of_getElem? (i := 154) (by decide +kernel), List.mem_of_getElem? (i := 686) (by decide +kernel), List.mem_of_getElem? (i := 687) (by decide +kernel)⟩
theorem lw_p15 : lw_okq (⟨"GamesOffice$Acts", "note", "(I)V"⟩, 6) := ⟨⟨by decide +kernel, by decide +kernel⟩, List.mem_of_getElem? (i := 203) (by decide +kernel), List.mem_of_getElem? (i := 749) (by decide +kernel), List.mem_of_getElem? (i := 750) (by decide +kernel)⟩
def lw_privs_1 : List (MethodName × Nat) := [(⟨"GamesOffice", "refused", "(I)I"⟩, 9), (⟨"GamesOffice", "done", "(I)I"⟩, 9), (⟨"GamesOffice", "isPlace", "(I)Z"⟩, 9), (⟨"GamesOffice", "tellsPass", "(IIII)Z"⟩, 9), (⟨"GamesOffice", "arePersons", "(I)Z"⟩, 9), (⟨"GamesOffice", "isBehind", "(I)Z"⟩, 9), (⟨"GamesOffice$Planner", "load", "(LGamesOffice$Table;)V"⟩, 12), (⟨"GamesOffice$Planner", "keep", "(I)V"⟩, 12), (⟨"GamesOffice$Planner", "firstBegin", "(III)I"⟩, 12), (⟨"GamesOffice$Planner", "pushed", "(III)I"⟩, 12), (⟨"GamesOffice$Lodging", "load", "(LGamesOffice$Books;)V"⟩, 14), (⟨"GamesOffice$Lodging", "worth", "(I)I"⟩, 14), (⟨"GamesOffice$Lodging", "keep", "(I)V"⟩, 14), (⟨"GamesOffice$Lodging", "fits", "(II)Z"⟩, 14), (⟨"GamesOffice$Lodging", "put", "(III)V"⟩, 14), (⟨"GamesOffice$Acts", "note", "(I)V"⟩, 6)]
theorem lw_r1 : ∀ q ∈ lw_privs_1, lw_okq q := List.forall_mem_cons.mpr ⟨lw_p0, List.forall_mem_cons.mpr ⟨lw_p1, List.forall_mem_cons.mpr ⟨lw_p2, List.forall_mem_cons.mpr ⟨lw_p3, List.forall_mem_cons.mpr ⟨lw_p4, List.forall_mem_cons.mpr ⟨lw_p5, List.forall_mem_cons.mpr ⟨lw_p6, List.forall_mem_cons.mpr ⟨lw_p7, List.forall_mem_cons.mpr ⟨lw_p8, List.forall_mem_cons.mpr ⟨lw_p9, List.forall_mem_cons.mpr ⟨lw_p10, List.forall_mem_cons.mpr ⟨lw_p11, List.forall_mem_cons.mpr ⟨lw_p12, List.forall_mem_cons.mpr ⟨lw_p13, List.forall_mem_cons.mpr ⟨lw_p14, List.forall_mem_cons.mpr ⟨lw_p15, fun _ h => absurd h List.not_mem_nil⟩⟩⟩⟩⟩⟩⟩⟩⟩⟩⟩⟩⟩⟩⟩⟩
theorem lw_p16 : lw_okq (⟨"GamesOffice", "takeForKind", "(II)I"⟩, 9) := ⟨⟨by decide +kernel, by decide +kernel⟩, List.mem_of_getElem? (i := 17) (by decide +kernel), List.mem_of_getElem? (i := 827) (by decide +kernel), List.mem_of_getElem? (i := 828) (by decide +kernel)⟩
theorem lw_p17 : lw_okq (⟨"GamesOffice", "readShort", "(II)I"⟩, 9) := ⟨⟨by decide +kernel, by decide +kernel⟩, List.mem_of_getElem? (i := 17) (by decide +kernel), List.mem_of_getElem? (i := 832) (by decide +kernel), List.mem_of_getElem? (i := 833) (by decide +kernel)⟩
theorem lw_p18 : lw_okq (⟨"GamesOffice", "copyBytes", "(II)I"⟩, 9) := ⟨⟨by decide +kernel, by decide +kernel⟩, List.mem_of_getElem? (i := 17) (by decide +kernel), List.mem_of_getElem? (i := 836) (by decide +kernel), List.mem_of_getElem? (i := 837) (by decide +kernel)⟩
theorem lw_p19 : lw_okq (⟨"GamesOffice", "storeAmongDays", "(I)I"⟩, 9) := ⟨⟨by decide +kernel, by decide +kernel⟩, List.mem_of_getElem? (i := 17) (by decide +kernel), List.mem_of_getElem? (i := 845) (by decide +kernel), List.mem_of_getElem? (i := 846) (by decide +kernel)⟩
theorem lw_p20 : lw_okq (⟨"GamesOfficeModel", "refused", "(I)I"⟩, 71) := ⟨⟨by decide +kernel, by decide +kernel⟩, List.mem_of_getElem? (i := 853) (by decide +kernel), List.mem_of_getElem? (i := 1081) (by decide +kernel), List.mem_of_getElem? (i := 1082) (by decide +kernel)⟩
theorem lw_p21 : lw_okq (⟨"GamesOfficeModel", "done", "(I)I"⟩, 71) := ⟨⟨by decide +kernel, by decide +kernel⟩, List.mem_of_getElem? (i := 853) (by decide +kernel), List.mem_of_getElem? (i := 1085) (by decide +kernel), List.mem_of_getElem? (i := 1086) (by decide +kernel)⟩
theorem lw_p22 : lw_okq (⟨"GamesOfficeModel", "isPassTold", "(IIII)Z"⟩, 71) := ⟨⟨by decide +kernel, by decide +kernel⟩, List.mem_of_getElem? (i := 853) (by decide +kernel), List.mem_of_getElem? (i := 1101) (by decide +kernel), List.mem_of_getElem? (i := 1102) (by decide +kernel)⟩
theorem lw_p23 : lw_okq (⟨"GamesOfficeModel", "isPerson", "(I)Z"⟩, 71) := ⟨⟨by decide +kernel, by decide +kernel⟩, List.mem_of_getElem? (i := 853) (by decide +kernel), List.mem_of_getElem? (i := 1105) (by decide +kernel), List.mem_of_getElem? (i := 1106) (by decide +kernel)⟩
theorem lw_p24 : lw_okq (⟨"GamesOfficeModel", "comes", "(IIII)I"⟩, 71) := ⟨⟨by decide +kernel, by decide +kernel⟩, List.mem_of_getElem? (i := 853) (by decide +kernel), List.mem_of_getElem? (i := 1112) (by decide +kernel), List.mem_of_getElem? (i := 1113) (by decide +kernel)⟩
theorem lw_p25 : lw_okq (⟨"GamesOfficeModel", "isPass", "(I)Z"⟩, 71) := ⟨⟨by decide +kernel, by decide +kernel⟩, List.mem_of_getElem? (i := 853) (by decide +kernel), List.mem_of_getElem? (i := 1120) (by decide +kernel), List.mem_of_getElem? (i := 1121) (by decide +kernel)⟩
theorem lw_p26 : lw_okq (⟨"GamesOfficeModel", "isZone", "(I)Z"⟩, 71) := ⟨⟨by decide +kernel, by decide +kernel⟩, List.mem_of_getElem? (i := 853) (by decide +kernel), List.mem_of_getElem? (i := 1131) (by decide +kernel), List.mem_of_getElem? (i := 1132) (by decide +kernel)⟩
theorem lw_p27 : lw_okq (⟨"GamesOfficeModel", "isDoor", "(I)Z"⟩, 71) := ⟨⟨by decide +kernel, by decide +kernel⟩, List.mem_of_getElem? (i := 853) (by decide +kernel), List.mem_of_getElem? (i := 1147) (by decide +kernel), List.mem_of_getElem? (i := 1148) (by decide +kernel)⟩
theorem lw_p28 : lw_okq (⟨"GamesOfficeModel", "opensAt", "(IIII)I"⟩, 71) := ⟨⟨by decide +kernel, by decide +kernel⟩, List.mem_of_getElem? (i := 853) (by decide +kernel), List.mem_of_getElem? (i := 1151) (by decide +kernel), List.mem_of_getElem? (i := 1152) (by decide +kernel)⟩
theorem lw_p29 : lw_okq (⟨"GamesOfficeModel", "decides", "(IIII)I"⟩, 71) := ⟨⟨by decide +kernel, by decide +kernel⟩, List.mem_of_getElem? (i := 853) (by decide +kernel), List.mem_of_getElem? (i := 1158) (by decide +kernel), List.mem_of_getElem? (i := 1159) (by decide +kernel)⟩
theorem lw_p30 : lw_okq (⟨"GamesOfficeModel", "inside", "(I)I"⟩, 71) := ⟨⟨by decide +kernel, by decide +kernel⟩, List.mem_of_getElem? (i := 853) (by decide +kernel), List.mem_of_getElem? (i := 1162) (by decide +kernel), List.mem_of_getElem? (i := 1163) (by decide +kernel)⟩
theorem lw_p31 : lw_okq (⟨"GamesOfficeModel", "whyNot", "(III)I"⟩, 71) := ⟨⟨by decide +kernel, by decide +kernel⟩, List.mem_of_getElem? (i := 853) (by decide +kernel), List.mem_of_getElem? (i := 1174) (by decide +kernel), List.mem_of_getElem? (i := 1175) (by decide +kernel)⟩
def lw_privs_2 : List (MethodName × Nat) := [(⟨"GamesOffice", "takeForKind", "(II)I"⟩, 9), (⟨"GamesOffice", "readShort", "(II)I"⟩, 9), (⟨"GamesOffice", "copyBytes", "(II)I"⟩, 9), (⟨"GamesOffice", "storeAmongDays", "(I)I"⟩, 9), (⟨"GamesOfficeModel", "refused", "(I)I"⟩, 71), (⟨"GamesOfficeModel", "done", "(I)I"⟩, 71), (⟨"GamesOfficeModel", "isPassTold", "(IIII)Z"⟩, 71), (⟨"GamesOfficeModel", "isPerson", "(I)Z"⟩, 71), (⟨"GamesOfficeModel", "comes", "(IIII)I"⟩, 71), (⟨"GamesOfficeModel", "isPass", "(I)Z"⟩, 71), (⟨"GamesOfficeModel", "isZone", "(I)Z"⟩, 71), (⟨"GamesOfficeModel", "isDoor", "(I)Z"⟩, 71), (⟨"GamesOfficeModel", "opensAt", "(IIII)I"⟩, 71), (⟨"GamesOfficeModel", "decides", "(IIII)I"⟩, 71), (⟨"GamesOfficeModel", "inside", "(I)I"⟩, 71), (⟨"GamesOfficeModel", "whyNot", "(III)I"⟩, 71)]
theorem lw_r2 : ∀ q ∈ lw_privs_2, lw_okq q := List.forall_mem_cons.mpr ⟨lw_p16, List.forall_mem_cons.mpr ⟨lw_p17, List.forall_mem_cons.mpr ⟨lw_p18, List.forall_mem_cons.mpr ⟨lw_p19, List.forall_mem_cons.mpr ⟨lw_p20, List.forall_mem_cons.mpr ⟨lw_p21, List.forall_mem_cons.mpr ⟨lw_p22, List.forall_mem_cons.mpr ⟨lw_p23, List.forall_mem_cons.mpr ⟨lw_p24, List.forall_mem_cons.mpr ⟨lw_p25, List.forall_mem_cons.mpr ⟨lw_p26, List.forall_mem_cons.mpr ⟨lw_p27, List.forall_mem_cons.mpr ⟨lw_p28, List.forall_mem_cons.mpr ⟨lw_p29, List.forall_mem_cons.mpr ⟨lw_p30, List.forall_mem_cons.mpr ⟨lw_p31, fun _ h => absurd h List.not_mem_nil⟩⟩⟩⟩⟩⟩⟩⟩⟩⟩⟩⟩⟩⟩⟩⟩
theorem lw_p32 : lw_okq (⟨"GamesOfficeModel", "findPlan", "()V"⟩, 71) := ⟨⟨by decide +kernel, by decide +kernel⟩, List.mem_of_getElem? (i := 853) (by decide +kernel), List.mem_of_getElem? (i := 1198) (by decide +kernel), List.mem_of_getElem? (i := 1199) (by decide +kernel)⟩
theorem lw_p33 : lw_okq (⟨"GamesOfficeModel", "planOf", "()I"⟩, 71) := ⟨⟨by decide +kernel, by decide +kernel⟩, List.mem_of_getElem? (i := 853) (by decide +kernel), List.mem_of_getElem? (i := 1202) (by decide +kernel), List.mem_of_getElem? (i := 1203) (by decide +kernel)⟩
theorem lw_p34 : lw_okq (⟨"GamesOfficeModel", "placed0", "(I)I"⟩, 71) := ⟨⟨by decide +kernel, by decide +kernel⟩, List.mem_of_getElem? (i := 853) (by decide +kernel), List.mem_of_getElem? (i := 1206) (by decide +kernel), List.mem_of_getElem? (i := 1207) (by decide +kernel)⟩
theorem lw_p35 : lw_okq (⟨"GamesOfficeModel", "isFree", "(II)Z"⟩, 71) := ⟨⟨by decide +kernel, by decide +kernel⟩, List.mem_of_getElem? (i := 853) (by decide +kernel), List.mem_of_getElem? (i := 1210) (by decide +kernel), List.mem_of_getElem? (i := 1211) (by decide +kernel)⟩
theorem lw_p36 : lw_okq (⟨"GamesOfficeModel", "turns", "()Z"⟩, 71) := ⟨⟨by decide +kernel, by decide +kernel⟩, List.mem_of_getElem? (i := 853) (by decide +kernel), List.mem_of_getElem? (i := 1214) (by decide +kernel), List.mem_of_getElem? (i := 1215) (by decide +kernel)⟩
theorem lw_p37 : lw_okq (⟨"GamesOfficeModel", "swap", "(II)V"⟩, 71) := ⟨⟨by decide +kernel, by decide +kernel⟩, List.mem_of_getElem? (i := 853) (by decide +kernel), List.mem_of_getElem? (i := 1218) (by decide +kernel), List.mem_of_getElem? (i := 1219) (by decide +kernel)⟩
theorem lw_p38 : lw_okq (⟨"GamesOfficeModel", "orders", "(I)Z"⟩, 71) := ⟨⟨by decide +kernel, by decide +kernel⟩, List.mem_of_getElem? (i := 853) (by decide +kernel), List.mem_of_getElem? (i := 1230) (by decide +kernel), List.mem_of_getElem? (i := 1231) (by decide +kernel)⟩
theorem lw_p39 : lw_okq (⟨"GamesOfficeModel", "trips", "(I)I"⟩, 71) := ⟨⟨by decide +kernel, by decide +kernel⟩, List.mem_of_getElem? (i := 853) (by decide +kernel), List.mem_of_getElem? (i := 1238) (by decide +kernel), List.mem_of_getElem? (i := 1239) (by decide +kernel)⟩
theorem lw_p40 : lw_okq (⟨"GamesOfficeModel", "findRooms", "()V"⟩, 71) := ⟨⟨by decide +kernel, by decide +kernel⟩, List.mem_of_getElem? (i := 853) (by decide +kernel), List.mem_of_getElem? (i := 1254) (by decide +kernel), List.mem_of_getElem? (i := 1255) (by decide +kernel)⟩
theorem lw_p41 : lw_okq (⟨"GamesOfficeModel", "used", "()I"⟩, 71) := ⟨⟨by decide +kernel, by decide +kernel⟩, List.mem_of_getElem? (i := 853) (by decide +kernel), List.mem_of_getElem? (i := 1258) (by decide +kernel), List.mem_of_getElem? (i := 1259) (by decide +kernel)⟩
theorem lw_p42 : lw_okq (⟨"GamesOfficeModel", "canStay", "(I)Z"⟩, 71) := ⟨⟨by decide +kernel, by decide +kernel⟩, List.mem_of_getElem? (i := 853) (by decide +kernel), List.mem_of_getElem? (i := 1262) (by decide +kernel), List.mem_of_getElem? (i := 1263) (by decide +kernel)⟩
theorem lw_p43 : lw_okq (⟨"GamesOfficeModel", "placeOf", "(II)I"⟩, 71) := ⟨⟨by decide +kernel, by decide +kernel⟩, List.mem_of_getElem? (i := 853) (by decide +kernel), List.mem_of_getElem? (i := 1279) (by decide +kernel), List.mem_of_getElem? (i := 1280) (by decide +kernel)⟩
theorem lw_p44 : lw_okq (⟨"GamesOfficeModel", "medalsOf", "(II)I"⟩, 71) := ⟨⟨by decide +kernel, by decide +kernel⟩, List.mem_of_getElem? (i := 853) (by decide +kernel), List.mem_of_getElem? (i := 1287) (by decide +kernel), List.mem_of_getElem? (i := 1288) (by decide +kernel)⟩
theorem lw_p45 : lw_okq (⟨"GamesOfficeModel", "isAhead", "(II)Z"⟩, 71) := ⟨⟨by decide +kernel, by decide +kernel⟩, List.mem_of_getElem? (i := 853) (by decide +kernel), List.mem_of_getElem? (i := 1291) (by decide +kernel), List.mem_of_getElem? (i := 1292) (by decide +kernel)⟩
theorem lw_p46 : lw_okq (⟨"GamesOfficeModel", "openOf", "(II)I"⟩, 71) := ⟨⟨by decide +kernel, by decide +kernel⟩, List.mem_of_getElem? (i := 853) (by decide +kernel), List.mem_of_getElem? (i := 1323) (by decide +kernel), List.mem_of_getElem? (i := 1324) (by decide +kernel)⟩
theorem lw_p47 : lw_okq (⟨"GamesOfficeModel", "ran", "(I)V"⟩, 71) := ⟨⟨by decide +kernel, by decide +kernel⟩, List.mem_of_getElem? (i := 853) (by decide +kernel), List.mem_of_getElem? (i := 1327) (by decide +kernel), List.mem_of_getElem? (i := 1328) (by decide +kernel)⟩
def lw_privs_3 : List (MethodName × Nat) := [(⟨"GamesOfficeModel", "findPlan", "()V"⟩, 71), (⟨"GamesOfficeModel", "planOf", "()I"⟩, 71), (⟨"GamesOfficeModel", "placed0", "(I)I"⟩, 71), (⟨"GamesOfficeModel", "isFree", "(II)Z"⟩, 71), (⟨"GamesOfficeModel", "turns", "()Z"⟩, 71), (⟨"GamesOfficeModel", "swap", "(II)V"⟩, 71), (⟨"GamesOfficeModel", "orders", "(I)Z"⟩, 71), (⟨"GamesOfficeModel", "trips", "(I)I"⟩, 71), (⟨"GamesOfficeModel", "findRooms", "()V"⟩, 71), (⟨"GamesOfficeModel", "used", "()I"⟩, 71), (⟨"GamesOfficeModel", "canStay", "(I)Z"⟩, 71), (⟨"GamesOfficeModel", "placeOf", "(II)I"⟩, 71), (⟨"GamesOfficeModel", "medalsOf", "(II)I"⟩, 71), (⟨"GamesOfficeModel", "isAhead", "(II)Z"⟩, 71), (⟨"GamesOfficeModel", "openOf", "(II)I"⟩, 71), (⟨"GamesOfficeModel", "ran", "(I)V"⟩, 71)]
theorem lw_r3 : ∀ q ∈ lw_privs_3, lw_okq q := List.forall_mem_cons.mpr ⟨lw_p32, List.forall_mem_cons.mpr ⟨lw_p33, List.forall_mem_cons.mpr ⟨lw_p34, List.forall_mem_cons.mpr ⟨lw_p35, List.forall_mem_cons.mpr ⟨lw_p36, List.forall_mem_cons.mpr ⟨lw_p37, List.forall_mem_cons.mpr ⟨lw_p38, List.forall_mem_cons.mpr ⟨lw_p39, List.forall_mem_cons.mpr ⟨lw_p40, List.forall_mem_cons.mpr ⟨lw_p41, List.forall_mem_cons.mpr ⟨lw_p42, List.forall_mem_cons.mpr ⟨lw_p43, List.forall_mem_cons.mpr ⟨lw_p44, List.forall_mem_cons.mpr ⟨lw_p45, List.forall_mem_cons.mpr ⟨lw_p46, List.forall_mem_cons.mpr ⟨lw_p47, fun _ h => absurd h List.not_mem_nil⟩⟩⟩⟩⟩⟩⟩⟩⟩⟩⟩⟩⟩⟩⟩⟩
theorem lw_p48 : lw_okq (⟨"GamesOfficeModel", "open20", "(II)I"⟩, 71) := ⟨⟨by decide +kernel, by decide +kernel⟩, List.mem_of_getElem? (i := 853) (by decide +kernel), List.mem_of_getElem? (i := 1331) (by decide +kernel), List.mem_of_getElem? (i := 1332) (by decide +kernel)⟩
theorem lw_p49 : lw_okq (⟨"GamesOfficeModel", "open10", "(II)I"⟩, 71) := ⟨⟨by decide +kernel, by decide +kernel⟩, List.mem_of_getElem? (i := 853) (by decide +kernel), List.mem_of_getElem? (i := 1335) (by decide +kernel), List.mem_of_getElem? (i := 1336) (by decide +kernel)⟩
theorem lw_p50 : lw_okq (⟨"GamesOfficeModel", "endOf", "(II)I"⟩, 71) := ⟨⟨by decide +kernel, by decide +kernel⟩, List.mem_of_getElem? (i := 853) (by decide +kernel), List.mem_of_getElem? (i := 1339) (by decide +kernel), List.mem_of_getElem? (i := 1340) (by decide +kernel)⟩
theorem lw_p51 : lw_okq (⟨"GamesOfficeModel", "end40", "(II)I"⟩, 71) := ⟨⟨by decide +kernel, by decide +kernel⟩, List.mem_of_getElem? (i := 853) (by decide +kernel), List.mem_of_getElem? (i := 1343) (by decide +kernel), List.mem_of_getElem? (i := 1344) (by decide +kernel)⟩
theorem lw_p52 : lw_okq (⟨"GamesOfficeModel", "end11", "(II)I"⟩, 71) := ⟨⟨by decide +kernel, by decide +kernel⟩, List.mem_of_getElem? (i := 853) (by decide +kernel), List.mem_of_getElem? (i := 1347) (by decide +kernel), List.mem_of_getElem? (i := 1348) (by decide +kernel)⟩
theorem lw_p53 : lw_okq (⟨"GamesOfficeModel", "countOf", "(II)I"⟩, 71) := ⟨⟨by decide +kernel, by decide +kernel⟩, List.mem_of_getElem? (i := 853) (by decide +kernel), List.mem_of_getElem? (i := 1351) (by decide +kernel), List.mem_of_getElem? (i := 1352) (by decide +kernel)⟩
theorem lw_p54 : lw_okq (⟨"GamesOfficeModel", "count12", "(II)I"⟩, 71) := ⟨⟨by decide +kernel, by decide +kernel⟩, List.mem_of_getElem? (i := 853) (by decide +kernel), List.mem_of_getElem? (i := 1355) (by decide +kernel), List.mem_of_getElem? (i := 1356) (by decide +kernel)⟩
theorem lw_p55 : lw_okq (⟨"GamesOfficeModel", "tellOf", "(II)I"⟩, 71) := ⟨⟨by decide +kernel, by decide +kernel⟩, List.mem_of_getElem? (i := 853) (by decide +kernel), List.mem_of_getElem? (i := 1359) (by decide +kernel), List.mem_of_getElem? (i := 1360) (by decide +kernel)⟩
theorem lw_p56 : lw_okq (⟨"GamesOfficeModel", "tell21", "(II)I"⟩, 71) := ⟨⟨by decide +kernel, by decide +kernel⟩, List.mem_of_getElem? (i := 853) (by decide +kernel), List.mem_of_getElem? (i := 1363) (by decide +kernel), List.mem_of_getElem? (i := 1364) (by decide +kernel)⟩
theorem lw_p57 : lw_okq (⟨"GamesOfficeModel", "tell13", "(II)I"⟩, 71) := ⟨⟨by decide +kernel, by decide +kernel⟩, List.mem_of_getElem? (i := 853) (by decide +kernel), List.mem_of_getElem? (i := 1367) (by decide +kernel), List.mem_of_getElem? (i := 1368) (by decide +kernel)⟩
theorem lw_p58 : lw_okq (⟨"GamesOfficeModel", "shorts", "(II)I"⟩, 71) := ⟨⟨by decide +kernel, by decide +kernel⟩, List.mem_of_getElem? (i := 853) (by decide +kernel), List.mem_of_getElem? (i := 1394) (by decide +kernel), List.mem_of_getElem? (i := 1395) (by decide +kernel)⟩
theorem lw_p59 : lw_okq (⟨"GamesOfficeModel", "copied", "(II)I"⟩, 71) := ⟨⟨by decide +kernel, by decide +kernel⟩, List.mem_of_getElem? (i := 853) (by decide +kernel), List.mem_of_getElem? (i := 1398) (by decide +kernel), List.mem_of_getElem? (i := 1399) (by decide +kernel)⟩
def lw_privs_4 : List (MethodName × Nat) := [(⟨"GamesOfficeModel", "open20", "(II)I"⟩, 71), (⟨"GamesOfficeModel", "open10", "(II)I"⟩, 71), (⟨"GamesOfficeModel", "endOf", "(II)I"⟩, 71), (⟨"GamesOfficeModel", "end40", "(II)I"⟩, 71), (⟨"GamesOfficeModel", "end11", "(II)I"⟩, 71), (⟨"GamesOfficeModel", "countOf", "(II)I"⟩, 71), (⟨"GamesOfficeModel", "count12", "(II)I"⟩, 71), (⟨"GamesOfficeModel", "tellOf", "(II)I"⟩, 71), (⟨"GamesOfficeModel", "tell21", "(II)I"⟩, 71), (⟨"GamesOfficeModel", "tell13", "(II)I"⟩, 71), (⟨"GamesOfficeModel", "shorts", "(II)I"⟩, 71), (⟨"GamesOfficeModel", "copied", "(II)I"⟩, 71)]
theorem lw_r4 : ∀ q ∈ lw_privs_4, lw_okq q := List.forall_mem_cons.mpr ⟨lw_p48, List.forall_mem_cons.mpr ⟨lw_p49, List.forall_mem_cons.mpr ⟨lw_p50, List.forall_mem_cons.mpr ⟨lw_p51, List.forall_mem_cons.mpr ⟨lw_p52, List.forall_mem_cons.mpr ⟨lw_p53, List.forall_mem_cons.mpr ⟨lw_p54, List.forall_mem_cons.mpr ⟨lw_p55, List.forall_mem_cons.mpr ⟨lw_p56, List.forall_mem_cons.mpr ⟨lw_p57, List.forall_mem_cons.mpr ⟨lw_p58, List.forall_mem_cons.mpr ⟨lw_p59, fun _ h => absurd h List.not_mem_nil⟩⟩⟩⟩⟩⟩⟩⟩⟩⟩⟩⟩
def lw_privs : List (MethodName × Nat) := lw_privs_1 ++ (lw_privs_2 ++ (lw_privs_3 ++ (lw_privs_4)))
def lw_tbl : List Cond := k2_sels lw_privs ++ tables_1
theorem lw_privs_ok : ∀ q ∈ lw_privs, lw_okq q := by
  show ∀ q ∈ lw_privs_1 ++ (lw_privs_2 ++ (lw_privs_3 ++ (lw_privs_4))), lw_okq q
  exact List.forall_mem_append.mpr ⟨lw_r1, List.forall_mem_append.mpr ⟨lw_r2, List.forall_mem_append.mpr ⟨lw_r3, lw_r4⟩⟩⟩
def zclsL : List String := ["GamesOffice", "GamesOffice$Acts", "GamesOffice$Books", "GamesOffice$Lodging", "GamesOffice$Planner", "GamesOffice$Sheet", "GamesOffice$Table", "GamesOfficeModel", "GamesOffice$Buses", "GamesOffice$Gate", "GamesOffice$Kinds", "GamesOffice$Podium", "GamesOfficeLaw", "java/lang/Integer", "java/lang/Math"]
def zcls (i : Nat) : String := zclsL.getD i ""
def zFT : List (List (String × String × String × Bool)) := [
  [("GamesOffice", "books", "LGamesOffice$Books;", true), ("GamesOffice", "kept", "LGamesOffice$Books;", true), ("GamesOffice", "planner", "LGamesOffice$Planner;", true), ("GamesOffice", "lodging", "LGamesOffice$Lodging;", true), ("GamesOffice", "acts", "LGamesOffice$Acts;", true), ("GamesOffice", "sheets", "[LGamesOffice$Sheet;", true), ("GamesOffice", "isKept", "Z", false), ("GamesOffice", "backs", "I", false), ("GamesOffice", "latest", "I", false)],
  [("GamesOffice$Acts", "traced", "[I", true), ("GamesOffice$Acts", "many", "I", false), ("GamesOffice$Acts", "pass", "I", false), ("GamesOffice$Acts", "kind", "I", false), ("GamesOffice$Acts", "day", "I", false), ("GamesOffice$Acts", "number", "I", false)],
  [("GamesOffice$Books", "persons", "LGamesOffice$Table;", true), ("GamesOffice$Books", "zones", "LGamesOffice$Table;", true), ("GamesOffice$Books", "doors", "LGamesOffice$Table;", true), ("GamesOffice$Books", "passes", "LGamesOffice$Table;", true), ("GamesOffice$Books", "rules", "LGamesOffice$Table;", true), ("GamesOffice$Books", "units", "LGamesOffice$Table;", true), ("GamesOffice$Books", "rooms", "LGamesOffice$Table;", true), ("GamesOffice$Books", "groups", "LGamesOffice$Table;", true), ("GamesOffice$Books", "results", "LGamesOffice$Table;", true), ("GamesOffice$Books", "moment", "I", false), ("GamesOffice$Books", "seats", "I", false)],
  [("GamesOffice$Lodging", "beds", "[I", true), ("GamesOffice$Lodging", "sizes", "[I", true), ("GamesOffice$Lodging", "nations", "[I", true), ("GamesOffice$Lodging", "firsts", "[I", true), ("GamesOffice$Lodging", "lasts", "[I", true), ("GamesOffice$Lodging", "used", "[I", true), ("GamesOffice$Lodging", "usedBy", "[I", true), ("GamesOffice$Lodging", "left", "[I", true), ("GamesOffice$Lodging", "rooms", "[I", true), ("GamesOffice$Lodging", "bestRooms", "[I", true), ("GamesOffice$Lodging", "many", "I", false), ("GamesOffice$Lodging", "manyRooms", "I", false), ("GamesOffice$Lodging", "best", "I", false), ("GamesOffice$Lodging", "isFresh", "Z", false)],
  [("GamesOffice$Planner", "lengths", "[I", true), ("GamesOffice$Planner", "lastBegins", "[I", true), ("GamesOffice$Planner", "behind", "[I", true), ("GamesOffice$Planner", "rests", "[I", true), ("GamesOffice$Planner", "gaps", "[I", true), ("GamesOffice$Planner", "order", "[I", true), ("GamesOffice$Planner", "begins", "[I", true), ("GamesOffice$Planner", "bestOrder", "[I", true), ("GamesOffice$Planner", "bestBegins", "[I", true), ("GamesOffice$Planner", "many", "I", false), ("GamesOffice$Planner", "bestEnd", "I", false), ("GamesOffice$Planner", "isFresh", "Z", false)],
  [("GamesOffice$Sheet", "cells", "[I", true), ("GamesOffice$Sheet", "sort", "I", false), ("GamesOffice$Sheet", "many", "I", false)],
  [("GamesOffice$Table", "width", "I", true), ("GamesOffice$Table", "most", "I", true), ("GamesOffice$Table", "cells", "[I", true), ("GamesOffice$Table", "rows", "I", false)],
  [("GamesOfficeModel", "status", "I", false), ("GamesOfficeModel", "moment", "I", false), ("GamesOfficeModel", "persons", "I", false), ("GamesOfficeModel", "nation", "[I", true), ("GamesOfficeModel", "at", "[I", true), ("GamesOfficeModel", "went", "[I", true), ("GamesOfficeModel", "zones", "I", false), ("GamesOfficeModel", "holds", "[I", true), ("GamesOfficeModel", "cameIn", "[I", true), ("GamesOfficeModel", "wentOut", "[I", true), ("GamesOfficeModel", "doors", "I", false), ("GamesOfficeModel", "doorFrom", "[I", true), ("GamesOfficeModel", "doorTo", "[I", true), ("GamesOfficeModel", "passes", "I", false), ("GamesOfficeModel", "passOf", "[I", true), ("GamesOfficeModel", "kind", "[I", true), ("GamesOfficeModel", "first", "[I", true), ("GamesOfficeModel", "last", "[I", true), ("GamesOfficeModel", "number", "[I", true), ("GamesOfficeModel", "lostFrom", "[I", true), ("GamesOfficeModel", "lostTold", "[I", true), ("GamesOfficeModel", "rules", "I", false), ("GamesOfficeModel", "lets", "[Z", true), ("GamesOfficeModel", "ruleKind", "[I", true), ("GamesOfficeModel", "ruleZone", "[I", true), ("GamesOfficeModel", "ruleDays", "[I", true), ("GamesOfficeModel", "ruleMinutes", "[I", true), ("GamesOfficeModel", "since", "[I", true), ("GamesOfficeModel", "ended", "[I", true), ("GamesOfficeModel", "units", "I", false), ("GamesOfficeModel", "hall", "[I", true), ("GamesOfficeModel", "length", "[I", true), ("GamesOfficeModel", "who", "[I", true), ("GamesOfficeModel", "behind", "[I", true), ("GamesOfficeModel", "needsLight", "[Z", true), ("GamesOfficeModel", "seats", "I", false), ("GamesOfficeModel", "rooms", "I", false), ("GamesOfficeModel", "beds", "[I", true), ("GamesOfficeModel", "groups", "I", false), ("GamesOfficeModel", "groupNation", "[I", true), ("GamesOfficeModel", "groupMany", "[I", true), ("GamesOfficeModel", "groupFirst", "[I", true), ("GamesOfficeModel", "groupLast", "[I", true), ("GamesOfficeModel", "results", "I", false), ("GamesOfficeModel", "rowSize", "[I", true), ("GamesOfficeModel", "rowOf", "[I", true), ("GamesOfficeModel", "stripped", "[I", true), ("GamesOfficeModel", "isPlanned", "Z", false), ("GamesOfficeModel", "isRoomed", "Z", false), ("GamesOfficeModel", "order", "[I", true), ("GamesOfficeModel", "begin", "[I", true), ("GamesOfficeModel", "bestOrder", "[I", true), ("GamesOfficeModel", "bestBegin", "[I", true), ("GamesOfficeModel", "hasPlan", "Z", false), ("GamesOfficeModel", "bestEnd", "I", false), ("GamesOfficeModel", "roomOf", "[I", true), ("GamesOfficeModel", "bestRoom", "[I", true), ("GamesOfficeModel", "bestUsed", "I", false), ("GamesOfficeModel", "hasImage", "Z", false), ("GamesOfficeModel", "backs", "I", false), ("GamesOfficeModel", "keptCounts", "[I", true), ("GamesOfficeModel", "keptPersons", "[I", true), ("GamesOfficeModel", "keptZones", "[I", true), ("GamesOfficeModel", "keptLost", "[I", true), ("GamesOfficeModel", "keptEnded", "[I", true), ("GamesOfficeModel", "keptStripped", "[I", true), ("GamesOfficeModel", "trace", "[I", true), ("GamesOfficeModel", "traces", "I", false), ("GamesOfficeModel", "sheetSort", "[I", true), ("GamesOfficeModel", "sheetSize", "[I", true), ("GamesOfficeModel", "cells", "[I", true)]]
def zTY : List (List FieldType) := [
  [.object "GamesOffice$Books", .object "GamesOffice$Books", .object "GamesOffice$Planner", .object "GamesOffice$Lodging", .object "GamesOffice$Acts", .array (.object "GamesOffice$Sheet"), .boolean, .int, .int],
  [.array .int, .int, .int, .int, .int, .int],
  [.object "GamesOffice$Table", .object "GamesOffice$Table", .object "GamesOffice$Table", .object "GamesOffice$Table", .object "GamesOffice$Table", .object "GamesOffice$Table", .object "GamesOffice$Table", .object "GamesOffice$Table", .object "GamesOffice$Table", .int, .int],
  [.array .int, .array .int, .array .int, .array .int, .array .int, .array .int, .array .int, .array .int, .array .int, .array .int, .int, .int, .int, .boolean],
  [.array .int, .array .int, .array .int, .array .int, .array .int, .array .int, .array .int, .array .int, .array .int, .int, .int, .boolean],
  [.array .int, .int, .int],
  [.int, .int, .array .int, .int],
  [.int, .int, .int, .array .int, .array .int, .array .int, .int, .array .int, .array .int, .array .int, .int, .array .int, .array .int, .int, .array .int, .array .int, .array .int, .array .int, .array .int, .array .int, .array .int, .int, .array .boolean, .array .int, .array .int, .array .int, .array .int, .array .int, .array .int, .int, .array .int, .array .int, .array .int, .array .int, .array .boolean, .int, .int, .array .int, .int, .array .int, .array .int, .array .int, .array .int, .int, .array .int, .array .int, .array .int, .boolean, .boolean, .array .int, .array .int, .array .int, .array .int, .boolean, .int, .array .int, .array .int, .int, .boolean, .int, .array .int, .array .int, .array .int, .array .int, .array .int, .array .int, .array .int, .int, .array .int, .array .int, .array .int]]
def zFG : List (List Nat) := [
  [2, 2, 2, 2, 2, 2, 1, 0, 0],
  [2, 0, 0, 0, 0, 0],
  [2, 2, 2, 2, 2, 2, 2, 2, 2, 0, 0],
  [2, 2, 2, 2, 2, 2, 2, 2, 2, 2, 0, 0, 0, 1],
  [2, 2, 2, 2, 2, 2, 2, 2, 2, 0, 0, 1],
  [2, 0, 0],
  [0, 0, 2, 0],
  [0, 0, 0, 2, 2, 2, 0, 2, 2, 2, 0, 2, 2, 0, 2, 2, 2, 2, 2, 2, 2, 0, 2, 2, 2, 2, 2, 2, 2, 0, 2, 2, 2, 2, 2, 0, 0, 2, 0, 2, 2, 2, 2, 0, 2, 2, 2, 1, 1, 2, 2, 2, 2, 1, 0, 2, 2, 0, 1, 0, 2, 2, 2, 2, 2, 2, 2, 0, 2, 2, 2]]
def zN (c : Nat) : Nat := ([9, 6, 11, 14, 12, 3, 4, 71] : List Nat).getD c 0
def zT (c : Nat) : u_T := fun k => (zFT.getD c []).getD k ("", "", "", false)
def zty (c k : Nat) : FieldType := (zTY.getD c []).getD k .int
def zflag (c k : Nat) : Nat := (zFG.getD c []).getD k 0
def zLP : List (List Nat) := [
  [313, 315, 317, 319, 321, 323, 325, 327, 329],
  [274, 276, 278, 280, 282, 284],
  [147, 149, 151, 153, 155, 157, 159, 161, 163, 165, 167],
  [233, 235, 237, 239, 241, 243, 245, 247, 249, 251, 253, 255, 257, 259],
  [188, 190, 192, 194, 196, 198, 200, 202, 204, 206, 208, 210],
  [297, 299, 301],
  [103, 105, 107, 109],
  [989, 991, 993, 995, 997, 999, 1001, 1003, 1005, 1007, 1009, 1011, 1013, 1015, 1017, 1019, 1021, 1023, 1025, 1027, 1029, 1031, 1033, 1035, 1037, 1039, 1041, 1043, 1045, 1047, 1049, 1051, 1053, 1055, 1057, 1059, 1061, 1063, 1065, 1067, 1069, 1071, 1073, 1075, 1077, 1079, 1081, 1083, 1085, 1087, 1089, 1091, 1093, 1095, 1097, 1099, 1101, 1103, 1105, 1107, 1109, 1111, 1113, 1115, 1117, 1119, 1121, 1123, 1125, 1127, 1129]]
abbrev zclasses : List vw_C := [(zcls 0, zT 0, 9), (zcls 1, zT 1, 6), (zcls 2, zT 2, 11), (zcls 3, zT 3, 14), (zcls 4, zT 4, 12), (zcls 5, zT 5, 3), (zcls 6, zT 6, 4), (zcls 7, zT 7, 71)]
def zMN : List (String × String × Nat × Nat) := [
  ("<init>", "()V", 0, 0),
  ("bodiesRun", "()I", 1, 0),
  ("bodyAt", "(I)I", 1, 1),
  ("run", "(LGamesOffice$Table;III)I", 1, 4),
  ("bodyOf", "(II)I", 1, 2),
  ("note", "(I)V", 0, 1),
  ("call", "(LGamesOffice$Acts;IIII)I", 1, 5),
  ("own", "(LGamesOffice$Acts;III)I", 1, 4),
  ("answer", "(LGamesOffice$Acts;IIII)I", 1, 5),
  ("<init>", "()V", 0, 0),
  ("copyFrom", "(LGamesOffice$Books;)V", 0, 1),
  ("addPerson", "(I)I", 1, 1),
  ("addZone", "(I)I", 1, 1),
  ("addDoor", "(II)I", 1, 2),
  ("addPass", "(IIII)I", 1, 4),
  ("addRule", "(ZIIII)I", 1, 5),
  ("addUnit", "(IIIIZ)I", 1, 5),
  ("addRoom", "(I)I", 1, 1),
  ("addGroup", "(III)I", 1, 3),
  ("personsOutside", "()I", 1, 0),
  ("fewest", "(LGamesOffice$Books;LGamesOffice$Planner;)I", 1, 2),
  ("busyAt", "(LGamesOffice$Books;LGamesOffice$Planner;I)I", 1, 3),
  ("leaves", "(LGamesOffice$Table;LGamesOffice$Planner;I)I", 1, 3),
  ("way", "(LGamesOffice$Table;I)I", 1, 2),
  ("trips", "(LGamesOffice$Books;I)I", 1, 2),
  ("whyShut", "(LGamesOffice$Books;IIII)I", 1, 5),
  ("isLost", "(LGamesOffice$Table;III)Z", 2, 4),
  ("isOnItsDays", "(LGamesOffice$Table;II)Z", 2, 3),
  ("lacksHost", "(LGamesOffice$Books;II)Z", 2, 3),
  ("isCrowded", "(LGamesOffice$Books;II)Z", 2, 3),
  ("ruleFor", "(LGamesOffice$Books;IIII)I", 1, 5),
  ("isInForce", "(LGamesOffice$Table;II)Z", 2, 3),
  ("fits", "(LGamesOffice$Table;II)Z", 2, 3),
  ("whyNot", "(LGamesOffice$Books;III)I", 1, 4),
  ("isFilled", "(LGamesOffice$Table;I)Z", 2, 2),
  ("move", "(LGamesOffice$Books;II)V", 0, 3),
  ("change", "(LGamesOffice$Table;III)V", 0, 4),
  ("has", "(I)Z", 2, 1),
  ("above", "(I)I", 1, 1),
  ("isOf", "(II)Z", 2, 2),
  ("<init>", "()V", 0, 0),
  ("forget", "()V", 0, 0),
  ("renew", "(LGamesOffice$Books;)V", 0, 1),
  ("load", "(LGamesOffice$Books;)V", 0, 1),
  ("worth", "(I)I", 1, 1),
  ("search", "(LGamesOffice$Lodging;II)V", 0, 3),
  ("keep", "(I)V", 0, 1),
  ("fits", "(II)Z", 2, 2),
  ("put", "(III)V", 0, 3),
  ("bedsByDays", "()I", 1, 0),
  ("roomOf", "(I)I", 1, 1),
  ("<init>", "()V", 0, 0),
  ("forget", "()V", 0, 0),
  ("renew", "(LGamesOffice$Table;)V", 0, 1),
  ("load", "(LGamesOffice$Table;)V", 0, 1),
  ("gap", "(LGamesOffice$Table;II)I", 1, 3),
  ("search", "(LGamesOffice$Planner;III)V", 0, 4),
  ("keep", "(I)V", 0, 1),
  ("firstBegin", "(III)I", 1, 3),
  ("pushed", "(III)I", 1, 3),
  ("lastEnd", "()I", 1, 0),
  ("beginOf", "(I)I", 1, 1),
  ("unitAt", "(I)I", 1, 1),
  ("beginIn", "(II)I", 1, 2),
  ("tellsResult", "(II)Z", 2, 2),
  ("add", "(LGamesOffice$Table;I)I", 1, 2),
  ("isIn", "(LGamesOffice$Table;II)Z", 2, 3),
  ("isStripped", "(LGamesOffice$Table;II)Z", 2, 3),
  ("take", "(LGamesOffice$Table;II)V", 0, 3),
  ("placeOf", "(LGamesOffice$Table;II)I", 1, 3),
  ("personAt", "(LGamesOffice$Table;II)I", 1, 3),
  ("medalsOf", "(LGamesOffice$Books;II)I", 1, 3),
  ("tablePlace", "(LGamesOffice$Books;I)I", 1, 2),
  ("isAhead", "(LGamesOffice$Books;II)Z", 2, 3),
  ("<init>", "()V", 0, 0),
  ("isSort", "(I)Z", 2, 1),
  ("remake", "(II)V", 0, 2),
  ("isMissing", "()Z", 2, 0),
  ("whyNotOf", "(I)I", 1, 1),
  ("has", "(I)Z", 2, 1),
  ("hasRun", "(II)Z", 2, 2),
  ("get", "(I)I", 1, 1),
  ("set", "(II)V", 0, 2),
  ("sum", "(II)I", 1, 2),
  ("<init>", "(II)V", 0, 2),
  ("rows", "()I", 1, 0),
  ("isFull", "()Z", 2, 0),
  ("has", "(I)Z", 2, 1),
  ("get", "(II)I", 1, 2),
  ("set", "(III)V", 0, 3),
  ("add", "()I", 1, 0),
  ("copyFrom", "(LGamesOffice$Table;)V", 0, 1),
  ("<init>", "()V", 0, 0),
  ("person", "(I)I", 1, 1),
  ("zone", "(I)I", 1, 1),
  ("door", "(II)I", 1, 2),
  ("pass", "(IIII)I", 1, 4),
  ("lose", "(II)I", 1, 2),
  ("rule", "(ZIIII)I", 1, 5),
  ("end", "(I)I", 1, 1),
  ("clock", "(I)I", 1, 1),
  ("go", "(III)I", 1, 3),
  ("unit", "(IIIIZ)I", 1, 5),
  ("seats", "(I)I", 1, 1),
  ("room", "(I)I", 1, 1),
  ("group", "(III)I", 1, 3),
  ("result", "(I)I", 1, 1),
  ("strip", "(II)I", 1, 2),
  ("image", "()I", 1, 0),
  ("back", "()I", 1, 0),
  ("personTold", "(II)I", 1, 2),
  ("zoneTold", "(II)I", 1, 2),
  ("passTold", "(II)I", 1, 2),
  ("opens", "(IIII)I", 1, 4),
  ("why", "(IIII)I", 1, 4),
  ("may", "(III)I", 1, 3),
  ("begins", "(I)I", 1, 1),
  ("order", "(I)I", 1, 1),
  ("planned", "(II)I", 1, 2),
  ("fleet", "()I", 1, 0),
  ("rooming", "(I)I", 1, 1),
  ("placed", "(II)I", 1, 2),
  ("medals", "(II)I", 1, 2),
  ("count", "(I)I", 1, 1),
  ("act", "(III)I", 1, 3),
  ("trace", "(I)I", 1, 1),
  ("sheet", "(III)I", 1, 3),
  ("cell", "(III)I", 1, 3),
  ("row", "(III)I", 1, 3),
  ("forge", "(III)I", 1, 3),
  ("status", "()I", 1, 0),
  ("done", "(I)I", 1, 1),
  ("refused", "(I)I", 1, 1),
  ("isWithin", "(III)Z", 2, 3),
  ("isNation", "(I)Z", 2, 1),
  ("isMoment", "(I)Z", 2, 1),
  ("areDays", "(I)Z", 2, 1),
  ("areMinutes", "(I)Z", 2, 1),
  ("isSheet", "(I)Z", 2, 1),
  ("isPlace", "(I)Z", 2, 1),
  ("arePersons", "(I)Z", 2, 1),
  ("isBehind", "(I)Z", 2, 1),
  ("tellsPass", "(IIII)Z", 2, 4),
  ("forgedPass", "(I)I", 1, 1),
  ("takeForKind", "(II)I", 1, 2),
  ("readShort", "(II)I", 1, 2),
  ("copyBytes", "(II)I", 1, 2),
  ("storeAmongDays", "(I)I", 1, 1),
  ("<init>", "()V", 0, 0),
  ("in", "(III)Z", 2, 3),
  ("refused", "(I)I", 1, 1),
  ("done", "(I)I", 1, 1),
  ("isPerson", "(I)Z", 2, 1),
  ("isZone", "(I)Z", 2, 1),
  ("isDoor", "(I)Z", 2, 1),
  ("isPass", "(I)Z", 2, 1),
  ("isMoment", "(I)Z", 2, 1),
  ("person", "(I)I", 1, 1),
  ("zone", "(I)I", 1, 1),
  ("door", "(II)I", 1, 2),
  ("areDays", "(I)Z", 2, 1),
  ("isPassTold", "(IIII)Z", 2, 4),
  ("comes", "(IIII)I", 1, 4),
  ("pass", "(IIII)I", 1, 4),
  ("lose", "(II)I", 1, 2),
  ("rule", "(ZIIII)I", 1, 5),
  ("end", "(I)I", 1, 1),
  ("clock", "(I)I", 1, 1),
  ("isUnder", "(II)Z", 2, 2),
  ("inside", "(I)I", 1, 1),
  ("decides", "(IIII)I", 1, 4),
  ("opensAt", "(IIII)I", 1, 4),
  ("opens", "(IIII)I", 1, 4),
  ("why", "(IIII)I", 1, 4),
  ("whyNot", "(III)I", 1, 3),
  ("may", "(III)I", 1, 3),
  ("placeTold", "(I)I", 1, 1),
  ("go", "(III)I", 1, 3),
  ("unit", "(IIIIZ)I", 1, 5),
  ("seats", "(I)I", 1, 1),
  ("placed0", "(I)I", 1, 1),
  ("isFree", "(II)Z", 2, 2),
  ("planOf", "()I", 1, 0),
  ("orders", "(I)Z", 2, 1),
  ("turns", "()Z", 2, 0),
  ("swap", "(II)V", 0, 2),
  ("findPlan", "()V", 0, 0),
  ("begins", "(I)I", 1, 1),
  ("order", "(I)I", 1, 1),
  ("planned", "(II)I", 1, 2),
  ("trips", "(I)I", 1, 1),
  ("fleet", "()I", 1, 0),
  ("room", "(I)I", 1, 1),
  ("group", "(III)I", 1, 3),
  ("canStay", "(I)Z", 2, 1),
  ("used", "()I", 1, 0),
  ("findRooms", "()V", 0, 0),
  ("rooming", "(I)I", 1, 1),
  ("result", "(I)I", 1, 1),
  ("placeOf", "(II)I", 1, 2),
  ("strip", "(II)I", 1, 2),
  ("placed", "(II)I", 1, 2),
  ("medalsOf", "(II)I", 1, 2),
  ("isAhead", "(II)Z", 2, 2),
  ("medals", "(II)I", 1, 2),
  ("image", "()I", 1, 0),
  ("back", "()I", 1, 0),
  ("personTold", "(II)I", 1, 2),
  ("zoneTold", "(II)I", 1, 2),
  ("passTold", "(II)I", 1, 2),
  ("count", "(I)I", 1, 1),
  ("ran", "(I)V", 0, 1),
  ("open10", "(II)I", 1, 2),
  ("open20", "(II)I", 1, 2),
  ("openOf", "(II)I", 1, 2),
  ("count12", "(II)I", 1, 2),
  ("countOf", "(II)I", 1, 2),
  ("end11", "(II)I", 1, 2),
  ("end40", "(II)I", 1, 2),
  ("endOf", "(II)I", 1, 2),
  ("tell13", "(II)I", 1, 2),
  ("tell21", "(II)I", 1, 2),
  ("tellOf", "(II)I", 1, 2),
  ("act", "(III)I", 1, 3),
  ("trace", "(I)I", 1, 1),
  ("sheet", "(III)I", 1, 3),
  ("cell", "(III)I", 1, 3),
  ("row", "(III)I", 1, 3),
  ("modulo", "(II)I", 1, 2),
  ("copied", "(II)I", 1, 2),
  ("shorts", "(II)I", 1, 2),
  ("forge", "(III)I", 1, 3),
  ("status", "()I", 1, 0),
  ("bitCount", "(I)I", 1, 1),
  ("floorMod", "(II)I", 1, 2),
  ("max", "(II)I", 1, 2),
  ("min", "(II)I", 1, 2),
  ("law", "([I)Z", 2, 1)]
def zmn (m : Nat) : String × String × Nat × Nat := zMN.getD m ("", "", 0, 0)
def zy (m : Nat) : MethodName := ⟨zcls (zkind m), (zmn m).1, (zmn m).2.1⟩
def zret (m : Nat) : Option FieldType := if (zmn m).2.2.1 = 0 then none else if (zmn m).2.2.1 = 1 then some .int else some .boolean
def zbytes (m : Nat) : ByteArray := cond (Nat.ble 119 m) (cond (Nat.ble 178 m) (cond (Nat.ble 208 m) (cond (Nat.ble 223 m) (cond (Nat.ble 230 m) (cond (Nat.ble 234 m) (cond (Nat.ble 236 m) (cond (Nat.ble 237 m) (code) (prog_15_method_69_code)) (cond (Nat.ble 235 m) (prog_15_method_65_code) (prog_15_method_50_code))) (cond (Nat.ble 232 m) (cond (Nat.ble 233 m) (prog_14_method_49_code) (prog_13_method_86_code)) (cond (Nat.ble 231 m) (prog_13_method_85_code) (prog_13_method_84_code)))) (cond (Nat.ble 226 m) (cond (Nat.ble 228 m) (cond (Nat.ble 229 m) (prog_13_method_83_code) (prog_13_method_82_code)) (cond (Nat.ble 227 m) (prog_13_method_81_code) (prog_13_method_80_code))) (cond (Nat.ble 224 m) (cond (Nat.ble 225 m) (prog_13_method_79_code) (prog_13_method_78_code)) (prog_13_method_77_code)))) (cond (Nat.ble 215 m) (cond (Nat.ble 219 m) (cond (Nat.ble 221 m) (cond (Nat.ble 222 m) (prog_13_method_76_code) (prog_13_method_75_code)) (cond (Nat.ble 220 m) (prog_13_method_74_code) (prog_13_method_73_code))) (cond (Nat.ble 217 m) (cond (Nat.ble 218 m) (prog_13_method_72_code) (prog_13_method_71_code)) (cond (Nat.ble 216 m) (prog_13_method_70_code) (prog_13_method_69_code)))) (cond (Nat.ble 211 m) (cond (Nat.ble 213 m) (cond (Nat.ble 214 m) (prog_13_method_68_code) (prog_13_method_67_code)) (cond (Nat.ble 212 m) (prog_13_method_66_code) (prog_13_method_65_code))) (cond (Nat.ble 209 m) (cond (Nat.ble 210 m) (prog_13_method_64_code) (prog_13_method_63_code)) (prog_13_method_62_code))))) (cond (Nat.ble 193 m) (cond (Nat.ble 200 m) (cond (Nat.ble 204 m) (cond (Nat.ble 206 m) (cond (Nat.ble 207 m) (prog_13_method_61_code) (prog_13_method_60_code)) (cond (Nat.ble 205 m) (prog_13_method_59_code) (prog_13_method_58_code))) (cond (Nat.ble 202 m) (cond (Nat.ble 203 m) (prog_13_method_57_code) (prog_13_method_56_code)) (cond (Nat.ble 201 m) (prog_13_method_55_code) (prog_13_method_54_code)))) (cond (Nat.ble 196 m) (cond (Nat.ble 198 m) (cond (Nat.ble 199 m) (prog_13_method_53_code) (prog_13_method_52_code)) (cond (Nat.ble 197 m) (prog_13_method_51_code) (prog_13_method_50_code))) (cond (Nat.ble 194 m) (cond (Nat.ble 195 m) (prog_13_method_49_code) (prog_13_method_48_code)) (prog_13_method_47_code)))) (cond (Nat.ble 185 m) (cond (Nat.ble 189 m) (cond (Nat.ble 191 m) (cond (Nat.ble 192 m) (prog_13_method_46_code) (prog_13_method_45_code)) (cond (Nat.ble 190 m) (prog_13_method_44_code) (prog_13_method_43_code))) (cond (Nat.ble 187 m) (cond (Nat.ble 188 m) (prog_13_method_42_code) (prog_13_method_41_code)) (cond (Nat.ble 186 m) (prog_13_method_40_code) (prog_13_method_39_code)))) (cond (Nat.ble 181 m) (cond (Nat.ble 183 m) (cond (Nat.ble 184 m) (prog_13_method_38_code) (prog_13_method_37_code)) (cond (Nat.ble 182 m) (prog_13_method_36_code) (prog_13_method_35_code))) (cond (Nat.ble 179 m) (cond (Nat.ble 180 m) (prog_13_method_34_code) (prog_13_method_33_code)) (prog_13_method_32_code)))))) (cond (Nat.ble 148 m) (cond (Nat.ble 163 m) (cond (Nat.ble 170 m) (cond (Nat.ble 174 m) (cond (Nat.ble 176 m) (cond (Nat.ble 177 m) (prog_13_method_31_code) (prog_13_method_30_code)) (cond (Nat.ble 175 m) (prog_13_method_29_code) (prog_13_method_28_code))) (cond (Nat.ble 172 m) (cond (Nat.ble 173 m) (prog_13_method_27_code) (prog_13_method_26_code)) (cond (Nat.ble 171 m) (prog_13_method_25_code) (prog_13_method_24_code)))) (cond (Nat.ble 166 m) (cond (Nat.ble 168 m) (cond (Nat.ble 169 m) (prog_13_method_23_code) (prog_13_method_22_code)) (cond (Nat.ble 167 m) (prog_13_method_21_code) (prog_13_method_20_code))) (cond (Nat.ble 164 m) (cond (Nat.ble 165 m) (prog_13_method_19_code) (prog_13_method_18_code)) (prog_13_method_17_code)))) (cond (Nat.ble 155 m) (cond (Nat.ble 159 m) (cond (Nat.ble 161 m) (cond (Nat.ble 162 m) (prog_13_method_16_code) (prog_13_method_15_code)) (cond (Nat.ble 160 m) (prog_13_method_14_code) (prog_13_method_13_code))) (cond (Nat.ble 157 m) (cond (Nat.ble 158 m) (prog_13_method_12_code) (prog_13_method_11_code)) (cond (Nat.ble 156 m) (prog_13_method_10_code) (prog_13_method_9_code)))) (cond (Nat.ble 151 m) (cond (Nat.ble 153 m) (cond (Nat.ble 154 m) (prog_13_method_8_code) (prog_13_method_7_code)) (cond (Nat.ble 152 m) (prog_13_method_6_code) (prog_13_method_5_code))) (cond (Nat.ble 149 m) (cond (Nat.ble 150 m) (prog_13_method_4_code) (prog_13_method_3_code)) (prog_13_method_1_code))))) (cond (Nat.ble 133 m) (cond (Nat.ble 140 m) (cond (Nat.ble 144 m) (cond (Nat.ble 146 m) (cond (Nat.ble 147 m) (prog_1_method_56_code) (prog_1_method_55_code)) (cond (Nat.ble 145 m) (prog_1_method_54_code) (prog_1_method_53_code))) (cond (Nat.ble 142 m) (cond (Nat.ble 143 m) (prog_1_method_52_code) (prog_1_method_51_code)) (cond (Nat.ble 141 m) (prog_1_method_50_code) (prog_1_method_49_code)))) (cond (Nat.ble 136 m) (cond (Nat.ble 138 m) (cond (Nat.ble 139 m) (prog_1_method_48_code) (prog_1_method_47_code)) (cond (Nat.ble 137 m) (prog_1_method_46_code) (prog_1_method_45_code))) (cond (Nat.ble 134 m) (cond (Nat.ble 135 m) (prog_1_method_44_code) (prog_1_method_43_code)) (prog_1_method_42_code)))) (cond (Nat.ble 126 m) (cond (Nat.ble 129 m) (cond (Nat.ble 131 m) (cond (Nat.ble 132 m) (prog_1_method_41_code) (prog_1_method_40_code)) (cond (Nat.ble 130 m) (prog_1_method_39_code) (prog_1_method_38_code))) (cond (Nat.ble 127 m) (cond (Nat.ble 128 m) (prog_1_method_37_code) (prog_1_method_36_code)) (prog_1_method_35_code))) (cond (Nat.ble 122 m) (cond (Nat.ble 124 m) (cond (Nat.ble 125 m) (prog_1_method_34_code) (prog_1_method_33_code)) (cond (Nat.ble 123 m) (prog_1_method_32_code) (prog_1_method_31_code))) (cond (Nat.ble 120 m) (cond (Nat.ble 121 m) (prog_1_method_30_code) (prog_1_method_29_code)) (prog_1_method_28_code))))))) (cond (Nat.ble 59 m) (cond (Nat.ble 89 m) (cond (Nat.ble 104 m) (cond (Nat.ble 111 m) (cond (Nat.ble 115 m) (cond (Nat.ble 117 m) (cond (Nat.ble 118 m) (prog_1_method_27_code) (prog_1_method_26_code)) (cond (Nat.ble 116 m) (prog_1_method_25_code) (prog_1_method_24_code))) (cond (Nat.ble 113 m) (cond (Nat.ble 114 m) (prog_1_method_23_code) (prog_1_method_22_code)) (cond (Nat.ble 112 m) (prog_1_method_21_code) (prog_1_method_20_code)))) (cond (Nat.ble 107 m) (cond (Nat.ble 109 m) (cond (Nat.ble 110 m) (prog_1_method_19_code) (prog_1_method_18_code)) (cond (Nat.ble 108 m) (prog_1_method_17_code) (prog_1_method_16_code))) (cond (Nat.ble 105 m) (cond (Nat.ble 106 m) (prog_1_method_15_code) (prog_1_method_14_code)) (prog_1_method_13_code)))) (cond (Nat.ble 96 m) (cond (Nat.ble 100 m) (cond (Nat.ble 102 m) (cond (Nat.ble 103 m) (prog_1_method_12_code) (prog_1_method_11_code)) (cond (Nat.ble 101 m) (prog_1_method_10_code) (prog_1_method_9_code))) (cond (Nat.ble 98 m) (cond (Nat.ble 99 m) (prog_1_method_8_code) (prog_1_method_7_code)) (cond (Nat.ble 97 m) (prog_1_method_6_code) (prog_1_method_5_code)))) (cond (Nat.ble 92 m) (cond (Nat.ble 94 m) (cond (Nat.ble 95 m) (prog_1_method_4_code) (prog_1_method_3_code)) (cond (Nat.ble 93 m) (prog_1_method_2_code) (prog_1_method_1_code))) (cond (Nat.ble 90 m) (cond (Nat.ble 91 m) (prog_11_method_8_code) (prog_11_method_7_code)) (prog_11_method_6_code))))) (cond (Nat.ble 74 m) (cond (Nat.ble 81 m) (cond (Nat.ble 85 m) (cond (Nat.ble 87 m) (cond (Nat.ble 88 m) (prog_11_method_5_code) (prog_11_method_4_code)) (cond (Nat.ble 86 m) (prog_11_method_3_code) (prog_11_method_2_code))) (cond (Nat.ble 83 m) (cond (Nat.ble 84 m) (prog_11_method_1_code) (prog_10_method_10_code)) (cond (Nat.ble 82 m) (prog_10_method_9_code) (prog_10_method_8_code)))) (cond (Nat.ble 77 m) (cond (Nat.ble 79 m) (cond (Nat.ble 80 m) (prog_10_method_7_code) (prog_10_method_6_code)) (cond (Nat.ble 78 m) (prog_10_method_5_code) (prog_10_method_4_code))) (cond (Nat.ble 75 m) (cond (Nat.ble 76 m) (prog_10_method_3_code) (prog_10_method_2_code)) (prog_10_method_1_code)))) (cond (Nat.ble 66 m) (cond (Nat.ble 70 m) (cond (Nat.ble 72 m) (cond (Nat.ble 73 m) (prog_9_method_11_code) (prog_9_method_10_code)) (cond (Nat.ble 71 m) (prog_9_method_9_code) (prog_9_method_8_code))) (cond (Nat.ble 68 m) (cond (Nat.ble 69 m) (prog_9_method_7_code) (prog_9_method_6_code)) (cond (Nat.ble 67 m) (prog_9_method_5_code) (prog_9_method_4_code)))) (cond (Nat.ble 62 m) (cond (Nat.ble 64 m) (cond (Nat.ble 65 m) (prog_9_method_3_code) (prog_9_method_2_code)) (cond (Nat.ble 63 m) (prog_8_method_13_code) (prog_8_method_12_code))) (cond (Nat.ble 60 m) (cond (Nat.ble 61 m) (prog_8_method_11_code) (prog_8_method_10_code)) (prog_8_method_9_code)))))) (cond (Nat.ble 29 m) (cond (Nat.ble 44 m) (cond (Nat.ble 51 m) (cond (Nat.ble 55 m) (cond (Nat.ble 57 m) (cond (Nat.ble 58 m) (prog_8_method_8_code) (prog_8_method_7_code)) (cond (Nat.ble 56 m) (prog_8_method_6_code) (prog_8_method_5_code))) (cond (Nat.ble 53 m) (cond (Nat.ble 54 m) (prog_8_method_4_code) (prog_8_method_3_code)) (cond (Nat.ble 52 m) (prog_8_method_2_code) (prog_8_method_1_code)))) (cond (Nat.ble 47 m) (cond (Nat.ble 49 m) (cond (Nat.ble 50 m) (prog_7_method_11_code) (prog_7_method_10_code)) (cond (Nat.ble 48 m) (prog_7_method_9_code) (prog_7_method_8_code))) (cond (Nat.ble 45 m) (cond (Nat.ble 46 m) (prog_7_method_7_code) (prog_7_method_6_code)) (prog_7_method_5_code)))) (cond (Nat.ble 36 m) (cond (Nat.ble 40 m) (cond (Nat.ble 42 m) (cond (Nat.ble 43 m) (prog_7_method_4_code) (prog_7_method_3_code)) (cond (Nat.ble 41 m) (prog_7_method_2_code) (prog_7_method_1_code))) (cond (Nat.ble 38 m) (cond (Nat.ble 39 m) (prog_6_method_4_code) (prog_6_method_3_code)) (cond (Nat.ble 37 m) (prog_6_method_2_code) (prog_5_method_13_code)))) (cond (Nat.ble 32 m) (cond (Nat.ble 34 m) (cond (Nat.ble 35 m) (prog_5_method_12_code) (prog_5_method_11_code)) (cond (Nat.ble 33 m) (prog_5_method_10_code) (prog_5_method_9_code))) (cond (Nat.ble 30 m) (cond (Nat.ble 31 m) (prog_5_method_8_code) (prog_5_method_7_code)) (prog_5_method_6_code))))) (cond (Nat.ble 14 m) (cond (Nat.ble 21 m) (cond (Nat.ble 25 m) (cond (Nat.ble 27 m) (cond (Nat.ble 28 m) (prog_5_method_5_code) (prog_5_method_4_code)) (cond (Nat.ble 26 m) (prog_5_method_3_code) (prog_5_method_2_code))) (cond (Nat.ble 23 m) (cond (Nat.ble 24 m) (prog_4_method_6_code) (prog_4_method_5_code)) (cond (Nat.ble 22 m) (prog_4_method_4_code) (prog_4_method_3_code)))) (cond (Nat.ble 17 m) (cond (Nat.ble 19 m) (cond (Nat.ble 20 m) (prog_4_method_2_code) (prog_3_method_11_code)) (cond (Nat.ble 18 m) (prog_3_method_10_code) (prog_3_method_9_code))) (cond (Nat.ble 15 m) (cond (Nat.ble 16 m) (prog_3_method_8_code) (prog_3_method_7_code)) (prog_3_method_6_code)))) (cond (Nat.ble 7 m) (cond (Nat.ble 10 m) (cond (Nat.ble 12 m) (cond (Nat.ble 13 m) (prog_3_method_5_code) (prog_3_method_4_code)) (cond (Nat.ble 11 m) (prog_3_method_3_code) (prog_3_method_2_code))) (cond (Nat.ble 8 m) (cond (Nat.ble 9 m) (prog_3_method_1_code) (prog_2_method_9_code)) (prog_2_method_8_code))) (cond (Nat.ble 3 m) (cond (Nat.ble 5 m) (cond (Nat.ble 6 m) (prog_2_method_7_code) (prog_2_method_6_code)) (cond (Nat.ble 4 m) (prog_2_method_5_code) (prog_2_method_4_code))) (cond (Nat.ble 1 m) (cond (Nat.ble 2 m) (prog_2_method_3_code) (prog_2_method_2_code)) (prog_2_method_1_code)))))))
def zFL : List (Nat × Nat × Nat × Nat × Nat) := [(0, 10, 0, 0, 304), (0, 16, 0, 1, 305), (0, 22, 0, 2, 306), (0, 29, 0, 3, 307), (0, 36, 0, 4, 308), (0, 42, 0, 5, 309), (0, 47, 0, 6, 310), (0, 51, 0, 7, 311), (0, 55, 0, 8, 312), (0, 66, 2, 0, 114), (0, 86, 2, 1, 118), (0, 95, 2, 2, 122), (0, 106, 2, 3, 125), (0, 126, 2, 9, 142), (0, 138, 2, 4, 128), (0, 164, 2, 5, 131), (0, 174, 2, 10, 146), (0, 177, 2, 6, 134), (0, 184, 2, 7, 137), (0, 200, 2, 8, 140), (1, 11, 1, 0, 268), (1, 15, 1, 1, 269), (1, 19, 1, 2, 270), (1, 22, 1, 3, 271), (1, 25, 1, 4, 272), (1, 28, 1, 5, 273), (2, 14, 2, 0, 113), (2, 20, 2, 1, 117), (2, 23, 2, 2, 120), (2, 26, 2, 3, 123), (2, 29, 2, 4, 126), (2, 34, 2, 5, 129), (2, 39, 2, 6, 132), (2, 42, 2, 7, 135), (2, 47, 2, 8, 138), (2, 50, 2, 9, 141), (2, 54, 2, 10, 144), (3, 11, 3, 0, 219), (3, 15, 3, 1, 220), (3, 18, 3, 2, 221), (3, 21, 3, 3, 222), (3, 24, 3, 4, 223), (3, 27, 3, 5, 224), (3, 30, 3, 6, 225), (3, 33, 3, 7, 226), (3, 36, 3, 8, 227), (3, 39, 3, 9, 228), (3, 42, 3, 10, 229), (3, 46, 3, 11, 230), (3, 49, 3, 12, 231), (3, 52, 3, 13, 232), (3, 64, 2, 6, 133), (3, 84, 2, 7, 136), (4, 11, 4, 0, 176), (4, 15, 4, 1, 177), (4, 18, 4, 2, 178), (4, 21, 4, 3, 179), (4, 24, 4, 4, 180), (4, 27, 4, 5, 181), (4, 30, 4, 6, 182), (4, 33, 4, 7, 183), (4, 36, 4, 8, 184), (4, 39, 4, 9, 185), (4, 43, 4, 10, 186), (4, 46, 4, 11, 187), (5, 9, 5, 0, 294), (5, 15, 5, 1, 295), (5, 19, 5, 2, 296), (6, 15, 6, 1, 100), (6, 21, 6, 0, 99), (6, 24, 6, 2, 101), (6, 28, 6, 3, 102), (7, 7, 7, 3, 921), (7, 13, 7, 4, 922), (7, 16, 7, 5, 923), (7, 19, 7, 7, 925), (7, 22, 7, 8, 926), (7, 25, 7, 9, 927), (7, 28, 7, 11, 929), (7, 31, 7, 12, 930), (7, 34, 7, 14, 932), (7, 37, 7, 15, 933), (7, 40, 7, 16, 934), (7, 43, 7, 17, 935), (7, 46, 7, 18, 936), (7, 49, 7, 19, 937), (7, 52, 7, 20, 938), (7, 55, 7, 22, 940), (7, 59, 7, 23, 941), (7, 62, 7, 24, 942), (7, 65, 7, 25, 943), (7, 68, 7, 26, 944), (7, 71, 7, 27, 945), (7, 74, 7, 28, 946), (7, 77, 7, 30, 948), (7, 80, 7, 31, 949), (7, 83, 7, 32, 950), (7, 86, 7, 33, 951), (7, 89, 7, 34, 952), (7, 92, 7, 35, 953), (7, 96, 7, 37, 955), (7, 99, 7, 39, 957), (7, 102, 7, 40, 958), (7, 105, 7, 41, 959), (7, 108, 7, 42, 960), (7, 111, 7, 44, 962), (7, 114, 7, 45, 963), (7, 117, 7, 46, 964), (7, 120, 7, 49, 967), (7, 123, 7, 50, 968), (7, 126, 7, 51, 969), (7, 129, 7, 52, 970), (7, 132, 7, 55, 973), (7, 135, 7, 56, 974), (7, 138, 7, 60, 978), (7, 141, 7, 61, 979), (7, 144, 7, 62, 980), (7, 147, 7, 63, 981), (7, 150, 7, 64, 982), (7, 153, 7, 65, 983), (7, 156, 7, 66, 984), (7, 159, 7, 68, 986), (7, 162, 7, 69, 987), (7, 165, 7, 70, 988), (7, 168, 7, 0, 918), (7, 171, 7, 2, 920), (7, 178, 7, 6, 924), (7, 181, 7, 10, 928), (7, 184, 7, 13, 931), (7, 215, 7, 1, 919), (7, 221, 7, 21, 939), (7, 250, 7, 29, 947), (7, 253, 7, 47, 965), (7, 267, 7, 53, 971), (7, 274, 7, 54, 972), (7, 290, 7, 36, 954), (7, 293, 7, 48, 966), (7, 296, 7, 38, 956), (7, 299, 7, 57, 975), (7, 312, 7, 43, 961), (7, 325, 7, 58, 976), (7, 328, 7, 59, 977), (7, 331, 7, 67, 985), (8, 15, 2, 5, 130), (8, 62, 2, 10, 145), (9, 9, 2, 3, 124), (9, 25, 2, 2, 121), (9, 38, 2, 4, 127), (9, 58, 2, 0, 115), (9, 61, 2, 1, 119), (9, 74, 2, 9, 143), (11, 37, 2, 8, 139), (11, 46, 2, 0, 116)]
def zSL : List (Nat × Nat × Nat × Nat) := [(1, 43, 3, 805), (10, 11, 2, 469)]
def zCL : List (Nat × Nat × Nat × Nat) := [(0, 7, 2, 84), (0, 19, 4, 170), (0, 26, 3, 213), (0, 33, 1, 262), (0, 40, 5, 287), (2, 9, 6, 90), (12, 7, 0, 76), (12, 10, 7, 912)]
def zCN : List (Nat × Nat × Nat × Nat) := [(7, 311, 371293, 1329), (13, 265, 1431655765, 710), (13, 266, 858993459, 711), (13, 267, 252645135, 712)]
def zML : List (Nat × Nat × Nat × Nat) := [(0, 9, 9, 86), (0, 21, 51, 172), (0, 28, 40, 215), (0, 35, 0, 264), (0, 46, 74, 290), (0, 58, 134, 336), (0, 62, 132, 342), (0, 70, 86, 346), (0, 76, 11, 350), (0, 79, 131, 364), (0, 82, 133, 339), (0, 89, 12, 372), (0, 92, 139, 380), (0, 98, 13, 388), (0, 102, 142, 396), (0, 109, 14, 406), (0, 113, 87, 384), (0, 116, 135, 418), (0, 119, 88, 421), (0, 122, 89, 422), (0, 129, 37, 400), (0, 132, 136, 403), (0, 135, 137, 427), (0, 141, 15, 430), (0, 145, 115, 446), (0, 149, 35, 495), (0, 155, 110, 502), (0, 158, 140, 510), (0, 161, 141, 515), (0, 167, 52, 519), (0, 170, 16, 523), (0, 180, 41, 535), (0, 181, 17, 539), (0, 187, 18, 547), (0, 190, 85, 514), (0, 194, 64, 555), (0, 203, 65, 558), (0, 207, 66, 567), (0, 211, 67, 572), (0, 214, 69, 575), (0, 218, 68, 582), (0, 222, 10, 589), (0, 226, 25, 617), (0, 230, 30, 622), (0, 233, 33, 450), (0, 237, 53, 628), (0, 241, 60, 660), (0, 244, 61, 664), (0, 247, 62, 672), (0, 250, 63, 680), (0, 253, 20, 688), (0, 259, 42, 718), (0, 261, 49, 749), (0, 264, 50, 753), (0, 267, 70, 761), (0, 270, 72, 766), (0, 274, 71, 776), (0, 278, 19, 781), (0, 281, 1, 786), (0, 284, 3, 794), (0, 288, 2, 822), (0, 291, 75, 830), (0, 294, 138, 833), (0, 297, 76, 836), (0, 301, 77, 846), (0, 304, 79, 850), (0, 305, 82, 854), (0, 307, 78, 863), (0, 310, 80, 868), (0, 313, 81, 872), (0, 315, 143, 880), (0, 318, 234, 883), (0, 323, 144, 886), (0, 326, 145, 891), (0, 329, 146, 895), (0, 332, 147, 904), (0, 335, 39, 890), (0, 338, 83, 899), (1, 33, 88, 798), (1, 39, 6, 799), (1, 48, 4, 802), (1, 51, 38, 807), (1, 55, 5, 808), (1, 59, 8, 812), (1, 62, 7, 815), (2, 11, 84, 92), (2, 57, 91, 593), (2, 61, 90, 354), (2, 65, 89, 363), (2, 69, 88, 410), (2, 73, 85, 785), (3, 56, 43, 722), (3, 60, 45, 734), (3, 69, 85, 726), (3, 75, 236, 727), (3, 81, 88, 728), (3, 87, 235, 729), (3, 90, 44, 730), (3, 94, 46, 737), (3, 98, 47, 741), (3, 102, 48, 745), (4, 50, 54, 632), (4, 54, 56, 644), (4, 58, 85, 636), (4, 64, 236, 637), (4, 72, 88, 640), (4, 75, 55, 641), (4, 79, 57, 647), (4, 83, 58, 651), (4, 87, 235, 655), (4, 90, 59, 656), (5, 22, 236, 840), (5, 28, 235, 841), (5, 31, 77, 867), (5, 35, 79, 858), (5, 39, 81, 903), (6, 9, 235, 96), (6, 31, 86, 358), (6, 35, 89, 359), (7, 174, 149, 1137), (7, 187, 150, 1140), (7, 191, 151, 1144), (7, 194, 152, 1164), (7, 198, 160, 1168), (7, 201, 161, 1160), (7, 205, 162, 1171), (7, 209, 155, 1179), (7, 212, 156, 1183), (7, 218, 153, 1190), (7, 224, 168, 1214), (7, 228, 170, 1217), (7, 231, 169, 1221), (7, 234, 154, 1206), (7, 237, 171, 1210), (7, 240, 174, 1233), (7, 244, 175, 1241), (7, 247, 176, 1242), (7, 257, 181, 1269), (7, 260, 180, 1265), (7, 263, 185, 1277), (7, 270, 182, 1261), (7, 277, 184, 1273), (7, 281, 186, 1257), (7, 284, 183, 1289), (7, 287, 190, 1297), (7, 302, 195, 1317), (7, 305, 194, 1321), (7, 308, 196, 1313), (7, 315, 199, 1338), (7, 319, 202, 1346), (7, 322, 203, 1350), (7, 334, 211, 1386), (7, 338, 212, 1394), (7, 341, 213, 1390), (7, 344, 215, 1414), (7, 347, 214, 1382), (7, 350, 217, 1406), (7, 353, 216, 1410), (7, 356, 218, 1402), (7, 359, 219, 1398), (7, 362, 220, 1426), (7, 365, 221, 1422), (7, 368, 222, 1418), (7, 371, 228, 1450), (7, 374, 230, 1453), (7, 377, 229, 1457), (8, 9, 60, 691), (8, 21, 85, 692), (8, 26, 22, 693), (8, 32, 21, 701), (8, 36, 235, 713), (8, 42, 23, 697), (8, 46, 24, 704), (8, 50, 61, 696), (8, 54, 88, 700), (8, 57, 233, 707), (9, 15, 26, 456), (9, 21, 27, 460), (9, 28, 88, 459), (9, 34, 30, 472), (9, 41, 28, 485), (9, 45, 29, 488), (9, 50, 39, 463), (9, 64, 85, 475), (9, 68, 31, 479), (9, 71, 32, 482), (9, 78, 25, 453), (9, 81, 34, 491), (9, 85, 87, 494), (9, 89, 36, 498), (9, 93, 89, 501), (10, 15, 38, 466), (11, 11, 90, 561), (11, 17, 89, 562), (11, 21, 87, 570), (11, 25, 88, 571), (11, 29, 70, 578), (11, 33, 67, 581), (11, 43, 85, 775), (11, 49, 73, 769), (11, 53, 71, 772), (12, 9, 92, 78), (12, 12, 148, 914), (12, 13, 93, 332), (12, 17, 157, 1133), (12, 18, 94, 368), (12, 21, 158, 1148), (12, 22, 95, 376), (12, 26, 159, 1152), (12, 27, 96, 392), (12, 31, 163, 1156), (12, 32, 97, 414), (12, 35, 164, 1175), (12, 36, 98, 423), (12, 40, 165, 1186), (12, 41, 99, 434), (12, 44, 166, 1194), (12, 45, 100, 438), (12, 48, 167, 1198), (12, 49, 101, 442), (12, 53, 177, 1237), (12, 54, 102, 506), (12, 58, 178, 1245), (12, 59, 103, 527), (12, 62, 179, 1249), (12, 63, 104, 531), (12, 66, 192, 1301), (12, 67, 105, 543), (12, 70, 193, 1305), (12, 71, 106, 551), (12, 74, 198, 1325), (12, 75, 107, 563), (12, 78, 200, 1330), (12, 79, 108, 585), (12, 83, 205, 1354), (12, 84, 109, 600), (12, 87, 206, 1358), (12, 88, 110, 604), (12, 91, 207, 1362), (12, 92, 111, 605), (12, 95, 208, 1366), (12, 96, 112, 609), (12, 99, 209, 1370), (12, 100, 113, 613), (12, 103, 172, 1202), (12, 104, 114, 618), (12, 107, 173, 1225), (12, 108, 115, 623), (12, 111, 175, 1229), (12, 112, 116, 624), (12, 115, 187, 1253), (12, 116, 117, 668), (12, 119, 188, 1281), (12, 120, 118, 676), (12, 123, 189, 1285), (12, 124, 119, 684), (12, 127, 191, 1293), (12, 128, 120, 714), (12, 131, 197, 1309), (12, 132, 121, 757), (12, 135, 201, 1334), (12, 136, 122, 762), (12, 139, 204, 1342), (12, 140, 123, 777), (12, 143, 210, 1374), (12, 144, 124, 790), (12, 147, 223, 1378), (12, 148, 125, 818), (12, 151, 224, 1430), (12, 152, 126, 826), (12, 155, 225, 1434), (12, 156, 127, 842), (12, 159, 226, 1438), (12, 160, 128, 859), (12, 163, 227, 1442), (12, 164, 129, 876), (12, 167, 231, 1446), (12, 168, 130, 908), (12, 171, 232, 1461)]
def zNL : List (Nat × Nat × Nat × Nat) := [(9, 54, 133, 471)]
def zOL : List (Nat × Nat × Nat) := [(0, 1, 81), (1, 3, 267), (2, 3, 89), (3, 3, 218), (4, 3, 175), (5, 3, 293), (6, 3, 95), (7, 1, 917)]
def zAL : List (Nat × Nat × Nat) := [(6, 39, 597)]
def zMW : List (Nat × Nat × Nat × Nat) := [(2, 265, 0, 67), (1, 787, 788, 67), (1, 823, 824, 67), (1, 795, 796, 67), (0, 803, 0, 67), (1, 810, 15, 67), (0, 800, 0, 67), (0, 816, 0, 67), (0, 813, 0, 67), (2, 87, 0, 62), (1, 590, 591, 62), (1, 351, 352, 62), (1, 373, 374, 62), (1, 389, 390, 62), (1, 407, 408, 62), (1, 431, 432, 62), (1, 524, 525, 62), (1, 540, 541, 62), (1, 548, 549, 62), (1, 782, 783, 62), (0, 689, 0, 74), (0, 702, 0, 74), (0, 694, 0, 74), (0, 698, 0, 74), (0, 705, 0, 74), (0, 454, 0, 71), (0, 457, 0, 71), (0, 461, 0, 71), (0, 486, 0, 71), (0, 489, 0, 71), (0, 473, 0, 71), (0, 480, 0, 71), (0, 483, 0, 71), (0, 451, 0, 71), (0, 492, 0, 71), (0, 496, 0, 71), (0, 499, 0, 71), (0, 401, 0, 70), (0, 467, 0, 70), (0, 464, 0, 70), (2, 216, 0, 66), (1, 536, 537, 66), (1, 719, 720, 66), (1, 724, 10, 66), (1, 732, 11, 66), (0, 735, 0, 66), (1, 739, 12, 66), (1, 743, 13, 66), (1, 747, 14, 66), (1, 750, 751, 66), (1, 754, 755, 66), (2, 173, 0, 65), (1, 520, 521, 65), (1, 629, 630, 65), (1, 634, 6, 65), (0, 642, 0, 65), (0, 645, 0, 65), (1, 649, 7, 65), (1, 653, 8, 65), (1, 658, 9, 65), (1, 661, 662, 65), (1, 665, 666, 65), (1, 673, 674, 65), (1, 681, 682, 65), (0, 556, 0, 72), (0, 559, 0, 72), (0, 568, 0, 72), (0, 573, 0, 72), (0, 583, 0, 72), (0, 576, 0, 72), (0, 579, 0, 72), (0, 773, 0, 72), (0, 767, 0, 72), (0, 770, 0, 72), (2, 291, 0, 68), (0, 831, 0, 68), (1, 837, 838, 68), (1, 847, 848, 68), (1, 864, 865, 68), (1, 851, 852, 68), (1, 869, 870, 68), (1, 873, 874, 68), (1, 855, 856, 68), (1, 900, 901, 68), (2, 93, 0, 63), (1, 476, 477, 63), (1, 347, 348, 63), (1, 385, 386, 63), (1, 411, 412, 63), (1, 360, 361, 63), (1, 355, 356, 63), (1, 594, 595, 63), (2, 79, 0, 61), (1, 333, 334, 61), (1, 369, 370, 61), (1, 377, 378, 61), (1, 393, 394, 61), (1, 415, 416, 61), (1, 424, 425, 61), (1, 435, 436, 61), (1, 439, 440, 61), (1, 443, 444, 61), (1, 507, 508, 61), (1, 528, 529, 61), (1, 532, 533, 61), (1, 544, 545, 61), (1, 552, 553, 61), (1, 564, 565, 61), (1, 586, 587, 61), (1, 601, 602, 61), (1, 503, 504, 61), (1, 606, 607, 61), (1, 610, 611, 61), (1, 614, 615, 61), (1, 619, 620, 61), (1, 447, 448, 61), (1, 625, 626, 61), (1, 669, 670, 61), (1, 677, 678, 61), (1, 685, 686, 61), (1, 715, 716, 61), (1, 758, 759, 61), (1, 763, 764, 61), (1, 778, 779, 61), (1, 791, 792, 61), (1, 819, 820, 61), (1, 827, 828, 61), (1, 843, 844, 61), (1, 860, 861, 61), (1, 877, 878, 61), (1, 909, 910, 61), (1, 366, 1, 61), (1, 344, 0, 61), (0, 340, 0, 61), (0, 337, 0, 61), (0, 419, 0, 61), (0, 404, 0, 61), (0, 428, 0, 61), (0, 834, 0, 61), (1, 382, 2, 61), (1, 512, 4, 61), (1, 517, 5, 61), (1, 398, 3, 61), (0, 881, 0, 61), (1, 888, 16, 61), (1, 893, 17, 61), (1, 897, 18, 61), (1, 906, 19, 61), (2, 915, 0, 69), (0, 1138, 0, 69), (1, 1142, 20, 69), (1, 1146, 21, 69), (1, 1166, 23, 69), (1, 1192, 26, 69), (1, 1208, 27, 69), (1, 1181, 25, 69), (0, 1184, 0, 69), (1, 1134, 1135, 69), (1, 1149, 1150, 69), (1, 1153, 1154, 69), (0, 1169, 0, 69), (1, 1162, 22, 69), (1, 1173, 24, 69), (1, 1157, 1158, 69), (1, 1176, 1177, 69), (1, 1187, 1188, 69), (1, 1195, 1196, 69), (1, 1199, 1200, 69), (0, 1215, 0, 69), (1, 1223, 30, 69), (1, 1219, 29, 69), (1, 1212, 28, 69), (1, 1203, 1204, 69), (1, 1226, 1227, 69), (1, 1235, 31, 69), (1, 1230, 1231, 69), (0, 1243, 0, 69), (1, 1238, 1239, 69), (1, 1246, 1247, 69), (1, 1250, 1251, 69), (1, 1267, 34, 69), (1, 1271, 35, 69), (1, 1263, 33, 69), (1, 1291, 38, 69), (1, 1275, 36, 69), (1, 1279, 37, 69), (1, 1259, 32, 69), (1, 1254, 1255, 69), (1, 1282, 1283, 69), (1, 1286, 1287, 69), (1, 1299, 39, 69), (1, 1294, 1295, 69), (1, 1302, 1303, 69), (1, 1306, 1307, 69), (1, 1323, 42, 69), (1, 1319, 41, 69), (1, 1315, 40, 69), (1, 1310, 1311, 69), (1, 1326, 1327, 69), (1, 1340, 43, 69), (1, 1331, 1332, 69), (1, 1335, 1336, 69), (1, 1348, 44, 69), (1, 1352, 45, 69), (1, 1343, 1344, 69), (1, 1355, 1356, 69), (1, 1359, 1360, 69), (1, 1363, 1364, 69), (1, 1367, 1368, 69), (1, 1371, 1372, 69), (1, 1375, 1376, 69), (1, 1388, 47, 69), (1, 1396, 49, 69), (1, 1392, 48, 69), (1, 1384, 46, 69), (1, 1416, 54, 69), (1, 1412, 53, 69), (1, 1408, 52, 69), (1, 1404, 51, 69), (1, 1400, 50, 69), (1, 1428, 57, 69), (1, 1424, 56, 69), (1, 1420, 55, 69), (1, 1379, 1380, 69), (1, 1431, 1432, 69), (1, 1435, 1436, 69), (1, 1439, 1440, 69), (1, 1443, 1444, 69), (0, 1451, 0, 69), (1, 1459, 59, 69), (1, 1455, 58, 69), (1, 1447, 1448, 69), (1, 1462, 1463, 69), (0, 708, 0, 75), (0, 884, 0, 64), (0, 97, 0, 64), (0, 638, 0, 64), (3, 0, 0, 0)]
def zmw (m : Nat) : Nat × Nat × Nat × Nat := zMW.getD m (3, 0, 0, 0)
