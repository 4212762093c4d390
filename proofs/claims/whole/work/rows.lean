section
-- ===== PART A: goes FIRST, ahead of the names: the tables' words, and 'selects' of the private methods out of them =====
/-- a private method of a class that the tables say can be made, by its rows of tables_1 -/
def lw_okq (q : MethodName × Nat) : Prop := (q.1.cls ≠ "java/lang/invoke/MethodHandle" ∧ q.1.cls ≠ "java/lang/invoke/VarHandle") ∧ Cond.instantiable q.1.cls q.2 ∈ tables_1 ∧ Cond.privateMethod q.1 ∈ tables_1 ∧ Cond.instanceMethod q.1 ∈ tables_1
theorem lw_p0 : lw_okq (⟨"LineBattle$History", "newestState", "()LLineBattle$Field;"⟩, 3) := ⟨⟨by decide +kernel, by decide +kernel⟩, List.mem_of_getElem? (i := 126) (by decide +kernel), List.mem_of_getElem? (i := 227) (by decide +kernel), List.mem_of_getElem? (i := 228) (by decide +kernel)⟩
theorem lw_p1 : lw_okq (⟨"LineBattle$Field", "obey", "(LLineBattle$Line;)V"⟩, 7) := ⟨⟨by decide +kernel, by decide +kernel⟩, List.mem_of_getElem? (i := 34) (by decide +kernel), List.mem_of_getElem? (i := 251) (by decide +kernel), List.mem_of_getElem? (i := 252) (by decide +kernel)⟩
theorem lw_p2 : lw_okq (⟨"LineBattle$Field", "moveIfFree", "(LLineBattle$Line;I)Z"⟩, 7) := ⟨⟨by decide +kernel, by decide +kernel⟩, List.mem_of_getElem? (i := 34) (by decide +kernel), List.mem_of_getElem? (i := 264) (by decide +kernel), List.mem_of_getElem? (i := 265) (by decide +kernel)⟩
theorem lw_p3 : lw_okq (⟨"LineBattle$Field", "putInto", "(III)V"⟩, 7) := ⟨⟨by decide +kernel, by decide +kernel⟩, List.mem_of_getElem? (i := 34) (by decide +kernel), List.mem_of_getElem? (i := 278) (by decide +kernel), List.mem_of_getElem? (i := 279) (by decide +kernel)⟩
theorem lw_p4 : lw_okq (⟨"LineBattle$Field", "fight", "(LLineBattle$Line;LLineBattle$Line;Z)V"⟩, 7) := ⟨⟨by decide +kernel, by decide +kernel⟩, List.mem_of_getElem? (i := 34) (by decide +kernel), List.mem_of_getElem? (i := 282) (by decide +kernel), List.mem_of_getElem? (i := 283) (by decide +kernel)⟩
theorem lw_p5 : lw_okq (⟨"LineBattle$Field", "settle", "(LLineBattle$Line;)V"⟩, 7) := ⟨⟨by decide +kernel, by decide +kernel⟩, List.mem_of_getElem? (i := 34) (by decide +kernel), List.mem_of_getElem? (i := 308) (by decide +kernel), List.mem_of_getElem? (i := 309) (by decide +kernel)⟩
theorem lw_p6 : lw_okq (⟨"LineBattle$Field", "retreat", "(LLineBattle$Line;)V"⟩, 7) := ⟨⟨by decide +kernel, by decide +kernel⟩, List.mem_of_getElem? (i := 34) (by decide +kernel), List.mem_of_getElem? (i := 316) (by decide +kernel), List.mem_of_getElem? (i := 317) (by decide +kernel)⟩
theorem lw_p7 : lw_okq (⟨"java/lang/Throwable", "fillInStackTrace", "(I)Ljava/lang/Throwable;"⟩, 6) := ⟨⟨by decide +kernel, by decide +kernel⟩, List.mem_of_getElem? (i := 518) (by decide +kernel), List.mem_of_getElem? (i := 516) (by decide +kernel), List.mem_of_getElem? (i := 517) (by decide +kernel)⟩
theorem lw_p8 : lw_okq (⟨"LineBattle", "known", "(I)LLineBattle$Line;"⟩, 10) := ⟨⟨by decide +kernel, by decide +kernel⟩, List.mem_of_getElem? (i := 26) (by decide +kernel), List.mem_of_getElem? (i := 667) (by decide +kernel), List.mem_of_getElem? (i := 668) (by decide +kernel)⟩
theorem lw_p9 : lw_okq (⟨"LineBattle", "unfallen", "(I)LLineBattle$Line;"⟩, 10) := ⟨⟨by decide +kernel, by decide +kernel⟩, List.mem_of_getElem? (i := 26) (by decide +kernel), List.mem_of_getElem? (i := 680) (by decide +kernel), List.mem_of_getElem? (i := 681) (by decide +kernel)⟩
theorem lw_p10 : lw_okq (⟨"LineBattle$Field", "strongerThan", "(LLineBattle$Line;)I"⟩, 7) := ⟨⟨by decide +kernel, by decide +kernel⟩, List.mem_of_getElem? (i := 34) (by decide +kernel), List.mem_of_getElem? (i := 900) (by decide +kernel), List.mem_of_getElem? (i := 901) (by decide +kernel)⟩
theorem lw_p11 : lw_okq (⟨"LineBattle", "write", "(C)V"⟩, 10) := ⟨⟨by decide +kernel, by decide +kernel⟩, List.mem_of_getElem? (i := 26) (by decide +kernel), List.mem_of_getElem? (i := 913) (by decide +kernel), List.mem_of_getElem? (i := 914) (by decide +kernel)⟩
theorem lw_p12 : lw_okq (⟨"LineBattle$CommandText", "readCommand", "()Z"⟩, 8) := ⟨⟨by decide +kernel, by decide +kernel⟩, List.mem_of_getElem? (i := 146) (by decide +kernel), List.mem_of_getElem? (i := 1002) (by decide +kernel), List.mem_of_getElem? (i := 1003) (by decide +kernel)⟩
theorem lw_p13 : lw_okq (⟨"LineBattle$CommandText", "peek", "()C"⟩, 8) := ⟨⟨by decide +kernel, by decide +kernel⟩, List.mem_of_getElem? (i := 146) (by decide +kernel), List.mem_of_getElem? (i := 1006) (by decide +kernel), List.mem_of_getElem? (i := 1007) (by decide +kernel)⟩
theorem lw_p14 : lw_okq (⟨"LineBattle$CommandText", "takeWord", "(Ljava/lang/String;)Z"⟩, 8) := ⟨⟨by decide +kernel, by decide +kernel⟩, List.mem_of_getElem? (i := 146) (by decide +kernel), List.mem_of_getElem? (i := 1011) (by decide +kernel), List.mem_of_getElem? (i := 1012) (by decide +kernel)⟩
theorem lw_p15 : lw_okq (⟨"LineBattle$CommandText", "take", "(C)Z"⟩, 8) := ⟨⟨by decide +kernel, by decide +kernel⟩, List.mem_of_getElem? (i := 146) (by decide +kernel), List.mem_of_getElem? (i := 1036) (by decide +kernel), List.mem_of_getElem? (i := 1037) (by decide +kernel)⟩
def lw_privs_1 : List (MethodName × Nat) := [(⟨"LineBattle$History", "newestState", "()LLineBattle$Field;"⟩, 3), (⟨"LineBattle$Field", "obey", "(LLineBattle$Line;)V"⟩, 7), (⟨"LineBattle$Field", "moveIfFree", "(LLineBattle$Line;I)Z"⟩, 7), (⟨"LineBattle$Field", "putInto", "(III)V"⟩, 7), (⟨"LineBattle$Field", "fight", "(LLineBattle$Line;LLineBattle$Line;Z)V"⟩, 7), (⟨"LineBattle$Field", "settle", "(LLineBattle$Line;)V"⟩, 7), (⟨"LineBattle$Field", "retreat", "(LLineBattle$Line;)V"⟩, 7), (⟨"java/lang/Throwable", "fillInStackTrace", "(I)Ljava/lang/Throwable;"⟩, 6), (⟨"LineBattle", "known", "(I)LLineBattle$Line;"⟩, 10), (⟨"LineBattle", "unfallen", "(I)LLineBattle$Line;"⟩, 10), (⟨"LineBattle$Field", "strongerThan", "(LLineBattle$Line;)I"⟩, 7), (⟨"LineBattle", "write", "(C)V"⟩, 10), (⟨"LineBattle$CommandText", "readCommand", "()Z"⟩, 8), (⟨"LineBattle$CommandText", "peek", "()C"⟩, 8), (⟨"LineBattle$CommandText", "takeWord", "(Ljava/lang/String;)Z"⟩, 8), (⟨"LineBattle$CommandText", "take", "(C)Z"⟩, 8)]
theorem lw_r1 : ∀ q ∈ lw_privs_1, lw_okq q := List.forall_mem_cons.mpr ⟨lw_p0, List.forall_mem_cons.mpr ⟨lw_p1, List.forall_mem_cons.mpr ⟨lw_p2, List.forall_mem_cons.mpr ⟨lw_p3, List.forall_mem_cons.mpr ⟨lw_p4, List.forall_mem_cons.mpr ⟨lw_p5, List.forall_mem_cons.mpr ⟨lw_p6, List.forall_mem_cons.mpr ⟨lw_p7, List.forall_mem_cons.mpr ⟨lw_p8, List.forall_mem_cons.mpr ⟨lw_p9, List.forall_mem_cons.mpr ⟨lw_p10, List.forall_mem_cons.mpr ⟨lw_p11, List.forall_mem_cons.mpr ⟨lw_p12, List.forall_mem_cons.mpr ⟨lw_p13, List.forall_mem_cons.mpr ⟨lw_p14, List.forall_mem_cons.mpr ⟨lw_p15, fun _ h => absurd h List.not_mem_nil⟩⟩⟩⟩⟩⟩⟩⟩⟩⟩⟩⟩⟩⟩⟩⟩
theorem lw_p16 : lw_okq (⟨"LineBattle$CommandText", "readPlace", "()Z"⟩, 8) := ⟨⟨by decide +kernel, by decide +kernel⟩, List.mem_of_getElem? (i := 146) (by decide +kernel), List.mem_of_getElem? (i := 1040) (by decide +kernel), List.mem_of_getElem? (i := 1041) (by decide +kernel)⟩
theorem lw_p17 : lw_okq (⟨"LineBattle$CommandText", "takeDigit", "()I"⟩, 8) := ⟨⟨by decide +kernel, by decide +kernel⟩, List.mem_of_getElem? (i := 146) (by decide +kernel), List.mem_of_getElem? (i := 1044) (by decide +kernel), List.mem_of_getElem? (i := 1045) (by decide +kernel)⟩
theorem lw_p18 : lw_okq (⟨"LineBattle$CommandText", "readSign", "(Ljava/lang/String;)Z"⟩, 8) := ⟨⟨by decide +kernel, by decide +kernel⟩, List.mem_of_getElem? (i := 146) (by decide +kernel), List.mem_of_getElem? (i := 1049) (by decide +kernel), List.mem_of_getElem? (i := 1050) (by decide +kernel)⟩
theorem lw_p19 : lw_okq (⟨"LineBattle$CommandText", "readNumber", "()Z"⟩, 8) := ⟨⟨by decide +kernel, by decide +kernel⟩, List.mem_of_getElem? (i := 146) (by decide +kernel), List.mem_of_getElem? (i := 1054) (by decide +kernel), List.mem_of_getElem? (i := 1055) (by decide +kernel)⟩
theorem lw_p20 : lw_okq (⟨"LineBattle", "perform", "()Z"⟩, 10) := ⟨⟨by decide +kernel, by decide +kernel⟩, List.mem_of_getElem? (i := 26) (by decide +kernel), List.mem_of_getElem? (i := 1072) (by decide +kernel), List.mem_of_getElem? (i := 1073) (by decide +kernel)⟩
theorem lw_p21 : lw_okq (⟨"LineBattleModel", "keep", "()V"⟩, 18) := ⟨⟨by decide +kernel, by decide +kernel⟩, List.mem_of_getElem? (i := 1117) (by decide +kernel), List.mem_of_getElem? (i := 1186) (by decide +kernel), List.mem_of_getElem? (i := 1187) (by decide +kernel)⟩
theorem lw_p22 : lw_okq (⟨"LineBattleModel", "doAddLine", "(IIII)I"⟩, 18) := ⟨⟨by decide +kernel, by decide +kernel⟩, List.mem_of_getElem? (i := 1117) (by decide +kernel), List.mem_of_getElem? (i := 1193) (by decide +kernel), List.mem_of_getElem? (i := 1194) (by decide +kernel)⟩
theorem lw_p23 : lw_okq (⟨"LineBattleModel", "fails", "(I)I"⟩, 18) := ⟨⟨by decide +kernel, by decide +kernel⟩, List.mem_of_getElem? (i := 1117) (by decide +kernel), List.mem_of_getElem? (i := 1209) (by decide +kernel), List.mem_of_getElem? (i := 1210) (by decide +kernel)⟩
theorem lw_p24 : lw_okq (⟨"LineBattleModel", "cell", "(II)I"⟩, 18) := ⟨⟨by decide +kernel, by decide +kernel⟩, List.mem_of_getElem? (i := 1117) (by decide +kernel), List.mem_of_getElem? (i := 1213) (by decide +kernel), List.mem_of_getElem? (i := 1214) (by decide +kernel)⟩
theorem lw_p25 : lw_okq (⟨"LineBattleModel", "isGone", "(I)Z"⟩, 18) := ⟨⟨by decide +kernel, by decide +kernel⟩, List.mem_of_getElem? (i := 1117) (by decide +kernel), List.mem_of_getElem? (i := 1217) (by decide +kernel), List.mem_of_getElem? (i := 1218) (by decide +kernel)⟩
theorem lw_p26 : lw_okq (⟨"LineBattleModel", "of", "(II)I"⟩, 18) := ⟨⟨by decide +kernel, by decide +kernel⟩, List.mem_of_getElem? (i := 1117) (by decide +kernel), List.mem_of_getElem? (i := 1221) (by decide +kernel), List.mem_of_getElem? (i := 1222) (by decide +kernel)⟩
theorem lw_p27 : lw_okq (⟨"LineBattleModel", "sets", "(III)V"⟩, 18) := ⟨⟨by decide +kernel, by decide +kernel⟩, List.mem_of_getElem? (i := 1117) (by decide +kernel), List.mem_of_getElem? (i := 1225) (by decide +kernel), List.mem_of_getElem? (i := 1226) (by decide +kernel)⟩
theorem lw_p28 : lw_okq (⟨"LineBattleModel", "ends", "(I)I"⟩, 18) := ⟨⟨by decide +kernel, by decide +kernel⟩, List.mem_of_getElem? (i := 1117) (by decide +kernel), List.mem_of_getElem? (i := 1229) (by decide +kernel), List.mem_of_getElem? (i := 1230) (by decide +kernel)⟩
theorem lw_p29 : lw_okq (⟨"LineBattleModel", "doSetOrder", "(II)I"⟩, 18) := ⟨⟨by decide +kernel, by decide +kernel⟩, List.mem_of_getElem? (i := 1117) (by decide +kernel), List.mem_of_getElem? (i := 1237) (by decide +kernel), List.mem_of_getElem? (i := 1238) (by decide +kernel)⟩
theorem lw_p30 : lw_okq (⟨"LineBattleModel", "isLine", "(I)Z"⟩, 18) := ⟨⟨by decide +kernel, by decide +kernel⟩, List.mem_of_getElem? (i := 1117) (by decide +kernel), List.mem_of_getElem? (i := 1241) (by decide +kernel), List.mem_of_getElem? (i := 1242) (by decide +kernel)⟩
theorem lw_p31 : lw_okq (⟨"LineBattleModel", "stands", "(I)Z"⟩, 18) := ⟨⟨by decide +kernel, by decide +kernel⟩, List.mem_of_getElem? (i := 1117) (by decide +kernel), List.mem_of_getElem? (i := 1248) (by decide +kernel), List.mem_of_getElem? (i := 1249) (by decide +kernel)⟩
def lw_privs_2 : List (MethodName × Nat) := [(⟨"LineBattle$CommandText", "readPlace", "()Z"⟩, 8), (⟨"LineBattle$CommandText", "takeDigit", "()I"⟩, 8), (⟨"LineBattle$CommandText", "readSign", "(Ljava/lang/String;)Z"⟩, 8), (⟨"LineBattle$CommandText", "readNumber", "()Z"⟩, 8), (⟨"LineBattle", "perform", "()Z"⟩, 10), (⟨"LineBattleModel", "keep", "()V"⟩, 18), (⟨"LineBattleModel", "doAddLine", "(IIII)I"⟩, 18), (⟨"LineBattleModel", "fails", "(I)I"⟩, 18), (⟨"LineBattleModel", "cell", "(II)I"⟩, 18), (⟨"LineBattleModel", "isGone", "(I)Z"⟩, 18), (⟨"LineBattleModel", "of", "(II)I"⟩, 18), (⟨"LineBattleModel", "sets", "(III)V"⟩, 18), (⟨"LineBattleModel", "ends", "(I)I"⟩, 18), (⟨"LineBattleModel", "doSetOrder", "(II)I"⟩, 18), (⟨"LineBattleModel", "isLine", "(I)Z"⟩, 18), (⟨"LineBattleModel", "stands", "(I)Z"⟩, 18)]
theorem lw_r2 : ∀ q ∈ lw_privs_2, lw_okq q := List.forall_mem_cons.mpr ⟨lw_p16, List.forall_mem_cons.mpr ⟨lw_p17, List.forall_mem_cons.mpr ⟨lw_p18, List.forall_mem_cons.mpr ⟨lw_p19, List.forall_mem_cons.mpr ⟨lw_p20, List.forall_mem_cons.mpr ⟨lw_p21, List.forall_mem_cons.mpr ⟨lw_p22, List.forall_mem_cons.mpr ⟨lw_p23, List.forall_mem_cons.mpr ⟨lw_p24, List.forall_mem_cons.mpr ⟨lw_p25, List.forall_mem_cons.mpr ⟨lw_p26, List.forall_mem_cons.mpr ⟨lw_p27, List.forall_mem_cons.mpr ⟨lw_p28, List.forall_mem_cons.mpr ⟨lw_p29, List.forall_mem_cons.mpr ⟨lw_p30, List.forall_mem_cons.mpr ⟨lw_p31, fun _ h => absurd h List.not_mem_nil⟩⟩⟩⟩⟩⟩⟩⟩⟩⟩⟩⟩⟩⟩⟩⟩
theorem lw_p32 : lw_okq (⟨"LineBattleModel", "doRally", "(I)I"⟩, 18) := ⟨⟨by decide +kernel, by decide +kernel⟩, List.mem_of_getElem? (i := 1117) (by decide +kernel), List.mem_of_getElem? (i := 1256) (by decide +kernel), List.mem_of_getElem? (i := 1257) (by decide +kernel)⟩
theorem lw_p33 : lw_okq (⟨"LineBattleModel", "restores", "(I)V"⟩, 18) := ⟨⟨by decide +kernel, by decide +kernel⟩, List.mem_of_getElem? (i := 1117) (by decide +kernel), List.mem_of_getElem? (i := 1261) (by decide +kernel), List.mem_of_getElem? (i := 1262) (by decide +kernel)⟩
theorem lw_p34 : lw_okq (⟨"LineBattleModel", "passes", "()I"⟩, 18) := ⟨⟨by decide +kernel, by decide +kernel⟩, List.mem_of_getElem? (i := 1117) (by decide +kernel), List.mem_of_getElem? (i := 1269) (by decide +kernel), List.mem_of_getElem? (i := 1270) (by decide +kernel)⟩
theorem lw_p35 : lw_okq (⟨"LineBattleModel", "flees", "(I)V"⟩, 18) := ⟨⟨by decide +kernel, by decide +kernel⟩, List.mem_of_getElem? (i := 1117) (by decide +kernel), List.mem_of_getElem? (i := 1273) (by decide +kernel), List.mem_of_getElem? (i := 1274) (by decide +kernel)⟩
theorem lw_p36 : lw_okq (⟨"LineBattleModel", "moves", "(II)Z"⟩, 18) := ⟨⟨by decide +kernel, by decide +kernel⟩, List.mem_of_getElem? (i := 1117) (by decide +kernel), List.mem_of_getElem? (i := 1277) (by decide +kernel), List.mem_of_getElem? (i := 1278) (by decide +kernel)⟩
theorem lw_p37 : lw_okq (⟨"LineBattleModel", "way", "(I)I"⟩, 18) := ⟨⟨by decide +kernel, by decide +kernel⟩, List.mem_of_getElem? (i := 1117) (by decide +kernel), List.mem_of_getElem? (i := 1281) (by decide +kernel), List.mem_of_getElem? (i := 1282) (by decide +kernel)⟩
theorem lw_p38 : lw_okq (⟨"LineBattleModel", "acts", "(I)V"⟩, 18) := ⟨⟨by decide +kernel, by decide +kernel⟩, List.mem_of_getElem? (i := 1117) (by decide +kernel), List.mem_of_getElem? (i := 1288) (by decide +kernel), List.mem_of_getElem? (i := 1289) (by decide +kernel)⟩
theorem lw_p39 : lw_okq (⟨"LineBattleModel", "next", "(I)I"⟩, 18) := ⟨⟨by decide +kernel, by decide +kernel⟩, List.mem_of_getElem? (i := 1117) (by decide +kernel), List.mem_of_getElem? (i := 1292) (by decide +kernel), List.mem_of_getElem? (i := 1293) (by decide +kernel)⟩
theorem lw_p40 : lw_okq (⟨"LineBattleModel", "isEnemy", "(II)Z"⟩, 18) := ⟨⟨by decide +kernel, by decide +kernel⟩, List.mem_of_getElem? (i := 1117) (by decide +kernel), List.mem_of_getElem? (i := 1296) (by decide +kernel), List.mem_of_getElem? (i := 1297) (by decide +kernel)⟩
theorem lw_p41 : lw_okq (⟨"LineBattleModel", "fights", "(IIZ)V"⟩, 18) := ⟨⟨by decide +kernel, by decide +kernel⟩, List.mem_of_getElem? (i := 1117) (by decide +kernel), List.mem_of_getElem? (i := 1300) (by decide +kernel), List.mem_of_getElem? (i := 1301) (by decide +kernel)⟩
theorem lw_p42 : lw_okq (⟨"LineBattleModel", "attack", "(I)I"⟩, 18) := ⟨⟨by decide +kernel, by decide +kernel⟩, List.mem_of_getElem? (i := 1117) (by decide +kernel), List.mem_of_getElem? (i := 1304) (by decide +kernel), List.mem_of_getElem? (i := 1305) (by decide +kernel)⟩
theorem lw_p43 : lw_okq (⟨"LineBattleModel", "support", "(I)I"⟩, 18) := ⟨⟨by decide +kernel, by decide +kernel⟩, List.mem_of_getElem? (i := 1117) (by decide +kernel), List.mem_of_getElem? (i := 1308) (by decide +kernel), List.mem_of_getElem? (i := 1309) (by decide +kernel)⟩
theorem lw_p44 : lw_okq (⟨"LineBattleModel", "loses", "(II)V"⟩, 18) := ⟨⟨by decide +kernel, by decide +kernel⟩, List.mem_of_getElem? (i := 1117) (by decide +kernel), List.mem_of_getElem? (i := 1312) (by decide +kernel), List.mem_of_getElem? (i := 1313) (by decide +kernel)⟩
theorem lw_p45 : lw_okq (⟨"LineBattleModel", "counter", "(I)I"⟩, 18) := ⟨⟨by decide +kernel, by decide +kernel⟩, List.mem_of_getElem? (i := 1117) (by decide +kernel), List.mem_of_getElem? (i := 1317) (by decide +kernel), List.mem_of_getElem? (i := 1318) (by decide +kernel)⟩
theorem lw_p46 : lw_okq (⟨"LineBattleModel", "settles", "(I)V"⟩, 18) := ⟨⟨by decide +kernel, by decide +kernel⟩, List.mem_of_getElem? (i := 1117) (by decide +kernel), List.mem_of_getElem? (i := 1321) (by decide +kernel), List.mem_of_getElem? (i := 1322) (by decide +kernel)⟩
theorem lw_p47 : lw_okq (⟨"LineBattleModel", "tells", "(II)I"⟩, 18) := ⟨⟨by decide +kernel, by decide +kernel⟩, List.mem_of_getElem? (i := 1117) (by decide +kernel), List.mem_of_getElem? (i := 1333) (by decide +kernel), List.mem_of_getElem? (i := 1334) (by decide +kernel)⟩
def lw_privs_3 : List (MethodName × Nat) := [(⟨"LineBattleModel", "doRally", "(I)I"⟩, 18), (⟨"LineBattleModel", "restores", "(I)V"⟩, 18), (⟨"LineBattleModel", "passes", "()I"⟩, 18), (⟨"LineBattleModel", "flees", "(I)V"⟩, 18), (⟨"LineBattleModel", "moves", "(II)Z"⟩, 18), (⟨"LineBattleModel", "way", "(I)I"⟩, 18), (⟨"LineBattleModel", "acts", "(I)V"⟩, 18), (⟨"LineBattleModel", "next", "(I)I"⟩, 18), (⟨"LineBattleModel", "isEnemy", "(II)Z"⟩, 18), (⟨"LineBattleModel", "fights", "(IIZ)V"⟩, 18), (⟨"LineBattleModel", "attack", "(I)I"⟩, 18), (⟨"LineBattleModel", "support", "(I)I"⟩, 18), (⟨"LineBattleModel", "loses", "(II)V"⟩, 18), (⟨"LineBattleModel", "counter", "(I)I"⟩, 18), (⟨"LineBattleModel", "settles", "(I)V"⟩, 18), (⟨"LineBattleModel", "tells", "(II)I"⟩, 18)]
theorem lw_r3 : ∀ q ∈ lw_privs_3, lw_okq q := List.forall_mem_cons.mpr ⟨lw_p32, List.forall_mem_cons.mpr ⟨lw_p33, List.forall_mem_cons.mpr ⟨lw_p34, List.forall_mem_cons.mpr ⟨lw_p35, List.forall_mem_cons.mpr ⟨lw_p36, List.forall_mem_cons.mpr ⟨lw_p37, List.forall_mem_cons.mpr ⟨lw_p38, List.forall_mem_cons.mpr ⟨lw_p39, List.forall_mem_cons.mpr ⟨lw_p40, List.forall_mem_cons.mpr ⟨lw_p41, List.forall_mem_cons.mpr ⟨lw_p42, List.forall_mem_cons.mpr ⟨lw_p43, List.forall_mem_cons.mpr ⟨lw_p44, List.forall_mem_cons.mpr ⟨lw_p45, List.forall_mem_cons.mpr ⟨lw_p46, List.forall_mem_cons.mpr ⟨lw_p47, fun _ h => absurd h List.not_mem_nil⟩⟩⟩⟩⟩⟩⟩⟩⟩⟩⟩⟩⟩⟩⟩⟩
theorem lw_p48 : lw_okq (⟨"LineBattleModel", "isThere", "(Z)Z"⟩, 18) := ⟨⟨by decide +kernel, by decide +kernel⟩, List.mem_of_getElem? (i := 1117) (by decide +kernel), List.mem_of_getElem? (i := 1337) (by decide +kernel), List.mem_of_getElem? (i := 1338) (by decide +kernel)⟩
theorem lw_p49 : lw_okq (⟨"LineBattleModel", "asks", "(I)Z"⟩, 18) := ⟨⟨by decide +kernel, by decide +kernel⟩, List.mem_of_getElem? (i := 1117) (by decide +kernel), List.mem_of_getElem? (i := 1345) (by decide +kernel), List.mem_of_getElem? (i := 1346) (by decide +kernel)⟩
theorem lw_p50 : lw_okq (⟨"LineBattleModel", "sum", "(I)I"⟩, 18) := ⟨⟨by decide +kernel, by decide +kernel⟩, List.mem_of_getElem? (i := 1117) (by decide +kernel), List.mem_of_getElem? (i := 1427) (by decide +kernel), List.mem_of_getElem? (i := 1428) (by decide +kernel)⟩
theorem lw_p51 : lw_okq (⟨"LineBattleModel", "says", "(I)V"⟩, 18) := ⟨⟨by decide +kernel, by decide +kernel⟩, List.mem_of_getElem? (i := 1117) (by decide +kernel), List.mem_of_getElem? (i := 1460) (by decide +kernel), List.mem_of_getElem? (i := 1461) (by decide +kernel)⟩
theorem lw_p52 : lw_okq (⟨"LineBattleModel", "readCommand", "()V"⟩, 18) := ⟨⟨by decide +kernel, by decide +kernel⟩, List.mem_of_getElem? (i := 1117) (by decide +kernel), List.mem_of_getElem? (i := 1488) (by decide +kernel), List.mem_of_getElem? (i := 1489) (by decide +kernel)⟩
theorem lw_p53 : lw_okq (⟨"LineBattleModel", "behind", "()I"⟩, 18) := ⟨⟨by decide +kernel, by decide +kernel⟩, List.mem_of_getElem? (i := 1117) (by decide +kernel), List.mem_of_getElem? (i := 1492) (by decide +kernel), List.mem_of_getElem? (i := 1493) (by decide +kernel)⟩
theorem lw_p54 : lw_okq (⟨"LineBattleModel", "skip", "(Ljava/lang/String;)V"⟩, 18) := ⟨⟨by decide +kernel, by decide +kernel⟩, List.mem_of_getElem? (i := 1117) (by decide +kernel), List.mem_of_getElem? (i := 1497) (by decide +kernel), List.mem_of_getElem? (i := 1498) (by decide +kernel)⟩
theorem lw_p55 : lw_okq (⟨"LineBattleModel", "readNumber", "(I)I"⟩, 18) := ⟨⟨by decide +kernel, by decide +kernel⟩, List.mem_of_getElem? (i := 1117) (by decide +kernel), List.mem_of_getElem? (i := 1503) (by decide +kernel), List.mem_of_getElem? (i := 1504) (by decide +kernel)⟩
theorem lw_p56 : lw_okq (⟨"LineBattleModel", "isDigit", "()Z"⟩, 18) := ⟨⟨by decide +kernel, by decide +kernel⟩, List.mem_of_getElem? (i := 1117) (by decide +kernel), List.mem_of_getElem? (i := 1508) (by decide +kernel), List.mem_of_getElem? (i := 1509) (by decide +kernel)⟩
theorem lw_p57 : lw_okq (⟨"LineBattleModel", "readLetter", "(Z)I"⟩, 18) := ⟨⟨by decide +kernel, by decide +kernel⟩, List.mem_of_getElem? (i := 1117) (by decide +kernel), List.mem_of_getElem? (i := 1512) (by decide +kernel), List.mem_of_getElem? (i := 1513) (by decide +kernel)⟩
theorem lw_p58 : lw_okq (⟨"LineBattleModel", "does", "(I)V"⟩, 18) := ⟨⟨by decide +kernel, by decide +kernel⟩, List.mem_of_getElem? (i := 1117) (by decide +kernel), List.mem_of_getElem? (i := 1519) (by decide +kernel), List.mem_of_getElem? (i := 1520) (by decide +kernel)⟩
def lw_privs_4 : List (MethodName × Nat) := [(⟨"LineBattleModel", "isThere", "(Z)Z"⟩, 18), (⟨"LineBattleModel", "asks", "(I)Z"⟩, 18), (⟨"LineBattleModel", "sum", "(I)I"⟩, 18), (⟨"LineBattleModel", "says", "(I)V"⟩, 18), (⟨"LineBattleModel", "readCommand", "()V"⟩, 18), (⟨"LineBattleModel", "behind", "()I"⟩, 18), (⟨"LineBattleModel", "skip", "(Ljava/lang/String;)V"⟩, 18), (⟨"LineBattleModel", "readNumber", "(I)I"⟩, 18), (⟨"LineBattleModel", "isDigit", "()Z"⟩, 18), (⟨"LineBattleModel", "readLetter", "(Z)I"⟩, 18), (⟨"LineBattleModel", "does", "(I)V"⟩, 18)]
theorem lw_r4 : ∀ q ∈ lw_privs_4, lw_okq q := List.forall_mem_cons.mpr ⟨lw_p48, List.forall_mem_cons.mpr ⟨lw_p49, List.forall_mem_cons.mpr ⟨lw_p50, List.forall_mem_cons.mpr ⟨lw_p51, List.forall_mem_cons.mpr ⟨lw_p52, List.forall_mem_cons.mpr ⟨lw_p53, List.forall_mem_cons.mpr ⟨lw_p54, List.forall_mem_cons.mpr ⟨lw_p55, List.forall_mem_cons.mpr ⟨lw_p56, List.forall_mem_cons.mpr ⟨lw_p57, List.forall_mem_cons.mpr ⟨lw_p58, fun _ h => absurd h List.not_mem_nil⟩⟩⟩⟩⟩⟩⟩⟩⟩⟩⟩
def lw_privs : List (MethodName × Nat) := lw_privs_1 ++ (lw_privs_2 ++ (lw_privs_3 ++ (lw_privs_4)))
def lw_tbl : List Cond := k2_sels lw_privs ++ tables_1
theorem lw_privs_ok : ∀ q ∈ lw_privs, lw_okq q := by
  show ∀ q ∈ lw_privs_1 ++ (lw_privs_2 ++ (lw_privs_3 ++ (lw_privs_4))), lw_okq q
  exact List.forall_mem_append.mpr ⟨lw_r1, List.forall_mem_append.mpr ⟨lw_r2, List.forall_mem_append.mpr ⟨lw_r3, lw_r4⟩⟩⟩
/-- the streams that the claim lets the run draw from -/
abbrev lw_cs : List Choice := [Jvm.Choice.named "NaN.bits"]
theorem lw_bits : nanBits ∈ lw_cs := by first | decide | exact List.mem_cons_self | simp [lw_cs, nanBits]
end
section
/-! ===== BEGIN words of one list among another's, by their places ===== -/
theorem goodIn_r {big : List Cond} (ws : List Cond) (ps : List Nat) (hp : ws = ps.filterMap (fun i => big[i]?)) (h : ws.all goodWord = true) : GoodIn big ws := by
  intro w hw
  have h1 := List.all_eq_true.mp h w hw
  rw [hp] at hw
  obtain ⟨i, -, hi⟩ := List.mem_filterMap.mp hw
  have hm : w ∈ big := by first | exact List.mem_of_getElem? hi | exact List.getElem?_mem hi
  exact ⟨hm, good_of_word h1⟩
theorem goodIn_app {big a b : List Cond} (ha : GoodIn big a) (hb : GoodIn big b) : GoodIn big (a ++ b) := fun w h => (List.mem_append.mp h).elim (ha w) (hb w)
theorem goodIn_ca {big a b : List Cond} {c : Cond} (ha : GoodIn big (c :: a)) (hb : GoodIn big b) : GoodIn big (c :: (a ++ b)) := fun w h => (List.mem_cons.mp h).elim (fun e => ha w (List.mem_cons.mpr (Or.inl e))) (fun h => (List.mem_append.mp h).elim (fun h => ha w (List.mem_cons.mpr (Or.inr h))) (hb w))
theorem goodIn_sub {big ws : List Cond} (hm : ∀ w ∈ ws, w ∈ big) (h : ws.all goodWord = true) : GoodIn big ws := fun w hw => ⟨hm w hw, good_of_word (List.all_eq_true.mp h w hw)⟩
/-! ===== END ===== -/

/-! ===== BEGIN exceptions that leave a method, and their catching by the caller (launches without stack traces) ===== -/
section VXA
/-! The laws vx_back, vx_callV, vx_callS, vx_callSW, vx_throw0, vx_throwS follow proofs of the library, with one case more: JvmDerived/Free/Laws.lean (Back.of_free), Shelf42/LK1.lean (callV, callS), Shelf/KitTraced.lean (throwNew0V, throwNewS). -/
/-- where a method has thrown q: the class by its name, the cell, what was written, the world -/
def vx_T (XC : String → State → State → Prop) (st : State) (q : Addr) (t : State) (mc ms : Nat) (free : Addr → Prop) : Prop :=
  ∃ (E : String) (ce : Cell) (L : List Loc), XC E st t ∧ t.heap[q]? = some ce ∧ ce.vm = .none ∧ st.vm.findClass E = some ce.cls ∧ st.WarmedH t.vm ∧ st.sameButNew ({ t with vm := st.vm } : State) L mc ms ∧ ∀ z ∈ L, free z.base
def vx_Q (Qc : Array Value → State → Outcome → State → Prop) (XC : String → State → State → Prop) (mc ms : Nat) (free : Addr → Prop) : Array Value → State → Outcome → State → Prop := fun a st o t =>
  (Qc a st o t ∧ ∃ L, FrameEnd st o t L mc ms ∧ ∀ q ∈ L, free q.base) ∨ ∃ q, o = .threw q ∧ vx_T XC st q t mc ms free
/-- a callee that returns or throws -/
def vx_Met (l : Launch) (y : MethodName) (ws : List Cond) (rm : Room) (Pc : Array Value → State → Prop) (Qc : Array Value → State → Outcome → State → Prop) (XC : String → State → State → Prop) (mc ms : Nat) (free : Addr → Prop) : Prop :=
  MetFree l y (headSpec ws rm) Pc (fun _ _ _ _ _ => True) (vx_Q Qc XC mc ms free)
def vx_Post (XC : String → State → State → Prop) (mc ms : Nat) (free : Addr → Prop) : Pt → Array Value → Addr → Pt → Prop := fun A a q B =>
  ∃ (g : JFrame) (mk : MethodId) (t : State) (L : List Loc) (E : String) (ce : Cell), B.U.heap = t.heap ∧ B.U.vm = t.vm ∧ XC E (A.U.calling g mk a) t ∧ t.heap[q]? = some ce ∧ ce.vm = .none ∧ A.U.vm.findClass E = some ce.cls ∧ B.locs = A.locs ++ L ∧ (∀ z ∈ L, free z.base) ∧ B.cells = A.cells + mc ∧ B.slots = A.slots + ms
def vx_Back (l : Launch) (R : Room) (p : Program) (e : Env) (below : List Frame) (s : State) (sargs : Array Value) (y : MethodName) (len W9 : Nat)
    (Pre : Pt → Array Value → Prop) (Post : Pt → Array Value → Option Value → Pt → Prop) (PostX : Pt → Array Value → Addr → Pt → Prop) : Prop :=
  ∀ (m : MethodId) (meth : Method) (c : Code) (A : Pt) (g : JFrame) (ig : Instr) (mk : MethodId) (a : Array Value),
    Stand p l e R s m sargs below meth c A.U A.locs A.cells A.slots → g.method = m → g.locals.size = c.maxLocals → decode c.code g.pc = .ok (ig, len) →
    2 * g.monitorRoom + (g.stack.map fun v => v.category).sum ≤ W9 → A.U.methodNamed? y = some mk → Pre A a →
    (∃ (v : Option Value) (B : Pt), Stand p l e R s m sargs below meth c B.U B.locs B.cells B.slots ∧ Post A a v B ∧
      Steps p.tables e below (doInvoke e (A.U.setTop g) [] mk a).1 (B.U.setTop { g with pc := g.pc + len, stack := v.toList ++ g.stack })) ∨
    (∃ (q : Addr) (B : Pt), Stand p l e R s m sargs below meth c B.U B.locs B.cells B.slots ∧ PostX A a q B ∧
      Steps p.tables e below (doInvoke e (A.U.setTop g) [] mk a).1 ((B.U.setTop g).pushFrame (.throwing q)))
section Payer
variable {l : Launch} {R : Room} {p : Program} {e : Env} {below : List Frame} {s : State} {sargs : Array Value} {y : MethodName} {len W9 : Nat}
theorem vx_back {ws : List Cond} {rm : Room} {Pc : Array Value → State → Prop} {Qc : Array Value → State → Outcome → State → Prop} {XC : String → State → State → Prop} {mc ms : Nat} {free : Addr → Prop} {bytes : ByteArray} {maxL : Nat} {ret : Option FieldType}
    (hM : vx_Met l y ws rm Pc Qc XC mc ms free) (hblind : FrameBlind Pc) (hrc : rm.cells = mc) (hrs : rm.slots = ms)
    (hframes : rm.frames + 1 ≤ R.frames) (hlocals : W9 + (maxL + 11) + rm.locals ≤ R.locals)
    (hws : ∀ w ∈ ws, ∀ a' U, s.WarmedH U.vm → w.before a' U = true) (hcode : Cond.code y bytes maxL ret ∈ ws) (hinit : ∀ a' U, s.WarmedH U.vm → (Cond.initialized y.cls).before a' U = true) :
    vx_Back l R p e below s sargs y len W9 (PreOf R mc ms Pc) (PostOf Qc mc ms free) (vx_Post XC mc ms free) := by
  intro m meth c A g ig mk a X hg hsize hdg hW hn hp
  have h1 : (headSpec ws rm).pre.before a A.U = true := atoms_intro fun w hw => hws w hw _ _ X.warmed
  have h2 : (Cond.code y bytes maxL ret).before a A.U = true := hws _ hcode _ _ X.warmed
  have h3 : (Cond.initialized y.cls).before a A.U = true := hinit _ _ X.warmed
  have h4 : A.cells + (headSpec ws rm).room.cells ≤ R.cells := by rw [show (headSpec ws rm).room.cells = mc from hrc]; exact hp.1
  have h5 : A.slots + (headSpec ws rm).room.slots ≤ R.slots := by rw [show (headSpec ws rm).room.slots = ms from hrs]; exact hp.2.1
  have hPc : Pc a (A.U.calling g mk a) := hblind _ _ _ _ hp.2.2
  obtain ⟨U, Ls, c0, s0⟩ := A
  dsimp only [Pt.U, Pt.locs, Pt.cells, Pt.slots] at h1 h2 h3 h4 h5 X hn hPc ⊢
  obtain ⟨methY, cY, hmY, hcY, -, hlY, -, -, -, -⟩ := Cond.code_spec hn h2
  obtain ⟨kY, hkY, -⟩ := className_of_methodNamed hn
  have hinitY : kY.init = .initialized := Cond.initialized_spec (findClass_of_methodNamed hn) hkY h3
  have h : At U g.method c below := by rw [hg]; exact X.here
  have hlocals9 : W9 + (maxL + 11) + (headSpec ws rm).room.locals ≤ R.locals := hlocals
  have happ : (headSpec ws rm).appliesLoose y e.platform (U.calling g mk a) = true :=
    Spec.appliesLoose_calling (g := g) h hdg hn hkY hinitY
      (X.room_calling (g := g) (R' := (headSpec ws rm).room) hsize hmY hcY hframes (by rw [hlY]; omega) h4 h5) h1
  obtain ⟨mid, hmid⟩ := h.above
  have hfr : (U.setTop g).frames = (.java g :: mid) ++ below := by rw [State.frames_setTop' g h.top, hmid]; rfl
  obtain ⟨o, s₂, hsteps, -, hend, hq⟩ := Steps.callFree hM p X.admits X.cas X.clock (acts := []) hfr happ hPc trivial
  have hq' : vx_Q Qc XC mc ms free a (U.calling g mk a) o s₂ := hq
  rw [State.frames_setTop' g h.top] at hend
  obtain ⟨g₀, hg0⟩ := Option.isSome_iff_exists.mp h.top
  obtain ⟨r, hr⟩ := State.topJava?_eq_some.mp hg0
  have hr' : (({ U with heap := s₂.heap, slotsUsed := s₂.slotsUsed } : State).setVm s₂.vm).frames = .java g₀ :: r := hr
  rcases hq' with ⟨hqc, L, hfe, hL⟩ | ⟨q, rfl, E, ce, L, hx, hce, hcv, hcl, hW₂, hsm, hL⟩
  · obtain ⟨⟨v, rfl⟩, hW₂, e2, q2, q3, q4, q5, q6⟩ := id hfe
    have e3 : s₂ = ({ (U.calling g mk a).setFrames s₂.frames with heap := s₂.heap, slotsUsed := s₂.slotsUsed } : State).setVm s₂.vm := by
      have : s₂ = ({ s₂ with vm := (U.calling g mk a).vm } : State).setVm s₂.vm := rfl
      rw [e2] at this
      exact this
    obtain ⟨c₂, i₂, len₂, hc₂, hd₂, hf₂⟩ := hend
    have hW' : U.WarmedH s₂.vm := hW₂
    have hcc : c₂ = c := by
      have h1 : s₂.code? g.method = U.code? g.method := by
        rw [State.code?_eq, State.code?_eq, hW'.alike.method?]
      exact Option.some.inj (hc₂.symm.trans (h1.trans h.code))
    subst hcc
    have hlen : len₂ = len := by rw [hdg] at hd₂; cases hd₂; rfl
    subst hlen
    have hs₂ : s₂ = (({ U with heap := s₂.heap, slotsUsed := s₂.slotsUsed } : State).setVm s₂.vm).setTop { g with pc := g.pc + len₂, stack := v.toList ++ g.stack } := by
      refine e3.trans ?_
      rw [hf₂, State.calling_eq h.top, State.setFrames_setFrames, State.setTop_of_frames _ hr', hr]
      rfl
    have hsame : U.sameButNew ({ U with heap := s₂.heap, slotsUsed := s₂.slotsUsed } : State) L mc ms := by
      refine ⟨?_, q2, q3, q4, q5, q6⟩
      obtain ⟨t, ht, -⟩ := State.frames_cons hr
      show ({ U with heap := s₂.heap, slotsUsed := s₂.slotsUsed } : State) = { U.setFrames U.frames with heap := s₂.heap, slotsUsed := s₂.slotsUsed }
      rw [State.setFrames_self ht]
    subst hg
    refine Or.inl ⟨v, ⟨(({ U with heap := s₂.heap, slotsUsed := s₂.slotsUsed } : State).setVm s₂.vm), Ls ++ L, c0 + mc, s0 + ms⟩,
      ⟨X.admits, X.cas, X.clock, X.frames, X.room, X.hears, X.method, X.code, (X.here.setHeapUsed s₂.heap s₂.slotsUsed).setVm hW'.alike, X.tail, State.WarmedH.trans X.warmed hW', X.limits, X.bytes, X.same.trans (hsame.setVm s.vm)⟩,
      ⟨g, mk, s₂, L, rfl, rfl, hqc, rfl, hL, rfl, rfl⟩, ?_⟩
    show Steps p.tables e below _ ((({ U with heap := s₂.heap, slotsUsed := s₂.slotsUsed } : State).setVm s₂.vm).setTop { g with pc := g.pc + len₂, stack := v.toList ++ g.stack })
    rw [← hs₂]
    exact hsteps
  · obtain ⟨e2, q2, q3, q4, q5, q6⟩ := id hsm
    have e3 : s₂ = ({ (U.calling g mk a).setFrames s₂.frames with heap := s₂.heap, slotsUsed := s₂.slotsUsed } : State).setVm s₂.vm := by
      have : s₂ = ({ s₂ with vm := (U.calling g mk a).vm } : State).setVm s₂.vm := rfl
      rw [e2] at this
      exact this
    have hf₂ : s₂.frames = .throwing q :: .java g :: U.frames.tail := hend
    have hW' : U.WarmedH s₂.vm := hW₂
    have hs₂ : s₂ = ((({ U with heap := s₂.heap, slotsUsed := s₂.slotsUsed } : State).setVm s₂.vm).setTop g).pushFrame (.throwing q) := by
      refine e3.trans ?_
      rw [hf₂, State.calling_eq h.top, State.setFrames_setFrames, State.pushFrame, State.frames_setTop _ hr', State.setTop_of_frames _ hr', State.setFrames_setFrames, hr]
      rfl
    have hsame : U.sameButNew ({ U with heap := s₂.heap, slotsUsed := s₂.slotsUsed } : State) L mc ms := by
      refine ⟨?_, q2, q3, q4, q5, q6⟩
      obtain ⟨t, ht, -⟩ := State.frames_cons hr
      show ({ U with heap := s₂.heap, slotsUsed := s₂.slotsUsed } : State) = { U.setFrames U.frames with heap := s₂.heap, slotsUsed := s₂.slotsUsed }
      rw [State.setFrames_self ht]
    subst hg
    refine Or.inr ⟨q, ⟨(({ U with heap := s₂.heap, slotsUsed := s₂.slotsUsed } : State).setVm s₂.vm), Ls ++ L, c0 + mc, s0 + ms⟩,
      ⟨X.admits, X.cas, X.clock, X.frames, X.room, X.hears, X.method, X.code, (X.here.setHeapUsed s₂.heap s₂.slotsUsed).setVm hW'.alike, X.tail, State.WarmedH.trans X.warmed hW', X.limits, X.bytes, X.same.trans (hsame.setVm s.vm)⟩,
      ⟨g, mk, s₂, L, E, ce, rfl, rfl, hx, hce, hcv, hcl, rfl, hL, rfl, rfl⟩, ?_⟩
    show Steps p.tables e below _ (((({ U with heap := s₂.heap, slotsUsed := s₂.slotsUsed } : State).setVm s₂.vm).setTop g).pushFrame (.throwing q))
    rw [← hs₂]
    exact hsteps
end Payer
section Calls
variable {p : Program} {l : Launch} {e : Env} {R : Room} {s : State} {m : MethodId} {args : Array Value} {below : List Frame} {meth : Method} {c : Code} {T : State} {locs : List Loc} {cells slots : Nat}
theorem vx_callV (X : Stand p l e R s m args below meth c T locs cells slots) (hexec : p.tables.exec = Jvm.exec) {own C : String} {index : Nat} {y : MethodName} {bytes : ByteArray} {maxL : Nat} {ret : Option FieldType}
    (hown : s.vm.findClass own = some m.cls) (hlink : (Cond.methodLink own index y).before args s = true) (hinst : (Cond.instanceMethod y).before args s = true) (hsel : (Cond.selects C y y).before args s = true)
    (hcode : (Cond.code y bytes maxL ret).before args s = true) (hy : y.cls ≠ "java/lang/invoke/MethodHandle" ∧ y.cls ≠ "java/lang/invoke/VarHandle")
    {W9 : Nat} {Pre : Pt → Array Value → Prop} {Post : Pt → Array Value → Option Value → Pt → Prop} {PostX : Pt → Array Value → Addr → Pt → Prop} (hK : vx_Back l R p e below s args y 3 W9 Pre Post PostX)
    {b : Addr} {cellB : Cell} (hcell : T.heap[b]? = some cellB) (hobj : cellB.vm.isStatics = false) (hcls : s.vm.findClass C = some cellB.cls)
    {g : JFrame} (hg : g.method = m) (hsize : g.locals.size = c.maxLocals) {argsL rest : List Value} (hlen : ∀ sig, parseMethodDescriptor y.desc = some sig → argsL.length = sig.parameters.length)
    (hstack : g.stack = argsL.reverse ++ .ref b :: rest) (hW : 2 * g.monitorRoom + (rest.map fun v => v.category).sum ≤ W9) (hdg : decode c.code g.pc = .ok (.invokevirtual index, 3))
    (hpre : ∀ vm₁, s.WarmedH vm₁ → Pre ⟨T.setVm vm₁, locs, cells, slots⟩ (Value.ref b :: argsL).toArray) :
    (∃ (v : Option Value) (vm₁ : Vm) (B : Pt), s.WarmedH vm₁ ∧ Stand p l e R s m args below meth c B.U B.locs B.cells B.slots ∧ Post ⟨T.setVm vm₁, locs, cells, slots⟩ (Value.ref b :: argsL).toArray v B ∧
      ∀ target, Steps p.tables e below (B.U.setTop { g with pc := g.pc + 3, stack := v.toList ++ rest }) target → Steps p.tables e below (T.setTop g) target) ∨
    (∃ (q : Addr) (vm₁ : Vm) (B : Pt), s.WarmedH vm₁ ∧ Stand p l e R s m args below meth c B.U B.locs B.cells B.slots ∧ PostX ⟨T.setVm vm₁, locs, cells, slots⟩ (Value.ref b :: argsL).toArray q B ∧
      Steps p.tables e below (T.setTop g) ((B.U.setTop { g with stack := rest }).pushFrame (.throwing q))) := by
  obtain ⟨mk, methM, hnamed, hmethM, hstM, habM⟩ := Cond.instanceMethod_spec hinst
  obtain ⟨methM', cM, hmethM', -, -, -, -, -, -, hsigM⟩ := Cond.code_spec hnamed hcode
  cases hmethM.symm.trans hmethM'
  obtain ⟨c2, r2, m2, q1, q2, q3, q4, kP, hkP, hkPi⟩ := Cond.selects_spec hsel
  cases hcls.symm.trans q1
  cases (State.methodFound?_of_named hnamed hy).symm.trans q2
  cases hnamed.symm.trans q3
  have hselP : selectMethod e.platform s.vm cellB.cls mk = .method mk := by rw [Launch.admits_selectMethod X.admits]; exact q4
  obtain ⟨vm₁, X₁, hstep₁⟩ := X.invokevirtual hexec hown hlink hnamed hmethM hstM hkP hkPi hy (a := b) (cell := cellB) hcell
    (fun z h => by rw [h] at hobj; cases hobj) hselP hmethM habM hkP hkPi (g := g) hg (argsL := argsL) (rest := rest) (hlen _ hsigM) hstack hdg
  rcases hK m meth c ⟨T.setVm vm₁, locs, cells, slots⟩ { g with stack := rest } (.invokevirtual index) mk (Value.ref b :: argsL).toArray X₁ hg hsize hdg hW (X₁.named hnamed) (hpre vm₁ X₁.warmed) with ⟨v, B, X', hpost, hsteps⟩ | ⟨q, B, X', hpost, hsteps⟩
  · exact Or.inl ⟨v, vm₁, B, X₁.warmed, X', hpost, fun target h => hstep₁ _ fun acts => by rw [doInvoke_state]; exact hsteps.trans h⟩
  · exact Or.inr ⟨q, vm₁, B, X₁.warmed, X', hpost, hstep₁ _ fun acts => by rw [doInvoke_state]; exact hsteps⟩
theorem vx_callS (X : Stand p l e R s m args below meth c T locs cells slots) (hexec : p.tables.exec = Jvm.exec) {own : String} {index : Nat} {y : MethodName} {bytes : ByteArray} {maxL : Nat} {ret : Option FieldType}
    (hown : s.vm.findClass own = some m.cls) (hlink : (Cond.methodLink own index y).before args s = true) (hstat : (Cond.static y).before args s = true) (hinit : (Cond.initialized y.cls).before args s = true)
    (hcode : (Cond.code y bytes maxL ret).before args s = true) (hy : y.cls ≠ "java/lang/invoke/MethodHandle" ∧ y.cls ≠ "java/lang/invoke/VarHandle")
    {W9 : Nat} {Pre : Pt → Array Value → Prop} {Post : Pt → Array Value → Option Value → Pt → Prop} {PostX : Pt → Array Value → Addr → Pt → Prop} (hK : vx_Back l R p e below s args y 3 W9 Pre Post PostX)
    {g : JFrame} (hg : g.method = m) (hsize : g.locals.size = c.maxLocals) {argsL rest : List Value} (hlen : ∀ sig, parseMethodDescriptor y.desc = some sig → argsL.length = sig.parameters.length)
    (hstack : g.stack = argsL.reverse ++ rest) (hW : 2 * g.monitorRoom + (rest.map fun v => v.category).sum ≤ W9) (hdg : decode c.code g.pc = .ok (.invokestatic index, 3))
    (hpre : ∀ vm₁, s.WarmedH vm₁ → Pre ⟨T.setVm vm₁, locs, cells, slots⟩ argsL.toArray) :
    (∃ (v : Option Value) (vm₁ : Vm) (B : Pt), s.WarmedH vm₁ ∧ Stand p l e R s m args below meth c B.U B.locs B.cells B.slots ∧ Post ⟨T.setVm vm₁, locs, cells, slots⟩ argsL.toArray v B ∧
      ∀ target, Steps p.tables e below (B.U.setTop { g with pc := g.pc + 3, stack := v.toList ++ rest }) target → Steps p.tables e below (T.setTop g) target) ∨
    (∃ (q : Addr) (vm₁ : Vm) (B : Pt), s.WarmedH vm₁ ∧ Stand p l e R s m args below meth c B.U B.locs B.cells B.slots ∧ PostX ⟨T.setVm vm₁, locs, cells, slots⟩ argsL.toArray q B ∧
      Steps p.tables e below (T.setTop g) ((B.U.setTop { g with stack := rest }).pushFrame (.throwing q))) := by
  obtain ⟨mk, hnamed⟩ := Cond.code_named hcode
  obtain ⟨methM, cM, hmethM, -, -, -, -, -, -, hsigM⟩ := Cond.code_spec hnamed hcode
  have hstatic : methM.isStatic = true := Cond.static_spec hnamed hmethM hstat
  obtain ⟨kP, hkP, -⟩ := className_of_methodNamed hnamed
  have hinitP : kP.init = .initialized := Cond.initialized_spec (findClass_of_methodNamed hnamed) hkP hinit
  obtain ⟨vm₁, X₁, hstep₁⟩ := X.invokestatic hexec hown hlink hnamed hmethM hstatic hkP hinitP hy (g := g) hg (argsL := argsL) (rest := rest) (hlen _ hsigM) hstack hdg
  rcases hK m meth c ⟨T.setVm vm₁, locs, cells, slots⟩ { g with stack := rest } (.invokestatic index) mk argsL.toArray X₁ hg hsize hdg hW (X₁.named hnamed) (hpre vm₁ X₁.warmed) with ⟨v, B, X', hpost, hsteps⟩ | ⟨q, B, X', hpost, hsteps⟩
  · exact Or.inl ⟨v, vm₁, B, X₁.warmed, X', hpost, fun target h => hstep₁ _ fun acts => by rw [doInvoke_state]; exact hsteps.trans h⟩
  · exact Or.inr ⟨q, vm₁, B, X₁.warmed, X', hpost, hstep₁ _ fun acts => by rw [doInvoke_state]; exact hsteps⟩
end Calls
theorem vx_cls {s : State} {T : State} {vm₁ : Vm} {E : String} {k : ClassId} (hW : s.WarmedH vm₁) (h : (T.setVm vm₁).vm.findClass E = some k) : s.vm.findClass E = some k := by
  have h1 : vm₁.findClass E = some k := h
  rw [hW.alike.findClass] at h1
  exact h1
/-- the method's frame g, with q thrown over it -/
def vx_W (p : Program) (l : Launch) (e : Env) (R : Room) (s : State) (m : MethodId) (args : Array Value) (below : List Frame) (meth : Method) (c : Code) (H : Heap) (locs : List Loc) (cells slots : Nat) (Q : State → Prop) (g : JFrame) (q : Addr) : Prop :=
  ∀ T : State, T.heap = H → Stand p l e R s m args below meth c T locs cells slots → ∃ t, Steps p.tables e below ((T.setTop g).pushFrame (.throwing q)) t ∧ Q t
def vx_Run (p : Program) (l : Launch) (e : Env) (R : Room) (s : State) (m : MethodId) (args : Array Value) (below : List Frame) (meth : Method) (c : Code) (H : Heap) (locs : List Loc) (cells slots mc ms : Nat) (g : JFrame) (rest : List Value) (Qa : State → Outcome → State → Prop) (XC : String → State → State → Prop) (free : Addr → Prop) : Prop :=
  ∀ T : State, T.heap = H → Stand p l e R s m args below meth c T locs cells slots →
    (∃ (v : Option Value) (st₀ t T' : State) (L : List Loc), st₀.heap = H ∧ Stand p l e R s m args below meth c T' (locs ++ L) (cells + mc) (slots + ms) ∧ (∀ q ∈ L, free q.base) ∧ T'.heap = t.heap ∧ T'.vm = t.vm ∧ Qa st₀ (.returned v) t ∧
      Goes p e below T g T' { g with pc := g.pc + 3, stack := v.toList ++ rest }) ∨
    (∃ (q : Addr) (st₀ t T' : State) (L : List Loc) (E : String) (ce : Cell), st₀.heap = H ∧ Stand p l e R s m args below meth c T' (locs ++ L) (cells + mc) (slots + ms) ∧ (∀ z ∈ L, free z.base) ∧ T'.heap = t.heap ∧ T'.vm = t.vm ∧ XC E st₀ t ∧ t.heap[q]? = some ce ∧ ce.vm = .none ∧ s.vm.findClass E = some ce.cls ∧
      Steps p.tables e below (T.setTop g) ((T'.setTop { g with stack := rest }).pushFrame (.throwing q)))
def vx_X {S : Type} (px : S → Prop) (B : String → S → State → Prop) (A : Nat → Prop) : String → State → State → Prop := fun E st t => ∃ u : S, px u ∧ B E u t ∧ va_F A st t
section Runs
variable {p : Program} {l : Launch} {e : Env} {R : Room} {s : State} {m : MethodId} {args : Array Value} {below : List Frame} {meth : Method} {c : Code} {H : Heap} {locs : List Loc} {cells slots : Nat}
variable {y : MethodName} {bytes cc : ByteArray} {maxL nL mc ms n index : Nat} {ret : Option FieldType} {ws : List Cond} {rm : Room} {Pc : Array Value → State → Prop} {Qc : Array Value → State → Outcome → State → Prop} {XC : String → State → State → Prop} {free : Addr → Prop} {Ts : List Cond} {own C : String} {b : Addr} {As rest : List Value} {g : JFrame}
theorem vx_callBack (cb : CallB R s args own index y bytes maxL ret ws rm mc ms n) (hM : vx_Met l y ws rm Pc Qc XC mc ms free) (hbl : FrameBlind Pc) : vx_Back l R p e below s args y 3 8 (PreOf R mc ms Pc) (PostOf Qc mc ms free) (vx_Post XC mc ms free) := by
  obtain ⟨hrc, hrs, hfr, hlo, hws, hcw, -, hini, -⟩ := cb
  exact vx_back (bytes := bytes) (maxL := maxL) (ret := ret) hM hbl hrc hrs hfr hlo hws hcw (fun a' U hW => word_at hW (Or.inl (by first | rfl | simp [Cond.onTables, Cond.keeps, Cond.steady])) hini)
theorem vx_runV (S : CallFix p m c cc nL s args Ts own) (hM : vx_Met l y ws rm Pc Qc XC mc ms free) (cw : CallW R s args own C index y bytes maxL ret ws rm mc ms n) (hp : PreV s H C b Pc As)
    (hg : g.method = m) (hn : As.length = n) (hsize : g.locals.size = nL) (hstack : g.stack = As.reverse ++ .ref b :: rest) (hW : 2 * g.monitorRoom + (rest.map fun v => v.category).sum ≤ 8) (hdg : decode cc g.pc = .ok (.invokevirtual index, 3)) (hf : cells + mc ≤ R.cells ∧ slots + ms ≤ R.slots) :
    vx_Run p l e R s m args below meth c H locs cells slots mc ms g rest (Qc (Value.ref b :: As).toArray) XC free := by
  have hK : vx_Back l R p e below s args y 3 8 (PreOf R mc ms Pc) (PostOf Qc mc ms free) (vx_Post XC mc ms free) := vx_callBack cw.1 hM hp.1
  obtain ⟨⟨-, -, -, -, -, -, hcode, -, hy, hlen, hl⟩, hin, hse⟩ := cw
  obtain ⟨hx, hb, hml, ho, -⟩ := S
  obtain ⟨-, ⟨cellB, hcB, hoB, hclB⟩, hPc⟩ := hp
  intro T hT X
  rcases vx_callV X hx (C := C) (bytes := bytes) (maxL := maxL) (ret := ret) ho hl hin hse hcode hy hK (by rw [hT]; exact hcB) hoB hclB hg (hsize.trans hml.symm) (argsL := As) (rest := rest) (fun sig h => hn.trans (hlen sig h)) hstack hW (by rw [hb]; exact hdg)
    (fun vm₁ hW₁ => ⟨hf.1, hf.2, hPc (T.setVm vm₁) hT hW₁⟩) with ⟨v, vm₁, ⟨U', l2, c2, s2⟩, hW₁, X', ⟨g', mk, t, L, e1, e2, hq, h1, hL, h2, h3⟩, st⟩ | ⟨q, vm₁, ⟨U', l2, c2, s2⟩, hW₁, X', ⟨g', mk, t, L, E, ce, e1, e2, hq, hce, hcv, hcl, h1, hL, h2, h3⟩, st⟩
  · dsimp only [Pt.U, Pt.locs, Pt.cells, Pt.slots] at X' e1 e2 h1 h2 h3 st
    subst h1; subst h2; subst h3
    exact Or.inl ⟨v, (T.setVm vm₁).calling g' mk (Value.ref b :: As).toArray, t, U', L, hT, X', hL, e1, e2, hq, st⟩
  · dsimp only [Pt.U, Pt.locs, Pt.cells, Pt.slots] at X' e1 e2 h1 h2 h3 st hcl
    subst h1; subst h2; subst h3
    exact Or.inr ⟨q, (T.setVm vm₁).calling g' mk (Value.ref b :: As).toArray, t, U', L, E, ce, hT, X', hL, e1, e2, hq, hce, hcv, vx_cls hW₁ hcl, st⟩
theorem vx_runS (S : CallFix p m c cc nL s args Ts own) (hM : vx_Met l y ws rm Pc Qc XC mc ms free) (cw : CallB R s args own index y bytes maxL ret ws rm mc ms n ∧ (Cond.static y).before args s = true) (hp : PreS s H Pc As)
    (hg : g.method = m) (hn : As.length = n) (hsize : g.locals.size = nL) (hstack : g.stack = As.reverse ++ rest) (hW : 2 * g.monitorRoom + (rest.map fun v => v.category).sum ≤ 8) (hdg : decode cc g.pc = .ok (.invokestatic index, 3)) (hf : cells + mc ≤ R.cells ∧ slots + ms ≤ R.slots) :
    vx_Run p l e R s m args below meth c H locs cells slots mc ms g rest (Qc As.toArray) XC free := by
  have hK : vx_Back l R p e below s args y 3 8 (PreOf R mc ms Pc) (PostOf Qc mc ms free) (vx_Post XC mc ms free) := vx_callBack cw.1 hM hp.1
  obtain ⟨⟨-, -, -, -, -, -, hcode, hini, hy, hlen, hl⟩, hstt⟩ := cw
  obtain ⟨hx, hb, hml, ho, -⟩ := S
  intro T hT X
  rcases vx_callS X hx (bytes := bytes) (maxL := maxL) (ret := ret) ho hl hstt hini hcode hy hK hg (hsize.trans hml.symm) (argsL := As) (rest := rest) (fun sig h => hn.trans (hlen sig h)) hstack hW (by rw [hb]; exact hdg)
    (fun vm₁ hW₁ => ⟨hf.1, hf.2, hp.2 (T.setVm vm₁) hT hW₁⟩) with ⟨v, vm₁, ⟨U', l2, c2, s2⟩, hW₁, X', ⟨g', mk, t, L, e1, e2, hq, h1, hL, h2, h3⟩, st⟩ | ⟨q, vm₁, ⟨U', l2, c2, s2⟩, hW₁, X', ⟨g', mk, t, L, E, ce, e1, e2, hq, hce, hcv, hcl, h1, hL, h2, h3⟩, st⟩
  · dsimp only [Pt.U, Pt.locs, Pt.cells, Pt.slots] at X' e1 e2 h1 h2 h3 st
    subst h1; subst h2; subst h3
    exact Or.inl ⟨v, (T.setVm vm₁).calling g' mk As.toArray, t, U', L, hT, X', hL, e1, e2, hq, st⟩
  · dsimp only [Pt.U, Pt.locs, Pt.cells, Pt.slots] at X' e1 e2 h1 h2 h3 st hcl
    subst h1; subst h2; subst h3
    exact Or.inr ⟨q, (T.setVm vm₁).calling g' mk As.toArray, t, U', L, E, ce, hT, X', hL, e1, e2, hq, hce, hcv, vx_cls hW₁ hcl, st⟩
end Runs
section Rows
variable {p : Program} {l : Launch} {e : Env} {R : Room} {s : State} {m : MethodId} {args : Array Value} {below : List Frame} {meth : Method} {c : Code} {H : Heap} {locs : List Loc} {cells slots : Nat} {Q : State → Prop}
variable {mc ms : Nat} {free : Addr → Prop} {A0 A1 : Nat → Prop} {H0 : Heap} {a : Array Value} {pc : Nat} {ls : Array Slot} {st0 rest : List Value}
theorem vx_keep {st₀ t T' : State} {L : List Loc} (h0 : st₀.heap = H) (e1 : T'.heap = t.heap) (hS : va_S A0 H0 H locs) (hA : ∀ q, q < H.size → A1 q → A0 q) (hf : ∀ q, free q → A0 q) (hL : ∀ q ∈ L, free q.base) (hF : va_F A1 st₀ t) :
    H.size ≤ T'.heap.size ∧ (∀ q : Nat, q < H.size → ¬ A1 q → T'.heap[q]? = H[q]?) ∧ va_S A0 H0 T'.heap (locs ++ L) := by
  obtain ⟨hz, hk⟩ := hF
  rw [h0] at hz hk
  exact ⟨by rw [e1]; exact hz, fun q h1 h2 => by rw [e1]; exact hk q h1 h2,
    ⟨Nat.le_trans hS.1 (by rw [e1]; exact hz), fun q h1 h2 => by rw [e1, hk q (Nat.lt_of_lt_of_le h1 hS.1) (fun z => h2 (hA q (Nat.lt_of_lt_of_le h1 hS.1) z))]; exact hS.2.1 q h1 h2, fun q hq => by
      rcases List.mem_append.mp hq with h | h
      · exact hS.2.2 q h
      · exact hf _ (hL q h)⟩⟩
theorem vx_calli {S SX : Type} {post : Int32 → S → Prop} {px : SX → Prop} {B : S → State → Prop} {BX : String → SX → State → Prop} {AX : Nat → Prop} (hr : vx_Run p l e R s m args below meth c H locs cells slots mc ms (F0 m pc ls st0) rest (va_Qi post B A1 a) (vx_X px BX AX) free) (hS : va_S A0 H0 H locs) (hA : ∀ q, q < H.size → A1 q → A0 q) (hf : ∀ q, free q → A0 q) (hAX : ∀ q, q < H.size → AX q → A0 q)
    (kx : ∀ (E : String) (ce : Cell) (q9 : Addr) (u : SX) (t : State) (H1 : Heap) (locs1 : List Loc), t.heap = H1 → s.vm.Alike t.vm → px u → BX E u t → H.size ≤ H1.size → (∀ q : Nat, q < H.size → ¬ AX q → H1[q]? = H[q]?) → va_S A0 H0 H1 locs1 → H1[q9]? = some ce → ce.vm = .none → s.vm.findClass E = some ce.cls → vx_W p l e R s m args below meth c H1 locs1 (cells + mc) (slots + ms) Q (F0 m pc ls rest) q9)
    (kk : ∀ (r : Int32) (u : S) (t : State) (H1 : Heap) (locs1 : List Loc), t.heap = H1 → s.vm.Alike t.vm → post r u → B u t → H.size ≤ H1.size → (∀ q : Nat, q < H.size → ¬ A1 q → H1[q]? = H[q]?) → va_S A0 H0 H1 locs1 → W p l e R s m args below meth c H1 locs1 (cells + mc) (slots + ms) Q (F0 m (pc + 3) ls (.int r :: rest))) : W p l e R s m args below meth c H locs cells slots Q (F0 m pc ls st0) := by
  intro T hT X
  rcases hr T hT X with ⟨v, st₀, t, T', L, h0, X', hL, e1, e2, ⟨⟨r, u, hv, hp, hb⟩, hF⟩, st⟩ | ⟨q, st₀, t, T', L, E, ce, h0, X', hL, e1, e2, ⟨u, hp, hb, hF⟩, hce, hcv, hcl, st⟩
  · cases hv
    obtain ⟨k1, k2, k3⟩ := vx_keep h0 e1 hS hA hf hL hF
    obtain ⟨t2, a1, b1⟩ := kk r u t T'.heap (locs ++ L) e1.symm (by rw [← e2]; exact X'.warmed.alike) hp hb k1 k2 k3 T' rfl X'
    exact ⟨t2, st t2 a1, b1⟩
  · obtain ⟨k1, k2, k3⟩ := vx_keep h0 e1 hS hAX hf hL hF
    obtain ⟨t2, a1, b1⟩ := kx E ce q u t T'.heap (locs ++ L) e1.symm (by rw [← e2]; exact X'.warmed.alike) hp hb k1 k2 k3 (by rw [e1]; exact hce) hcv hcl T' rfl X'
    exact ⟨t2, st.trans a1, b1⟩
theorem vx_calll {S SX : Type} {post : Int64 → S → Prop} {px : SX → Prop} {B : S → State → Prop} {BX : String → SX → State → Prop} {AX : Nat → Prop} (hr : vx_Run p l e R s m args below meth c H locs cells slots mc ms (F0 m pc ls st0) rest (va_Ql post B A1 a) (vx_X px BX AX) free) (hS : va_S A0 H0 H locs) (hA : ∀ q, q < H.size → A1 q → A0 q) (hf : ∀ q, free q → A0 q) (hAX : ∀ q, q < H.size → AX q → A0 q)
    (kx : ∀ (E : String) (ce : Cell) (q9 : Addr) (u : SX) (t : State) (H1 : Heap) (locs1 : List Loc), t.heap = H1 → s.vm.Alike t.vm → px u → BX E u t → H.size ≤ H1.size → (∀ q : Nat, q < H.size → ¬ AX q → H1[q]? = H[q]?) → va_S A0 H0 H1 locs1 → H1[q9]? = some ce → ce.vm = .none → s.vm.findClass E = some ce.cls → vx_W p l e R s m args below meth c H1 locs1 (cells + mc) (slots + ms) Q (F0 m pc ls rest) q9)
    (kk : ∀ (r : Int64) (u : S) (t : State) (H1 : Heap) (locs1 : List Loc), t.heap = H1 → s.vm.Alike t.vm → post r u → B u t → H.size ≤ H1.size → (∀ q : Nat, q < H.size → ¬ A1 q → H1[q]? = H[q]?) → va_S A0 H0 H1 locs1 → W p l e R s m args below meth c H1 locs1 (cells + mc) (slots + ms) Q (F0 m (pc + 3) ls (.long r :: rest))) : W p l e R s m args below meth c H locs cells slots Q (F0 m pc ls st0) := by
  intro T hT X
  rcases hr T hT X with ⟨v, st₀, t, T', L, h0, X', hL, e1, e2, ⟨⟨r, u, hv, hp, hb⟩, hF⟩, st⟩ | ⟨q, st₀, t, T', L, E, ce, h0, X', hL, e1, e2, ⟨u, hp, hb, hF⟩, hce, hcv, hcl, st⟩
  · cases hv
    obtain ⟨k1, k2, k3⟩ := vx_keep h0 e1 hS hA hf hL hF
    obtain ⟨t2, a1, b1⟩ := kk r u t T'.heap (locs ++ L) e1.symm (by rw [← e2]; exact X'.warmed.alike) hp hb k1 k2 k3 T' rfl X'
    exact ⟨t2, st t2 a1, b1⟩
  · obtain ⟨k1, k2, k3⟩ := vx_keep h0 e1 hS hAX hf hL hF
    obtain ⟨t2, a1, b1⟩ := kx E ce q u t T'.heap (locs ++ L) e1.symm (by rw [← e2]; exact X'.warmed.alike) hp hb k1 k2 k3 (by rw [e1]; exact hce) hcv hcl T' rfl X'
    exact ⟨t2, st.trans a1, b1⟩
theorem vx_callf {S SX : Type} {post : UInt32 → S → Prop} {px : SX → Prop} {B : S → State → Prop} {BX : String → SX → State → Prop} {AX : Nat → Prop} (hr : vx_Run p l e R s m args below meth c H locs cells slots mc ms (F0 m pc ls st0) rest (va_Qf post B A1 a) (vx_X px BX AX) free) (hS : va_S A0 H0 H locs) (hA : ∀ q, q < H.size → A1 q → A0 q) (hf : ∀ q, free q → A0 q) (hAX : ∀ q, q < H.size → AX q → A0 q)
    (kx : ∀ (E : String) (ce : Cell) (q9 : Addr) (u : SX) (t : State) (H1 : Heap) (locs1 : List Loc), t.heap = H1 → s.vm.Alike t.vm → px u → BX E u t → H.size ≤ H1.size → (∀ q : Nat, q < H.size → ¬ AX q → H1[q]? = H[q]?) → va_S A0 H0 H1 locs1 → H1[q9]? = some ce → ce.vm = .none → s.vm.findClass E = some ce.cls → vx_W p l e R s m args below meth c H1 locs1 (cells + mc) (slots + ms) Q (F0 m pc ls rest) q9)
    (kk : ∀ (r : UInt32) (u : S) (t : State) (H1 : Heap) (locs1 : List Loc), t.heap = H1 → s.vm.Alike t.vm → post r u → B u t → H.size ≤ H1.size → (∀ q : Nat, q < H.size → ¬ A1 q → H1[q]? = H[q]?) → va_S A0 H0 H1 locs1 → W p l e R s m args below meth c H1 locs1 (cells + mc) (slots + ms) Q (F0 m (pc + 3) ls (.float r :: rest))) : W p l e R s m args below meth c H locs cells slots Q (F0 m pc ls st0) := by
  intro T hT X
  rcases hr T hT X with ⟨v, st₀, t, T', L, h0, X', hL, e1, e2, ⟨⟨r, u, hv, hp, hb⟩, hF⟩, st⟩ | ⟨q, st₀, t, T', L, E, ce, h0, X', hL, e1, e2, ⟨u, hp, hb, hF⟩, hce, hcv, hcl, st⟩
  · cases hv
    obtain ⟨k1, k2, k3⟩ := vx_keep h0 e1 hS hA hf hL hF
    obtain ⟨t2, a1, b1⟩ := kk r u t T'.heap (locs ++ L) e1.symm (by rw [← e2]; exact X'.warmed.alike) hp hb k1 k2 k3 T' rfl X'
    exact ⟨t2, st t2 a1, b1⟩
  · obtain ⟨k1, k2, k3⟩ := vx_keep h0 e1 hS hAX hf hL hF
    obtain ⟨t2, a1, b1⟩ := kx E ce q u t T'.heap (locs ++ L) e1.symm (by rw [← e2]; exact X'.warmed.alike) hp hb k1 k2 k3 (by rw [e1]; exact hce) hcv hcl T' rfl X'
    exact ⟨t2, st.trans a1, b1⟩
theorem vx_calld {S SX : Type} {post : UInt64 → S → Prop} {px : SX → Prop} {B : S → State → Prop} {BX : String → SX → State → Prop} {AX : Nat → Prop} (hr : vx_Run p l e R s m args below meth c H locs cells slots mc ms (F0 m pc ls st0) rest (va_Qd post B A1 a) (vx_X px BX AX) free) (hS : va_S A0 H0 H locs) (hA : ∀ q, q < H.size → A1 q → A0 q) (hf : ∀ q, free q → A0 q) (hAX : ∀ q, q < H.size → AX q → A0 q)
    (kx : ∀ (E : String) (ce : Cell) (q9 : Addr) (u : SX) (t : State) (H1 : Heap) (locs1 : List Loc), t.heap = H1 → s.vm.Alike t.vm → px u → BX E u t → H.size ≤ H1.size → (∀ q : Nat, q < H.size → ¬ AX q → H1[q]? = H[q]?) → va_S A0 H0 H1 locs1 → H1[q9]? = some ce → ce.vm = .none → s.vm.findClass E = some ce.cls → vx_W p l e R s m args below meth c H1 locs1 (cells + mc) (slots + ms) Q (F0 m pc ls rest) q9)
    (kk : ∀ (r : UInt64) (u : S) (t : State) (H1 : Heap) (locs1 : List Loc), t.heap = H1 → s.vm.Alike t.vm → post r u → B u t → H.size ≤ H1.size → (∀ q : Nat, q < H.size → ¬ A1 q → H1[q]? = H[q]?) → va_S A0 H0 H1 locs1 → W p l e R s m args below meth c H1 locs1 (cells + mc) (slots + ms) Q (F0 m (pc + 3) ls (.double r :: rest))) : W p l e R s m args below meth c H locs cells slots Q (F0 m pc ls st0) := by
  intro T hT X
  rcases hr T hT X with ⟨v, st₀, t, T', L, h0, X', hL, e1, e2, ⟨⟨r, u, hv, hp, hb⟩, hF⟩, st⟩ | ⟨q, st₀, t, T', L, E, ce, h0, X', hL, e1, e2, ⟨u, hp, hb, hF⟩, hce, hcv, hcl, st⟩
  · cases hv
    obtain ⟨k1, k2, k3⟩ := vx_keep h0 e1 hS hA hf hL hF
    obtain ⟨t2, a1, b1⟩ := kk r u t T'.heap (locs ++ L) e1.symm (by rw [← e2]; exact X'.warmed.alike) hp hb k1 k2 k3 T' rfl X'
    exact ⟨t2, st t2 a1, b1⟩
  · obtain ⟨k1, k2, k3⟩ := vx_keep h0 e1 hS hAX hf hL hF
    obtain ⟨t2, a1, b1⟩ := kx E ce q u t T'.heap (locs ++ L) e1.symm (by rw [← e2]; exact X'.warmed.alike) hp hb k1 k2 k3 (by rw [e1]; exact hce) hcv hcl T' rfl X'
    exact ⟨t2, st.trans a1, b1⟩
theorem vx_callv {S SX : Type} {post : S → Prop} {px : SX → Prop} {B : S → State → Prop} {BX : String → SX → State → Prop} {AX : Nat → Prop} (hr : vx_Run p l e R s m args below meth c H locs cells slots mc ms (F0 m pc ls st0) rest (va_Qv post B A1 a) (vx_X px BX AX) free) (hS : va_S A0 H0 H locs) (hA : ∀ q, q < H.size → A1 q → A0 q) (hf : ∀ q, free q → A0 q) (hAX : ∀ q, q < H.size → AX q → A0 q)
    (kx : ∀ (E : String) (ce : Cell) (q9 : Addr) (u : SX) (t : State) (H1 : Heap) (locs1 : List Loc), t.heap = H1 → s.vm.Alike t.vm → px u → BX E u t → H.size ≤ H1.size → (∀ q : Nat, q < H.size → ¬ AX q → H1[q]? = H[q]?) → va_S A0 H0 H1 locs1 → H1[q9]? = some ce → ce.vm = .none → s.vm.findClass E = some ce.cls → vx_W p l e R s m args below meth c H1 locs1 (cells + mc) (slots + ms) Q (F0 m pc ls rest) q9)
    (kk : ∀ (u : S) (t : State) (H1 : Heap) (locs1 : List Loc), t.heap = H1 → s.vm.Alike t.vm → post u → B u t → H.size ≤ H1.size → (∀ q : Nat, q < H.size → ¬ A1 q → H1[q]? = H[q]?) → va_S A0 H0 H1 locs1 → W p l e R s m args below meth c H1 locs1 (cells + mc) (slots + ms) Q (F0 m (pc + 3) ls (rest))) : W p l e R s m args below meth c H locs cells slots Q (F0 m pc ls st0) := by
  intro T hT X
  rcases hr T hT X with ⟨v, st₀, t, T', L, h0, X', hL, e1, e2, ⟨⟨u, hv, hp, hb⟩, hF⟩, st⟩ | ⟨q, st₀, t, T', L, E, ce, h0, X', hL, e1, e2, ⟨u, hp, hb, hF⟩, hce, hcv, hcl, st⟩
  · cases hv
    obtain ⟨k1, k2, k3⟩ := vx_keep h0 e1 hS hA hf hL hF
    obtain ⟨t2, a1, b1⟩ := kk u t T'.heap (locs ++ L) e1.symm (by rw [← e2]; exact X'.warmed.alike) hp hb k1 k2 k3 T' rfl X'
    exact ⟨t2, st t2 a1, b1⟩
  · obtain ⟨k1, k2, k3⟩ := vx_keep h0 e1 hS hAX hf hL hF
    obtain ⟨t2, a1, b1⟩ := kx E ce q u t T'.heap (locs ++ L) e1.symm (by rw [← e2]; exact X'.warmed.alike) hp hb k1 k2 k3 (by rw [e1]; exact hce) hcv hcl T' rfl X'
    exact ⟨t2, st.trans a1, b1⟩
/-- caught by the row x of this method's table; the rows ahead don't take it -/
theorem vx_catch {own name : String} {E : String} {ce : Cell} {q : Addr} (hown : s.vm.findClass own = some m.cls) (pre : List ExceptionTableEntry) (x : ExceptionTableEntry) (suf : List ExceptionTableEntry) (hsplit : c.exceptionTable.toList = pre ++ x :: suf)
    (hpass : ∀ z ∈ pre, covers z pc = false ∨ (z.catchType ≠ 0 ∧ ∃ nm : String, (Cond.classLink own z.catchType nm).before args s = true ∧ va_Nc E nm s)) (hx : covers x pc = true) (h0 : x.catchType ≠ 0)
    (hlink : (Cond.classLink own x.catchType name).before args s = true) (hcast : (Cond.castable E name).before args s = true) (hcell : H[q]? = some ce) (hv : ce.vm = .none) (hcl : s.vm.findClass E = some ce.cls)
    (kk : W p l e R s m args below meth c H locs cells slots Q (F0 m x.handlerPc ls [.ref q])) : vx_W p l e R s m args below meth c H locs cells slots Q (F0 m pc ls rest) q := by
  intro T hT X
  have hpl : e.platform.magicAccessors = ({} : Platform).magicAccessors := by rw [X.admits.platform]
  obtain ⟨c3, c4, hc3, hc4, hasg⟩ := Cond.castable_spec hcast
  cases Option.some.inj (hc3.symm.trans hcl)
  obtain ⟨c5, hc5, hcl5⟩ := Cond.classLink_spec hown hlink e.platform hpl
  cases Option.some.inj (hc4.symm.trans hc5)
  obtain ⟨vm', X', st⟩ := X.thenCaughtThrough q (g := F0 m pc ls rest) rfl (Steps.refl _) (by rw [hT]; exact hcell) (by rw [hv]; rfl) (by obtain ⟨k9, h9, -⟩ := Vm.findClass_spec hcl; exact ⟨k9, h9⟩) pre x suf hsplit
    (fun z hz => by
      rcases hpass z hz with h | ⟨hz0, nm, hl1, hn1⟩
      · exact Or.inl h
      · obtain ⟨c6, hc6, hcl6⟩ := Cond.classLink_spec hown hl1 e.platform hpl
        obtain ⟨a8, b8, h1, h2, h3⟩ := hn1
        cases Option.some.inj (h1.symm.trans hcl)
        cases Option.some.inj (h2.symm.trans hc6)
        exact Or.inr ⟨hz0, _, hcl6, h3⟩) hx (Or.inr ⟨h0, c4, hcl5, hasg⟩)
  obtain ⟨t, a1, b1⟩ := kk (T.setVm vm') hT X'
  exact ⟨t, st.trans a1, b1⟩
end Rows
section Ends
variable {p : Program} {l : Launch} {e : Env} {R : Room} {s : State} {m : MethodId} {args : Array Value} {below : List Frame} {meth : Method} {c : Code} {H : Heap} {locs : List Loc} {cells slots : Nat} {Q : State → Prop}
variable {mc ms : Nat} {free : Addr → Prop} {A0 A1 : Nat → Prop} {H0 : Heap} {a : Array Value} {ls : Array Slot} {st0 rest : List Value}
variable {Qc : Array Value → State → Outcome → State → Prop} {XC : String → State → State → Prop}
/-- what a body that may throw owes at its end -/
def vx_MQ (below : List Frame) (Qc : Array Value → State → Outcome → State → Prop) (XC : String → State → State → Prop) (a : Array Value) (s : State) (mc ms : Nat) (free : Addr → Prop) : State → Prop := fun t =>
  ∃ o, t.status = .running ∧ Ended t below o ∧ vx_Q Qc XC mc ms free a s o t
theorem vx_ret {g : JFrame} {mc ms : Nat} (k : W p l e R s m args below meth c H locs cells slots (MQ below Qc args s mc ms free) g) : W p l e R s m args below meth c H locs cells slots (vx_MQ below Qc XC args s mc ms free) g := by
  intro T hT X
  obtain ⟨t, a1, o, b1, b2, b3, b4⟩ := k T hT X
  exact ⟨t, a1, o, b1, b2, Or.inl ⟨b3, b4⟩⟩
/-- not caught here: it goes on to the caller -/
theorem vx_widen {g : JFrame} {q : Addr} {k n : Nat} (h1 : cells ≤ k) (h2 : slots ≤ n) (kk : vx_W p l e R s m args below meth c H locs k n Q g q) : vx_W p l e R s m args below meth c H locs cells slots Q g q := fun T hT X => kk T hT (stand_widen X h1 h2)
theorem vx_out {pc : Nat} {E : String} {ce : Cell} {q : Addr} {mc ms : Nat} (hout : ∀ x ∈ c.exceptionTable.toList, covers x pc = false) (hlocks : meth.locks = false) (hcell : H[q]? = some ce) (hv : ce.vm = .none) (hcl : s.vm.findClass E = some ce.cls)
    (hx : ∀ t : State, t.heap = H → s.vm.Alike t.vm → XC E s t) (hf : ∀ z ∈ locs, free z.base) (hc : cells ≤ mc) (hs : slots ≤ ms) :
    vx_W p l e R s m args below meth c H locs cells slots (vx_MQ below Qc XC args s mc ms free) (F0 m pc ls rest) q := by
  intro T hT X
  obtain ⟨st1, hrun, hend, hW, hsm⟩ := X.leaveThrown q (g := F0 m pc ls rest) rfl rfl rfl hout hlocks
  have hcell9 : (T.setFrames (.throwing q :: below)).heap[q]? = some ce := by
    show T.heap[q]? = some ce
    rw [hT]; exact hcell
  exact ⟨_, st1, .threw q, hrun, hend, Or.inr ⟨q, rfl, E, ce, locs, hx _ hT hW.alike, hcell9, hv, hcl, hW, hsm.mono hc hs, hf⟩⟩
theorem vx_frame {U : State} {k n : Nat} (h : s.sameButNew ({ U with vm := s.vm } : State) locs k n) : s.heap.size ≤ U.heap.size ∧ ∀ q : Nat, q < s.heap.size → (∀ z ∈ locs, z.base ≠ q) → U.heap[q]? = s.heap[q]? := by
  obtain ⟨-, h2, -, -, -, h6⟩ := h
  refine ⟨h2, fun q hq hz => ?_⟩
  obtain ⟨c9, e1, e2, e3, e4⟩ := h6 q _ (Array.getElem?_eq_getElem hq)
  have hs : c9.slots = (s.heap[q]).slots := Array.ext_getElem? fun i => e4 i fun hm => hz _ hm rfl
  have h9 : c9 = s.heap[q] := by
    rw [hs] at e2
    exact e2
  have e5 : U.heap[q]? = some c9 := e1
  rw [e5, h9, Array.getElem?_eq_getElem hq]
/-- the words of a throw but the four that speak of the heap -/
def vx_no (w : Cond) : Bool := decide (w ≠ .isRef (.static Bundle.tN "UNASSIGNED_STACK" Bundle.steD)) && decide (w ≠ .isRef (.static Bundle.tN "SUPPRESSED_SENTINEL" Bundle.listD)) && decide (w ≠ .laysStatic Bundle.tN "UNASSIGNED_STACK" Bundle.steD) && decide (w ≠ .laysStatic Bundle.tN "SUPPRESSED_SENTINEL" Bundle.listD)
def vx_at0 (own : String) (ic : Nat) (X : String) (names : List String) : List Cond := (Bundle.ownAtoms0 own ic X names).filter vx_no
def vx_atS (own : String) (ic : Nat) (X : String) (names : List String) : List Cond := (Bundle.ownAtoms own ic X names).filter vx_no
/-- a word that the tables alone decide, or a good one -/
def vx_ot (w : Cond) : Bool := w.onTables || goodWord w
theorem vx_ot_at {args a' : Array Value} {s U : State} {w : Cond} (hW : s.WarmedH U.vm) (hvm : s.vm = U.vm) (hg : vx_ot w = true) (h : w.before args s = true) : w.before a' U = true := by
  simp only [vx_ot, Bool.or_eq_true] at hg
  rcases hg with hg | hg
  · exact va_tabs hg hvm h
  · exact word_at hW (good_of_word hg) h
/-- a list's words: the good ones out of the method's own list, the others by premises of their own -/
theorem vx_hat {args : Array Value} {s : State} {L B : List Cond} (h1 : ∀ w ∈ L.filter goodWord, w.before args s = true) (h2 : ∀ w ∈ L.filter (fun w => !goodWord w), w ∈ B) (h3 : ∀ w ∈ B, w.before args s = true) : ∀ w ∈ L, w.before args s = true := by
  intro w hw
  by_cases g : goodWord w = true
  · exact h1 w (List.mem_filter.mpr ⟨hw, g⟩)
  · refine h3 w (h2 w (List.mem_filter.mpr ⟨hw, ?_⟩))
    show (!goodWord w) = true
    cases hgw : goodWord w
    · rfl
    · exact absurd hgw g
theorem vx_c {args : Array Value} {s : State} {w : Cond} {B : List Cond} (h : w.before args s = true) (t : ∀ w ∈ B, w.before args s = true) : ∀ w' ∈ w :: B, w'.before args s = true := fun w' h' => (List.mem_cons.mp h').elim (fun e => by rw [e]; exact h) (t w')
theorem vx_n {args : Array Value} {s : State} : ∀ w ∈ ([] : List Cond), w.before args s = true := fun _ h => nomatch h
theorem vx_own {args : Array Value} {s : State} {L : List Cond} (h1 : ∀ w ∈ L.filter vx_no, w.before args s = true)
    (hU : (Cond.isRef (.static Bundle.tN "UNASSIGNED_STACK" Bundle.steD)).before args s = true) (hN : (Cond.isRef (.static Bundle.tN "SUPPRESSED_SENTINEL" Bundle.listD)).before args s = true)
    (lU : (Cond.laysStatic Bundle.tN "UNASSIGNED_STACK" Bundle.steD).before args s = true) (lN : (Cond.laysStatic Bundle.tN "SUPPRESSED_SENTINEL" Bundle.listD).before args s = true) : ∀ w ∈ L, w.before args s = true := by
  intro w hw
  by_cases e1 : w = .isRef (.static Bundle.tN "UNASSIGNED_STACK" Bundle.steD)
  · rw [e1]; exact hU
  · by_cases e2 : w = .isRef (.static Bundle.tN "SUPPRESSED_SENTINEL" Bundle.listD)
    · rw [e2]; exact hN
    · by_cases e3 : w = .laysStatic Bundle.tN "UNASSIGNED_STACK" Bundle.steD
      · rw [e3]; exact lU
      · by_cases e4 : w = .laysStatic Bundle.tN "SUPPRESSED_SENTINEL" Bundle.listD
        · rw [e4]; exact lN
        · exact h1 w (List.mem_filter.mpr ⟨hw, by unfold vx_no; rw [decide_eq_true e1, decide_eq_true e2, decide_eq_true e3, decide_eq_true e4]; rfl⟩)
/-- where a static field lies, its class's statics cell in H -/
def vx_L (C n d : String) (A : Nat → Prop) (U : State) (H : Heap) : Prop := ∃ (c : ClassId) (k : Class) (i : Nat) (f : Field) (a : Nat) (cell : Cell), U.vm.findClass C = some c ∧ U.fieldFound? C n d = some (c, k, i, f) ∧ f.isStatic = true ∧ k.statics = some a ∧ H[a]? = some cell ∧ cell.vm.isStatics = true ∧ cell.cls = c ∧ f.slot < cell.slots.size ∧ k.staticTypes[f.slot]? = some f.type ∧ ¬ A a
theorem vx_L.moved {C n d : String} {A : Nat → Prop} {u U : State} {H : Heap} (hvm : u.vm.Alike U.vm) (h : vx_L C n d A u H) : vx_L C n d A U H := by
  obtain ⟨c, k, i, f, a, cell, h1, h2, h3, h4, h5, h6, h7, h8, h9, h10⟩ := h
  obtain ⟨k', hi', he⟩ := State.fieldFound?_setVm hvm h2
  exact ⟨c, k', i, f, a, cell, by rw [hvm.findClass]; exact h1, hi', h3, by rw [he]; exact h4, h5, h6, h7, h8, by rw [he]; exact h9, h10⟩
theorem vx_L.kept {C n d : String} {A : Nat → Prop} {U : State} {H H1 : Heap} (h : vx_L C n d A U H) (hq : ∀ a : Nat, a < H.size → ¬ A a → H1[a]? = H[a]?) : vx_L C n d A U H1 := by
  obtain ⟨c, k, i, f, a, cell, h1, h2, h3, h4, h5, h6, h7, h8, h9, h10⟩ := h
  exact ⟨c, k, i, f, a, cell, h1, h2, h3, h4, by rw [hq a (Array.getElem?_eq_some_iff.mp h5).1 h10]; exact h5, h6, h7, h8, h9, h10⟩
theorem vx_L.narrow {C n d : String} {A B : Nat → Prop} {U : State} {H : Heap} (h : vx_L C n d A U H) (hAB : ∀ q, B q → A q) : vx_L C n d B U H := by
  obtain ⟨c, k, i, f, a, cell, h1, h2, h3, h4, h5, h6, h7, h8, h9, h10⟩ := h
  exact ⟨c, k, i, f, a, cell, h1, h2, h3, h4, h5, h6, h7, h8, h9, fun z => h10 (hAB _ z)⟩
theorem vx_L.word {C n d : String} {A : Nat → Prop} {s : State} {args : Array Value} (h : vx_L C n d A s s.heap) : (Cond.laysStatic C n d).before args s = true := by
  obtain ⟨c, k, i, f, a, cell, h1, h2, h3, h4, h5, h6, h7, h8, h9, -⟩ := h
  show (Cond.laysStatic C n d).holds args s none s [] = true
  exact Cond.laysStatic_of h1 h2 h3 h4 h5 h6 h7 h8 h9
/-- .. and what it holds: null or some reference -/
def vx_Zq (C n d : String) (A : Nat → Prop) (U : State) (H : Heap) : Prop := va_Zq C n d A U H ∧ vx_L C n d A U H
theorem vx_Zq.moved {C n d : String} {A : Nat → Prop} {u U : State} {H : Heap} (hvm : u.vm.Alike U.vm) (h : vx_Zq C n d A u H) : vx_Zq C n d A U H := ⟨va_Zq.moved hvm h.1, vx_L.moved hvm h.2⟩
theorem vx_Zq.kept {C n d : String} {A : Nat → Prop} {U : State} {H H1 : Heap} (h : vx_Zq C n d A U H) (hq : ∀ a : Nat, a < H.size → ¬ A a → H1[a]? = H[a]?) : vx_Zq C n d A U H1 := ⟨va_Zq.kept h.1 hq, vx_L.kept h.2 hq⟩
theorem vx_Zq.narrow {C n d : String} {A B : Nat → Prop} {U : State} {H : Heap} (h : vx_Zq C n d A U H) (hAB : ∀ q, B q → A q) : vx_Zq C n d B U H := ⟨va_Zq.narrow h.1 hAB, vx_L.narrow h.2 hAB⟩
theorem vx_Zqof {args : Array Value} {s : State} {C n d : String} {A : Nat → Prop} (hl : (Cond.laysStatic C n d).before args s = true) (hini : (Cond.initialized C).before args s = true) (h : (Cond.isRef (.static C n d)).before args s = true) (hA : ∀ a : Nat, a < s.heap.size → ¬ A a) : vx_Zq C n d A s s.heap := by
  refine ⟨va_Zqof hl hini h hA, ?_⟩
  obtain ⟨c, k, i, f, a, cell, h1, h2, h3, h4, h5, h6, h7, h8, h9⟩ := Cond.laysStatic_spec hl
  exact ⟨c, k, i, f, a, cell, h1, h2, h3, h4, h5, h6, h7, h8, h9, hA a (Array.getElem?_eq_some_iff.mp h5).1⟩
theorem vx_isRef {C n d : String} {v : Value} {A : Nat → Prop} {s : State} {args : Array Value} (h : va_Z C n d v A s s.heap) (hv : v.isRef = true) : (Cond.isRef (.static C n d)).before args s = true := by
  obtain ⟨cf, kf, fi, f, a, cell, h1, h2, h3, h4, h5, h6, h7, -⟩ := h
  have he : (Term.static C n d).eval args s none [] s = some v := by
    simp [Term.eval, State.fieldNamed?, h1, h2, h4, h5, h6, h7]
  simp only [Cond.before, Cond.holds, Cond.value, he]
  cases v <;> simp_all [Value.isRef]
theorem vx_isRefq {C n d : String} {A : Nat → Prop} {s : State} {args : Array Value} (h : va_Zq C n d A s s.heap) : (Cond.isRef (.static C n d)).before args s = true := by
  rcases h with h | ⟨t, h⟩
  · exact vx_isRef h rfl
  · exact vx_isRef h rfl
/-- the same frame, seen from here: as if the method were called anew in this heap -/
theorem vx_rebase {T : State} (X : Stand p l e R s m args below meth c T locs cells slots) {R' : Room} (hf : R'.frames ≤ R.frames) (hl : R'.locals ≤ R.locals) (hc : cells + R'.cells ≤ R.cells) (hs : slots + R'.slots ≤ R.slots) :
    Stand p l e R' ((T.setVm s.vm).setFrames (.invoking m args :: below)) m args below meth c T [] 0 0 := by
  have htop : (T.setVm s.vm).topJava?.isSome := X.here.top
  have hF : ((T.setVm s.vm).setFrames (.invoking m args :: below)).frames = .invoking m args :: below := State.frames_setFrames _ (State.cur_lt_of_top htop)
  obtain ⟨g₀, hg0⟩ := Option.isSome_iff_exists.mp htop
  obtain ⟨r, hr⟩ := State.topJava?_eq_some.mp hg0
  have hl9 : e.platform.stackLimits (T.setVm s.vm).me = e.platform.stackLimits s.me := X.limits
  have hb9 : (T.setVm s.vm).me.stackBytes = s.me.stackBytes := X.bytes
  refine ⟨X.admits, X.cas, X.clock, hF, ?_, X.hears, X.method, X.code, X.here, X.tail, X.warmed, ?_, ?_, ?_⟩
  · have h := X.room
    have hU : ((T.setVm s.vm).setFrames (.invoking m args :: below)).localsInUse = s.localsInUse := by
      rw [State.localsInUse_invoking hF (meth := meth) (c := c) X.method X.code, State.localsInUse_invoking X.frames X.method X.code]
    simp only [State.hasRoom, Bool.and_eq_true, decide_eq_true_eq] at h ⊢
    obtain ⟨⟨⟨⟨h1, h2, h3, h4, h5, h6⟩, h7⟩, h8⟩, h9⟩ := h
    rw [X.frames, List.length_cons] at h2 h3
    have q1 := X.heapSize
    have q2 := X.used
    simp only [hF, hU, List.length_cons, State.stackLimits_setFrames, State.stackBytes_setFrames, hl9, hb9]
    refine ⟨⟨⟨⟨by omega, by omega, by omega, by omega, by omega, h6⟩, ?_⟩, ?_⟩, X.book⟩
    · show T.heap.size + R'.cells ≤ e.platform.maxCells
      omega
    · show T.slotsUsed + R'.slots ≤ e.platform.maxSlots
      omega
  · rw [State.stackLimits_setFrames]; rfl
  · rw [State.stackBytes_setFrames]; rfl
  · refine ⟨?_, Nat.le_refl _, Nat.le_refl _, ?_, ?_, fun a c9 h9 => ⟨c9, h9, rfl, rfl, fun _ _ => rfl⟩⟩
    · obtain ⟨t, ht, -⟩ := State.frames_cons hr
      show T.setVm s.vm = { ((T.setVm s.vm).setFrames (.invoking m args :: below)).setFrames (T.setVm s.vm).frames with heap := T.heap, slotsUsed := T.slotsUsed }
      rw [State.setFrames_setFrames, State.setFrames_self ht]
      rfl
    · show T.slotsUsed = T.slotsUsed + ((T.heap.toList.drop T.heap.size).map (·.slots.size)).sum
      rw [List.drop_eq_nil_of_le (Nat.le_of_eq Array.length_toList)]
      rfl
    · show ((T.heap.toList.drop T.heap.size).map (·.slots.size)).sum ≤ 0
      rw [List.drop_eq_nil_of_le (Nat.le_of_eq Array.length_toList)]
      exact Nat.le_refl _
/-- 'throw new E()': new; dup; invokespecial; athrow -/
theorem vx_throw0 {cc : ByteArray} {pc : Nat} (hexec : p.tables.exec = Jvm.exec) (hb : c.code = cc) (hl : l.stackTraces = false) {own cls : String} {names : List String} {ik ic mc ms : Nat} {A : Nat → Prop}
    (hown : s.vm.findClass own = some m.cls) (hcls : Bundle.fit cls = true) (hnames : ∀ n ∈ names, Bundle.fit n = true)
    (hk : (Cond.classLink own ik cls).before args s = true) (hini : (Cond.initialized cls).before args s = true) (hat : ∀ w ∈ vx_at0 own ic cls names, w.before args s = true)
    (hgood : ∀ w ∈ Cond.classLink own ik cls :: Cond.initialized cls :: vx_at0 own ic cls names, vx_ot w = true)
    (hU : vx_Zq Bundle.tN "UNASSIGNED_STACK" Bundle.steD A s s.heap) (hN : vx_Zq Bundle.tN "SUPPRESSED_SENTINEL" Bundle.listD A s s.heap) (hS : va_S A s.heap H locs) (hsize : ls.size = c.maxLocals)
    (d0 : decode cc pc = .ok (.new ik, 3)) (d3 : decode cc (pc + 3) = .ok (.dup, 1)) (d4 : decode cc (pc + 4) = .ok (.invokespecial ic, 3)) (d7 : decode cc (pc + 7) = .ok (.athrow, 1))
    (hout : ∀ x ∈ c.exceptionTable.toList, covers x (pc + 7) = false)
    (hRframes : names.length + 3 < R.frames) (hRlocals : (rest.map fun v => v.category).sum + (13 * (names.length + 1) + 42) ≤ R.locals) (hRcells : cells + 1 ≤ R.cells) (hRslots : slots + 6 ≤ R.slots) (hlocks : meth.locks = false)
    (hx : ∀ t : State, s.vm.Alike t.vm → H.size ≤ t.heap.size → (∀ q : Nat, q < H.size → t.heap[q]? = H[q]?) → XC cls s t)
    (hf : ∀ z ∈ locs, free z.base) (hc : cells + 1 ≤ mc) (hs : slots + 6 ≤ ms) :
    W p l e R s m args below meth c H locs cells slots (vx_MQ below Qc XC args s mc ms free) (F0 m pc ls rest) := by
  intro T hT X
  have htr : e.platform.stackTraces = false := (show e.platform.stackTraces = l.stackTraces by rw [X.admits.platform]).trans hl
  have Y := vx_rebase X (R' := { frames := R.frames, locals := R.locals, cells := 1, slots := 6 }) (Nat.le_refl _) (Nat.le_refl _) hRcells hRslots
  obtain ⟨s', hA⟩ : ∃ z, z = (T.setVm s.vm).setFrames (.invoking m args :: below) := ⟨_, rfl⟩
  rw [← hA] at Y
  have hvm : s'.vm = s.vm := by rw [hA]; rfl
  have hhp : s'.heap = H := by rw [hA]; exact hT
  have hW0 : s.WarmedH s'.vm := by rw [hvm]; exact State.WarmedH.refl s
  have hat' : ∀ w ∈ vx_at0 own ic cls names, w.before args s' = true := fun w hw => vx_ot_at hW0 hvm.symm (hgood w (List.mem_cons_of_mem _ (List.mem_cons_of_mem _ hw))) (hat w hw)
  have hk' : (Cond.classLink own ik cls).before args s' = true := vx_ot_at hW0 hvm.symm (hgood _ List.mem_cons_self) hk
  have hini' : (Cond.initialized cls).before args s' = true := vx_ot_at hW0 hvm.symm (hgood _ (List.mem_cons_of_mem _ List.mem_cons_self)) hini
  have hU' : vx_Zq Bundle.tN "UNASSIGNED_STACK" Bundle.steD A s' s'.heap := by rw [hhp]; exact vx_Zq.moved hW0.alike (hU.kept hS.2.1)
  have hN' : vx_Zq Bundle.tN "SUPPRESSED_SENTINEL" Bundle.listD A s' s'.heap := by rw [hhp]; exact vx_Zq.moved hW0.alike (hN.kept hS.2.1)
  have h : ∀ w ∈ Bundle.ownAtoms0 own ic cls names, w.before args s' = true := vx_own hat' (vx_isRefq hU'.1) (vx_isRefq hN'.1) hU'.2.word hN'.2.word
  have hown' : s'.vm.findClass own = some m.cls := by rw [hvm]; exact hown
  have hins : (Cond.instantiable cls 6).before args s' = true := h _ (by simp [Bundle.ownAtoms0])
  obtain ⟨vm₁, cX, kX, hfX, hkX, -, -, X₁, st1⟩ := Y.newCold hexec (own := own) (C := cls) (index := ik) (n := 6) hown' hk' hins hini'
    (g := F0 m pc ls rest) rfl (by rw [hb]; exact d0) (Nat.le_refl _) (Nat.le_refl _)
  generalize hT1 : (T.setVm vm₁).pushCell { cls := cX, slots := kX.instanceTypes.map defaultValue, vm := .none } = T1 at X₁ st1
  have hcat : (Value.ref T.heap.size).category = 1 := rfl
  have hcellA : T1.heap[T.heap.size]? = some (freshCell cX kX) := by rw [← hT1]; exact State.heap_pushCell_size _ _
  have d3' : decode c.code (pc + 3) = .ok (.dup, 1) := by rw [hb]; exact d3
  obtain ⟨U, hsteps, hrun, hend, hW, hsame, ce, hce, hO⟩ := X₁.ctorThrow0 hexec htr (own := own) (cls := cls) (names := names) (ic := ic) hown' hcls hnames h (fun x hx => nomatch hx) hfX hkX hcellA (by rw [hhp, hT]; exact Nat.le_refl _)
    (g := { method := m, pc := pc + 4, locals := ls, stack := .ref T.heap.size :: .ref T.heap.size :: rest, locked := none }) rfl hsize rfl rfl (rest := rest) rfl
    (by rw [hb]; exact d4) (by rw [hb]; exact d7) hout hRframes (by simp only [List.map_cons, List.sum_cons, hcat]; omega) hlocks
  obtain ⟨f1, f2⟩ := vx_frame hsame
  rw [hhp] at f1 f2
  have hWs : s.WarmedH U.vm := State.WarmedH.trans hW0 hW
  have hcl : s.vm.findClass cls = some ce.cls := by
    have h9 := hO.cls
    rw [hvm] at h9
    exact h9
  have hall : s.sameButNew ({ U with vm := s.vm } : State) locs mc ms := by
    subst hA
    obtain ⟨e1, e2⟩ := hsame
    rw [State.setFrames_setFrames] at e1
    have h2 : (T.setVm s.vm).sameButNew ({ U with vm := s.vm } : State) [] (0 + 1) (0 + 6) := ⟨e1, e2⟩
    have h3 := X.same.trans h2
    rw [List.append_nil] at h3
    exact h3.mono hc hs
  refine ⟨U, ?_, .threw T.heap.size, hrun, hend, Or.inr ⟨T.heap.size, rfl, cls, ce, locs, hx U hWs.alike f1 (fun q hq => f2 q hq (fun z hz => nomatch hz)), hce, hO.vm, hcl, hWs, hall, hf⟩⟩
  refine st1 _ ?_
  show Steps p.tables e below (T1.setTop { method := m, pc := pc + 3, locals := ls, stack := .ref T.heap.size :: rest, locked := none }) _
  jvm_step X₁.here [X₁.here.top, hexec, d3', Value.category]
  exact hsteps
/-- 'throw new E("text")': new; dup; ldc; invokespecial; athrow -/
theorem vx_throwS {cc : ByteArray} {pc : Nat} (hexec : p.tables.exec = Jvm.exec) (hb : c.code = cc) (hl : l.stackTraces = false) {own cls text : String} {names : List String} {ik is ic mc ms sa : Nat} {A : Nat → Prop}
    (hown : s.vm.findClass own = some m.cls) (hcls : Bundle.fit cls = true) (hnames : ∀ n ∈ names, Bundle.fit n = true)
    (hk : (Cond.classLink own ik cls).before args s = true) (hini : (Cond.initialized cls).before args s = true) (hstr : vk_R own is text sa s) (hat : ∀ w ∈ vx_atS own ic cls names, w.before args s = true)
    (hgood : ∀ w ∈ Cond.classLink own ik cls :: Cond.initialized cls :: vx_atS own ic cls names, vx_ot w = true)
    (hU : vx_Zq Bundle.tN "UNASSIGNED_STACK" Bundle.steD A s s.heap) (hN : vx_Zq Bundle.tN "SUPPRESSED_SENTINEL" Bundle.listD A s s.heap) (hS : va_S A s.heap H locs) (hsize : ls.size = c.maxLocals)
    (d0 : decode cc pc = .ok (.new ik, 3)) (d3 : decode cc (pc + 3) = .ok (.dup, 1)) (d4 : decode cc (pc + 4) = .ok (.ldc is, 2)) (d6 : decode cc (pc + 6) = .ok (.invokespecial ic, 3)) (d9 : decode cc (pc + 9) = .ok (.athrow, 1))
    (hout : ∀ x ∈ c.exceptionTable.toList, covers x (pc + 9) = false)
    (hRframes : names.length + 3 < R.frames) (hRlocals : (rest.map fun v => v.category).sum + (13 * (names.length + 1) + 43) ≤ R.locals) (hRcells : cells + 1 ≤ R.cells) (hRslots : slots + 6 ≤ R.slots) (hlocks : meth.locks = false)
    (hx : ∀ t : State, s.vm.Alike t.vm → H.size ≤ t.heap.size → (∀ q : Nat, q < H.size → t.heap[q]? = H[q]?) → XC cls s t)
    (hf : ∀ z ∈ locs, free z.base) (hc : cells + 1 ≤ mc) (hs : slots + 6 ≤ ms) :
    W p l e R s m args below meth c H locs cells slots (vx_MQ below Qc XC args s mc ms free) (F0 m pc ls rest) := by
  intro T hT X
  have htr : e.platform.stackTraces = false := (show e.platform.stackTraces = l.stackTraces by rw [X.admits.platform]).trans hl
  have Y := vx_rebase X (R' := { frames := R.frames, locals := R.locals, cells := 1, slots := 6 }) (Nat.le_refl _) (Nat.le_refl _) hRcells hRslots
  obtain ⟨s', hA⟩ : ∃ z, z = (T.setVm s.vm).setFrames (.invoking m args :: below) := ⟨_, rfl⟩
  rw [← hA] at Y
  have hvm : s'.vm = s.vm := by rw [hA]; rfl
  have hhp : s'.heap = H := by rw [hA]; exact hT
  have hW0 : s.WarmedH s'.vm := by rw [hvm]; exact State.WarmedH.refl s
  have hat' : ∀ w ∈ vx_atS own ic cls names, w.before args s' = true := fun w hw => vx_ot_at hW0 hvm.symm (hgood w (List.mem_cons_of_mem _ (List.mem_cons_of_mem _ hw))) (hat w hw)
  have hk' : (Cond.classLink own ik cls).before args s' = true := vx_ot_at hW0 hvm.symm (hgood _ List.mem_cons_self) hk
  have hini' : (Cond.initialized cls).before args s' = true := vx_ot_at hW0 hvm.symm (hgood _ (List.mem_cons_of_mem _ List.mem_cons_self)) hini
  have hU' : vx_Zq Bundle.tN "UNASSIGNED_STACK" Bundle.steD A s' s'.heap := by rw [hhp]; exact vx_Zq.moved hW0.alike (hU.kept hS.2.1)
  have hN' : vx_Zq Bundle.tN "SUPPRESSED_SENTINEL" Bundle.listD A s' s'.heap := by rw [hhp]; exact vx_Zq.moved hW0.alike (hN.kept hS.2.1)
  have h : ∀ w ∈ Bundle.ownAtoms own ic cls names, w.before args s' = true := vx_own hat' (vx_isRefq hU'.1) (vx_isRefq hN'.1) hU'.2.word hN'.2.word
  have hown' : s'.vm.findClass own = some m.cls := by rw [hvm]; exact hown
  have hins : (Cond.instantiable cls 6).before args s' = true := h _ (by simp [Bundle.ownAtoms])
  obtain ⟨vm₁, cX, kX, hfX, hkX, -, -, X₁, st1⟩ := Y.newCold hexec (own := own) (C := cls) (index := ik) (n := 6) hown' hk' hins hini'
    (g := F0 m pc ls rest) rfl (by rw [hb]; exact d0) (Nat.le_refl _) (Nat.le_refl _)
  generalize hT1 : (T.setVm vm₁).pushCell { cls := cX, slots := kX.instanceTypes.map defaultValue, vm := .none } = T1 at X₁ st1
  have hcat : (Value.ref T.heap.size).category = 1 := rfl
  have hcellA : T1.heap[T.heap.size]? = some (freshCell cX kX) := by rw [← hT1]; exact State.heap_pushCell_size _ _
  have d3' : decode c.code (pc + 3) = .ok (.dup, 1) := by rw [hb]; exact d3
  have d4' : decode c.code (pc + 4) = .ok (.ldc is, 2) := by rw [hb]; exact d4
  have hstr' : vk_R own is text sa s' := vk_R.warm hW0 hstr
  obtain ⟨U, hsteps, hrun, hend, hW, hsame, ce, hce, hO⟩ := X₁.ctorThrowS hexec htr (own := own) (cls := cls) (names := names) (ic := ic) hown' hcls hnames h (fun x hx => nomatch hx) hfX hkX hcellA (by rw [hhp, hT]; exact Nat.le_refl _) (msg := .ref sa) rfl
    (g := { method := m, pc := pc + 6, locals := ls, stack := .ref sa :: .ref T.heap.size :: .ref T.heap.size :: rest, locked := none }) rfl hsize rfl rfl (rest := rest) rfl
    (by rw [hb]; exact d6) (by rw [hb]; exact d9) hout hRframes (by simp only [List.map_cons, List.sum_cons, hcat]; omega) hlocks
  obtain ⟨f1, f2⟩ := vx_frame hsame
  rw [hhp] at f1 f2
  have hWs : s.WarmedH U.vm := State.WarmedH.trans hW0 hW
  have hcl : s.vm.findClass cls = some ce.cls := by
    have h9 := hO.cls
    rw [hvm] at h9
    exact h9
  have hall : s.sameButNew ({ U with vm := s.vm } : State) locs mc ms := by
    subst hA
    obtain ⟨e1, e2⟩ := hsame
    rw [State.setFrames_setFrames] at e1
    have h2 : (T.setVm s.vm).sameButNew ({ U with vm := s.vm } : State) [] (0 + 1) (0 + 6) := ⟨e1, e2⟩
    have h3 := X.same.trans h2
    rw [List.append_nil] at h3
    exact h3.mono hc hs
  refine ⟨U, ?_, .threw T.heap.size, hrun, hend, Or.inr ⟨T.heap.size, rfl, cls, ce, locs, hx U hWs.alike f1 (fun q hq => f2 q hq (fun z hz => nomatch hz)), hce, hO.vm, hcl, hWs, hall, hf⟩⟩
  refine st1 _ ?_
  show Steps p.tables e below (T1.setTop { method := m, pc := pc + 3, locals := ls, stack := .ref T.heap.size :: rest, locked := none }) _
  jvm_step X₁.here [X₁.here.top, hexec, d3', Value.category]
  exact X₁.ldcString hexec (own := own) (text := text) (index := is) (a := sa) hown' hstr'.1 hstr'.2
    (g := { method := m, pc := pc + 4, locals := ls, stack := .ref T.heap.size :: .ref T.heap.size :: rest, locked := none }) rfl d4' _ hsteps
/-- 'throw new E("text")', the text by a wide index -/
theorem vx_throwSW {cc : ByteArray} {pc : Nat} (hexec : p.tables.exec = Jvm.exec) (hb : c.code = cc) (hl : l.stackTraces = false) {own cls text : String} {names : List String} {ik is ic mc ms sa : Nat} {A : Nat → Prop}
    (hown : s.vm.findClass own = some m.cls) (hcls : Bundle.fit cls = true) (hnames : ∀ n ∈ names, Bundle.fit n = true)
    (hk : (Cond.classLink own ik cls).before args s = true) (hini : (Cond.initialized cls).before args s = true) (hstr : vk_R own is text sa s) (hat : ∀ w ∈ vx_atS own ic cls names, w.before args s = true)
    (hgood : ∀ w ∈ Cond.classLink own ik cls :: Cond.initialized cls :: vx_atS own ic cls names, vx_ot w = true)
    (hU : vx_Zq Bundle.tN "UNASSIGNED_STACK" Bundle.steD A s s.heap) (hN : vx_Zq Bundle.tN "SUPPRESSED_SENTINEL" Bundle.listD A s s.heap) (hS : va_S A s.heap H locs) (hsize : ls.size = c.maxLocals)
    (d0 : decode cc pc = .ok (.new ik, 3)) (d3 : decode cc (pc + 3) = .ok (.dup, 1)) (d4 : decode cc (pc + 4) = .ok (.ldc_w is, 3)) (d7 : decode cc (pc + 7) = .ok (.invokespecial ic, 3)) (d10 : decode cc (pc + 10) = .ok (.athrow, 1))
    (hout : ∀ x ∈ c.exceptionTable.toList, covers x (pc + 10) = false)
    (hRframes : names.length + 3 < R.frames) (hRlocals : (rest.map fun v => v.category).sum + (13 * (names.length + 1) + 43) ≤ R.locals) (hRcells : cells + 1 ≤ R.cells) (hRslots : slots + 6 ≤ R.slots) (hlocks : meth.locks = false)
    (hx : ∀ t : State, s.vm.Alike t.vm → H.size ≤ t.heap.size → (∀ q : Nat, q < H.size → t.heap[q]? = H[q]?) → XC cls s t)
    (hf : ∀ z ∈ locs, free z.base) (hc : cells + 1 ≤ mc) (hs : slots + 6 ≤ ms) :
    W p l e R s m args below meth c H locs cells slots (vx_MQ below Qc XC args s mc ms free) (F0 m pc ls rest) := by
  intro T hT X
  have htr : e.platform.stackTraces = false := (show e.platform.stackTraces = l.stackTraces by rw [X.admits.platform]).trans hl
  have Y := vx_rebase X (R' := { frames := R.frames, locals := R.locals, cells := 1, slots := 6 }) (Nat.le_refl _) (Nat.le_refl _) hRcells hRslots
  obtain ⟨s', hA⟩ : ∃ z, z = (T.setVm s.vm).setFrames (.invoking m args :: below) := ⟨_, rfl⟩
  rw [← hA] at Y
  have hvm : s'.vm = s.vm := by rw [hA]; rfl
  have hhp : s'.heap = H := by rw [hA]; exact hT
  have hW0 : s.WarmedH s'.vm := by rw [hvm]; exact State.WarmedH.refl s
  have hat' : ∀ w ∈ vx_atS own ic cls names, w.before args s' = true := fun w hw => vx_ot_at hW0 hvm.symm (hgood w (List.mem_cons_of_mem _ (List.mem_cons_of_mem _ hw))) (hat w hw)
  have hk' : (Cond.classLink own ik cls).before args s' = true := vx_ot_at hW0 hvm.symm (hgood _ List.mem_cons_self) hk
  have hini' : (Cond.initialized cls).before args s' = true := vx_ot_at hW0 hvm.symm (hgood _ (List.mem_cons_of_mem _ List.mem_cons_self)) hini
  have hU' : vx_Zq Bundle.tN "UNASSIGNED_STACK" Bundle.steD A s' s'.heap := by rw [hhp]; exact vx_Zq.moved hW0.alike (hU.kept hS.2.1)
  have hN' : vx_Zq Bundle.tN "SUPPRESSED_SENTINEL" Bundle.listD A s' s'.heap := by rw [hhp]; exact vx_Zq.moved hW0.alike (hN.kept hS.2.1)
  have h : ∀ w ∈ Bundle.ownAtoms own ic cls names, w.before args s' = true := vx_own hat' (vx_isRefq hU'.1) (vx_isRefq hN'.1) hU'.2.word hN'.2.word
  have hown' : s'.vm.findClass own = some m.cls := by rw [hvm]; exact hown
  have hins : (Cond.instantiable cls 6).before args s' = true := h _ (by simp [Bundle.ownAtoms])
  obtain ⟨vm₁, cX, kX, hfX, hkX, -, -, X₁, st1⟩ := Y.newCold hexec (own := own) (C := cls) (index := ik) (n := 6) hown' hk' hins hini'
    (g := F0 m pc ls rest) rfl (by rw [hb]; exact d0) (Nat.le_refl _) (Nat.le_refl _)
  generalize hT1 : (T.setVm vm₁).pushCell { cls := cX, slots := kX.instanceTypes.map defaultValue, vm := .none } = T1 at X₁ st1
  have hcat : (Value.ref T.heap.size).category = 1 := rfl
  have hcellA : T1.heap[T.heap.size]? = some (freshCell cX kX) := by rw [← hT1]; exact State.heap_pushCell_size _ _
  have d3' : decode c.code (pc + 3) = .ok (.dup, 1) := by rw [hb]; exact d3
  have d4' : decode c.code (pc + 4) = .ok (.ldc_w is, 3) := by rw [hb]; exact d4
  have hstr' : vk_R own is text sa s' := vk_R.warm hW0 hstr
  obtain ⟨U, hsteps, hrun, hend, hW, hsame, ce, hce, hO⟩ := X₁.ctorThrowS hexec htr (own := own) (cls := cls) (names := names) (ic := ic) hown' hcls hnames h (fun x hx => nomatch hx) hfX hkX hcellA (by rw [hhp, hT]; exact Nat.le_refl _) (msg := .ref sa) rfl
    (g := { method := m, pc := pc + 7, locals := ls, stack := .ref sa :: .ref T.heap.size :: .ref T.heap.size :: rest, locked := none }) rfl hsize rfl rfl (rest := rest) rfl
    (by rw [hb]; exact d7) (by rw [hb]; exact d10) hout hRframes (by simp only [List.map_cons, List.sum_cons, hcat]; omega) hlocks
  obtain ⟨f1, f2⟩ := vx_frame hsame
  rw [hhp] at f1 f2
  have hWs : s.WarmedH U.vm := State.WarmedH.trans hW0 hW
  have hcl : s.vm.findClass cls = some ce.cls := by
    have h9 := hO.cls
    rw [hvm] at h9
    exact h9
  have hall : s.sameButNew ({ U with vm := s.vm } : State) locs mc ms := by
    subst hA
    obtain ⟨e1, e2⟩ := hsame
    rw [State.setFrames_setFrames] at e1
    have h2 : (T.setVm s.vm).sameButNew ({ U with vm := s.vm } : State) [] (0 + 1) (0 + 6) := ⟨e1, e2⟩
    have h3 := X.same.trans h2
    rw [List.append_nil] at h3
    exact h3.mono hc hs
  refine ⟨U, ?_, .threw T.heap.size, hrun, hend, Or.inr ⟨T.heap.size, rfl, cls, ce, locs, hx U hWs.alike f1 (fun q hq => f2 q hq (fun z hz => nomatch hz)), hce, hO.vm, hcl, hWs, hall, hf⟩⟩
  refine st1 _ ?_
  show Steps p.tables e below (T1.setTop { method := m, pc := pc + 3, locals := ls, stack := .ref T.heap.size :: rest, locked := none }) _
  jvm_step X₁.here [X₁.here.top, hexec, d3', Value.category]
  exact X₁.ldcStringW hexec (own := own) (text := text) (index := is) (a := sa) hown' hstr'.1 hstr'.2
    (g := { method := m, pc := pc + 4, locals := ls, stack := .ref T.heap.size :: .ref T.heap.size :: rest, locked := none }) rfl d4' _ hsteps
end Ends
section Bodies
variable {l : Launch}
theorem vx_ofW {y : MethodName} {ws ws' : List Cond} {rm : Room} {Pc : Array Value → State → Prop} {Qc : Array Value → State → Outcome → State → Prop} {XC : String → State → State → Prop} {mc ms : Nat} {free : Addr → Prop} {cc : ByteArray} {maxL : Nat} {ret : Option FieldType}
    (hy : plainName y.cls = true) (hw : ws = Cond.code y cc maxL ret :: ws')
    (body : ∀ p e s m args below meth c s₁, BodyLoose p l y (headSpec ws rm) cc maxL ret e s m args below meth c s₁ → c.maxLocals = maxL → (∀ x ∈ c.exceptionTable.toList, False) → Pc args s →
      W p l e (headSpec ws rm).room s m args below meth c s.heap [] 0 0 (vx_MQ below Qc XC args s mc ms free) (entryFrame m args maxL)) : vx_Met l y ws rm Pc Qc XC mc ms free := by
  refine MetFree.of_bodyS (code := cc) (maxLocals := maxL) (ret := ret) hy ?_ ?_
  · intro args s m h hn
    obtain ⟨meth, c, h1, h2, h3, h4, h5, h6, -, -⟩ := Cond.code_spec hn (atoms_spec (ws := ws) h _ (by rw [hw]; exact List.mem_cons_self))
    exact ⟨meth, c, h1, h2, h3, h4, h5, h6⟩
  · intro p e s m args below meth c s₁ B hml hP _
    have hh0 : s₁.heap = s.heap := by rw [B.state]; rfl
    have ht : ∀ x ∈ c.exceptionTable.toList, False := by
      obtain ⟨meth9, c9, h1, h2, -, -, -, -, h7, -⟩ := Cond.code_spec B.named (atoms_spec (ws := ws) B.pre _ (by rw [hw]; exact List.mem_cons_self))
      cases Option.some.inj (h1.symm.trans B.method)
      cases Option.some.inj (h2.symm.trans (Stand.of_body B).code)
      intro x hx
      rw [Array.isEmpty_iff.mp h7] at hx
      cases hx
    obtain ⟨t, a1, o, b1, b2, b3⟩ := body p e s m args below meth c s₁ B hml ht hP s₁ hh0 (Stand.of_body B)
    exact ⟨t, o, a1, b1, b2, b3⟩
/-- the table of a body with handlers -/
theorem vx_table {p : Program} {x y : MethodName} {S : Spec} {cc bytes : ByteArray} {maxL maxL' : Nat} {ret ret' : Option FieldType} {e : Env} {s s₁ : State} {m : MethodId} {args : Array Value} {below : List Frame} {meth : Method} {c : Code} {hh : List (Nat × Nat × Nat × Nat)}
    (B : BodyLoose p l y S cc maxL ret e s m args below meth c s₁) (h : (Cond.codeWith y bytes maxL' ret' hh).before args s = true) : c.exceptionTable.toList = tableOf hh := by
  obtain ⟨m9, meth9, c9, hn9, h1, h2, -, -, h6, -⟩ := Cond.codeWith_spec h
  cases Option.some.inj (hn9.symm.trans B.named)
  cases Option.some.inj (h1.symm.trans B.method)
  cases Option.some.inj (h2.symm.trans (Stand.of_body B).code)
  rw [← h6, table_eq]
end Bodies
end VXA
/-! ===== END ===== -/
/-! ===== BEGIN a static call of a method with an exception table ===== -/
section VXS
variable {p : Program} {l : Launch} {e : Env} {R : Room} {s : State} {m : MethodId} {args : Array Value} {below : List Frame} {meth : Method} {c : Code} {T : State} {H : Heap} {locs : List Loc} {cells slots : Nat}
abbrev vx_CSW (R : Room) (s : State) (args : Array Value) (own : String) (index : Nat) (y : MethodName) (bytes : ByteArray) (maxL : Nat) (ret : Option FieldType) (hh : List (Nat × Nat × Nat × Nat)) (ws : List Cond) (rm : Room) (mc ms n : Nat) : Prop :=
  (rm.cells = mc ∧ rm.slots = ms ∧ rm.frames + 1 ≤ R.frames ∧ 8 + (maxL + 11) + rm.locals ≤ R.locals ∧ (∀ w ∈ ws, ∀ (a' : Array Value) (U : State), s.WarmedH U.vm → w.before a' U = true) ∧ Cond.codeWith y bytes maxL ret hh ∈ ws) ∧
  (Cond.codeWith y bytes maxL ret hh).before args s = true ∧ (Cond.initialized y.cls).before args s = true ∧ (y.cls ≠ "java/lang/invoke/MethodHandle" ∧ y.cls ≠ "java/lang/invoke/VarHandle") ∧
  (∀ sig, parseMethodDescriptor y.desc = some sig → n = sig.parameters.length) ∧ (Cond.methodLink own index y).before args s = true ∧ (Cond.static y).before args s = true
theorem vx_cwSW {own : String} {index maxL mc ms : Nat} {y : MethodName} {bytes : ByteArray} {ret : Option FieldType} {hh : List (Nat × Nat × Nat × Nat)} {Ts ws ws' : List Cond} {rm : Room} (n : Nat) (ht : ∀ w ∈ Ts, w.before args s = true) (hT : GoodIn Ts (va_wsS own index y ws)) (hw : ws = Cond.codeWith y bytes maxL ret hh :: ws') (hrc : rm.cells = mc) (hrs : rm.slots = ms)
    (hd : y.cls ≠ "java/lang/invoke/MethodHandle" ∧ y.cls ≠ "java/lang/invoke/VarHandle" ∧ (parseMethodDescriptor y.desc).map (fun d => d.parameters.length) = some n) (hR : rm.frames + 1 ≤ R.frames ∧ 8 + (maxL + 11) + rm.locals ≤ R.locals) :
    vx_CSW R s args own index y bytes maxL ret hh ws rm mc ms n := by
  have ok : ∀ w ∈ va_wsS own index y ws, w.before args s = true := fun w h => ht w (hT w h).1
  have hG : GoodIn Ts ws := fun w h => hT w (by unfold va_wsS; exact List.mem_append_right _ h)
  have hc : Cond.codeWith y bytes maxL ret hh ∈ ws := by rw [hw]; exact List.mem_cons_self
  refine ⟨⟨hrc, hrs, hR.1, hR.2, pay_in ht hG, hc⟩, ht _ (hG _ hc).1, ok _ (by simp [va_wsS]), ⟨hd.1, hd.2.1⟩, fun sig h => ?_, ok _ (by simp [va_wsS]), ok _ (by simp [va_wsS])⟩
  have h2 := hd.2.2
  rw [h] at h2
  exact (Option.some.inj h2).symm
theorem vx_callSW (X : Stand p l e R s m args below meth c T locs cells slots) (hexec : p.tables.exec = Jvm.exec) {own : String} {index : Nat} {y : MethodName} {bytes : ByteArray} {maxL : Nat} {ret : Option FieldType} {hh : List (Nat × Nat × Nat × Nat)}
    (hown : s.vm.findClass own = some m.cls) (hlink : (Cond.methodLink own index y).before args s = true) (hstat : (Cond.static y).before args s = true) (hinit : (Cond.initialized y.cls).before args s = true)
    (hcode : (Cond.codeWith y bytes maxL ret hh).before args s = true) (hy : y.cls ≠ "java/lang/invoke/MethodHandle" ∧ y.cls ≠ "java/lang/invoke/VarHandle")
    {W9 : Nat} {Pre : Pt → Array Value → Prop} {Post : Pt → Array Value → Option Value → Pt → Prop} (hK : Back l R p e below s args y 3 W9 Pre Post)
    {g : JFrame} (hg : g.method = m) (hsize : g.locals.size = c.maxLocals) {argsL rest : List Value} (hlen : ∀ sig, parseMethodDescriptor y.desc = some sig → argsL.length = sig.parameters.length)
    (hstack : g.stack = argsL.reverse ++ rest) (hW : 2 * g.monitorRoom + (rest.map fun v => v.category).sum ≤ W9) (hdg : decode c.code g.pc = .ok (.invokestatic index, 3))
    (hpre : ∀ vm₁, s.WarmedH vm₁ → Pre ⟨T.setVm vm₁, locs, cells, slots⟩ argsL.toArray) :
    ∃ (v : Option Value) (vm₁ : Vm) (B : Pt), s.WarmedH vm₁ ∧ Stand p l e R s m args below meth c B.U B.locs B.cells B.slots ∧ Post ⟨T.setVm vm₁, locs, cells, slots⟩ argsL.toArray v B ∧
      ∀ target, Steps p.tables e below (B.U.setTop { g with pc := g.pc + 3, stack := v.toList ++ rest }) target → Steps p.tables e below (T.setTop g) target := by
  obtain ⟨mk, methM, cM, hnamed, hmethM, -, -, -, -, -, -, hsigM⟩ := Cond.codeWith_spec hcode
  have hstatic : methM.isStatic = true := Cond.static_spec hnamed hmethM hstat
  obtain ⟨kP, hkP, -⟩ := className_of_methodNamed hnamed
  have hinitP : kP.init = .initialized := Cond.initialized_spec (findClass_of_methodNamed hnamed) hkP hinit
  obtain ⟨vm₁, X₁, hstep₁⟩ := X.invokestatic hexec hown hlink hnamed hmethM hstatic hkP hinitP hy (g := g) hg (argsL := argsL) (rest := rest) (hlen _ hsigM) hstack hdg
  obtain ⟨v, B, X', hpost, hsteps⟩ := hK m meth c ⟨T.setVm vm₁, locs, cells, slots⟩ { g with stack := rest } (.invokestatic index) mk argsL.toArray X₁ hg hsize hdg hW (X₁.named hnamed) (hpre vm₁ X₁.warmed)
  exact ⟨v, vm₁, B, X₁.warmed, X', hpost, fun target h => hstep₁ _ fun acts => by rw [doInvoke_state]; exact hsteps.trans h⟩
theorem vx_runSW {y : MethodName} {bytes cc : ByteArray} {maxL nL mc ms n index : Nat} {ret : Option FieldType} {hh : List (Nat × Nat × Nat × Nat)} {ws : List Cond} {rm : Room} {Pc : Array Value → State → Prop} {Qc : Array Value → State → Outcome → State → Prop} {free : Addr → Prop} {Ts : List Cond} {own : String} {As rest : List Value} {g : JFrame}
    (S : CallFix p m c cc nL s args Ts own) (hM : Met l y ws rm Pc Qc mc ms free) (cw : vx_CSW R s args own index y bytes maxL ret hh ws rm mc ms n) (hp : PreS s H Pc As)
    (hg : g.method = m) (hn : As.length = n) (hsize : g.locals.size = nL) (hstack : g.stack = As.reverse ++ rest) (hW : 2 * g.monitorRoom + (rest.map fun v => v.category).sum ≤ 8) (hdg : decode cc g.pc = .ok (.invokestatic index, 3)) (hf : cells + mc ≤ R.cells ∧ slots + ms ≤ R.slots) :
    va_Run p l e R s m args below meth c H locs cells slots mc ms g rest (Qc As.toArray) (free) := by
  obtain ⟨⟨hrc, hrs, hfr, hlo, hws, hcw⟩, hcode, hini, hy, hlen, hl, hstt⟩ := cw
  have hK : Back l R p e below s args y 3 8 (PreOf R mc ms Pc) (PostOf Qc mc ms free) := va_backW (hh := hh) (bytes := bytes) (maxL := maxL) (ret := ret) hM hp.1 hrc hrs hfr hlo hws hcw (fun a' U hW => word_at hW (Or.inl (by first | rfl | simp [Cond.onTables, Cond.keeps, Cond.steady])) hini)
  obtain ⟨hx, hb, hml, ho, -⟩ := S
  intro T hT X
  obtain ⟨v, vm₁, ⟨U', l2, c2, s2⟩, hW₁, X', ⟨g', mk, t, L, e1, e2, hq, h1, hL, h2, h3⟩, st⟩ := vx_callSW X hx (hh := hh) (bytes := bytes) (maxL := maxL) (ret := ret) ho hl hstt hini hcode hy hK hg (hsize.trans hml.symm) (argsL := As) (rest := rest) (fun sig h => hn.trans (hlen sig h)) hstack hW (by rw [hb]; exact hdg)
    (fun vm₁ hW₁ => ⟨hf.1, hf.2, hp.2 (T.setVm vm₁) hT hW₁⟩)
  dsimp only [Pt.U, Pt.locs, Pt.cells, Pt.slots] at X' e1 e2 h1 h2 h3 st
  subst h1; subst h2; subst h3
  exact ⟨v, (T.setVm vm₁).calling g' mk As.toArray, t, U', L, hT, X', hL, e1, e2, hq, st⟩
/-- not caught here, past rows that name other classes: it goes on to the caller -/
theorem vx_outP {p : Program} {l : Launch} {e : Env} {R : Room} {s : State} {m : MethodId} {args : Array Value} {below : List Frame} {meth : Method} {c : Code} {H : Heap} {locs : List Loc} {cells slots : Nat} {free : Addr → Prop} {ls : Array Slot} {rest : List Value} {Qc : Array Value → State → Outcome → State → Prop} {XC : String → State → State → Prop}
    {pc : Nat} {own E : String} {ce : Cell} {q : Addr} {mc ms : Nat} (hown : s.vm.findClass own = some m.cls) (hlocks : meth.locks = false)
    (hpass : ∀ z ∈ c.exceptionTable.toList, covers z pc = false ∨ (z.catchType ≠ 0 ∧ ∃ nm : String, (Cond.classLink own z.catchType nm).before args s = true ∧ va_Nc E nm s)) (hcell : H[q]? = some ce) (hv : ce.vm = .none) (hcl : s.vm.findClass E = some ce.cls)
    (hx : ∀ t : State, t.heap = H → s.vm.Alike t.vm → XC E s t) (hf : ∀ z ∈ locs, free z.base) (hc : cells ≤ mc) (hs : slots ≤ ms) :
    vx_W p l e R s m args below meth c H locs cells slots (vx_MQ below Qc XC args s mc ms free) (F0 m pc ls rest) q := by
  intro T hT X
  have hpl : e.platform.magicAccessors = ({} : Platform).magicAccessors := by rw [X.admits.platform]
  obtain ⟨vm', hW', X', st⟩ := X.outThrough hlocks q (g := F0 m pc ls rest) rfl rfl rfl (cell := ce) (by rw [hT]; exact hcell) (by rw [hv]; rfl)
    (by obtain ⟨k9, h9, -⟩ := Vm.findClass_spec hcl; exact ⟨k9, h9⟩) (fun z hz => by
      rcases hpass z hz with h | ⟨hz0, nm, hl1, hn1⟩
      · exact Or.inl h
      · obtain ⟨c6, hc6, hcl6⟩ := Cond.classLink_spec hown hl1 e.platform hpl
        obtain ⟨a8, b8, h1, h2, h3⟩ := hn1
        cases Option.some.inj (h1.symm.trans hcl)
        cases Option.some.inj (h2.symm.trans hc6)
        exact Or.inr ⟨hz0, _, hcl6, h3⟩)
  obtain ⟨g₀, hfr⟩ := X'.frames_eq
  have hcell9 : ((T.setVm vm').setFrames (.throwing q :: below)).heap[q]? = some ce := by
    show T.heap[q]? = some ce
    rw [hT]; exact hcell
  have hend : Ended ((T.setVm vm').setFrames (.throwing q :: below)) below (.threw q) := State.frames_setFrames _ (State.cur_lt_of_frames hfr)
  refine ⟨(T.setVm vm').setFrames (.throwing q :: below), ?_, .threw q, X'.here.running, hend, Or.inr ⟨q, rfl, E, ce, locs, hx _ hT (X'.ends _).1.alike, hcell9, hv, hcl, (X'.ends _).1, (X'.ends _).2.mono hc hs, hf⟩⟩
  rw [X.pushThrowing_eq]
  exact st
/-- a thing of a world lies in the heap -/
theorem vx_lt {D : va_G} {cl : List vw_C} {ws : va_W} {H1 : Heap} (h : va_P D cl ws H1) {k : Nat} {q : Nat × va_E} (hk : ws[k]? = some q) : q.1 < H1.size := (h k q hk).lt
end VXS
/-! ===== END ===== -/
/-! ===== BEGIN methods with a table of their own: called by a name, returning or throwing ===== -/
section VXH
/-! vx_backW, vx_callVX, vx_callSX, vx_callVW, vx_runVW, vx_runVX, vx_runSX, vx_ofWH follow the same proofs as their sisters above (Free/Laws.lean, Shelf42/LK1.lean); vx_outP calls Shelf42/NT130.lean (outThrough). -/
section
variable {l : Launch} {R : Room} {p : Program} {e : Env} {below : List Frame} {s : State} {sargs : Array Value} {y : MethodName} {len W9 : Nat}
theorem vx_backW {ws : List Cond} {rm : Room} {Pc : Array Value → State → Prop} {Qc : Array Value → State → Outcome → State → Prop} {XC : String → State → State → Prop} {mc ms : Nat} {free : Addr → Prop} {bytes : ByteArray} {maxL : Nat} {ret : Option FieldType} {hh : List (Nat × Nat × Nat × Nat)}
    (hM : vx_Met l y ws rm Pc Qc XC mc ms free) (hblind : FrameBlind Pc) (hrc : rm.cells = mc) (hrs : rm.slots = ms)
    (hframes : rm.frames + 1 ≤ R.frames) (hlocals : W9 + (maxL + 11) + rm.locals ≤ R.locals)
    (hws : ∀ w ∈ ws, ∀ a' U, s.WarmedH U.vm → w.before a' U = true) (hcode : Cond.codeWith y bytes maxL ret hh ∈ ws) (hinit : ∀ a' U, s.WarmedH U.vm → (Cond.initialized y.cls).before a' U = true) :
    vx_Back l R p e below s sargs y len W9 (PreOf R mc ms Pc) (PostOf Qc mc ms free) (vx_Post XC mc ms free) := by
  intro m meth c A g ig mk a X hg hsize hdg hW hn hp
  have h1 : (headSpec ws rm).pre.before a A.U = true := atoms_intro fun w hw => hws w hw _ _ X.warmed
  have h2 : (Cond.codeWith y bytes maxL ret hh).before a A.U = true := hws _ hcode _ _ X.warmed
  have h3 : (Cond.initialized y.cls).before a A.U = true := hinit _ _ X.warmed
  have h4 : A.cells + (headSpec ws rm).room.cells ≤ R.cells := by rw [show (headSpec ws rm).room.cells = mc from hrc]; exact hp.1
  have h5 : A.slots + (headSpec ws rm).room.slots ≤ R.slots := by rw [show (headSpec ws rm).room.slots = ms from hrs]; exact hp.2.1
  have hPc : Pc a (A.U.calling g mk a) := hblind _ _ _ _ hp.2.2
  obtain ⟨U, Ls, c0, s0⟩ := A
  dsimp only [Pt.U, Pt.locs, Pt.cells, Pt.slots] at h1 h2 h3 h4 h5 X hn hPc ⊢
  obtain ⟨m9, methY, cY, hn9, hmY, hcY, -, hlY, -⟩ := Cond.codeWith_spec h2
  cases Option.some.inj (hn9.symm.trans hn)
  obtain ⟨kY, hkY, -⟩ := className_of_methodNamed hn
  have hinitY : kY.init = .initialized := Cond.initialized_spec (findClass_of_methodNamed hn) hkY h3
  have h : At U g.method c below := by rw [hg]; exact X.here
  have hlocals9 : W9 + (maxL + 11) + (headSpec ws rm).room.locals ≤ R.locals := hlocals
  have happ : (headSpec ws rm).appliesLoose y e.platform (U.calling g mk a) = true :=
    Spec.appliesLoose_calling (g := g) h hdg hn hkY hinitY
      (X.room_calling (g := g) (R' := (headSpec ws rm).room) hsize hmY hcY hframes (by rw [hlY]; omega) h4 h5) h1
  obtain ⟨mid, hmid⟩ := h.above
  have hfr : (U.setTop g).frames = (.java g :: mid) ++ below := by rw [State.frames_setTop' g h.top, hmid]; rfl
  obtain ⟨o, s₂, hsteps, -, hend, hq⟩ := Steps.callFree hM p X.admits X.cas X.clock (acts := []) hfr happ hPc trivial
  have hq' : vx_Q Qc XC mc ms free a (U.calling g mk a) o s₂ := hq
  rw [State.frames_setTop' g h.top] at hend
  obtain ⟨g₀, hg0⟩ := Option.isSome_iff_exists.mp h.top
  obtain ⟨r, hr⟩ := State.topJava?_eq_some.mp hg0
  have hr' : (({ U with heap := s₂.heap, slotsUsed := s₂.slotsUsed } : State).setVm s₂.vm).frames = .java g₀ :: r := hr
  rcases hq' with ⟨hqc, L, hfe, hL⟩ | ⟨q, rfl, E, ce, L, hx, hce, hcv, hcl, hW₂, hsm, hL⟩
  · obtain ⟨⟨v, rfl⟩, hW₂, e2, q2, q3, q4, q5, q6⟩ := id hfe
    have e3 : s₂ = ({ (U.calling g mk a).setFrames s₂.frames with heap := s₂.heap, slotsUsed := s₂.slotsUsed } : State).setVm s₂.vm := by
      have : s₂ = ({ s₂ with vm := (U.calling g mk a).vm } : State).setVm s₂.vm := rfl
      rw [e2] at this
      exact this
    obtain ⟨c₂, i₂, len₂, hc₂, hd₂, hf₂⟩ := hend
    have hW' : U.WarmedH s₂.vm := hW₂
    have hcc : c₂ = c := by
      have h1 : s₂.code? g.method = U.code? g.method := by
        rw [State.code?_eq, State.code?_eq, hW'.alike.method?]
      exact Option.some.inj (hc₂.symm.trans (h1.trans h.code))
    subst hcc
    have hlen : len₂ = len := by rw [hdg] at hd₂; cases hd₂; rfl
    subst hlen
    have hs₂ : s₂ = (({ U with heap := s₂.heap, slotsUsed := s₂.slotsUsed } : State).setVm s₂.vm).setTop { g with pc := g.pc + len₂, stack := v.toList ++ g.stack } := by
      refine e3.trans ?_
      rw [hf₂, State.calling_eq h.top, State.setFrames_setFrames, State.setTop_of_frames _ hr', hr]
      rfl
    have hsame : U.sameButNew ({ U with heap := s₂.heap, slotsUsed := s₂.slotsUsed } : State) L mc ms := by
      refine ⟨?_, q2, q3, q4, q5, q6⟩
      obtain ⟨t, ht, -⟩ := State.frames_cons hr
      show ({ U with heap := s₂.heap, slotsUsed := s₂.slotsUsed } : State) = { U.setFrames U.frames with heap := s₂.heap, slotsUsed := s₂.slotsUsed }
      rw [State.setFrames_self ht]
    subst hg
    refine Or.inl ⟨v, ⟨(({ U with heap := s₂.heap, slotsUsed := s₂.slotsUsed } : State).setVm s₂.vm), Ls ++ L, c0 + mc, s0 + ms⟩,
      ⟨X.admits, X.cas, X.clock, X.frames, X.room, X.hears, X.method, X.code, (X.here.setHeapUsed s₂.heap s₂.slotsUsed).setVm hW'.alike, X.tail, State.WarmedH.trans X.warmed hW', X.limits, X.bytes, X.same.trans (hsame.setVm s.vm)⟩,
      ⟨g, mk, s₂, L, rfl, rfl, hqc, rfl, hL, rfl, rfl⟩, ?_⟩
    show Steps p.tables e below _ ((({ U with heap := s₂.heap, slotsUsed := s₂.slotsUsed } : State).setVm s₂.vm).setTop { g with pc := g.pc + len₂, stack := v.toList ++ g.stack })
    rw [← hs₂]
    exact hsteps
  · obtain ⟨e2, q2, q3, q4, q5, q6⟩ := id hsm
    have e3 : s₂ = ({ (U.calling g mk a).setFrames s₂.frames with heap := s₂.heap, slotsUsed := s₂.slotsUsed } : State).setVm s₂.vm := by
      have : s₂ = ({ s₂ with vm := (U.calling g mk a).vm } : State).setVm s₂.vm := rfl
      rw [e2] at this
      exact this
    have hf₂ : s₂.frames = .throwing q :: .java g :: U.frames.tail := hend
    have hW' : U.WarmedH s₂.vm := hW₂
    have hs₂ : s₂ = ((({ U with heap := s₂.heap, slotsUsed := s₂.slotsUsed } : State).setVm s₂.vm).setTop g).pushFrame (.throwing q) := by
      refine e3.trans ?_
      rw [hf₂, State.calling_eq h.top, State.setFrames_setFrames, State.pushFrame, State.frames_setTop _ hr', State.setTop_of_frames _ hr', State.setFrames_setFrames, hr]
      rfl
    have hsame : U.sameButNew ({ U with heap := s₂.heap, slotsUsed := s₂.slotsUsed } : State) L mc ms := by
      refine ⟨?_, q2, q3, q4, q5, q6⟩
      obtain ⟨t, ht, -⟩ := State.frames_cons hr
      show ({ U with heap := s₂.heap, slotsUsed := s₂.slotsUsed } : State) = { U.setFrames U.frames with heap := s₂.heap, slotsUsed := s₂.slotsUsed }
      rw [State.setFrames_self ht]
    subst hg
    refine Or.inr ⟨q, ⟨(({ U with heap := s₂.heap, slotsUsed := s₂.slotsUsed } : State).setVm s₂.vm), Ls ++ L, c0 + mc, s0 + ms⟩,
      ⟨X.admits, X.cas, X.clock, X.frames, X.room, X.hears, X.method, X.code, (X.here.setHeapUsed s₂.heap s₂.slotsUsed).setVm hW'.alike, X.tail, State.WarmedH.trans X.warmed hW', X.limits, X.bytes, X.same.trans (hsame.setVm s.vm)⟩,
      ⟨g, mk, s₂, L, E, ce, rfl, rfl, hx, hce, hcv, hcl, rfl, hL, rfl, rfl⟩, ?_⟩
    show Steps p.tables e below _ (((({ U with heap := s₂.heap, slotsUsed := s₂.slotsUsed } : State).setVm s₂.vm).setTop g).pushFrame (.throwing q))
    rw [← hs₂]
    exact hsteps
end
variable {p : Program} {l : Launch} {e : Env} {R : Room} {s : State} {m : MethodId} {args : Array Value} {below : List Frame} {meth : Method} {c : Code} {T : State} {H : Heap} {locs : List Loc} {cells slots : Nat}
theorem vx_callVX (X : Stand p l e R s m args below meth c T locs cells slots) (hexec : p.tables.exec = Jvm.exec) {own C : String} {index : Nat} {y : MethodName} {bytes : ByteArray} {maxL : Nat} {ret : Option FieldType} {hh : List (Nat × Nat × Nat × Nat)}
    (hown : s.vm.findClass own = some m.cls) (hlink : (Cond.methodLink own index y).before args s = true) (hinst : (Cond.instanceMethod y).before args s = true) (hsel : (Cond.selects C y y).before args s = true)
    (hcode : (Cond.codeWith y bytes maxL ret hh).before args s = true) (hy : y.cls ≠ "java/lang/invoke/MethodHandle" ∧ y.cls ≠ "java/lang/invoke/VarHandle")
    {W9 : Nat} {Pre : Pt → Array Value → Prop} {Post : Pt → Array Value → Option Value → Pt → Prop} {PostX : Pt → Array Value → Addr → Pt → Prop} (hK : vx_Back l R p e below s args y 3 W9 Pre Post PostX)
    {b : Addr} {cellB : Cell} (hcell : T.heap[b]? = some cellB) (hobj : cellB.vm.isStatics = false) (hcls : s.vm.findClass C = some cellB.cls)
    {g : JFrame} (hg : g.method = m) (hsize : g.locals.size = c.maxLocals) {argsL rest : List Value} (hlen : ∀ sig, parseMethodDescriptor y.desc = some sig → argsL.length = sig.parameters.length)
    (hstack : g.stack = argsL.reverse ++ .ref b :: rest) (hW : 2 * g.monitorRoom + (rest.map fun v => v.category).sum ≤ W9) (hdg : decode c.code g.pc = .ok (.invokevirtual index, 3))
    (hpre : ∀ vm₁, s.WarmedH vm₁ → Pre ⟨T.setVm vm₁, locs, cells, slots⟩ (Value.ref b :: argsL).toArray) :
    (∃ (v : Option Value) (vm₁ : Vm) (B : Pt), s.WarmedH vm₁ ∧ Stand p l e R s m args below meth c B.U B.locs B.cells B.slots ∧ Post ⟨T.setVm vm₁, locs, cells, slots⟩ (Value.ref b :: argsL).toArray v B ∧
      ∀ target, Steps p.tables e below (B.U.setTop { g with pc := g.pc + 3, stack := v.toList ++ rest }) target → Steps p.tables e below (T.setTop g) target) ∨
    (∃ (q : Addr) (vm₁ : Vm) (B : Pt), s.WarmedH vm₁ ∧ Stand p l e R s m args below meth c B.U B.locs B.cells B.slots ∧ PostX ⟨T.setVm vm₁, locs, cells, slots⟩ (Value.ref b :: argsL).toArray q B ∧
      Steps p.tables e below (T.setTop g) ((B.U.setTop { g with stack := rest }).pushFrame (.throwing q))) := by
  obtain ⟨mk, methM, hnamed, hmethM, hstM, habM⟩ := Cond.instanceMethod_spec hinst
  obtain ⟨m8, methM', cM, hn8, hmethM', -, -, -, -, -, -, hsigM⟩ := Cond.codeWith_spec hcode
  cases Option.some.inj (hn8.symm.trans hnamed)
  cases hmethM.symm.trans hmethM'
  obtain ⟨c2, r2, m2, q1, q2, q3, q4, kP, hkP, hkPi⟩ := Cond.selects_spec hsel
  cases hcls.symm.trans q1
  cases (State.methodFound?_of_named hnamed hy).symm.trans q2
  cases hnamed.symm.trans q3
  have hselP : selectMethod e.platform s.vm cellB.cls mk = .method mk := by rw [Launch.admits_selectMethod X.admits]; exact q4
  obtain ⟨vm₁, X₁, hstep₁⟩ := X.invokevirtual hexec hown hlink hnamed hmethM hstM hkP hkPi hy (a := b) (cell := cellB) hcell
    (fun z h => by rw [h] at hobj; cases hobj) hselP hmethM habM hkP hkPi (g := g) hg (argsL := argsL) (rest := rest) (hlen _ hsigM) hstack hdg
  rcases hK m meth c ⟨T.setVm vm₁, locs, cells, slots⟩ { g with stack := rest } (.invokevirtual index) mk (Value.ref b :: argsL).toArray X₁ hg hsize hdg hW (X₁.named hnamed) (hpre vm₁ X₁.warmed) with ⟨v, B, X', hpost, hsteps⟩ | ⟨q, B, X', hpost, hsteps⟩
  · exact Or.inl ⟨v, vm₁, B, X₁.warmed, X', hpost, fun target h => hstep₁ _ fun acts => by rw [doInvoke_state]; exact hsteps.trans h⟩
  · exact Or.inr ⟨q, vm₁, B, X₁.warmed, X', hpost, hstep₁ _ fun acts => by rw [doInvoke_state]; exact hsteps⟩
theorem vx_callSX (X : Stand p l e R s m args below meth c T locs cells slots) (hexec : p.tables.exec = Jvm.exec) {own : String} {index : Nat} {y : MethodName} {bytes : ByteArray} {maxL : Nat} {ret : Option FieldType} {hh : List (Nat × Nat × Nat × Nat)}
    (hown : s.vm.findClass own = some m.cls) (hlink : (Cond.methodLink own index y).before args s = true) (hstat : (Cond.static y).before args s = true) (hinit : (Cond.initialized y.cls).before args s = true)
    (hcode : (Cond.codeWith y bytes maxL ret hh).before args s = true) (hy : y.cls ≠ "java/lang/invoke/MethodHandle" ∧ y.cls ≠ "java/lang/invoke/VarHandle")
    {W9 : Nat} {Pre : Pt → Array Value → Prop} {Post : Pt → Array Value → Option Value → Pt → Prop} {PostX : Pt → Array Value → Addr → Pt → Prop} (hK : vx_Back l R p e below s args y 3 W9 Pre Post PostX)
    {g : JFrame} (hg : g.method = m) (hsize : g.locals.size = c.maxLocals) {argsL rest : List Value} (hlen : ∀ sig, parseMethodDescriptor y.desc = some sig → argsL.length = sig.parameters.length)
    (hstack : g.stack = argsL.reverse ++ rest) (hW : 2 * g.monitorRoom + (rest.map fun v => v.category).sum ≤ W9) (hdg : decode c.code g.pc = .ok (.invokestatic index, 3))
    (hpre : ∀ vm₁, s.WarmedH vm₁ → Pre ⟨T.setVm vm₁, locs, cells, slots⟩ argsL.toArray) :
    (∃ (v : Option Value) (vm₁ : Vm) (B : Pt), s.WarmedH vm₁ ∧ Stand p l e R s m args below meth c B.U B.locs B.cells B.slots ∧ Post ⟨T.setVm vm₁, locs, cells, slots⟩ argsL.toArray v B ∧
      ∀ target, Steps p.tables e below (B.U.setTop { g with pc := g.pc + 3, stack := v.toList ++ rest }) target → Steps p.tables e below (T.setTop g) target) ∨
    (∃ (q : Addr) (vm₁ : Vm) (B : Pt), s.WarmedH vm₁ ∧ Stand p l e R s m args below meth c B.U B.locs B.cells B.slots ∧ PostX ⟨T.setVm vm₁, locs, cells, slots⟩ argsL.toArray q B ∧
      Steps p.tables e below (T.setTop g) ((B.U.setTop { g with stack := rest }).pushFrame (.throwing q))) := by
  obtain ⟨mk, methM, cM, hnamed, hmethM, -, -, -, -, -, -, hsigM⟩ := Cond.codeWith_spec hcode
  have hstatic : methM.isStatic = true := Cond.static_spec hnamed hmethM hstat
  obtain ⟨kP, hkP, -⟩ := className_of_methodNamed hnamed
  have hinitP : kP.init = .initialized := Cond.initialized_spec (findClass_of_methodNamed hnamed) hkP hinit
  obtain ⟨vm₁, X₁, hstep₁⟩ := X.invokestatic hexec hown hlink hnamed hmethM hstatic hkP hinitP hy (g := g) hg (argsL := argsL) (rest := rest) (hlen _ hsigM) hstack hdg
  rcases hK m meth c ⟨T.setVm vm₁, locs, cells, slots⟩ { g with stack := rest } (.invokestatic index) mk argsL.toArray X₁ hg hsize hdg hW (X₁.named hnamed) (hpre vm₁ X₁.warmed) with ⟨v, B, X', hpost, hsteps⟩ | ⟨q, B, X', hpost, hsteps⟩
  · exact Or.inl ⟨v, vm₁, B, X₁.warmed, X', hpost, fun target h => hstep₁ _ fun acts => by rw [doInvoke_state]; exact hsteps.trans h⟩
  · exact Or.inr ⟨q, vm₁, B, X₁.warmed, X', hpost, hstep₁ _ fun acts => by rw [doInvoke_state]; exact hsteps⟩
theorem vx_callVW (X : Stand p l e R s m args below meth c T locs cells slots) (hexec : p.tables.exec = Jvm.exec) {own C : String} {index : Nat} {y : MethodName} {bytes : ByteArray} {maxL : Nat} {ret : Option FieldType} {hh : List (Nat × Nat × Nat × Nat)}
    (hown : s.vm.findClass own = some m.cls) (hlink : (Cond.methodLink own index y).before args s = true) (hinst : (Cond.instanceMethod y).before args s = true) (hsel : (Cond.selects C y y).before args s = true)
    (hcode : (Cond.codeWith y bytes maxL ret hh).before args s = true) (hy : y.cls ≠ "java/lang/invoke/MethodHandle" ∧ y.cls ≠ "java/lang/invoke/VarHandle")
    {W9 : Nat} {Pre : Pt → Array Value → Prop} {Post : Pt → Array Value → Option Value → Pt → Prop} (hK : Back l R p e below s args y 3 W9 Pre Post)
    {b : Addr} {cellB : Cell} (hcell : T.heap[b]? = some cellB) (hobj : cellB.vm.isStatics = false) (hcls : s.vm.findClass C = some cellB.cls)
    {g : JFrame} (hg : g.method = m) (hsize : g.locals.size = c.maxLocals) {argsL rest : List Value} (hlen : ∀ sig, parseMethodDescriptor y.desc = some sig → argsL.length = sig.parameters.length)
    (hstack : g.stack = argsL.reverse ++ .ref b :: rest) (hW : 2 * g.monitorRoom + (rest.map fun v => v.category).sum ≤ W9) (hdg : decode c.code g.pc = .ok (.invokevirtual index, 3))
    (hpre : ∀ vm₁, s.WarmedH vm₁ → Pre ⟨T.setVm vm₁, locs, cells, slots⟩ (Value.ref b :: argsL).toArray) :
    ∃ (v : Option Value) (vm₁ : Vm) (B : Pt), s.WarmedH vm₁ ∧ Stand p l e R s m args below meth c B.U B.locs B.cells B.slots ∧ Post ⟨T.setVm vm₁, locs, cells, slots⟩ (Value.ref b :: argsL).toArray v B ∧
      ∀ target, Steps p.tables e below (B.U.setTop { g with pc := g.pc + 3, stack := v.toList ++ rest }) target → Steps p.tables e below (T.setTop g) target := by
  obtain ⟨mk, methM, hnamed, hmethM, hstM, habM⟩ := Cond.instanceMethod_spec hinst
  obtain ⟨m8, methM', cM, hn8, hmethM', -, -, -, -, -, -, hsigM⟩ := Cond.codeWith_spec hcode
  cases Option.some.inj (hn8.symm.trans hnamed)
  cases hmethM.symm.trans hmethM'
  obtain ⟨c2, r2, m2, q1, q2, q3, q4, kP, hkP, hkPi⟩ := Cond.selects_spec hsel
  cases hcls.symm.trans q1
  cases (State.methodFound?_of_named hnamed hy).symm.trans q2
  cases hnamed.symm.trans q3
  have hselP : selectMethod e.platform s.vm cellB.cls mk = .method mk := by rw [Launch.admits_selectMethod X.admits]; exact q4
  obtain ⟨vm₁, X₁, hstep₁⟩ := X.invokevirtual hexec hown hlink hnamed hmethM hstM hkP hkPi hy (a := b) (cell := cellB) hcell
    (fun z h => by rw [h] at hobj; cases hobj) hselP hmethM habM hkP hkPi (g := g) hg (argsL := argsL) (rest := rest) (hlen _ hsigM) hstack hdg
  obtain ⟨v, B, X', hpost, hsteps⟩ := hK m meth c ⟨T.setVm vm₁, locs, cells, slots⟩ { g with stack := rest } (.invokevirtual index) mk (Value.ref b :: argsL).toArray X₁ hg hsize hdg hW (X₁.named hnamed) (hpre vm₁ X₁.warmed)
  exact ⟨v, vm₁, B, X₁.warmed, X', hpost, fun target h => hstep₁ _ fun acts => by rw [doInvoke_state]; exact hsteps.trans h⟩
abbrev vx_CVW (R : Room) (s : State) (args : Array Value) (own C : String) (index : Nat) (y : MethodName) (bytes : ByteArray) (maxL : Nat) (ret : Option FieldType) (hh : List (Nat × Nat × Nat × Nat)) (ws : List Cond) (rm : Room) (mc ms n : Nat) : Prop :=
  (rm.cells = mc ∧ rm.slots = ms ∧ rm.frames + 1 ≤ R.frames ∧ 8 + (maxL + 11) + rm.locals ≤ R.locals ∧ (∀ w ∈ ws, ∀ (a' : Array Value) (U : State), s.WarmedH U.vm → w.before a' U = true) ∧ Cond.codeWith y bytes maxL ret hh ∈ ws) ∧
  (Cond.codeWith y bytes maxL ret hh).before args s = true ∧ (Cond.initialized y.cls).before args s = true ∧ (y.cls ≠ "java/lang/invoke/MethodHandle" ∧ y.cls ≠ "java/lang/invoke/VarHandle") ∧
  (∀ sig, parseMethodDescriptor y.desc = some sig → n = sig.parameters.length) ∧ (Cond.methodLink own index y).before args s = true ∧ (Cond.instanceMethod y).before args s = true ∧ (Cond.selects C y y).before args s = true
theorem vx_cwVW {own C : String} {index maxL mc ms : Nat} {y : MethodName} {bytes : ByteArray} {ret : Option FieldType} {hh : List (Nat × Nat × Nat × Nat)} {Ts ws ws' : List Cond} {rm : Room} (n : Nat) (ht : ∀ w ∈ Ts, w.before args s = true) (hT : GoodIn Ts (wsV own index C y ws)) (hw : ws = Cond.codeWith y bytes maxL ret hh :: ws') (hrc : rm.cells = mc) (hrs : rm.slots = ms)
    (hd : y.cls = C ∧ y.cls ≠ "java/lang/invoke/MethodHandle" ∧ y.cls ≠ "java/lang/invoke/VarHandle" ∧ (parseMethodDescriptor y.desc).map (fun d => d.parameters.length) = some n) (hR : rm.frames + 1 ≤ R.frames ∧ 8 + (maxL + 11) + rm.locals ≤ R.locals) :
    vx_CVW R s args own C index y bytes maxL ret hh ws rm mc ms n := by
  obtain ⟨hC, hd⟩ := hd
  subst hC
  have ok : ∀ w ∈ wsV own index y.cls y ws, w.before args s = true := fun w h => ht w (hT w h).1
  have hG : GoodIn Ts ws := fun w h => hT w (by unfold wsV; exact List.mem_append_right _ h)
  have hc : Cond.codeWith y bytes maxL ret hh ∈ ws := by rw [hw]; exact List.mem_cons_self
  refine ⟨⟨hrc, hrs, hR.1, hR.2, pay_in ht hG, hc⟩, ht _ (hG _ hc).1, ok _ (by simp [wsV]), ⟨hd.1, hd.2.1⟩, fun sig h => ?_, ok _ (by simp [wsV]), ok _ (by simp [wsV]), ok _ (by simp [wsV])⟩
  have h2 := hd.2.2
  rw [h] at h2
  exact (Option.some.inj h2).symm
theorem vx_runVW {y : MethodName} {bytes cc : ByteArray} {maxL nL mc ms n index : Nat} {ret : Option FieldType} {hh : List (Nat × Nat × Nat × Nat)} {ws : List Cond} {rm : Room} {Pc : Array Value → State → Prop} {Qc : Array Value → State → Outcome → State → Prop} {free : Addr → Prop} {Ts : List Cond} {own C : String} {b : Addr} {As rest : List Value} {g : JFrame}
    (S : CallFix p m c cc nL s args Ts own) (hM : Met l y ws rm Pc Qc mc ms free) (cw : vx_CVW R s args own C index y bytes maxL ret hh ws rm mc ms n) (hp : PreV s H C b Pc As)
    (hg : g.method = m) (hn : As.length = n) (hsize : g.locals.size = nL) (hstack : g.stack = As.reverse ++ .ref b :: rest) (hW : 2 * g.monitorRoom + (rest.map fun v => v.category).sum ≤ 8) (hdg : decode cc g.pc = .ok (.invokevirtual index, 3)) (hf : cells + mc ≤ R.cells ∧ slots + ms ≤ R.slots) :
    va_Run p l e R s m args below meth c H locs cells slots mc ms g rest (Qc (Value.ref b :: As).toArray) free := by
  obtain ⟨⟨hrc, hrs, hfr, hlo, hws, hcw⟩, hcode, hini, hy, hlen, hl, hin, hse⟩ := cw
  have hK : Back l R p e below s args y 3 8 (PreOf R mc ms Pc) (PostOf Qc mc ms free) := va_backW (hh := hh) (bytes := bytes) (maxL := maxL) (ret := ret) hM hp.1 hrc hrs hfr hlo hws hcw (fun a' U hW => word_at hW (Or.inl (by first | rfl | simp [Cond.onTables, Cond.keeps, Cond.steady])) hini)
  obtain ⟨hx, hb, hml, ho, -⟩ := S
  obtain ⟨-, ⟨cellB, hcB, hoB, hclB⟩, hPc⟩ := hp
  intro T hT X
  obtain ⟨v, vm₁, ⟨U', l2, c2, s2⟩, hW₁, X', ⟨g', mk, t, L, e1, e2, hq, h1, hL, h2, h3⟩, st⟩ := vx_callVW X hx (C := C) (hh := hh) (bytes := bytes) (maxL := maxL) (ret := ret) ho hl hin hse hcode hy hK (by rw [hT]; exact hcB) hoB hclB hg (hsize.trans hml.symm) (argsL := As) (rest := rest) (fun sig h => hn.trans (hlen sig h)) hstack hW (by rw [hb]; exact hdg)
    (fun vm₁ hW₁ => ⟨hf.1, hf.2, hPc (T.setVm vm₁) hT hW₁⟩)
  dsimp only [Pt.U, Pt.locs, Pt.cells, Pt.slots] at X' e1 e2 h1 h2 h3 st
  subst h1; subst h2; subst h3
  exact ⟨v, (T.setVm vm₁).calling g' mk (Value.ref b :: As).toArray, t, U', L, hT, X', hL, e1, e2, hq, st⟩
section
variable {y : MethodName} {bytes cc : ByteArray} {maxL nL mc ms n index : Nat} {ret : Option FieldType} {ws : List Cond} {rm : Room} {Pc : Array Value → State → Prop} {Qc : Array Value → State → Outcome → State → Prop} {XC : String → State → State → Prop} {free : Addr → Prop} {Ts : List Cond} {own C : String} {b : Addr} {As rest : List Value} {g : JFrame}
theorem vx_runVX {hh : List (Nat × Nat × Nat × Nat)} (S : CallFix p m c cc nL s args Ts own) (hM : vx_Met l y ws rm Pc Qc XC mc ms free) (cw : vx_CVW R s args own C index y bytes maxL ret hh ws rm mc ms n) (hp : PreV s H C b Pc As)
    (hg : g.method = m) (hn : As.length = n) (hsize : g.locals.size = nL) (hstack : g.stack = As.reverse ++ .ref b :: rest) (hW : 2 * g.monitorRoom + (rest.map fun v => v.category).sum ≤ 8) (hdg : decode cc g.pc = .ok (.invokevirtual index, 3)) (hf : cells + mc ≤ R.cells ∧ slots + ms ≤ R.slots) :
    vx_Run p l e R s m args below meth c H locs cells slots mc ms g rest (Qc (Value.ref b :: As).toArray) XC free := by
  obtain ⟨⟨hrc, hrs, hfr, hlo, hws, hcw⟩, hcode, hini, hy, hlen, hl, hin, hse⟩ := cw
  have hK : vx_Back l R p e below s args y 3 8 (PreOf R mc ms Pc) (PostOf Qc mc ms free) (vx_Post XC mc ms free) := vx_backW (hh := hh) (bytes := bytes) (maxL := maxL) (ret := ret) hM hp.1 hrc hrs hfr hlo hws hcw (fun a' U hW => word_at hW (Or.inl (by first | rfl | simp [Cond.onTables, Cond.keeps, Cond.steady])) hini)
  obtain ⟨hx, hb, hml, ho, -⟩ := S
  obtain ⟨-, ⟨cellB, hcB, hoB, hclB⟩, hPc⟩ := hp
  intro T hT X
  rcases vx_callVX X hx (C := C) (hh := hh) (bytes := bytes) (maxL := maxL) (ret := ret) ho hl hin hse hcode hy hK (by rw [hT]; exact hcB) hoB hclB hg (hsize.trans hml.symm) (argsL := As) (rest := rest) (fun sig h => hn.trans (hlen sig h)) hstack hW (by rw [hb]; exact hdg)
    (fun vm₁ hW₁ => ⟨hf.1, hf.2, hPc (T.setVm vm₁) hT hW₁⟩) with ⟨v, vm₁, ⟨U', l2, c2, s2⟩, hW₁, X', ⟨g', mk, t, L, e1, e2, hq, h1, hL, h2, h3⟩, st⟩ | ⟨q, vm₁, ⟨U', l2, c2, s2⟩, hW₁, X', ⟨g', mk, t, L, E, ce, e1, e2, hq, hce, hcv, hcl, h1, hL, h2, h3⟩, st⟩
  · dsimp only [Pt.U, Pt.locs, Pt.cells, Pt.slots] at X' e1 e2 h1 h2 h3 st
    subst h1; subst h2; subst h3
    exact Or.inl ⟨v, (T.setVm vm₁).calling g' mk (Value.ref b :: As).toArray, t, U', L, hT, X', hL, e1, e2, hq, st⟩
  · dsimp only [Pt.U, Pt.locs, Pt.cells, Pt.slots] at X' e1 e2 h1 h2 h3 st hcl
    subst h1; subst h2; subst h3
    exact Or.inr ⟨q, (T.setVm vm₁).calling g' mk (Value.ref b :: As).toArray, t, U', L, E, ce, hT, X', hL, e1, e2, hq, hce, hcv, vx_cls hW₁ hcl, st⟩
theorem vx_runSX {hh : List (Nat × Nat × Nat × Nat)} (S : CallFix p m c cc nL s args Ts own) (hM : vx_Met l y ws rm Pc Qc XC mc ms free) (cw : vx_CSW R s args own index y bytes maxL ret hh ws rm mc ms n) (hp : PreS s H Pc As)
    (hg : g.method = m) (hn : As.length = n) (hsize : g.locals.size = nL) (hstack : g.stack = As.reverse ++ rest) (hW : 2 * g.monitorRoom + (rest.map fun v => v.category).sum ≤ 8) (hdg : decode cc g.pc = .ok (.invokestatic index, 3)) (hf : cells + mc ≤ R.cells ∧ slots + ms ≤ R.slots) :
    vx_Run p l e R s m args below meth c H locs cells slots mc ms g rest (Qc As.toArray) XC free := by
  obtain ⟨⟨hrc, hrs, hfr, hlo, hws, hcw⟩, hcode, hini, hy, hlen, hl, hstt⟩ := cw
  have hK : vx_Back l R p e below s args y 3 8 (PreOf R mc ms Pc) (PostOf Qc mc ms free) (vx_Post XC mc ms free) := vx_backW (hh := hh) (bytes := bytes) (maxL := maxL) (ret := ret) hM hp.1 hrc hrs hfr hlo hws hcw (fun a' U hW => word_at hW (Or.inl (by first | rfl | simp [Cond.onTables, Cond.keeps, Cond.steady])) hini)
  obtain ⟨hx, hb, hml, ho, -⟩ := S
  intro T hT X
  rcases vx_callSX X hx (hh := hh) (bytes := bytes) (maxL := maxL) (ret := ret) ho hl hstt hini hcode hy hK hg (hsize.trans hml.symm) (argsL := As) (rest := rest) (fun sig h => hn.trans (hlen sig h)) hstack hW (by rw [hb]; exact hdg)
    (fun vm₁ hW₁ => ⟨hf.1, hf.2, hp.2 (T.setVm vm₁) hT hW₁⟩) with ⟨v, vm₁, ⟨U', l2, c2, s2⟩, hW₁, X', ⟨g', mk, t, L, e1, e2, hq, h1, hL, h2, h3⟩, st⟩ | ⟨q, vm₁, ⟨U', l2, c2, s2⟩, hW₁, X', ⟨g', mk, t, L, E, ce, e1, e2, hq, hce, hcv, hcl, h1, hL, h2, h3⟩, st⟩
  · dsimp only [Pt.U, Pt.locs, Pt.cells, Pt.slots] at X' e1 e2 h1 h2 h3 st
    subst h1; subst h2; subst h3
    exact Or.inl ⟨v, (T.setVm vm₁).calling g' mk As.toArray, t, U', L, hT, X', hL, e1, e2, hq, st⟩
  · dsimp only [Pt.U, Pt.locs, Pt.cells, Pt.slots] at X' e1 e2 h1 h2 h3 st hcl
    subst h1; subst h2; subst h3
    exact Or.inr ⟨q, (T.setVm vm₁).calling g' mk As.toArray, t, U', L, E, ce, hT, X', hL, e1, e2, hq, hce, hcv, vx_cls hW₁ hcl, st⟩
end
end VXH
theorem vx_ofWH {l : Launch} {y : MethodName} {ws ws' : List Cond} {rm : Room} {Pc : Array Value → State → Prop} {Qc : Array Value → State → Outcome → State → Prop} {XC : String → State → State → Prop} {mc ms : Nat} {free : Addr → Prop} {cc : ByteArray} {maxL : Nat} {ret : Option FieldType} {hh : List (Nat × Nat × Nat × Nat)}
    (hy : plainName y.cls = true) (hw : ws = Cond.codeWith y cc maxL ret hh :: ws')
    (body : ∀ p e s m args below meth c s₁, BodyLoose p l y (headSpec ws rm) cc maxL ret e s m args below meth c s₁ → c.maxLocals = maxL → Pc args s →
      W p l e (headSpec ws rm).room s m args below meth c s.heap [] 0 0 (vx_MQ below Qc XC args s mc ms free) (entryFrame m args maxL)) : vx_Met l y ws rm Pc Qc XC mc ms free := by
  refine MetFree.of_bodyS (code := cc) (maxLocals := maxL) (ret := ret) hy ?_ ?_
  · intro args s m h hn
    obtain ⟨m9, meth, c, hn9, h1, h2, h3, h4, -, h5, h6, -⟩ := Cond.codeWith_spec (atoms_spec (ws := ws) h _ (by rw [hw]; exact List.mem_cons_self))
    cases hn.symm.trans hn9
    exact ⟨meth, c, h1, h2, h3, h4, h5, h6⟩
  · intro p e s m args below meth c s₁ B hml hP _
    have hh0 : s₁.heap = s.heap := by rw [B.state]; rfl
    obtain ⟨t, a1, o, b1, b2, b3⟩ := body p e s m args below meth c s₁ B hml hP s₁ hh0 (Stand.of_body B)
    exact ⟨t, o, a1, b1, b2, b3⟩
/-! ===== END ===== -/

/-! ===== BEGIN what the machine throws by itself, no traces kept ===== -/
section VXM
set_option maxHeartbeats 1000000 in
/-- the machine throws cls with the message text, no traces kept: from its note over the frame g to 'throwing' over the same frame (follows the proofs of Stand.vmThrowsMessage, Shelf/KitTracedVmS.lean, and Stand.throwsMessageColdBareV, StandMessageColdV.lean, without the step out of the frame) -/
theorem vx_vmAt {p : Program} {l : Launch} {e : Env} {R : Room} {s : State} {m₀ : MethodId} {args : Array Value} {below : List Frame} {meth : Method} {c : Code} {W : State} {locs : List Loc} {cells slots : Nat}
    (X : Stand p l e R s m₀ args below meth c W locs cells slots) (hexec : p.tables.exec = Jvm.exec) (htr : e.platform.stackTraces = false) {cls : String} {names : List String} {text : String}
    (hcls : Bundle.fit cls = true) (hnames : ∀ n ∈ names, Bundle.fit n = true) (hsoe : (cls == "java/lang/StackOverflowError") = false) (hoom : (cls == "java/lang/OutOfMemoryError") = false)
    (h : ∀ a ∈ Bundle.messageArmAtoms cls names, a.before args s = true)
    (hlocs : ∀ x ∈ locs, ∀ cell, s.heap[x.base]? = some cell → cell.vm.isStatics = false)
    (htext : (text == notModelled) = false) (hlimit : ¬ (stringBytes (stringToUtf16 text)).size > e.platform.arrayLengthLimit) (hheap : ¬ (stringBytes (stringToUtf16 text)).size * componentBytes .byte > e.platform.maxHeapBytes)
    {g : JFrame} (hg : g.method = m₀) (hsize : g.locals.size = c.maxLocals)
    (hRframes : names.length + 4 < R.frames) (hRlocals : 2 * g.monitorRoom + (g.stack.map fun v => v.category).sum + 10240 ≤ R.locals) (hshort : 13 * names.length + 55 ≤ 10240)
    (hRcells : cells + 3 ≤ R.cells) (hRslots : slots + ((stringBytes (stringToUtf16 text)).size + 4 + 6) ≤ R.slots) (hlocks : meth.locks = false) :
    ∃ (S : State) (q : Addr) (ce : Cell), (∀ target, Steps p.tables e below ((S.setTop g).pushFrame (.throwing q)) target → Steps p.tables e below ((W.setTop g).pushFrame (.throwNew cls (some text) none)) target) ∧
      Stand p l e R s m₀ args below meth c S locs (cells + 3) (slots + ((stringBytes (stringToUtf16 text)).size + 4 + 6)) ∧ S.heap[q]? = some ce ∧ s.vm.findClass cls = some ce.cls ∧ ce.vm = .none := by
  have howns : e.platform.frameOwnsMonitors = true := by rw [X.admits.platform]
  have hfin : e.platform.finalization = false := by rw [X.admits.platform]
  have hpl : e.platform.magicAccessors = ({} : Platform).magicAccessors := by rw [X.admits.platform]
  have a : ∀ x, x ∈ Bundle.messageArmAtoms cls names → x.holds args s none s [] = true := fun x hx => h x hx
  obtain ⟨T, Z0, L, -, Y⟩ := ThrowableC.of_atoms (args := args) howns hfin hpl (fun x hx => h x (by simp [Bundle.messageArmAtoms, hx]))
  obtain ⟨Z, M, LZ, LM, hnZ⟩ := Init0T.ofS_atoms (args := args) hpl L Y (fun x hx => h x (by simp [Bundle.messageArmAtoms, hx]))
  obtain ⟨P1, Ps, hlen, L1, hL, hP1m, hlink1, hlink⟩ := Bundle.chainS (args := args) hpl hnZ names cls hcls hnames (fun x hx => h x (by simp [Bundle.messageArmAtoms, hx]))
  obtain ⟨Zs, LZs, hn4, hfitv, hfitc⟩ := StringT.of_atoms (args := args) (fun x hx => h x (by simp [Bundle.messageArmAtoms, hx]))
  have hfound : s.vm.findClass cls = some P1.m.cls := findClass_of_methodNamed hP1m
  obtain ⟨c1, kX, hc1, hk, hord, -, -, hn6⟩ := Cond.instantiable_spec (a (.instantiable cls 6) (by simp [Bundle.messageArmAtoms]))
  cases Option.some.inj (hc1.symm.trans hfound)
  have hinit := Cond.initialized_spec hfound hk (a (.initialized cls) (by simp [Bundle.messageArmAtoms]))
  have hctor : kX.findMethod "<init>" "(Ljava/lang/String;)V" = some P1.m.idx := findMethod_of_methodNamed hP1m hk
  have hsel0 : selectMethod e.platform s.vm P1.m.cls T.fill0 = .method T.fill0 := by
    obtain ⟨c2, r2, m2, q1, q2, q3, q4, -⟩ := Cond.selects_spec (a (.selects cls Bundle.tFill0 Bundle.tFill0) (by simp [Bundle.messageArmAtoms]))
    cases Option.some.inj (q1.symm.trans hfound)
    cases Option.some.inj (q2.symm.trans (State.methodFound?_of_named Y.fill0 (by decide)))
    cases Option.some.inj (q3.symm.trans Y.fill0)
    rw [Launch.admits_selectMethod X.admits]; exact q4
  have hselF : selectMethod e.platform s.vm P1.m.cls T.fill = .method T.fill := by
    obtain ⟨c2, r2, m2, q1, q2, q3, q4, -⟩ := Cond.selects_spec (a (.selects cls Bundle.tFill Bundle.tFill) (by simp [Bundle.messageArmAtoms]))
    cases Option.some.inj (q1.symm.trans hfound)
    cases Option.some.inj (q2.symm.trans (State.methodFound?_of_named Y.fill (by decide)))
    cases Option.some.inj (q3.symm.trans Y.fill)
    rw [Launch.admits_selectMethod X.admits]; exact q4
  obtain ⟨cellS0, hcS0, hiss⟩ := Y.statics
  obtain ⟨u0, hu0⟩ := Cond.staticRefV Y.unassigned L.unassignedStatic L.statics hcS0 hiss (a (.isRef (.static Bundle.tN "UNASSIGNED_STACK" Bundle.steD)) (by simp [Bundle.messageArmAtoms]))
  obtain ⟨sen, hsen⟩ := Cond.staticRefV Y.sentinel L.sentinelStatic L.statics hcS0 hiss (a (.isRef (.static Bundle.tN "SUPPRESSED_SENTINEL" Bundle.listD)) (by simp [Bundle.messageArmAtoms]))
  obtain ⟨ci198, i198, fB, hk198, hg198, ha198, hsB, -, hnB, htB, hffB⟩ := Cond.ownField (t := .object "java/lang/Object") Y.found L.cls (by decide +kernel) (a (.fieldLink Bundle.tN 198 Bundle.tN "backtrace" "Ljava/lang/Object;") (by simp [Bundle.messageArmAtoms])) (a (.lays Bundle.tN Bundle.tN "backtrace" "Ljava/lang/Object;") (by simp [Bundle.messageArmAtoms])) e.platform hpl
  obtain ⟨cellS, hcS', heS, -, hkeep⟩ := X.same.2.2.2.2.2 T.aS cellS0 hcS0
  have hcellS : W.heap[T.aS]? = some cellS := hcS'
  have hout' : ∀ i, (⟨T.aS, i⟩ : Loc) ∉ locs := fun i hmem => by
    have := hlocs _ hmem cellS0 hcS0
    rw [hiss] at this; cases this
  have hknownS : cellS.vm ≠ .unknown := by
    rw [heS]; intro hu
    rw [show cellS0.vm = .unknown from hu] at hiss
    cases hiss
  have hvU : cellS.slots[T.fUnassigned.slot]? = some u0.v := by rw [hkeep _ (hout' _)]; exact hu0
  have hvSen : cellS.slots[T.fSentinel.slot]? = some sen.v := by rw [hkeep _ (hout' _)]; exact hsen
  obtain ⟨iM, hffM⟩ := Y.msg
  obtain ⟨tyC, dC, hdC, hdnC⟩ := Cond.laysAt hfound hk Y.cause (a (.lays cls Bundle.tN "cause" "Ljava/lang/Throwable;") (by simp [Bundle.messageArmAtoms]))
  obtain ⟨tyS, dS, hdS, hdnS⟩ := Cond.laysAt hfound hk Y.stack (a (.lays cls Bundle.tN "stackTrace" Bundle.steD) (by simp [Bundle.messageArmAtoms]))
  obtain ⟨tyP, dP, hdP, hdnP⟩ := Cond.laysAt hfound hk Y.supp (a (.lays cls Bundle.tN "suppressedExceptions" Bundle.listD) (by simp [Bundle.messageArmAtoms]))
  obtain ⟨tyM, dM, hdM, hdnM⟩ := Cond.laysAt hfound hk hffM (a (.lays cls Bundle.tN "detailMessage" "Ljava/lang/String;") (by simp [Bundle.messageArmAtoms]))
  obtain ⟨tyB, dB, hdB, hdnB⟩ := Cond.laysAt hfound hk hffB (a (.lays cls Bundle.tN "backtrace" "Ljava/lang/Object;") (by simp [Bundle.messageArmAtoms]))
  have bC := Cond.laysApart hdB hdC hdnB hdnC (by rw [hnB, Y.causeName]; decide)
  have bS := Cond.laysApart hdB hdS hdnB hdnS (by rw [hnB, Y.stackName]; decide)
  have bP := Cond.laysApart hdB hdP hdnB hdnP (by rw [hnB, Y.suppName]; decide)
  have hbk : ((preparedCellV T.toThrowableT (freshCell P1.m.cls kX) (W.heap.size + 2) u0 sen).withEntry W.cur).slots[fB.slot]? = some .null := by
    have := fresh_default (c := P1.m.cls) tyB
    rw [htB] at this
    simpa [preparedCellV, Cell.setSlot, Cell.withEntry, Array.getElem?_setIfInBounds, bC, bS, bP, bC.symm, bS.symm, bP.symm, defaultValue] using this
  have tkC := Takes.of_laid (v := .ref (W.heap.size + 2)) hk hord tyC (by rw [Y.causeType]; rfl)
  have tkS := Takes.of_laid (v := u0.v) hk hord tyS (by rw [Y.stackType]; exact fits_refV_array _ u0)
  have tkP := Takes.of_laid (v := sen.v) hk hord tyP (by rw [Y.suppType]; exact fits_refV_object _ sen)
  have tkM := Takes.of_laid (v := .ref (W.heap.size + 1)) hk hord tyM (by rw [Y.msgType]; rfl)
  have hskip : SkipFacts T e.platform s (fun u => u) u0 ((preparedCellV T.toThrowableT (freshCell P1.m.cls kX) (W.heap.size + 2) u0 sen).withEntry W.cur) := ⟨{ ci198 := ci198, i198 := i198, fBack := fB }, ⟨hk198, hg198, ha198, hsB⟩, hbk, fun _ _ => rfl⟩
  have h0 : At W g.method c below := by rw [hg]; exact X.here
  obtain ⟨hbeyond, hfreeW⟩ := X.vmMayThrow hsize (.throwNew cls (some text) none) (fun f hf => by cases hf) rfl hRlocals
  have hfr' : W.frames.length + Ps.length + 4 < (e.platform.stackLimits W.me).1 := by have := X.framesAbove hRframes; omega
  have hwd' : (stackUse (.java g :: W.frames.tail)).2 + 13 * Ps.length + 55 ≤ (e.platform.stackLimits W.me).2 := by have := X.stackAbove hsize (K := 13 * Ps.length + 55) (by omega); omega
  have hslots : W.slotsUsed + (stringBytes (stringToUtf16 text)).size + Zs.kS.instanceTypes.size + kX.instanceTypes.size ≤ e.platform.maxSlots := by
    have := X.slotsAbove hRslots
    rw [hn4, hn6]
    omega
  obtain ⟨vm', hW', st⟩ := Steps.vmThrowsMessageColdByV p (s₀ := s) (S := W) (g := g) h0 hexec T L Z LZ M LM X.warmed (t := W.cur) rfl Zs LZs P1 L1 Ps hL hlink1 hlink hsoe hoom hfound hk hinit hord hctor
    (Launch.admits_hotImplicitExceptions X.admits) hbeyond hfreeW htext hlimit hheap (X.cellsAbove hRcells) hslots (hfitv _) (hfitc _)
    (Nn := fun u => u) heapOnly_id (fun _ _ => rfl) (fun _ => rfl) (fun u x y => setCell_twice _ _ _ _) (fun _ => Nat.le_refl _) (cN := ((preparedCellV T.toThrowableT (freshCell P1.m.cls kX) (W.heap.size + 2) u0 sen).withEntry W.cur))
    hsel0 hcellS hknownS hvU tkS (fun _ hu => hu) (fun _ hu => hu) rfl rfl rfl (by simp [preparedCellV, Cell.setSlot, Cell.withEntry]) hskip (fun _ _ hA hW _ hroom _ hrest => L.nativeOff p htr hA hW hroom hrest) hselF hvSen tkC tkP tkM Y.objLocals rfl hfr' hwd'
  rw [plainBareV_eq T.toThrowableT (W.heap.size + 2) u0 sen (.ref (W.heap.size + 1)) W.cur rfl rfl] at st
  obtain ⟨-, -, w3, w4, -, -, -⟩ := withThrown_facts e.platform W Zs text P1.m.cls kX
  have X3 := ((X.pushed (bytesOf Zs.cB (stringToUtf16 text))).pushed (stringAt Zs.cS Zs.kS Zs.fv Zs.fc (stringToUtf16 text) W.heap.size)).pushed (freshCell P1.m.cls kX)
  rw [← withString_eq] at X3
  have X4 := X3.noted hW'
  have ha : (W.heap.size + 2) < ((withThrown W Zs text P1.m.cls kX).setVm vm').heap.size := by show _ < (withThrown W Zs text P1.m.cls kX).heap.size; rw [w3]; omega
  have hcell : ((withThrown W Zs text P1.m.cls kX).setVm vm').heap[(W.heap.size + 2)]? = some (freshCell P1.m.cls kX) := w4
  have X5 := ((((X4.stored hcell T.fCause.slot (.ref (W.heap.size + 2))).storedAgain ha T.fStack.slot u0.v).storedAgain ha T.fSupp.slot sen.v).storedAgain ha T.fStack.slot u0.v).storedAgain ha T.fMsg.slot (.ref (W.heap.size + 1))
  obtain ⟨g₁, hfrM⟩ := X5.frames_eq
  have hU : ((((withThrown W Zs text P1.m.cls kX).setVm vm').setCell (W.heap.size + 2) (plainBareV T.toThrowableT (freshCell P1.m.cls kX) (W.heap.size + 2) u0 sen (.ref (W.heap.size + 1)))).setTop g).pushFrame (.throwing (W.heap.size + 2)) = (((withThrown W Zs text P1.m.cls kX).setVm vm').setCell (W.heap.size + 2) (plainBareV T.toThrowableT (freshCell P1.m.cls kX) (W.heap.size + 2) u0 sen (.ref (W.heap.size + 1)))).setFrames (.throwing (W.heap.size + 2) :: .java g :: below) := by
    rw [State.pushFrame, State.frames_setTop _ hfrM, State.setTop_of_frames _ hfrM, State.setFrames_setFrames]
  have b1 : (bytesOf Zs.cB (stringToUtf16 text)).slots.size = (stringBytes (stringToUtf16 text)).size := by
    rw [(Cell.writeAll_facts _ _).2.2]; simp [bytes0]
  have b2 : (stringAt Zs.cS Zs.kS Zs.fv Zs.fc (stringToUtf16 text) W.heap.size).slots.size = 4 := by simp [string0, Cell.setSlot, hn4]
  have b3 : (freshCell P1.m.cls kX).slots.size = 6 := by simp [hn6]
  rw [b1, b2, b3] at X5
  have e9 : slots + (stringBytes (stringToUtf16 text)).size + 4 + 6 = slots + ((stringBytes (stringToUtf16 text)).size + 4 + 6) := by omega
  rw [e9] at X5
  simp only [List.append_assoc, List.cons_append, List.nil_append] at X5
  refine ⟨((withThrown W Zs text P1.m.cls kX).setVm vm').setCell (W.heap.size + 2) (plainBareV T.toThrowableT (freshCell P1.m.cls kX) (W.heap.size + 2) u0 sen (.ref (W.heap.size + 1))), W.heap.size + 2, _, fun target ht => st _ (by rw [X.tail, ← hU]; exact ht),
    X5.forget (fun y hy => ?_), heapAt_setCell_self _ ha, hfound, rfl⟩
  simp only [List.mem_cons, List.not_mem_nil, or_false] at hy
  have hge : s.heap.size ≤ W.heap.size := X.same.2.1
  rcases hy with rfl | rfl | rfl | rfl | rfl <;> exact Nat.le_trans hge (Nat.le_add_right _ 2)
set_option maxHeartbeats 1000000 in
/-- the machine throws NullPointerException, no traces kept: from its note over the frame g to 'throwing' over the same frame (follows the proof of Stand.vmThrowsNpe, Shelf42/KT2.lean; throwsNpeColdBareVAt, Shelf42/NT91.lean, called) -/
theorem vx_npeAt {p : Program} {l : Launch} {e : Env} {R : Room} {s : State} {m₀ : MethodId} {args : Array Value} {below : List Frame} {meth : Method} {c : Code} {W : State} {locs : List Loc} {cells slots : Nat}
    (X : Stand p l e R s m₀ args below meth c W locs cells slots) (hexec : p.tables.exec = Jvm.exec) (htr : e.platform.stackTraces = false) {n : Nat}
    (h : ∀ a ∈ Bundle.npeArmAtoms n, a.before args s = true)
    (hlocs : ∀ x ∈ locs, ∀ cell, s.heap[x.base]? = some cell → cell.vm.isStatics = false)
    {g : JFrame} (hg : g.method = m₀) (hsize : g.locals.size = c.maxLocals)
    (hRframes : 7 < R.frames) (hRlocals : 2 * g.monitorRoom + (g.stack.map fun v => v.category).sum + 10240 ≤ R.locals)
    (hRcells : cells + 1 ≤ R.cells) (hRslots : slots + n ≤ R.slots) (hlocks : meth.locks = false) :
    ∃ (S : State) (q : Addr) (ce : Cell), (∀ target, Steps p.tables e below ((S.setTop g).pushFrame (.throwing q)) target → Steps p.tables e below ((W.setTop g).pushFrame (.throwNew "java/lang/NullPointerException" none none)) target) ∧
      Stand p l e R s m₀ args below meth c S locs (cells + 1) (slots + n) ∧ S.heap[q]? = some ce ∧ s.vm.findClass "java/lang/NullPointerException" = some ce.cls ∧ ce.vm = .none := by
  have howns : e.platform.frameOwnsMonitors = true := by rw [X.admits.platform]
  have hfin : e.platform.finalization = false := by rw [X.admits.platform]
  have hpl : e.platform.magicAccessors = ({} : Platform).magicAccessors := by rw [X.admits.platform]
  have hpl2 : e.platform.arrayCloneIsPublic = true := by rw [X.admits.platform]
  have a' : ∀ x, x ∈ Bundle.npeArmAtoms n → x.holds args s none s [] = true := fun x hx => h x hx
  obtain ⟨T, Z, L, LZ, Y⟩ := ThrowableC.of_atoms (args := args) howns hfin hpl (fun x hx => h x (by simp [Bundle.npeArmAtoms, hx]))
  obtain ⟨N, LN, hcN, hnNF, hordN, hffS⟩ := NpeC.of_atoms (args := args) hpl hpl2 L Y (fun x hx => h x (by simp [Bundle.npeArmAtoms, hx]))
  obtain ⟨P1, L1, hP1m, hP1s⟩ := PassC.of_atoms (args := args) (s := s) hpl (X := Bundle.nN) (Y := Bundle.rN) (by decide) (by decide) LibCode.NullPointerException.Init0.at_0 LibCode.NullPointerException.Init0.at_1 LibCode.NullPointerException.Init0.at_4 (fun x hx => h x (by simp [Bundle.npeArmAtoms, hx]))
  obtain ⟨PR, LR, hPRm, hPRs⟩ := PassC.of_atoms (args := args) (s := s) hpl (X := Bundle.rN) (Y := Bundle.eN) (by decide) (by decide) LibCode.RuntimeException.Init0.at_0 LibCode.RuntimeException.Init0.at_1 LibCode.RuntimeException.Init0.at_4 (fun x hx => h x (by simp [Bundle.npeArmAtoms, hx]))
  obtain ⟨PE, LEx, hPEm, hPEs⟩ := PassC.of_atoms (args := args) (s := s) hpl (X := Bundle.eN) (Y := Bundle.tN) (by decide) (by decide) LibCode.Exception.Init0.at_0 LibCode.Exception.Init0.at_1 LibCode.Exception.Init0.at_4 (fun x hx => h x (by simp [Bundle.npeArmAtoms, hx]))
  have hfound : s.vm.findClass Bundle.nN = some P1.m.cls := findClass_of_methodNamed hP1m
  have ecls : N.cN = P1.m.cls := Option.some.inj (hcN.symm.trans hfound)
  have hk : s.vm.classes[P1.m.cls]? = some N.kN := by rw [← ecls]; exact LN.cls
  have hinit := Cond.initialized_spec hfound hk (a' (.initialized Bundle.nN) (by simp [Bundle.npeArmAtoms]))
  have hctor : N.kN.findMethod "<init>" "()V" = some P1.m.idx := findMethod_of_methodNamed hP1m hk
  obtain ⟨c1, k1, hc1, hk1, -, -, -, hn⟩ := Cond.instantiable_spec (a' (.instantiable Bundle.nN n) (by simp [Bundle.npeArmAtoms]))
  cases Option.some.inj (hc1.symm.trans hfound)
  cases Option.some.inj (hk1.symm.trans hk)
  have hfsz : (freshCell P1.m.cls N.kN).slots.size = n := by simp [hn]
  have hlink1 : P1.sup = PR.m := Option.some.inj (hP1s.symm.trans hPRm)
  have hlinkR : PR.sup = PE.m := Option.some.inj (hPRs.symm.trans hPEm)
  have hlinkE : PE.sup = Z.m T.toThrowableT := Option.some.inj (hPEs.symm.trans Y.init0)
  have hLs : ∀ P, P ∈ [PR, PE] → P.Links0 e.platform s := fun P hP => by
    simp only [List.mem_cons, List.not_mem_nil, or_false] at hP
    rcases hP with rfl | rfl
    · exact LR
    · exact LEx
  have hsel0 : selectMethod e.platform s.vm P1.m.cls T.fill0 = .method T.fill0 := by
    obtain ⟨c2, r2, m2, q1, q2, q3, q4, -⟩ := Cond.selects_spec (a' (.selects Bundle.nN Bundle.tFill0 Bundle.tFill0) (by simp [Bundle.npeArmAtoms]))
    cases Option.some.inj (q1.symm.trans hfound)
    cases Option.some.inj (q2.symm.trans (State.methodFound?_of_named Y.fill0 (by decide)))
    cases Option.some.inj (q3.symm.trans Y.fill0)
    rw [Launch.admits_selectMethod X.admits]; exact q4
  have hselF : selectMethod e.platform s.vm P1.m.cls T.fill = .method N.fill := by
    obtain ⟨c2, r2, m2, q1, q2, q3, q4, -⟩ := Cond.selects_spec (a' (.selects Bundle.nN Bundle.tFill Bundle.nFill) (by simp [Bundle.npeArmAtoms]))
    cases Option.some.inj (q1.symm.trans hfound)
    cases Option.some.inj (q2.symm.trans (State.methodFound?_of_named Y.fill (by decide)))
    cases Option.some.inj (q3.symm.trans hnNF)
    rw [Launch.admits_selectMethod X.admits]; exact q4
  obtain ⟨cellS0, hcS0, hiss⟩ := Y.statics
  obtain ⟨u0, hu0⟩ := Cond.staticRefV Y.unassigned L.unassignedStatic L.statics hcS0 hiss (a' (.isRef (.static Bundle.tN "UNASSIGNED_STACK" Bundle.steD)) (by simp [Bundle.npeArmAtoms]))
  obtain ⟨sen, hsen⟩ := Cond.staticRefV Y.sentinel L.sentinelStatic L.statics hcS0 hiss (a' (.isRef (.static Bundle.tN "SUPPRESSED_SENTINEL" Bundle.listD)) (by simp [Bundle.npeArmAtoms]))
  obtain ⟨ci198, i198, fB, hk198, hg198, ha198, hsB, -, hnB, htB, hffB⟩ := Cond.ownField (t := .object "java/lang/Object") Y.found L.cls (by decide +kernel) (a' (.fieldLink Bundle.tN 198 Bundle.tN "backtrace" Bundle.objD) (by simp [Bundle.npeArmAtoms])) (a' (.lays Bundle.tN Bundle.tN "backtrace" Bundle.objD) (by simp [Bundle.npeArmAtoms])) e.platform hpl
  obtain ⟨cellS, hcS', heS, -, hkeep⟩ := X.same.2.2.2.2.2 T.aS cellS0 hcS0
  have hcellS : W.heap[T.aS]? = some cellS := hcS'
  have hout' : ∀ i, (⟨T.aS, i⟩ : Loc) ∉ locs := fun i hmem => by
    have := hlocs _ hmem cellS0 hcS0
    rw [hiss] at this; cases this
  have hknownS : cellS.vm ≠ .unknown := by
    rw [heS]; intro hu
    rw [show cellS0.vm = .unknown from hu] at hiss
    cases hiss
  have hvU : cellS.slots[T.fUnassigned.slot]? = some u0.v := by rw [hkeep _ (hout' _)]; exact hu0
  have hvSen : cellS.slots[T.fSentinel.slot]? = some sen.v := by rw [hkeep _ (hout' _)]; exact hsen
  obtain ⟨tyC, dC, hdC, hdnC⟩ := Cond.laysAt hfound hk Y.cause (a' (.lays Bundle.nN Bundle.tN "cause" "Ljava/lang/Throwable;") (by simp [Bundle.npeArmAtoms]))
  obtain ⟨tyS, dS, hdS, hdnS⟩ := Cond.laysAt hfound hk Y.stack (a' (.lays Bundle.nN Bundle.tN "stackTrace" Bundle.steD) (by simp [Bundle.npeArmAtoms]))
  obtain ⟨tyP, dP, hdP, hdnP⟩ := Cond.laysAt hfound hk Y.supp (a' (.lays Bundle.nN Bundle.tN "suppressedExceptions" Bundle.listD) (by simp [Bundle.npeArmAtoms]))
  obtain ⟨tyX, dX, hdX, hdnX⟩ := Cond.laysAt hfound hk hffS (a' (.lays Bundle.nN Bundle.nN "extendedMessageState" "I") (by simp [Bundle.npeArmAtoms, Bundle.npeAtoms]))
  obtain ⟨hnX, htX⟩ := State.fieldFound?_type hffS (t := .int) (by decide +kernel)
  have xC := Cond.laysApart hdC hdX hdnC hdnX (by rw [hnX, Y.causeName]; decide)
  have xS := Cond.laysApart hdS hdX hdnS hdnX (by rw [hnX, Y.stackName]; decide)
  have xP := Cond.laysApart hdP hdX hdnP hdnX (by rw [hnX, Y.suppName]; decide)
  have hv0 : (freshCell P1.m.cls N.kN).slots[N.fState.slot]? = some (.int 0) := by
    have := fresh_default (c := P1.m.cls) tyX
    rw [htX] at this; exact this
  obtain ⟨tyB, dB, hdB, hdnB⟩ := Cond.laysAt hfound hk hffB (a' (.lays Bundle.nN Bundle.tN "backtrace" Bundle.objD) (by simp [Bundle.npeArmAtoms]))
  have bC := Cond.laysApart hdB hdC hdnB hdnC (by rw [hnB, Y.causeName]; decide)
  have bS := Cond.laysApart hdB hdS hdnB hdnS (by rw [hnB, Y.stackName]; decide)
  have bP := Cond.laysApart hdB hdP hdnB hdnP (by rw [hnB, Y.suppName]; decide)
  have bX := Cond.laysApart hdB hdX hdnB hdnX (by rw [hnB, hnX]; decide)
  have hbk : ((npeCell N.toNpeT (preparedCellV T.toThrowableT (freshCell P1.m.cls N.kN) W.heap.size u0 sen) W.cur).withEntry W.cur).slots[fB.slot]? = some .null := by
    have := fresh_default (c := P1.m.cls) tyB
    rw [htB] at this
    simpa [npeCell, preparedCellV, Cell.setSlot, Cell.withEntry, Array.getElem?_setIfInBounds, bC, bS, bP, bX, bC.symm, bS.symm, bP.symm, bX.symm, defaultValue] using this
  have tkC := Takes.of_laid (v := .ref W.heap.size) hk hordN tyC (by rw [Y.causeType]; rfl)
  have tkS := Takes.of_laid (v := u0.v) hk hordN tyS (by rw [Y.stackType]; exact fits_refV_array _ u0)
  have tkP := Takes.of_laid (v := sen.v) hk hordN tyP (by rw [Y.suppType]; exact fits_refV_object _ sen)
  have tkX := Takes.of_laid (v := .int 1) hk hordN tyX (by rw [htX]; rfl)
  have hskip : SkipFacts T e.platform s (fun u => u) u0 ((npeCell N.toNpeT (preparedCellV T.toThrowableT (freshCell P1.m.cls N.kN) W.heap.size u0 sen) W.cur).withEntry W.cur) := ⟨{ ci198 := ci198, i198 := i198, fBack := fB }, ⟨hk198, hg198, ha198, hsB⟩, hbk, fun _ _ => rfl⟩
  obtain ⟨vm', X3, st, -⟩ := X.throwsNpeColdBareVAt hexec hg hsize T L Z LZ N LN P1 L1 [PR, PE] hLs hlink1 ⟨hlinkR, hlinkE, trivial⟩ hfound hk hinit hordN hctor hsel0 hselF hcellS hknownS hvU hvSen
    hv0 xC xS xP tkC tkS tkP tkX Y.objLocals hskip (fun _ _ hA hW _ hroom _ hrest => L.nativeOff p htr hA hW hroom hrest) (by simpa using hRframes) hRlocals (by simp) hRcells (by rw [hn]; exact hRslots)
  have hlt : W.heap.size < ((W.pushCell (freshCell P1.m.cls N.kN)).setVm vm').heap.size := by
    show W.heap.size < (W.pushCell (freshCell P1.m.cls N.kN)).heap.size
    rw [State.heap_size_pushCell]; omega
  rw [hfsz] at X3
  obtain ⟨g₁, hfrM⟩ := X3.frames_eq
  have hU : ((((W.pushCell (freshCell P1.m.cls N.kN)).setVm vm').setCell W.heap.size (npeBareV T.toThrowableT N.toNpeT (freshCell P1.m.cls N.kN) W.heap.size u0 sen)).setTop g).pushFrame (.throwing W.heap.size) = (((W.pushCell (freshCell P1.m.cls N.kN)).setVm vm').setCell W.heap.size (npeBareV T.toThrowableT N.toNpeT (freshCell P1.m.cls N.kN) W.heap.size u0 sen)).setFrames (.throwing W.heap.size :: .java g :: below) := by
    rw [State.pushFrame, State.frames_setTop _ hfrM, State.setTop_of_frames _ hfrM, State.setFrames_setFrames]
  refine ⟨_, W.heap.size, _, fun target ht => st.trans (by rw [← hU]; exact ht), X3.forget (fun y hy => ?_), heapAt_setCell_self _ hlt, hfound, rfl⟩
  simp only [List.mem_cons, List.not_mem_nil, or_false] at hy
  have hge : s.heap.size ≤ W.heap.size := X.same.2.1
  rcases hy with rfl | rfl | rfl | rfl | rfl <;> exact hge
/-- the words of a machine's NullPointerException, but the four that speak of the heap -/
def vx_atN (n : Nat) : List Cond := (Bundle.npeArmAtoms n).filter vx_no
/-- the words of a machine's throw with a message, but the four that speak of the heap -/
def vx_atM (X : String) (names : List String) : List Cond := (Bundle.messageArmAtoms X names).filter vx_no
section
variable {p : Program} {l : Launch} {e : Env} {R : Room} {s : State} {m : MethodId} {args : Array Value} {below : List Frame} {meth : Method} {c : Code} {H : Heap} {locs : List Loc} {cells slots : Nat}
/-- a frame seen from a rebased start, seen from the first start again -/
theorem vx_back9 {T S : State} {R' : Room} {k n : Nat} (X : Stand p l e R s m args below meth c T locs cells slots) (Y : Stand p l e R' ((T.setVm s.vm).setFrames (.invoking m args :: below)) m args below meth c T [] 0 0) (Z : Stand p l e R' ((T.setVm s.vm).setFrames (.invoking m args :: below)) m args below meth c S [] k n) :
    Stand p l e R s m args below meth c S locs (cells + k) (slots + n) := by
  have hW0 : s.WarmedH ((T.setVm s.vm).setFrames (.invoking m args :: below)).vm := State.WarmedH.refl s
  refine { admits := X.admits, cas := X.cas, clock := X.clock, frames := X.frames, room := X.room, hears := X.hears, method := X.method, code := X.code, here := Z.here, tail := Z.tail, warmed := State.WarmedH.trans hW0 Z.warmed, limits := Z.limits.trans (Y.limits.symm.trans X.limits), bytes := Z.bytes.trans (Y.bytes.symm.trans X.bytes), same := ?_ }
  obtain ⟨e1, e2⟩ := Z.same
  rw [State.setFrames_setFrames] at e1
  have h2 : (T.setVm s.vm).sameButNew (S.setVm s.vm) [] k n := ⟨e1, e2⟩
  have h3 := X.same.trans h2
  rw [List.append_nil] at h3
  exact h3
/-- from the machine's note that E is thrown here with this text -/
def vx_Note (p : Program) (l : Launch) (e : Env) (R : Room) (s : State) (m : MethodId) (args : Array Value) (below : List Frame) (meth : Method) (c : Code) (H : Heap) (locs : List Loc) (cells slots : Nat) (Q : State → Prop) (g : JFrame) (E text : String) : Prop :=
  ∀ T : State, T.heap = H → Stand p l e R s m args below meth c T locs cells slots → ∃ t, Steps p.tables e below ((T.setTop g).pushFrame (.throwNew E (some text) none)) t ∧ Q t
theorem vx_vm {pc : Nat} {ls : Array Slot} {rest : List Value} {Q : State → Prop} (hexec : p.tables.exec = Jvm.exec) (hl : l.stackTraces = false) {cls text : String} {names : List String} {nb : Nat} {A : Nat → Prop}
    (hcls : Bundle.fit cls = true) (hnames : ∀ n ∈ names, Bundle.fit n = true) (hsoe : (cls == "java/lang/StackOverflowError") = false) (hoom : (cls == "java/lang/OutOfMemoryError") = false)
    (hat : ∀ w ∈ vx_atM cls names, w.before args s = true) (hgood : ∀ w ∈ vx_atM cls names, vx_ot w = true)
    (hU : vx_Zq Bundle.tN "UNASSIGNED_STACK" Bundle.steD A s s.heap) (hN : vx_Zq Bundle.tN "SUPPRESSED_SENTINEL" Bundle.listD A s s.heap) (hS : va_S A s.heap H locs) (hsize : ls.size = c.maxLocals)
    (htext : (text == notModelled) = false) (hnb : (stringBytes (stringToUtf16 text)).size ≤ nb) (hnb1 : nb ≤ 1000)
    (hRframes : names.length + 4 < R.frames) (hRlocals : (rest.map fun v => v.category).sum + 10240 ≤ R.locals) (hshort : 13 * names.length + 55 ≤ 10240) (hRcells : cells + 3 ≤ R.cells) (hRslots : slots + (nb + 10) ≤ R.slots) (hlocks : meth.locks = false)
    (k : ∀ (H1 : Heap) (q9 : Addr) (ce : Cell), H.size ≤ H1.size → (∀ q : Nat, q < H.size → H1[q]? = H[q]?) → va_S A s.heap H1 locs → H1[q9]? = some ce → ce.vm = .none → s.vm.findClass cls = some ce.cls → vx_W p l e R s m args below meth c H1 locs (cells + 3) (slots + (nb + 10)) Q (F0 m pc ls rest) q9) :
    vx_Note p l e R s m args below meth c H locs cells slots Q (F0 m pc ls rest) cls text := by
  intro T hT X
  have htr : e.platform.stackTraces = false := (show e.platform.stackTraces = l.stackTraces by rw [X.admits.platform]).trans hl
  have Y := vx_rebase X (R' := { frames := R.frames, locals := R.locals, cells := 3, slots := nb + 10 }) (Nat.le_refl _) (Nat.le_refl _) hRcells hRslots
  have hhp : ((T.setVm s.vm).setFrames (.invoking m args :: below)).heap = H := hT
  have hW0 : s.WarmedH ((T.setVm s.vm).setFrames (.invoking m args :: below)).vm := State.WarmedH.refl s
  have hat' : ∀ w ∈ vx_atM cls names, w.before args ((T.setVm s.vm).setFrames (.invoking m args :: below)) = true := fun w hw => vx_ot_at hW0 rfl (hgood w hw) (hat w hw)
  have hU' : vx_Zq Bundle.tN "UNASSIGNED_STACK" Bundle.steD A ((T.setVm s.vm).setFrames (.invoking m args :: below)) ((T.setVm s.vm).setFrames (.invoking m args :: below)).heap := by rw [hhp]; exact vx_Zq.moved hW0.alike (hU.kept hS.2.1)
  have hN' : vx_Zq Bundle.tN "SUPPRESSED_SENTINEL" Bundle.listD A ((T.setVm s.vm).setFrames (.invoking m args :: below)) ((T.setVm s.vm).setFrames (.invoking m args :: below)).heap := by rw [hhp]; exact vx_Zq.moved hW0.alike (hN.kept hS.2.1)
  obtain ⟨S, q, ce, st, Z, hce, hcl', hv⟩ := vx_vmAt Y hexec htr (cls := cls) (names := names) (text := text) hcls hnames hsoe hoom (vx_own hat' (vx_isRefq hU'.1) (vx_isRefq hN'.1) hU'.2.word hN'.2.word) (fun x hx => nomatch hx) htext
    (by rw [Launch.admits_arrayLengthLimit X.admits]; omega) (by rw [Launch.admits_maxHeapBytes X.admits]; simp only [componentBytes]; omega)
    (g := F0 m pc ls rest) rfl hsize hRframes (by show 2 * 0 + (rest.map fun v => v.category).sum + 10240 ≤ R.locals; omega) hshort (by show 0 + 3 ≤ 3; omega) (by show 0 + (_ + 4 + 6) ≤ nb + 10; omega) hlocks
  obtain ⟨f1, f2⟩ := vx_frame Z.same
  have f1' : H.size ≤ S.heap.size := by rw [← hT]; exact f1
  have f2' : ∀ q : Nat, q < H.size → S.heap[q]? = H[q]? := fun q hq => by
    rw [← hT]
    exact f2 q (by rw [← hT] at hq; exact hq) (fun z hz => nomatch hz)
  have X5 := vx_back9 X Y Z
  have X6 : Stand p l e R s m args below meth c S locs (cells + 3) (slots + (nb + 10)) := { X5 with same := X5.same.mono (by omega) (by omega) }
  obtain ⟨t, a1, b1⟩ := k S.heap q ce f1' f2' ⟨Nat.le_trans hS.1 f1', fun q h1 h2 => (f2' q (Nat.lt_of_lt_of_le h1 hS.1)).trans (hS.2.1 q h1 h2), hS.2.2⟩ hce hv hcl' S rfl X6
  exact ⟨t, st t a1, b1⟩
/-- from the machine's note that NullPointerException is thrown here -/
def vx_NoteN (p : Program) (l : Launch) (e : Env) (R : Room) (s : State) (m : MethodId) (args : Array Value) (below : List Frame) (meth : Method) (c : Code) (H : Heap) (locs : List Loc) (cells slots : Nat) (Q : State → Prop) (g : JFrame) : Prop :=
  ∀ T : State, T.heap = H → Stand p l e R s m args below meth c T locs cells slots → ∃ t, Steps p.tables e below ((T.setTop g).pushFrame (.throwNew "java/lang/NullPointerException" none none)) t ∧ Q t
theorem vx_npe {pc : Nat} {ls : Array Slot} {rest : List Value} {Q : State → Prop} (hexec : p.tables.exec = Jvm.exec) (hl : l.stackTraces = false) {nb : Nat} {A : Nat → Prop}
    (hat : ∀ w ∈ vx_atN nb, w.before args s = true) (hgood : ∀ w ∈ vx_atN nb, vx_ot w = true)
    (hU : vx_Zq Bundle.tN "UNASSIGNED_STACK" Bundle.steD A s s.heap) (hN : vx_Zq Bundle.tN "SUPPRESSED_SENTINEL" Bundle.listD A s s.heap) (hS : va_S A s.heap H locs) (hsize : ls.size = c.maxLocals)
    (hRframes : 7 < R.frames) (hRlocals : (rest.map fun v => v.category).sum + 10240 ≤ R.locals) (hRcells : cells + 1 ≤ R.cells) (hRslots : slots + nb ≤ R.slots) (hlocks : meth.locks = false)
    (k : ∀ (H1 : Heap) (q9 : Addr) (ce : Cell), H.size ≤ H1.size → (∀ q : Nat, q < H.size → H1[q]? = H[q]?) → va_S A s.heap H1 locs → H1[q9]? = some ce → ce.vm = .none → s.vm.findClass "java/lang/NullPointerException" = some ce.cls → vx_W p l e R s m args below meth c H1 locs (cells + 1) (slots + nb) Q (F0 m pc ls rest) q9) :
    vx_NoteN p l e R s m args below meth c H locs cells slots Q (F0 m pc ls rest) := by
  intro T hT X
  have htr : e.platform.stackTraces = false := (show e.platform.stackTraces = l.stackTraces by rw [X.admits.platform]).trans hl
  have Y := vx_rebase X (R' := { frames := R.frames, locals := R.locals, cells := 1, slots := nb }) (Nat.le_refl _) (Nat.le_refl _) hRcells hRslots
  have hhp : ((T.setVm s.vm).setFrames (.invoking m args :: below)).heap = H := hT
  have hW0 : s.WarmedH ((T.setVm s.vm).setFrames (.invoking m args :: below)).vm := State.WarmedH.refl s
  have hat' : ∀ w ∈ vx_atN nb, w.before args ((T.setVm s.vm).setFrames (.invoking m args :: below)) = true := fun w hw => vx_ot_at hW0 rfl (hgood w hw) (hat w hw)
  have hU' : vx_Zq Bundle.tN "UNASSIGNED_STACK" Bundle.steD A ((T.setVm s.vm).setFrames (.invoking m args :: below)) ((T.setVm s.vm).setFrames (.invoking m args :: below)).heap := by rw [hhp]; exact vx_Zq.moved hW0.alike (hU.kept hS.2.1)
  have hN' : vx_Zq Bundle.tN "SUPPRESSED_SENTINEL" Bundle.listD A ((T.setVm s.vm).setFrames (.invoking m args :: below)) ((T.setVm s.vm).setFrames (.invoking m args :: below)).heap := by rw [hhp]; exact vx_Zq.moved hW0.alike (hN.kept hS.2.1)
  obtain ⟨S, q, ce, st, Z, hce, hcl', hv⟩ := vx_npeAt Y hexec htr (n := nb) (vx_own hat' (vx_isRefq hU'.1) (vx_isRefq hN'.1) hU'.2.word hN'.2.word) (fun x hx => nomatch hx)
    (g := F0 m pc ls rest) rfl hsize hRframes (by show 2 * 0 + (rest.map fun v => v.category).sum + 10240 ≤ R.locals; omega) (by show 0 + 1 ≤ 1; omega) (by show 0 + nb ≤ nb; omega) hlocks
  obtain ⟨f1, f2⟩ := vx_frame Z.same
  have f1' : H.size ≤ S.heap.size := by rw [← hT]; exact f1
  have f2' : ∀ q : Nat, q < H.size → S.heap[q]? = H[q]? := fun q hq => by
    rw [← hT]
    exact f2 q (by rw [← hT] at hq; exact hq) (fun z hz => nomatch hz)
  have X5 := vx_back9 X Y Z
  have X6 : Stand p l e R s m args below meth c S locs (cells + 1) (slots + nb) := { X5 with same := X5.same.mono (by omega) (by omega) }
  obtain ⟨t, a1, b1⟩ := k S.heap q ce f1' f2' ⟨Nat.le_trans hS.1 f1', fun q h1 h2 => (f2' q (Nat.lt_of_lt_of_le h1 hS.1)).trans (hS.2.1 q h1 h2), hS.2.2⟩ hce hv hcl' S rfl X6
  exact ⟨t, st t a1, b1⟩
variable {Q : State → Prop} {cc : ByteArray} {pc : Nat} {ls : Array Slot} {rest : List Value}
theorem vx_idivZ (hexec : p.tables.exec = Jvm.exec) (hb : c.code = cc) {a b : Int32} (h0 : b = 0) (d : decode cc pc = .ok (.idiv, 1)) (k : vx_Note p l e R s m args below meth c H locs cells slots Q (F0 m pc ls rest) "java/lang/ArithmeticException" "/ by zero") :
    W p l e R s m args below meth c H locs cells slots Q (F0 m pc ls (.int b :: .int a :: rest)) := by
  intro T hT X
  obtain ⟨t, st, q⟩ := k T hT X
  exact ⟨t, X.idivZero hexec (g := F0 m pc ls (.int b :: .int a :: rest)) rfl (a := a) (rest := rest) (by rw [h0]) (by rw [hb]; exact d) t st, q⟩
theorem vx_iremZ (hexec : p.tables.exec = Jvm.exec) (hb : c.code = cc) {a b : Int32} (h0 : b = 0) (d : decode cc pc = .ok (.irem, 1)) (k : vx_Note p l e R s m args below meth c H locs cells slots Q (F0 m pc ls rest) "java/lang/ArithmeticException" "/ by zero") :
    W p l e R s m args below meth c H locs cells slots Q (F0 m pc ls (.int b :: .int a :: rest)) := by
  intro T hT X
  obtain ⟨t, st, q⟩ := k T hT X
  exact ⟨t, X.iremZero hexec (g := F0 m pc ls (.int b :: .int a :: rest)) rfl (a := a) (rest := rest) (by rw [h0]) (by rw [hb]; exact d) t st, q⟩
theorem vx_ldivZ (hexec : p.tables.exec = Jvm.exec) (hb : c.code = cc) {a b : Int64} (h0 : b = 0) (d : decode cc pc = .ok (.ldiv, 1)) (k : vx_Note p l e R s m args below meth c H locs cells slots Q (F0 m pc ls rest) "java/lang/ArithmeticException" "/ by zero") :
    W p l e R s m args below meth c H locs cells slots Q (F0 m pc ls (.long b :: .long a :: rest)) := by
  intro T hT X
  obtain ⟨t, st, q⟩ := k T hT X
  exact ⟨t, X.ldivZero hexec (g := F0 m pc ls (.long b :: .long a :: rest)) rfl (a := a) (rest := rest) (by rw [h0]) (by rw [hb]; exact d) t st, q⟩
theorem vx_lremZ (hexec : p.tables.exec = Jvm.exec) (hb : c.code = cc) {a b : Int64} (h0 : b = 0) (d : decode cc pc = .ok (.lrem, 1)) (k : vx_Note p l e R s m args below meth c H locs cells slots Q (F0 m pc ls rest) "java/lang/ArithmeticException" "/ by zero") :
    W p l e R s m args below meth c H locs cells slots Q (F0 m pc ls (.long b :: .long a :: rest)) := by
  intro T hT X
  obtain ⟨t, st, q⟩ := k T hT X
  exact ⟨t, X.lremZero hexec (g := F0 m pc ls (.long b :: .long a :: rest)) rfl (a := a) (rest := rest) (by rw [h0]) (by rw [hb]; exact d) t st, q⟩
theorem vx_ialdZ {D : va_G} {cl : List vw_C} {ws : va_W} {tys : List (ClassId × FieldType)} {a : Nat} (hexec : p.tables.exec = Jvm.exec) (hb : c.code = cc) (hK : va_K D cl tys s) (hP : va_P D cl ws H) (q0 t0 : Nat) {cA : ClassId} {n : Nat} {f : Nat → Int32} (ha : ws[q0]? = some (a, .inl (cA, n, .inl f))) (ht : tys[t0]? = some (cA, .int)) {i : Int32} (hout : ¬ vp_in i n) (hdg : decode cc pc = .ok (.iaload, 1))
    (k : ∀ tx : String, tx = (toString "Index " ++ toString i ++ toString " out of bounds for length " ++ toString n : String) → vx_Note p l e R s m args below meth c H locs cells slots Q (F0 m pc ls rest) "java/lang/ArrayIndexOutOfBoundsException" tx) : W p l e R s m args below meth c H locs cells slots Q (F0 m pc ls (.int i :: .ref a :: rest)) := by
  intro T hT X
  obtain ⟨t, st, q⟩ := k _ rfl T hT X
  refine ⟨t, ?_, q⟩
  have h1 := X.ialoadOut hexec (by rw [hT]; exact hP q0 _ ha) ((hK.2 t0 _ ht).1 n (fun j => .int (f j))) (j := i) (by show (i < 0 ∨ (arrV _ _ _).slots.size ≤ _); rw [arrV_size]; exact Classical.byContradiction hout) (g := F0 m pc ls (.int i :: .ref a :: rest)) rfl (rest := rest) rfl (by rw [hb]; exact hdg) t
  simp only [arrV_size] at h1
  exact h1 st
theorem vx_iastZ {D : va_G} {cl : List vw_C} {ws : va_W} {tys : List (ClassId × FieldType)} {a : Nat} (hexec : p.tables.exec = Jvm.exec) (hb : c.code = cc) (hK : va_K D cl tys s) (hP : va_P D cl ws H) (q0 t0 : Nat) {cA : ClassId} {n : Nat} {f : Nat → Int32} (ha : ws[q0]? = some (a, .inl (cA, n, .inl f))) (ht : tys[t0]? = some (cA, .int)) {i : Int32} {x : Int32} (hout : ¬ vp_in i n) (hdg : decode cc pc = .ok (.iastore, 1))
    (k : ∀ tx : String, tx = (toString "Index " ++ toString i ++ toString " out of bounds for length " ++ toString n : String) → vx_Note p l e R s m args below meth c H locs cells slots Q (F0 m pc ls rest) "java/lang/ArrayIndexOutOfBoundsException" tx) : W p l e R s m args below meth c H locs cells slots Q (F0 m pc ls (.int x :: .int i :: .ref a :: rest)) := by
  intro T hT X
  obtain ⟨t, st, q⟩ := k _ rfl T hT X
  refine ⟨t, ?_, q⟩
  have h1 := X.iastoreOut hexec (by rw [hT]; exact hP q0 _ ha) ((hK.2 t0 _ ht).1 n (fun j => .int (f j))) (j := i) (by show (i < 0 ∨ (arrV _ _ _).slots.size ≤ _); rw [arrV_size]; exact Classical.byContradiction hout) (g := F0 m pc ls (.int x :: .int i :: .ref a :: rest)) rfl (rest := rest) rfl (by rw [hb]; exact hdg) t
  simp only [arrV_size] at h1
  exact h1 st
theorem vx_baldZ {D : va_G} {cl : List vw_C} {ws : va_W} {tys : List (ClassId × FieldType)} {a : Nat} (hexec : p.tables.exec = Jvm.exec) (hb : c.code = cc) (hK : va_K D cl tys s) (hP : va_P D cl ws H) (q0 t0 : Nat) {cA : ClassId} {n : Nat} {f : Nat → Int32} (ha : ws[q0]? = some (a, .inl (cA, n, .inl f))) (ht : tys[t0]? = some (cA, .byte)) {i : Int32} (hout : ¬ vp_in i n) (hdg : decode cc pc = .ok (.baload, 1))
    (k : ∀ tx : String, tx = (toString "Index " ++ toString i ++ toString " out of bounds for length " ++ toString n : String) → vx_Note p l e R s m args below meth c H locs cells slots Q (F0 m pc ls rest) "java/lang/ArrayIndexOutOfBoundsException" tx) : W p l e R s m args below meth c H locs cells slots Q (F0 m pc ls (.int i :: .ref a :: rest)) := by
  intro T hT X
  obtain ⟨t, st, q⟩ := k _ rfl T hT X
  refine ⟨t, ?_, q⟩
  have h1 := X.baloadOut hexec (by rw [hT]; exact hP q0 _ ha) ((hK.2 t0 _ ht).1 n (fun j => .int (f j))) (j := i) (by show (i < 0 ∨ (arrV _ _ _).slots.size ≤ _); rw [arrV_size]; exact Classical.byContradiction hout) (g := F0 m pc ls (.int i :: .ref a :: rest)) rfl (rest := rest) rfl (by rw [hb]; exact hdg) t
  simp only [arrV_size] at h1
  exact h1 st
theorem vx_bastZ {D : va_G} {cl : List vw_C} {ws : va_W} {tys : List (ClassId × FieldType)} {a : Nat} (hexec : p.tables.exec = Jvm.exec) (hb : c.code = cc) (hK : va_K D cl tys s) (hP : va_P D cl ws H) (q0 t0 : Nat) {cA : ClassId} {n : Nat} {f : Nat → Int32} (ha : ws[q0]? = some (a, .inl (cA, n, .inl f))) (ht : tys[t0]? = some (cA, .byte)) {i : Int32} {x : Int32} (hout : ¬ vp_in i n) (hdg : decode cc pc = .ok (.bastore, 1))
    (k : ∀ tx : String, tx = (toString "Index " ++ toString i ++ toString " out of bounds for length " ++ toString n : String) → vx_Note p l e R s m args below meth c H locs cells slots Q (F0 m pc ls rest) "java/lang/ArrayIndexOutOfBoundsException" tx) : W p l e R s m args below meth c H locs cells slots Q (F0 m pc ls (.int x :: .int i :: .ref a :: rest)) := by
  intro T hT X
  obtain ⟨t, st, q⟩ := k _ rfl T hT X
  refine ⟨t, ?_, q⟩
  have h1 := X.bastoreOut hexec (by rw [hT]; exact hP q0 _ ha) ((hK.2 t0 _ ht).1 n (fun j => .int (f j))) (j := i) (by show (i < 0 ∨ (arrV _ _ _).slots.size ≤ _); rw [arrV_size]; exact Classical.byContradiction hout) (g := F0 m pc ls (.int x :: .int i :: .ref a :: rest)) rfl (rest := rest) rfl (by rw [hb]; exact hdg) t
  simp only [arrV_size] at h1
  exact h1 st
theorem vx_zaldZ {D : va_G} {cl : List vw_C} {ws : va_W} {tys : List (ClassId × FieldType)} {a : Nat} (hexec : p.tables.exec = Jvm.exec) (hb : c.code = cc) (hK : va_K D cl tys s) (hP : va_P D cl ws H) (q0 t0 : Nat) {cA : ClassId} {n : Nat} {f : Nat → Int32} (ha : ws[q0]? = some (a, .inl (cA, n, .inl f))) (ht : tys[t0]? = some (cA, .boolean)) {i : Int32} (hout : ¬ vp_in i n) (hdg : decode cc pc = .ok (.baload, 1))
    (k : ∀ tx : String, tx = (toString "Index " ++ toString i ++ toString " out of bounds for length " ++ toString n : String) → vx_Note p l e R s m args below meth c H locs cells slots Q (F0 m pc ls rest) "java/lang/ArrayIndexOutOfBoundsException" tx) : W p l e R s m args below meth c H locs cells slots Q (F0 m pc ls (.int i :: .ref a :: rest)) := by
  intro T hT X
  obtain ⟨t, st, q⟩ := k _ rfl T hT X
  refine ⟨t, ?_, q⟩
  have h1 := X.baloadOut hexec (by rw [hT]; exact hP q0 _ ha) ((hK.2 t0 _ ht).1 n (fun j => .int (f j))) (j := i) (by show (i < 0 ∨ (arrV _ _ _).slots.size ≤ _); rw [arrV_size]; exact Classical.byContradiction hout) (g := F0 m pc ls (.int i :: .ref a :: rest)) rfl (rest := rest) rfl (by rw [hb]; exact hdg) t
  simp only [arrV_size] at h1
  exact h1 st
theorem vx_zastZ {D : va_G} {cl : List vw_C} {ws : va_W} {tys : List (ClassId × FieldType)} {a : Nat} (hexec : p.tables.exec = Jvm.exec) (hb : c.code = cc) (hK : va_K D cl tys s) (hP : va_P D cl ws H) (q0 t0 : Nat) {cA : ClassId} {n : Nat} {f : Nat → Int32} (ha : ws[q0]? = some (a, .inl (cA, n, .inl f))) (ht : tys[t0]? = some (cA, .boolean)) {i : Int32} {x : Int32} (hout : ¬ vp_in i n) (hdg : decode cc pc = .ok (.bastore, 1))
    (k : ∀ tx : String, tx = (toString "Index " ++ toString i ++ toString " out of bounds for length " ++ toString n : String) → vx_Note p l e R s m args below meth c H locs cells slots Q (F0 m pc ls rest) "java/lang/ArrayIndexOutOfBoundsException" tx) : W p l e R s m args below meth c H locs cells slots Q (F0 m pc ls (.int x :: .int i :: .ref a :: rest)) := by
  intro T hT X
  obtain ⟨t, st, q⟩ := k _ rfl T hT X
  refine ⟨t, ?_, q⟩
  have h1 := X.bastoreOut hexec (by rw [hT]; exact hP q0 _ ha) ((hK.2 t0 _ ht).1 n (fun j => .int (f j))) (j := i) (by show (i < 0 ∨ (arrV _ _ _).slots.size ≤ _); rw [arrV_size]; exact Classical.byContradiction hout) (g := F0 m pc ls (.int x :: .int i :: .ref a :: rest)) rfl (rest := rest) rfl (by rw [hb]; exact hdg) t
  simp only [arrV_size] at h1
  exact h1 st
theorem vx_caldZ {D : va_G} {cl : List vw_C} {ws : va_W} {tys : List (ClassId × FieldType)} {a : Nat} (hexec : p.tables.exec = Jvm.exec) (hb : c.code = cc) (hK : va_K D cl tys s) (hP : va_P D cl ws H) (q0 t0 : Nat) {cA : ClassId} {n : Nat} {f : Nat → Int32} (ha : ws[q0]? = some (a, .inl (cA, n, .inl f))) (ht : tys[t0]? = some (cA, .char)) {i : Int32} (hout : ¬ vp_in i n) (hdg : decode cc pc = .ok (.caload, 1))
    (k : ∀ tx : String, tx = (toString "Index " ++ toString i ++ toString " out of bounds for length " ++ toString n : String) → vx_Note p l e R s m args below meth c H locs cells slots Q (F0 m pc ls rest) "java/lang/ArrayIndexOutOfBoundsException" tx) : W p l e R s m args below meth c H locs cells slots Q (F0 m pc ls (.int i :: .ref a :: rest)) := by
  intro T hT X
  obtain ⟨t, st, q⟩ := k _ rfl T hT X
  refine ⟨t, ?_, q⟩
  have h1 := X.caloadOut hexec (by rw [hT]; exact hP q0 _ ha) ((hK.2 t0 _ ht).1 n (fun j => .int (f j))) (j := i) (by show (i < 0 ∨ (arrV _ _ _).slots.size ≤ _); rw [arrV_size]; exact Classical.byContradiction hout) (g := F0 m pc ls (.int i :: .ref a :: rest)) rfl (rest := rest) rfl (by rw [hb]; exact hdg) t
  simp only [arrV_size] at h1
  exact h1 st
theorem vx_castZ {D : va_G} {cl : List vw_C} {ws : va_W} {tys : List (ClassId × FieldType)} {a : Nat} (hexec : p.tables.exec = Jvm.exec) (hb : c.code = cc) (hK : va_K D cl tys s) (hP : va_P D cl ws H) (q0 t0 : Nat) {cA : ClassId} {n : Nat} {f : Nat → Int32} (ha : ws[q0]? = some (a, .inl (cA, n, .inl f))) (ht : tys[t0]? = some (cA, .char)) {i : Int32} {x : Int32} (hout : ¬ vp_in i n) (hdg : decode cc pc = .ok (.castore, 1))
    (k : ∀ tx : String, tx = (toString "Index " ++ toString i ++ toString " out of bounds for length " ++ toString n : String) → vx_Note p l e R s m args below meth c H locs cells slots Q (F0 m pc ls rest) "java/lang/ArrayIndexOutOfBoundsException" tx) : W p l e R s m args below meth c H locs cells slots Q (F0 m pc ls (.int x :: .int i :: .ref a :: rest)) := by
  intro T hT X
  obtain ⟨t, st, q⟩ := k _ rfl T hT X
  refine ⟨t, ?_, q⟩
  have h1 := X.castoreOut hexec (by rw [hT]; exact hP q0 _ ha) ((hK.2 t0 _ ht).1 n (fun j => .int (f j))) (j := i) (by show (i < 0 ∨ (arrV _ _ _).slots.size ≤ _); rw [arrV_size]; exact Classical.byContradiction hout) (g := F0 m pc ls (.int x :: .int i :: .ref a :: rest)) rfl (rest := rest) rfl (by rw [hb]; exact hdg) t
  simp only [arrV_size] at h1
  exact h1 st
theorem vx_saldZ {D : va_G} {cl : List vw_C} {ws : va_W} {tys : List (ClassId × FieldType)} {a : Nat} (hexec : p.tables.exec = Jvm.exec) (hb : c.code = cc) (hK : va_K D cl tys s) (hP : va_P D cl ws H) (q0 t0 : Nat) {cA : ClassId} {n : Nat} {f : Nat → Int32} (ha : ws[q0]? = some (a, .inl (cA, n, .inl f))) (ht : tys[t0]? = some (cA, .short)) {i : Int32} (hout : ¬ vp_in i n) (hdg : decode cc pc = .ok (.saload, 1))
    (k : ∀ tx : String, tx = (toString "Index " ++ toString i ++ toString " out of bounds for length " ++ toString n : String) → vx_Note p l e R s m args below meth c H locs cells slots Q (F0 m pc ls rest) "java/lang/ArrayIndexOutOfBoundsException" tx) : W p l e R s m args below meth c H locs cells slots Q (F0 m pc ls (.int i :: .ref a :: rest)) := by
  intro T hT X
  obtain ⟨t, st, q⟩ := k _ rfl T hT X
  refine ⟨t, ?_, q⟩
  have h1 := X.saloadOut hexec (by rw [hT]; exact hP q0 _ ha) ((hK.2 t0 _ ht).1 n (fun j => .int (f j))) (j := i) (by show (i < 0 ∨ (arrV _ _ _).slots.size ≤ _); rw [arrV_size]; exact Classical.byContradiction hout) (g := F0 m pc ls (.int i :: .ref a :: rest)) rfl (rest := rest) rfl (by rw [hb]; exact hdg) t
  simp only [arrV_size] at h1
  exact h1 st
theorem vx_sastZ {D : va_G} {cl : List vw_C} {ws : va_W} {tys : List (ClassId × FieldType)} {a : Nat} (hexec : p.tables.exec = Jvm.exec) (hb : c.code = cc) (hK : va_K D cl tys s) (hP : va_P D cl ws H) (q0 t0 : Nat) {cA : ClassId} {n : Nat} {f : Nat → Int32} (ha : ws[q0]? = some (a, .inl (cA, n, .inl f))) (ht : tys[t0]? = some (cA, .short)) {i : Int32} {x : Int32} (hout : ¬ vp_in i n) (hdg : decode cc pc = .ok (.sastore, 1))
    (k : ∀ tx : String, tx = (toString "Index " ++ toString i ++ toString " out of bounds for length " ++ toString n : String) → vx_Note p l e R s m args below meth c H locs cells slots Q (F0 m pc ls rest) "java/lang/ArrayIndexOutOfBoundsException" tx) : W p l e R s m args below meth c H locs cells slots Q (F0 m pc ls (.int x :: .int i :: .ref a :: rest)) := by
  intro T hT X
  obtain ⟨t, st, q⟩ := k _ rfl T hT X
  refine ⟨t, ?_, q⟩
  have h1 := X.sastoreOut hexec (by rw [hT]; exact hP q0 _ ha) ((hK.2 t0 _ ht).1 n (fun j => .int (f j))) (j := i) (by show (i < 0 ∨ (arrV _ _ _).slots.size ≤ _); rw [arrV_size]; exact Classical.byContradiction hout) (g := F0 m pc ls (.int x :: .int i :: .ref a :: rest)) rfl (rest := rest) rfl (by rw [hb]; exact hdg) t
  simp only [arrV_size] at h1
  exact h1 st
theorem vx_laldZ {D : va_G} {cl : List vw_C} {ws : va_W} {tys : List (ClassId × FieldType)} {a : Nat} (hexec : p.tables.exec = Jvm.exec) (hb : c.code = cc) (hK : va_K D cl tys s) (hP : va_P D cl ws H) (q0 t0 : Nat) {cA : ClassId} {n : Nat} {f : Nat → Int64} (ha : ws[q0]? = some (a, .inl (cA, n, .inr (.inl f)))) (ht : tys[t0]? = some (cA, .long)) {i : Int32} (hout : ¬ vp_in i n) (hdg : decode cc pc = .ok (.laload, 1))
    (k : ∀ tx : String, tx = (toString "Index " ++ toString i ++ toString " out of bounds for length " ++ toString n : String) → vx_Note p l e R s m args below meth c H locs cells slots Q (F0 m pc ls rest) "java/lang/ArrayIndexOutOfBoundsException" tx) : W p l e R s m args below meth c H locs cells slots Q (F0 m pc ls (.int i :: .ref a :: rest)) := by
  intro T hT X
  obtain ⟨t, st, q⟩ := k _ rfl T hT X
  refine ⟨t, ?_, q⟩
  have h1 := X.laloadOut hexec (by rw [hT]; exact hP q0 _ ha) ((hK.2 t0 _ ht).1 n (fun j => .long (f j))) (j := i) (by show (i < 0 ∨ (arrV _ _ _).slots.size ≤ _); rw [arrV_size]; exact Classical.byContradiction hout) (g := F0 m pc ls (.int i :: .ref a :: rest)) rfl (rest := rest) rfl (by rw [hb]; exact hdg) t
  simp only [arrV_size] at h1
  exact h1 st
theorem vx_lastZ {D : va_G} {cl : List vw_C} {ws : va_W} {tys : List (ClassId × FieldType)} {a : Nat} (hexec : p.tables.exec = Jvm.exec) (hb : c.code = cc) (hK : va_K D cl tys s) (hP : va_P D cl ws H) (q0 t0 : Nat) {cA : ClassId} {n : Nat} {f : Nat → Int64} (ha : ws[q0]? = some (a, .inl (cA, n, .inr (.inl f)))) (ht : tys[t0]? = some (cA, .long)) {i : Int32} {x : Int64} (hout : ¬ vp_in i n) (hdg : decode cc pc = .ok (.lastore, 1))
    (k : ∀ tx : String, tx = (toString "Index " ++ toString i ++ toString " out of bounds for length " ++ toString n : String) → vx_Note p l e R s m args below meth c H locs cells slots Q (F0 m pc ls rest) "java/lang/ArrayIndexOutOfBoundsException" tx) : W p l e R s m args below meth c H locs cells slots Q (F0 m pc ls (.long x :: .int i :: .ref a :: rest)) := by
  intro T hT X
  obtain ⟨t, st, q⟩ := k _ rfl T hT X
  refine ⟨t, ?_, q⟩
  have h1 := X.lastoreOut hexec (by rw [hT]; exact hP q0 _ ha) ((hK.2 t0 _ ht).1 n (fun j => .long (f j))) (j := i) (by show (i < 0 ∨ (arrV _ _ _).slots.size ≤ _); rw [arrV_size]; exact Classical.byContradiction hout) (g := F0 m pc ls (.long x :: .int i :: .ref a :: rest)) rfl (rest := rest) rfl (by rw [hb]; exact hdg) t
  simp only [arrV_size] at h1
  exact h1 st
theorem vx_faldZ {D : va_G} {cl : List vw_C} {ws : va_W} {tys : List (ClassId × FieldType)} {a : Nat} (hexec : p.tables.exec = Jvm.exec) (hb : c.code = cc) (hK : va_K D cl tys s) (hP : va_P D cl ws H) (q0 t0 : Nat) {cA : ClassId} {n : Nat} {f : Nat → UInt32} (ha : ws[q0]? = some (a, .inl (cA, n, .inr (.inr (.inl f))))) (ht : tys[t0]? = some (cA, .float)) {i : Int32} (hout : ¬ vp_in i n) (hdg : decode cc pc = .ok (.faload, 1))
    (k : ∀ tx : String, tx = (toString "Index " ++ toString i ++ toString " out of bounds for length " ++ toString n : String) → vx_Note p l e R s m args below meth c H locs cells slots Q (F0 m pc ls rest) "java/lang/ArrayIndexOutOfBoundsException" tx) : W p l e R s m args below meth c H locs cells slots Q (F0 m pc ls (.int i :: .ref a :: rest)) := by
  intro T hT X
  obtain ⟨t, st, q⟩ := k _ rfl T hT X
  refine ⟨t, ?_, q⟩
  have h1 := X.faloadOut hexec (by rw [hT]; exact hP q0 _ ha) ((hK.2 t0 _ ht).1 n (fun j => .float (f j))) (j := i) (by show (i < 0 ∨ (arrV _ _ _).slots.size ≤ _); rw [arrV_size]; exact Classical.byContradiction hout) (g := F0 m pc ls (.int i :: .ref a :: rest)) rfl (rest := rest) rfl (by rw [hb]; exact hdg) t
  simp only [arrV_size] at h1
  exact h1 st
theorem vx_fastZ {D : va_G} {cl : List vw_C} {ws : va_W} {tys : List (ClassId × FieldType)} {a : Nat} (hexec : p.tables.exec = Jvm.exec) (hb : c.code = cc) (hK : va_K D cl tys s) (hP : va_P D cl ws H) (q0 t0 : Nat) {cA : ClassId} {n : Nat} {f : Nat → UInt32} (ha : ws[q0]? = some (a, .inl (cA, n, .inr (.inr (.inl f))))) (ht : tys[t0]? = some (cA, .float)) {i : Int32} {x : UInt32} (hout : ¬ vp_in i n) (hdg : decode cc pc = .ok (.fastore, 1))
    (k : ∀ tx : String, tx = (toString "Index " ++ toString i ++ toString " out of bounds for length " ++ toString n : String) → vx_Note p l e R s m args below meth c H locs cells slots Q (F0 m pc ls rest) "java/lang/ArrayIndexOutOfBoundsException" tx) : W p l e R s m args below meth c H locs cells slots Q (F0 m pc ls (.float x :: .int i :: .ref a :: rest)) := by
  intro T hT X
  obtain ⟨t, st, q⟩ := k _ rfl T hT X
  refine ⟨t, ?_, q⟩
  have h1 := X.fastoreOut hexec (by rw [hT]; exact hP q0 _ ha) ((hK.2 t0 _ ht).1 n (fun j => .float (f j))) (j := i) (by show (i < 0 ∨ (arrV _ _ _).slots.size ≤ _); rw [arrV_size]; exact Classical.byContradiction hout) (g := F0 m pc ls (.float x :: .int i :: .ref a :: rest)) rfl (rest := rest) rfl (by rw [hb]; exact hdg) t
  simp only [arrV_size] at h1
  exact h1 st
theorem vx_daldZ {D : va_G} {cl : List vw_C} {ws : va_W} {tys : List (ClassId × FieldType)} {a : Nat} (hexec : p.tables.exec = Jvm.exec) (hb : c.code = cc) (hK : va_K D cl tys s) (hP : va_P D cl ws H) (q0 t0 : Nat) {cA : ClassId} {n : Nat} {f : Nat → UInt64} (ha : ws[q0]? = some (a, .inl (cA, n, .inr (.inr (.inr (.inl f)))))) (ht : tys[t0]? = some (cA, .double)) {i : Int32} (hout : ¬ vp_in i n) (hdg : decode cc pc = .ok (.daload, 1))
    (k : ∀ tx : String, tx = (toString "Index " ++ toString i ++ toString " out of bounds for length " ++ toString n : String) → vx_Note p l e R s m args below meth c H locs cells slots Q (F0 m pc ls rest) "java/lang/ArrayIndexOutOfBoundsException" tx) : W p l e R s m args below meth c H locs cells slots Q (F0 m pc ls (.int i :: .ref a :: rest)) := by
  intro T hT X
  obtain ⟨t, st, q⟩ := k _ rfl T hT X
  refine ⟨t, ?_, q⟩
  have h1 := X.daloadOut hexec (by rw [hT]; exact hP q0 _ ha) ((hK.2 t0 _ ht).1 n (fun j => .double (f j))) (j := i) (by show (i < 0 ∨ (arrV _ _ _).slots.size ≤ _); rw [arrV_size]; exact Classical.byContradiction hout) (g := F0 m pc ls (.int i :: .ref a :: rest)) rfl (rest := rest) rfl (by rw [hb]; exact hdg) t
  simp only [arrV_size] at h1
  exact h1 st
theorem vx_dastZ {D : va_G} {cl : List vw_C} {ws : va_W} {tys : List (ClassId × FieldType)} {a : Nat} (hexec : p.tables.exec = Jvm.exec) (hb : c.code = cc) (hK : va_K D cl tys s) (hP : va_P D cl ws H) (q0 t0 : Nat) {cA : ClassId} {n : Nat} {f : Nat → UInt64} (ha : ws[q0]? = some (a, .inl (cA, n, .inr (.inr (.inr (.inl f)))))) (ht : tys[t0]? = some (cA, .double)) {i : Int32} {x : UInt64} (hout : ¬ vp_in i n) (hdg : decode cc pc = .ok (.dastore, 1))
    (k : ∀ tx : String, tx = (toString "Index " ++ toString i ++ toString " out of bounds for length " ++ toString n : String) → vx_Note p l e R s m args below meth c H locs cells slots Q (F0 m pc ls rest) "java/lang/ArrayIndexOutOfBoundsException" tx) : W p l e R s m args below meth c H locs cells slots Q (F0 m pc ls (.double x :: .int i :: .ref a :: rest)) := by
  intro T hT X
  obtain ⟨t, st, q⟩ := k _ rfl T hT X
  refine ⟨t, ?_, q⟩
  have h1 := X.dastoreOut hexec (by rw [hT]; exact hP q0 _ ha) ((hK.2 t0 _ ht).1 n (fun j => .double (f j))) (j := i) (by show (i < 0 ∨ (arrV _ _ _).slots.size ≤ _); rw [arrV_size]; exact Classical.byContradiction hout) (g := F0 m pc ls (.double x :: .int i :: .ref a :: rest)) rfl (rest := rest) rfl (by rw [hb]; exact hdg) t
  simp only [arrV_size] at h1
  exact h1 st
theorem vx_arraylengthN (hexec : p.tables.exec = Jvm.exec) (hb : c.code = cc) (hdg : decode cc pc = .ok (.arraylength, 1)) (k : vx_NoteN p l e R s m args below meth c H locs cells slots Q (F0 m pc ls rest)) : W p l e R s m args below meth c H locs cells slots Q (F0 m pc ls (.null :: rest)) := by
  intro T hT X
  obtain ⟨t, st, q⟩ := k T hT X
  exact ⟨t, X.arraylengthNull hexec (g := F0 m pc ls (.null :: rest)) rfl (rest := rest) rfl (by rw [hb]; exact hdg) t st, q⟩
theorem vx_ialoadN (hexec : p.tables.exec = Jvm.exec) (hb : c.code = cc) {i : Int32} (hdg : decode cc pc = .ok (.iaload, 1)) (k : vx_NoteN p l e R s m args below meth c H locs cells slots Q (F0 m pc ls rest)) : W p l e R s m args below meth c H locs cells slots Q (F0 m pc ls (.int i :: .null :: rest)) := by
  intro T hT X
  obtain ⟨t, st, q⟩ := k T hT X
  exact ⟨t, X.ialoadNull hexec (g := F0 m pc ls (.int i :: .null :: rest)) rfl (rest := rest) rfl (by rw [hb]; exact hdg) t st, q⟩
theorem vx_laloadN (hexec : p.tables.exec = Jvm.exec) (hb : c.code = cc) {i : Int32} (hdg : decode cc pc = .ok (.laload, 1)) (k : vx_NoteN p l e R s m args below meth c H locs cells slots Q (F0 m pc ls rest)) : W p l e R s m args below meth c H locs cells slots Q (F0 m pc ls (.int i :: .null :: rest)) := by
  intro T hT X
  obtain ⟨t, st, q⟩ := k T hT X
  exact ⟨t, X.laloadNull hexec (g := F0 m pc ls (.int i :: .null :: rest)) rfl (rest := rest) rfl (by rw [hb]; exact hdg) t st, q⟩
theorem vx_faloadN (hexec : p.tables.exec = Jvm.exec) (hb : c.code = cc) {i : Int32} (hdg : decode cc pc = .ok (.faload, 1)) (k : vx_NoteN p l e R s m args below meth c H locs cells slots Q (F0 m pc ls rest)) : W p l e R s m args below meth c H locs cells slots Q (F0 m pc ls (.int i :: .null :: rest)) := by
  intro T hT X
  obtain ⟨t, st, q⟩ := k T hT X
  exact ⟨t, X.faloadNull hexec (g := F0 m pc ls (.int i :: .null :: rest)) rfl (rest := rest) rfl (by rw [hb]; exact hdg) t st, q⟩
theorem vx_daloadN (hexec : p.tables.exec = Jvm.exec) (hb : c.code = cc) {i : Int32} (hdg : decode cc pc = .ok (.daload, 1)) (k : vx_NoteN p l e R s m args below meth c H locs cells slots Q (F0 m pc ls rest)) : W p l e R s m args below meth c H locs cells slots Q (F0 m pc ls (.int i :: .null :: rest)) := by
  intro T hT X
  obtain ⟨t, st, q⟩ := k T hT X
  exact ⟨t, X.daloadNull hexec (g := F0 m pc ls (.int i :: .null :: rest)) rfl (rest := rest) rfl (by rw [hb]; exact hdg) t st, q⟩
theorem vx_aaloadN (hexec : p.tables.exec = Jvm.exec) (hb : c.code = cc) {i : Int32} (hdg : decode cc pc = .ok (.aaload, 1)) (k : vx_NoteN p l e R s m args below meth c H locs cells slots Q (F0 m pc ls rest)) : W p l e R s m args below meth c H locs cells slots Q (F0 m pc ls (.int i :: .null :: rest)) := by
  intro T hT X
  obtain ⟨t, st, q⟩ := k T hT X
  exact ⟨t, X.aaloadNull hexec (g := F0 m pc ls (.int i :: .null :: rest)) rfl (rest := rest) rfl (by rw [hb]; exact hdg) t st, q⟩
theorem vx_baloadN (hexec : p.tables.exec = Jvm.exec) (hb : c.code = cc) {i : Int32} (hdg : decode cc pc = .ok (.baload, 1)) (k : vx_NoteN p l e R s m args below meth c H locs cells slots Q (F0 m pc ls rest)) : W p l e R s m args below meth c H locs cells slots Q (F0 m pc ls (.int i :: .null :: rest)) := by
  intro T hT X
  obtain ⟨t, st, q⟩ := k T hT X
  exact ⟨t, X.baloadNull hexec (g := F0 m pc ls (.int i :: .null :: rest)) rfl (rest := rest) rfl (by rw [hb]; exact hdg) t st, q⟩
theorem vx_caloadN (hexec : p.tables.exec = Jvm.exec) (hb : c.code = cc) {i : Int32} (hdg : decode cc pc = .ok (.caload, 1)) (k : vx_NoteN p l e R s m args below meth c H locs cells slots Q (F0 m pc ls rest)) : W p l e R s m args below meth c H locs cells slots Q (F0 m pc ls (.int i :: .null :: rest)) := by
  intro T hT X
  obtain ⟨t, st, q⟩ := k T hT X
  exact ⟨t, X.caloadNull hexec (g := F0 m pc ls (.int i :: .null :: rest)) rfl (rest := rest) rfl (by rw [hb]; exact hdg) t st, q⟩
theorem vx_saloadN (hexec : p.tables.exec = Jvm.exec) (hb : c.code = cc) {i : Int32} (hdg : decode cc pc = .ok (.saload, 1)) (k : vx_NoteN p l e R s m args below meth c H locs cells slots Q (F0 m pc ls rest)) : W p l e R s m args below meth c H locs cells slots Q (F0 m pc ls (.int i :: .null :: rest)) := by
  intro T hT X
  obtain ⟨t, st, q⟩ := k T hT X
  exact ⟨t, X.saloadNull hexec (g := F0 m pc ls (.int i :: .null :: rest)) rfl (rest := rest) rfl (by rw [hb]; exact hdg) t st, q⟩
theorem vx_iastoreN (hexec : p.tables.exec = Jvm.exec) (hb : c.code = cc) {x : Int32} {i : Int32} (hdg : decode cc pc = .ok (.iastore, 1)) (k : vx_NoteN p l e R s m args below meth c H locs cells slots Q (F0 m pc ls rest)) : W p l e R s m args below meth c H locs cells slots Q (F0 m pc ls (.int x :: .int i :: .null :: rest)) := by
  intro T hT X
  obtain ⟨t, st, q⟩ := k T hT X
  exact ⟨t, X.iastoreNull hexec (g := F0 m pc ls (.int x :: .int i :: .null :: rest)) rfl (rest := rest) rfl (by rw [hb]; exact hdg) t st, q⟩
theorem vx_lastoreN (hexec : p.tables.exec = Jvm.exec) (hb : c.code = cc) {x : Int64} {i : Int32} (hdg : decode cc pc = .ok (.lastore, 1)) (k : vx_NoteN p l e R s m args below meth c H locs cells slots Q (F0 m pc ls rest)) : W p l e R s m args below meth c H locs cells slots Q (F0 m pc ls (.long x :: .int i :: .null :: rest)) := by
  intro T hT X
  obtain ⟨t, st, q⟩ := k T hT X
  exact ⟨t, X.lastoreNull hexec (g := F0 m pc ls (.long x :: .int i :: .null :: rest)) rfl (rest := rest) rfl (by rw [hb]; exact hdg) t st, q⟩
theorem vx_fastoreN (hexec : p.tables.exec = Jvm.exec) (hb : c.code = cc) {x : UInt32} {i : Int32} (hdg : decode cc pc = .ok (.fastore, 1)) (k : vx_NoteN p l e R s m args below meth c H locs cells slots Q (F0 m pc ls rest)) : W p l e R s m args below meth c H locs cells slots Q (F0 m pc ls (.float x :: .int i :: .null :: rest)) := by
  intro T hT X
  obtain ⟨t, st, q⟩ := k T hT X
  exact ⟨t, X.fastoreNull hexec (g := F0 m pc ls (.float x :: .int i :: .null :: rest)) rfl (rest := rest) rfl (by rw [hb]; exact hdg) t st, q⟩
theorem vx_dastoreN (hexec : p.tables.exec = Jvm.exec) (hb : c.code = cc) {x : UInt64} {i : Int32} (hdg : decode cc pc = .ok (.dastore, 1)) (k : vx_NoteN p l e R s m args below meth c H locs cells slots Q (F0 m pc ls rest)) : W p l e R s m args below meth c H locs cells slots Q (F0 m pc ls (.double x :: .int i :: .null :: rest)) := by
  intro T hT X
  obtain ⟨t, st, q⟩ := k T hT X
  exact ⟨t, X.dastoreNull hexec (g := F0 m pc ls (.double x :: .int i :: .null :: rest)) rfl (rest := rest) rfl (by rw [hb]; exact hdg) t st, q⟩
theorem vx_bastoreN (hexec : p.tables.exec = Jvm.exec) (hb : c.code = cc) {x : Int32} {i : Int32} (hdg : decode cc pc = .ok (.bastore, 1)) (k : vx_NoteN p l e R s m args below meth c H locs cells slots Q (F0 m pc ls rest)) : W p l e R s m args below meth c H locs cells slots Q (F0 m pc ls (.int x :: .int i :: .null :: rest)) := by
  intro T hT X
  obtain ⟨t, st, q⟩ := k T hT X
  exact ⟨t, X.bastoreNull hexec (g := F0 m pc ls (.int x :: .int i :: .null :: rest)) rfl (rest := rest) rfl (by rw [hb]; exact hdg) t st, q⟩
theorem vx_castoreN (hexec : p.tables.exec = Jvm.exec) (hb : c.code = cc) {x : Int32} {i : Int32} (hdg : decode cc pc = .ok (.castore, 1)) (k : vx_NoteN p l e R s m args below meth c H locs cells slots Q (F0 m pc ls rest)) : W p l e R s m args below meth c H locs cells slots Q (F0 m pc ls (.int x :: .int i :: .null :: rest)) := by
  intro T hT X
  obtain ⟨t, st, q⟩ := k T hT X
  exact ⟨t, X.castoreNull hexec (g := F0 m pc ls (.int x :: .int i :: .null :: rest)) rfl (rest := rest) rfl (by rw [hb]; exact hdg) t st, q⟩
theorem vx_sastoreN (hexec : p.tables.exec = Jvm.exec) (hb : c.code = cc) {x : Int32} {i : Int32} (hdg : decode cc pc = .ok (.sastore, 1)) (k : vx_NoteN p l e R s m args below meth c H locs cells slots Q (F0 m pc ls rest)) : W p l e R s m args below meth c H locs cells slots Q (F0 m pc ls (.int x :: .int i :: .null :: rest)) := by
  intro T hT X
  obtain ⟨t, st, q⟩ := k T hT X
  exact ⟨t, X.sastoreNull hexec (g := F0 m pc ls (.int x :: .int i :: .null :: rest)) rfl (rest := rest) rfl (by rw [hb]; exact hdg) t st, q⟩
theorem vx_invokeN {own C : String} {index maxL : Nat} {y : MethodName} {bytes : ByteArray} {ret : Option FieldType} (hexec : p.tables.exec = Jvm.exec) (hb : c.code = cc) (hown : s.vm.findClass own = some m.cls) (hlink : (Cond.methodLink own index y).before args s = true) (hinst : (Cond.instanceMethod y).before args s = true) (hcode : (Cond.code y bytes maxL ret).before args s = true) (hsel : (Cond.selects C y y).before args s = true)
    (hx : y.cls ≠ "java/lang/invoke/MethodHandle" ∧ y.cls ≠ "java/lang/invoke/VarHandle") {As : List Value} (hlen : (parseMethodDescriptor y.desc).map (fun d => d.parameters.length) = some As.length) (hdg : decode cc pc = .ok (.invokevirtual index, 3))
    (k : vx_NoteN p l e R s m args below meth c H locs cells slots Q (F0 m pc ls rest)) {st0 : List Value} (hst : st0 = As.reverse ++ .null :: rest) : W p l e R s m args below meth c H locs cells slots Q (F0 m pc ls st0) := by
  intro T hT X
  obtain ⟨r0, r, hn, hrm, hstR, hsigR⟩ := va_Decl.of hinst hcode
  obtain ⟨c2, r2, m2, q1, q2, q3, q4, kP, hkP, hkPi⟩ := Cond.selects_spec hsel
  cases hn.symm.trans q3
  have hl9 : As.length = r.sig.parameters.length := by
    rw [hsigR] at hlen
    exact (Option.some.inj hlen).symm
  obtain ⟨vm', X1, st1⟩ := X.invokevirtualNull hexec hown hlink hn hrm hstR hkP hkPi hx (g := F0 m pc ls st0) rfl (argsL := As) (rest := rest) hl9 hst (by rw [hb]; exact hdg)
  obtain ⟨t, st, q⟩ := k (T.setVm vm') hT X1
  exact ⟨t, st1 t st, q⟩
theorem vx_newarrayZ {atype : ArrayType} (hexec : p.tables.exec = Jvm.exec) (hb : c.code = cc) {n : Int32} (h0 : n < 0) (hdg : decode cc pc = .ok (.newarray atype, 2)) (k : ∀ tx : String, tx = toString n → vx_Note p l e R s m args below meth c H locs cells slots Q (F0 m pc ls rest) "java/lang/NegativeArraySizeException" tx) : W p l e R s m args below meth c H locs cells slots Q (F0 m pc ls (.int n :: rest)) := by
  intro T hT X
  obtain ⟨t, st, q⟩ := k _ rfl T hT X
  exact ⟨t, X.newarrayNegative hexec (g := F0 m pc ls (.int n :: rest)) rfl h0 (rest := rest) rfl (by rw [hb]; exact hdg) t st, q⟩
end
end VXM
/-! ===== END ===== -/
end
section
/-! ===== BEGIN printed: names, fields, word lists, decode rows ===== -/
def RX0 : String := "LineBattle$CommandText"
def TX0 : u_T := fun k => match k with
  | 0 => ("LineBattle$CommandText", "signs", "[C", true)
  | 1 => ("LineBattle$CommandText", "length", "I", false)
  | 2 => ("LineBattle$CommandText", "position", "I", false)
  | 3 => ("LineBattle$CommandText", "initial", "C", false)
  | 4 => ("LineBattle$CommandText", "first", "I", false)
  | 5 => ("LineBattle$CommandText", "second", "I", false)
  | 6 => ("LineBattle$CommandText", "sign", "C", false)
  | _ => ("LineBattle$CommandText", "number", "I", false)
def tyX0 : Nat → FieldType := fun k => match k with
  | 0 => .array .char
  | 1 => .int
  | 2 => .int
  | 3 => .char
  | 4 => .int
  | 5 => .int
  | 6 => .char
  | _ => .int
theorem nmX0 : ∀ a, a < 8 → ∀ b, b < 8 → a ≠ b → (TX0 a).2.1 ≠ (TX0 b).2.1 := by decide +kernel
theorem tyX0_ok : ∀ k, k < 8 → parseFieldDescriptor (TX0 k).2.2.1 = some (tyX0 k) := by decide +kernel
abbrev cX0_init : ByteArray := prog_2_method_1_code
def yX0_init : MethodName := ⟨RX0, "<init>", "()V"⟩
abbrev cX0_append : ByteArray := prog_2_method_2_code
def yX0_append : MethodName := ⟨RX0, "append", "(C)Z"⟩
abbrev cX0_clear : ByteArray := prog_2_method_3_code
def yX0_clear : MethodName := ⟨RX0, "clear", "()V"⟩
abbrev cX0_rewind : ByteArray := prog_2_method_4_code
def yX0_rewind : MethodName := ⟨RX0, "rewind", "()V"⟩
abbrev cX0_countCommands : ByteArray := prog_2_method_5_code
def yX0_countCommands : MethodName := ⟨RX0, "countCommands", "()I"⟩
abbrev cX0_readNext : ByteArray := prog_2_method_6_code
def yX0_readNext : MethodName := ⟨RX0, "readNext", "()Z"⟩
abbrev cX0_readCommand : ByteArray := prog_2_method_7_code
def yX0_readCommand : MethodName := ⟨RX0, "readCommand", "()Z"⟩
abbrev cX0_readPlace : ByteArray := prog_2_method_8_code
def yX0_readPlace : MethodName := ⟨RX0, "readPlace", "()Z"⟩
abbrev cX0_readSign : ByteArray := prog_2_method_9_code
def yX0_readSign : MethodName := ⟨RX0, "readSign", "(Ljava/lang/String;)Z"⟩
abbrev cX0_readNumber : ByteArray := prog_2_method_10_code
def yX0_readNumber : MethodName := ⟨RX0, "readNumber", "()Z"⟩
abbrev cX0_takeWord : ByteArray := prog_2_method_11_code
def yX0_takeWord : MethodName := ⟨RX0, "takeWord", "(Ljava/lang/String;)Z"⟩
abbrev cX0_take : ByteArray := prog_2_method_12_code
def yX0_take : MethodName := ⟨RX0, "take", "(C)Z"⟩
abbrev cX0_takeDigit : ByteArray := prog_2_method_13_code
def yX0_takeDigit : MethodName := ⟨RX0, "takeDigit", "()I"⟩
abbrev cX0_peek : ByteArray := prog_2_method_14_code
def yX0_peek : MethodName := ⟨RX0, "peek", "()C"⟩
def RX1 : String := "LineBattle$Field"
def TX1 : u_T := fun k => match k with
  | 0 => ("LineBattle$Field", "lines", "[LLineBattle$Line;", true)
  | 1 => ("LineBattle$Field", "cells", "[I", true)
  | 2 => ("LineBattle$Field", "count", "I", false)
  | 3 => ("LineBattle$Field", "turns", "I", false)
  | 4 => ("LineBattle$Field", "fights", "I", false)
  | 5 => ("LineBattle$Field", "jarsOfFirst", "I", false)
  | _ => ("LineBattle$Field", "jarsOfSecond", "I", false)
def tyX1 : Nat → FieldType := fun k => match k with
  | 0 => .array (.object "LineBattle$Line")
  | 1 => .array .int
  | 2 => .int
  | 3 => .int
  | 4 => .int
  | 5 => .int
  | _ => .int
theorem nmX1 : ∀ a, a < 7 → ∀ b, b < 7 → a ≠ b → (TX1 a).2.1 ≠ (TX1 b).2.1 := by decide +kernel
theorem tyX1_ok : ∀ k, k < 7 → parseFieldDescriptor (TX1 k).2.2.1 = some (tyX1 k) := by decide +kernel
abbrev cX1_init : ByteArray := prog_3_method_1_code
def yX1_init : MethodName := ⟨RX1, "<init>", "()V"⟩
abbrev cX1_copyFrom : ByteArray := prog_3_method_2_code
def yX1_copyFrom : MethodName := ⟨RX1, "copyFrom", "(LLineBattle$Field;)V"⟩
abbrev cX1_line : ByteArray := prog_3_method_3_code
def yX1_line : MethodName := ⟨RX1, "line", "(I)LLineBattle$Line;"⟩
abbrev cX1_occupant : ByteArray := prog_3_method_4_code
def yX1_occupant : MethodName := ⟨RX1, "occupant", "(II)LLineBattle$Line;"⟩
abbrev cX1_putInto : ByteArray := prog_3_method_5_code
def yX1_putInto : MethodName := ⟨RX1, "putInto", "(III)V"⟩
abbrev cX1_jars : ByteArray := prog_3_method_6_code
def yX1_jars : MethodName := ⟨RX1, "jars", "(I)I"⟩
abbrev cX1_faultOfAdding : ByteArray := prog_3_method_7_code
def yX1_faultOfAdding : MethodName := ⟨RX1, "faultOfAdding", "(IICI)I"⟩
abbrev cX1_add : ByteArray := prog_3_method_8_code
def yX1_add : MethodName := ⟨RX1, "add", "(IICI)I"⟩
abbrev cX1_firstColumn : ByteArray := prog_3_method_9_code
def yX1_firstColumn : MethodName := ⟨RX1, "firstColumn", "(I)I"⟩
abbrev cX1_faultOfOrdering : ByteArray := prog_3_method_10_code
def yX1_faultOfOrdering : MethodName := ⟨RX1, "faultOfOrdering", "(IC)I"⟩
abbrev cX1_giveOrder : ByteArray := prog_3_method_11_code
def yX1_giveOrder : MethodName := ⟨RX1, "giveOrder", "(IC)C"⟩
abbrev cX1_faultOfRallying : ByteArray := prog_3_method_12_code
def yX1_faultOfRallying : MethodName := ⟨RX1, "faultOfRallying", "(I)I"⟩
abbrev cX1_useJar : ByteArray := prog_3_method_13_code
def yX1_useJar : MethodName := ⟨RX1, "useJar", "(I)I"⟩
abbrev cX1_passTurn : ByteArray := prog_3_method_14_code
def yX1_passTurn : MethodName := ⟨RX1, "passTurn", "()I"⟩
abbrev cX1_retreat : ByteArray := prog_3_method_15_code
def yX1_retreat : MethodName := ⟨RX1, "retreat", "(LLineBattle$Line;)V"⟩
abbrev cX1_obey : ByteArray := prog_3_method_16_code
def yX1_obey : MethodName := ⟨RX1, "obey", "(LLineBattle$Line;)V"⟩
abbrev cX1_moveIfFree : ByteArray := prog_3_method_17_code
def yX1_moveIfFree : MethodName := ⟨RX1, "moveIfFree", "(LLineBattle$Line;I)Z"⟩
abbrev cX1_fight : ByteArray := prog_3_method_18_code
def yX1_fight : MethodName := ⟨RX1, "fight", "(LLineBattle$Line;LLineBattle$Line;Z)V"⟩
abbrev cX1_settle : ByteArray := prog_3_method_19_code
def yX1_settle : MethodName := ⟨RX1, "settle", "(LLineBattle$Line;)V"⟩
abbrev cX1_supportInCells : ByteArray := prog_3_method_20_code
def yX1_supportInCells : MethodName := ⟨RX1, "supportInCells", "(LLineBattle$Line;)I"⟩
abbrev cX1_supportAmongLines : ByteArray := prog_3_method_21_code
def yX1_supportAmongLines : MethodName := ⟨RX1, "supportAmongLines", "(LLineBattle$Line;)I"⟩
abbrev cX1_enemyInCells : ByteArray := prog_3_method_22_code
def yX1_enemyInCells : MethodName := ⟨RX1, "enemyInCells", "(LLineBattle$Line;)I"⟩
abbrev cX1_enemyAmongLines : ByteArray := prog_3_method_23_code
def yX1_enemyAmongLines : MethodName := ⟨RX1, "enemyAmongLines", "(LLineBattle$Line;)I"⟩
abbrev cX1_strengthAmongLines : ByteArray := prog_3_method_24_code
def yX1_strengthAmongLines : MethodName := ⟨RX1, "strengthAmongLines", "(I)I"⟩
abbrev cX1_strengthInCells : ByteArray := prog_3_method_25_code
def yX1_strengthInCells : MethodName := ⟨RX1, "strengthInCells", "(I)I"⟩
abbrev cX1_fallen : ByteArray := prog_3_method_26_code
def yX1_fallen : MethodName := ⟨RX1, "fallen", "(I)I"⟩
abbrev cX1_front : ByteArray := prog_3_method_27_code
def yX1_front : MethodName := ⟨RX1, "front", "(II)I"⟩
abbrev cX1_lineOfRank : ByteArray := prog_3_method_28_code
def yX1_lineOfRank : MethodName := ⟨RX1, "lineOfRank", "(I)I"⟩
abbrev cX1_strongerThan : ByteArray := prog_3_method_29_code
def yX1_strongerThan : MethodName := ⟨RX1, "strongerThan", "(LLineBattle$Line;)I"⟩
abbrev cX1_unfallenCount : ByteArray := prog_3_method_30_code
def yX1_unfallenCount : MethodName := ⟨RX1, "unfallenCount", "()I"⟩
abbrev cX1_moraleSum : ByteArray := prog_3_method_31_code
def yX1_moraleSum : MethodName := ⟨RX1, "moraleSum", "()I"⟩
abbrev cX1_standingCount : ByteArray := prog_3_method_32_code
def yX1_standingCount : MethodName := ⟨RX1, "standingCount", "()I"⟩
abbrev cX1_agrees : ByteArray := prog_3_method_33_code
def yX1_agrees : MethodName := ⟨RX1, "agrees", "()Z"⟩
def RX2 : String := "LineBattle$History"
def TX2 : u_T := fun k => match k with
  | 0 => ("LineBattle$History", "states", "[LLineBattle$Field;", true)
  | 1 => ("LineBattle$History", "newest", "I", false)
  | _ => ("LineBattle$History", "depth", "I", false)
def tyX2 : Nat → FieldType := fun k => match k with
  | 0 => .array (.object "LineBattle$Field")
  | 1 => .int
  | _ => .int
theorem nmX2 : ∀ a, a < 3 → ∀ b, b < 3 → a ≠ b → (TX2 a).2.1 ≠ (TX2 b).2.1 := by decide +kernel
theorem tyX2_ok : ∀ k, k < 3 → parseFieldDescriptor (TX2 k).2.2.1 = some (tyX2 k) := by decide +kernel
abbrev cX2_init : ByteArray := prog_4_method_1_code
def yX2_init : MethodName := ⟨RX2, "<init>", "()V"⟩
abbrev cX2_keep : ByteArray := prog_4_method_2_code
def yX2_keep : MethodName := ⟨RX2, "keep", "(LLineBattle$Field;)V"⟩
abbrev cX2_takeBack : ByteArray := prog_4_method_3_code
def yX2_takeBack : MethodName := ⟨RX2, "takeBack", "(LLineBattle$Field;)Z"⟩
abbrev cX2_forget : ByteArray := prog_4_method_4_code
def yX2_forget : MethodName := ⟨RX2, "forget", "()V"⟩
abbrev cX2_newestState : ByteArray := prog_4_method_5_code
def yX2_newestState : MethodName := ⟨RX2, "newestState", "()LLineBattle$Field;"⟩
def RX3 : String := "LineBattle$Line"
def TX3 : u_T := fun k => match k with
  | 0 => ("LineBattle$Line", "number", "I", true)
  | 1 => ("LineBattle$Line", "side", "I", false)
  | 2 => ("LineBattle$Line", "lane", "I", false)
  | 3 => ("LineBattle$Line", "column", "I", false)
  | 4 => ("LineBattle$Line", "kind", "C", false)
  | 5 => ("LineBattle$Line", "order", "C", false)
  | 6 => ("LineBattle$Line", "strength", "I", false)
  | 7 => ("LineBattle$Line", "morale", "I", false)
  | 8 => ("LineBattle$Line", "condition", "I", false)
  | _ => ("LineBattle$Line", "turnsRouted", "I", false)
def tyX3 : Nat → FieldType := fun k => match k with
  | 0 => .int
  | 1 => .int
  | 2 => .int
  | 3 => .int
  | 4 => .char
  | 5 => .char
  | 6 => .int
  | 7 => .int
  | 8 => .int
  | _ => .int
theorem nmX3 : ∀ a, a < 10 → ∀ b, b < 10 → a ≠ b → (TX3 a).2.1 ≠ (TX3 b).2.1 := by decide +kernel
theorem tyX3_ok : ∀ k, k < 10 → parseFieldDescriptor (TX3 k).2.2.1 = some (tyX3 k) := by decide +kernel
abbrev cX3_init : ByteArray := prog_5_method_1_code
def yX3_init : MethodName := ⟨RX3, "<init>", "(I)V"⟩
abbrev cX3_copyFrom : ByteArray := prog_5_method_2_code
def yX3_copyFrom : MethodName := ⟨RX3, "copyFrom", "(LLineBattle$Line;)V"⟩
abbrev cX3_stands : ByteArray := prog_5_method_3_code
def yX3_stands : MethodName := ⟨RX3, "stands", "()Z"⟩
abbrev cX3_routed : ByteArray := prog_5_method_4_code
def yX3_routed : MethodName := ⟨RX3, "routed", "()Z"⟩
abbrev cX3_hasFallen : ByteArray := prog_5_method_5_code
def yX3_hasFallen : MethodName := ⟨RX3, "hasFallen", "()Z"⟩
abbrev cX3_forward : ByteArray := prog_5_method_6_code
def yX3_forward : MethodName := ⟨RX3, "forward", "()I"⟩
abbrev cX3_attack : ByteArray := prog_5_method_7_code
def yX3_attack : MethodName := ⟨RX3, "attack", "(Z)I"⟩
abbrev cX3_counter : ByteArray := prog_5_method_8_code
def yX3_counter : MethodName := ⟨RX3, "counter", "()I"⟩
abbrev cX3_suffer : ByteArray := prog_5_method_9_code
def yX3_suffer : MethodName := ⟨RX3, "suffer", "(I)V"⟩
abbrev cX3_gainMorale : ByteArray := prog_5_method_10_code
def yX3_gainMorale : MethodName := ⟨RX3, "gainMorale", "(I)V"⟩
abbrev cX3_standIfBold : ByteArray := prog_5_method_11_code
def yX3_standIfBold : MethodName := ⟨RX3, "standIfBold", "()V"⟩
abbrev cX3_letter : ByteArray := prog_5_method_12_code
def yX3_letter : MethodName := ⟨RX3, "letter", "()C"⟩
def RX4 : String := "LineBattle"
def TX4 : u_T := fun k => match k with
  | 0 => ("LineBattle", "field", "LLineBattle$Field;", true)
  | 1 => ("LineBattle", "snapshot", "LLineBattle$Field;", true)
  | 2 => ("LineBattle", "scratch", "LLineBattle$Field;", true)
  | 3 => ("LineBattle", "history", "LLineBattle$History;", true)
  | 4 => ("LineBattle", "text", "LLineBattle$CommandText;", true)
  | 5 => ("LineBattle", "written", "[C", true)
  | 6 => ("LineBattle", "writtenLength", "I", false)
  | 7 => ("LineBattle", "hasSnapshot", "Z", false)
  | 8 => ("LineBattle", "lastErrorPosition", "I", false)
  | _ => ("LineBattle", "lastFailedCommand", "I", false)
def tyX4 : Nat → FieldType := fun k => match k with
  | 0 => .object "LineBattle$Field"
  | 1 => .object "LineBattle$Field"
  | 2 => .object "LineBattle$Field"
  | 3 => .object "LineBattle$History"
  | 4 => .object "LineBattle$CommandText"
  | 5 => .array .char
  | 6 => .int
  | 7 => .boolean
  | 8 => .int
  | _ => .int
theorem nmX4 : ∀ a, a < 10 → ∀ b, b < 10 → a ≠ b → (TX4 a).2.1 ≠ (TX4 b).2.1 := by decide +kernel
theorem tyX4_ok : ∀ k, k < 10 → parseFieldDescriptor (TX4 k).2.2.1 = some (tyX4 k) := by decide +kernel
abbrev cX4_init : ByteArray := prog_1_method_1_code
def yX4_init : MethodName := ⟨RX4, "<init>", "()V"⟩
abbrev cX4_addLine : ByteArray := prog_1_method_2_code
def yX4_addLine : MethodName := ⟨RX4, "addLine", "(IICI)I"⟩
abbrev cX4_setOrder : ByteArray := prog_1_method_3_code
def yX4_setOrder : MethodName := ⟨RX4, "setOrder", "(IC)C"⟩
abbrev cX4_rally : ByteArray := prog_1_method_4_code
def yX4_rally : MethodName := ⟨RX4, "rally", "(I)I"⟩
abbrev cX4_turn : ByteArray := prog_1_method_5_code
def yX4_turn : MethodName := ⟨RX4, "turn", "()I"⟩
abbrev cX4_lineCount : ByteArray := prog_1_method_6_code
def yX4_lineCount : MethodName := ⟨RX4, "lineCount", "()I"⟩
abbrev cX4_sideOf : ByteArray := prog_1_method_7_code
def yX4_sideOf : MethodName := ⟨RX4, "sideOf", "(I)I"⟩
abbrev cX4_laneOf : ByteArray := prog_1_method_8_code
def yX4_laneOf : MethodName := ⟨RX4, "laneOf", "(I)I"⟩
abbrev cX4_columnOf : ByteArray := prog_1_method_9_code
def yX4_columnOf : MethodName := ⟨RX4, "columnOf", "(I)I"⟩
abbrev cX4_kindOf : ByteArray := prog_1_method_10_code
def yX4_kindOf : MethodName := ⟨RX4, "kindOf", "(I)C"⟩
abbrev cX4_strengthOf : ByteArray := prog_1_method_11_code
def yX4_strengthOf : MethodName := ⟨RX4, "strengthOf", "(I)I"⟩
abbrev cX4_moraleOf : ByteArray := prog_1_method_12_code
def yX4_moraleOf : MethodName := ⟨RX4, "moraleOf", "(I)I"⟩
abbrev cX4_orderOf : ByteArray := prog_1_method_13_code
def yX4_orderOf : MethodName := ⟨RX4, "orderOf", "(I)C"⟩
abbrev cX4_isStanding : ByteArray := prog_1_method_14_code
def yX4_isStanding : MethodName := ⟨RX4, "isStanding", "(I)Z"⟩
abbrev cX4_isRouted : ByteArray := prog_1_method_15_code
def yX4_isRouted : MethodName := ⟨RX4, "isRouted", "(I)Z"⟩
abbrev cX4_routedTurns : ByteArray := prog_1_method_16_code
def yX4_routedTurns : MethodName := ⟨RX4, "routedTurns", "(I)I"⟩
abbrev cX4_lineIn : ByteArray := prog_1_method_17_code
def yX4_lineIn : MethodName := ⟨RX4, "lineIn", "(II)I"⟩
abbrev cX4_attackOf : ByteArray := prog_1_method_18_code
def yX4_attackOf : MethodName := ⟨RX4, "attackOf", "(I)I"⟩
abbrev cX4_counterOf : ByteArray := prog_1_method_19_code
def yX4_counterOf : MethodName := ⟨RX4, "counterOf", "(I)I"⟩
abbrev cX4_supportOf : ByteArray := prog_1_method_20_code
def yX4_supportOf : MethodName := ⟨RX4, "supportOf", "(I)I"⟩
abbrev cX4_supportByLines : ByteArray := prog_1_method_21_code
def yX4_supportByLines : MethodName := ⟨RX4, "supportByLines", "(I)I"⟩
abbrev cX4_enemyAhead : ByteArray := prog_1_method_22_code
def yX4_enemyAhead : MethodName := ⟨RX4, "enemyAhead", "(I)I"⟩
abbrev cX4_enemyByDistances : ByteArray := prog_1_method_23_code
def yX4_enemyByDistances : MethodName := ⟨RX4, "enemyByDistances", "(I)I"⟩
abbrev cX4_fightCount : ByteArray := prog_1_method_24_code
def yX4_fightCount : MethodName := ⟨RX4, "fightCount", "()I"⟩
abbrev cX4_turnsUntilFight : ByteArray := prog_1_method_25_code
def yX4_turnsUntilFight : MethodName := ⟨RX4, "turnsUntilFight", "()I"⟩
abbrev cX4_jarsOf : ByteArray := prog_1_method_26_code
def yX4_jarsOf : MethodName := ⟨RX4, "jarsOf", "(I)I"⟩
abbrev cX4_strengthOfSide : ByteArray := prog_1_method_27_code
def yX4_strengthOfSide : MethodName := ⟨RX4, "strengthOfSide", "(I)I"⟩
abbrev cX4_strengthByCells : ByteArray := prog_1_method_28_code
def yX4_strengthByCells : MethodName := ⟨RX4, "strengthByCells", "(I)I"⟩
abbrev cX4_fallenOf : ByteArray := prog_1_method_29_code
def yX4_fallenOf : MethodName := ⟨RX4, "fallenOf", "(I)I"⟩
abbrev cX4_frontOf : ByteArray := prog_1_method_30_code
def yX4_frontOf : MethodName := ⟨RX4, "frontOf", "(II)I"⟩
abbrev cX4_leader : ByteArray := prog_1_method_31_code
def yX4_leader : MethodName := ⟨RX4, "leader", "()I"⟩
abbrev cX4_lineByStrength : ByteArray := prog_1_method_32_code
def yX4_lineByStrength : MethodName := ⟨RX4, "lineByStrength", "(I)I"⟩
abbrev cX4_turnCount : ByteArray := prog_1_method_33_code
def yX4_turnCount : MethodName := ⟨RX4, "turnCount", "()I"⟩
abbrev cX4_writeLane : ByteArray := prog_1_method_34_code
def yX4_writeLane : MethodName := ⟨RX4, "writeLane", "(I)I"⟩
abbrev cX4_writtenAt : ByteArray := prog_1_method_35_code
def yX4_writtenAt : MethodName := ⟨RX4, "writtenAt", "(I)C"⟩
abbrev cX4_meanMorale : ByteArray := prog_1_method_36_code
def yX4_meanMorale : MethodName := ⟨RX4, "meanMorale", "()D"⟩
abbrev cX4_standingShare : ByteArray := prog_1_method_37_code
def yX4_standingShare : MethodName := ⟨RX4, "standingShare", "()F"⟩
abbrev cX4_isConsistent : ByteArray := prog_1_method_38_code
def yX4_isConsistent : MethodName := ⟨RX4, "isConsistent", "()Z"⟩
abbrev cX4_type : ByteArray := prog_1_method_39_code
def yX4_type : MethodName := ⟨RX4, "type", "(C)I"⟩
abbrev cX4_execute : ByteArray := prog_1_method_40_code
def yX4_execute : MethodName := ⟨RX4, "execute", "()I"⟩
abbrev cX4_errorPosition : ByteArray := prog_1_method_41_code
def yX4_errorPosition : MethodName := ⟨RX4, "errorPosition", "()I"⟩
abbrev cX4_failedCommand : ByteArray := prog_1_method_42_code
def yX4_failedCommand : MethodName := ⟨RX4, "failedCommand", "()I"⟩
abbrev cX4_undo : ByteArray := prog_1_method_43_code
def yX4_undo : MethodName := ⟨RX4, "undo", "()I"⟩
abbrev cX4_save : ByteArray := prog_1_method_44_code
def yX4_save : MethodName := ⟨RX4, "save", "()I"⟩
abbrev cX4_restore : ByteArray := prog_1_method_45_code
def yX4_restore : MethodName := ⟨RX4, "restore", "()I"⟩
abbrev cX4_isSide : ByteArray := prog_1_method_46_code
def yX4_isSide : MethodName := ⟨RX4, "isSide", "(I)Z"⟩
abbrev cX4_isLane : ByteArray := prog_1_method_47_code
def yX4_isLane : MethodName := ⟨RX4, "isLane", "(I)Z"⟩
abbrev cX4_isColumn : ByteArray := prog_1_method_48_code
def yX4_isColumn : MethodName := ⟨RX4, "isColumn", "(I)Z"⟩
abbrev cX4_requireSide : ByteArray := prog_1_method_49_code
def yX4_requireSide : MethodName := ⟨RX4, "requireSide", "(I)V"⟩
abbrev cX4_known : ByteArray := prog_1_method_50_code
def yX4_known : MethodName := ⟨RX4, "known", "(I)LLineBattle$Line;"⟩
abbrev cX4_unfallen : ByteArray := prog_1_method_51_code
def yX4_unfallen : MethodName := ⟨RX4, "unfallen", "(I)LLineBattle$Line;"⟩
abbrev cX4_write : ByteArray := prog_1_method_52_code
def yX4_write : MethodName := ⟨RX4, "write", "(C)V"⟩
abbrev cX4_perform : ByteArray := prog_1_method_53_code
def yX4_perform : MethodName := ⟨RX4, "perform", "()Z"⟩
def RX5 : String := "LineBattleModel"
def TX5 : u_T := fun k => match k with
  | 0 => ("LineBattleModel", "s", "[I", true)
  | 1 => ("LineBattleModel", "before", "[I", true)
  | 2 => ("LineBattleModel", "aside", "[I", true)
  | 3 => ("LineBattleModel", "saved", "[I", true)
  | 4 => ("LineBattleModel", "isSaved", "Z", false)
  | 5 => ("LineBattleModel", "past", "[I", true)
  | 6 => ("LineBattleModel", "pastMany", "I", false)
  | 7 => ("LineBattleModel", "thrown", "I", false)
  | 8 => ("LineBattleModel", "written", "[C", true)
  | 9 => ("LineBattleModel", "writtenMany", "I", false)
  | 10 => ("LineBattleModel", "text", "[C", true)
  | 11 => ("LineBattleModel", "length", "I", false)
  | 12 => ("LineBattleModel", "at", "I", false)
  | 13 => ("LineBattleModel", "isWrong", "Z", false)
  | 14 => ("LineBattleModel", "errorAt", "I", false)
  | 15 => ("LineBattleModel", "failedAt", "I", false)
  | 16 => ("LineBattleModel", "commands", "[I", true)
  | _ => ("LineBattleModel", "commandMany", "I", false)
def tyX5 : Nat → FieldType := fun k => match k with
  | 0 => .array .int
  | 1 => .array .int
  | 2 => .array .int
  | 3 => .array .int
  | 4 => .boolean
  | 5 => .array .int
  | 6 => .int
  | 7 => .int
  | 8 => .array .char
  | 9 => .int
  | 10 => .array .char
  | 11 => .int
  | 12 => .int
  | 13 => .boolean
  | 14 => .int
  | 15 => .int
  | 16 => .array .int
  | _ => .int
theorem nmX5 : ∀ a, a < 18 → ∀ b, b < 18 → a ≠ b → (TX5 a).2.1 ≠ (TX5 b).2.1 := by decide +kernel
theorem tyX5_ok : ∀ k, k < 18 → parseFieldDescriptor (TX5 k).2.2.1 = some (tyX5 k) := by decide +kernel
abbrev cX5_init : ByteArray := prog_7_method_1_code
def yX5_init : MethodName := ⟨RX5, "<init>", "()V"⟩
abbrev cX5_thrown : ByteArray := prog_7_method_2_code
def yX5_thrown : MethodName := ⟨RX5, "thrown", "()I"⟩
abbrev cX5_in : ByteArray := prog_7_method_3_code
def yX5_in : MethodName := ⟨RX5, "in", "(III)Z"⟩
abbrev cX5_keep : ByteArray := prog_7_method_4_code
def yX5_keep : MethodName := ⟨RX5, "keep", "()V"⟩
abbrev cX5_ends : ByteArray := prog_7_method_5_code
def yX5_ends : MethodName := ⟨RX5, "ends", "(I)I"⟩
abbrev cX5_fails : ByteArray := prog_7_method_6_code
def yX5_fails : MethodName := ⟨RX5, "fails", "(I)I"⟩
abbrev cX5_isThere : ByteArray := prog_7_method_7_code
def yX5_isThere : MethodName := ⟨RX5, "isThere", "(Z)Z"⟩
abbrev cX5_isLine : ByteArray := prog_7_method_8_code
def yX5_isLine : MethodName := ⟨RX5, "isLine", "(I)Z"⟩
abbrev cX5_isSide : ByteArray := prog_7_method_9_code
def yX5_isSide : MethodName := ⟨RX5, "isSide", "(I)Z"⟩
abbrev cX5_isLane : ByteArray := prog_7_method_10_code
def yX5_isLane : MethodName := ⟨RX5, "isLane", "(I)Z"⟩
abbrev cX5_isColumn : ByteArray := prog_7_method_11_code
def yX5_isColumn : MethodName := ⟨RX5, "isColumn", "(I)Z"⟩
abbrev cX5_isKind : ByteArray := prog_7_method_12_code
def yX5_isKind : MethodName := ⟨RX5, "isKind", "(I)Z"⟩
abbrev cX5_isOrder : ByteArray := prog_7_method_13_code
def yX5_isOrder : MethodName := ⟨RX5, "isOrder", "(I)Z"⟩
abbrev cX5_of : ByteArray := prog_7_method_14_code
def yX5_of : MethodName := ⟨RX5, "of", "(II)I"⟩
abbrev cX5_sets : ByteArray := prog_7_method_15_code
def yX5_sets : MethodName := ⟨RX5, "sets", "(III)V"⟩
abbrev cX5_stands : ByteArray := prog_7_method_16_code
def yX5_stands : MethodName := ⟨RX5, "stands", "(I)Z"⟩
abbrev cX5_isGone : ByteArray := prog_7_method_17_code
def yX5_isGone : MethodName := ⟨RX5, "isGone", "(I)Z"⟩
abbrev cX5_way : ByteArray := prog_7_method_18_code
def yX5_way : MethodName := ⟨RX5, "way", "(I)I"⟩
abbrev cX5_cell : ByteArray := prog_7_method_19_code
def yX5_cell : MethodName := ⟨RX5, "cell", "(II)I"⟩
abbrev cX5_attack : ByteArray := prog_7_method_20_code
def yX5_attack : MethodName := ⟨RX5, "attack", "(I)I"⟩
abbrev cX5_counter : ByteArray := prog_7_method_21_code
def yX5_counter : MethodName := ⟨RX5, "counter", "(I)I"⟩
abbrev cX5_support : ByteArray := prog_7_method_22_code
def yX5_support : MethodName := ⟨RX5, "support", "(I)I"⟩
abbrev cX5_loses : ByteArray := prog_7_method_23_code
def yX5_loses : MethodName := ⟨RX5, "loses", "(II)V"⟩
abbrev cX5_settles : ByteArray := prog_7_method_24_code
def yX5_settles : MethodName := ⟨RX5, "settles", "(I)V"⟩
abbrev cX5_fights : ByteArray := prog_7_method_25_code
def yX5_fights : MethodName := ⟨RX5, "fights", "(IIZ)V"⟩
abbrev cX5_next : ByteArray := prog_7_method_26_code
def yX5_next : MethodName := ⟨RX5, "next", "(I)I"⟩
abbrev cX5_moves : ByteArray := prog_7_method_27_code
def yX5_moves : MethodName := ⟨RX5, "moves", "(II)Z"⟩
abbrev cX5_isEnemy : ByteArray := prog_7_method_28_code
def yX5_isEnemy : MethodName := ⟨RX5, "isEnemy", "(II)Z"⟩
abbrev cX5_restores : ByteArray := prog_7_method_29_code
def yX5_restores : MethodName := ⟨RX5, "restores", "(I)V"⟩
abbrev cX5_flees : ByteArray := prog_7_method_30_code
def yX5_flees : MethodName := ⟨RX5, "flees", "(I)V"⟩
abbrev cX5_acts : ByteArray := prog_7_method_31_code
def yX5_acts : MethodName := ⟨RX5, "acts", "(I)V"⟩
abbrev cX5_passes : ByteArray := prog_7_method_32_code
def yX5_passes : MethodName := ⟨RX5, "passes", "()I"⟩
abbrev cX5_doAddLine : ByteArray := prog_7_method_33_code
def yX5_doAddLine : MethodName := ⟨RX5, "doAddLine", "(IIII)I"⟩
abbrev cX5_addLine : ByteArray := prog_7_method_34_code
def yX5_addLine : MethodName := ⟨RX5, "addLine", "(IICI)I"⟩
abbrev cX5_doSetOrder : ByteArray := prog_7_method_35_code
def yX5_doSetOrder : MethodName := ⟨RX5, "doSetOrder", "(II)I"⟩
abbrev cX5_setOrder : ByteArray := prog_7_method_36_code
def yX5_setOrder : MethodName := ⟨RX5, "setOrder", "(IC)C"⟩
abbrev cX5_doRally : ByteArray := prog_7_method_37_code
def yX5_doRally : MethodName := ⟨RX5, "doRally", "(I)I"⟩
abbrev cX5_rally : ByteArray := prog_7_method_38_code
def yX5_rally : MethodName := ⟨RX5, "rally", "(I)I"⟩
abbrev cX5_turn : ByteArray := prog_7_method_39_code
def yX5_turn : MethodName := ⟨RX5, "turn", "()I"⟩
abbrev cX5_lineCount : ByteArray := prog_7_method_40_code
def yX5_lineCount : MethodName := ⟨RX5, "lineCount", "()I"⟩
abbrev cX5_tells : ByteArray := prog_7_method_41_code
def yX5_tells : MethodName := ⟨RX5, "tells", "(II)I"⟩
abbrev cX5_sideOf : ByteArray := prog_7_method_42_code
def yX5_sideOf : MethodName := ⟨RX5, "sideOf", "(I)I"⟩
abbrev cX5_asks : ByteArray := prog_7_method_43_code
def yX5_asks : MethodName := ⟨RX5, "asks", "(I)Z"⟩
abbrev cX5_laneOf : ByteArray := prog_7_method_44_code
def yX5_laneOf : MethodName := ⟨RX5, "laneOf", "(I)I"⟩
abbrev cX5_columnOf : ByteArray := prog_7_method_45_code
def yX5_columnOf : MethodName := ⟨RX5, "columnOf", "(I)I"⟩
abbrev cX5_kindOf : ByteArray := prog_7_method_46_code
def yX5_kindOf : MethodName := ⟨RX5, "kindOf", "(I)C"⟩
abbrev cX5_strengthOf : ByteArray := prog_7_method_47_code
def yX5_strengthOf : MethodName := ⟨RX5, "strengthOf", "(I)I"⟩
abbrev cX5_moraleOf : ByteArray := prog_7_method_48_code
def yX5_moraleOf : MethodName := ⟨RX5, "moraleOf", "(I)I"⟩
abbrev cX5_orderOf : ByteArray := prog_7_method_49_code
def yX5_orderOf : MethodName := ⟨RX5, "orderOf", "(I)C"⟩
abbrev cX5_isStanding : ByteArray := prog_7_method_50_code
def yX5_isStanding : MethodName := ⟨RX5, "isStanding", "(I)Z"⟩
abbrev cX5_isRouted : ByteArray := prog_7_method_51_code
def yX5_isRouted : MethodName := ⟨RX5, "isRouted", "(I)Z"⟩
abbrev cX5_routedTurns : ByteArray := prog_7_method_52_code
def yX5_routedTurns : MethodName := ⟨RX5, "routedTurns", "(I)I"⟩
abbrev cX5_lineIn : ByteArray := prog_7_method_53_code
def yX5_lineIn : MethodName := ⟨RX5, "lineIn", "(II)I"⟩
abbrev cX5_attackOf : ByteArray := prog_7_method_54_code
def yX5_attackOf : MethodName := ⟨RX5, "attackOf", "(I)I"⟩
abbrev cX5_counterOf : ByteArray := prog_7_method_55_code
def yX5_counterOf : MethodName := ⟨RX5, "counterOf", "(I)I"⟩
abbrev cX5_supportOf : ByteArray := prog_7_method_56_code
def yX5_supportOf : MethodName := ⟨RX5, "supportOf", "(I)I"⟩
abbrev cX5_supportByLines : ByteArray := prog_7_method_57_code
def yX5_supportByLines : MethodName := ⟨RX5, "supportByLines", "(I)I"⟩
abbrev cX5_enemyAhead : ByteArray := prog_7_method_58_code
def yX5_enemyAhead : MethodName := ⟨RX5, "enemyAhead", "(I)I"⟩
abbrev cX5_enemyByDistances : ByteArray := prog_7_method_59_code
def yX5_enemyByDistances : MethodName := ⟨RX5, "enemyByDistances", "(I)I"⟩
abbrev cX5_fightCount : ByteArray := prog_7_method_60_code
def yX5_fightCount : MethodName := ⟨RX5, "fightCount", "()I"⟩
abbrev cX5_turnsUntilFight : ByteArray := prog_7_method_61_code
def yX5_turnsUntilFight : MethodName := ⟨RX5, "turnsUntilFight", "()I"⟩
abbrev cX5_jarsOf : ByteArray := prog_7_method_62_code
def yX5_jarsOf : MethodName := ⟨RX5, "jarsOf", "(I)I"⟩
abbrev cX5_sum : ByteArray := prog_7_method_63_code
def yX5_sum : MethodName := ⟨RX5, "sum", "(I)I"⟩
abbrev cX5_strengthOfSide : ByteArray := prog_7_method_64_code
def yX5_strengthOfSide : MethodName := ⟨RX5, "strengthOfSide", "(I)I"⟩
abbrev cX5_strengthByCells : ByteArray := prog_7_method_65_code
def yX5_strengthByCells : MethodName := ⟨RX5, "strengthByCells", "(I)I"⟩
abbrev cX5_fallenOf : ByteArray := prog_7_method_66_code
def yX5_fallenOf : MethodName := ⟨RX5, "fallenOf", "(I)I"⟩
abbrev cX5_frontOf : ByteArray := prog_7_method_67_code
def yX5_frontOf : MethodName := ⟨RX5, "frontOf", "(II)I"⟩
abbrev cX5_leader : ByteArray := prog_7_method_68_code
def yX5_leader : MethodName := ⟨RX5, "leader", "()I"⟩
abbrev cX5_lineByStrength : ByteArray := prog_7_method_69_code
def yX5_lineByStrength : MethodName := ⟨RX5, "lineByStrength", "(I)I"⟩
abbrev cX5_turnCount : ByteArray := prog_7_method_70_code
def yX5_turnCount : MethodName := ⟨RX5, "turnCount", "()I"⟩
abbrev cX5_says : ByteArray := prog_7_method_71_code
def yX5_says : MethodName := ⟨RX5, "says", "(I)V"⟩
abbrev cX5_writeLane : ByteArray := prog_7_method_72_code
def yX5_writeLane : MethodName := ⟨RX5, "writeLane", "(I)I"⟩
abbrev cX5_writtenAt : ByteArray := prog_7_method_73_code
def yX5_writtenAt : MethodName := ⟨RX5, "writtenAt", "(I)C"⟩
abbrev cX5_meanMorale : ByteArray := prog_7_method_74_code
def yX5_meanMorale : MethodName := ⟨RX5, "meanMorale", "()D"⟩
abbrev cX5_standingShare : ByteArray := prog_7_method_75_code
def yX5_standingShare : MethodName := ⟨RX5, "standingShare", "()F"⟩
abbrev cX5_isConsistent : ByteArray := prog_7_method_76_code
def yX5_isConsistent : MethodName := ⟨RX5, "isConsistent", "()Z"⟩
abbrev cX5_type : ByteArray := prog_7_method_77_code
def yX5_type : MethodName := ⟨RX5, "type", "(C)I"⟩
abbrev cX5_behind : ByteArray := prog_7_method_78_code
def yX5_behind : MethodName := ⟨RX5, "behind", "()I"⟩
abbrev cX5_skip : ByteArray := prog_7_method_79_code
def yX5_skip : MethodName := ⟨RX5, "skip", "(Ljava/lang/String;)V"⟩
abbrev cX5_isDigit : ByteArray := prog_7_method_80_code
def yX5_isDigit : MethodName := ⟨RX5, "isDigit", "()Z"⟩
abbrev cX5_readNumber : ByteArray := prog_7_method_81_code
def yX5_readNumber : MethodName := ⟨RX5, "readNumber", "(I)I"⟩
abbrev cX5_readLetter : ByteArray := prog_7_method_82_code
def yX5_readLetter : MethodName := ⟨RX5, "readLetter", "(Z)I"⟩
abbrev cX5_readCommand : ByteArray := prog_7_method_83_code
def yX5_readCommand : MethodName := ⟨RX5, "readCommand", "()V"⟩
abbrev cX5_does : ByteArray := prog_7_method_84_code
def yX5_does : MethodName := ⟨RX5, "does", "(I)V"⟩
abbrev cX5_execute : ByteArray := prog_7_method_85_code
def yX5_execute : MethodName := ⟨RX5, "execute", "()I"⟩
abbrev cX5_errorPosition : ByteArray := prog_7_method_86_code
def yX5_errorPosition : MethodName := ⟨RX5, "errorPosition", "()I"⟩
abbrev cX5_failedCommand : ByteArray := prog_7_method_87_code
def yX5_failedCommand : MethodName := ⟨RX5, "failedCommand", "()I"⟩
abbrev cX5_undo : ByteArray := prog_7_method_88_code
def yX5_undo : MethodName := ⟨RX5, "undo", "()I"⟩
abbrev cX5_save : ByteArray := prog_7_method_89_code
def yX5_save : MethodName := ⟨RX5, "save", "()I"⟩
abbrev cX5_restore : ByteArray := prog_7_method_90_code
def yX5_restore : MethodName := ⟨RX5, "restore", "()I"⟩
def RJx145de : String := "java/io/Serializable"
def TJx145de : u_T := fun k => match k with
  | _ => ("", "", "", false)
def tyJx145de : Nat → FieldType := fun k => match k with
  | _ => .int
theorem nmJx145de : ∀ a, a < 0 → ∀ b, b < 0 → a ≠ b → (TJx145de a).2.1 ≠ (TJx145de b).2.1 := by decide +kernel
theorem tyJx145de_ok : ∀ k, k < 0 → parseFieldDescriptor (TJx145de k).2.2.1 = some (tyJx145de k) := by decide +kernel
def RJx00060 : String := "java/lang/ArrayIndexOutOfBoundsException"
def TJx00060 : u_T := fun k => match k with
  | 0 => ("java/lang/Throwable", "backtrace", "Ljava/lang/Object;", false)
  | 1 => ("java/lang/Throwable", "detailMessage", "Ljava/lang/String;", false)
  | 2 => ("java/lang/Throwable", "cause", "Ljava/lang/Throwable;", false)
  | 3 => ("java/lang/Throwable", "stackTrace", "[Ljava/lang/StackTraceElement;", false)
  | 4 => ("java/lang/Throwable", "depth", "I", false)
  | _ => ("java/lang/Throwable", "suppressedExceptions", "Ljava/util/List;", false)
def tyJx00060 : Nat → FieldType := fun k => match k with
  | 0 => .object "java/lang/Object"
  | 1 => .object "java/lang/String"
  | 2 => .object "java/lang/Throwable"
  | 3 => .array (.object "java/lang/StackTraceElement")
  | 4 => .int
  | _ => .object "java/util/List"
theorem nmJx00060 : ∀ a, a < 6 → ∀ b, b < 6 → a ≠ b → (TJx00060 a).2.1 ≠ (TJx00060 b).2.1 := by decide +kernel
theorem tyJx00060_ok : ∀ k, k < 6 → parseFieldDescriptor (TJx00060 k).2.2.1 = some (tyJx00060 k) := by decide +kernel
abbrev cJx00060_init_a7421 : ByteArray := prog_10_method_2_code
def yJx00060_init_a7421 : MethodName := ⟨RJx00060, "<init>", "(Ljava/lang/String;)V"⟩
def RJx9f9b0 : String := "java/lang/CharSequence"
def TJx9f9b0 : u_T := fun k => match k with
  | _ => ("", "", "", false)
def tyJx9f9b0 : Nat → FieldType := fun k => match k with
  | _ => .int
theorem nmJx9f9b0 : ∀ a, a < 0 → ∀ b, b < 0 → a ≠ b → (TJx9f9b0 a).2.1 ≠ (TJx9f9b0 b).2.1 := by decide +kernel
theorem tyJx9f9b0_ok : ∀ k, k < 0 → parseFieldDescriptor (TJx9f9b0 k).2.2.1 = some (tyJx9f9b0 k) := by decide +kernel
def RJ11 : String := "java/lang/Character"
def TJ11 : u_T := fun k => match k with
  | _ => ("", "", "", false)
def tyJ11 : Nat → FieldType := fun k => match k with
  | _ => .int
theorem nmJ11 : ∀ a, a < 0 → ∀ b, b < 0 → a ≠ b → (TJ11 a).2.1 ≠ (TJ11 b).2.1 := by decide +kernel
theorem tyJ11_ok : ∀ k, k < 0 → parseFieldDescriptor (TJ11 k).2.2.1 = some (tyJ11 k) := by decide +kernel
abbrev cJ11_isValidCodePoint_9a6ad : ByteArray := prog_12_method_11_code
def yJ11_isValidCodePoint_9a6ad : MethodName := ⟨RJ11, "isValidCodePoint", "(I)Z"⟩
abbrev cJ11_highSurrogate_5068e : ByteArray := prog_12_method_28_code
def yJ11_highSurrogate_5068e : MethodName := ⟨RJ11, "highSurrogate", "(I)C"⟩
abbrev cJ11_lowSurrogate_5068e : ByteArray := prog_12_method_29_code
def yJ11_lowSurrogate_5068e : MethodName := ⟨RJ11, "lowSurrogate", "(I)C"⟩
def RJxb160c : String := "java/lang/Comparable"
def TJxb160c : u_T := fun k => match k with
  | _ => ("", "", "", false)
def tyJxb160c : Nat → FieldType := fun k => match k with
  | _ => .int
theorem nmJxb160c : ∀ a, a < 0 → ∀ b, b < 0 → a ≠ b → (TJxb160c a).2.1 ≠ (TJxb160c b).2.1 := by decide +kernel
theorem tyJxb160c_ok : ∀ k, k < 0 → parseFieldDescriptor (TJxb160c k).2.2.1 = some (tyJxb160c k) := by decide +kernel
def RJ9 : String := "java/lang/Math"
def TJ9 : u_T := fun k => match k with
  | _ => ("", "", "", false)
def tyJ9 : Nat → FieldType := fun k => match k with
  | _ => .int
theorem nmJ9 : ∀ a, a < 0 → ∀ b, b < 0 → a ≠ b → (TJ9 a).2.1 ≠ (TJ9 b).2.1 := by decide +kernel
theorem tyJ9_ok : ∀ k, k < 0 → parseFieldDescriptor (TJ9 k).2.2.1 = some (tyJ9 k) := by decide +kernel
abbrev cJ9_abs_0f7a4 : ByteArray := prog_18_method_59_code
def yJ9_abs_0f7a4 : MethodName := ⟨RJ9, "abs", "(I)I"⟩
abbrev cJ9_max_7cf53 : ByteArray := prog_18_method_65_code
def yJ9_max_7cf53 : MethodName := ⟨RJ9, "max", "(II)I"⟩
abbrev cJ9_min_7cf53 : ByteArray := prog_18_method_69_code
def yJ9_min_7cf53 : MethodName := ⟨RJ9, "min", "(II)I"⟩
def RJ0 : String := "java/lang/String"
def TJ0 : u_T := fun k => match k with
  | 0 => ("java/lang/String", "value", "[B", true)
  | _ => ("java/lang/String", "coder", "B", true)
def tyJ0 : Nat → FieldType := fun k => match k with
  | 0 => .array .byte
  | _ => .byte
theorem nmJ0 : ∀ a, a < 2 → ∀ b, b < 2 → a ≠ b → (TJ0 a).2.1 ≠ (TJ0 b).2.1 := by decide +kernel
theorem tyJ0_ok : ∀ k, k < 2 → parseFieldDescriptor (TJ0 k).2.2.1 = some (tyJ0 k) := by decide +kernel
abbrev cJ0_length_8abf5 : ByteArray := prog_20_method_54_code
def yJ0_length_8abf5 : MethodName := ⟨RJ0, "length", "()I"⟩
abbrev cJ0_charAt_5068e : ByteArray := prog_20_method_56_code
def yJ0_charAt_5068e : MethodName := ⟨RJ0, "charAt", "(I)C"⟩
abbrev cJ0_indexOf_0f7a4 : ByteArray := prog_20_method_79_code
def yJ0_indexOf_0f7a4 : MethodName := ⟨RJ0, "indexOf", "(I)I"⟩
abbrev cJ0_indexOf_7cf53 : ByteArray := prog_20_method_80_code
def yJ0_indexOf_7cf53 : MethodName := ⟨RJ0, "indexOf", "(II)I"⟩
abbrev cJ0_coder_7d493 : ByteArray := prog_20_method_152_code
def yJ0_coder_7d493 : MethodName := ⟨RJ0, "coder", "()B"⟩
abbrev cJ0_isLatin1_aae02 : ByteArray := prog_20_method_154_code
def yJ0_isLatin1_aae02 : MethodName := ⟨RJ0, "isLatin1", "()Z"⟩
abbrev cJ0_checkIndex_df160 : ByteArray := prog_20_method_155_code
def yJ0_checkIndex_df160 : MethodName := ⟨RJ0, "checkIndex", "(II)V"⟩
abbrev cJ0_checkBoundsBeginEnd_23922 : ByteArray := prog_20_method_158_code
def yJ0_checkBoundsBeginEnd_23922 : MethodName := ⟨RJ0, "checkBoundsBeginEnd", "(III)V"⟩
def RJ1 : String := "java/lang/StringLatin1"
def TJ1 : u_T := fun k => match k with
  | _ => ("", "", "", false)
def tyJ1 : Nat → FieldType := fun k => match k with
  | _ => .int
theorem nmJ1 : ∀ a, a < 0 → ∀ b, b < 0 → a ≠ b → (TJ1 a).2.1 ≠ (TJ1 b).2.1 := by decide +kernel
theorem tyJ1_ok : ∀ k, k < 0 → parseFieldDescriptor (TJ1 k).2.2.1 = some (tyJ1 k) := by decide +kernel
abbrev cJ1_charAt_3b067 : ByteArray := prog_21_method_2_code
def yJ1_charAt_3b067 : MethodName := ⟨RJ1, "charAt", "([BI)C"⟩
abbrev cJ1_canEncode_9a6ad : ByteArray := prog_21_method_4_code
def yJ1_canEncode_9a6ad : MethodName := ⟨RJ1, "canEncode", "(I)Z"⟩
abbrev cJ1_indexOf_4cfef : ByteArray := prog_21_method_22_code
def yJ1_indexOf_4cfef : MethodName := ⟨RJ1, "indexOf", "([BIII)I"⟩
abbrev cJ1_indexOfChar_4cfef : ByteArray := prog_21_method_23_code
def yJ1_indexOfChar_4cfef : MethodName := ⟨RJ1, "indexOfChar", "([BIII)I"⟩
def RJ2 : String := "java/lang/StringUTF16"
def TJ2 : u_T := fun k => match k with
  | _ => ("", "", "", false)
def tyJ2 : Nat → FieldType := fun k => match k with
  | _ => .int
theorem nmJ2 : ∀ a, a < 0 → ∀ b, b < 0 → a ≠ b → (TJ2 a).2.1 ≠ (TJ2 b).2.1 := by decide +kernel
theorem tyJ2_ok : ∀ k, k < 0 → parseFieldDescriptor (TJ2 k).2.2.1 = some (tyJ2 k) := by decide +kernel
abbrev cJ2_getChar_3b067 : ByteArray := prog_22_method_5_code
def yJ2_getChar_3b067 : MethodName := ⟨RJ2, "getChar", "([BI)C"⟩
abbrev cJ2_length_9d52b : ByteArray := prog_22_method_6_code
def yJ2_length_9d52b : MethodName := ⟨RJ2, "length", "([B)I"⟩
abbrev cJ2_indexOf_4cfef : ByteArray := prog_22_method_40_code
def yJ2_indexOf_4cfef : MethodName := ⟨RJ2, "indexOf", "([BIII)I"⟩
abbrev cJ2_indexOfChar_4cfef : ByteArray := prog_22_method_47_code
def yJ2_indexOfChar_4cfef : MethodName := ⟨RJ2, "indexOfChar", "([BIII)I"⟩
abbrev cJ2_indexOfCharUnsafe_4cfef : ByteArray := prog_22_method_48_code
def yJ2_indexOfCharUnsafe_4cfef : MethodName := ⟨RJ2, "indexOfCharUnsafe", "([BIII)I"⟩
abbrev cJ2_indexOfSupplementary_4cfef : ByteArray := prog_22_method_49_code
def yJ2_indexOfSupplementary_4cfef : MethodName := ⟨RJ2, "indexOfSupplementary", "([BIII)I"⟩
abbrev cJ2_charAt_3b067 : ByteArray := prog_22_method_83_code
def yJ2_charAt_3b067 : MethodName := ⟨RJ2, "charAt", "([BI)C"⟩
abbrev cJ2_checkIndex_2214a : ByteArray := prog_22_method_91_code
def yJ2_checkIndex_2214a : MethodName := ⟨RJ2, "checkIndex", "(I[B)V"⟩
abbrev cJ2_checkBoundsBeginEnd_d044e : ByteArray := prog_22_method_93_code
def yJ2_checkBoundsBeginEnd_d044e : MethodName := ⟨RJ2, "checkBoundsBeginEnd", "(II[B)V"⟩
def RJ10 : String := "java/lang/System"
def TJ10 : u_T := fun k => match k with
  | _ => ("", "", "", false)
def tyJ10 : Nat → FieldType := fun k => match k with
  | _ => .int
theorem nmJ10 : ∀ a, a < 0 → ∀ b, b < 0 → a ≠ b → (TJ10 a).2.1 ≠ (TJ10 b).2.1 := by decide +kernel
theorem tyJ10_ok : ∀ k, k < 0 → parseFieldDescriptor (TJ10 k).2.2.1 = some (tyJ10 k) := by decide +kernel
def RJxfd54e : String := "java/lang/constant/Constable"
def TJxfd54e : u_T := fun k => match k with
  | _ => ("", "", "", false)
def tyJxfd54e : Nat → FieldType := fun k => match k with
  | _ => .int
theorem nmJxfd54e : ∀ a, a < 0 → ∀ b, b < 0 → a ≠ b → (TJxfd54e a).2.1 ≠ (TJxfd54e b).2.1 := by decide +kernel
theorem tyJxfd54e_ok : ∀ k, k < 0 → parseFieldDescriptor (TJxfd54e k).2.2.1 = some (tyJxfd54e k) := by decide +kernel
def RJx3cf43 : String := "java/lang/constant/ConstantDesc"
def TJx3cf43 : u_T := fun k => match k with
  | _ => ("", "", "", false)
def tyJx3cf43 : Nat → FieldType := fun k => match k with
  | _ => .int
theorem nmJx3cf43 : ∀ a, a < 0 → ∀ b, b < 0 → a ≠ b → (TJx3cf43 a).2.1 ≠ (TJx3cf43 b).2.1 := by decide +kernel
theorem tyJx3cf43_ok : ∀ k, k < 0 → parseFieldDescriptor (TJx3cf43 k).2.2.1 = some (tyJx3cf43 k) := by decide +kernel
def RJ7 : String := "java/util/Arrays"
def TJ7 : u_T := fun k => match k with
  | _ => ("", "", "", false)
def tyJ7 : Nat → FieldType := fun k => match k with
  | _ => .int
theorem nmJ7 : ∀ a, a < 0 → ∀ b, b < 0 → a ≠ b → (TJ7 a).2.1 ≠ (TJ7 b).2.1 := by decide +kernel
theorem tyJ7_ok : ∀ k, k < 0 → parseFieldDescriptor (TJ7 k).2.2.1 = some (tyJ7 k) := by decide +kernel
abbrev cJ7_fill_53178 : ByteArray := prog_28_method_103_code
def yJ7_fill_53178 : MethodName := ⟨RJ7, "fill", "([II)V"⟩
def RJ3 : String := "jdk/internal/util/Preconditions"
def TJ3 : u_T := fun k => match k with
  | _ => ("", "", "", false)
def tyJ3 : Nat → FieldType := fun k => match k with
  | _ => .int
theorem nmJ3 : ∀ a, a < 0 → ∀ b, b < 0 → a ≠ b → (TJ3 a).2.1 ≠ (TJ3 b).2.1 := by decide +kernel
theorem tyJ3_ok : ∀ k, k < 0 → parseFieldDescriptor (TJ3 k).2.2.1 = some (tyJ3 k) := by decide +kernel
abbrev cJ3_checkIndex_8e157 : ByteArray := prog_30_method_11_code
def yJ3_checkIndex_8e157 : MethodName := ⟨RJ3, "checkIndex", "(IILjava/util/function/BiFunction;)I"⟩
abbrev cJ3_checkFromToIndex_8c36e : ByteArray := prog_30_method_12_code
def yJ3_checkFromToIndex_8c36e : MethodName := ⟨RJ3, "checkFromToIndex", "(IIILjava/util/function/BiFunction;)I"⟩
def RL : String := "LineBattleLaw"
abbrev cL_addLine : ByteArray := method_3_code
def yL_addLine : MethodName := ⟨RL, "addLine", "(LLineBattle;IICI[J)I"⟩
abbrev cL_setOrder : ByteArray := method_4_code
def yL_setOrder : MethodName := ⟨RL, "setOrder", "(LLineBattle;IC[J)I"⟩
abbrev cL_rally : ByteArray := method_5_code
def yL_rally : MethodName := ⟨RL, "rally", "(LLineBattle;I[J)I"⟩
abbrev cL_sideOf : ByteArray := method_6_code
def yL_sideOf : MethodName := ⟨RL, "sideOf", "(LLineBattle;I[J)I"⟩
abbrev cL_laneOf : ByteArray := method_7_code
def yL_laneOf : MethodName := ⟨RL, "laneOf", "(LLineBattle;I[J)I"⟩
abbrev cL_columnOf : ByteArray := method_8_code
def yL_columnOf : MethodName := ⟨RL, "columnOf", "(LLineBattle;I[J)I"⟩
abbrev cL_kindOf : ByteArray := method_9_code
def yL_kindOf : MethodName := ⟨RL, "kindOf", "(LLineBattle;I[J)I"⟩
abbrev cL_strengthOf : ByteArray := method_10_code
def yL_strengthOf : MethodName := ⟨RL, "strengthOf", "(LLineBattle;I[J)I"⟩
abbrev cL_moraleOf : ByteArray := method_11_code
def yL_moraleOf : MethodName := ⟨RL, "moraleOf", "(LLineBattle;I[J)I"⟩
abbrev cL_orderOf : ByteArray := method_12_code
def yL_orderOf : MethodName := ⟨RL, "orderOf", "(LLineBattle;I[J)I"⟩
abbrev cL_isStanding : ByteArray := method_13_code
def yL_isStanding : MethodName := ⟨RL, "isStanding", "(LLineBattle;I[J)I"⟩
abbrev cL_isRouted : ByteArray := method_14_code
def yL_isRouted : MethodName := ⟨RL, "isRouted", "(LLineBattle;I[J)I"⟩
abbrev cL_routedTurns : ByteArray := method_15_code
def yL_routedTurns : MethodName := ⟨RL, "routedTurns", "(LLineBattle;I[J)I"⟩
abbrev cL_lineIn : ByteArray := method_16_code
def yL_lineIn : MethodName := ⟨RL, "lineIn", "(LLineBattle;II[J)I"⟩
abbrev cL_attackOf : ByteArray := method_17_code
def yL_attackOf : MethodName := ⟨RL, "attackOf", "(LLineBattle;I[J)I"⟩
abbrev cL_counterOf : ByteArray := method_18_code
def yL_counterOf : MethodName := ⟨RL, "counterOf", "(LLineBattle;I[J)I"⟩
abbrev cL_supportOf : ByteArray := method_19_code
def yL_supportOf : MethodName := ⟨RL, "supportOf", "(LLineBattle;I[J)I"⟩
abbrev cL_supportByLines : ByteArray := method_20_code
def yL_supportByLines : MethodName := ⟨RL, "supportByLines", "(LLineBattle;I[J)I"⟩
abbrev cL_enemyAhead : ByteArray := method_21_code
def yL_enemyAhead : MethodName := ⟨RL, "enemyAhead", "(LLineBattle;I[J)I"⟩
abbrev cL_enemyByDistances : ByteArray := method_22_code
def yL_enemyByDistances : MethodName := ⟨RL, "enemyByDistances", "(LLineBattle;I[J)I"⟩
abbrev cL_turnsUntilFight : ByteArray := method_23_code
def yL_turnsUntilFight : MethodName := ⟨RL, "turnsUntilFight", "(LLineBattle;[J)I"⟩
abbrev cL_jarsOf : ByteArray := method_24_code
def yL_jarsOf : MethodName := ⟨RL, "jarsOf", "(LLineBattle;I[J)I"⟩
abbrev cL_strengthOfSide : ByteArray := method_25_code
def yL_strengthOfSide : MethodName := ⟨RL, "strengthOfSide", "(LLineBattle;I[J)I"⟩
abbrev cL_strengthByCells : ByteArray := method_26_code
def yL_strengthByCells : MethodName := ⟨RL, "strengthByCells", "(LLineBattle;I[J)I"⟩
abbrev cL_fallenOf : ByteArray := method_27_code
def yL_fallenOf : MethodName := ⟨RL, "fallenOf", "(LLineBattle;I[J)I"⟩
abbrev cL_frontOf : ByteArray := method_28_code
def yL_frontOf : MethodName := ⟨RL, "frontOf", "(LLineBattle;II[J)I"⟩
abbrev cL_leader : ByteArray := method_29_code
def yL_leader : MethodName := ⟨RL, "leader", "(LLineBattle;[J)I"⟩
abbrev cL_lineByStrength : ByteArray := method_30_code
def yL_lineByStrength : MethodName := ⟨RL, "lineByStrength", "(LLineBattle;I[J)I"⟩
abbrev cL_writeLane : ByteArray := method_31_code
def yL_writeLane : MethodName := ⟨RL, "writeLane", "(LLineBattle;I[J)I"⟩
abbrev cL_writtenAt : ByteArray := method_32_code
def yL_writtenAt : MethodName := ⟨RL, "writtenAt", "(LLineBattle;I[J)I"⟩
abbrev cL_meanMorale : ByteArray := method_33_code
def yL_meanMorale : MethodName := ⟨RL, "meanMorale", "(LLineBattle;[D)I"⟩
abbrev cL_standingShare : ByteArray := method_34_code
def yL_standingShare : MethodName := ⟨RL, "standingShare", "(LLineBattle;[D)I"⟩
abbrev cL_type : ByteArray := method_35_code
def yL_type : MethodName := ⟨RL, "type", "(LLineBattle;C[J)I"⟩
abbrev cL_execute : ByteArray := method_36_code
def yL_execute : MethodName := ⟨RL, "execute", "(LLineBattle;[J)I"⟩
abbrev cL_errorPosition : ByteArray := method_37_code
def yL_errorPosition : MethodName := ⟨RL, "errorPosition", "(LLineBattle;[J)I"⟩
abbrev cL_failedCommand : ByteArray := method_38_code
def yL_failedCommand : MethodName := ⟨RL, "failedCommand", "(LLineBattle;[J)I"⟩
abbrev cL_undo : ByteArray := method_39_code
def yL_undo : MethodName := ⟨RL, "undo", "(LLineBattle;[J)I"⟩
abbrev cL_restore : ByteArray := method_40_code
def yL_restore : MethodName := ⟨RL, "restore", "(LLineBattle;[J)I"⟩
abbrev cL_law : ByteArray := code
def yL_law : MethodName := ⟨RL, "law", "([I)Z"⟩
theorem dX0_init_0 : decode cX0_init 0 = .ok (.aload_n 0, 1) := by decide +kernel
theorem dX0_init_1 : decode cX0_init 1 = .ok (.invokespecial 3, 3) := by decide +kernel
theorem dX0_init_4 : decode cX0_init 4 = .ok (.aload_n 0, 1) := by decide +kernel
theorem dX0_init_5 : decode cX0_init 5 = .ok (.bipush 60, 2) := by decide +kernel
theorem dX0_init_7 : decode cX0_init 7 = .ok (.newarray .char, 2) := by decide +kernel
theorem dX0_init_9 : decode cX0_init 9 = .ok (.putfield 9, 3) := by decide +kernel
theorem dX0_init_12 : decode cX0_init 12 = .ok (.aload_n 0, 1) := by decide +kernel
theorem dX0_init_13 : decode cX0_init 13 = .ok (.iconst 0, 1) := by decide +kernel
theorem dX0_init_14 : decode cX0_init 14 = .ok (.putfield 15, 3) := by decide +kernel
theorem dX0_init_17 : decode cX0_init 17 = .ok (.aload_n 0, 1) := by decide +kernel
theorem dX0_init_18 : decode cX0_init 18 = .ok (.iconst 0, 1) := by decide +kernel
theorem dX0_init_19 : decode cX0_init 19 = .ok (.putfield 19, 3) := by decide +kernel
theorem dX0_init_22 : decode cX0_init 22 = .ok (.aload_n 0, 1) := by decide +kernel
theorem dX0_init_23 : decode cX0_init 23 = .ok (.iconst 0, 1) := by decide +kernel
theorem dX0_init_24 : decode cX0_init 24 = .ok (.putfield 22, 3) := by decide +kernel
theorem dX0_init_27 : decode cX0_init 27 = .ok (.aload_n 0, 1) := by decide +kernel
theorem dX0_init_28 : decode cX0_init 28 = .ok (.iconst 0, 1) := by decide +kernel
theorem dX0_init_29 : decode cX0_init 29 = .ok (.putfield 26, 3) := by decide +kernel
theorem dX0_init_32 : decode cX0_init 32 = .ok (.aload_n 0, 1) := by decide +kernel
theorem dX0_init_33 : decode cX0_init 33 = .ok (.iconst 0, 1) := by decide +kernel
theorem dX0_init_34 : decode cX0_init 34 = .ok (.putfield 29, 3) := by decide +kernel
theorem dX0_init_37 : decode cX0_init 37 = .ok (.aload_n 0, 1) := by decide +kernel
theorem dX0_init_38 : decode cX0_init 38 = .ok (.iconst 0, 1) := by decide +kernel
theorem dX0_init_39 : decode cX0_init 39 = .ok (.putfield 32, 3) := by decide +kernel
theorem dX0_init_42 : decode cX0_init 42 = .ok (.aload_n 0, 1) := by decide +kernel
theorem dX0_init_43 : decode cX0_init 43 = .ok (.iconst 0, 1) := by decide +kernel
theorem dX0_init_44 : decode cX0_init 44 = .ok (.putfield 35, 3) := by decide +kernel
theorem dX0_init_47 : decode cX0_init 47 = .ok (.return_, 1) := by decide +kernel
theorem dX0_append_0 : decode cX0_append 0 = .ok (.aload_n 0, 1) := by decide +kernel
theorem dX0_append_1 : decode cX0_append 1 = .ok (.getfield 15, 3) := by decide +kernel
theorem dX0_append_4 : decode cX0_append 4 = .ok (.ifCond .lt 15, 3) := by decide +kernel
theorem dX0_append_7 : decode cX0_append 7 = .ok (.aload_n 0, 1) := by decide +kernel
theorem dX0_append_8 : decode cX0_append 8 = .ok (.getfield 15, 3) := by decide +kernel
theorem dX0_append_11 : decode cX0_append 11 = .ok (.aload_n 0, 1) := by decide +kernel
theorem dX0_append_12 : decode cX0_append 12 = .ok (.getfield 9, 3) := by decide +kernel
theorem dX0_append_15 : decode cX0_append 15 = .ok (.arraylength, 1) := by decide +kernel
theorem dX0_append_16 : decode cX0_append 16 = .ok (.if_icmp .lt 5, 3) := by decide +kernel
theorem dX0_append_19 : decode cX0_append 19 = .ok (.iconst 0, 1) := by decide +kernel
theorem dX0_append_20 : decode cX0_append 20 = .ok (.ireturn, 1) := by decide +kernel
theorem dX0_append_21 : decode cX0_append 21 = .ok (.aload_n 0, 1) := by decide +kernel
theorem dX0_append_22 : decode cX0_append 22 = .ok (.getfield 9, 3) := by decide +kernel
theorem dX0_append_25 : decode cX0_append 25 = .ok (.aload_n 0, 1) := by decide +kernel
theorem dX0_append_26 : decode cX0_append 26 = .ok (.getfield 15, 3) := by decide +kernel
theorem dX0_append_29 : decode cX0_append 29 = .ok (.iload_n 1, 1) := by decide +kernel
theorem dX0_append_30 : decode cX0_append 30 = .ok (.castore, 1) := by decide +kernel
theorem dX0_append_31 : decode cX0_append 31 = .ok (.aload_n 0, 1) := by decide +kernel
theorem dX0_append_32 : decode cX0_append 32 = .ok (.dup, 1) := by decide +kernel
theorem dX0_append_33 : decode cX0_append 33 = .ok (.getfield 15, 3) := by decide +kernel
theorem dX0_append_36 : decode cX0_append 36 = .ok (.iconst 1, 1) := by decide +kernel
theorem dX0_append_37 : decode cX0_append 37 = .ok (.iadd, 1) := by decide +kernel
theorem dX0_append_38 : decode cX0_append 38 = .ok (.putfield 15, 3) := by decide +kernel
theorem dX0_append_41 : decode cX0_append 41 = .ok (.iconst 1, 1) := by decide +kernel
theorem dX0_append_42 : decode cX0_append 42 = .ok (.ireturn, 1) := by decide +kernel
theorem dX0_clear_0 : decode cX0_clear 0 = .ok (.aload_n 0, 1) := by decide +kernel
theorem dX0_clear_1 : decode cX0_clear 1 = .ok (.iconst 0, 1) := by decide +kernel
theorem dX0_clear_2 : decode cX0_clear 2 = .ok (.putfield 15, 3) := by decide +kernel
theorem dX0_clear_5 : decode cX0_clear 5 = .ok (.return_, 1) := by decide +kernel
theorem dX0_rewind_0 : decode cX0_rewind 0 = .ok (.aload_n 0, 1) := by decide +kernel
theorem dX0_rewind_1 : decode cX0_rewind 1 = .ok (.iconst 0, 1) := by decide +kernel
theorem dX0_rewind_2 : decode cX0_rewind 2 = .ok (.putfield 19, 3) := by decide +kernel
theorem dX0_rewind_5 : decode cX0_rewind 5 = .ok (.return_, 1) := by decide +kernel
theorem dX0_countCommands_0 : decode cX0_countCommands 0 = .ok (.aload_n 0, 1) := by decide +kernel
theorem dX0_countCommands_1 : decode cX0_countCommands 1 = .ok (.invokevirtual 38, 3) := by decide +kernel
theorem dX0_countCommands_4 : decode cX0_countCommands 4 = .ok (.iconst 1, 1) := by decide +kernel
theorem dX0_countCommands_5 : decode cX0_countCommands 5 = .ok (.istore_n 1, 1) := by decide +kernel
theorem dX0_countCommands_6 : decode cX0_countCommands 6 = .ok (.iload_n 1, 1) := by decide +kernel
theorem dX0_countCommands_7 : decode cX0_countCommands 7 = .ok (.bipush 60, 2) := by decide +kernel
theorem dX0_countCommands_9 : decode cX0_countCommands 9 = .ok (.if_icmp .gt 42, 3) := by decide +kernel
theorem dX0_countCommands_12 : decode cX0_countCommands 12 = .ok (.aload_n 0, 1) := by decide +kernel
theorem dX0_countCommands_13 : decode cX0_countCommands 13 = .ok (.invokevirtual 41, 3) := by decide +kernel
theorem dX0_countCommands_16 : decode cX0_countCommands 16 = .ok (.ifCond .ne 5, 3) := by decide +kernel
theorem dX0_countCommands_19 : decode cX0_countCommands 19 = .ok (.iconst (-1), 1) := by decide +kernel
theorem dX0_countCommands_20 : decode cX0_countCommands 20 = .ok (.ireturn, 1) := by decide +kernel
theorem dX0_countCommands_21 : decode cX0_countCommands 21 = .ok (.aload_n 0, 1) := by decide +kernel
theorem dX0_countCommands_22 : decode cX0_countCommands 22 = .ok (.getfield 19, 3) := by decide +kernel
theorem dX0_countCommands_25 : decode cX0_countCommands 25 = .ok (.aload_n 0, 1) := by decide +kernel
theorem dX0_countCommands_26 : decode cX0_countCommands 26 = .ok (.getfield 15, 3) := by decide +kernel
theorem dX0_countCommands_29 : decode cX0_countCommands 29 = .ok (.if_icmp .lt 5, 3) := by decide +kernel
theorem dX0_countCommands_32 : decode cX0_countCommands 32 = .ok (.iload_n 1, 1) := by decide +kernel
theorem dX0_countCommands_33 : decode cX0_countCommands 33 = .ok (.ireturn, 1) := by decide +kernel
theorem dX0_countCommands_34 : decode cX0_countCommands 34 = .ok (.aload_n 0, 1) := by decide +kernel
theorem dX0_countCommands_35 : decode cX0_countCommands 35 = .ok (.bipush 59, 2) := by decide +kernel
theorem dX0_countCommands_37 : decode cX0_countCommands 37 = .ok (.invokevirtual 45, 3) := by decide +kernel
theorem dX0_countCommands_40 : decode cX0_countCommands 40 = .ok (.ifCond .ne 5, 3) := by decide +kernel
theorem dX0_countCommands_43 : decode cX0_countCommands 43 = .ok (.iconst (-1), 1) := by decide +kernel
theorem dX0_countCommands_44 : decode cX0_countCommands 44 = .ok (.ireturn, 1) := by decide +kernel
theorem dX0_countCommands_45 : decode cX0_countCommands 45 = .ok (.iinc 1 1, 3) := by decide +kernel
theorem dX0_countCommands_48 : decode cX0_countCommands 48 = .ok (.goto (-42), 3) := by decide +kernel
theorem dX0_countCommands_51 : decode cX0_countCommands 51 = .ok (.iconst (-1), 1) := by decide +kernel
theorem dX0_countCommands_52 : decode cX0_countCommands 52 = .ok (.ireturn, 1) := by decide +kernel
theorem dX0_readNext_0 : decode cX0_readNext 0 = .ok (.aload_n 0, 1) := by decide +kernel
theorem dX0_readNext_1 : decode cX0_readNext 1 = .ok (.getfield 19, 3) := by decide +kernel
theorem dX0_readNext_4 : decode cX0_readNext 4 = .ok (.ifCond .eq 12, 3) := by decide +kernel
theorem dX0_readNext_7 : decode cX0_readNext 7 = .ok (.aload_n 0, 1) := by decide +kernel
theorem dX0_readNext_8 : decode cX0_readNext 8 = .ok (.bipush 59, 2) := by decide +kernel
theorem dX0_readNext_10 : decode cX0_readNext 10 = .ok (.invokevirtual 45, 3) := by decide +kernel
theorem dX0_readNext_13 : decode cX0_readNext 13 = .ok (.ifCond .eq 14, 3) := by decide +kernel
theorem dX0_readNext_16 : decode cX0_readNext 16 = .ok (.aload_n 0, 1) := by decide +kernel
theorem dX0_readNext_17 : decode cX0_readNext 17 = .ok (.invokevirtual 41, 3) := by decide +kernel
theorem dX0_readNext_20 : decode cX0_readNext 20 = .ok (.ifCond .eq 7, 3) := by decide +kernel
theorem dX0_readNext_23 : decode cX0_readNext 23 = .ok (.iconst 1, 1) := by decide +kernel
theorem dX0_readNext_24 : decode cX0_readNext 24 = .ok (.goto 4, 3) := by decide +kernel
theorem dX0_readNext_27 : decode cX0_readNext 27 = .ok (.iconst 0, 1) := by decide +kernel
theorem dX0_readNext_28 : decode cX0_readNext 28 = .ok (.ireturn, 1) := by decide +kernel
theorem dX0_readCommand_0 : decode cX0_readCommand 0 = .ok (.aload_n 0, 1) := by decide +kernel
theorem dX0_readCommand_1 : decode cX0_readCommand 1 = .ok (.aload_n 0, 1) := by decide +kernel
theorem dX0_readCommand_2 : decode cX0_readCommand 2 = .ok (.invokevirtual 49, 3) := by decide +kernel
theorem dX0_readCommand_5 : decode cX0_readCommand 5 = .ok (.putfield 22, 3) := by decide +kernel
theorem dX0_readCommand_8 : decode cX0_readCommand 8 = .ok (.aload_n 0, 1) := by decide +kernel
theorem dX0_readCommand_9 : decode cX0_readCommand 9 = .ok (.getfield 22, 3) := by decide +kernel
theorem dX0_readCommand_12 : decode cX0_readCommand 12 = .ok (.bipush 108, 2) := by decide +kernel
theorem dX0_readCommand_14 : decode cX0_readCommand 14 = .ok (.if_icmp .ne 41, 3) := by decide +kernel
theorem dX0_readCommand_17 : decode cX0_readCommand 17 = .ok (.aload_n 0, 1) := by decide +kernel
theorem dX0_readCommand_18 : decode cX0_readCommand 18 = .ok (.ldc 53, 2) := by decide +kernel
theorem dX0_readCommand_20 : decode cX0_readCommand 20 = .ok (.invokevirtual 55, 3) := by decide +kernel
theorem dX0_readCommand_23 : decode cX0_readCommand 23 = .ok (.ifCond .eq 30, 3) := by decide +kernel
theorem dX0_readCommand_26 : decode cX0_readCommand 26 = .ok (.aload_n 0, 1) := by decide +kernel
theorem dX0_readCommand_27 : decode cX0_readCommand 27 = .ok (.invokevirtual 59, 3) := by decide +kernel
theorem dX0_readCommand_30 : decode cX0_readCommand 30 = .ok (.ifCond .eq 23, 3) := by decide +kernel
theorem dX0_readCommand_33 : decode cX0_readCommand 33 = .ok (.aload_n 0, 1) := by decide +kernel
theorem dX0_readCommand_34 : decode cX0_readCommand 34 = .ok (.ldc 62, 2) := by decide +kernel
theorem dX0_readCommand_36 : decode cX0_readCommand 36 = .ok (.invokevirtual 64, 3) := by decide +kernel
theorem dX0_readCommand_39 : decode cX0_readCommand 39 = .ok (.ifCond .eq 14, 3) := by decide +kernel
theorem dX0_readCommand_42 : decode cX0_readCommand 42 = .ok (.aload_n 0, 1) := by decide +kernel
theorem dX0_readCommand_43 : decode cX0_readCommand 43 = .ok (.invokevirtual 67, 3) := by decide +kernel
theorem dX0_readCommand_46 : decode cX0_readCommand 46 = .ok (.ifCond .eq 7, 3) := by decide +kernel
theorem dX0_readCommand_49 : decode cX0_readCommand 49 = .ok (.iconst 1, 1) := by decide +kernel
theorem dX0_readCommand_50 : decode cX0_readCommand 50 = .ok (.goto 4, 3) := by decide +kernel
theorem dX0_readCommand_53 : decode cX0_readCommand 53 = .ok (.iconst 0, 1) := by decide +kernel
theorem dX0_readCommand_54 : decode cX0_readCommand 54 = .ok (.ireturn, 1) := by decide +kernel
theorem dX0_readCommand_55 : decode cX0_readCommand 55 = .ok (.aload_n 0, 1) := by decide +kernel
theorem dX0_readCommand_56 : decode cX0_readCommand 56 = .ok (.getfield 22, 3) := by decide +kernel
theorem dX0_readCommand_59 : decode cX0_readCommand 59 = .ok (.bipush 111, 2) := by decide +kernel
theorem dX0_readCommand_61 : decode cX0_readCommand 61 = .ok (.if_icmp .ne 34, 3) := by decide +kernel
theorem dX0_readCommand_64 : decode cX0_readCommand 64 = .ok (.aload_n 0, 1) := by decide +kernel
theorem dX0_readCommand_65 : decode cX0_readCommand 65 = .ok (.ldc 70, 2) := by decide +kernel
theorem dX0_readCommand_67 : decode cX0_readCommand 67 = .ok (.invokevirtual 55, 3) := by decide +kernel
theorem dX0_readCommand_70 : decode cX0_readCommand 70 = .ok (.ifCond .eq 23, 3) := by decide +kernel
theorem dX0_readCommand_73 : decode cX0_readCommand 73 = .ok (.aload_n 0, 1) := by decide +kernel
theorem dX0_readCommand_74 : decode cX0_readCommand 74 = .ok (.invokevirtual 67, 3) := by decide +kernel
theorem dX0_readCommand_77 : decode cX0_readCommand 77 = .ok (.ifCond .eq 16, 3) := by decide +kernel
theorem dX0_readCommand_80 : decode cX0_readCommand 80 = .ok (.aload_n 0, 1) := by decide +kernel
theorem dX0_readCommand_81 : decode cX0_readCommand 81 = .ok (.ldc 72, 2) := by decide +kernel
theorem dX0_readCommand_83 : decode cX0_readCommand 83 = .ok (.invokevirtual 64, 3) := by decide +kernel
theorem dX0_readCommand_86 : decode cX0_readCommand 86 = .ok (.ifCond .eq 7, 3) := by decide +kernel
theorem dX0_readCommand_89 : decode cX0_readCommand 89 = .ok (.iconst 1, 1) := by decide +kernel
theorem dX0_readCommand_90 : decode cX0_readCommand 90 = .ok (.goto 4, 3) := by decide +kernel
theorem dX0_readCommand_93 : decode cX0_readCommand 93 = .ok (.iconst 0, 1) := by decide +kernel
theorem dX0_readCommand_94 : decode cX0_readCommand 94 = .ok (.ireturn, 1) := by decide +kernel
theorem dX0_readCommand_95 : decode cX0_readCommand 95 = .ok (.aload_n 0, 1) := by decide +kernel
theorem dX0_readCommand_96 : decode cX0_readCommand 96 = .ok (.getfield 22, 3) := by decide +kernel
theorem dX0_readCommand_99 : decode cX0_readCommand 99 = .ok (.bipush 114, 2) := by decide +kernel
theorem dX0_readCommand_101 : decode cX0_readCommand 101 = .ok (.if_icmp .ne 25, 3) := by decide +kernel
theorem dX0_readCommand_104 : decode cX0_readCommand 104 = .ok (.aload_n 0, 1) := by decide +kernel
theorem dX0_readCommand_105 : decode cX0_readCommand 105 = .ok (.ldc 74, 2) := by decide +kernel
theorem dX0_readCommand_107 : decode cX0_readCommand 107 = .ok (.invokevirtual 55, 3) := by decide +kernel
theorem dX0_readCommand_110 : decode cX0_readCommand 110 = .ok (.ifCond .eq 14, 3) := by decide +kernel
theorem dX0_readCommand_113 : decode cX0_readCommand 113 = .ok (.aload_n 0, 1) := by decide +kernel
theorem dX0_readCommand_114 : decode cX0_readCommand 114 = .ok (.invokevirtual 67, 3) := by decide +kernel
theorem dX0_readCommand_117 : decode cX0_readCommand 117 = .ok (.ifCond .eq 7, 3) := by decide +kernel
theorem dX0_readCommand_120 : decode cX0_readCommand 120 = .ok (.iconst 1, 1) := by decide +kernel
theorem dX0_readCommand_121 : decode cX0_readCommand 121 = .ok (.goto 4, 3) := by decide +kernel
theorem dX0_readCommand_124 : decode cX0_readCommand 124 = .ok (.iconst 0, 1) := by decide +kernel
theorem dX0_readCommand_125 : decode cX0_readCommand 125 = .ok (.ireturn, 1) := by decide +kernel
theorem dX0_readCommand_126 : decode cX0_readCommand 126 = .ok (.aload_n 0, 1) := by decide +kernel
theorem dX0_readCommand_127 : decode cX0_readCommand 127 = .ok (.ldc 76, 2) := by decide +kernel
theorem dX0_readCommand_129 : decode cX0_readCommand 129 = .ok (.invokevirtual 55, 3) := by decide +kernel
theorem dX0_readCommand_132 : decode cX0_readCommand 132 = .ok (.ireturn, 1) := by decide +kernel
theorem dX0_readPlace_0 : decode cX0_readPlace 0 = .ok (.aload_n 0, 1) := by decide +kernel
theorem dX0_readPlace_1 : decode cX0_readPlace 1 = .ok (.aload_n 0, 1) := by decide +kernel
theorem dX0_readPlace_2 : decode cX0_readPlace 2 = .ok (.bipush 32, 2) := by decide +kernel
theorem dX0_readPlace_4 : decode cX0_readPlace 4 = .ok (.invokevirtual 45, 3) := by decide +kernel
theorem dX0_readPlace_7 : decode cX0_readPlace 7 = .ok (.ifCond .eq 10, 3) := by decide +kernel
theorem dX0_readPlace_10 : decode cX0_readPlace 10 = .ok (.aload_n 0, 1) := by decide +kernel
theorem dX0_readPlace_11 : decode cX0_readPlace 11 = .ok (.invokevirtual 78, 3) := by decide +kernel
theorem dX0_readPlace_14 : decode cX0_readPlace 14 = .ok (.goto 4, 3) := by decide +kernel
theorem dX0_readPlace_17 : decode cX0_readPlace 17 = .ok (.iconst (-1), 1) := by decide +kernel
theorem dX0_readPlace_18 : decode cX0_readPlace 18 = .ok (.putfield 26, 3) := by decide +kernel
theorem dX0_readPlace_21 : decode cX0_readPlace 21 = .ok (.aload_n 0, 1) := by decide +kernel
theorem dX0_readPlace_22 : decode cX0_readPlace 22 = .ok (.getfield 26, 3) := by decide +kernel
theorem dX0_readPlace_25 : decode cX0_readPlace 25 = .ok (.iconst (-1), 1) := by decide +kernel
theorem dX0_readPlace_26 : decode cX0_readPlace 26 = .ok (.if_icmp .ne 5, 3) := by decide +kernel
theorem dX0_readPlace_29 : decode cX0_readPlace 29 = .ok (.iconst 0, 1) := by decide +kernel
theorem dX0_readPlace_30 : decode cX0_readPlace 30 = .ok (.ireturn, 1) := by decide +kernel
theorem dX0_readPlace_31 : decode cX0_readPlace 31 = .ok (.aload_n 0, 1) := by decide +kernel
theorem dX0_readPlace_32 : decode cX0_readPlace 32 = .ok (.aload_n 0, 1) := by decide +kernel
theorem dX0_readPlace_33 : decode cX0_readPlace 33 = .ok (.bipush 32, 2) := by decide +kernel
theorem dX0_readPlace_35 : decode cX0_readPlace 35 = .ok (.invokevirtual 45, 3) := by decide +kernel
theorem dX0_readPlace_38 : decode cX0_readPlace 38 = .ok (.ifCond .eq 10, 3) := by decide +kernel
theorem dX0_readPlace_41 : decode cX0_readPlace 41 = .ok (.aload_n 0, 1) := by decide +kernel
theorem dX0_readPlace_42 : decode cX0_readPlace 42 = .ok (.invokevirtual 78, 3) := by decide +kernel
theorem dX0_readPlace_45 : decode cX0_readPlace 45 = .ok (.goto 4, 3) := by decide +kernel
theorem dX0_readPlace_48 : decode cX0_readPlace 48 = .ok (.iconst (-1), 1) := by decide +kernel
theorem dX0_readPlace_49 : decode cX0_readPlace 49 = .ok (.putfield 29, 3) := by decide +kernel
theorem dX0_readPlace_52 : decode cX0_readPlace 52 = .ok (.aload_n 0, 1) := by decide +kernel
theorem dX0_readPlace_53 : decode cX0_readPlace 53 = .ok (.getfield 29, 3) := by decide +kernel
theorem dX0_readPlace_56 : decode cX0_readPlace 56 = .ok (.iconst (-1), 1) := by decide +kernel
theorem dX0_readPlace_57 : decode cX0_readPlace 57 = .ok (.if_icmp .eq 7, 3) := by decide +kernel
theorem dX0_readPlace_60 : decode cX0_readPlace 60 = .ok (.iconst 1, 1) := by decide +kernel
theorem dX0_readPlace_61 : decode cX0_readPlace 61 = .ok (.goto 4, 3) := by decide +kernel
theorem dX0_readPlace_64 : decode cX0_readPlace 64 = .ok (.iconst 0, 1) := by decide +kernel
theorem dX0_readPlace_65 : decode cX0_readPlace 65 = .ok (.ireturn, 1) := by decide +kernel
theorem dX0_readSign_0 : decode cX0_readSign 0 = .ok (.aload_n 0, 1) := by decide +kernel
theorem dX0_readSign_1 : decode cX0_readSign 1 = .ok (.bipush 32, 2) := by decide +kernel
theorem dX0_readSign_3 : decode cX0_readSign 3 = .ok (.invokevirtual 45, 3) := by decide +kernel
theorem dX0_readSign_6 : decode cX0_readSign 6 = .ok (.ifCond .ne 5, 3) := by decide +kernel
theorem dX0_readSign_9 : decode cX0_readSign 9 = .ok (.iconst 0, 1) := by decide +kernel
theorem dX0_readSign_10 : decode cX0_readSign 10 = .ok (.ireturn, 1) := by decide +kernel
theorem dX0_readSign_11 : decode cX0_readSign 11 = .ok (.aload_n 0, 1) := by decide +kernel
theorem dX0_readSign_12 : decode cX0_readSign 12 = .ok (.aload_n 0, 1) := by decide +kernel
theorem dX0_readSign_13 : decode cX0_readSign 13 = .ok (.invokevirtual 49, 3) := by decide +kernel
theorem dX0_readSign_16 : decode cX0_readSign 16 = .ok (.putfield 32, 3) := by decide +kernel
theorem dX0_readSign_19 : decode cX0_readSign 19 = .ok (.aload_n 1, 1) := by decide +kernel
theorem dX0_readSign_20 : decode cX0_readSign 20 = .ok (.aload_n 0, 1) := by decide +kernel
theorem dX0_readSign_21 : decode cX0_readSign 21 = .ok (.getfield 32, 3) := by decide +kernel
theorem dX0_readSign_24 : decode cX0_readSign 24 = .ok (.invokevirtual 82, 3) := by decide +kernel
theorem dX0_readSign_27 : decode cX0_readSign 27 = .ok (.ifCond .lt 18, 3) := by decide +kernel
theorem dX0_readSign_30 : decode cX0_readSign 30 = .ok (.aload_n 0, 1) := by decide +kernel
theorem dX0_readSign_31 : decode cX0_readSign 31 = .ok (.aload_n 0, 1) := by decide +kernel
theorem dX0_readSign_32 : decode cX0_readSign 32 = .ok (.getfield 32, 3) := by decide +kernel
theorem dX0_readSign_35 : decode cX0_readSign 35 = .ok (.invokevirtual 45, 3) := by decide +kernel
theorem dX0_readSign_38 : decode cX0_readSign 38 = .ok (.ifCond .eq 7, 3) := by decide +kernel
theorem dX0_readSign_41 : decode cX0_readSign 41 = .ok (.iconst 1, 1) := by decide +kernel
theorem dX0_readSign_42 : decode cX0_readSign 42 = .ok (.goto 4, 3) := by decide +kernel
theorem dX0_readSign_45 : decode cX0_readSign 45 = .ok (.iconst 0, 1) := by decide +kernel
theorem dX0_readSign_46 : decode cX0_readSign 46 = .ok (.ireturn, 1) := by decide +kernel
theorem dX0_readNumber_0 : decode cX0_readNumber 0 = .ok (.aload_n 0, 1) := by decide +kernel
theorem dX0_readNumber_1 : decode cX0_readNumber 1 = .ok (.aload_n 0, 1) := by decide +kernel
theorem dX0_readNumber_2 : decode cX0_readNumber 2 = .ok (.bipush 32, 2) := by decide +kernel
theorem dX0_readNumber_4 : decode cX0_readNumber 4 = .ok (.invokevirtual 45, 3) := by decide +kernel
theorem dX0_readNumber_7 : decode cX0_readNumber 7 = .ok (.ifCond .eq 10, 3) := by decide +kernel
theorem dX0_readNumber_10 : decode cX0_readNumber 10 = .ok (.aload_n 0, 1) := by decide +kernel
theorem dX0_readNumber_11 : decode cX0_readNumber 11 = .ok (.invokevirtual 78, 3) := by decide +kernel
theorem dX0_readNumber_14 : decode cX0_readNumber 14 = .ok (.goto 4, 3) := by decide +kernel
theorem dX0_readNumber_17 : decode cX0_readNumber 17 = .ok (.iconst (-1), 1) := by decide +kernel
theorem dX0_readNumber_18 : decode cX0_readNumber 18 = .ok (.putfield 35, 3) := by decide +kernel
theorem dX0_readNumber_21 : decode cX0_readNumber 21 = .ok (.aload_n 0, 1) := by decide +kernel
theorem dX0_readNumber_22 : decode cX0_readNumber 22 = .ok (.getfield 35, 3) := by decide +kernel
theorem dX0_readNumber_25 : decode cX0_readNumber 25 = .ok (.iconst (-1), 1) := by decide +kernel
theorem dX0_readNumber_26 : decode cX0_readNumber 26 = .ok (.if_icmp .ne 5, 3) := by decide +kernel
theorem dX0_readNumber_29 : decode cX0_readNumber 29 = .ok (.iconst 0, 1) := by decide +kernel
theorem dX0_readNumber_30 : decode cX0_readNumber 30 = .ok (.ireturn, 1) := by decide +kernel
theorem dX0_readNumber_31 : decode cX0_readNumber 31 = .ok (.aload_n 0, 1) := by decide +kernel
theorem dX0_readNumber_32 : decode cX0_readNumber 32 = .ok (.invokevirtual 78, 3) := by decide +kernel
theorem dX0_readNumber_35 : decode cX0_readNumber 35 = .ok (.istore_n 1, 1) := by decide +kernel
theorem dX0_readNumber_36 : decode cX0_readNumber 36 = .ok (.iload_n 1, 1) := by decide +kernel
theorem dX0_readNumber_37 : decode cX0_readNumber 37 = .ok (.iconst (-1), 1) := by decide +kernel
theorem dX0_readNumber_38 : decode cX0_readNumber 38 = .ok (.if_icmp .eq 16, 3) := by decide +kernel
theorem dX0_readNumber_41 : decode cX0_readNumber 41 = .ok (.aload_n 0, 1) := by decide +kernel
theorem dX0_readNumber_42 : decode cX0_readNumber 42 = .ok (.aload_n 0, 1) := by decide +kernel
theorem dX0_readNumber_43 : decode cX0_readNumber 43 = .ok (.getfield 35, 3) := by decide +kernel
theorem dX0_readNumber_46 : decode cX0_readNumber 46 = .ok (.bipush 10, 2) := by decide +kernel
theorem dX0_readNumber_48 : decode cX0_readNumber 48 = .ok (.imul, 1) := by decide +kernel
theorem dX0_readNumber_49 : decode cX0_readNumber 49 = .ok (.iload_n 1, 1) := by decide +kernel
theorem dX0_readNumber_50 : decode cX0_readNumber 50 = .ok (.iadd, 1) := by decide +kernel
theorem dX0_readNumber_51 : decode cX0_readNumber 51 = .ok (.putfield 35, 3) := by decide +kernel
theorem dX0_readNumber_54 : decode cX0_readNumber 54 = .ok (.iconst 1, 1) := by decide +kernel
theorem dX0_readNumber_55 : decode cX0_readNumber 55 = .ok (.ireturn, 1) := by decide +kernel
theorem dX0_takeWord_0 : decode cX0_takeWord 0 = .ok (.iconst 0, 1) := by decide +kernel
theorem dX0_takeWord_1 : decode cX0_takeWord 1 = .ok (.istore_n 2, 1) := by decide +kernel
theorem dX0_takeWord_2 : decode cX0_takeWord 2 = .ok (.iload_n 2, 1) := by decide +kernel
theorem dX0_takeWord_3 : decode cX0_takeWord 3 = .ok (.aload_n 1, 1) := by decide +kernel
theorem dX0_takeWord_4 : decode cX0_takeWord 4 = .ok (.invokevirtual 88, 3) := by decide +kernel
theorem dX0_takeWord_7 : decode cX0_takeWord 7 = .ok (.if_icmp .ge 23, 3) := by decide +kernel
theorem dX0_takeWord_10 : decode cX0_takeWord 10 = .ok (.aload_n 0, 1) := by decide +kernel
theorem dX0_takeWord_11 : decode cX0_takeWord 11 = .ok (.aload_n 1, 1) := by decide +kernel
theorem dX0_takeWord_12 : decode cX0_takeWord 12 = .ok (.iload_n 2, 1) := by decide +kernel
theorem dX0_takeWord_13 : decode cX0_takeWord 13 = .ok (.invokevirtual 90, 3) := by decide +kernel
theorem dX0_takeWord_16 : decode cX0_takeWord 16 = .ok (.invokevirtual 45, 3) := by decide +kernel
theorem dX0_takeWord_19 : decode cX0_takeWord 19 = .ok (.ifCond .ne 5, 3) := by decide +kernel
theorem dX0_takeWord_22 : decode cX0_takeWord 22 = .ok (.iconst 0, 1) := by decide +kernel
theorem dX0_takeWord_23 : decode cX0_takeWord 23 = .ok (.ireturn, 1) := by decide +kernel
theorem dX0_takeWord_24 : decode cX0_takeWord 24 = .ok (.iinc 2 1, 3) := by decide +kernel
theorem dX0_takeWord_27 : decode cX0_takeWord 27 = .ok (.goto (-25), 3) := by decide +kernel
theorem dX0_takeWord_30 : decode cX0_takeWord 30 = .ok (.iconst 1, 1) := by decide +kernel
theorem dX0_takeWord_31 : decode cX0_takeWord 31 = .ok (.ireturn, 1) := by decide +kernel
theorem dX0_take_0 : decode cX0_take 0 = .ok (.aload_n 0, 1) := by decide +kernel
theorem dX0_take_1 : decode cX0_take 1 = .ok (.invokevirtual 49, 3) := by decide +kernel
theorem dX0_take_4 : decode cX0_take 4 = .ok (.iload_n 1, 1) := by decide +kernel
theorem dX0_take_5 : decode cX0_take 5 = .ok (.if_icmp .eq 5, 3) := by decide +kernel
theorem dX0_take_8 : decode cX0_take 8 = .ok (.iconst 0, 1) := by decide +kernel
theorem dX0_take_9 : decode cX0_take 9 = .ok (.ireturn, 1) := by decide +kernel
theorem dX0_take_10 : decode cX0_take 10 = .ok (.aload_n 0, 1) := by decide +kernel
theorem dX0_take_11 : decode cX0_take 11 = .ok (.dup, 1) := by decide +kernel
theorem dX0_take_12 : decode cX0_take 12 = .ok (.getfield 19, 3) := by decide +kernel
theorem dX0_take_15 : decode cX0_take 15 = .ok (.iconst 1, 1) := by decide +kernel
theorem dX0_take_16 : decode cX0_take 16 = .ok (.iadd, 1) := by decide +kernel
theorem dX0_take_17 : decode cX0_take 17 = .ok (.putfield 19, 3) := by decide +kernel
theorem dX0_take_20 : decode cX0_take 20 = .ok (.iconst 1, 1) := by decide +kernel
theorem dX0_take_21 : decode cX0_take 21 = .ok (.ireturn, 1) := by decide +kernel
theorem dX0_takeDigit_0 : decode cX0_takeDigit 0 = .ok (.aload_n 0, 1) := by decide +kernel
theorem dX0_takeDigit_1 : decode cX0_takeDigit 1 = .ok (.invokevirtual 49, 3) := by decide +kernel
theorem dX0_takeDigit_4 : decode cX0_takeDigit 4 = .ok (.istore_n 1, 1) := by decide +kernel
theorem dX0_takeDigit_5 : decode cX0_takeDigit 5 = .ok (.iload_n 1, 1) := by decide +kernel
theorem dX0_takeDigit_6 : decode cX0_takeDigit 6 = .ok (.bipush 48, 2) := by decide +kernel
theorem dX0_takeDigit_8 : decode cX0_takeDigit 8 = .ok (.if_icmp .lt 9, 3) := by decide +kernel
theorem dX0_takeDigit_11 : decode cX0_takeDigit 11 = .ok (.iload_n 1, 1) := by decide +kernel
theorem dX0_takeDigit_12 : decode cX0_takeDigit 12 = .ok (.bipush 57, 2) := by decide +kernel
theorem dX0_takeDigit_14 : decode cX0_takeDigit 14 = .ok (.if_icmp .le 5, 3) := by decide +kernel
theorem dX0_takeDigit_17 : decode cX0_takeDigit 17 = .ok (.iconst (-1), 1) := by decide +kernel
theorem dX0_takeDigit_18 : decode cX0_takeDigit 18 = .ok (.ireturn, 1) := by decide +kernel
theorem dX0_takeDigit_19 : decode cX0_takeDigit 19 = .ok (.aload_n 0, 1) := by decide +kernel
theorem dX0_takeDigit_20 : decode cX0_takeDigit 20 = .ok (.dup, 1) := by decide +kernel
theorem dX0_takeDigit_21 : decode cX0_takeDigit 21 = .ok (.getfield 19, 3) := by decide +kernel
theorem dX0_takeDigit_24 : decode cX0_takeDigit 24 = .ok (.iconst 1, 1) := by decide +kernel
theorem dX0_takeDigit_25 : decode cX0_takeDigit 25 = .ok (.iadd, 1) := by decide +kernel
theorem dX0_takeDigit_26 : decode cX0_takeDigit 26 = .ok (.putfield 19, 3) := by decide +kernel
theorem dX0_takeDigit_29 : decode cX0_takeDigit 29 = .ok (.iload_n 1, 1) := by decide +kernel
theorem dX0_takeDigit_30 : decode cX0_takeDigit 30 = .ok (.bipush 48, 2) := by decide +kernel
theorem dX0_takeDigit_32 : decode cX0_takeDigit 32 = .ok (.isub, 1) := by decide +kernel
theorem dX0_takeDigit_33 : decode cX0_takeDigit 33 = .ok (.ireturn, 1) := by decide +kernel
theorem dX0_peek_0 : decode cX0_peek 0 = .ok (.aload_n 0, 1) := by decide +kernel
theorem dX0_peek_1 : decode cX0_peek 1 = .ok (.getfield 19, 3) := by decide +kernel
theorem dX0_peek_4 : decode cX0_peek 4 = .ok (.ifCond .lt 26, 3) := by decide +kernel
theorem dX0_peek_7 : decode cX0_peek 7 = .ok (.aload_n 0, 1) := by decide +kernel
theorem dX0_peek_8 : decode cX0_peek 8 = .ok (.getfield 19, 3) := by decide +kernel
theorem dX0_peek_11 : decode cX0_peek 11 = .ok (.aload_n 0, 1) := by decide +kernel
theorem dX0_peek_12 : decode cX0_peek 12 = .ok (.getfield 15, 3) := by decide +kernel
theorem dX0_peek_15 : decode cX0_peek 15 = .ok (.if_icmp .ge 15, 3) := by decide +kernel
theorem dX0_peek_18 : decode cX0_peek 18 = .ok (.aload_n 0, 1) := by decide +kernel
theorem dX0_peek_19 : decode cX0_peek 19 = .ok (.getfield 19, 3) := by decide +kernel
theorem dX0_peek_22 : decode cX0_peek 22 = .ok (.aload_n 0, 1) := by decide +kernel
theorem dX0_peek_23 : decode cX0_peek 23 = .ok (.getfield 9, 3) := by decide +kernel
theorem dX0_peek_26 : decode cX0_peek 26 = .ok (.arraylength, 1) := by decide +kernel
theorem dX0_peek_27 : decode cX0_peek 27 = .ok (.if_icmp .lt 5, 3) := by decide +kernel
theorem dX0_peek_30 : decode cX0_peek 30 = .ok (.iconst 0, 1) := by decide +kernel
theorem dX0_peek_31 : decode cX0_peek 31 = .ok (.ireturn, 1) := by decide +kernel
theorem dX0_peek_32 : decode cX0_peek 32 = .ok (.aload_n 0, 1) := by decide +kernel
theorem dX0_peek_33 : decode cX0_peek 33 = .ok (.getfield 9, 3) := by decide +kernel
theorem dX0_peek_36 : decode cX0_peek 36 = .ok (.aload_n 0, 1) := by decide +kernel
theorem dX0_peek_37 : decode cX0_peek 37 = .ok (.getfield 19, 3) := by decide +kernel
theorem dX0_peek_40 : decode cX0_peek 40 = .ok (.caload, 1) := by decide +kernel
theorem dX0_peek_41 : decode cX0_peek 41 = .ok (.ireturn, 1) := by decide +kernel
theorem dX1_init_0 : decode cX1_init 0 = .ok (.aload_n 0, 1) := by decide +kernel
theorem dX1_init_1 : decode cX1_init 1 = .ok (.invokespecial 3, 3) := by decide +kernel
theorem dX1_init_4 : decode cX1_init 4 = .ok (.aload_n 0, 1) := by decide +kernel
theorem dX1_init_5 : decode cX1_init 5 = .ok (.bipush 12, 2) := by decide +kernel
theorem dX1_init_7 : decode cX1_init 7 = .ok (.anewarray 9, 3) := by decide +kernel
theorem dX1_init_10 : decode cX1_init 10 = .ok (.putfield 11, 3) := by decide +kernel
theorem dX1_init_13 : decode cX1_init 13 = .ok (.aload_n 0, 1) := by decide +kernel
theorem dX1_init_14 : decode cX1_init 14 = .ok (.bipush 30, 2) := by decide +kernel
theorem dX1_init_16 : decode cX1_init 16 = .ok (.newarray .int, 2) := by decide +kernel
theorem dX1_init_18 : decode cX1_init 18 = .ok (.putfield 17, 3) := by decide +kernel
theorem dX1_init_21 : decode cX1_init 21 = .ok (.aload_n 0, 1) := by decide +kernel
theorem dX1_init_22 : decode cX1_init 22 = .ok (.iconst 0, 1) := by decide +kernel
theorem dX1_init_23 : decode cX1_init 23 = .ok (.putfield 21, 3) := by decide +kernel
theorem dX1_init_26 : decode cX1_init 26 = .ok (.aload_n 0, 1) := by decide +kernel
theorem dX1_init_27 : decode cX1_init 27 = .ok (.iconst 0, 1) := by decide +kernel
theorem dX1_init_28 : decode cX1_init 28 = .ok (.putfield 25, 3) := by decide +kernel
theorem dX1_init_31 : decode cX1_init 31 = .ok (.aload_n 0, 1) := by decide +kernel
theorem dX1_init_32 : decode cX1_init 32 = .ok (.iconst 0, 1) := by decide +kernel
theorem dX1_init_33 : decode cX1_init 33 = .ok (.putfield 28, 3) := by decide +kernel
theorem dX1_init_36 : decode cX1_init 36 = .ok (.aload_n 0, 1) := by decide +kernel
theorem dX1_init_37 : decode cX1_init 37 = .ok (.iconst 3, 1) := by decide +kernel
theorem dX1_init_38 : decode cX1_init 38 = .ok (.putfield 31, 3) := by decide +kernel
theorem dX1_init_41 : decode cX1_init 41 = .ok (.aload_n 0, 1) := by decide +kernel
theorem dX1_init_42 : decode cX1_init 42 = .ok (.iconst 3, 1) := by decide +kernel
theorem dX1_init_43 : decode cX1_init 43 = .ok (.putfield 34, 3) := by decide +kernel
theorem dX1_init_46 : decode cX1_init 46 = .ok (.iconst 0, 1) := by decide +kernel
theorem dX1_init_47 : decode cX1_init 47 = .ok (.istore_n 1, 1) := by decide +kernel
theorem dX1_init_48 : decode cX1_init 48 = .ok (.iload_n 1, 1) := by decide +kernel
theorem dX1_init_49 : decode cX1_init 49 = .ok (.aload_n 0, 1) := by decide +kernel
theorem dX1_init_50 : decode cX1_init 50 = .ok (.getfield 11, 3) := by decide +kernel
theorem dX1_init_53 : decode cX1_init 53 = .ok (.arraylength, 1) := by decide +kernel
theorem dX1_init_54 : decode cX1_init 54 = .ok (.if_icmp .ge 23, 3) := by decide +kernel
theorem dX1_init_57 : decode cX1_init 57 = .ok (.aload_n 0, 1) := by decide +kernel
theorem dX1_init_58 : decode cX1_init 58 = .ok (.getfield 11, 3) := by decide +kernel
theorem dX1_init_61 : decode cX1_init 61 = .ok (.iload_n 1, 1) := by decide +kernel
theorem dX1_init_62 : decode cX1_init 62 = .ok (.new 9, 3) := by decide +kernel
theorem dX1_init_65 : decode cX1_init 65 = .ok (.dup, 1) := by decide +kernel
theorem dX1_init_66 : decode cX1_init 66 = .ok (.iload_n 1, 1) := by decide +kernel
theorem dX1_init_67 : decode cX1_init 67 = .ok (.invokespecial 37, 3) := by decide +kernel
theorem dX1_init_70 : decode cX1_init 70 = .ok (.aastore, 1) := by decide +kernel
theorem dX1_init_71 : decode cX1_init 71 = .ok (.iinc 1 1, 3) := by decide +kernel
theorem dX1_init_74 : decode cX1_init 74 = .ok (.goto (-26), 3) := by decide +kernel
theorem dX1_init_77 : decode cX1_init 77 = .ok (.aload_n 0, 1) := by decide +kernel
theorem dX1_init_78 : decode cX1_init 78 = .ok (.getfield 17, 3) := by decide +kernel
theorem dX1_init_81 : decode cX1_init 81 = .ok (.iconst (-1), 1) := by decide +kernel
theorem dX1_init_82 : decode cX1_init 82 = .ok (.invokestatic 40, 3) := by decide +kernel
theorem dX1_init_85 : decode cX1_init 85 = .ok (.return_, 1) := by decide +kernel
theorem dX1_copyFrom_0 : decode cX1_copyFrom 0 = .ok (.iconst 0, 1) := by decide +kernel
theorem dX1_copyFrom_1 : decode cX1_copyFrom 1 = .ok (.istore_n 2, 1) := by decide +kernel
theorem dX1_copyFrom_2 : decode cX1_copyFrom 2 = .ok (.iload_n 2, 1) := by decide +kernel
theorem dX1_copyFrom_3 : decode cX1_copyFrom 3 = .ok (.aload_n 0, 1) := by decide +kernel
theorem dX1_copyFrom_4 : decode cX1_copyFrom 4 = .ok (.getfield 11, 3) := by decide +kernel
theorem dX1_copyFrom_7 : decode cX1_copyFrom 7 = .ok (.arraylength, 1) := by decide +kernel
theorem dX1_copyFrom_8 : decode cX1_copyFrom 8 = .ok (.if_icmp .ge 48, 3) := by decide +kernel
theorem dX1_copyFrom_11 : decode cX1_copyFrom 11 = .ok (.iload_n 2, 1) := by decide +kernel
theorem dX1_copyFrom_12 : decode cX1_copyFrom 12 = .ok (.aload_n 1, 1) := by decide +kernel
theorem dX1_copyFrom_13 : decode cX1_copyFrom 13 = .ok (.getfield 11, 3) := by decide +kernel
theorem dX1_copyFrom_16 : decode cX1_copyFrom 16 = .ok (.arraylength, 1) := by decide +kernel
theorem dX1_copyFrom_17 : decode cX1_copyFrom 17 = .ok (.if_icmp .ge 39, 3) := by decide +kernel
theorem dX1_copyFrom_20 : decode cX1_copyFrom 20 = .ok (.aload_n 0, 1) := by decide +kernel
theorem dX1_copyFrom_21 : decode cX1_copyFrom 21 = .ok (.getfield 11, 3) := by decide +kernel
theorem dX1_copyFrom_24 : decode cX1_copyFrom 24 = .ok (.iload_n 2, 1) := by decide +kernel
theorem dX1_copyFrom_25 : decode cX1_copyFrom 25 = .ok (.aaload, 1) := by decide +kernel
theorem dX1_copyFrom_26 : decode cX1_copyFrom 26 = .ok (.astore_n 3, 1) := by decide +kernel
theorem dX1_copyFrom_27 : decode cX1_copyFrom 27 = .ok (.aload_n 1, 1) := by decide +kernel
theorem dX1_copyFrom_28 : decode cX1_copyFrom 28 = .ok (.getfield 11, 3) := by decide +kernel
theorem dX1_copyFrom_31 : decode cX1_copyFrom 31 = .ok (.iload_n 2, 1) := by decide +kernel
theorem dX1_copyFrom_32 : decode cX1_copyFrom 32 = .ok (.aaload, 1) := by decide +kernel
theorem dX1_copyFrom_33 : decode cX1_copyFrom 33 = .ok (.astore 4, 2) := by decide +kernel
theorem dX1_copyFrom_35 : decode cX1_copyFrom 35 = .ok (.aload_n 3, 1) := by decide +kernel
theorem dX1_copyFrom_36 : decode cX1_copyFrom 36 = .ok (.ifnull 14, 3) := by decide +kernel
theorem dX1_copyFrom_39 : decode cX1_copyFrom 39 = .ok (.aload 4, 2) := by decide +kernel
theorem dX1_copyFrom_41 : decode cX1_copyFrom 41 = .ok (.ifnull 9, 3) := by decide +kernel
theorem dX1_copyFrom_44 : decode cX1_copyFrom 44 = .ok (.aload_n 3, 1) := by decide +kernel
theorem dX1_copyFrom_45 : decode cX1_copyFrom 45 = .ok (.aload 4, 2) := by decide +kernel
theorem dX1_copyFrom_47 : decode cX1_copyFrom 47 = .ok (.invokevirtual 46, 3) := by decide +kernel
theorem dX1_copyFrom_50 : decode cX1_copyFrom 50 = .ok (.iinc 2 1, 3) := by decide +kernel
theorem dX1_copyFrom_53 : decode cX1_copyFrom 53 = .ok (.goto (-51), 3) := by decide +kernel
theorem dX1_copyFrom_56 : decode cX1_copyFrom 56 = .ok (.iconst 0, 1) := by decide +kernel
theorem dX1_copyFrom_57 : decode cX1_copyFrom 57 = .ok (.istore_n 2, 1) := by decide +kernel
theorem dX1_copyFrom_58 : decode cX1_copyFrom 58 = .ok (.iload_n 2, 1) := by decide +kernel
theorem dX1_copyFrom_59 : decode cX1_copyFrom 59 = .ok (.aload_n 0, 1) := by decide +kernel
theorem dX1_copyFrom_60 : decode cX1_copyFrom 60 = .ok (.getfield 17, 3) := by decide +kernel
theorem dX1_copyFrom_63 : decode cX1_copyFrom 63 = .ok (.arraylength, 1) := by decide +kernel
theorem dX1_copyFrom_64 : decode cX1_copyFrom 64 = .ok (.if_icmp .ge 30, 3) := by decide +kernel
theorem dX1_copyFrom_67 : decode cX1_copyFrom 67 = .ok (.iload_n 2, 1) := by decide +kernel
theorem dX1_copyFrom_68 : decode cX1_copyFrom 68 = .ok (.aload_n 1, 1) := by decide +kernel
theorem dX1_copyFrom_69 : decode cX1_copyFrom 69 = .ok (.getfield 17, 3) := by decide +kernel
theorem dX1_copyFrom_72 : decode cX1_copyFrom 72 = .ok (.arraylength, 1) := by decide +kernel
theorem dX1_copyFrom_73 : decode cX1_copyFrom 73 = .ok (.if_icmp .ge 21, 3) := by decide +kernel
theorem dX1_copyFrom_76 : decode cX1_copyFrom 76 = .ok (.aload_n 0, 1) := by decide +kernel
theorem dX1_copyFrom_77 : decode cX1_copyFrom 77 = .ok (.getfield 17, 3) := by decide +kernel
theorem dX1_copyFrom_80 : decode cX1_copyFrom 80 = .ok (.iload_n 2, 1) := by decide +kernel
theorem dX1_copyFrom_81 : decode cX1_copyFrom 81 = .ok (.aload_n 1, 1) := by decide +kernel
theorem dX1_copyFrom_82 : decode cX1_copyFrom 82 = .ok (.getfield 17, 3) := by decide +kernel
theorem dX1_copyFrom_85 : decode cX1_copyFrom 85 = .ok (.iload_n 2, 1) := by decide +kernel
theorem dX1_copyFrom_86 : decode cX1_copyFrom 86 = .ok (.iaload, 1) := by decide +kernel
theorem dX1_copyFrom_87 : decode cX1_copyFrom 87 = .ok (.iastore, 1) := by decide +kernel
theorem dX1_copyFrom_88 : decode cX1_copyFrom 88 = .ok (.iinc 2 1, 3) := by decide +kernel
theorem dX1_copyFrom_91 : decode cX1_copyFrom 91 = .ok (.goto (-33), 3) := by decide +kernel
theorem dX1_copyFrom_94 : decode cX1_copyFrom 94 = .ok (.aload_n 0, 1) := by decide +kernel
theorem dX1_copyFrom_95 : decode cX1_copyFrom 95 = .ok (.aload_n 1, 1) := by decide +kernel
theorem dX1_copyFrom_96 : decode cX1_copyFrom 96 = .ok (.getfield 21, 3) := by decide +kernel
theorem dX1_copyFrom_99 : decode cX1_copyFrom 99 = .ok (.putfield 21, 3) := by decide +kernel
theorem dX1_copyFrom_102 : decode cX1_copyFrom 102 = .ok (.aload_n 0, 1) := by decide +kernel
theorem dX1_copyFrom_103 : decode cX1_copyFrom 103 = .ok (.aload_n 1, 1) := by decide +kernel
theorem dX1_copyFrom_104 : decode cX1_copyFrom 104 = .ok (.getfield 25, 3) := by decide +kernel
theorem dX1_copyFrom_107 : decode cX1_copyFrom 107 = .ok (.putfield 25, 3) := by decide +kernel
theorem dX1_copyFrom_110 : decode cX1_copyFrom 110 = .ok (.aload_n 0, 1) := by decide +kernel
theorem dX1_copyFrom_111 : decode cX1_copyFrom 111 = .ok (.aload_n 1, 1) := by decide +kernel
theorem dX1_copyFrom_112 : decode cX1_copyFrom 112 = .ok (.getfield 28, 3) := by decide +kernel
theorem dX1_copyFrom_115 : decode cX1_copyFrom 115 = .ok (.putfield 28, 3) := by decide +kernel
theorem dX1_copyFrom_118 : decode cX1_copyFrom 118 = .ok (.aload_n 0, 1) := by decide +kernel
theorem dX1_copyFrom_119 : decode cX1_copyFrom 119 = .ok (.aload_n 1, 1) := by decide +kernel
theorem dX1_copyFrom_120 : decode cX1_copyFrom 120 = .ok (.getfield 31, 3) := by decide +kernel
theorem dX1_copyFrom_123 : decode cX1_copyFrom 123 = .ok (.putfield 31, 3) := by decide +kernel
theorem dX1_copyFrom_126 : decode cX1_copyFrom 126 = .ok (.aload_n 0, 1) := by decide +kernel
theorem dX1_copyFrom_127 : decode cX1_copyFrom 127 = .ok (.aload_n 1, 1) := by decide +kernel
theorem dX1_copyFrom_128 : decode cX1_copyFrom 128 = .ok (.getfield 34, 3) := by decide +kernel
theorem dX1_copyFrom_131 : decode cX1_copyFrom 131 = .ok (.putfield 34, 3) := by decide +kernel
theorem dX1_copyFrom_134 : decode cX1_copyFrom 134 = .ok (.return_, 1) := by decide +kernel
theorem dX1_line_0 : decode cX1_line 0 = .ok (.iload_n 1, 1) := by decide +kernel
theorem dX1_line_1 : decode cX1_line 1 = .ok (.ifCond .lt 20, 3) := by decide +kernel
theorem dX1_line_4 : decode cX1_line 4 = .ok (.iload_n 1, 1) := by decide +kernel
theorem dX1_line_5 : decode cX1_line 5 = .ok (.aload_n 0, 1) := by decide +kernel
theorem dX1_line_6 : decode cX1_line 6 = .ok (.getfield 21, 3) := by decide +kernel
theorem dX1_line_9 : decode cX1_line 9 = .ok (.if_icmp .ge 12, 3) := by decide +kernel
theorem dX1_line_12 : decode cX1_line 12 = .ok (.iload_n 1, 1) := by decide +kernel
theorem dX1_line_13 : decode cX1_line 13 = .ok (.aload_n 0, 1) := by decide +kernel
theorem dX1_line_14 : decode cX1_line 14 = .ok (.getfield 11, 3) := by decide +kernel
theorem dX1_line_17 : decode cX1_line 17 = .ok (.arraylength, 1) := by decide +kernel
theorem dX1_line_18 : decode cX1_line 18 = .ok (.if_icmp .lt 5, 3) := by decide +kernel
theorem dX1_line_21 : decode cX1_line 21 = .ok (.aconst_null, 1) := by decide +kernel
theorem dX1_line_22 : decode cX1_line 22 = .ok (.areturn, 1) := by decide +kernel
theorem dX1_line_23 : decode cX1_line 23 = .ok (.aload_n 0, 1) := by decide +kernel
theorem dX1_line_24 : decode cX1_line 24 = .ok (.getfield 11, 3) := by decide +kernel
theorem dX1_line_27 : decode cX1_line 27 = .ok (.iload_n 1, 1) := by decide +kernel
theorem dX1_line_28 : decode cX1_line 28 = .ok (.aaload, 1) := by decide +kernel
theorem dX1_line_29 : decode cX1_line 29 = .ok (.areturn, 1) := by decide +kernel
theorem dX1_occupant_0 : decode cX1_occupant 0 = .ok (.iload_n 1, 1) := by decide +kernel
theorem dX1_occupant_1 : decode cX1_occupant 1 = .ok (.invokestatic 50, 3) := by decide +kernel
theorem dX1_occupant_4 : decode cX1_occupant 4 = .ok (.ifCond .eq 10, 3) := by decide +kernel
theorem dX1_occupant_7 : decode cX1_occupant 7 = .ok (.iload_n 2, 1) := by decide +kernel
theorem dX1_occupant_8 : decode cX1_occupant 8 = .ok (.invokestatic 54, 3) := by decide +kernel
theorem dX1_occupant_11 : decode cX1_occupant 11 = .ok (.ifCond .ne 5, 3) := by decide +kernel
theorem dX1_occupant_14 : decode cX1_occupant 14 = .ok (.aconst_null, 1) := by decide +kernel
theorem dX1_occupant_15 : decode cX1_occupant 15 = .ok (.areturn, 1) := by decide +kernel
theorem dX1_occupant_16 : decode cX1_occupant 16 = .ok (.iload_n 1, 1) := by decide +kernel
theorem dX1_occupant_17 : decode cX1_occupant 17 = .ok (.bipush 10, 2) := by decide +kernel
theorem dX1_occupant_19 : decode cX1_occupant 19 = .ok (.imul, 1) := by decide +kernel
theorem dX1_occupant_20 : decode cX1_occupant 20 = .ok (.iload_n 2, 1) := by decide +kernel
theorem dX1_occupant_21 : decode cX1_occupant 21 = .ok (.iadd, 1) := by decide +kernel
theorem dX1_occupant_22 : decode cX1_occupant 22 = .ok (.istore_n 3, 1) := by decide +kernel
theorem dX1_occupant_23 : decode cX1_occupant 23 = .ok (.iload_n 3, 1) := by decide +kernel
theorem dX1_occupant_24 : decode cX1_occupant 24 = .ok (.ifCond .lt 12, 3) := by decide +kernel
theorem dX1_occupant_27 : decode cX1_occupant 27 = .ok (.iload_n 3, 1) := by decide +kernel
theorem dX1_occupant_28 : decode cX1_occupant 28 = .ok (.aload_n 0, 1) := by decide +kernel
theorem dX1_occupant_29 : decode cX1_occupant 29 = .ok (.getfield 17, 3) := by decide +kernel
theorem dX1_occupant_32 : decode cX1_occupant 32 = .ok (.arraylength, 1) := by decide +kernel
theorem dX1_occupant_33 : decode cX1_occupant 33 = .ok (.if_icmp .lt 5, 3) := by decide +kernel
theorem dX1_occupant_36 : decode cX1_occupant 36 = .ok (.aconst_null, 1) := by decide +kernel
theorem dX1_occupant_37 : decode cX1_occupant 37 = .ok (.areturn, 1) := by decide +kernel
theorem dX1_occupant_38 : decode cX1_occupant 38 = .ok (.aload_n 0, 1) := by decide +kernel
theorem dX1_occupant_39 : decode cX1_occupant 39 = .ok (.aload_n 0, 1) := by decide +kernel
theorem dX1_occupant_40 : decode cX1_occupant 40 = .ok (.getfield 17, 3) := by decide +kernel
theorem dX1_occupant_43 : decode cX1_occupant 43 = .ok (.iload_n 3, 1) := by decide +kernel
theorem dX1_occupant_44 : decode cX1_occupant 44 = .ok (.iaload, 1) := by decide +kernel
theorem dX1_occupant_45 : decode cX1_occupant 45 = .ok (.invokevirtual 57, 3) := by decide +kernel
theorem dX1_occupant_48 : decode cX1_occupant 48 = .ok (.areturn, 1) := by decide +kernel
theorem dX1_putInto_0 : decode cX1_putInto 0 = .ok (.iload_n 1, 1) := by decide +kernel
theorem dX1_putInto_1 : decode cX1_putInto 1 = .ok (.bipush 10, 2) := by decide +kernel
theorem dX1_putInto_3 : decode cX1_putInto 3 = .ok (.imul, 1) := by decide +kernel
theorem dX1_putInto_4 : decode cX1_putInto 4 = .ok (.iload_n 2, 1) := by decide +kernel
theorem dX1_putInto_5 : decode cX1_putInto 5 = .ok (.iadd, 1) := by decide +kernel
theorem dX1_putInto_6 : decode cX1_putInto 6 = .ok (.istore 4, 2) := by decide +kernel
theorem dX1_putInto_8 : decode cX1_putInto 8 = .ok (.iload 4, 2) := by decide +kernel
theorem dX1_putInto_10 : decode cX1_putInto 10 = .ok (.ifCond .lt 21, 3) := by decide +kernel
theorem dX1_putInto_13 : decode cX1_putInto 13 = .ok (.iload 4, 2) := by decide +kernel
theorem dX1_putInto_15 : decode cX1_putInto 15 = .ok (.aload_n 0, 1) := by decide +kernel
theorem dX1_putInto_16 : decode cX1_putInto 16 = .ok (.getfield 17, 3) := by decide +kernel
theorem dX1_putInto_19 : decode cX1_putInto 19 = .ok (.arraylength, 1) := by decide +kernel
theorem dX1_putInto_20 : decode cX1_putInto 20 = .ok (.if_icmp .ge 11, 3) := by decide +kernel
theorem dX1_putInto_23 : decode cX1_putInto 23 = .ok (.aload_n 0, 1) := by decide +kernel
theorem dX1_putInto_24 : decode cX1_putInto 24 = .ok (.getfield 17, 3) := by decide +kernel
theorem dX1_putInto_27 : decode cX1_putInto 27 = .ok (.iload 4, 2) := by decide +kernel
theorem dX1_putInto_29 : decode cX1_putInto 29 = .ok (.iload_n 3, 1) := by decide +kernel
theorem dX1_putInto_30 : decode cX1_putInto 30 = .ok (.iastore, 1) := by decide +kernel
theorem dX1_putInto_31 : decode cX1_putInto 31 = .ok (.return_, 1) := by decide +kernel
theorem dX1_jars_0 : decode cX1_jars 0 = .ok (.iload_n 1, 1) := by decide +kernel
theorem dX1_jars_1 : decode cX1_jars 1 = .ok (.ifCond .ne 10, 3) := by decide +kernel
theorem dX1_jars_4 : decode cX1_jars 4 = .ok (.aload_n 0, 1) := by decide +kernel
theorem dX1_jars_5 : decode cX1_jars 5 = .ok (.getfield 31, 3) := by decide +kernel
theorem dX1_jars_8 : decode cX1_jars 8 = .ok (.goto 7, 3) := by decide +kernel
theorem dX1_jars_11 : decode cX1_jars 11 = .ok (.aload_n 0, 1) := by decide +kernel
theorem dX1_jars_12 : decode cX1_jars 12 = .ok (.getfield 34, 3) := by decide +kernel
theorem dX1_jars_15 : decode cX1_jars 15 = .ok (.ireturn, 1) := by decide +kernel
theorem dX1_faultOfAdding_0 : decode cX1_faultOfAdding 0 = .ok (.iload_n 1, 1) := by decide +kernel
theorem dX1_faultOfAdding_1 : decode cX1_faultOfAdding 1 = .ok (.invokestatic 61, 3) := by decide +kernel
theorem dX1_faultOfAdding_4 : decode cX1_faultOfAdding 4 = .ok (.ifCond .eq 32, 3) := by decide +kernel
theorem dX1_faultOfAdding_7 : decode cX1_faultOfAdding 7 = .ok (.iload_n 2, 1) := by decide +kernel
theorem dX1_faultOfAdding_8 : decode cX1_faultOfAdding 8 = .ok (.invokestatic 50, 3) := by decide +kernel
theorem dX1_faultOfAdding_11 : decode cX1_faultOfAdding 11 = .ok (.ifCond .eq 25, 3) := by decide +kernel
theorem dX1_faultOfAdding_14 : decode cX1_faultOfAdding 14 = .ok (.ldc 64, 2) := by decide +kernel
theorem dX1_faultOfAdding_16 : decode cX1_faultOfAdding 16 = .ok (.iload_n 3, 1) := by decide +kernel
theorem dX1_faultOfAdding_17 : decode cX1_faultOfAdding 17 = .ok (.invokevirtual 66, 3) := by decide +kernel
theorem dX1_faultOfAdding_20 : decode cX1_faultOfAdding 20 = .ok (.ifCond .lt 16, 3) := by decide +kernel
theorem dX1_faultOfAdding_23 : decode cX1_faultOfAdding 23 = .ok (.iload 4, 2) := by decide +kernel
theorem dX1_faultOfAdding_25 : decode cX1_faultOfAdding 25 = .ok (.iconst 1, 1) := by decide +kernel
theorem dX1_faultOfAdding_26 : decode cX1_faultOfAdding 26 = .ok (.if_icmp .lt 10, 3) := by decide +kernel
theorem dX1_faultOfAdding_29 : decode cX1_faultOfAdding 29 = .ok (.iload 4, 2) := by decide +kernel
theorem dX1_faultOfAdding_31 : decode cX1_faultOfAdding 31 = .ok (.bipush 99, 2) := by decide +kernel
theorem dX1_faultOfAdding_33 : decode cX1_faultOfAdding 33 = .ok (.if_icmp .le 5, 3) := by decide +kernel
theorem dX1_faultOfAdding_36 : decode cX1_faultOfAdding 36 = .ok (.iconst 1, 1) := by decide +kernel
theorem dX1_faultOfAdding_37 : decode cX1_faultOfAdding 37 = .ok (.ireturn, 1) := by decide +kernel
theorem dX1_faultOfAdding_38 : decode cX1_faultOfAdding 38 = .ok (.aload_n 0, 1) := by decide +kernel
theorem dX1_faultOfAdding_39 : decode cX1_faultOfAdding 39 = .ok (.getfield 21, 3) := by decide +kernel
theorem dX1_faultOfAdding_42 : decode cX1_faultOfAdding 42 = .ok (.bipush 12, 2) := by decide +kernel
theorem dX1_faultOfAdding_44 : decode cX1_faultOfAdding 44 = .ok (.if_icmp .lt 5, 3) := by decide +kernel
theorem dX1_faultOfAdding_47 : decode cX1_faultOfAdding 47 = .ok (.iconst 3, 1) := by decide +kernel
theorem dX1_faultOfAdding_48 : decode cX1_faultOfAdding 48 = .ok (.ireturn, 1) := by decide +kernel
theorem dX1_faultOfAdding_49 : decode cX1_faultOfAdding 49 = .ok (.aload_n 0, 1) := by decide +kernel
theorem dX1_faultOfAdding_50 : decode cX1_faultOfAdding 50 = .ok (.iload_n 2, 1) := by decide +kernel
theorem dX1_faultOfAdding_51 : decode cX1_faultOfAdding 51 = .ok (.iload_n 1, 1) := by decide +kernel
theorem dX1_faultOfAdding_52 : decode cX1_faultOfAdding 52 = .ok (.invokestatic 72, 3) := by decide +kernel
theorem dX1_faultOfAdding_55 : decode cX1_faultOfAdding 55 = .ok (.invokevirtual 75, 3) := by decide +kernel
theorem dX1_faultOfAdding_58 : decode cX1_faultOfAdding 58 = .ok (.ifnonnull 7, 3) := by decide +kernel
theorem dX1_faultOfAdding_61 : decode cX1_faultOfAdding 61 = .ok (.iconst 0, 1) := by decide +kernel
theorem dX1_faultOfAdding_62 : decode cX1_faultOfAdding 62 = .ok (.goto 4, 3) := by decide +kernel
theorem dX1_faultOfAdding_65 : decode cX1_faultOfAdding 65 = .ok (.iconst 4, 1) := by decide +kernel
theorem dX1_faultOfAdding_66 : decode cX1_faultOfAdding 66 = .ok (.ireturn, 1) := by decide +kernel
theorem dX1_add_0 : decode cX1_add 0 = .ok (.aload_n 0, 1) := by decide +kernel
theorem dX1_add_1 : decode cX1_add 1 = .ok (.getfield 21, 3) := by decide +kernel
theorem dX1_add_4 : decode cX1_add 4 = .ok (.istore 5, 2) := by decide +kernel
theorem dX1_add_6 : decode cX1_add 6 = .ok (.aload_n 0, 1) := by decide +kernel
theorem dX1_add_7 : decode cX1_add 7 = .ok (.dup, 1) := by decide +kernel
theorem dX1_add_8 : decode cX1_add 8 = .ok (.getfield 21, 3) := by decide +kernel
theorem dX1_add_11 : decode cX1_add 11 = .ok (.iconst 1, 1) := by decide +kernel
theorem dX1_add_12 : decode cX1_add 12 = .ok (.iadd, 1) := by decide +kernel
theorem dX1_add_13 : decode cX1_add 13 = .ok (.putfield 21, 3) := by decide +kernel
theorem dX1_add_16 : decode cX1_add 16 = .ok (.aload_n 0, 1) := by decide +kernel
theorem dX1_add_17 : decode cX1_add 17 = .ok (.iload 5, 2) := by decide +kernel
theorem dX1_add_19 : decode cX1_add 19 = .ok (.invokevirtual 57, 3) := by decide +kernel
theorem dX1_add_22 : decode cX1_add 22 = .ok (.astore 6, 2) := by decide +kernel
theorem dX1_add_24 : decode cX1_add 24 = .ok (.aload 6, 2) := by decide +kernel
theorem dX1_add_26 : decode cX1_add 26 = .ok (.ifnonnull 5, 3) := by decide +kernel
theorem dX1_add_29 : decode cX1_add 29 = .ok (.iconst (-1), 1) := by decide +kernel
theorem dX1_add_30 : decode cX1_add 30 = .ok (.ireturn, 1) := by decide +kernel
theorem dX1_add_31 : decode cX1_add 31 = .ok (.aload 6, 2) := by decide +kernel
theorem dX1_add_33 : decode cX1_add 33 = .ok (.iload_n 1, 1) := by decide +kernel
theorem dX1_add_34 : decode cX1_add 34 = .ok (.putfield 79, 3) := by decide +kernel
theorem dX1_add_37 : decode cX1_add 37 = .ok (.aload 6, 2) := by decide +kernel
theorem dX1_add_39 : decode cX1_add 39 = .ok (.iload_n 2, 1) := by decide +kernel
theorem dX1_add_40 : decode cX1_add 40 = .ok (.putfield 82, 3) := by decide +kernel
theorem dX1_add_43 : decode cX1_add 43 = .ok (.aload 6, 2) := by decide +kernel
theorem dX1_add_45 : decode cX1_add 45 = .ok (.iload_n 1, 1) := by decide +kernel
theorem dX1_add_46 : decode cX1_add 46 = .ok (.invokestatic 72, 3) := by decide +kernel
theorem dX1_add_49 : decode cX1_add 49 = .ok (.putfield 85, 3) := by decide +kernel
theorem dX1_add_52 : decode cX1_add 52 = .ok (.aload 6, 2) := by decide +kernel
theorem dX1_add_54 : decode cX1_add 54 = .ok (.iload_n 3, 1) := by decide +kernel
theorem dX1_add_55 : decode cX1_add 55 = .ok (.putfield 88, 3) := by decide +kernel
theorem dX1_add_58 : decode cX1_add 58 = .ok (.aload 6, 2) := by decide +kernel
theorem dX1_add_60 : decode cX1_add 60 = .ok (.bipush 104, 2) := by decide +kernel
theorem dX1_add_62 : decode cX1_add 62 = .ok (.putfield 92, 3) := by decide +kernel
theorem dX1_add_65 : decode cX1_add 65 = .ok (.aload 6, 2) := by decide +kernel
theorem dX1_add_67 : decode cX1_add 67 = .ok (.iload 4, 2) := by decide +kernel
theorem dX1_add_69 : decode cX1_add 69 = .ok (.putfield 95, 3) := by decide +kernel
theorem dX1_add_72 : decode cX1_add 72 = .ok (.aload 6, 2) := by decide +kernel
theorem dX1_add_74 : decode cX1_add 74 = .ok (.bipush 10, 2) := by decide +kernel
theorem dX1_add_76 : decode cX1_add 76 = .ok (.putfield 98, 3) := by decide +kernel
theorem dX1_add_79 : decode cX1_add 79 = .ok (.aload 6, 2) := by decide +kernel
theorem dX1_add_81 : decode cX1_add 81 = .ok (.iconst 0, 1) := by decide +kernel
theorem dX1_add_82 : decode cX1_add 82 = .ok (.putfield 101, 3) := by decide +kernel
theorem dX1_add_85 : decode cX1_add 85 = .ok (.aload 6, 2) := by decide +kernel
theorem dX1_add_87 : decode cX1_add 87 = .ok (.iconst 0, 1) := by decide +kernel
theorem dX1_add_88 : decode cX1_add 88 = .ok (.putfield 104, 3) := by decide +kernel
theorem dX1_add_91 : decode cX1_add 91 = .ok (.aload_n 0, 1) := by decide +kernel
theorem dX1_add_92 : decode cX1_add 92 = .ok (.iload_n 2, 1) := by decide +kernel
theorem dX1_add_93 : decode cX1_add 93 = .ok (.aload 6, 2) := by decide +kernel
theorem dX1_add_95 : decode cX1_add 95 = .ok (.getfield 85, 3) := by decide +kernel
theorem dX1_add_98 : decode cX1_add 98 = .ok (.iload 5, 2) := by decide +kernel
theorem dX1_add_100 : decode cX1_add 100 = .ok (.invokevirtual 107, 3) := by decide +kernel
theorem dX1_add_103 : decode cX1_add 103 = .ok (.iload 5, 2) := by decide +kernel
theorem dX1_add_105 : decode cX1_add 105 = .ok (.ireturn, 1) := by decide +kernel
theorem dX1_firstColumn_0 : decode cX1_firstColumn 0 = .ok (.iload_n 0, 1) := by decide +kernel
theorem dX1_firstColumn_1 : decode cX1_firstColumn 1 = .ok (.ifCond .ne 7, 3) := by decide +kernel
theorem dX1_firstColumn_4 : decode cX1_firstColumn 4 = .ok (.iconst 0, 1) := by decide +kernel
theorem dX1_firstColumn_5 : decode cX1_firstColumn 5 = .ok (.goto 5, 3) := by decide +kernel
theorem dX1_firstColumn_8 : decode cX1_firstColumn 8 = .ok (.bipush 9, 2) := by decide +kernel
theorem dX1_firstColumn_10 : decode cX1_firstColumn 10 = .ok (.ireturn, 1) := by decide +kernel
theorem dX1_faultOfOrdering_0 : decode cX1_faultOfOrdering 0 = .ok (.aload_n 0, 1) := by decide +kernel
theorem dX1_faultOfOrdering_1 : decode cX1_faultOfOrdering 1 = .ok (.iload_n 1, 1) := by decide +kernel
theorem dX1_faultOfOrdering_2 : decode cX1_faultOfOrdering 2 = .ok (.invokevirtual 57, 3) := by decide +kernel
theorem dX1_faultOfOrdering_5 : decode cX1_faultOfOrdering 5 = .ok (.astore_n 3, 1) := by decide +kernel
theorem dX1_faultOfOrdering_6 : decode cX1_faultOfOrdering 6 = .ok (.aload_n 3, 1) := by decide +kernel
theorem dX1_faultOfOrdering_7 : decode cX1_faultOfOrdering 7 = .ok (.ifnonnull 5, 3) := by decide +kernel
theorem dX1_faultOfOrdering_10 : decode cX1_faultOfOrdering 10 = .ok (.iconst 2, 1) := by decide +kernel
theorem dX1_faultOfOrdering_11 : decode cX1_faultOfOrdering 11 = .ok (.ireturn, 1) := by decide +kernel
theorem dX1_faultOfOrdering_12 : decode cX1_faultOfOrdering 12 = .ok (.ldc 111, 2) := by decide +kernel
theorem dX1_faultOfOrdering_14 : decode cX1_faultOfOrdering 14 = .ok (.iload_n 2, 1) := by decide +kernel
theorem dX1_faultOfOrdering_15 : decode cX1_faultOfOrdering 15 = .ok (.invokevirtual 66, 3) := by decide +kernel
theorem dX1_faultOfOrdering_18 : decode cX1_faultOfOrdering 18 = .ok (.ifCond .ge 5, 3) := by decide +kernel
theorem dX1_faultOfOrdering_21 : decode cX1_faultOfOrdering 21 = .ok (.iconst 1, 1) := by decide +kernel
theorem dX1_faultOfOrdering_22 : decode cX1_faultOfOrdering 22 = .ok (.ireturn, 1) := by decide +kernel
theorem dX1_faultOfOrdering_23 : decode cX1_faultOfOrdering 23 = .ok (.aload_n 3, 1) := by decide +kernel
theorem dX1_faultOfOrdering_24 : decode cX1_faultOfOrdering 24 = .ok (.invokevirtual 113, 3) := by decide +kernel
theorem dX1_faultOfOrdering_27 : decode cX1_faultOfOrdering 27 = .ok (.ifCond .eq 7, 3) := by decide +kernel
theorem dX1_faultOfOrdering_30 : decode cX1_faultOfOrdering 30 = .ok (.iconst 0, 1) := by decide +kernel
theorem dX1_faultOfOrdering_31 : decode cX1_faultOfOrdering 31 = .ok (.goto 4, 3) := by decide +kernel
theorem dX1_faultOfOrdering_34 : decode cX1_faultOfOrdering 34 = .ok (.iconst 3, 1) := by decide +kernel
theorem dX1_faultOfOrdering_35 : decode cX1_faultOfOrdering 35 = .ok (.ireturn, 1) := by decide +kernel
theorem dX1_giveOrder_0 : decode cX1_giveOrder 0 = .ok (.aload_n 0, 1) := by decide +kernel
theorem dX1_giveOrder_1 : decode cX1_giveOrder 1 = .ok (.iload_n 1, 1) := by decide +kernel
theorem dX1_giveOrder_2 : decode cX1_giveOrder 2 = .ok (.invokevirtual 57, 3) := by decide +kernel
theorem dX1_giveOrder_5 : decode cX1_giveOrder 5 = .ok (.astore_n 3, 1) := by decide +kernel
theorem dX1_giveOrder_6 : decode cX1_giveOrder 6 = .ok (.aload_n 3, 1) := by decide +kernel
theorem dX1_giveOrder_7 : decode cX1_giveOrder 7 = .ok (.ifnonnull 5, 3) := by decide +kernel
theorem dX1_giveOrder_10 : decode cX1_giveOrder 10 = .ok (.iconst 0, 1) := by decide +kernel
theorem dX1_giveOrder_11 : decode cX1_giveOrder 11 = .ok (.ireturn, 1) := by decide +kernel
theorem dX1_giveOrder_12 : decode cX1_giveOrder 12 = .ok (.aload_n 3, 1) := by decide +kernel
theorem dX1_giveOrder_13 : decode cX1_giveOrder 13 = .ok (.getfield 92, 3) := by decide +kernel
theorem dX1_giveOrder_16 : decode cX1_giveOrder 16 = .ok (.istore 4, 2) := by decide +kernel
theorem dX1_giveOrder_18 : decode cX1_giveOrder 18 = .ok (.aload_n 3, 1) := by decide +kernel
theorem dX1_giveOrder_19 : decode cX1_giveOrder 19 = .ok (.iload_n 2, 1) := by decide +kernel
theorem dX1_giveOrder_20 : decode cX1_giveOrder 20 = .ok (.putfield 92, 3) := by decide +kernel
theorem dX1_giveOrder_23 : decode cX1_giveOrder 23 = .ok (.iload 4, 2) := by decide +kernel
theorem dX1_giveOrder_25 : decode cX1_giveOrder 25 = .ok (.ireturn, 1) := by decide +kernel
theorem dX1_faultOfRallying_0 : decode cX1_faultOfRallying 0 = .ok (.aload_n 0, 1) := by decide +kernel
theorem dX1_faultOfRallying_1 : decode cX1_faultOfRallying 1 = .ok (.iload_n 1, 1) := by decide +kernel
theorem dX1_faultOfRallying_2 : decode cX1_faultOfRallying 2 = .ok (.invokevirtual 57, 3) := by decide +kernel
theorem dX1_faultOfRallying_5 : decode cX1_faultOfRallying 5 = .ok (.astore_n 2, 1) := by decide +kernel
theorem dX1_faultOfRallying_6 : decode cX1_faultOfRallying 6 = .ok (.aload_n 2, 1) := by decide +kernel
theorem dX1_faultOfRallying_7 : decode cX1_faultOfRallying 7 = .ok (.ifnonnull 5, 3) := by decide +kernel
theorem dX1_faultOfRallying_10 : decode cX1_faultOfRallying 10 = .ok (.iconst 2, 1) := by decide +kernel
theorem dX1_faultOfRallying_11 : decode cX1_faultOfRallying 11 = .ok (.ireturn, 1) := by decide +kernel
theorem dX1_faultOfRallying_12 : decode cX1_faultOfRallying 12 = .ok (.aload_n 2, 1) := by decide +kernel
theorem dX1_faultOfRallying_13 : decode cX1_faultOfRallying 13 = .ok (.invokevirtual 117, 3) := by decide +kernel
theorem dX1_faultOfRallying_16 : decode cX1_faultOfRallying 16 = .ok (.ifCond .ne 5, 3) := by decide +kernel
theorem dX1_faultOfRallying_19 : decode cX1_faultOfRallying 19 = .ok (.iconst 3, 1) := by decide +kernel
theorem dX1_faultOfRallying_20 : decode cX1_faultOfRallying 20 = .ok (.ireturn, 1) := by decide +kernel
theorem dX1_faultOfRallying_21 : decode cX1_faultOfRallying 21 = .ok (.aload_n 0, 1) := by decide +kernel
theorem dX1_faultOfRallying_22 : decode cX1_faultOfRallying 22 = .ok (.aload_n 2, 1) := by decide +kernel
theorem dX1_faultOfRallying_23 : decode cX1_faultOfRallying 23 = .ok (.getfield 79, 3) := by decide +kernel
theorem dX1_faultOfRallying_26 : decode cX1_faultOfRallying 26 = .ok (.invokevirtual 120, 3) := by decide +kernel
theorem dX1_faultOfRallying_29 : decode cX1_faultOfRallying 29 = .ok (.ifCond .le 7, 3) := by decide +kernel
theorem dX1_faultOfRallying_32 : decode cX1_faultOfRallying 32 = .ok (.iconst 0, 1) := by decide +kernel
theorem dX1_faultOfRallying_33 : decode cX1_faultOfRallying 33 = .ok (.goto 4, 3) := by decide +kernel
theorem dX1_faultOfRallying_36 : decode cX1_faultOfRallying 36 = .ok (.iconst 4, 1) := by decide +kernel
theorem dX1_faultOfRallying_37 : decode cX1_faultOfRallying 37 = .ok (.ireturn, 1) := by decide +kernel
theorem dX1_useJar_0 : decode cX1_useJar 0 = .ok (.aload_n 0, 1) := by decide +kernel
theorem dX1_useJar_1 : decode cX1_useJar 1 = .ok (.iload_n 1, 1) := by decide +kernel
theorem dX1_useJar_2 : decode cX1_useJar 2 = .ok (.invokevirtual 57, 3) := by decide +kernel
theorem dX1_useJar_5 : decode cX1_useJar 5 = .ok (.astore_n 2, 1) := by decide +kernel
theorem dX1_useJar_6 : decode cX1_useJar 6 = .ok (.aload_n 2, 1) := by decide +kernel
theorem dX1_useJar_7 : decode cX1_useJar 7 = .ok (.ifnonnull 5, 3) := by decide +kernel
theorem dX1_useJar_10 : decode cX1_useJar 10 = .ok (.iconst (-1), 1) := by decide +kernel
theorem dX1_useJar_11 : decode cX1_useJar 11 = .ok (.ireturn, 1) := by decide +kernel
theorem dX1_useJar_12 : decode cX1_useJar 12 = .ok (.aload_n 2, 1) := by decide +kernel
theorem dX1_useJar_13 : decode cX1_useJar 13 = .ok (.getfield 79, 3) := by decide +kernel
theorem dX1_useJar_16 : decode cX1_useJar 16 = .ok (.ifCond .ne 16, 3) := by decide +kernel
theorem dX1_useJar_19 : decode cX1_useJar 19 = .ok (.aload_n 0, 1) := by decide +kernel
theorem dX1_useJar_20 : decode cX1_useJar 20 = .ok (.dup, 1) := by decide +kernel
theorem dX1_useJar_21 : decode cX1_useJar 21 = .ok (.getfield 31, 3) := by decide +kernel
theorem dX1_useJar_24 : decode cX1_useJar 24 = .ok (.iconst 1, 1) := by decide +kernel
theorem dX1_useJar_25 : decode cX1_useJar 25 = .ok (.isub, 1) := by decide +kernel
theorem dX1_useJar_26 : decode cX1_useJar 26 = .ok (.putfield 31, 3) := by decide +kernel
theorem dX1_useJar_29 : decode cX1_useJar 29 = .ok (.goto 13, 3) := by decide +kernel
theorem dX1_useJar_32 : decode cX1_useJar 32 = .ok (.aload_n 0, 1) := by decide +kernel
theorem dX1_useJar_33 : decode cX1_useJar 33 = .ok (.dup, 1) := by decide +kernel
theorem dX1_useJar_34 : decode cX1_useJar 34 = .ok (.getfield 34, 3) := by decide +kernel
theorem dX1_useJar_37 : decode cX1_useJar 37 = .ok (.iconst 1, 1) := by decide +kernel
theorem dX1_useJar_38 : decode cX1_useJar 38 = .ok (.isub, 1) := by decide +kernel
theorem dX1_useJar_39 : decode cX1_useJar 39 = .ok (.putfield 34, 3) := by decide +kernel
theorem dX1_useJar_42 : decode cX1_useJar 42 = .ok (.aload_n 2, 1) := by decide +kernel
theorem dX1_useJar_43 : decode cX1_useJar 43 = .ok (.bipush 6, 2) := by decide +kernel
theorem dX1_useJar_45 : decode cX1_useJar 45 = .ok (.invokevirtual 123, 3) := by decide +kernel
theorem dX1_useJar_48 : decode cX1_useJar 48 = .ok (.aload_n 2, 1) := by decide +kernel
theorem dX1_useJar_49 : decode cX1_useJar 49 = .ok (.invokevirtual 126, 3) := by decide +kernel
theorem dX1_useJar_52 : decode cX1_useJar 52 = .ok (.aload_n 2, 1) := by decide +kernel
theorem dX1_useJar_53 : decode cX1_useJar 53 = .ok (.getfield 98, 3) := by decide +kernel
theorem dX1_useJar_56 : decode cX1_useJar 56 = .ok (.ireturn, 1) := by decide +kernel
theorem dX1_passTurn_0 : decode cX1_passTurn 0 = .ok (.aload_n 0, 1) := by decide +kernel
theorem dX1_passTurn_1 : decode cX1_passTurn 1 = .ok (.getfield 28, 3) := by decide +kernel
theorem dX1_passTurn_4 : decode cX1_passTurn 4 = .ok (.istore_n 1, 1) := by decide +kernel
theorem dX1_passTurn_5 : decode cX1_passTurn 5 = .ok (.iconst 0, 1) := by decide +kernel
theorem dX1_passTurn_6 : decode cX1_passTurn 6 = .ok (.istore_n 2, 1) := by decide +kernel
theorem dX1_passTurn_7 : decode cX1_passTurn 7 = .ok (.iload_n 2, 1) := by decide +kernel
theorem dX1_passTurn_8 : decode cX1_passTurn 8 = .ok (.aload_n 0, 1) := by decide +kernel
theorem dX1_passTurn_9 : decode cX1_passTurn 9 = .ok (.getfield 21, 3) := by decide +kernel
theorem dX1_passTurn_12 : decode cX1_passTurn 12 = .ok (.if_icmp .ge 50, 3) := by decide +kernel
theorem dX1_passTurn_15 : decode cX1_passTurn 15 = .ok (.aload_n 0, 1) := by decide +kernel
theorem dX1_passTurn_16 : decode cX1_passTurn 16 = .ok (.iload_n 2, 1) := by decide +kernel
theorem dX1_passTurn_17 : decode cX1_passTurn 17 = .ok (.invokevirtual 57, 3) := by decide +kernel
theorem dX1_passTurn_20 : decode cX1_passTurn 20 = .ok (.astore_n 3, 1) := by decide +kernel
theorem dX1_passTurn_21 : decode cX1_passTurn 21 = .ok (.aload_n 3, 1) := by decide +kernel
theorem dX1_passTurn_22 : decode cX1_passTurn 22 = .ok (.ifnull 18, 3) := by decide +kernel
theorem dX1_passTurn_25 : decode cX1_passTurn 25 = .ok (.aload_n 3, 1) := by decide +kernel
theorem dX1_passTurn_26 : decode cX1_passTurn 26 = .ok (.invokevirtual 113, 3) := by decide +kernel
theorem dX1_passTurn_29 : decode cX1_passTurn 29 = .ok (.ifCond .eq 11, 3) := by decide +kernel
theorem dX1_passTurn_32 : decode cX1_passTurn 32 = .ok (.aload_n 0, 1) := by decide +kernel
theorem dX1_passTurn_33 : decode cX1_passTurn 33 = .ok (.aload_n 3, 1) := by decide +kernel
theorem dX1_passTurn_34 : decode cX1_passTurn 34 = .ok (.invokevirtual 129, 3) := by decide +kernel
theorem dX1_passTurn_37 : decode cX1_passTurn 37 = .ok (.goto 19, 3) := by decide +kernel
theorem dX1_passTurn_40 : decode cX1_passTurn 40 = .ok (.aload_n 3, 1) := by decide +kernel
theorem dX1_passTurn_41 : decode cX1_passTurn 41 = .ok (.ifnull 15, 3) := by decide +kernel
theorem dX1_passTurn_44 : decode cX1_passTurn 44 = .ok (.aload_n 3, 1) := by decide +kernel
theorem dX1_passTurn_45 : decode cX1_passTurn 45 = .ok (.invokevirtual 117, 3) := by decide +kernel
theorem dX1_passTurn_48 : decode cX1_passTurn 48 = .ok (.ifCond .eq 8, 3) := by decide +kernel
theorem dX1_passTurn_51 : decode cX1_passTurn 51 = .ok (.aload_n 0, 1) := by decide +kernel
theorem dX1_passTurn_52 : decode cX1_passTurn 52 = .ok (.aload_n 3, 1) := by decide +kernel
theorem dX1_passTurn_53 : decode cX1_passTurn 53 = .ok (.invokevirtual 132, 3) := by decide +kernel
theorem dX1_passTurn_56 : decode cX1_passTurn 56 = .ok (.iinc 2 1, 3) := by decide +kernel
theorem dX1_passTurn_59 : decode cX1_passTurn 59 = .ok (.goto (-52), 3) := by decide +kernel
theorem dX1_passTurn_62 : decode cX1_passTurn 62 = .ok (.aload_n 0, 1) := by decide +kernel
theorem dX1_passTurn_63 : decode cX1_passTurn 63 = .ok (.dup, 1) := by decide +kernel
theorem dX1_passTurn_64 : decode cX1_passTurn 64 = .ok (.getfield 25, 3) := by decide +kernel
theorem dX1_passTurn_67 : decode cX1_passTurn 67 = .ok (.iconst 1, 1) := by decide +kernel
theorem dX1_passTurn_68 : decode cX1_passTurn 68 = .ok (.iadd, 1) := by decide +kernel
theorem dX1_passTurn_69 : decode cX1_passTurn 69 = .ok (.putfield 25, 3) := by decide +kernel
theorem dX1_passTurn_72 : decode cX1_passTurn 72 = .ok (.aload_n 0, 1) := by decide +kernel
theorem dX1_passTurn_73 : decode cX1_passTurn 73 = .ok (.getfield 28, 3) := by decide +kernel
theorem dX1_passTurn_76 : decode cX1_passTurn 76 = .ok (.iload_n 1, 1) := by decide +kernel
theorem dX1_passTurn_77 : decode cX1_passTurn 77 = .ok (.isub, 1) := by decide +kernel
theorem dX1_passTurn_78 : decode cX1_passTurn 78 = .ok (.ireturn, 1) := by decide +kernel
theorem dX1_retreat_0 : decode cX1_retreat 0 = .ok (.aload_n 1, 1) := by decide +kernel
theorem dX1_retreat_1 : decode cX1_retreat 1 = .ok (.dup, 1) := by decide +kernel
theorem dX1_retreat_2 : decode cX1_retreat 2 = .ok (.getfield 104, 3) := by decide +kernel
theorem dX1_retreat_5 : decode cX1_retreat 5 = .ok (.iconst 1, 1) := by decide +kernel
theorem dX1_retreat_6 : decode cX1_retreat 6 = .ok (.iadd, 1) := by decide +kernel
theorem dX1_retreat_7 : decode cX1_retreat 7 = .ok (.putfield 104, 3) := by decide +kernel
theorem dX1_retreat_10 : decode cX1_retreat 10 = .ok (.aload_n 0, 1) := by decide +kernel
theorem dX1_retreat_11 : decode cX1_retreat 11 = .ok (.aload_n 1, 1) := by decide +kernel
theorem dX1_retreat_12 : decode cX1_retreat 12 = .ok (.aload_n 1, 1) := by decide +kernel
theorem dX1_retreat_13 : decode cX1_retreat 13 = .ok (.invokevirtual 135, 3) := by decide +kernel
theorem dX1_retreat_16 : decode cX1_retreat 16 = .ok (.ineg, 1) := by decide +kernel
theorem dX1_retreat_17 : decode cX1_retreat 17 = .ok (.invokevirtual 139, 3) := by decide +kernel
theorem dX1_retreat_20 : decode cX1_retreat 20 = .ok (.pop, 1) := by decide +kernel
theorem dX1_retreat_21 : decode cX1_retreat 21 = .ok (.aload_n 1, 1) := by decide +kernel
theorem dX1_retreat_22 : decode cX1_retreat 22 = .ok (.iconst 1, 1) := by decide +kernel
theorem dX1_retreat_23 : decode cX1_retreat 23 = .ok (.invokevirtual 123, 3) := by decide +kernel
theorem dX1_retreat_26 : decode cX1_retreat 26 = .ok (.aload_n 1, 1) := by decide +kernel
theorem dX1_retreat_27 : decode cX1_retreat 27 = .ok (.invokevirtual 126, 3) := by decide +kernel
theorem dX1_retreat_30 : decode cX1_retreat 30 = .ok (.return_, 1) := by decide +kernel
theorem dX1_obey_0 : decode cX1_obey 0 = .ok (.aload_n 1, 1) := by decide +kernel
theorem dX1_obey_1 : decode cX1_obey 1 = .ok (.getfield 92, 3) := by decide +kernel
theorem dX1_obey_4 : decode cX1_obey 4 = .ok (.bipush 104, 2) := by decide +kernel
theorem dX1_obey_6 : decode cX1_obey 6 = .ok (.if_icmp .ne 9, 3) := by decide +kernel
theorem dX1_obey_9 : decode cX1_obey 9 = .ok (.aload_n 1, 1) := by decide +kernel
theorem dX1_obey_10 : decode cX1_obey 10 = .ok (.iconst 1, 1) := by decide +kernel
theorem dX1_obey_11 : decode cX1_obey 11 = .ok (.invokevirtual 123, 3) := by decide +kernel
theorem dX1_obey_14 : decode cX1_obey 14 = .ok (.return_, 1) := by decide +kernel
theorem dX1_obey_15 : decode cX1_obey 15 = .ok (.aload_n 0, 1) := by decide +kernel
theorem dX1_obey_16 : decode cX1_obey 16 = .ok (.aload_n 1, 1) := by decide +kernel
theorem dX1_obey_17 : decode cX1_obey 17 = .ok (.aload_n 1, 1) := by decide +kernel
theorem dX1_obey_18 : decode cX1_obey 18 = .ok (.invokevirtual 135, 3) := by decide +kernel
theorem dX1_obey_21 : decode cX1_obey 21 = .ok (.invokevirtual 139, 3) := by decide +kernel
theorem dX1_obey_24 : decode cX1_obey 24 = .ok (.istore_n 2, 1) := by decide +kernel
theorem dX1_obey_25 : decode cX1_obey 25 = .ok (.iload_n 2, 1) := by decide +kernel
theorem dX1_obey_26 : decode cX1_obey 26 = .ok (.ifCond .eq 13, 3) := by decide +kernel
theorem dX1_obey_29 : decode cX1_obey 29 = .ok (.aload_n 1, 1) := by decide +kernel
theorem dX1_obey_30 : decode cX1_obey 30 = .ok (.getfield 92, 3) := by decide +kernel
theorem dX1_obey_33 : decode cX1_obey 33 = .ok (.bipush 97, 2) := by decide +kernel
theorem dX1_obey_35 : decode cX1_obey 35 = .ok (.if_icmp .ne 4, 3) := by decide +kernel
theorem dX1_obey_38 : decode cX1_obey 38 = .ok (.return_, 1) := by decide +kernel
theorem dX1_obey_39 : decode cX1_obey 39 = .ok (.iload_n 2, 1) := by decide +kernel
theorem dX1_obey_40 : decode cX1_obey 40 = .ok (.ifCond .eq 13, 3) := by decide +kernel
theorem dX1_obey_43 : decode cX1_obey 43 = .ok (.aload_n 0, 1) := by decide +kernel
theorem dX1_obey_44 : decode cX1_obey 44 = .ok (.aload_n 1, 1) := by decide +kernel
theorem dX1_obey_45 : decode cX1_obey 45 = .ok (.aload_n 1, 1) := by decide +kernel
theorem dX1_obey_46 : decode cX1_obey 46 = .ok (.invokevirtual 135, 3) := by decide +kernel
theorem dX1_obey_49 : decode cX1_obey 49 = .ok (.invokevirtual 139, 3) := by decide +kernel
theorem dX1_obey_52 : decode cX1_obey 52 = .ok (.pop, 1) := by decide +kernel
theorem dX1_obey_53 : decode cX1_obey 53 = .ok (.aload_n 0, 1) := by decide +kernel
theorem dX1_obey_54 : decode cX1_obey 54 = .ok (.aload_n 1, 1) := by decide +kernel
theorem dX1_obey_55 : decode cX1_obey 55 = .ok (.getfield 82, 3) := by decide +kernel
theorem dX1_obey_58 : decode cX1_obey 58 = .ok (.aload_n 1, 1) := by decide +kernel
theorem dX1_obey_59 : decode cX1_obey 59 = .ok (.getfield 85, 3) := by decide +kernel
theorem dX1_obey_62 : decode cX1_obey 62 = .ok (.aload_n 1, 1) := by decide +kernel
theorem dX1_obey_63 : decode cX1_obey 63 = .ok (.invokevirtual 135, 3) := by decide +kernel
theorem dX1_obey_66 : decode cX1_obey 66 = .ok (.iadd, 1) := by decide +kernel
theorem dX1_obey_67 : decode cX1_obey 67 = .ok (.invokevirtual 75, 3) := by decide +kernel
theorem dX1_obey_70 : decode cX1_obey 70 = .ok (.astore_n 3, 1) := by decide +kernel
theorem dX1_obey_71 : decode cX1_obey 71 = .ok (.aload_n 3, 1) := by decide +kernel
theorem dX1_obey_72 : decode cX1_obey 72 = .ok (.ifnull 21, 3) := by decide +kernel
theorem dX1_obey_75 : decode cX1_obey 75 = .ok (.aload_n 3, 1) := by decide +kernel
theorem dX1_obey_76 : decode cX1_obey 76 = .ok (.getfield 79, 3) := by decide +kernel
theorem dX1_obey_79 : decode cX1_obey 79 = .ok (.aload_n 1, 1) := by decide +kernel
theorem dX1_obey_80 : decode cX1_obey 80 = .ok (.getfield 79, 3) := by decide +kernel
theorem dX1_obey_83 : decode cX1_obey 83 = .ok (.if_icmp .eq 10, 3) := by decide +kernel
theorem dX1_obey_86 : decode cX1_obey 86 = .ok (.aload_n 0, 1) := by decide +kernel
theorem dX1_obey_87 : decode cX1_obey 87 = .ok (.aload_n 1, 1) := by decide +kernel
theorem dX1_obey_88 : decode cX1_obey 88 = .ok (.aload_n 3, 1) := by decide +kernel
theorem dX1_obey_89 : decode cX1_obey 89 = .ok (.iload_n 2, 1) := by decide +kernel
theorem dX1_obey_90 : decode cX1_obey 90 = .ok (.invokevirtual 143, 3) := by decide +kernel
theorem dX1_obey_93 : decode cX1_obey 93 = .ok (.return_, 1) := by decide +kernel
theorem dX1_moveIfFree_0 : decode cX1_moveIfFree 0 = .ok (.aload_n 1, 1) := by decide +kernel
theorem dX1_moveIfFree_1 : decode cX1_moveIfFree 1 = .ok (.getfield 85, 3) := by decide +kernel
theorem dX1_moveIfFree_4 : decode cX1_moveIfFree 4 = .ok (.iload_n 2, 1) := by decide +kernel
theorem dX1_moveIfFree_5 : decode cX1_moveIfFree 5 = .ok (.iadd, 1) := by decide +kernel
theorem dX1_moveIfFree_6 : decode cX1_moveIfFree 6 = .ok (.istore_n 3, 1) := by decide +kernel
theorem dX1_moveIfFree_7 : decode cX1_moveIfFree 7 = .ok (.iload_n 3, 1) := by decide +kernel
theorem dX1_moveIfFree_8 : decode cX1_moveIfFree 8 = .ok (.invokestatic 54, 3) := by decide +kernel
theorem dX1_moveIfFree_11 : decode cX1_moveIfFree 11 = .ok (.ifCond .eq 15, 3) := by decide +kernel
theorem dX1_moveIfFree_14 : decode cX1_moveIfFree 14 = .ok (.aload_n 0, 1) := by decide +kernel
theorem dX1_moveIfFree_15 : decode cX1_moveIfFree 15 = .ok (.aload_n 1, 1) := by decide +kernel
theorem dX1_moveIfFree_16 : decode cX1_moveIfFree 16 = .ok (.getfield 82, 3) := by decide +kernel
theorem dX1_moveIfFree_19 : decode cX1_moveIfFree 19 = .ok (.iload_n 3, 1) := by decide +kernel
theorem dX1_moveIfFree_20 : decode cX1_moveIfFree 20 = .ok (.invokevirtual 75, 3) := by decide +kernel
theorem dX1_moveIfFree_23 : decode cX1_moveIfFree 23 = .ok (.ifnull 5, 3) := by decide +kernel
theorem dX1_moveIfFree_26 : decode cX1_moveIfFree 26 = .ok (.iconst 0, 1) := by decide +kernel
theorem dX1_moveIfFree_27 : decode cX1_moveIfFree 27 = .ok (.ireturn, 1) := by decide +kernel
theorem dX1_moveIfFree_28 : decode cX1_moveIfFree 28 = .ok (.aload_n 0, 1) := by decide +kernel
theorem dX1_moveIfFree_29 : decode cX1_moveIfFree 29 = .ok (.aload_n 1, 1) := by decide +kernel
theorem dX1_moveIfFree_30 : decode cX1_moveIfFree 30 = .ok (.getfield 82, 3) := by decide +kernel
theorem dX1_moveIfFree_33 : decode cX1_moveIfFree 33 = .ok (.aload_n 1, 1) := by decide +kernel
theorem dX1_moveIfFree_34 : decode cX1_moveIfFree 34 = .ok (.getfield 85, 3) := by decide +kernel
theorem dX1_moveIfFree_37 : decode cX1_moveIfFree 37 = .ok (.iconst (-1), 1) := by decide +kernel
theorem dX1_moveIfFree_38 : decode cX1_moveIfFree 38 = .ok (.invokevirtual 107, 3) := by decide +kernel
theorem dX1_moveIfFree_41 : decode cX1_moveIfFree 41 = .ok (.aload_n 1, 1) := by decide +kernel
theorem dX1_moveIfFree_42 : decode cX1_moveIfFree 42 = .ok (.iload_n 3, 1) := by decide +kernel
theorem dX1_moveIfFree_43 : decode cX1_moveIfFree 43 = .ok (.putfield 85, 3) := by decide +kernel
theorem dX1_moveIfFree_46 : decode cX1_moveIfFree 46 = .ok (.aload_n 0, 1) := by decide +kernel
theorem dX1_moveIfFree_47 : decode cX1_moveIfFree 47 = .ok (.aload_n 1, 1) := by decide +kernel
theorem dX1_moveIfFree_48 : decode cX1_moveIfFree 48 = .ok (.getfield 82, 3) := by decide +kernel
theorem dX1_moveIfFree_51 : decode cX1_moveIfFree 51 = .ok (.iload_n 3, 1) := by decide +kernel
theorem dX1_moveIfFree_52 : decode cX1_moveIfFree 52 = .ok (.aload_n 1, 1) := by decide +kernel
theorem dX1_moveIfFree_53 : decode cX1_moveIfFree 53 = .ok (.getfield 147, 3) := by decide +kernel
theorem dX1_moveIfFree_56 : decode cX1_moveIfFree 56 = .ok (.invokevirtual 107, 3) := by decide +kernel
theorem dX1_moveIfFree_59 : decode cX1_moveIfFree 59 = .ok (.iconst 1, 1) := by decide +kernel
theorem dX1_moveIfFree_60 : decode cX1_moveIfFree 60 = .ok (.ireturn, 1) := by decide +kernel
theorem dX1_fight_0 : decode cX1_fight 0 = .ok (.aload_n 0, 1) := by decide +kernel
theorem dX1_fight_1 : decode cX1_fight 1 = .ok (.dup, 1) := by decide +kernel
theorem dX1_fight_2 : decode cX1_fight 2 = .ok (.getfield 28, 3) := by decide +kernel
theorem dX1_fight_5 : decode cX1_fight 5 = .ok (.iconst 1, 1) := by decide +kernel
theorem dX1_fight_6 : decode cX1_fight 6 = .ok (.iadd, 1) := by decide +kernel
theorem dX1_fight_7 : decode cX1_fight 7 = .ok (.putfield 28, 3) := by decide +kernel
theorem dX1_fight_10 : decode cX1_fight 10 = .ok (.aload_n 2, 1) := by decide +kernel
theorem dX1_fight_11 : decode cX1_fight 11 = .ok (.aload_n 1, 1) := by decide +kernel
theorem dX1_fight_12 : decode cX1_fight 12 = .ok (.iload_n 3, 1) := by decide +kernel
theorem dX1_fight_13 : decode cX1_fight 13 = .ok (.invokevirtual 150, 3) := by decide +kernel
theorem dX1_fight_16 : decode cX1_fight 16 = .ok (.iconst 2, 1) := by decide +kernel
theorem dX1_fight_17 : decode cX1_fight 17 = .ok (.aload_n 0, 1) := by decide +kernel
theorem dX1_fight_18 : decode cX1_fight 18 = .ok (.aload_n 1, 1) := by decide +kernel
theorem dX1_fight_19 : decode cX1_fight 19 = .ok (.invokevirtual 154, 3) := by decide +kernel
theorem dX1_fight_22 : decode cX1_fight 22 = .ok (.imul, 1) := by decide +kernel
theorem dX1_fight_23 : decode cX1_fight 23 = .ok (.iadd, 1) := by decide +kernel
theorem dX1_fight_24 : decode cX1_fight 24 = .ok (.invokevirtual 158, 3) := by decide +kernel
theorem dX1_fight_27 : decode cX1_fight 27 = .ok (.aload_n 2, 1) := by decide +kernel
theorem dX1_fight_28 : decode cX1_fight 28 = .ok (.getfield 95, 3) := by decide +kernel
theorem dX1_fight_31 : decode cX1_fight 31 = .ok (.ifCond .le 11, 3) := by decide +kernel
theorem dX1_fight_34 : decode cX1_fight 34 = .ok (.aload_n 1, 1) := by decide +kernel
theorem dX1_fight_35 : decode cX1_fight 35 = .ok (.aload_n 2, 1) := by decide +kernel
theorem dX1_fight_36 : decode cX1_fight 36 = .ok (.invokevirtual 161, 3) := by decide +kernel
theorem dX1_fight_39 : decode cX1_fight 39 = .ok (.invokevirtual 158, 3) := by decide +kernel
theorem dX1_fight_42 : decode cX1_fight 42 = .ok (.aload_n 0, 1) := by decide +kernel
theorem dX1_fight_43 : decode cX1_fight 43 = .ok (.aload_n 2, 1) := by decide +kernel
theorem dX1_fight_44 : decode cX1_fight 44 = .ok (.invokevirtual 164, 3) := by decide +kernel
theorem dX1_fight_47 : decode cX1_fight 47 = .ok (.aload_n 0, 1) := by decide +kernel
theorem dX1_fight_48 : decode cX1_fight 48 = .ok (.aload_n 1, 1) := by decide +kernel
theorem dX1_fight_49 : decode cX1_fight 49 = .ok (.invokevirtual 164, 3) := by decide +kernel
theorem dX1_fight_52 : decode cX1_fight 52 = .ok (.return_, 1) := by decide +kernel
theorem dX1_settle_0 : decode cX1_settle 0 = .ok (.aload_n 1, 1) := by decide +kernel
theorem dX1_settle_1 : decode cX1_settle 1 = .ok (.getfield 95, 3) := by decide +kernel
theorem dX1_settle_4 : decode cX1_settle 4 = .ok (.ifCond .ne 24, 3) := by decide +kernel
theorem dX1_settle_7 : decode cX1_settle 7 = .ok (.aload_n 1, 1) := by decide +kernel
theorem dX1_settle_8 : decode cX1_settle 8 = .ok (.iconst 2, 1) := by decide +kernel
theorem dX1_settle_9 : decode cX1_settle 9 = .ok (.putfield 101, 3) := by decide +kernel
theorem dX1_settle_12 : decode cX1_settle 12 = .ok (.aload_n 0, 1) := by decide +kernel
theorem dX1_settle_13 : decode cX1_settle 13 = .ok (.aload_n 1, 1) := by decide +kernel
theorem dX1_settle_14 : decode cX1_settle 14 = .ok (.getfield 82, 3) := by decide +kernel
theorem dX1_settle_17 : decode cX1_settle 17 = .ok (.aload_n 1, 1) := by decide +kernel
theorem dX1_settle_18 : decode cX1_settle 18 = .ok (.getfield 85, 3) := by decide +kernel
theorem dX1_settle_21 : decode cX1_settle 21 = .ok (.iconst (-1), 1) := by decide +kernel
theorem dX1_settle_22 : decode cX1_settle 22 = .ok (.invokevirtual 107, 3) := by decide +kernel
theorem dX1_settle_25 : decode cX1_settle 25 = .ok (.goto 23, 3) := by decide +kernel
theorem dX1_settle_28 : decode cX1_settle 28 = .ok (.aload_n 1, 1) := by decide +kernel
theorem dX1_settle_29 : decode cX1_settle 29 = .ok (.invokevirtual 113, 3) := by decide +kernel
theorem dX1_settle_32 : decode cX1_settle 32 = .ok (.ifCond .eq 16, 3) := by decide +kernel
theorem dX1_settle_35 : decode cX1_settle 35 = .ok (.aload_n 1, 1) := by decide +kernel
theorem dX1_settle_36 : decode cX1_settle 36 = .ok (.getfield 98, 3) := by decide +kernel
theorem dX1_settle_39 : decode cX1_settle 39 = .ok (.iconst 5, 1) := by decide +kernel
theorem dX1_settle_40 : decode cX1_settle 40 = .ok (.if_icmp .ge 8, 3) := by decide +kernel
theorem dX1_settle_43 : decode cX1_settle 43 = .ok (.aload_n 1, 1) := by decide +kernel
theorem dX1_settle_44 : decode cX1_settle 44 = .ok (.iconst 1, 1) := by decide +kernel
theorem dX1_settle_45 : decode cX1_settle 45 = .ok (.putfield 101, 3) := by decide +kernel
theorem dX1_settle_48 : decode cX1_settle 48 = .ok (.return_, 1) := by decide +kernel
theorem dX1_supportInCells_0 : decode cX1_supportInCells 0 = .ok (.iconst 0, 1) := by decide +kernel
theorem dX1_supportInCells_1 : decode cX1_supportInCells 1 = .ok (.istore_n 2, 1) := by decide +kernel
theorem dX1_supportInCells_2 : decode cX1_supportInCells 2 = .ok (.aload_n 1, 1) := by decide +kernel
theorem dX1_supportInCells_3 : decode cX1_supportInCells 3 = .ok (.getfield 82, 3) := by decide +kernel
theorem dX1_supportInCells_6 : decode cX1_supportInCells 6 = .ok (.iconst 1, 1) := by decide +kernel
theorem dX1_supportInCells_7 : decode cX1_supportInCells 7 = .ok (.isub, 1) := by decide +kernel
theorem dX1_supportInCells_8 : decode cX1_supportInCells 8 = .ok (.istore_n 3, 1) := by decide +kernel
theorem dX1_supportInCells_9 : decode cX1_supportInCells 9 = .ok (.iload_n 3, 1) := by decide +kernel
theorem dX1_supportInCells_10 : decode cX1_supportInCells 10 = .ok (.aload_n 1, 1) := by decide +kernel
theorem dX1_supportInCells_11 : decode cX1_supportInCells 11 = .ok (.getfield 82, 3) := by decide +kernel
theorem dX1_supportInCells_14 : decode cX1_supportInCells 14 = .ok (.iconst 1, 1) := by decide +kernel
theorem dX1_supportInCells_15 : decode cX1_supportInCells 15 = .ok (.iadd, 1) := by decide +kernel
theorem dX1_supportInCells_16 : decode cX1_supportInCells 16 = .ok (.if_icmp .gt 48, 3) := by decide +kernel
theorem dX1_supportInCells_19 : decode cX1_supportInCells 19 = .ok (.aload_n 0, 1) := by decide +kernel
theorem dX1_supportInCells_20 : decode cX1_supportInCells 20 = .ok (.iload_n 3, 1) := by decide +kernel
theorem dX1_supportInCells_21 : decode cX1_supportInCells 21 = .ok (.aload_n 1, 1) := by decide +kernel
theorem dX1_supportInCells_22 : decode cX1_supportInCells 22 = .ok (.getfield 85, 3) := by decide +kernel
theorem dX1_supportInCells_25 : decode cX1_supportInCells 25 = .ok (.invokevirtual 75, 3) := by decide +kernel
theorem dX1_supportInCells_28 : decode cX1_supportInCells 28 = .ok (.astore 4, 2) := by decide +kernel
theorem dX1_supportInCells_30 : decode cX1_supportInCells 30 = .ok (.aload 4, 2) := by decide +kernel
theorem dX1_supportInCells_32 : decode cX1_supportInCells 32 = .ok (.ifnull 26, 3) := by decide +kernel
theorem dX1_supportInCells_35 : decode cX1_supportInCells 35 = .ok (.aload 4, 2) := by decide +kernel
theorem dX1_supportInCells_37 : decode cX1_supportInCells 37 = .ok (.getfield 79, 3) := by decide +kernel
theorem dX1_supportInCells_40 : decode cX1_supportInCells 40 = .ok (.aload_n 1, 1) := by decide +kernel
theorem dX1_supportInCells_41 : decode cX1_supportInCells 41 = .ok (.getfield 79, 3) := by decide +kernel
theorem dX1_supportInCells_44 : decode cX1_supportInCells 44 = .ok (.if_icmp .ne 14, 3) := by decide +kernel
theorem dX1_supportInCells_47 : decode cX1_supportInCells 47 = .ok (.aload 4, 2) := by decide +kernel
theorem dX1_supportInCells_49 : decode cX1_supportInCells 49 = .ok (.invokevirtual 113, 3) := by decide +kernel
theorem dX1_supportInCells_52 : decode cX1_supportInCells 52 = .ok (.ifCond .eq 6, 3) := by decide +kernel
theorem dX1_supportInCells_55 : decode cX1_supportInCells 55 = .ok (.iinc 2 1, 3) := by decide +kernel
theorem dX1_supportInCells_58 : decode cX1_supportInCells 58 = .ok (.iinc 3 2, 3) := by decide +kernel
theorem dX1_supportInCells_61 : decode cX1_supportInCells 61 = .ok (.goto (-52), 3) := by decide +kernel
theorem dX1_supportInCells_64 : decode cX1_supportInCells 64 = .ok (.iload_n 2, 1) := by decide +kernel
theorem dX1_supportInCells_65 : decode cX1_supportInCells 65 = .ok (.ireturn, 1) := by decide +kernel
theorem dX1_supportAmongLines_0 : decode cX1_supportAmongLines 0 = .ok (.iconst 0, 1) := by decide +kernel
theorem dX1_supportAmongLines_1 : decode cX1_supportAmongLines 1 = .ok (.istore_n 2, 1) := by decide +kernel
theorem dX1_supportAmongLines_2 : decode cX1_supportAmongLines 2 = .ok (.iconst 0, 1) := by decide +kernel
theorem dX1_supportAmongLines_3 : decode cX1_supportAmongLines 3 = .ok (.istore_n 3, 1) := by decide +kernel
theorem dX1_supportAmongLines_4 : decode cX1_supportAmongLines 4 = .ok (.iload_n 3, 1) := by decide +kernel
theorem dX1_supportAmongLines_5 : decode cX1_supportAmongLines 5 = .ok (.aload_n 0, 1) := by decide +kernel
theorem dX1_supportAmongLines_6 : decode cX1_supportAmongLines 6 = .ok (.getfield 21, 3) := by decide +kernel
theorem dX1_supportAmongLines_9 : decode cX1_supportAmongLines 9 = .ok (.if_icmp .ge 73, 3) := by decide +kernel
theorem dX1_supportAmongLines_12 : decode cX1_supportAmongLines 12 = .ok (.aload_n 0, 1) := by decide +kernel
theorem dX1_supportAmongLines_13 : decode cX1_supportAmongLines 13 = .ok (.iload_n 3, 1) := by decide +kernel
theorem dX1_supportAmongLines_14 : decode cX1_supportAmongLines 14 = .ok (.invokevirtual 57, 3) := by decide +kernel
theorem dX1_supportAmongLines_17 : decode cX1_supportAmongLines 17 = .ok (.astore 4, 2) := by decide +kernel
theorem dX1_supportAmongLines_19 : decode cX1_supportAmongLines 19 = .ok (.aload 4, 2) := by decide +kernel
theorem dX1_supportAmongLines_21 : decode cX1_supportAmongLines 21 = .ok (.ifnull 55, 3) := by decide +kernel
theorem dX1_supportAmongLines_24 : decode cX1_supportAmongLines 24 = .ok (.aload 4, 2) := by decide +kernel
theorem dX1_supportAmongLines_26 : decode cX1_supportAmongLines 26 = .ok (.invokevirtual 113, 3) := by decide +kernel
theorem dX1_supportAmongLines_29 : decode cX1_supportAmongLines 29 = .ok (.ifCond .eq 47, 3) := by decide +kernel
theorem dX1_supportAmongLines_32 : decode cX1_supportAmongLines 32 = .ok (.aload 4, 2) := by decide +kernel
theorem dX1_supportAmongLines_34 : decode cX1_supportAmongLines 34 = .ok (.getfield 79, 3) := by decide +kernel
theorem dX1_supportAmongLines_37 : decode cX1_supportAmongLines 37 = .ok (.aload_n 1, 1) := by decide +kernel
theorem dX1_supportAmongLines_38 : decode cX1_supportAmongLines 38 = .ok (.getfield 79, 3) := by decide +kernel
theorem dX1_supportAmongLines_41 : decode cX1_supportAmongLines 41 = .ok (.if_icmp .ne 35, 3) := by decide +kernel
theorem dX1_supportAmongLines_44 : decode cX1_supportAmongLines 44 = .ok (.aload 4, 2) := by decide +kernel
theorem dX1_supportAmongLines_46 : decode cX1_supportAmongLines 46 = .ok (.getfield 85, 3) := by decide +kernel
theorem dX1_supportAmongLines_49 : decode cX1_supportAmongLines 49 = .ok (.aload_n 1, 1) := by decide +kernel
theorem dX1_supportAmongLines_50 : decode cX1_supportAmongLines 50 = .ok (.getfield 85, 3) := by decide +kernel
theorem dX1_supportAmongLines_53 : decode cX1_supportAmongLines 53 = .ok (.if_icmp .ne 23, 3) := by decide +kernel
theorem dX1_supportAmongLines_56 : decode cX1_supportAmongLines 56 = .ok (.aload 4, 2) := by decide +kernel
theorem dX1_supportAmongLines_58 : decode cX1_supportAmongLines 58 = .ok (.getfield 82, 3) := by decide +kernel
theorem dX1_supportAmongLines_61 : decode cX1_supportAmongLines 61 = .ok (.aload_n 1, 1) := by decide +kernel
theorem dX1_supportAmongLines_62 : decode cX1_supportAmongLines 62 = .ok (.getfield 82, 3) := by decide +kernel
theorem dX1_supportAmongLines_65 : decode cX1_supportAmongLines 65 = .ok (.isub, 1) := by decide +kernel
theorem dX1_supportAmongLines_66 : decode cX1_supportAmongLines 66 = .ok (.invokestatic 167, 3) := by decide +kernel
theorem dX1_supportAmongLines_69 : decode cX1_supportAmongLines 69 = .ok (.iconst 1, 1) := by decide +kernel
theorem dX1_supportAmongLines_70 : decode cX1_supportAmongLines 70 = .ok (.if_icmp .ne 6, 3) := by decide +kernel
theorem dX1_supportAmongLines_73 : decode cX1_supportAmongLines 73 = .ok (.iinc 2 1, 3) := by decide +kernel
theorem dX1_supportAmongLines_76 : decode cX1_supportAmongLines 76 = .ok (.iinc 3 1, 3) := by decide +kernel
theorem dX1_supportAmongLines_79 : decode cX1_supportAmongLines 79 = .ok (.goto (-75), 3) := by decide +kernel
theorem dX1_supportAmongLines_82 : decode cX1_supportAmongLines 82 = .ok (.iload_n 2, 1) := by decide +kernel
theorem dX1_supportAmongLines_83 : decode cX1_supportAmongLines 83 = .ok (.ireturn, 1) := by decide +kernel
theorem dX1_enemyInCells_0 : decode cX1_enemyInCells 0 = .ok (.iconst 1, 1) := by decide +kernel
theorem dX1_enemyInCells_1 : decode cX1_enemyInCells 1 = .ok (.istore_n 2, 1) := by decide +kernel
theorem dX1_enemyInCells_2 : decode cX1_enemyInCells 2 = .ok (.iload_n 2, 1) := by decide +kernel
theorem dX1_enemyInCells_3 : decode cX1_enemyInCells 3 = .ok (.bipush 10, 2) := by decide +kernel
theorem dX1_enemyInCells_5 : decode cX1_enemyInCells 5 = .ok (.if_icmp .ge 49, 3) := by decide +kernel
theorem dX1_enemyInCells_8 : decode cX1_enemyInCells 8 = .ok (.aload_n 0, 1) := by decide +kernel
theorem dX1_enemyInCells_9 : decode cX1_enemyInCells 9 = .ok (.aload_n 1, 1) := by decide +kernel
theorem dX1_enemyInCells_10 : decode cX1_enemyInCells 10 = .ok (.getfield 82, 3) := by decide +kernel
theorem dX1_enemyInCells_13 : decode cX1_enemyInCells 13 = .ok (.aload_n 1, 1) := by decide +kernel
theorem dX1_enemyInCells_14 : decode cX1_enemyInCells 14 = .ok (.getfield 85, 3) := by decide +kernel
theorem dX1_enemyInCells_17 : decode cX1_enemyInCells 17 = .ok (.iload_n 2, 1) := by decide +kernel
theorem dX1_enemyInCells_18 : decode cX1_enemyInCells 18 = .ok (.aload_n 1, 1) := by decide +kernel
theorem dX1_enemyInCells_19 : decode cX1_enemyInCells 19 = .ok (.invokevirtual 135, 3) := by decide +kernel
theorem dX1_enemyInCells_22 : decode cX1_enemyInCells 22 = .ok (.imul, 1) := by decide +kernel
theorem dX1_enemyInCells_23 : decode cX1_enemyInCells 23 = .ok (.iadd, 1) := by decide +kernel
theorem dX1_enemyInCells_24 : decode cX1_enemyInCells 24 = .ok (.invokevirtual 75, 3) := by decide +kernel
theorem dX1_enemyInCells_27 : decode cX1_enemyInCells 27 = .ok (.astore_n 3, 1) := by decide +kernel
theorem dX1_enemyInCells_28 : decode cX1_enemyInCells 28 = .ok (.aload_n 3, 1) := by decide +kernel
theorem dX1_enemyInCells_29 : decode cX1_enemyInCells 29 = .ok (.ifnull 19, 3) := by decide +kernel
theorem dX1_enemyInCells_32 : decode cX1_enemyInCells 32 = .ok (.aload_n 3, 1) := by decide +kernel
theorem dX1_enemyInCells_33 : decode cX1_enemyInCells 33 = .ok (.getfield 79, 3) := by decide +kernel
theorem dX1_enemyInCells_36 : decode cX1_enemyInCells 36 = .ok (.aload_n 1, 1) := by decide +kernel
theorem dX1_enemyInCells_37 : decode cX1_enemyInCells 37 = .ok (.getfield 79, 3) := by decide +kernel
theorem dX1_enemyInCells_40 : decode cX1_enemyInCells 40 = .ok (.if_icmp .eq 8, 3) := by decide +kernel
theorem dX1_enemyInCells_43 : decode cX1_enemyInCells 43 = .ok (.aload_n 3, 1) := by decide +kernel
theorem dX1_enemyInCells_44 : decode cX1_enemyInCells 44 = .ok (.getfield 147, 3) := by decide +kernel
theorem dX1_enemyInCells_47 : decode cX1_enemyInCells 47 = .ok (.ireturn, 1) := by decide +kernel
theorem dX1_enemyInCells_48 : decode cX1_enemyInCells 48 = .ok (.iinc 2 1, 3) := by decide +kernel
theorem dX1_enemyInCells_51 : decode cX1_enemyInCells 51 = .ok (.goto (-49), 3) := by decide +kernel
theorem dX1_enemyInCells_54 : decode cX1_enemyInCells 54 = .ok (.iconst (-1), 1) := by decide +kernel
theorem dX1_enemyInCells_55 : decode cX1_enemyInCells 55 = .ok (.ireturn, 1) := by decide +kernel
theorem dX1_enemyAmongLines_0 : decode cX1_enemyAmongLines 0 = .ok (.iconst (-1), 1) := by decide +kernel
theorem dX1_enemyAmongLines_1 : decode cX1_enemyAmongLines 1 = .ok (.istore_n 2, 1) := by decide +kernel
theorem dX1_enemyAmongLines_2 : decode cX1_enemyAmongLines 2 = .ok (.bipush 10, 2) := by decide +kernel
theorem dX1_enemyAmongLines_4 : decode cX1_enemyAmongLines 4 = .ok (.istore_n 3, 1) := by decide +kernel
theorem dX1_enemyAmongLines_5 : decode cX1_enemyAmongLines 5 = .ok (.iconst 0, 1) := by decide +kernel
theorem dX1_enemyAmongLines_6 : decode cX1_enemyAmongLines 6 = .ok (.istore 4, 2) := by decide +kernel
theorem dX1_enemyAmongLines_8 : decode cX1_enemyAmongLines 8 = .ok (.iload 4, 2) := by decide +kernel
theorem dX1_enemyAmongLines_10 : decode cX1_enemyAmongLines 10 = .ok (.aload_n 0, 1) := by decide +kernel
theorem dX1_enemyAmongLines_11 : decode cX1_enemyAmongLines 11 = .ok (.getfield 21, 3) := by decide +kernel
theorem dX1_enemyAmongLines_14 : decode cX1_enemyAmongLines 14 = .ok (.if_icmp .ge 88, 3) := by decide +kernel
theorem dX1_enemyAmongLines_17 : decode cX1_enemyAmongLines 17 = .ok (.aload_n 0, 1) := by decide +kernel
theorem dX1_enemyAmongLines_18 : decode cX1_enemyAmongLines 18 = .ok (.iload 4, 2) := by decide +kernel
theorem dX1_enemyAmongLines_20 : decode cX1_enemyAmongLines 20 = .ok (.invokevirtual 57, 3) := by decide +kernel
theorem dX1_enemyAmongLines_23 : decode cX1_enemyAmongLines 23 = .ok (.astore 5, 2) := by decide +kernel
theorem dX1_enemyAmongLines_25 : decode cX1_enemyAmongLines 25 = .ok (.aload 5, 2) := by decide +kernel
theorem dX1_enemyAmongLines_27 : decode cX1_enemyAmongLines 27 = .ok (.ifnull 69, 3) := by decide +kernel
theorem dX1_enemyAmongLines_30 : decode cX1_enemyAmongLines 30 = .ok (.aload 5, 2) := by decide +kernel
theorem dX1_enemyAmongLines_32 : decode cX1_enemyAmongLines 32 = .ok (.invokevirtual 172, 3) := by decide +kernel
theorem dX1_enemyAmongLines_35 : decode cX1_enemyAmongLines 35 = .ok (.ifCond .ne 61, 3) := by decide +kernel
theorem dX1_enemyAmongLines_38 : decode cX1_enemyAmongLines 38 = .ok (.aload 5, 2) := by decide +kernel
theorem dX1_enemyAmongLines_40 : decode cX1_enemyAmongLines 40 = .ok (.getfield 79, 3) := by decide +kernel
theorem dX1_enemyAmongLines_43 : decode cX1_enemyAmongLines 43 = .ok (.aload_n 1, 1) := by decide +kernel
theorem dX1_enemyAmongLines_44 : decode cX1_enemyAmongLines 44 = .ok (.getfield 79, 3) := by decide +kernel
theorem dX1_enemyAmongLines_47 : decode cX1_enemyAmongLines 47 = .ok (.if_icmp .eq 49, 3) := by decide +kernel
theorem dX1_enemyAmongLines_50 : decode cX1_enemyAmongLines 50 = .ok (.aload 5, 2) := by decide +kernel
theorem dX1_enemyAmongLines_52 : decode cX1_enemyAmongLines 52 = .ok (.getfield 82, 3) := by decide +kernel
theorem dX1_enemyAmongLines_55 : decode cX1_enemyAmongLines 55 = .ok (.aload_n 1, 1) := by decide +kernel
theorem dX1_enemyAmongLines_56 : decode cX1_enemyAmongLines 56 = .ok (.getfield 82, 3) := by decide +kernel
theorem dX1_enemyAmongLines_59 : decode cX1_enemyAmongLines 59 = .ok (.if_icmp .ne 37, 3) := by decide +kernel
theorem dX1_enemyAmongLines_62 : decode cX1_enemyAmongLines 62 = .ok (.aload 5, 2) := by decide +kernel
theorem dX1_enemyAmongLines_64 : decode cX1_enemyAmongLines 64 = .ok (.getfield 85, 3) := by decide +kernel
theorem dX1_enemyAmongLines_67 : decode cX1_enemyAmongLines 67 = .ok (.aload_n 1, 1) := by decide +kernel
theorem dX1_enemyAmongLines_68 : decode cX1_enemyAmongLines 68 = .ok (.getfield 85, 3) := by decide +kernel
theorem dX1_enemyAmongLines_71 : decode cX1_enemyAmongLines 71 = .ok (.isub, 1) := by decide +kernel
theorem dX1_enemyAmongLines_72 : decode cX1_enemyAmongLines 72 = .ok (.aload_n 1, 1) := by decide +kernel
theorem dX1_enemyAmongLines_73 : decode cX1_enemyAmongLines 73 = .ok (.invokevirtual 135, 3) := by decide +kernel
theorem dX1_enemyAmongLines_76 : decode cX1_enemyAmongLines 76 = .ok (.imul, 1) := by decide +kernel
theorem dX1_enemyAmongLines_77 : decode cX1_enemyAmongLines 77 = .ok (.istore 6, 2) := by decide +kernel
theorem dX1_enemyAmongLines_79 : decode cX1_enemyAmongLines 79 = .ok (.iload 6, 2) := by decide +kernel
theorem dX1_enemyAmongLines_81 : decode cX1_enemyAmongLines 81 = .ok (.ifCond .le 15, 3) := by decide +kernel
theorem dX1_enemyAmongLines_84 : decode cX1_enemyAmongLines 84 = .ok (.iload 6, 2) := by decide +kernel
theorem dX1_enemyAmongLines_86 : decode cX1_enemyAmongLines 86 = .ok (.iload_n 3, 1) := by decide +kernel
theorem dX1_enemyAmongLines_87 : decode cX1_enemyAmongLines 87 = .ok (.if_icmp .ge 9, 3) := by decide +kernel
theorem dX1_enemyAmongLines_90 : decode cX1_enemyAmongLines 90 = .ok (.iload 4, 2) := by decide +kernel
theorem dX1_enemyAmongLines_92 : decode cX1_enemyAmongLines 92 = .ok (.istore_n 2, 1) := by decide +kernel
theorem dX1_enemyAmongLines_93 : decode cX1_enemyAmongLines 93 = .ok (.iload 6, 2) := by decide +kernel
theorem dX1_enemyAmongLines_95 : decode cX1_enemyAmongLines 95 = .ok (.istore_n 3, 1) := by decide +kernel
theorem dX1_enemyAmongLines_96 : decode cX1_enemyAmongLines 96 = .ok (.iinc 4 1, 3) := by decide +kernel
theorem dX1_enemyAmongLines_99 : decode cX1_enemyAmongLines 99 = .ok (.goto (-91), 3) := by decide +kernel
theorem dX1_enemyAmongLines_102 : decode cX1_enemyAmongLines 102 = .ok (.iload_n 2, 1) := by decide +kernel
theorem dX1_enemyAmongLines_103 : decode cX1_enemyAmongLines 103 = .ok (.ireturn, 1) := by decide +kernel
theorem dX1_strengthAmongLines_0 : decode cX1_strengthAmongLines 0 = .ok (.iconst 0, 1) := by decide +kernel
theorem dX1_strengthAmongLines_1 : decode cX1_strengthAmongLines 1 = .ok (.istore_n 2, 1) := by decide +kernel
theorem dX1_strengthAmongLines_2 : decode cX1_strengthAmongLines 2 = .ok (.iconst 0, 1) := by decide +kernel
theorem dX1_strengthAmongLines_3 : decode cX1_strengthAmongLines 3 = .ok (.istore_n 3, 1) := by decide +kernel
theorem dX1_strengthAmongLines_4 : decode cX1_strengthAmongLines 4 = .ok (.iload_n 3, 1) := by decide +kernel
theorem dX1_strengthAmongLines_5 : decode cX1_strengthAmongLines 5 = .ok (.aload_n 0, 1) := by decide +kernel
theorem dX1_strengthAmongLines_6 : decode cX1_strengthAmongLines 6 = .ok (.getfield 21, 3) := by decide +kernel
theorem dX1_strengthAmongLines_9 : decode cX1_strengthAmongLines 9 = .ok (.if_icmp .ge 38, 3) := by decide +kernel
theorem dX1_strengthAmongLines_12 : decode cX1_strengthAmongLines 12 = .ok (.aload_n 0, 1) := by decide +kernel
theorem dX1_strengthAmongLines_13 : decode cX1_strengthAmongLines 13 = .ok (.iload_n 3, 1) := by decide +kernel
theorem dX1_strengthAmongLines_14 : decode cX1_strengthAmongLines 14 = .ok (.invokevirtual 57, 3) := by decide +kernel
theorem dX1_strengthAmongLines_17 : decode cX1_strengthAmongLines 17 = .ok (.astore 4, 2) := by decide +kernel
theorem dX1_strengthAmongLines_19 : decode cX1_strengthAmongLines 19 = .ok (.aload 4, 2) := by decide +kernel
theorem dX1_strengthAmongLines_21 : decode cX1_strengthAmongLines 21 = .ok (.ifnull 20, 3) := by decide +kernel
theorem dX1_strengthAmongLines_24 : decode cX1_strengthAmongLines 24 = .ok (.aload 4, 2) := by decide +kernel
theorem dX1_strengthAmongLines_26 : decode cX1_strengthAmongLines 26 = .ok (.getfield 79, 3) := by decide +kernel
theorem dX1_strengthAmongLines_29 : decode cX1_strengthAmongLines 29 = .ok (.iload_n 1, 1) := by decide +kernel
theorem dX1_strengthAmongLines_30 : decode cX1_strengthAmongLines 30 = .ok (.if_icmp .ne 11, 3) := by decide +kernel
theorem dX1_strengthAmongLines_33 : decode cX1_strengthAmongLines 33 = .ok (.iload_n 2, 1) := by decide +kernel
theorem dX1_strengthAmongLines_34 : decode cX1_strengthAmongLines 34 = .ok (.aload 4, 2) := by decide +kernel
theorem dX1_strengthAmongLines_36 : decode cX1_strengthAmongLines 36 = .ok (.getfield 95, 3) := by decide +kernel
theorem dX1_strengthAmongLines_39 : decode cX1_strengthAmongLines 39 = .ok (.iadd, 1) := by decide +kernel
theorem dX1_strengthAmongLines_40 : decode cX1_strengthAmongLines 40 = .ok (.istore_n 2, 1) := by decide +kernel
theorem dX1_strengthAmongLines_41 : decode cX1_strengthAmongLines 41 = .ok (.iinc 3 1, 3) := by decide +kernel
theorem dX1_strengthAmongLines_44 : decode cX1_strengthAmongLines 44 = .ok (.goto (-40), 3) := by decide +kernel
theorem dX1_strengthAmongLines_47 : decode cX1_strengthAmongLines 47 = .ok (.iload_n 2, 1) := by decide +kernel
theorem dX1_strengthAmongLines_48 : decode cX1_strengthAmongLines 48 = .ok (.ireturn, 1) := by decide +kernel
theorem dX1_strengthInCells_0 : decode cX1_strengthInCells 0 = .ok (.iconst 0, 1) := by decide +kernel
theorem dX1_strengthInCells_1 : decode cX1_strengthInCells 1 = .ok (.istore_n 2, 1) := by decide +kernel
theorem dX1_strengthInCells_2 : decode cX1_strengthInCells 2 = .ok (.iconst 0, 1) := by decide +kernel
theorem dX1_strengthInCells_3 : decode cX1_strengthInCells 3 = .ok (.istore_n 3, 1) := by decide +kernel
theorem dX1_strengthInCells_4 : decode cX1_strengthInCells 4 = .ok (.iload_n 3, 1) := by decide +kernel
theorem dX1_strengthInCells_5 : decode cX1_strengthInCells 5 = .ok (.iconst 3, 1) := by decide +kernel
theorem dX1_strengthInCells_6 : decode cX1_strengthInCells 6 = .ok (.if_icmp .ge 56, 3) := by decide +kernel
theorem dX1_strengthInCells_9 : decode cX1_strengthInCells 9 = .ok (.iconst 0, 1) := by decide +kernel
theorem dX1_strengthInCells_10 : decode cX1_strengthInCells 10 = .ok (.istore 4, 2) := by decide +kernel
theorem dX1_strengthInCells_12 : decode cX1_strengthInCells 12 = .ok (.iload 4, 2) := by decide +kernel
theorem dX1_strengthInCells_14 : decode cX1_strengthInCells 14 = .ok (.bipush 10, 2) := by decide +kernel
theorem dX1_strengthInCells_16 : decode cX1_strengthInCells 16 = .ok (.if_icmp .ge 40, 3) := by decide +kernel
theorem dX1_strengthInCells_19 : decode cX1_strengthInCells 19 = .ok (.aload_n 0, 1) := by decide +kernel
theorem dX1_strengthInCells_20 : decode cX1_strengthInCells 20 = .ok (.iload_n 3, 1) := by decide +kernel
theorem dX1_strengthInCells_21 : decode cX1_strengthInCells 21 = .ok (.iload 4, 2) := by decide +kernel
theorem dX1_strengthInCells_23 : decode cX1_strengthInCells 23 = .ok (.invokevirtual 75, 3) := by decide +kernel
theorem dX1_strengthInCells_26 : decode cX1_strengthInCells 26 = .ok (.astore 5, 2) := by decide +kernel
theorem dX1_strengthInCells_28 : decode cX1_strengthInCells 28 = .ok (.aload 5, 2) := by decide +kernel
theorem dX1_strengthInCells_30 : decode cX1_strengthInCells 30 = .ok (.ifnull 20, 3) := by decide +kernel
theorem dX1_strengthInCells_33 : decode cX1_strengthInCells 33 = .ok (.aload 5, 2) := by decide +kernel
theorem dX1_strengthInCells_35 : decode cX1_strengthInCells 35 = .ok (.getfield 79, 3) := by decide +kernel
theorem dX1_strengthInCells_38 : decode cX1_strengthInCells 38 = .ok (.iload_n 1, 1) := by decide +kernel
theorem dX1_strengthInCells_39 : decode cX1_strengthInCells 39 = .ok (.if_icmp .ne 11, 3) := by decide +kernel
theorem dX1_strengthInCells_42 : decode cX1_strengthInCells 42 = .ok (.iload_n 2, 1) := by decide +kernel
theorem dX1_strengthInCells_43 : decode cX1_strengthInCells 43 = .ok (.aload 5, 2) := by decide +kernel
theorem dX1_strengthInCells_45 : decode cX1_strengthInCells 45 = .ok (.getfield 95, 3) := by decide +kernel
theorem dX1_strengthInCells_48 : decode cX1_strengthInCells 48 = .ok (.iadd, 1) := by decide +kernel
theorem dX1_strengthInCells_49 : decode cX1_strengthInCells 49 = .ok (.istore_n 2, 1) := by decide +kernel
theorem dX1_strengthInCells_50 : decode cX1_strengthInCells 50 = .ok (.iinc 4 1, 3) := by decide +kernel
theorem dX1_strengthInCells_53 : decode cX1_strengthInCells 53 = .ok (.goto (-41), 3) := by decide +kernel
theorem dX1_strengthInCells_56 : decode cX1_strengthInCells 56 = .ok (.iinc 3 1, 3) := by decide +kernel
theorem dX1_strengthInCells_59 : decode cX1_strengthInCells 59 = .ok (.goto (-55), 3) := by decide +kernel
theorem dX1_strengthInCells_62 : decode cX1_strengthInCells 62 = .ok (.iload_n 2, 1) := by decide +kernel
theorem dX1_strengthInCells_63 : decode cX1_strengthInCells 63 = .ok (.ireturn, 1) := by decide +kernel
theorem dX1_fallen_0 : decode cX1_fallen 0 = .ok (.iconst 0, 1) := by decide +kernel
theorem dX1_fallen_1 : decode cX1_fallen 1 = .ok (.istore_n 2, 1) := by decide +kernel
theorem dX1_fallen_2 : decode cX1_fallen 2 = .ok (.iconst 0, 1) := by decide +kernel
theorem dX1_fallen_3 : decode cX1_fallen 3 = .ok (.istore_n 3, 1) := by decide +kernel
theorem dX1_fallen_4 : decode cX1_fallen 4 = .ok (.iload_n 3, 1) := by decide +kernel
theorem dX1_fallen_5 : decode cX1_fallen 5 = .ok (.aload_n 0, 1) := by decide +kernel
theorem dX1_fallen_6 : decode cX1_fallen 6 = .ok (.getfield 21, 3) := by decide +kernel
theorem dX1_fallen_9 : decode cX1_fallen 9 = .ok (.if_icmp .ge 41, 3) := by decide +kernel
theorem dX1_fallen_12 : decode cX1_fallen 12 = .ok (.aload_n 0, 1) := by decide +kernel
theorem dX1_fallen_13 : decode cX1_fallen 13 = .ok (.iload_n 3, 1) := by decide +kernel
theorem dX1_fallen_14 : decode cX1_fallen 14 = .ok (.invokevirtual 57, 3) := by decide +kernel
theorem dX1_fallen_17 : decode cX1_fallen 17 = .ok (.astore 4, 2) := by decide +kernel
theorem dX1_fallen_19 : decode cX1_fallen 19 = .ok (.aload 4, 2) := by decide +kernel
theorem dX1_fallen_21 : decode cX1_fallen 21 = .ok (.ifnull 23, 3) := by decide +kernel
theorem dX1_fallen_24 : decode cX1_fallen 24 = .ok (.aload 4, 2) := by decide +kernel
theorem dX1_fallen_26 : decode cX1_fallen 26 = .ok (.getfield 79, 3) := by decide +kernel
theorem dX1_fallen_29 : decode cX1_fallen 29 = .ok (.iload_n 1, 1) := by decide +kernel
theorem dX1_fallen_30 : decode cX1_fallen 30 = .ok (.if_icmp .ne 14, 3) := by decide +kernel
theorem dX1_fallen_33 : decode cX1_fallen 33 = .ok (.aload 4, 2) := by decide +kernel
theorem dX1_fallen_35 : decode cX1_fallen 35 = .ok (.invokevirtual 172, 3) := by decide +kernel
theorem dX1_fallen_38 : decode cX1_fallen 38 = .ok (.ifCond .eq 6, 3) := by decide +kernel
theorem dX1_fallen_41 : decode cX1_fallen 41 = .ok (.iinc 2 1, 3) := by decide +kernel
theorem dX1_fallen_44 : decode cX1_fallen 44 = .ok (.iinc 3 1, 3) := by decide +kernel
theorem dX1_fallen_47 : decode cX1_fallen 47 = .ok (.goto (-43), 3) := by decide +kernel
theorem dX1_fallen_50 : decode cX1_fallen 50 = .ok (.iload_n 2, 1) := by decide +kernel
theorem dX1_fallen_51 : decode cX1_fallen 51 = .ok (.ireturn, 1) := by decide +kernel
theorem dX1_front_0 : decode cX1_front 0 = .ok (.iconst (-1), 1) := by decide +kernel
theorem dX1_front_1 : decode cX1_front 1 = .ok (.istore_n 3, 1) := by decide +kernel
theorem dX1_front_2 : decode cX1_front 2 = .ok (.iconst 0, 1) := by decide +kernel
theorem dX1_front_3 : decode cX1_front 3 = .ok (.istore 4, 2) := by decide +kernel
theorem dX1_front_5 : decode cX1_front 5 = .ok (.iload 4, 2) := by decide +kernel
theorem dX1_front_7 : decode cX1_front 7 = .ok (.bipush 10, 2) := by decide +kernel
theorem dX1_front_9 : decode cX1_front 9 = .ok (.if_icmp .ge 51, 3) := by decide +kernel
theorem dX1_front_12 : decode cX1_front 12 = .ok (.iload_n 1, 1) := by decide +kernel
theorem dX1_front_13 : decode cX1_front 13 = .ok (.ifCond .ne 8, 3) := by decide +kernel
theorem dX1_front_16 : decode cX1_front 16 = .ok (.iload 4, 2) := by decide +kernel
theorem dX1_front_18 : decode cX1_front 18 = .ok (.goto 8, 3) := by decide +kernel
theorem dX1_front_21 : decode cX1_front 21 = .ok (.bipush 9, 2) := by decide +kernel
theorem dX1_front_23 : decode cX1_front 23 = .ok (.iload 4, 2) := by decide +kernel
theorem dX1_front_25 : decode cX1_front 25 = .ok (.isub, 1) := by decide +kernel
theorem dX1_front_26 : decode cX1_front 26 = .ok (.istore 5, 2) := by decide +kernel
theorem dX1_front_28 : decode cX1_front 28 = .ok (.aload_n 0, 1) := by decide +kernel
theorem dX1_front_29 : decode cX1_front 29 = .ok (.iload_n 2, 1) := by decide +kernel
theorem dX1_front_30 : decode cX1_front 30 = .ok (.iload 5, 2) := by decide +kernel
theorem dX1_front_32 : decode cX1_front 32 = .ok (.invokevirtual 75, 3) := by decide +kernel
theorem dX1_front_35 : decode cX1_front 35 = .ok (.astore 6, 2) := by decide +kernel
theorem dX1_front_37 : decode cX1_front 37 = .ok (.aload 6, 2) := by decide +kernel
theorem dX1_front_39 : decode cX1_front 39 = .ok (.ifnull 15, 3) := by decide +kernel
theorem dX1_front_42 : decode cX1_front 42 = .ok (.aload 6, 2) := by decide +kernel
theorem dX1_front_44 : decode cX1_front 44 = .ok (.getfield 79, 3) := by decide +kernel
theorem dX1_front_47 : decode cX1_front 47 = .ok (.iload_n 1, 1) := by decide +kernel
theorem dX1_front_48 : decode cX1_front 48 = .ok (.if_icmp .ne 6, 3) := by decide +kernel
theorem dX1_front_51 : decode cX1_front 51 = .ok (.iload 5, 2) := by decide +kernel
theorem dX1_front_53 : decode cX1_front 53 = .ok (.istore_n 3, 1) := by decide +kernel
theorem dX1_front_54 : decode cX1_front 54 = .ok (.iinc 4 1, 3) := by decide +kernel
theorem dX1_front_57 : decode cX1_front 57 = .ok (.goto (-52), 3) := by decide +kernel
theorem dX1_front_60 : decode cX1_front 60 = .ok (.iload_n 3, 1) := by decide +kernel
theorem dX1_front_61 : decode cX1_front 61 = .ok (.ireturn, 1) := by decide +kernel
theorem dX1_lineOfRank_0 : decode cX1_lineOfRank 0 = .ok (.iconst 0, 1) := by decide +kernel
theorem dX1_lineOfRank_1 : decode cX1_lineOfRank 1 = .ok (.istore_n 2, 1) := by decide +kernel
theorem dX1_lineOfRank_2 : decode cX1_lineOfRank 2 = .ok (.iload_n 2, 1) := by decide +kernel
theorem dX1_lineOfRank_3 : decode cX1_lineOfRank 3 = .ok (.aload_n 0, 1) := by decide +kernel
theorem dX1_lineOfRank_4 : decode cX1_lineOfRank 4 = .ok (.getfield 21, 3) := by decide +kernel
theorem dX1_lineOfRank_7 : decode cX1_lineOfRank 7 = .ok (.if_icmp .ge 30, 3) := by decide +kernel
theorem dX1_lineOfRank_10 : decode cX1_lineOfRank 10 = .ok (.aload_n 0, 1) := by decide +kernel
theorem dX1_lineOfRank_11 : decode cX1_lineOfRank 11 = .ok (.iload_n 2, 1) := by decide +kernel
theorem dX1_lineOfRank_12 : decode cX1_lineOfRank 12 = .ok (.invokevirtual 57, 3) := by decide +kernel
theorem dX1_lineOfRank_15 : decode cX1_lineOfRank 15 = .ok (.astore_n 3, 1) := by decide +kernel
theorem dX1_lineOfRank_16 : decode cX1_lineOfRank 16 = .ok (.aload_n 3, 1) := by decide +kernel
theorem dX1_lineOfRank_17 : decode cX1_lineOfRank 17 = .ok (.ifnull 14, 3) := by decide +kernel
theorem dX1_lineOfRank_20 : decode cX1_lineOfRank 20 = .ok (.aload_n 0, 1) := by decide +kernel
theorem dX1_lineOfRank_21 : decode cX1_lineOfRank 21 = .ok (.aload_n 3, 1) := by decide +kernel
theorem dX1_lineOfRank_22 : decode cX1_lineOfRank 22 = .ok (.invokevirtual 175, 3) := by decide +kernel
theorem dX1_lineOfRank_25 : decode cX1_lineOfRank 25 = .ok (.iload_n 1, 1) := by decide +kernel
theorem dX1_lineOfRank_26 : decode cX1_lineOfRank 26 = .ok (.if_icmp .ne 5, 3) := by decide +kernel
theorem dX1_lineOfRank_29 : decode cX1_lineOfRank 29 = .ok (.iload_n 2, 1) := by decide +kernel
theorem dX1_lineOfRank_30 : decode cX1_lineOfRank 30 = .ok (.ireturn, 1) := by decide +kernel
theorem dX1_lineOfRank_31 : decode cX1_lineOfRank 31 = .ok (.iinc 2 1, 3) := by decide +kernel
theorem dX1_lineOfRank_34 : decode cX1_lineOfRank 34 = .ok (.goto (-32), 3) := by decide +kernel
theorem dX1_lineOfRank_37 : decode cX1_lineOfRank 37 = .ok (.iconst (-1), 1) := by decide +kernel
theorem dX1_lineOfRank_38 : decode cX1_lineOfRank 38 = .ok (.ireturn, 1) := by decide +kernel
theorem dX1_strongerThan_0 : decode cX1_strongerThan 0 = .ok (.iconst 0, 1) := by decide +kernel
theorem dX1_strongerThan_1 : decode cX1_strongerThan 1 = .ok (.istore_n 2, 1) := by decide +kernel
theorem dX1_strongerThan_2 : decode cX1_strongerThan 2 = .ok (.iconst 0, 1) := by decide +kernel
theorem dX1_strongerThan_3 : decode cX1_strongerThan 3 = .ok (.istore_n 3, 1) := by decide +kernel
theorem dX1_strongerThan_4 : decode cX1_strongerThan 4 = .ok (.iload_n 3, 1) := by decide +kernel
theorem dX1_strongerThan_5 : decode cX1_strongerThan 5 = .ok (.aload_n 0, 1) := by decide +kernel
theorem dX1_strongerThan_6 : decode cX1_strongerThan 6 = .ok (.getfield 21, 3) := by decide +kernel
theorem dX1_strongerThan_9 : decode cX1_strongerThan 9 = .ok (.if_icmp .ge 56, 3) := by decide +kernel
theorem dX1_strongerThan_12 : decode cX1_strongerThan 12 = .ok (.aload_n 0, 1) := by decide +kernel
theorem dX1_strongerThan_13 : decode cX1_strongerThan 13 = .ok (.iload_n 3, 1) := by decide +kernel
theorem dX1_strongerThan_14 : decode cX1_strongerThan 14 = .ok (.invokevirtual 57, 3) := by decide +kernel
theorem dX1_strongerThan_17 : decode cX1_strongerThan 17 = .ok (.astore 4, 2) := by decide +kernel
theorem dX1_strongerThan_19 : decode cX1_strongerThan 19 = .ok (.aload 4, 2) := by decide +kernel
theorem dX1_strongerThan_21 : decode cX1_strongerThan 21 = .ok (.ifnull 38, 3) := by decide +kernel
theorem dX1_strongerThan_24 : decode cX1_strongerThan 24 = .ok (.aload 4, 2) := by decide +kernel
theorem dX1_strongerThan_26 : decode cX1_strongerThan 26 = .ok (.getfield 95, 3) := by decide +kernel
theorem dX1_strongerThan_29 : decode cX1_strongerThan 29 = .ok (.aload_n 1, 1) := by decide +kernel
theorem dX1_strongerThan_30 : decode cX1_strongerThan 30 = .ok (.getfield 95, 3) := by decide +kernel
theorem dX1_strongerThan_33 : decode cX1_strongerThan 33 = .ok (.if_icmp .gt 23, 3) := by decide +kernel
theorem dX1_strongerThan_36 : decode cX1_strongerThan 36 = .ok (.aload 4, 2) := by decide +kernel
theorem dX1_strongerThan_38 : decode cX1_strongerThan 38 = .ok (.getfield 95, 3) := by decide +kernel
theorem dX1_strongerThan_41 : decode cX1_strongerThan 41 = .ok (.aload_n 1, 1) := by decide +kernel
theorem dX1_strongerThan_42 : decode cX1_strongerThan 42 = .ok (.getfield 95, 3) := by decide +kernel
theorem dX1_strongerThan_45 : decode cX1_strongerThan 45 = .ok (.if_icmp .ne 14, 3) := by decide +kernel
theorem dX1_strongerThan_48 : decode cX1_strongerThan 48 = .ok (.iload_n 3, 1) := by decide +kernel
theorem dX1_strongerThan_49 : decode cX1_strongerThan 49 = .ok (.aload_n 1, 1) := by decide +kernel
theorem dX1_strongerThan_50 : decode cX1_strongerThan 50 = .ok (.getfield 147, 3) := by decide +kernel
theorem dX1_strongerThan_53 : decode cX1_strongerThan 53 = .ok (.if_icmp .ge 6, 3) := by decide +kernel
theorem dX1_strongerThan_56 : decode cX1_strongerThan 56 = .ok (.iinc 2 1, 3) := by decide +kernel
theorem dX1_strongerThan_59 : decode cX1_strongerThan 59 = .ok (.iinc 3 1, 3) := by decide +kernel
theorem dX1_strongerThan_62 : decode cX1_strongerThan 62 = .ok (.goto (-58), 3) := by decide +kernel
theorem dX1_strongerThan_65 : decode cX1_strongerThan 65 = .ok (.iload_n 2, 1) := by decide +kernel
theorem dX1_strongerThan_66 : decode cX1_strongerThan 66 = .ok (.ireturn, 1) := by decide +kernel
theorem dX1_unfallenCount_0 : decode cX1_unfallenCount 0 = .ok (.aload_n 0, 1) := by decide +kernel
theorem dX1_unfallenCount_1 : decode cX1_unfallenCount 1 = .ok (.getfield 21, 3) := by decide +kernel
theorem dX1_unfallenCount_4 : decode cX1_unfallenCount 4 = .ok (.aload_n 0, 1) := by decide +kernel
theorem dX1_unfallenCount_5 : decode cX1_unfallenCount 5 = .ok (.iconst 0, 1) := by decide +kernel
theorem dX1_unfallenCount_6 : decode cX1_unfallenCount 6 = .ok (.invokevirtual 178, 3) := by decide +kernel
theorem dX1_unfallenCount_9 : decode cX1_unfallenCount 9 = .ok (.isub, 1) := by decide +kernel
theorem dX1_unfallenCount_10 : decode cX1_unfallenCount 10 = .ok (.aload_n 0, 1) := by decide +kernel
theorem dX1_unfallenCount_11 : decode cX1_unfallenCount 11 = .ok (.iconst 1, 1) := by decide +kernel
theorem dX1_unfallenCount_12 : decode cX1_unfallenCount 12 = .ok (.invokevirtual 178, 3) := by decide +kernel
theorem dX1_unfallenCount_15 : decode cX1_unfallenCount 15 = .ok (.isub, 1) := by decide +kernel
theorem dX1_unfallenCount_16 : decode cX1_unfallenCount 16 = .ok (.ireturn, 1) := by decide +kernel
theorem dX1_moraleSum_0 : decode cX1_moraleSum 0 = .ok (.iconst 0, 1) := by decide +kernel
theorem dX1_moraleSum_1 : decode cX1_moraleSum 1 = .ok (.istore_n 1, 1) := by decide +kernel
theorem dX1_moraleSum_2 : decode cX1_moraleSum 2 = .ok (.iconst 0, 1) := by decide +kernel
theorem dX1_moraleSum_3 : decode cX1_moraleSum 3 = .ok (.istore_n 2, 1) := by decide +kernel
theorem dX1_moraleSum_4 : decode cX1_moraleSum 4 = .ok (.iload_n 2, 1) := by decide +kernel
theorem dX1_moraleSum_5 : decode cX1_moraleSum 5 = .ok (.aload_n 0, 1) := by decide +kernel
theorem dX1_moraleSum_6 : decode cX1_moraleSum 6 = .ok (.getfield 21, 3) := by decide +kernel
theorem dX1_moraleSum_9 : decode cX1_moraleSum 9 = .ok (.if_icmp .ge 33, 3) := by decide +kernel
theorem dX1_moraleSum_12 : decode cX1_moraleSum 12 = .ok (.aload_n 0, 1) := by decide +kernel
theorem dX1_moraleSum_13 : decode cX1_moraleSum 13 = .ok (.iload_n 2, 1) := by decide +kernel
theorem dX1_moraleSum_14 : decode cX1_moraleSum 14 = .ok (.invokevirtual 57, 3) := by decide +kernel
theorem dX1_moraleSum_17 : decode cX1_moraleSum 17 = .ok (.astore_n 3, 1) := by decide +kernel
theorem dX1_moraleSum_18 : decode cX1_moraleSum 18 = .ok (.aload_n 3, 1) := by decide +kernel
theorem dX1_moraleSum_19 : decode cX1_moraleSum 19 = .ok (.ifnull 17, 3) := by decide +kernel
theorem dX1_moraleSum_22 : decode cX1_moraleSum 22 = .ok (.aload_n 3, 1) := by decide +kernel
theorem dX1_moraleSum_23 : decode cX1_moraleSum 23 = .ok (.invokevirtual 172, 3) := by decide +kernel
theorem dX1_moraleSum_26 : decode cX1_moraleSum 26 = .ok (.ifCond .ne 10, 3) := by decide +kernel
theorem dX1_moraleSum_29 : decode cX1_moraleSum 29 = .ok (.iload_n 1, 1) := by decide +kernel
theorem dX1_moraleSum_30 : decode cX1_moraleSum 30 = .ok (.aload_n 3, 1) := by decide +kernel
theorem dX1_moraleSum_31 : decode cX1_moraleSum 31 = .ok (.getfield 98, 3) := by decide +kernel
theorem dX1_moraleSum_34 : decode cX1_moraleSum 34 = .ok (.iadd, 1) := by decide +kernel
theorem dX1_moraleSum_35 : decode cX1_moraleSum 35 = .ok (.istore_n 1, 1) := by decide +kernel
theorem dX1_moraleSum_36 : decode cX1_moraleSum 36 = .ok (.iinc 2 1, 3) := by decide +kernel
theorem dX1_moraleSum_39 : decode cX1_moraleSum 39 = .ok (.goto (-35), 3) := by decide +kernel
theorem dX1_moraleSum_42 : decode cX1_moraleSum 42 = .ok (.iload_n 1, 1) := by decide +kernel
theorem dX1_moraleSum_43 : decode cX1_moraleSum 43 = .ok (.ireturn, 1) := by decide +kernel
theorem dX1_standingCount_0 : decode cX1_standingCount 0 = .ok (.iconst 0, 1) := by decide +kernel
theorem dX1_standingCount_1 : decode cX1_standingCount 1 = .ok (.istore_n 1, 1) := by decide +kernel
theorem dX1_standingCount_2 : decode cX1_standingCount 2 = .ok (.iconst 0, 1) := by decide +kernel
theorem dX1_standingCount_3 : decode cX1_standingCount 3 = .ok (.istore_n 2, 1) := by decide +kernel
theorem dX1_standingCount_4 : decode cX1_standingCount 4 = .ok (.iload_n 2, 1) := by decide +kernel
theorem dX1_standingCount_5 : decode cX1_standingCount 5 = .ok (.aload_n 0, 1) := by decide +kernel
theorem dX1_standingCount_6 : decode cX1_standingCount 6 = .ok (.getfield 21, 3) := by decide +kernel
theorem dX1_standingCount_9 : decode cX1_standingCount 9 = .ok (.if_icmp .ge 29, 3) := by decide +kernel
theorem dX1_standingCount_12 : decode cX1_standingCount 12 = .ok (.aload_n 0, 1) := by decide +kernel
theorem dX1_standingCount_13 : decode cX1_standingCount 13 = .ok (.iload_n 2, 1) := by decide +kernel
theorem dX1_standingCount_14 : decode cX1_standingCount 14 = .ok (.invokevirtual 57, 3) := by decide +kernel
theorem dX1_standingCount_17 : decode cX1_standingCount 17 = .ok (.astore_n 3, 1) := by decide +kernel
theorem dX1_standingCount_18 : decode cX1_standingCount 18 = .ok (.aload_n 3, 1) := by decide +kernel
theorem dX1_standingCount_19 : decode cX1_standingCount 19 = .ok (.ifnull 13, 3) := by decide +kernel
theorem dX1_standingCount_22 : decode cX1_standingCount 22 = .ok (.aload_n 3, 1) := by decide +kernel
theorem dX1_standingCount_23 : decode cX1_standingCount 23 = .ok (.invokevirtual 113, 3) := by decide +kernel
theorem dX1_standingCount_26 : decode cX1_standingCount 26 = .ok (.ifCond .eq 6, 3) := by decide +kernel
theorem dX1_standingCount_29 : decode cX1_standingCount 29 = .ok (.iinc 1 1, 3) := by decide +kernel
theorem dX1_standingCount_32 : decode cX1_standingCount 32 = .ok (.iinc 2 1, 3) := by decide +kernel
theorem dX1_standingCount_35 : decode cX1_standingCount 35 = .ok (.goto (-31), 3) := by decide +kernel
theorem dX1_standingCount_38 : decode cX1_standingCount 38 = .ok (.iload_n 1, 1) := by decide +kernel
theorem dX1_standingCount_39 : decode cX1_standingCount 39 = .ok (.ireturn, 1) := by decide +kernel
theorem dX1_agrees_0 : decode cX1_agrees 0 = .ok (.iconst 0, 1) := by decide +kernel
theorem dX1_agrees_1 : decode cX1_agrees 1 = .ok (.istore_n 1, 1) := by decide +kernel
theorem dX1_agrees_2 : decode cX1_agrees 2 = .ok (.iload_n 1, 1) := by decide +kernel
theorem dX1_agrees_3 : decode cX1_agrees 3 = .ok (.aload_n 0, 1) := by decide +kernel
theorem dX1_agrees_4 : decode cX1_agrees 4 = .ok (.getfield 21, 3) := by decide +kernel
theorem dX1_agrees_7 : decode cX1_agrees 7 = .ok (.if_icmp .ge 54, 3) := by decide +kernel
theorem dX1_agrees_10 : decode cX1_agrees 10 = .ok (.aload_n 0, 1) := by decide +kernel
theorem dX1_agrees_11 : decode cX1_agrees 11 = .ok (.iload_n 1, 1) := by decide +kernel
theorem dX1_agrees_12 : decode cX1_agrees 12 = .ok (.invokevirtual 57, 3) := by decide +kernel
theorem dX1_agrees_15 : decode cX1_agrees 15 = .ok (.astore_n 2, 1) := by decide +kernel
theorem dX1_agrees_16 : decode cX1_agrees 16 = .ok (.aload_n 2, 1) := by decide +kernel
theorem dX1_agrees_17 : decode cX1_agrees 17 = .ok (.ifnull 38, 3) := by decide +kernel
theorem dX1_agrees_20 : decode cX1_agrees 20 = .ok (.aload_n 2, 1) := by decide +kernel
theorem dX1_agrees_21 : decode cX1_agrees 21 = .ok (.invokevirtual 172, 3) := by decide +kernel
theorem dX1_agrees_24 : decode cX1_agrees 24 = .ok (.ifCond .ne 31, 3) := by decide +kernel
theorem dX1_agrees_27 : decode cX1_agrees 27 = .ok (.aload_n 0, 1) := by decide +kernel
theorem dX1_agrees_28 : decode cX1_agrees 28 = .ok (.aload_n 2, 1) := by decide +kernel
theorem dX1_agrees_29 : decode cX1_agrees 29 = .ok (.invokevirtual 181, 3) := by decide +kernel
theorem dX1_agrees_32 : decode cX1_agrees 32 = .ok (.aload_n 0, 1) := by decide +kernel
theorem dX1_agrees_33 : decode cX1_agrees 33 = .ok (.aload_n 2, 1) := by decide +kernel
theorem dX1_agrees_34 : decode cX1_agrees 34 = .ok (.invokevirtual 154, 3) := by decide +kernel
theorem dX1_agrees_37 : decode cX1_agrees 37 = .ok (.if_icmp .ne 16, 3) := by decide +kernel
theorem dX1_agrees_40 : decode cX1_agrees 40 = .ok (.aload_n 0, 1) := by decide +kernel
theorem dX1_agrees_41 : decode cX1_agrees 41 = .ok (.aload_n 2, 1) := by decide +kernel
theorem dX1_agrees_42 : decode cX1_agrees 42 = .ok (.invokevirtual 184, 3) := by decide +kernel
theorem dX1_agrees_45 : decode cX1_agrees 45 = .ok (.aload_n 0, 1) := by decide +kernel
theorem dX1_agrees_46 : decode cX1_agrees 46 = .ok (.aload_n 2, 1) := by decide +kernel
theorem dX1_agrees_47 : decode cX1_agrees 47 = .ok (.invokevirtual 187, 3) := by decide +kernel
theorem dX1_agrees_50 : decode cX1_agrees 50 = .ok (.if_icmp .eq 5, 3) := by decide +kernel
theorem dX1_agrees_53 : decode cX1_agrees 53 = .ok (.iconst 0, 1) := by decide +kernel
theorem dX1_agrees_54 : decode cX1_agrees 54 = .ok (.ireturn, 1) := by decide +kernel
theorem dX1_agrees_55 : decode cX1_agrees 55 = .ok (.iinc 1 1, 3) := by decide +kernel
theorem dX1_agrees_58 : decode cX1_agrees 58 = .ok (.goto (-56), 3) := by decide +kernel
theorem dX1_agrees_61 : decode cX1_agrees 61 = .ok (.aload_n 0, 1) := by decide +kernel
theorem dX1_agrees_62 : decode cX1_agrees 62 = .ok (.iconst 0, 1) := by decide +kernel
theorem dX1_agrees_63 : decode cX1_agrees 63 = .ok (.invokevirtual 190, 3) := by decide +kernel
theorem dX1_agrees_66 : decode cX1_agrees 66 = .ok (.aload_n 0, 1) := by decide +kernel
theorem dX1_agrees_67 : decode cX1_agrees 67 = .ok (.iconst 0, 1) := by decide +kernel
theorem dX1_agrees_68 : decode cX1_agrees 68 = .ok (.invokevirtual 193, 3) := by decide +kernel
theorem dX1_agrees_71 : decode cX1_agrees 71 = .ok (.if_icmp .ne 20, 3) := by decide +kernel
theorem dX1_agrees_74 : decode cX1_agrees 74 = .ok (.aload_n 0, 1) := by decide +kernel
theorem dX1_agrees_75 : decode cX1_agrees 75 = .ok (.iconst 1, 1) := by decide +kernel
theorem dX1_agrees_76 : decode cX1_agrees 76 = .ok (.invokevirtual 190, 3) := by decide +kernel
theorem dX1_agrees_79 : decode cX1_agrees 79 = .ok (.aload_n 0, 1) := by decide +kernel
theorem dX1_agrees_80 : decode cX1_agrees 80 = .ok (.iconst 1, 1) := by decide +kernel
theorem dX1_agrees_81 : decode cX1_agrees 81 = .ok (.invokevirtual 193, 3) := by decide +kernel
theorem dX1_agrees_84 : decode cX1_agrees 84 = .ok (.if_icmp .ne 7, 3) := by decide +kernel
theorem dX1_agrees_87 : decode cX1_agrees 87 = .ok (.iconst 1, 1) := by decide +kernel
theorem dX1_agrees_88 : decode cX1_agrees 88 = .ok (.goto 4, 3) := by decide +kernel
theorem dX1_agrees_91 : decode cX1_agrees 91 = .ok (.iconst 0, 1) := by decide +kernel
theorem dX1_agrees_92 : decode cX1_agrees 92 = .ok (.ireturn, 1) := by decide +kernel
theorem dX2_init_0 : decode cX2_init 0 = .ok (.aload_n 0, 1) := by decide +kernel
theorem dX2_init_1 : decode cX2_init 1 = .ok (.invokespecial 3, 3) := by decide +kernel
theorem dX2_init_4 : decode cX2_init 4 = .ok (.aload_n 0, 1) := by decide +kernel
theorem dX2_init_5 : decode cX2_init 5 = .ok (.bipush 8, 2) := by decide +kernel
theorem dX2_init_7 : decode cX2_init 7 = .ok (.anewarray 9, 3) := by decide +kernel
theorem dX2_init_10 : decode cX2_init 10 = .ok (.putfield 11, 3) := by decide +kernel
theorem dX2_init_13 : decode cX2_init 13 = .ok (.aload_n 0, 1) := by decide +kernel
theorem dX2_init_14 : decode cX2_init 14 = .ok (.iconst 0, 1) := by decide +kernel
theorem dX2_init_15 : decode cX2_init 15 = .ok (.putfield 17, 3) := by decide +kernel
theorem dX2_init_18 : decode cX2_init 18 = .ok (.aload_n 0, 1) := by decide +kernel
theorem dX2_init_19 : decode cX2_init 19 = .ok (.iconst 0, 1) := by decide +kernel
theorem dX2_init_20 : decode cX2_init 20 = .ok (.putfield 21, 3) := by decide +kernel
theorem dX2_init_23 : decode cX2_init 23 = .ok (.iconst 0, 1) := by decide +kernel
theorem dX2_init_24 : decode cX2_init 24 = .ok (.istore_n 1, 1) := by decide +kernel
theorem dX2_init_25 : decode cX2_init 25 = .ok (.iload_n 1, 1) := by decide +kernel
theorem dX2_init_26 : decode cX2_init 26 = .ok (.aload_n 0, 1) := by decide +kernel
theorem dX2_init_27 : decode cX2_init 27 = .ok (.getfield 11, 3) := by decide +kernel
theorem dX2_init_30 : decode cX2_init 30 = .ok (.arraylength, 1) := by decide +kernel
theorem dX2_init_31 : decode cX2_init 31 = .ok (.if_icmp .ge 22, 3) := by decide +kernel
theorem dX2_init_34 : decode cX2_init 34 = .ok (.aload_n 0, 1) := by decide +kernel
theorem dX2_init_35 : decode cX2_init 35 = .ok (.getfield 11, 3) := by decide +kernel
theorem dX2_init_38 : decode cX2_init 38 = .ok (.iload_n 1, 1) := by decide +kernel
theorem dX2_init_39 : decode cX2_init 39 = .ok (.new 9, 3) := by decide +kernel
theorem dX2_init_42 : decode cX2_init 42 = .ok (.dup, 1) := by decide +kernel
theorem dX2_init_43 : decode cX2_init 43 = .ok (.invokespecial 24, 3) := by decide +kernel
theorem dX2_init_46 : decode cX2_init 46 = .ok (.aastore, 1) := by decide +kernel
theorem dX2_init_47 : decode cX2_init 47 = .ok (.iinc 1 1, 3) := by decide +kernel
theorem dX2_init_50 : decode cX2_init 50 = .ok (.goto (-25), 3) := by decide +kernel
theorem dX2_init_53 : decode cX2_init 53 = .ok (.return_, 1) := by decide +kernel
theorem dX2_keep_0 : decode cX2_keep 0 = .ok (.aload_n 0, 1) := by decide +kernel
theorem dX2_keep_1 : decode cX2_keep 1 = .ok (.aload_n 0, 1) := by decide +kernel
theorem dX2_keep_2 : decode cX2_keep 2 = .ok (.getfield 17, 3) := by decide +kernel
theorem dX2_keep_5 : decode cX2_keep 5 = .ok (.iconst 1, 1) := by decide +kernel
theorem dX2_keep_6 : decode cX2_keep 6 = .ok (.iadd, 1) := by decide +kernel
theorem dX2_keep_7 : decode cX2_keep 7 = .ok (.bipush 8, 2) := by decide +kernel
theorem dX2_keep_9 : decode cX2_keep 9 = .ok (.irem, 1) := by decide +kernel
theorem dX2_keep_10 : decode cX2_keep 10 = .ok (.putfield 17, 3) := by decide +kernel
theorem dX2_keep_13 : decode cX2_keep 13 = .ok (.aload_n 0, 1) := by decide +kernel
theorem dX2_keep_14 : decode cX2_keep 14 = .ok (.bipush 8, 2) := by decide +kernel
theorem dX2_keep_16 : decode cX2_keep 16 = .ok (.aload_n 0, 1) := by decide +kernel
theorem dX2_keep_17 : decode cX2_keep 17 = .ok (.getfield 21, 3) := by decide +kernel
theorem dX2_keep_20 : decode cX2_keep 20 = .ok (.iconst 1, 1) := by decide +kernel
theorem dX2_keep_21 : decode cX2_keep 21 = .ok (.iadd, 1) := by decide +kernel
theorem dX2_keep_22 : decode cX2_keep 22 = .ok (.invokestatic 25, 3) := by decide +kernel
theorem dX2_keep_25 : decode cX2_keep 25 = .ok (.putfield 21, 3) := by decide +kernel
theorem dX2_keep_28 : decode cX2_keep 28 = .ok (.aload_n 0, 1) := by decide +kernel
theorem dX2_keep_29 : decode cX2_keep 29 = .ok (.invokevirtual 31, 3) := by decide +kernel
theorem dX2_keep_32 : decode cX2_keep 32 = .ok (.astore_n 2, 1) := by decide +kernel
theorem dX2_keep_33 : decode cX2_keep 33 = .ok (.aload_n 2, 1) := by decide +kernel
theorem dX2_keep_34 : decode cX2_keep 34 = .ok (.ifnull 8, 3) := by decide +kernel
theorem dX2_keep_37 : decode cX2_keep 37 = .ok (.aload_n 2, 1) := by decide +kernel
theorem dX2_keep_38 : decode cX2_keep 38 = .ok (.aload_n 1, 1) := by decide +kernel
theorem dX2_keep_39 : decode cX2_keep 39 = .ok (.invokevirtual 35, 3) := by decide +kernel
theorem dX2_keep_42 : decode cX2_keep 42 = .ok (.return_, 1) := by decide +kernel
theorem dX2_takeBack_0 : decode cX2_takeBack 0 = .ok (.aload_n 0, 1) := by decide +kernel
theorem dX2_takeBack_1 : decode cX2_takeBack 1 = .ok (.invokevirtual 31, 3) := by decide +kernel
theorem dX2_takeBack_4 : decode cX2_takeBack 4 = .ok (.astore_n 2, 1) := by decide +kernel
theorem dX2_takeBack_5 : decode cX2_takeBack 5 = .ok (.aload_n 0, 1) := by decide +kernel
theorem dX2_takeBack_6 : decode cX2_takeBack 6 = .ok (.getfield 21, 3) := by decide +kernel
theorem dX2_takeBack_9 : decode cX2_takeBack 9 = .ok (.ifCond .eq 7, 3) := by decide +kernel
theorem dX2_takeBack_12 : decode cX2_takeBack 12 = .ok (.aload_n 2, 1) := by decide +kernel
theorem dX2_takeBack_13 : decode cX2_takeBack 13 = .ok (.ifnonnull 5, 3) := by decide +kernel
theorem dX2_takeBack_16 : decode cX2_takeBack 16 = .ok (.iconst 0, 1) := by decide +kernel
theorem dX2_takeBack_17 : decode cX2_takeBack 17 = .ok (.ireturn, 1) := by decide +kernel
theorem dX2_takeBack_18 : decode cX2_takeBack 18 = .ok (.aload_n 1, 1) := by decide +kernel
theorem dX2_takeBack_19 : decode cX2_takeBack 19 = .ok (.aload_n 2, 1) := by decide +kernel
theorem dX2_takeBack_20 : decode cX2_takeBack 20 = .ok (.invokevirtual 35, 3) := by decide +kernel
theorem dX2_takeBack_23 : decode cX2_takeBack 23 = .ok (.aload_n 0, 1) := by decide +kernel
theorem dX2_takeBack_24 : decode cX2_takeBack 24 = .ok (.aload_n 0, 1) := by decide +kernel
theorem dX2_takeBack_25 : decode cX2_takeBack 25 = .ok (.getfield 17, 3) := by decide +kernel
theorem dX2_takeBack_28 : decode cX2_takeBack 28 = .ok (.bipush 8, 2) := by decide +kernel
theorem dX2_takeBack_30 : decode cX2_takeBack 30 = .ok (.iadd, 1) := by decide +kernel
theorem dX2_takeBack_31 : decode cX2_takeBack 31 = .ok (.iconst 1, 1) := by decide +kernel
theorem dX2_takeBack_32 : decode cX2_takeBack 32 = .ok (.isub, 1) := by decide +kernel
theorem dX2_takeBack_33 : decode cX2_takeBack 33 = .ok (.bipush 8, 2) := by decide +kernel
theorem dX2_takeBack_35 : decode cX2_takeBack 35 = .ok (.irem, 1) := by decide +kernel
theorem dX2_takeBack_36 : decode cX2_takeBack 36 = .ok (.putfield 17, 3) := by decide +kernel
theorem dX2_takeBack_39 : decode cX2_takeBack 39 = .ok (.aload_n 0, 1) := by decide +kernel
theorem dX2_takeBack_40 : decode cX2_takeBack 40 = .ok (.dup, 1) := by decide +kernel
theorem dX2_takeBack_41 : decode cX2_takeBack 41 = .ok (.getfield 21, 3) := by decide +kernel
theorem dX2_takeBack_44 : decode cX2_takeBack 44 = .ok (.iconst 1, 1) := by decide +kernel
theorem dX2_takeBack_45 : decode cX2_takeBack 45 = .ok (.isub, 1) := by decide +kernel
theorem dX2_takeBack_46 : decode cX2_takeBack 46 = .ok (.putfield 21, 3) := by decide +kernel
theorem dX2_takeBack_49 : decode cX2_takeBack 49 = .ok (.iconst 1, 1) := by decide +kernel
theorem dX2_takeBack_50 : decode cX2_takeBack 50 = .ok (.ireturn, 1) := by decide +kernel
theorem dX2_forget_0 : decode cX2_forget 0 = .ok (.aload_n 0, 1) := by decide +kernel
theorem dX2_forget_1 : decode cX2_forget 1 = .ok (.iconst 0, 1) := by decide +kernel
theorem dX2_forget_2 : decode cX2_forget 2 = .ok (.putfield 21, 3) := by decide +kernel
theorem dX2_forget_5 : decode cX2_forget 5 = .ok (.return_, 1) := by decide +kernel
theorem dX2_newestState_0 : decode cX2_newestState 0 = .ok (.aload_n 0, 1) := by decide +kernel
theorem dX2_newestState_1 : decode cX2_newestState 1 = .ok (.getfield 17, 3) := by decide +kernel
theorem dX2_newestState_4 : decode cX2_newestState 4 = .ok (.ifCond .lt 15, 3) := by decide +kernel
theorem dX2_newestState_7 : decode cX2_newestState 7 = .ok (.aload_n 0, 1) := by decide +kernel
theorem dX2_newestState_8 : decode cX2_newestState 8 = .ok (.getfield 17, 3) := by decide +kernel
theorem dX2_newestState_11 : decode cX2_newestState 11 = .ok (.aload_n 0, 1) := by decide +kernel
theorem dX2_newestState_12 : decode cX2_newestState 12 = .ok (.getfield 11, 3) := by decide +kernel
theorem dX2_newestState_15 : decode cX2_newestState 15 = .ok (.arraylength, 1) := by decide +kernel
theorem dX2_newestState_16 : decode cX2_newestState 16 = .ok (.if_icmp .lt 7, 3) := by decide +kernel
theorem dX2_newestState_19 : decode cX2_newestState 19 = .ok (.aconst_null, 1) := by decide +kernel
theorem dX2_newestState_20 : decode cX2_newestState 20 = .ok (.goto 12, 3) := by decide +kernel
theorem dX2_newestState_23 : decode cX2_newestState 23 = .ok (.aload_n 0, 1) := by decide +kernel
theorem dX2_newestState_24 : decode cX2_newestState 24 = .ok (.getfield 11, 3) := by decide +kernel
theorem dX2_newestState_27 : decode cX2_newestState 27 = .ok (.aload_n 0, 1) := by decide +kernel
theorem dX2_newestState_28 : decode cX2_newestState 28 = .ok (.getfield 17, 3) := by decide +kernel
theorem dX2_newestState_31 : decode cX2_newestState 31 = .ok (.aaload, 1) := by decide +kernel
theorem dX2_newestState_32 : decode cX2_newestState 32 = .ok (.areturn, 1) := by decide +kernel
theorem dX3_init_0 : decode cX3_init 0 = .ok (.aload_n 0, 1) := by decide +kernel
theorem dX3_init_1 : decode cX3_init 1 = .ok (.invokespecial 3, 3) := by decide +kernel
theorem dX3_init_4 : decode cX3_init 4 = .ok (.aload_n 0, 1) := by decide +kernel
theorem dX3_init_5 : decode cX3_init 5 = .ok (.iconst 0, 1) := by decide +kernel
theorem dX3_init_6 : decode cX3_init 6 = .ok (.putfield 9, 3) := by decide +kernel
theorem dX3_init_9 : decode cX3_init 9 = .ok (.aload_n 0, 1) := by decide +kernel
theorem dX3_init_10 : decode cX3_init 10 = .ok (.iconst 0, 1) := by decide +kernel
theorem dX3_init_11 : decode cX3_init 11 = .ok (.putfield 15, 3) := by decide +kernel
theorem dX3_init_14 : decode cX3_init 14 = .ok (.aload_n 0, 1) := by decide +kernel
theorem dX3_init_15 : decode cX3_init 15 = .ok (.iconst 0, 1) := by decide +kernel
theorem dX3_init_16 : decode cX3_init 16 = .ok (.putfield 18, 3) := by decide +kernel
theorem dX3_init_19 : decode cX3_init 19 = .ok (.aload_n 0, 1) := by decide +kernel
theorem dX3_init_20 : decode cX3_init 20 = .ok (.bipush 112, 2) := by decide +kernel
theorem dX3_init_22 : decode cX3_init 22 = .ok (.putfield 21, 3) := by decide +kernel
theorem dX3_init_25 : decode cX3_init 25 = .ok (.aload_n 0, 1) := by decide +kernel
theorem dX3_init_26 : decode cX3_init 26 = .ok (.bipush 104, 2) := by decide +kernel
theorem dX3_init_28 : decode cX3_init 28 = .ok (.putfield 25, 3) := by decide +kernel
theorem dX3_init_31 : decode cX3_init 31 = .ok (.aload_n 0, 1) := by decide +kernel
theorem dX3_init_32 : decode cX3_init 32 = .ok (.iconst 0, 1) := by decide +kernel
theorem dX3_init_33 : decode cX3_init 33 = .ok (.putfield 28, 3) := by decide +kernel
theorem dX3_init_36 : decode cX3_init 36 = .ok (.aload_n 0, 1) := by decide +kernel
theorem dX3_init_37 : decode cX3_init 37 = .ok (.iconst 0, 1) := by decide +kernel
theorem dX3_init_38 : decode cX3_init 38 = .ok (.putfield 31, 3) := by decide +kernel
theorem dX3_init_41 : decode cX3_init 41 = .ok (.aload_n 0, 1) := by decide +kernel
theorem dX3_init_42 : decode cX3_init 42 = .ok (.iconst 2, 1) := by decide +kernel
theorem dX3_init_43 : decode cX3_init 43 = .ok (.putfield 34, 3) := by decide +kernel
theorem dX3_init_46 : decode cX3_init 46 = .ok (.aload_n 0, 1) := by decide +kernel
theorem dX3_init_47 : decode cX3_init 47 = .ok (.iconst 0, 1) := by decide +kernel
theorem dX3_init_48 : decode cX3_init 48 = .ok (.putfield 37, 3) := by decide +kernel
theorem dX3_init_51 : decode cX3_init 51 = .ok (.aload_n 0, 1) := by decide +kernel
theorem dX3_init_52 : decode cX3_init 52 = .ok (.iload_n 1, 1) := by decide +kernel
theorem dX3_init_53 : decode cX3_init 53 = .ok (.putfield 40, 3) := by decide +kernel
theorem dX3_init_56 : decode cX3_init 56 = .ok (.return_, 1) := by decide +kernel
theorem dX3_copyFrom_0 : decode cX3_copyFrom 0 = .ok (.aload_n 0, 1) := by decide +kernel
theorem dX3_copyFrom_1 : decode cX3_copyFrom 1 = .ok (.aload_n 1, 1) := by decide +kernel
theorem dX3_copyFrom_2 : decode cX3_copyFrom 2 = .ok (.getfield 9, 3) := by decide +kernel
theorem dX3_copyFrom_5 : decode cX3_copyFrom 5 = .ok (.putfield 9, 3) := by decide +kernel
theorem dX3_copyFrom_8 : decode cX3_copyFrom 8 = .ok (.aload_n 0, 1) := by decide +kernel
theorem dX3_copyFrom_9 : decode cX3_copyFrom 9 = .ok (.aload_n 1, 1) := by decide +kernel
theorem dX3_copyFrom_10 : decode cX3_copyFrom 10 = .ok (.getfield 15, 3) := by decide +kernel
theorem dX3_copyFrom_13 : decode cX3_copyFrom 13 = .ok (.putfield 15, 3) := by decide +kernel
theorem dX3_copyFrom_16 : decode cX3_copyFrom 16 = .ok (.aload_n 0, 1) := by decide +kernel
theorem dX3_copyFrom_17 : decode cX3_copyFrom 17 = .ok (.aload_n 1, 1) := by decide +kernel
theorem dX3_copyFrom_18 : decode cX3_copyFrom 18 = .ok (.getfield 18, 3) := by decide +kernel
theorem dX3_copyFrom_21 : decode cX3_copyFrom 21 = .ok (.putfield 18, 3) := by decide +kernel
theorem dX3_copyFrom_24 : decode cX3_copyFrom 24 = .ok (.aload_n 0, 1) := by decide +kernel
theorem dX3_copyFrom_25 : decode cX3_copyFrom 25 = .ok (.aload_n 1, 1) := by decide +kernel
theorem dX3_copyFrom_26 : decode cX3_copyFrom 26 = .ok (.getfield 21, 3) := by decide +kernel
theorem dX3_copyFrom_29 : decode cX3_copyFrom 29 = .ok (.putfield 21, 3) := by decide +kernel
theorem dX3_copyFrom_32 : decode cX3_copyFrom 32 = .ok (.aload_n 0, 1) := by decide +kernel
theorem dX3_copyFrom_33 : decode cX3_copyFrom 33 = .ok (.aload_n 1, 1) := by decide +kernel
theorem dX3_copyFrom_34 : decode cX3_copyFrom 34 = .ok (.getfield 25, 3) := by decide +kernel
theorem dX3_copyFrom_37 : decode cX3_copyFrom 37 = .ok (.putfield 25, 3) := by decide +kernel
theorem dX3_copyFrom_40 : decode cX3_copyFrom 40 = .ok (.aload_n 0, 1) := by decide +kernel
theorem dX3_copyFrom_41 : decode cX3_copyFrom 41 = .ok (.aload_n 1, 1) := by decide +kernel
theorem dX3_copyFrom_42 : decode cX3_copyFrom 42 = .ok (.getfield 28, 3) := by decide +kernel
theorem dX3_copyFrom_45 : decode cX3_copyFrom 45 = .ok (.putfield 28, 3) := by decide +kernel
theorem dX3_copyFrom_48 : decode cX3_copyFrom 48 = .ok (.aload_n 0, 1) := by decide +kernel
theorem dX3_copyFrom_49 : decode cX3_copyFrom 49 = .ok (.aload_n 1, 1) := by decide +kernel
theorem dX3_copyFrom_50 : decode cX3_copyFrom 50 = .ok (.getfield 31, 3) := by decide +kernel
theorem dX3_copyFrom_53 : decode cX3_copyFrom 53 = .ok (.putfield 31, 3) := by decide +kernel
theorem dX3_copyFrom_56 : decode cX3_copyFrom 56 = .ok (.aload_n 0, 1) := by decide +kernel
theorem dX3_copyFrom_57 : decode cX3_copyFrom 57 = .ok (.aload_n 1, 1) := by decide +kernel
theorem dX3_copyFrom_58 : decode cX3_copyFrom 58 = .ok (.getfield 34, 3) := by decide +kernel
theorem dX3_copyFrom_61 : decode cX3_copyFrom 61 = .ok (.putfield 34, 3) := by decide +kernel
theorem dX3_copyFrom_64 : decode cX3_copyFrom 64 = .ok (.aload_n 0, 1) := by decide +kernel
theorem dX3_copyFrom_65 : decode cX3_copyFrom 65 = .ok (.aload_n 1, 1) := by decide +kernel
theorem dX3_copyFrom_66 : decode cX3_copyFrom 66 = .ok (.getfield 37, 3) := by decide +kernel
theorem dX3_copyFrom_69 : decode cX3_copyFrom 69 = .ok (.putfield 37, 3) := by decide +kernel
theorem dX3_copyFrom_72 : decode cX3_copyFrom 72 = .ok (.return_, 1) := by decide +kernel
theorem dX3_stands_0 : decode cX3_stands 0 = .ok (.aload_n 0, 1) := by decide +kernel
theorem dX3_stands_1 : decode cX3_stands 1 = .ok (.getfield 34, 3) := by decide +kernel
theorem dX3_stands_4 : decode cX3_stands 4 = .ok (.ifCond .ne 7, 3) := by decide +kernel
theorem dX3_stands_7 : decode cX3_stands 7 = .ok (.iconst 1, 1) := by decide +kernel
theorem dX3_stands_8 : decode cX3_stands 8 = .ok (.goto 4, 3) := by decide +kernel
theorem dX3_stands_11 : decode cX3_stands 11 = .ok (.iconst 0, 1) := by decide +kernel
theorem dX3_stands_12 : decode cX3_stands 12 = .ok (.ireturn, 1) := by decide +kernel
theorem dX3_routed_0 : decode cX3_routed 0 = .ok (.aload_n 0, 1) := by decide +kernel
theorem dX3_routed_1 : decode cX3_routed 1 = .ok (.getfield 34, 3) := by decide +kernel
theorem dX3_routed_4 : decode cX3_routed 4 = .ok (.iconst 1, 1) := by decide +kernel
theorem dX3_routed_5 : decode cX3_routed 5 = .ok (.if_icmp .ne 7, 3) := by decide +kernel
theorem dX3_routed_8 : decode cX3_routed 8 = .ok (.iconst 1, 1) := by decide +kernel
theorem dX3_routed_9 : decode cX3_routed 9 = .ok (.goto 4, 3) := by decide +kernel
theorem dX3_routed_12 : decode cX3_routed 12 = .ok (.iconst 0, 1) := by decide +kernel
theorem dX3_routed_13 : decode cX3_routed 13 = .ok (.ireturn, 1) := by decide +kernel
theorem dX3_hasFallen_0 : decode cX3_hasFallen 0 = .ok (.aload_n 0, 1) := by decide +kernel
theorem dX3_hasFallen_1 : decode cX3_hasFallen 1 = .ok (.getfield 34, 3) := by decide +kernel
theorem dX3_hasFallen_4 : decode cX3_hasFallen 4 = .ok (.iconst 2, 1) := by decide +kernel
theorem dX3_hasFallen_5 : decode cX3_hasFallen 5 = .ok (.if_icmp .ne 7, 3) := by decide +kernel
theorem dX3_hasFallen_8 : decode cX3_hasFallen 8 = .ok (.iconst 1, 1) := by decide +kernel
theorem dX3_hasFallen_9 : decode cX3_hasFallen 9 = .ok (.goto 4, 3) := by decide +kernel
theorem dX3_hasFallen_12 : decode cX3_hasFallen 12 = .ok (.iconst 0, 1) := by decide +kernel
theorem dX3_hasFallen_13 : decode cX3_hasFallen 13 = .ok (.ireturn, 1) := by decide +kernel
theorem dX3_forward_0 : decode cX3_forward 0 = .ok (.aload_n 0, 1) := by decide +kernel
theorem dX3_forward_1 : decode cX3_forward 1 = .ok (.getfield 9, 3) := by decide +kernel
theorem dX3_forward_4 : decode cX3_forward 4 = .ok (.ifCond .ne 7, 3) := by decide +kernel
theorem dX3_forward_7 : decode cX3_forward 7 = .ok (.iconst 1, 1) := by decide +kernel
theorem dX3_forward_8 : decode cX3_forward 8 = .ok (.goto 4, 3) := by decide +kernel
theorem dX3_forward_11 : decode cX3_forward 11 = .ok (.iconst (-1), 1) := by decide +kernel
theorem dX3_forward_12 : decode cX3_forward 12 = .ok (.ireturn, 1) := by decide +kernel
theorem dX3_attack_0 : decode cX3_attack 0 = .ok (.aload_n 0, 1) := by decide +kernel
theorem dX3_attack_1 : decode cX3_attack 1 = .ok (.getfield 21, 3) := by decide +kernel
theorem dX3_attack_4 : decode cX3_attack 4 = .ok (.bipush 112, 2) := by decide +kernel
theorem dX3_attack_6 : decode cX3_attack 6 = .ok (.if_icmp .ne 21, 3) := by decide +kernel
theorem dX3_attack_9 : decode cX3_attack 9 = .ok (.aload_n 0, 1) := by decide +kernel
theorem dX3_attack_10 : decode cX3_attack 10 = .ok (.getfield 28, 3) := by decide +kernel
theorem dX3_attack_13 : decode cX3_attack 13 = .ok (.iconst 4, 1) := by decide +kernel
theorem dX3_attack_14 : decode cX3_attack 14 = .ok (.idiv, 1) := by decide +kernel
theorem dX3_attack_15 : decode cX3_attack 15 = .ok (.iload_n 1, 1) := by decide +kernel
theorem dX3_attack_16 : decode cX3_attack 16 = .ok (.ifCond .eq 8, 3) := by decide +kernel
theorem dX3_attack_19 : decode cX3_attack 19 = .ok (.bipush 6, 2) := by decide +kernel
theorem dX3_attack_21 : decode cX3_attack 21 = .ok (.goto 4, 3) := by decide +kernel
theorem dX3_attack_24 : decode cX3_attack 24 = .ok (.iconst 0, 1) := by decide +kernel
theorem dX3_attack_25 : decode cX3_attack 25 = .ok (.iadd, 1) := by decide +kernel
theorem dX3_attack_26 : decode cX3_attack 26 = .ok (.ireturn, 1) := by decide +kernel
theorem dX3_attack_27 : decode cX3_attack 27 = .ok (.aload_n 0, 1) := by decide +kernel
theorem dX3_attack_28 : decode cX3_attack 28 = .ok (.getfield 21, 3) := by decide +kernel
theorem dX3_attack_31 : decode cX3_attack 31 = .ok (.bipush 110, 2) := by decide +kernel
theorem dX3_attack_33 : decode cX3_attack 33 = .ok (.if_icmp .ne 12, 3) := by decide +kernel
theorem dX3_attack_36 : decode cX3_attack 36 = .ok (.aload_n 0, 1) := by decide +kernel
theorem dX3_attack_37 : decode cX3_attack 37 = .ok (.getfield 28, 3) := by decide +kernel
theorem dX3_attack_40 : decode cX3_attack 40 = .ok (.iconst 5, 1) := by decide +kernel
theorem dX3_attack_41 : decode cX3_attack 41 = .ok (.idiv, 1) := by decide +kernel
theorem dX3_attack_42 : decode cX3_attack 42 = .ok (.iconst 2, 1) := by decide +kernel
theorem dX3_attack_43 : decode cX3_attack 43 = .ok (.iadd, 1) := by decide +kernel
theorem dX3_attack_44 : decode cX3_attack 44 = .ok (.ireturn, 1) := by decide +kernel
theorem dX3_attack_45 : decode cX3_attack 45 = .ok (.aload_n 0, 1) := by decide +kernel
theorem dX3_attack_46 : decode cX3_attack 46 = .ok (.getfield 21, 3) := by decide +kernel
theorem dX3_attack_49 : decode cX3_attack 49 = .ok (.bipush 99, 2) := by decide +kernel
theorem dX3_attack_51 : decode cX3_attack 51 = .ok (.if_icmp .ne 10, 3) := by decide +kernel
theorem dX3_attack_54 : decode cX3_attack 54 = .ok (.aload_n 0, 1) := by decide +kernel
theorem dX3_attack_55 : decode cX3_attack 55 = .ok (.getfield 28, 3) := by decide +kernel
theorem dX3_attack_58 : decode cX3_attack 58 = .ok (.iconst 3, 1) := by decide +kernel
theorem dX3_attack_59 : decode cX3_attack 59 = .ok (.idiv, 1) := by decide +kernel
theorem dX3_attack_60 : decode cX3_attack 60 = .ok (.ireturn, 1) := by decide +kernel
theorem dX3_attack_61 : decode cX3_attack 61 = .ok (.aload_n 0, 1) := by decide +kernel
theorem dX3_attack_62 : decode cX3_attack 62 = .ok (.getfield 28, 3) := by decide +kernel
theorem dX3_attack_65 : decode cX3_attack 65 = .ok (.bipush 6, 2) := by decide +kernel
theorem dX3_attack_67 : decode cX3_attack 67 = .ok (.idiv, 1) := by decide +kernel
theorem dX3_attack_68 : decode cX3_attack 68 = .ok (.iconst 1, 1) := by decide +kernel
theorem dX3_attack_69 : decode cX3_attack 69 = .ok (.iadd, 1) := by decide +kernel
theorem dX3_attack_70 : decode cX3_attack 70 = .ok (.ireturn, 1) := by decide +kernel
theorem dX3_counter_0 : decode cX3_counter 0 = .ok (.aload_n 0, 1) := by decide +kernel
theorem dX3_counter_1 : decode cX3_counter 1 = .ok (.getfield 21, 3) := by decide +kernel
theorem dX3_counter_4 : decode cX3_counter 4 = .ok (.bipush 112, 2) := by decide +kernel
theorem dX3_counter_6 : decode cX3_counter 6 = .ok (.if_icmp .ne 11, 3) := by decide +kernel
theorem dX3_counter_9 : decode cX3_counter 9 = .ok (.aload_n 0, 1) := by decide +kernel
theorem dX3_counter_10 : decode cX3_counter 10 = .ok (.getfield 28, 3) := by decide +kernel
theorem dX3_counter_13 : decode cX3_counter 13 = .ok (.bipush 8, 2) := by decide +kernel
theorem dX3_counter_15 : decode cX3_counter 15 = .ok (.idiv, 1) := by decide +kernel
theorem dX3_counter_16 : decode cX3_counter 16 = .ok (.ireturn, 1) := by decide +kernel
theorem dX3_counter_17 : decode cX3_counter 17 = .ok (.aload_n 0, 1) := by decide +kernel
theorem dX3_counter_18 : decode cX3_counter 18 = .ok (.getfield 21, 3) := by decide +kernel
theorem dX3_counter_21 : decode cX3_counter 21 = .ok (.bipush 110, 2) := by decide +kernel
theorem dX3_counter_23 : decode cX3_counter 23 = .ok (.if_icmp .ne 10, 3) := by decide +kernel
theorem dX3_counter_26 : decode cX3_counter 26 = .ok (.aload_n 0, 1) := by decide +kernel
theorem dX3_counter_27 : decode cX3_counter 27 = .ok (.getfield 28, 3) := by decide +kernel
theorem dX3_counter_30 : decode cX3_counter 30 = .ok (.iconst 4, 1) := by decide +kernel
theorem dX3_counter_31 : decode cX3_counter 31 = .ok (.idiv, 1) := by decide +kernel
theorem dX3_counter_32 : decode cX3_counter 32 = .ok (.ireturn, 1) := by decide +kernel
theorem dX3_counter_33 : decode cX3_counter 33 = .ok (.aload_n 0, 1) := by decide +kernel
theorem dX3_counter_34 : decode cX3_counter 34 = .ok (.getfield 21, 3) := by decide +kernel
theorem dX3_counter_37 : decode cX3_counter 37 = .ok (.bipush 99, 2) := by decide +kernel
theorem dX3_counter_39 : decode cX3_counter 39 = .ok (.if_icmp .ne 11, 3) := by decide +kernel
theorem dX3_counter_42 : decode cX3_counter 42 = .ok (.aload_n 0, 1) := by decide +kernel
theorem dX3_counter_43 : decode cX3_counter 43 = .ok (.getfield 28, 3) := by decide +kernel
theorem dX3_counter_46 : decode cX3_counter 46 = .ok (.bipush 10, 2) := by decide +kernel
theorem dX3_counter_48 : decode cX3_counter 48 = .ok (.idiv, 1) := by decide +kernel
theorem dX3_counter_49 : decode cX3_counter 49 = .ok (.ireturn, 1) := by decide +kernel
theorem dX3_counter_50 : decode cX3_counter 50 = .ok (.aload_n 0, 1) := by decide +kernel
theorem dX3_counter_51 : decode cX3_counter 51 = .ok (.getfield 28, 3) := by decide +kernel
theorem dX3_counter_54 : decode cX3_counter 54 = .ok (.bipush 6, 2) := by decide +kernel
theorem dX3_counter_56 : decode cX3_counter 56 = .ok (.idiv, 1) := by decide +kernel
theorem dX3_counter_57 : decode cX3_counter 57 = .ok (.ireturn, 1) := by decide +kernel
theorem dX3_suffer_0 : decode cX3_suffer 0 = .ok (.aload_n 0, 1) := by decide +kernel
theorem dX3_suffer_1 : decode cX3_suffer 1 = .ok (.iconst 0, 1) := by decide +kernel
theorem dX3_suffer_2 : decode cX3_suffer 2 = .ok (.aload_n 0, 1) := by decide +kernel
theorem dX3_suffer_3 : decode cX3_suffer 3 = .ok (.getfield 28, 3) := by decide +kernel
theorem dX3_suffer_6 : decode cX3_suffer 6 = .ok (.iload_n 1, 1) := by decide +kernel
theorem dX3_suffer_7 : decode cX3_suffer 7 = .ok (.isub, 1) := by decide +kernel
theorem dX3_suffer_8 : decode cX3_suffer 8 = .ok (.invokestatic 43, 3) := by decide +kernel
theorem dX3_suffer_11 : decode cX3_suffer 11 = .ok (.putfield 28, 3) := by decide +kernel
theorem dX3_suffer_14 : decode cX3_suffer 14 = .ok (.aload_n 0, 1) := by decide +kernel
theorem dX3_suffer_15 : decode cX3_suffer 15 = .ok (.iconst 0, 1) := by decide +kernel
theorem dX3_suffer_16 : decode cX3_suffer 16 = .ok (.aload_n 0, 1) := by decide +kernel
theorem dX3_suffer_17 : decode cX3_suffer 17 = .ok (.getfield 31, 3) := by decide +kernel
theorem dX3_suffer_20 : decode cX3_suffer 20 = .ok (.iload_n 1, 1) := by decide +kernel
theorem dX3_suffer_21 : decode cX3_suffer 21 = .ok (.iconst 3, 1) := by decide +kernel
theorem dX3_suffer_22 : decode cX3_suffer 22 = .ok (.idiv, 1) := by decide +kernel
theorem dX3_suffer_23 : decode cX3_suffer 23 = .ok (.isub, 1) := by decide +kernel
theorem dX3_suffer_24 : decode cX3_suffer 24 = .ok (.invokestatic 43, 3) := by decide +kernel
theorem dX3_suffer_27 : decode cX3_suffer 27 = .ok (.putfield 31, 3) := by decide +kernel
theorem dX3_suffer_30 : decode cX3_suffer 30 = .ok (.return_, 1) := by decide +kernel
theorem dX3_gainMorale_0 : decode cX3_gainMorale 0 = .ok (.aload_n 0, 1) := by decide +kernel
theorem dX3_gainMorale_1 : decode cX3_gainMorale 1 = .ok (.bipush 20, 2) := by decide +kernel
theorem dX3_gainMorale_3 : decode cX3_gainMorale 3 = .ok (.aload_n 0, 1) := by decide +kernel
theorem dX3_gainMorale_4 : decode cX3_gainMorale 4 = .ok (.getfield 31, 3) := by decide +kernel
theorem dX3_gainMorale_7 : decode cX3_gainMorale 7 = .ok (.iload_n 1, 1) := by decide +kernel
theorem dX3_gainMorale_8 : decode cX3_gainMorale 8 = .ok (.iadd, 1) := by decide +kernel
theorem dX3_gainMorale_9 : decode cX3_gainMorale 9 = .ok (.invokestatic 49, 3) := by decide +kernel
theorem dX3_gainMorale_12 : decode cX3_gainMorale 12 = .ok (.putfield 31, 3) := by decide +kernel
theorem dX3_gainMorale_15 : decode cX3_gainMorale 15 = .ok (.return_, 1) := by decide +kernel
theorem dX3_standIfBold_0 : decode cX3_standIfBold 0 = .ok (.aload_n 0, 1) := by decide +kernel
theorem dX3_standIfBold_1 : decode cX3_standIfBold 1 = .ok (.getfield 31, 3) := by decide +kernel
theorem dX3_standIfBold_4 : decode cX3_standIfBold 4 = .ok (.bipush 8, 2) := by decide +kernel
theorem dX3_standIfBold_6 : decode cX3_standIfBold 6 = .ok (.if_icmp .lt 14, 3) := by decide +kernel
theorem dX3_standIfBold_9 : decode cX3_standIfBold 9 = .ok (.aload_n 0, 1) := by decide +kernel
theorem dX3_standIfBold_10 : decode cX3_standIfBold 10 = .ok (.iconst 0, 1) := by decide +kernel
theorem dX3_standIfBold_11 : decode cX3_standIfBold 11 = .ok (.putfield 34, 3) := by decide +kernel
theorem dX3_standIfBold_14 : decode cX3_standIfBold 14 = .ok (.aload_n 0, 1) := by decide +kernel
theorem dX3_standIfBold_15 : decode cX3_standIfBold 15 = .ok (.bipush 104, 2) := by decide +kernel
theorem dX3_standIfBold_17 : decode cX3_standIfBold 17 = .ok (.putfield 25, 3) := by decide +kernel
theorem dX3_standIfBold_20 : decode cX3_standIfBold 20 = .ok (.return_, 1) := by decide +kernel
theorem dX3_letter_0 : decode cX3_letter 0 = .ok (.aload_n 0, 1) := by decide +kernel
theorem dX3_letter_1 : decode cX3_letter 1 = .ok (.getfield 9, 3) := by decide +kernel
theorem dX3_letter_4 : decode cX3_letter 4 = .ok (.ifCond .ne 10, 3) := by decide +kernel
theorem dX3_letter_7 : decode cX3_letter 7 = .ok (.aload_n 0, 1) := by decide +kernel
theorem dX3_letter_8 : decode cX3_letter 8 = .ok (.getfield 21, 3) := by decide +kernel
theorem dX3_letter_11 : decode cX3_letter 11 = .ok (.goto 11, 3) := by decide +kernel
theorem dX3_letter_14 : decode cX3_letter 14 = .ok (.aload_n 0, 1) := by decide +kernel
theorem dX3_letter_15 : decode cX3_letter 15 = .ok (.getfield 21, 3) := by decide +kernel
theorem dX3_letter_18 : decode cX3_letter 18 = .ok (.bipush (-32), 2) := by decide +kernel
theorem dX3_letter_20 : decode cX3_letter 20 = .ok (.iadd, 1) := by decide +kernel
theorem dX3_letter_21 : decode cX3_letter 21 = .ok (.i2c, 1) := by decide +kernel
theorem dX3_letter_22 : decode cX3_letter 22 = .ok (.ireturn, 1) := by decide +kernel
theorem dX4_init_0 : decode cX4_init 0 = .ok (.aload_n 0, 1) := by decide +kernel
theorem dX4_init_1 : decode cX4_init 1 = .ok (.invokespecial 1, 3) := by decide +kernel
theorem dX4_init_4 : decode cX4_init 4 = .ok (.aload_n 0, 1) := by decide +kernel
theorem dX4_init_5 : decode cX4_init 5 = .ok (.new 7, 3) := by decide +kernel
theorem dX4_init_8 : decode cX4_init 8 = .ok (.dup, 1) := by decide +kernel
theorem dX4_init_9 : decode cX4_init 9 = .ok (.invokespecial 9, 3) := by decide +kernel
theorem dX4_init_12 : decode cX4_init 12 = .ok (.putfield 10, 3) := by decide +kernel
theorem dX4_init_15 : decode cX4_init 15 = .ok (.aload_n 0, 1) := by decide +kernel
theorem dX4_init_16 : decode cX4_init 16 = .ok (.new 7, 3) := by decide +kernel
theorem dX4_init_19 : decode cX4_init 19 = .ok (.dup, 1) := by decide +kernel
theorem dX4_init_20 : decode cX4_init 20 = .ok (.invokespecial 9, 3) := by decide +kernel
theorem dX4_init_23 : decode cX4_init 23 = .ok (.putfield 16, 3) := by decide +kernel
theorem dX4_init_26 : decode cX4_init 26 = .ok (.aload_n 0, 1) := by decide +kernel
theorem dX4_init_27 : decode cX4_init 27 = .ok (.new 7, 3) := by decide +kernel
theorem dX4_init_30 : decode cX4_init 30 = .ok (.dup, 1) := by decide +kernel
theorem dX4_init_31 : decode cX4_init 31 = .ok (.invokespecial 9, 3) := by decide +kernel
theorem dX4_init_34 : decode cX4_init 34 = .ok (.putfield 19, 3) := by decide +kernel
theorem dX4_init_37 : decode cX4_init 37 = .ok (.aload_n 0, 1) := by decide +kernel
theorem dX4_init_38 : decode cX4_init 38 = .ok (.new 22, 3) := by decide +kernel
theorem dX4_init_41 : decode cX4_init 41 = .ok (.dup, 1) := by decide +kernel
theorem dX4_init_42 : decode cX4_init 42 = .ok (.invokespecial 24, 3) := by decide +kernel
theorem dX4_init_45 : decode cX4_init 45 = .ok (.putfield 25, 3) := by decide +kernel
theorem dX4_init_48 : decode cX4_init 48 = .ok (.aload_n 0, 1) := by decide +kernel
theorem dX4_init_49 : decode cX4_init 49 = .ok (.new 29, 3) := by decide +kernel
theorem dX4_init_52 : decode cX4_init 52 = .ok (.dup, 1) := by decide +kernel
theorem dX4_init_53 : decode cX4_init 53 = .ok (.invokespecial 31, 3) := by decide +kernel
theorem dX4_init_56 : decode cX4_init 56 = .ok (.putfield 32, 3) := by decide +kernel
theorem dX4_init_59 : decode cX4_init 59 = .ok (.aload_n 0, 1) := by decide +kernel
theorem dX4_init_60 : decode cX4_init 60 = .ok (.bipush 20, 2) := by decide +kernel
theorem dX4_init_62 : decode cX4_init 62 = .ok (.newarray .char, 2) := by decide +kernel
theorem dX4_init_64 : decode cX4_init 64 = .ok (.putfield 36, 3) := by decide +kernel
theorem dX4_init_67 : decode cX4_init 67 = .ok (.aload_n 0, 1) := by decide +kernel
theorem dX4_init_68 : decode cX4_init 68 = .ok (.iconst 0, 1) := by decide +kernel
theorem dX4_init_69 : decode cX4_init 69 = .ok (.putfield 40, 3) := by decide +kernel
theorem dX4_init_72 : decode cX4_init 72 = .ok (.aload_n 0, 1) := by decide +kernel
theorem dX4_init_73 : decode cX4_init 73 = .ok (.iconst 0, 1) := by decide +kernel
theorem dX4_init_74 : decode cX4_init 74 = .ok (.putfield 44, 3) := by decide +kernel
theorem dX4_init_77 : decode cX4_init 77 = .ok (.aload_n 0, 1) := by decide +kernel
theorem dX4_init_78 : decode cX4_init 78 = .ok (.iconst (-1), 1) := by decide +kernel
theorem dX4_init_79 : decode cX4_init 79 = .ok (.putfield 48, 3) := by decide +kernel
theorem dX4_init_82 : decode cX4_init 82 = .ok (.aload_n 0, 1) := by decide +kernel
theorem dX4_init_83 : decode cX4_init 83 = .ok (.iconst (-1), 1) := by decide +kernel
theorem dX4_init_84 : decode cX4_init 84 = .ok (.putfield 51, 3) := by decide +kernel
theorem dX4_init_87 : decode cX4_init 87 = .ok (.return_, 1) := by decide +kernel
theorem dX4_addLine_0 : decode cX4_addLine 0 = .ok (.aload_n 0, 1) := by decide +kernel
theorem dX4_addLine_1 : decode cX4_addLine 1 = .ok (.getfield 10, 3) := by decide +kernel
theorem dX4_addLine_4 : decode cX4_addLine 4 = .ok (.iload_n 1, 1) := by decide +kernel
theorem dX4_addLine_5 : decode cX4_addLine 5 = .ok (.iload_n 2, 1) := by decide +kernel
theorem dX4_addLine_6 : decode cX4_addLine 6 = .ok (.iload_n 3, 1) := by decide +kernel
theorem dX4_addLine_7 : decode cX4_addLine 7 = .ok (.iload 4, 2) := by decide +kernel
theorem dX4_addLine_9 : decode cX4_addLine 9 = .ok (.invokevirtual 54, 3) := by decide +kernel
theorem dX4_addLine_12 : decode cX4_addLine 12 = .ok (.istore 5, 2) := by decide +kernel
theorem dX4_addLine_14 : decode cX4_addLine 14 = .ok (.iload 5, 2) := by decide +kernel
theorem dX4_addLine_16 : decode cX4_addLine 16 = .ok (.iconst 1, 1) := by decide +kernel
theorem dX4_addLine_17 : decode cX4_addLine 17 = .ok (.if_icmp .ne 13, 3) := by decide +kernel
theorem dX4_addLine_20 : decode cX4_addLine 20 = .ok (.new 58, 3) := by decide +kernel
theorem dX4_addLine_23 : decode cX4_addLine 23 = .ok (.dup, 1) := by decide +kernel
theorem dX4_addLine_24 : decode cX4_addLine 24 = .ok (.ldc 60, 2) := by decide +kernel
theorem dX4_addLine_26 : decode cX4_addLine 26 = .ok (.invokespecial 62, 3) := by decide +kernel
theorem dX4_addLine_29 : decode cX4_addLine 29 = .ok (.athrow, 1) := by decide +kernel
theorem dX4_addLine_30 : decode cX4_addLine 30 = .ok (.iload 5, 2) := by decide +kernel
theorem dX4_addLine_32 : decode cX4_addLine 32 = .ok (.iconst 3, 1) := by decide +kernel
theorem dX4_addLine_33 : decode cX4_addLine 33 = .ok (.if_icmp .ne 13, 3) := by decide +kernel
theorem dX4_addLine_36 : decode cX4_addLine 36 = .ok (.new 65, 3) := by decide +kernel
theorem dX4_addLine_39 : decode cX4_addLine 39 = .ok (.dup, 1) := by decide +kernel
theorem dX4_addLine_40 : decode cX4_addLine 40 = .ok (.ldc 67, 2) := by decide +kernel
theorem dX4_addLine_42 : decode cX4_addLine 42 = .ok (.invokespecial 69, 3) := by decide +kernel
theorem dX4_addLine_45 : decode cX4_addLine 45 = .ok (.athrow, 1) := by decide +kernel
theorem dX4_addLine_46 : decode cX4_addLine 46 = .ok (.iload 5, 2) := by decide +kernel
theorem dX4_addLine_48 : decode cX4_addLine 48 = .ok (.iconst 4, 1) := by decide +kernel
theorem dX4_addLine_49 : decode cX4_addLine 49 = .ok (.if_icmp .ne 13, 3) := by decide +kernel
theorem dX4_addLine_52 : decode cX4_addLine 52 = .ok (.new 70, 3) := by decide +kernel
theorem dX4_addLine_55 : decode cX4_addLine 55 = .ok (.dup, 1) := by decide +kernel
theorem dX4_addLine_56 : decode cX4_addLine 56 = .ok (.ldc 72, 2) := by decide +kernel
theorem dX4_addLine_58 : decode cX4_addLine 58 = .ok (.invokespecial 74, 3) := by decide +kernel
theorem dX4_addLine_61 : decode cX4_addLine 61 = .ok (.athrow, 1) := by decide +kernel
theorem dX4_addLine_62 : decode cX4_addLine 62 = .ok (.aload_n 0, 1) := by decide +kernel
theorem dX4_addLine_63 : decode cX4_addLine 63 = .ok (.getfield 25, 3) := by decide +kernel
theorem dX4_addLine_66 : decode cX4_addLine 66 = .ok (.aload_n 0, 1) := by decide +kernel
theorem dX4_addLine_67 : decode cX4_addLine 67 = .ok (.getfield 10, 3) := by decide +kernel
theorem dX4_addLine_70 : decode cX4_addLine 70 = .ok (.invokevirtual 75, 3) := by decide +kernel
theorem dX4_addLine_73 : decode cX4_addLine 73 = .ok (.aload_n 0, 1) := by decide +kernel
theorem dX4_addLine_74 : decode cX4_addLine 74 = .ok (.getfield 10, 3) := by decide +kernel
theorem dX4_addLine_77 : decode cX4_addLine 77 = .ok (.iload_n 1, 1) := by decide +kernel
theorem dX4_addLine_78 : decode cX4_addLine 78 = .ok (.iload_n 2, 1) := by decide +kernel
theorem dX4_addLine_79 : decode cX4_addLine 79 = .ok (.iload_n 3, 1) := by decide +kernel
theorem dX4_addLine_80 : decode cX4_addLine 80 = .ok (.iload 4, 2) := by decide +kernel
theorem dX4_addLine_82 : decode cX4_addLine 82 = .ok (.invokevirtual 79, 3) := by decide +kernel
theorem dX4_addLine_85 : decode cX4_addLine 85 = .ok (.ireturn, 1) := by decide +kernel
theorem dX4_setOrder_0 : decode cX4_setOrder 0 = .ok (.aload_n 0, 1) := by decide +kernel
theorem dX4_setOrder_1 : decode cX4_setOrder 1 = .ok (.getfield 10, 3) := by decide +kernel
theorem dX4_setOrder_4 : decode cX4_setOrder 4 = .ok (.iload_n 1, 1) := by decide +kernel
theorem dX4_setOrder_5 : decode cX4_setOrder 5 = .ok (.iload_n 2, 1) := by decide +kernel
theorem dX4_setOrder_6 : decode cX4_setOrder 6 = .ok (.invokevirtual 82, 3) := by decide +kernel
theorem dX4_setOrder_9 : decode cX4_setOrder 9 = .ok (.istore_n 3, 1) := by decide +kernel
theorem dX4_setOrder_10 : decode cX4_setOrder 10 = .ok (.iload_n 3, 1) := by decide +kernel
theorem dX4_setOrder_11 : decode cX4_setOrder 11 = .ok (.iconst 2, 1) := by decide +kernel
theorem dX4_setOrder_12 : decode cX4_setOrder 12 = .ok (.if_icmp .ne 13, 3) := by decide +kernel
theorem dX4_setOrder_15 : decode cX4_setOrder 15 = .ok (.new 86, 3) := by decide +kernel
theorem dX4_setOrder_18 : decode cX4_setOrder 18 = .ok (.dup, 1) := by decide +kernel
theorem dX4_setOrder_19 : decode cX4_setOrder 19 = .ok (.ldc 88, 2) := by decide +kernel
theorem dX4_setOrder_21 : decode cX4_setOrder 21 = .ok (.invokespecial 90, 3) := by decide +kernel
theorem dX4_setOrder_24 : decode cX4_setOrder 24 = .ok (.athrow, 1) := by decide +kernel
theorem dX4_setOrder_25 : decode cX4_setOrder 25 = .ok (.iload_n 3, 1) := by decide +kernel
theorem dX4_setOrder_26 : decode cX4_setOrder 26 = .ok (.iconst 1, 1) := by decide +kernel
theorem dX4_setOrder_27 : decode cX4_setOrder 27 = .ok (.if_icmp .ne 13, 3) := by decide +kernel
theorem dX4_setOrder_30 : decode cX4_setOrder 30 = .ok (.new 58, 3) := by decide +kernel
theorem dX4_setOrder_33 : decode cX4_setOrder 33 = .ok (.dup, 1) := by decide +kernel
theorem dX4_setOrder_34 : decode cX4_setOrder 34 = .ok (.ldc 91, 2) := by decide +kernel
theorem dX4_setOrder_36 : decode cX4_setOrder 36 = .ok (.invokespecial 62, 3) := by decide +kernel
theorem dX4_setOrder_39 : decode cX4_setOrder 39 = .ok (.athrow, 1) := by decide +kernel
theorem dX4_setOrder_40 : decode cX4_setOrder 40 = .ok (.iload_n 3, 1) := by decide +kernel
theorem dX4_setOrder_41 : decode cX4_setOrder 41 = .ok (.iconst 3, 1) := by decide +kernel
theorem dX4_setOrder_42 : decode cX4_setOrder 42 = .ok (.if_icmp .ne 13, 3) := by decide +kernel
theorem dX4_setOrder_45 : decode cX4_setOrder 45 = .ok (.new 65, 3) := by decide +kernel
theorem dX4_setOrder_48 : decode cX4_setOrder 48 = .ok (.dup, 1) := by decide +kernel
theorem dX4_setOrder_49 : decode cX4_setOrder 49 = .ok (.ldc 93, 2) := by decide +kernel
theorem dX4_setOrder_51 : decode cX4_setOrder 51 = .ok (.invokespecial 69, 3) := by decide +kernel
theorem dX4_setOrder_54 : decode cX4_setOrder 54 = .ok (.athrow, 1) := by decide +kernel
theorem dX4_setOrder_55 : decode cX4_setOrder 55 = .ok (.aload_n 0, 1) := by decide +kernel
theorem dX4_setOrder_56 : decode cX4_setOrder 56 = .ok (.getfield 25, 3) := by decide +kernel
theorem dX4_setOrder_59 : decode cX4_setOrder 59 = .ok (.aload_n 0, 1) := by decide +kernel
theorem dX4_setOrder_60 : decode cX4_setOrder 60 = .ok (.getfield 10, 3) := by decide +kernel
theorem dX4_setOrder_63 : decode cX4_setOrder 63 = .ok (.invokevirtual 75, 3) := by decide +kernel
theorem dX4_setOrder_66 : decode cX4_setOrder 66 = .ok (.aload_n 0, 1) := by decide +kernel
theorem dX4_setOrder_67 : decode cX4_setOrder 67 = .ok (.getfield 10, 3) := by decide +kernel
theorem dX4_setOrder_70 : decode cX4_setOrder 70 = .ok (.iload_n 1, 1) := by decide +kernel
theorem dX4_setOrder_71 : decode cX4_setOrder 71 = .ok (.iload_n 2, 1) := by decide +kernel
theorem dX4_setOrder_72 : decode cX4_setOrder 72 = .ok (.invokevirtual 95, 3) := by decide +kernel
theorem dX4_setOrder_75 : decode cX4_setOrder 75 = .ok (.ireturn, 1) := by decide +kernel
theorem dX4_rally_0 : decode cX4_rally 0 = .ok (.aload_n 0, 1) := by decide +kernel
theorem dX4_rally_1 : decode cX4_rally 1 = .ok (.getfield 10, 3) := by decide +kernel
theorem dX4_rally_4 : decode cX4_rally 4 = .ok (.iload_n 1, 1) := by decide +kernel
theorem dX4_rally_5 : decode cX4_rally 5 = .ok (.invokevirtual 99, 3) := by decide +kernel
theorem dX4_rally_8 : decode cX4_rally 8 = .ok (.istore_n 2, 1) := by decide +kernel
theorem dX4_rally_9 : decode cX4_rally 9 = .ok (.iload_n 2, 1) := by decide +kernel
theorem dX4_rally_10 : decode cX4_rally 10 = .ok (.iconst 2, 1) := by decide +kernel
theorem dX4_rally_11 : decode cX4_rally 11 = .ok (.if_icmp .ne 13, 3) := by decide +kernel
theorem dX4_rally_14 : decode cX4_rally 14 = .ok (.new 86, 3) := by decide +kernel
theorem dX4_rally_17 : decode cX4_rally 17 = .ok (.dup, 1) := by decide +kernel
theorem dX4_rally_18 : decode cX4_rally 18 = .ok (.ldc 88, 2) := by decide +kernel
theorem dX4_rally_20 : decode cX4_rally 20 = .ok (.invokespecial 90, 3) := by decide +kernel
theorem dX4_rally_23 : decode cX4_rally 23 = .ok (.athrow, 1) := by decide +kernel
theorem dX4_rally_24 : decode cX4_rally 24 = .ok (.iload_n 2, 1) := by decide +kernel
theorem dX4_rally_25 : decode cX4_rally 25 = .ok (.iconst 3, 1) := by decide +kernel
theorem dX4_rally_26 : decode cX4_rally 26 = .ok (.if_icmp .ne 13, 3) := by decide +kernel
theorem dX4_rally_29 : decode cX4_rally 29 = .ok (.new 65, 3) := by decide +kernel
theorem dX4_rally_32 : decode cX4_rally 32 = .ok (.dup, 1) := by decide +kernel
theorem dX4_rally_33 : decode cX4_rally 33 = .ok (.ldc 103, 2) := by decide +kernel
theorem dX4_rally_35 : decode cX4_rally 35 = .ok (.invokespecial 69, 3) := by decide +kernel
theorem dX4_rally_38 : decode cX4_rally 38 = .ok (.athrow, 1) := by decide +kernel
theorem dX4_rally_39 : decode cX4_rally 39 = .ok (.iload_n 2, 1) := by decide +kernel
theorem dX4_rally_40 : decode cX4_rally 40 = .ok (.iconst 4, 1) := by decide +kernel
theorem dX4_rally_41 : decode cX4_rally 41 = .ok (.if_icmp .ne 13, 3) := by decide +kernel
theorem dX4_rally_44 : decode cX4_rally 44 = .ok (.new 70, 3) := by decide +kernel
theorem dX4_rally_47 : decode cX4_rally 47 = .ok (.dup, 1) := by decide +kernel
theorem dX4_rally_48 : decode cX4_rally 48 = .ok (.ldc 105, 2) := by decide +kernel
theorem dX4_rally_50 : decode cX4_rally 50 = .ok (.invokespecial 74, 3) := by decide +kernel
theorem dX4_rally_53 : decode cX4_rally 53 = .ok (.athrow, 1) := by decide +kernel
theorem dX4_rally_54 : decode cX4_rally 54 = .ok (.aload_n 0, 1) := by decide +kernel
theorem dX4_rally_55 : decode cX4_rally 55 = .ok (.getfield 25, 3) := by decide +kernel
theorem dX4_rally_58 : decode cX4_rally 58 = .ok (.aload_n 0, 1) := by decide +kernel
theorem dX4_rally_59 : decode cX4_rally 59 = .ok (.getfield 10, 3) := by decide +kernel
theorem dX4_rally_62 : decode cX4_rally 62 = .ok (.invokevirtual 75, 3) := by decide +kernel
theorem dX4_rally_65 : decode cX4_rally 65 = .ok (.aload_n 0, 1) := by decide +kernel
theorem dX4_rally_66 : decode cX4_rally 66 = .ok (.getfield 10, 3) := by decide +kernel
theorem dX4_rally_69 : decode cX4_rally 69 = .ok (.iload_n 1, 1) := by decide +kernel
theorem dX4_rally_70 : decode cX4_rally 70 = .ok (.invokevirtual 107, 3) := by decide +kernel
theorem dX4_rally_73 : decode cX4_rally 73 = .ok (.ireturn, 1) := by decide +kernel
theorem dX4_turn_0 : decode cX4_turn 0 = .ok (.aload_n 0, 1) := by decide +kernel
theorem dX4_turn_1 : decode cX4_turn 1 = .ok (.getfield 25, 3) := by decide +kernel
theorem dX4_turn_4 : decode cX4_turn 4 = .ok (.aload_n 0, 1) := by decide +kernel
theorem dX4_turn_5 : decode cX4_turn 5 = .ok (.getfield 10, 3) := by decide +kernel
theorem dX4_turn_8 : decode cX4_turn 8 = .ok (.invokevirtual 75, 3) := by decide +kernel
theorem dX4_turn_11 : decode cX4_turn 11 = .ok (.aload_n 0, 1) := by decide +kernel
theorem dX4_turn_12 : decode cX4_turn 12 = .ok (.getfield 10, 3) := by decide +kernel
theorem dX4_turn_15 : decode cX4_turn 15 = .ok (.invokevirtual 110, 3) := by decide +kernel
theorem dX4_turn_18 : decode cX4_turn 18 = .ok (.ireturn, 1) := by decide +kernel
theorem dX4_lineCount_0 : decode cX4_lineCount 0 = .ok (.aload_n 0, 1) := by decide +kernel
theorem dX4_lineCount_1 : decode cX4_lineCount 1 = .ok (.getfield 10, 3) := by decide +kernel
theorem dX4_lineCount_4 : decode cX4_lineCount 4 = .ok (.getfield 114, 3) := by decide +kernel
theorem dX4_lineCount_7 : decode cX4_lineCount 7 = .ok (.ireturn, 1) := by decide +kernel
theorem dX4_sideOf_0 : decode cX4_sideOf 0 = .ok (.aload_n 0, 1) := by decide +kernel
theorem dX4_sideOf_1 : decode cX4_sideOf 1 = .ok (.iload_n 1, 1) := by decide +kernel
theorem dX4_sideOf_2 : decode cX4_sideOf 2 = .ok (.invokevirtual 117, 3) := by decide +kernel
theorem dX4_sideOf_5 : decode cX4_sideOf 5 = .ok (.getfield 121, 3) := by decide +kernel
theorem dX4_sideOf_8 : decode cX4_sideOf 8 = .ok (.ireturn, 1) := by decide +kernel
theorem dX4_laneOf_0 : decode cX4_laneOf 0 = .ok (.aload_n 0, 1) := by decide +kernel
theorem dX4_laneOf_1 : decode cX4_laneOf 1 = .ok (.iload_n 1, 1) := by decide +kernel
theorem dX4_laneOf_2 : decode cX4_laneOf 2 = .ok (.invokevirtual 126, 3) := by decide +kernel
theorem dX4_laneOf_5 : decode cX4_laneOf 5 = .ok (.getfield 129, 3) := by decide +kernel
theorem dX4_laneOf_8 : decode cX4_laneOf 8 = .ok (.ireturn, 1) := by decide +kernel
theorem dX4_columnOf_0 : decode cX4_columnOf 0 = .ok (.aload_n 0, 1) := by decide +kernel
theorem dX4_columnOf_1 : decode cX4_columnOf 1 = .ok (.iload_n 1, 1) := by decide +kernel
theorem dX4_columnOf_2 : decode cX4_columnOf 2 = .ok (.invokevirtual 126, 3) := by decide +kernel
theorem dX4_columnOf_5 : decode cX4_columnOf 5 = .ok (.getfield 132, 3) := by decide +kernel
theorem dX4_columnOf_8 : decode cX4_columnOf 8 = .ok (.ireturn, 1) := by decide +kernel
theorem dX4_kindOf_0 : decode cX4_kindOf 0 = .ok (.aload_n 0, 1) := by decide +kernel
theorem dX4_kindOf_1 : decode cX4_kindOf 1 = .ok (.iload_n 1, 1) := by decide +kernel
theorem dX4_kindOf_2 : decode cX4_kindOf 2 = .ok (.invokevirtual 117, 3) := by decide +kernel
theorem dX4_kindOf_5 : decode cX4_kindOf 5 = .ok (.getfield 135, 3) := by decide +kernel
theorem dX4_kindOf_8 : decode cX4_kindOf 8 = .ok (.ireturn, 1) := by decide +kernel
theorem dX4_strengthOf_0 : decode cX4_strengthOf 0 = .ok (.aload_n 0, 1) := by decide +kernel
theorem dX4_strengthOf_1 : decode cX4_strengthOf 1 = .ok (.iload_n 1, 1) := by decide +kernel
theorem dX4_strengthOf_2 : decode cX4_strengthOf 2 = .ok (.invokevirtual 117, 3) := by decide +kernel
theorem dX4_strengthOf_5 : decode cX4_strengthOf 5 = .ok (.getfield 139, 3) := by decide +kernel
theorem dX4_strengthOf_8 : decode cX4_strengthOf 8 = .ok (.ireturn, 1) := by decide +kernel
theorem dX4_moraleOf_0 : decode cX4_moraleOf 0 = .ok (.aload_n 0, 1) := by decide +kernel
theorem dX4_moraleOf_1 : decode cX4_moraleOf 1 = .ok (.iload_n 1, 1) := by decide +kernel
theorem dX4_moraleOf_2 : decode cX4_moraleOf 2 = .ok (.invokevirtual 117, 3) := by decide +kernel
theorem dX4_moraleOf_5 : decode cX4_moraleOf 5 = .ok (.getfield 142, 3) := by decide +kernel
theorem dX4_moraleOf_8 : decode cX4_moraleOf 8 = .ok (.ireturn, 1) := by decide +kernel
theorem dX4_orderOf_0 : decode cX4_orderOf 0 = .ok (.aload_n 0, 1) := by decide +kernel
theorem dX4_orderOf_1 : decode cX4_orderOf 1 = .ok (.iload_n 1, 1) := by decide +kernel
theorem dX4_orderOf_2 : decode cX4_orderOf 2 = .ok (.invokevirtual 117, 3) := by decide +kernel
theorem dX4_orderOf_5 : decode cX4_orderOf 5 = .ok (.astore_n 2, 1) := by decide +kernel
theorem dX4_orderOf_6 : decode cX4_orderOf 6 = .ok (.aload_n 2, 1) := by decide +kernel
theorem dX4_orderOf_7 : decode cX4_orderOf 7 = .ok (.invokevirtual 145, 3) := by decide +kernel
theorem dX4_orderOf_10 : decode cX4_orderOf 10 = .ok (.ifCond .ne 13, 3) := by decide +kernel
theorem dX4_orderOf_13 : decode cX4_orderOf 13 = .ok (.new 65, 3) := by decide +kernel
theorem dX4_orderOf_16 : decode cX4_orderOf 16 = .ok (.dup, 1) := by decide +kernel
theorem dX4_orderOf_17 : decode cX4_orderOf 17 = .ok (.ldc 93, 2) := by decide +kernel
theorem dX4_orderOf_19 : decode cX4_orderOf 19 = .ok (.invokespecial 69, 3) := by decide +kernel
theorem dX4_orderOf_22 : decode cX4_orderOf 22 = .ok (.athrow, 1) := by decide +kernel
theorem dX4_orderOf_23 : decode cX4_orderOf 23 = .ok (.aload_n 2, 1) := by decide +kernel
theorem dX4_orderOf_24 : decode cX4_orderOf 24 = .ok (.getfield 149, 3) := by decide +kernel
theorem dX4_orderOf_27 : decode cX4_orderOf 27 = .ok (.ireturn, 1) := by decide +kernel
theorem dX4_isStanding_0 : decode cX4_isStanding 0 = .ok (.aload_n 0, 1) := by decide +kernel
theorem dX4_isStanding_1 : decode cX4_isStanding 1 = .ok (.iload_n 1, 1) := by decide +kernel
theorem dX4_isStanding_2 : decode cX4_isStanding 2 = .ok (.invokevirtual 117, 3) := by decide +kernel
theorem dX4_isStanding_5 : decode cX4_isStanding 5 = .ok (.invokevirtual 145, 3) := by decide +kernel
theorem dX4_isStanding_8 : decode cX4_isStanding 8 = .ok (.ireturn, 1) := by decide +kernel
theorem dX4_isRouted_0 : decode cX4_isRouted 0 = .ok (.aload_n 0, 1) := by decide +kernel
theorem dX4_isRouted_1 : decode cX4_isRouted 1 = .ok (.iload_n 1, 1) := by decide +kernel
theorem dX4_isRouted_2 : decode cX4_isRouted 2 = .ok (.invokevirtual 117, 3) := by decide +kernel
theorem dX4_isRouted_5 : decode cX4_isRouted 5 = .ok (.invokevirtual 152, 3) := by decide +kernel
theorem dX4_isRouted_8 : decode cX4_isRouted 8 = .ok (.ireturn, 1) := by decide +kernel
theorem dX4_routedTurns_0 : decode cX4_routedTurns 0 = .ok (.aload_n 0, 1) := by decide +kernel
theorem dX4_routedTurns_1 : decode cX4_routedTurns 1 = .ok (.iload_n 1, 1) := by decide +kernel
theorem dX4_routedTurns_2 : decode cX4_routedTurns 2 = .ok (.invokevirtual 117, 3) := by decide +kernel
theorem dX4_routedTurns_5 : decode cX4_routedTurns 5 = .ok (.getfield 155, 3) := by decide +kernel
theorem dX4_routedTurns_8 : decode cX4_routedTurns 8 = .ok (.ireturn, 1) := by decide +kernel
theorem dX4_lineIn_0 : decode cX4_lineIn 0 = .ok (.iload_n 1, 1) := by decide +kernel
theorem dX4_lineIn_1 : decode cX4_lineIn 1 = .ok (.invokestatic 158, 3) := by decide +kernel
theorem dX4_lineIn_4 : decode cX4_lineIn 4 = .ok (.ifCond .eq 10, 3) := by decide +kernel
theorem dX4_lineIn_7 : decode cX4_lineIn 7 = .ok (.iload_n 2, 1) := by decide +kernel
theorem dX4_lineIn_8 : decode cX4_lineIn 8 = .ok (.invokestatic 162, 3) := by decide +kernel
theorem dX4_lineIn_11 : decode cX4_lineIn 11 = .ok (.ifCond .ne 13, 3) := by decide +kernel
theorem dX4_lineIn_14 : decode cX4_lineIn 14 = .ok (.new 86, 3) := by decide +kernel
theorem dX4_lineIn_17 : decode cX4_lineIn 17 = .ok (.dup, 1) := by decide +kernel
theorem dX4_lineIn_18 : decode cX4_lineIn 18 = .ok (.ldc 165, 2) := by decide +kernel
theorem dX4_lineIn_20 : decode cX4_lineIn 20 = .ok (.invokespecial 90, 3) := by decide +kernel
theorem dX4_lineIn_23 : decode cX4_lineIn 23 = .ok (.athrow, 1) := by decide +kernel
theorem dX4_lineIn_24 : decode cX4_lineIn 24 = .ok (.aload_n 0, 1) := by decide +kernel
theorem dX4_lineIn_25 : decode cX4_lineIn 25 = .ok (.getfield 10, 3) := by decide +kernel
theorem dX4_lineIn_28 : decode cX4_lineIn 28 = .ok (.iload_n 1, 1) := by decide +kernel
theorem dX4_lineIn_29 : decode cX4_lineIn 29 = .ok (.iload_n 2, 1) := by decide +kernel
theorem dX4_lineIn_30 : decode cX4_lineIn 30 = .ok (.invokevirtual 167, 3) := by decide +kernel
theorem dX4_lineIn_33 : decode cX4_lineIn 33 = .ok (.astore_n 3, 1) := by decide +kernel
theorem dX4_lineIn_34 : decode cX4_lineIn 34 = .ok (.aload_n 3, 1) := by decide +kernel
theorem dX4_lineIn_35 : decode cX4_lineIn 35 = .ok (.ifnonnull 13, 3) := by decide +kernel
theorem dX4_lineIn_38 : decode cX4_lineIn 38 = .ok (.new 171, 3) := by decide +kernel
theorem dX4_lineIn_41 : decode cX4_lineIn 41 = .ok (.dup, 1) := by decide +kernel
theorem dX4_lineIn_42 : decode cX4_lineIn 42 = .ok (.ldc 173, 2) := by decide +kernel
theorem dX4_lineIn_44 : decode cX4_lineIn 44 = .ok (.invokespecial 175, 3) := by decide +kernel
theorem dX4_lineIn_47 : decode cX4_lineIn 47 = .ok (.athrow, 1) := by decide +kernel
theorem dX4_lineIn_48 : decode cX4_lineIn 48 = .ok (.aload_n 3, 1) := by decide +kernel
theorem dX4_lineIn_49 : decode cX4_lineIn 49 = .ok (.getfield 176, 3) := by decide +kernel
theorem dX4_lineIn_52 : decode cX4_lineIn 52 = .ok (.ireturn, 1) := by decide +kernel
theorem dX4_attackOf_0 : decode cX4_attackOf 0 = .ok (.aload_n 0, 1) := by decide +kernel
theorem dX4_attackOf_1 : decode cX4_attackOf 1 = .ok (.iload_n 1, 1) := by decide +kernel
theorem dX4_attackOf_2 : decode cX4_attackOf 2 = .ok (.invokevirtual 117, 3) := by decide +kernel
theorem dX4_attackOf_5 : decode cX4_attackOf 5 = .ok (.iconst 0, 1) := by decide +kernel
theorem dX4_attackOf_6 : decode cX4_attackOf 6 = .ok (.invokevirtual 179, 3) := by decide +kernel
theorem dX4_attackOf_9 : decode cX4_attackOf 9 = .ok (.ireturn, 1) := by decide +kernel
theorem dX4_counterOf_0 : decode cX4_counterOf 0 = .ok (.aload_n 0, 1) := by decide +kernel
theorem dX4_counterOf_1 : decode cX4_counterOf 1 = .ok (.iload_n 1, 1) := by decide +kernel
theorem dX4_counterOf_2 : decode cX4_counterOf 2 = .ok (.invokevirtual 117, 3) := by decide +kernel
theorem dX4_counterOf_5 : decode cX4_counterOf 5 = .ok (.invokevirtual 183, 3) := by decide +kernel
theorem dX4_counterOf_8 : decode cX4_counterOf 8 = .ok (.ireturn, 1) := by decide +kernel
theorem dX4_supportOf_0 : decode cX4_supportOf 0 = .ok (.aload_n 0, 1) := by decide +kernel
theorem dX4_supportOf_1 : decode cX4_supportOf 1 = .ok (.getfield 10, 3) := by decide +kernel
theorem dX4_supportOf_4 : decode cX4_supportOf 4 = .ok (.aload_n 0, 1) := by decide +kernel
theorem dX4_supportOf_5 : decode cX4_supportOf 5 = .ok (.iload_n 1, 1) := by decide +kernel
theorem dX4_supportOf_6 : decode cX4_supportOf 6 = .ok (.invokevirtual 126, 3) := by decide +kernel
theorem dX4_supportOf_9 : decode cX4_supportOf 9 = .ok (.invokevirtual 186, 3) := by decide +kernel
theorem dX4_supportOf_12 : decode cX4_supportOf 12 = .ok (.ireturn, 1) := by decide +kernel
theorem dX4_supportByLines_0 : decode cX4_supportByLines 0 = .ok (.aload_n 0, 1) := by decide +kernel
theorem dX4_supportByLines_1 : decode cX4_supportByLines 1 = .ok (.getfield 10, 3) := by decide +kernel
theorem dX4_supportByLines_4 : decode cX4_supportByLines 4 = .ok (.aload_n 0, 1) := by decide +kernel
theorem dX4_supportByLines_5 : decode cX4_supportByLines 5 = .ok (.iload_n 1, 1) := by decide +kernel
theorem dX4_supportByLines_6 : decode cX4_supportByLines 6 = .ok (.invokevirtual 126, 3) := by decide +kernel
theorem dX4_supportByLines_9 : decode cX4_supportByLines 9 = .ok (.invokevirtual 190, 3) := by decide +kernel
theorem dX4_supportByLines_12 : decode cX4_supportByLines 12 = .ok (.ireturn, 1) := by decide +kernel
theorem dX4_enemyAhead_0 : decode cX4_enemyAhead 0 = .ok (.aload_n 0, 1) := by decide +kernel
theorem dX4_enemyAhead_1 : decode cX4_enemyAhead 1 = .ok (.getfield 10, 3) := by decide +kernel
theorem dX4_enemyAhead_4 : decode cX4_enemyAhead 4 = .ok (.aload_n 0, 1) := by decide +kernel
theorem dX4_enemyAhead_5 : decode cX4_enemyAhead 5 = .ok (.iload_n 1, 1) := by decide +kernel
theorem dX4_enemyAhead_6 : decode cX4_enemyAhead 6 = .ok (.invokevirtual 126, 3) := by decide +kernel
theorem dX4_enemyAhead_9 : decode cX4_enemyAhead 9 = .ok (.invokevirtual 193, 3) := by decide +kernel
theorem dX4_enemyAhead_12 : decode cX4_enemyAhead 12 = .ok (.istore_n 2, 1) := by decide +kernel
theorem dX4_enemyAhead_13 : decode cX4_enemyAhead 13 = .ok (.iload_n 2, 1) := by decide +kernel
theorem dX4_enemyAhead_14 : decode cX4_enemyAhead 14 = .ok (.iconst (-1), 1) := by decide +kernel
theorem dX4_enemyAhead_15 : decode cX4_enemyAhead 15 = .ok (.if_icmp .ne 13, 3) := by decide +kernel
theorem dX4_enemyAhead_18 : decode cX4_enemyAhead 18 = .ok (.new 171, 3) := by decide +kernel
theorem dX4_enemyAhead_21 : decode cX4_enemyAhead 21 = .ok (.dup, 1) := by decide +kernel
theorem dX4_enemyAhead_22 : decode cX4_enemyAhead 22 = .ok (.ldc 196, 2) := by decide +kernel
theorem dX4_enemyAhead_24 : decode cX4_enemyAhead 24 = .ok (.invokespecial 175, 3) := by decide +kernel
theorem dX4_enemyAhead_27 : decode cX4_enemyAhead 27 = .ok (.athrow, 1) := by decide +kernel
theorem dX4_enemyAhead_28 : decode cX4_enemyAhead 28 = .ok (.iload_n 2, 1) := by decide +kernel
theorem dX4_enemyAhead_29 : decode cX4_enemyAhead 29 = .ok (.ireturn, 1) := by decide +kernel
theorem dX4_enemyByDistances_0 : decode cX4_enemyByDistances 0 = .ok (.aload_n 0, 1) := by decide +kernel
theorem dX4_enemyByDistances_1 : decode cX4_enemyByDistances 1 = .ok (.getfield 10, 3) := by decide +kernel
theorem dX4_enemyByDistances_4 : decode cX4_enemyByDistances 4 = .ok (.aload_n 0, 1) := by decide +kernel
theorem dX4_enemyByDistances_5 : decode cX4_enemyByDistances 5 = .ok (.iload_n 1, 1) := by decide +kernel
theorem dX4_enemyByDistances_6 : decode cX4_enemyByDistances 6 = .ok (.invokevirtual 126, 3) := by decide +kernel
theorem dX4_enemyByDistances_9 : decode cX4_enemyByDistances 9 = .ok (.invokevirtual 198, 3) := by decide +kernel
theorem dX4_enemyByDistances_12 : decode cX4_enemyByDistances 12 = .ok (.istore_n 2, 1) := by decide +kernel
theorem dX4_enemyByDistances_13 : decode cX4_enemyByDistances 13 = .ok (.iload_n 2, 1) := by decide +kernel
theorem dX4_enemyByDistances_14 : decode cX4_enemyByDistances 14 = .ok (.iconst (-1), 1) := by decide +kernel
theorem dX4_enemyByDistances_15 : decode cX4_enemyByDistances 15 = .ok (.if_icmp .ne 13, 3) := by decide +kernel
theorem dX4_enemyByDistances_18 : decode cX4_enemyByDistances 18 = .ok (.new 171, 3) := by decide +kernel
theorem dX4_enemyByDistances_21 : decode cX4_enemyByDistances 21 = .ok (.dup, 1) := by decide +kernel
theorem dX4_enemyByDistances_22 : decode cX4_enemyByDistances 22 = .ok (.ldc 196, 2) := by decide +kernel
theorem dX4_enemyByDistances_24 : decode cX4_enemyByDistances 24 = .ok (.invokespecial 175, 3) := by decide +kernel
theorem dX4_enemyByDistances_27 : decode cX4_enemyByDistances 27 = .ok (.athrow, 1) := by decide +kernel
theorem dX4_enemyByDistances_28 : decode cX4_enemyByDistances 28 = .ok (.iload_n 2, 1) := by decide +kernel
theorem dX4_enemyByDistances_29 : decode cX4_enemyByDistances 29 = .ok (.ireturn, 1) := by decide +kernel
theorem dX4_fightCount_0 : decode cX4_fightCount 0 = .ok (.aload_n 0, 1) := by decide +kernel
theorem dX4_fightCount_1 : decode cX4_fightCount 1 = .ok (.getfield 10, 3) := by decide +kernel
theorem dX4_fightCount_4 : decode cX4_fightCount 4 = .ok (.getfield 201, 3) := by decide +kernel
theorem dX4_fightCount_7 : decode cX4_fightCount 7 = .ok (.ireturn, 1) := by decide +kernel
theorem dX4_turnsUntilFight_0 : decode cX4_turnsUntilFight 0 = .ok (.aload_n 0, 1) := by decide +kernel
theorem dX4_turnsUntilFight_1 : decode cX4_turnsUntilFight 1 = .ok (.getfield 19, 3) := by decide +kernel
theorem dX4_turnsUntilFight_4 : decode cX4_turnsUntilFight 4 = .ok (.aload_n 0, 1) := by decide +kernel
theorem dX4_turnsUntilFight_5 : decode cX4_turnsUntilFight 5 = .ok (.getfield 10, 3) := by decide +kernel
theorem dX4_turnsUntilFight_8 : decode cX4_turnsUntilFight 8 = .ok (.invokevirtual 204, 3) := by decide +kernel
theorem dX4_turnsUntilFight_11 : decode cX4_turnsUntilFight 11 = .ok (.iconst 1, 1) := by decide +kernel
theorem dX4_turnsUntilFight_12 : decode cX4_turnsUntilFight 12 = .ok (.istore_n 1, 1) := by decide +kernel
theorem dX4_turnsUntilFight_13 : decode cX4_turnsUntilFight 13 = .ok (.iload_n 1, 1) := by decide +kernel
theorem dX4_turnsUntilFight_14 : decode cX4_turnsUntilFight 14 = .ok (.bipush 20, 2) := by decide +kernel
theorem dX4_turnsUntilFight_16 : decode cX4_turnsUntilFight 16 = .ok (.if_icmp .gt 21, 3) := by decide +kernel
theorem dX4_turnsUntilFight_19 : decode cX4_turnsUntilFight 19 = .ok (.aload_n 0, 1) := by decide +kernel
theorem dX4_turnsUntilFight_20 : decode cX4_turnsUntilFight 20 = .ok (.getfield 19, 3) := by decide +kernel
theorem dX4_turnsUntilFight_23 : decode cX4_turnsUntilFight 23 = .ok (.invokevirtual 110, 3) := by decide +kernel
theorem dX4_turnsUntilFight_26 : decode cX4_turnsUntilFight 26 = .ok (.ifCond .le 5, 3) := by decide +kernel
theorem dX4_turnsUntilFight_29 : decode cX4_turnsUntilFight 29 = .ok (.iload_n 1, 1) := by decide +kernel
theorem dX4_turnsUntilFight_30 : decode cX4_turnsUntilFight 30 = .ok (.ireturn, 1) := by decide +kernel
theorem dX4_turnsUntilFight_31 : decode cX4_turnsUntilFight 31 = .ok (.iinc 1 1, 3) := by decide +kernel
theorem dX4_turnsUntilFight_34 : decode cX4_turnsUntilFight 34 = .ok (.goto (-21), 3) := by decide +kernel
theorem dX4_turnsUntilFight_37 : decode cX4_turnsUntilFight 37 = .ok (.new 171, 3) := by decide +kernel
theorem dX4_turnsUntilFight_40 : decode cX4_turnsUntilFight 40 = .ok (.dup, 1) := by decide +kernel
theorem dX4_turnsUntilFight_41 : decode cX4_turnsUntilFight 41 = .ok (.ldc 207, 2) := by decide +kernel
theorem dX4_turnsUntilFight_43 : decode cX4_turnsUntilFight 43 = .ok (.invokespecial 175, 3) := by decide +kernel
theorem dX4_turnsUntilFight_46 : decode cX4_turnsUntilFight 46 = .ok (.athrow, 1) := by decide +kernel
theorem dX4_jarsOf_0 : decode cX4_jarsOf 0 = .ok (.iload_n 1, 1) := by decide +kernel
theorem dX4_jarsOf_1 : decode cX4_jarsOf 1 = .ok (.invokestatic 209, 3) := by decide +kernel
theorem dX4_jarsOf_4 : decode cX4_jarsOf 4 = .ok (.aload_n 0, 1) := by decide +kernel
theorem dX4_jarsOf_5 : decode cX4_jarsOf 5 = .ok (.getfield 10, 3) := by decide +kernel
theorem dX4_jarsOf_8 : decode cX4_jarsOf 8 = .ok (.iload_n 1, 1) := by decide +kernel
theorem dX4_jarsOf_9 : decode cX4_jarsOf 9 = .ok (.invokevirtual 213, 3) := by decide +kernel
theorem dX4_jarsOf_12 : decode cX4_jarsOf 12 = .ok (.ireturn, 1) := by decide +kernel
theorem dX4_strengthOfSide_0 : decode cX4_strengthOfSide 0 = .ok (.iload_n 1, 1) := by decide +kernel
theorem dX4_strengthOfSide_1 : decode cX4_strengthOfSide 1 = .ok (.invokestatic 209, 3) := by decide +kernel
theorem dX4_strengthOfSide_4 : decode cX4_strengthOfSide 4 = .ok (.aload_n 0, 1) := by decide +kernel
theorem dX4_strengthOfSide_5 : decode cX4_strengthOfSide 5 = .ok (.getfield 10, 3) := by decide +kernel
theorem dX4_strengthOfSide_8 : decode cX4_strengthOfSide 8 = .ok (.iload_n 1, 1) := by decide +kernel
theorem dX4_strengthOfSide_9 : decode cX4_strengthOfSide 9 = .ok (.invokevirtual 216, 3) := by decide +kernel
theorem dX4_strengthOfSide_12 : decode cX4_strengthOfSide 12 = .ok (.ireturn, 1) := by decide +kernel
theorem dX4_strengthByCells_0 : decode cX4_strengthByCells 0 = .ok (.iload_n 1, 1) := by decide +kernel
theorem dX4_strengthByCells_1 : decode cX4_strengthByCells 1 = .ok (.invokestatic 209, 3) := by decide +kernel
theorem dX4_strengthByCells_4 : decode cX4_strengthByCells 4 = .ok (.aload_n 0, 1) := by decide +kernel
theorem dX4_strengthByCells_5 : decode cX4_strengthByCells 5 = .ok (.getfield 10, 3) := by decide +kernel
theorem dX4_strengthByCells_8 : decode cX4_strengthByCells 8 = .ok (.iload_n 1, 1) := by decide +kernel
theorem dX4_strengthByCells_9 : decode cX4_strengthByCells 9 = .ok (.invokevirtual 219, 3) := by decide +kernel
theorem dX4_strengthByCells_12 : decode cX4_strengthByCells 12 = .ok (.ireturn, 1) := by decide +kernel
theorem dX4_fallenOf_0 : decode cX4_fallenOf 0 = .ok (.iload_n 1, 1) := by decide +kernel
theorem dX4_fallenOf_1 : decode cX4_fallenOf 1 = .ok (.invokestatic 209, 3) := by decide +kernel
theorem dX4_fallenOf_4 : decode cX4_fallenOf 4 = .ok (.aload_n 0, 1) := by decide +kernel
theorem dX4_fallenOf_5 : decode cX4_fallenOf 5 = .ok (.getfield 10, 3) := by decide +kernel
theorem dX4_fallenOf_8 : decode cX4_fallenOf 8 = .ok (.iload_n 1, 1) := by decide +kernel
theorem dX4_fallenOf_9 : decode cX4_fallenOf 9 = .ok (.invokevirtual 222, 3) := by decide +kernel
theorem dX4_fallenOf_12 : decode cX4_fallenOf 12 = .ok (.ireturn, 1) := by decide +kernel
theorem dX4_frontOf_0 : decode cX4_frontOf 0 = .ok (.iload_n 1, 1) := by decide +kernel
theorem dX4_frontOf_1 : decode cX4_frontOf 1 = .ok (.invokestatic 225, 3) := by decide +kernel
theorem dX4_frontOf_4 : decode cX4_frontOf 4 = .ok (.ifCond .eq 10, 3) := by decide +kernel
theorem dX4_frontOf_7 : decode cX4_frontOf 7 = .ok (.iload_n 2, 1) := by decide +kernel
theorem dX4_frontOf_8 : decode cX4_frontOf 8 = .ok (.invokestatic 158, 3) := by decide +kernel
theorem dX4_frontOf_11 : decode cX4_frontOf 11 = .ok (.ifCond .ne 13, 3) := by decide +kernel
theorem dX4_frontOf_14 : decode cX4_frontOf 14 = .ok (.new 58, 3) := by decide +kernel
theorem dX4_frontOf_17 : decode cX4_frontOf 17 = .ok (.dup, 1) := by decide +kernel
theorem dX4_frontOf_18 : decode cX4_frontOf 18 = .ok (.ldc 228, 2) := by decide +kernel
theorem dX4_frontOf_20 : decode cX4_frontOf 20 = .ok (.invokespecial 62, 3) := by decide +kernel
theorem dX4_frontOf_23 : decode cX4_frontOf 23 = .ok (.athrow, 1) := by decide +kernel
theorem dX4_frontOf_24 : decode cX4_frontOf 24 = .ok (.aload_n 0, 1) := by decide +kernel
theorem dX4_frontOf_25 : decode cX4_frontOf 25 = .ok (.getfield 10, 3) := by decide +kernel
theorem dX4_frontOf_28 : decode cX4_frontOf 28 = .ok (.iload_n 1, 1) := by decide +kernel
theorem dX4_frontOf_29 : decode cX4_frontOf 29 = .ok (.iload_n 2, 1) := by decide +kernel
theorem dX4_frontOf_30 : decode cX4_frontOf 30 = .ok (.invokevirtual 230, 3) := by decide +kernel
theorem dX4_frontOf_33 : decode cX4_frontOf 33 = .ok (.istore_n 3, 1) := by decide +kernel
theorem dX4_frontOf_34 : decode cX4_frontOf 34 = .ok (.iload_n 3, 1) := by decide +kernel
theorem dX4_frontOf_35 : decode cX4_frontOf 35 = .ok (.iconst (-1), 1) := by decide +kernel
theorem dX4_frontOf_36 : decode cX4_frontOf 36 = .ok (.if_icmp .ne 13, 3) := by decide +kernel
theorem dX4_frontOf_39 : decode cX4_frontOf 39 = .ok (.new 171, 3) := by decide +kernel
theorem dX4_frontOf_42 : decode cX4_frontOf 42 = .ok (.dup, 1) := by decide +kernel
theorem dX4_frontOf_43 : decode cX4_frontOf 43 = .ok (.ldc 234, 2) := by decide +kernel
theorem dX4_frontOf_45 : decode cX4_frontOf 45 = .ok (.invokespecial 175, 3) := by decide +kernel
theorem dX4_frontOf_48 : decode cX4_frontOf 48 = .ok (.athrow, 1) := by decide +kernel
theorem dX4_frontOf_49 : decode cX4_frontOf 49 = .ok (.iload_n 3, 1) := by decide +kernel
theorem dX4_frontOf_50 : decode cX4_frontOf 50 = .ok (.ireturn, 1) := by decide +kernel
theorem dX4_leader_0 : decode cX4_leader 0 = .ok (.aload_n 0, 1) := by decide +kernel
theorem dX4_leader_1 : decode cX4_leader 1 = .ok (.getfield 10, 3) := by decide +kernel
theorem dX4_leader_4 : decode cX4_leader 4 = .ok (.iconst 0, 1) := by decide +kernel
theorem dX4_leader_5 : decode cX4_leader 5 = .ok (.invokevirtual 216, 3) := by decide +kernel
theorem dX4_leader_8 : decode cX4_leader 8 = .ok (.aload_n 0, 1) := by decide +kernel
theorem dX4_leader_9 : decode cX4_leader 9 = .ok (.getfield 10, 3) := by decide +kernel
theorem dX4_leader_12 : decode cX4_leader 12 = .ok (.iconst 1, 1) := by decide +kernel
theorem dX4_leader_13 : decode cX4_leader 13 = .ok (.invokevirtual 216, 3) := by decide +kernel
theorem dX4_leader_16 : decode cX4_leader 16 = .ok (.isub, 1) := by decide +kernel
theorem dX4_leader_17 : decode cX4_leader 17 = .ok (.istore_n 1, 1) := by decide +kernel
theorem dX4_leader_18 : decode cX4_leader 18 = .ok (.iload_n 1, 1) := by decide +kernel
theorem dX4_leader_19 : decode cX4_leader 19 = .ok (.ifCond .ne 13, 3) := by decide +kernel
theorem dX4_leader_22 : decode cX4_leader 22 = .ok (.new 171, 3) := by decide +kernel
theorem dX4_leader_25 : decode cX4_leader 25 = .ok (.dup, 1) := by decide +kernel
theorem dX4_leader_26 : decode cX4_leader 26 = .ok (.ldc 236, 2) := by decide +kernel
theorem dX4_leader_28 : decode cX4_leader 28 = .ok (.invokespecial 175, 3) := by decide +kernel
theorem dX4_leader_31 : decode cX4_leader 31 = .ok (.athrow, 1) := by decide +kernel
theorem dX4_leader_32 : decode cX4_leader 32 = .ok (.iload_n 1, 1) := by decide +kernel
theorem dX4_leader_33 : decode cX4_leader 33 = .ok (.ifCond .le 7, 3) := by decide +kernel
theorem dX4_leader_36 : decode cX4_leader 36 = .ok (.iconst 0, 1) := by decide +kernel
theorem dX4_leader_37 : decode cX4_leader 37 = .ok (.goto 4, 3) := by decide +kernel
theorem dX4_leader_40 : decode cX4_leader 40 = .ok (.iconst 1, 1) := by decide +kernel
theorem dX4_leader_41 : decode cX4_leader 41 = .ok (.ireturn, 1) := by decide +kernel
theorem dX4_lineByStrength_0 : decode cX4_lineByStrength 0 = .ok (.aload_n 0, 1) := by decide +kernel
theorem dX4_lineByStrength_1 : decode cX4_lineByStrength 1 = .ok (.getfield 10, 3) := by decide +kernel
theorem dX4_lineByStrength_4 : decode cX4_lineByStrength 4 = .ok (.iload_n 1, 1) := by decide +kernel
theorem dX4_lineByStrength_5 : decode cX4_lineByStrength 5 = .ok (.invokevirtual 238, 3) := by decide +kernel
theorem dX4_lineByStrength_8 : decode cX4_lineByStrength 8 = .ok (.istore_n 2, 1) := by decide +kernel
theorem dX4_lineByStrength_9 : decode cX4_lineByStrength 9 = .ok (.iload_n 2, 1) := by decide +kernel
theorem dX4_lineByStrength_10 : decode cX4_lineByStrength 10 = .ok (.iconst (-1), 1) := by decide +kernel
theorem dX4_lineByStrength_11 : decode cX4_lineByStrength 11 = .ok (.if_icmp .ne 13, 3) := by decide +kernel
theorem dX4_lineByStrength_14 : decode cX4_lineByStrength 14 = .ok (.new 171, 3) := by decide +kernel
theorem dX4_lineByStrength_17 : decode cX4_lineByStrength 17 = .ok (.dup, 1) := by decide +kernel
theorem dX4_lineByStrength_18 : decode cX4_lineByStrength 18 = .ok (.ldc 241, 2) := by decide +kernel
theorem dX4_lineByStrength_20 : decode cX4_lineByStrength 20 = .ok (.invokespecial 175, 3) := by decide +kernel
theorem dX4_lineByStrength_23 : decode cX4_lineByStrength 23 = .ok (.athrow, 1) := by decide +kernel
theorem dX4_lineByStrength_24 : decode cX4_lineByStrength 24 = .ok (.iload_n 2, 1) := by decide +kernel
theorem dX4_lineByStrength_25 : decode cX4_lineByStrength 25 = .ok (.ireturn, 1) := by decide +kernel
theorem dX4_turnCount_0 : decode cX4_turnCount 0 = .ok (.aload_n 0, 1) := by decide +kernel
theorem dX4_turnCount_1 : decode cX4_turnCount 1 = .ok (.getfield 10, 3) := by decide +kernel
theorem dX4_turnCount_4 : decode cX4_turnCount 4 = .ok (.getfield 243, 3) := by decide +kernel
theorem dX4_turnCount_7 : decode cX4_turnCount 7 = .ok (.ireturn, 1) := by decide +kernel
theorem dX4_writeLane_0 : decode cX4_writeLane 0 = .ok (.iload_n 1, 1) := by decide +kernel
theorem dX4_writeLane_1 : decode cX4_writeLane 1 = .ok (.invokestatic 158, 3) := by decide +kernel
theorem dX4_writeLane_4 : decode cX4_writeLane 4 = .ok (.ifCond .ne 13, 3) := by decide +kernel
theorem dX4_writeLane_7 : decode cX4_writeLane 7 = .ok (.new 86, 3) := by decide +kernel
theorem dX4_writeLane_10 : decode cX4_writeLane 10 = .ok (.dup, 1) := by decide +kernel
theorem dX4_writeLane_11 : decode cX4_writeLane 11 = .ok (.ldc 246, 2) := by decide +kernel
theorem dX4_writeLane_13 : decode cX4_writeLane 13 = .ok (.invokespecial 90, 3) := by decide +kernel
theorem dX4_writeLane_16 : decode cX4_writeLane 16 = .ok (.athrow, 1) := by decide +kernel
theorem dX4_writeLane_17 : decode cX4_writeLane 17 = .ok (.aload_n 0, 1) := by decide +kernel
theorem dX4_writeLane_18 : decode cX4_writeLane 18 = .ok (.iconst 0, 1) := by decide +kernel
theorem dX4_writeLane_19 : decode cX4_writeLane 19 = .ok (.putfield 40, 3) := by decide +kernel
theorem dX4_writeLane_22 : decode cX4_writeLane 22 = .ok (.iconst 0, 1) := by decide +kernel
theorem dX4_writeLane_23 : decode cX4_writeLane 23 = .ok (.istore_n 2, 1) := by decide +kernel
theorem dX4_writeLane_24 : decode cX4_writeLane 24 = .ok (.iload_n 2, 1) := by decide +kernel
theorem dX4_writeLane_25 : decode cX4_writeLane 25 = .ok (.bipush 10, 2) := by decide +kernel
theorem dX4_writeLane_27 : decode cX4_writeLane 27 = .ok (.if_icmp .ge 53, 3) := by decide +kernel
theorem dX4_writeLane_30 : decode cX4_writeLane 30 = .ok (.aload_n 0, 1) := by decide +kernel
theorem dX4_writeLane_31 : decode cX4_writeLane 31 = .ok (.getfield 10, 3) := by decide +kernel
theorem dX4_writeLane_34 : decode cX4_writeLane 34 = .ok (.iload_n 1, 1) := by decide +kernel
theorem dX4_writeLane_35 : decode cX4_writeLane 35 = .ok (.iload_n 2, 1) := by decide +kernel
theorem dX4_writeLane_36 : decode cX4_writeLane 36 = .ok (.invokevirtual 167, 3) := by decide +kernel
theorem dX4_writeLane_39 : decode cX4_writeLane 39 = .ok (.astore_n 3, 1) := by decide +kernel
theorem dX4_writeLane_40 : decode cX4_writeLane 40 = .ok (.aload_n 3, 1) := by decide +kernel
theorem dX4_writeLane_41 : decode cX4_writeLane 41 = .ok (.ifnonnull 12, 3) := by decide +kernel
theorem dX4_writeLane_44 : decode cX4_writeLane 44 = .ok (.aload_n 0, 1) := by decide +kernel
theorem dX4_writeLane_45 : decode cX4_writeLane 45 = .ok (.bipush 46, 2) := by decide +kernel
theorem dX4_writeLane_47 : decode cX4_writeLane 47 = .ok (.invokevirtual 248, 3) := by decide +kernel
theorem dX4_writeLane_50 : decode cX4_writeLane 50 = .ok (.goto 24, 3) := by decide +kernel
theorem dX4_writeLane_53 : decode cX4_writeLane 53 = .ok (.aload_n 0, 1) := by decide +kernel
theorem dX4_writeLane_54 : decode cX4_writeLane 54 = .ok (.aload_n 3, 1) := by decide +kernel
theorem dX4_writeLane_55 : decode cX4_writeLane 55 = .ok (.invokevirtual 252, 3) := by decide +kernel
theorem dX4_writeLane_58 : decode cX4_writeLane 58 = .ok (.invokevirtual 248, 3) := by decide +kernel
theorem dX4_writeLane_61 : decode cX4_writeLane 61 = .ok (.aload_n 3, 1) := by decide +kernel
theorem dX4_writeLane_62 : decode cX4_writeLane 62 = .ok (.invokevirtual 152, 3) := by decide +kernel
theorem dX4_writeLane_65 : decode cX4_writeLane 65 = .ok (.ifCond .eq 9, 3) := by decide +kernel
theorem dX4_writeLane_68 : decode cX4_writeLane 68 = .ok (.aload_n 0, 1) := by decide +kernel
theorem dX4_writeLane_69 : decode cX4_writeLane 69 = .ok (.bipush 33, 2) := by decide +kernel
theorem dX4_writeLane_71 : decode cX4_writeLane 71 = .ok (.invokevirtual 248, 3) := by decide +kernel
theorem dX4_writeLane_74 : decode cX4_writeLane 74 = .ok (.iinc 2 1, 3) := by decide +kernel
theorem dX4_writeLane_77 : decode cX4_writeLane 77 = .ok (.goto (-53), 3) := by decide +kernel
theorem dX4_writeLane_80 : decode cX4_writeLane 80 = .ok (.aload_n 0, 1) := by decide +kernel
theorem dX4_writeLane_81 : decode cX4_writeLane 81 = .ok (.getfield 40, 3) := by decide +kernel
theorem dX4_writeLane_84 : decode cX4_writeLane 84 = .ok (.ireturn, 1) := by decide +kernel
theorem dX4_writtenAt_0 : decode cX4_writtenAt 0 = .ok (.iload_n 1, 1) := by decide +kernel
theorem dX4_writtenAt_1 : decode cX4_writtenAt 1 = .ok (.ifCond .lt 20, 3) := by decide +kernel
theorem dX4_writtenAt_4 : decode cX4_writtenAt 4 = .ok (.iload_n 1, 1) := by decide +kernel
theorem dX4_writtenAt_5 : decode cX4_writtenAt 5 = .ok (.aload_n 0, 1) := by decide +kernel
theorem dX4_writtenAt_6 : decode cX4_writtenAt 6 = .ok (.getfield 40, 3) := by decide +kernel
theorem dX4_writtenAt_9 : decode cX4_writtenAt 9 = .ok (.if_icmp .ge 12, 3) := by decide +kernel
theorem dX4_writtenAt_12 : decode cX4_writtenAt 12 = .ok (.iload_n 1, 1) := by decide +kernel
theorem dX4_writtenAt_13 : decode cX4_writtenAt 13 = .ok (.aload_n 0, 1) := by decide +kernel
theorem dX4_writtenAt_14 : decode cX4_writtenAt 14 = .ok (.getfield 36, 3) := by decide +kernel
theorem dX4_writtenAt_17 : decode cX4_writtenAt 17 = .ok (.arraylength, 1) := by decide +kernel
theorem dX4_writtenAt_18 : decode cX4_writtenAt 18 = .ok (.if_icmp .lt 14, 3) := by decide +kernel
theorem dX4_writtenAt_21 : decode cX4_writtenAt 21 = .ok (.new 86, 3) := by decide +kernel
theorem dX4_writtenAt_24 : decode cX4_writtenAt 24 = .ok (.dup, 1) := by decide +kernel
theorem dX4_writtenAt_25 : decode cX4_writtenAt 25 = .ok (.ldc_w 256, 3) := by decide +kernel
theorem dX4_writtenAt_28 : decode cX4_writtenAt 28 = .ok (.invokespecial 90, 3) := by decide +kernel
theorem dX4_writtenAt_31 : decode cX4_writtenAt 31 = .ok (.athrow, 1) := by decide +kernel
theorem dX4_writtenAt_32 : decode cX4_writtenAt 32 = .ok (.aload_n 0, 1) := by decide +kernel
theorem dX4_writtenAt_33 : decode cX4_writtenAt 33 = .ok (.getfield 36, 3) := by decide +kernel
theorem dX4_writtenAt_36 : decode cX4_writtenAt 36 = .ok (.iload_n 1, 1) := by decide +kernel
theorem dX4_writtenAt_37 : decode cX4_writtenAt 37 = .ok (.caload, 1) := by decide +kernel
theorem dX4_writtenAt_38 : decode cX4_writtenAt 38 = .ok (.ireturn, 1) := by decide +kernel
theorem dX4_meanMorale_0 : decode cX4_meanMorale 0 = .ok (.aload_n 0, 1) := by decide +kernel
theorem dX4_meanMorale_1 : decode cX4_meanMorale 1 = .ok (.getfield 10, 3) := by decide +kernel
theorem dX4_meanMorale_4 : decode cX4_meanMorale 4 = .ok (.invokevirtual 258, 3) := by decide +kernel
theorem dX4_meanMorale_7 : decode cX4_meanMorale 7 = .ok (.istore_n 1, 1) := by decide +kernel
theorem dX4_meanMorale_8 : decode cX4_meanMorale 8 = .ok (.iload_n 1, 1) := by decide +kernel
theorem dX4_meanMorale_9 : decode cX4_meanMorale 9 = .ok (.ifCond .ne 14, 3) := by decide +kernel
theorem dX4_meanMorale_12 : decode cX4_meanMorale 12 = .ok (.new 261, 3) := by decide +kernel
theorem dX4_meanMorale_15 : decode cX4_meanMorale 15 = .ok (.dup, 1) := by decide +kernel
theorem dX4_meanMorale_16 : decode cX4_meanMorale 16 = .ok (.ldc_w 263, 3) := by decide +kernel
theorem dX4_meanMorale_19 : decode cX4_meanMorale 19 = .ok (.invokespecial 265, 3) := by decide +kernel
theorem dX4_meanMorale_22 : decode cX4_meanMorale 22 = .ok (.athrow, 1) := by decide +kernel
theorem dX4_meanMorale_23 : decode cX4_meanMorale 23 = .ok (.aload_n 0, 1) := by decide +kernel
theorem dX4_meanMorale_24 : decode cX4_meanMorale 24 = .ok (.getfield 10, 3) := by decide +kernel
theorem dX4_meanMorale_27 : decode cX4_meanMorale 27 = .ok (.invokevirtual 266, 3) := by decide +kernel
theorem dX4_meanMorale_30 : decode cX4_meanMorale 30 = .ok (.i2d, 1) := by decide +kernel
theorem dX4_meanMorale_31 : decode cX4_meanMorale 31 = .ok (.iload_n 1, 1) := by decide +kernel
theorem dX4_meanMorale_32 : decode cX4_meanMorale 32 = .ok (.i2d, 1) := by decide +kernel
theorem dX4_meanMorale_33 : decode cX4_meanMorale 33 = .ok (.ddiv, 1) := by decide +kernel
theorem dX4_meanMorale_34 : decode cX4_meanMorale 34 = .ok (.dreturn, 1) := by decide +kernel
theorem dX4_standingShare_0 : decode cX4_standingShare 0 = .ok (.aload_n 0, 1) := by decide +kernel
theorem dX4_standingShare_1 : decode cX4_standingShare 1 = .ok (.getfield 10, 3) := by decide +kernel
theorem dX4_standingShare_4 : decode cX4_standingShare 4 = .ok (.getfield 114, 3) := by decide +kernel
theorem dX4_standingShare_7 : decode cX4_standingShare 7 = .ok (.istore_n 1, 1) := by decide +kernel
theorem dX4_standingShare_8 : decode cX4_standingShare 8 = .ok (.iload_n 1, 1) := by decide +kernel
theorem dX4_standingShare_9 : decode cX4_standingShare 9 = .ok (.ifCond .ne 14, 3) := by decide +kernel
theorem dX4_standingShare_12 : decode cX4_standingShare 12 = .ok (.new 261, 3) := by decide +kernel
theorem dX4_standingShare_15 : decode cX4_standingShare 15 = .ok (.dup, 1) := by decide +kernel
theorem dX4_standingShare_16 : decode cX4_standingShare 16 = .ok (.ldc_w 269, 3) := by decide +kernel
theorem dX4_standingShare_19 : decode cX4_standingShare 19 = .ok (.invokespecial 265, 3) := by decide +kernel
theorem dX4_standingShare_22 : decode cX4_standingShare 22 = .ok (.athrow, 1) := by decide +kernel
theorem dX4_standingShare_23 : decode cX4_standingShare 23 = .ok (.aload_n 0, 1) := by decide +kernel
theorem dX4_standingShare_24 : decode cX4_standingShare 24 = .ok (.getfield 10, 3) := by decide +kernel
theorem dX4_standingShare_27 : decode cX4_standingShare 27 = .ok (.invokevirtual 271, 3) := by decide +kernel
theorem dX4_standingShare_30 : decode cX4_standingShare 30 = .ok (.i2f, 1) := by decide +kernel
theorem dX4_standingShare_31 : decode cX4_standingShare 31 = .ok (.iload_n 1, 1) := by decide +kernel
theorem dX4_standingShare_32 : decode cX4_standingShare 32 = .ok (.i2f, 1) := by decide +kernel
theorem dX4_standingShare_33 : decode cX4_standingShare 33 = .ok (.fdiv, 1) := by decide +kernel
theorem dX4_standingShare_34 : decode cX4_standingShare 34 = .ok (.freturn, 1) := by decide +kernel
theorem dX4_isConsistent_0 : decode cX4_isConsistent 0 = .ok (.aload_n 0, 1) := by decide +kernel
theorem dX4_isConsistent_1 : decode cX4_isConsistent 1 = .ok (.getfield 10, 3) := by decide +kernel
theorem dX4_isConsistent_4 : decode cX4_isConsistent 4 = .ok (.invokevirtual 274, 3) := by decide +kernel
theorem dX4_isConsistent_7 : decode cX4_isConsistent 7 = .ok (.ireturn, 1) := by decide +kernel
theorem dX4_type_0 : decode cX4_type 0 = .ok (.iload_n 1, 1) := by decide +kernel
theorem dX4_type_1 : decode cX4_type 1 = .ok (.bipush 32, 2) := by decide +kernel
theorem dX4_type_3 : decode cX4_type 3 = .ok (.if_icmp .lt 9, 3) := by decide +kernel
theorem dX4_type_6 : decode cX4_type 6 = .ok (.iload_n 1, 1) := by decide +kernel
theorem dX4_type_7 : decode cX4_type 7 = .ok (.bipush 126, 2) := by decide +kernel
theorem dX4_type_9 : decode cX4_type 9 = .ok (.if_icmp .le 14, 3) := by decide +kernel
theorem dX4_type_12 : decode cX4_type 12 = .ok (.new 58, 3) := by decide +kernel
theorem dX4_type_15 : decode cX4_type 15 = .ok (.dup, 1) := by decide +kernel
theorem dX4_type_16 : decode cX4_type 16 = .ok (.ldc_w 277, 3) := by decide +kernel
theorem dX4_type_19 : decode cX4_type 19 = .ok (.invokespecial 62, 3) := by decide +kernel
theorem dX4_type_22 : decode cX4_type 22 = .ok (.athrow, 1) := by decide +kernel
theorem dX4_type_23 : decode cX4_type 23 = .ok (.aload_n 0, 1) := by decide +kernel
theorem dX4_type_24 : decode cX4_type 24 = .ok (.getfield 32, 3) := by decide +kernel
theorem dX4_type_27 : decode cX4_type 27 = .ok (.iload_n 1, 1) := by decide +kernel
theorem dX4_type_28 : decode cX4_type 28 = .ok (.invokevirtual 279, 3) := by decide +kernel
theorem dX4_type_31 : decode cX4_type 31 = .ok (.ifCond .ne 14, 3) := by decide +kernel
theorem dX4_type_34 : decode cX4_type 34 = .ok (.new 65, 3) := by decide +kernel
theorem dX4_type_37 : decode cX4_type 37 = .ok (.dup, 1) := by decide +kernel
theorem dX4_type_38 : decode cX4_type 38 = .ok (.ldc_w 283, 3) := by decide +kernel
theorem dX4_type_41 : decode cX4_type 41 = .ok (.invokespecial 69, 3) := by decide +kernel
theorem dX4_type_44 : decode cX4_type 44 = .ok (.athrow, 1) := by decide +kernel
theorem dX4_type_45 : decode cX4_type 45 = .ok (.aload_n 0, 1) := by decide +kernel
theorem dX4_type_46 : decode cX4_type 46 = .ok (.getfield 32, 3) := by decide +kernel
theorem dX4_type_49 : decode cX4_type 49 = .ok (.getfield 285, 3) := by decide +kernel
theorem dX4_type_52 : decode cX4_type 52 = .ok (.ireturn, 1) := by decide +kernel
theorem dX4_execute_0 : decode cX4_execute 0 = .ok (.aload_n 0, 1) := by decide +kernel
theorem dX4_execute_1 : decode cX4_execute 1 = .ok (.getfield 32, 3) := by decide +kernel
theorem dX4_execute_4 : decode cX4_execute 4 = .ok (.invokevirtual 288, 3) := by decide +kernel
theorem dX4_execute_7 : decode cX4_execute 7 = .ok (.istore_n 1, 1) := by decide +kernel
theorem dX4_execute_8 : decode cX4_execute 8 = .ok (.iload_n 1, 1) := by decide +kernel
theorem dX4_execute_9 : decode cX4_execute 9 = .ok (.iconst (-1), 1) := by decide +kernel
theorem dX4_execute_10 : decode cX4_execute 10 = .ok (.if_icmp .ne 32, 3) := by decide +kernel
theorem dX4_execute_13 : decode cX4_execute 13 = .ok (.aload_n 0, 1) := by decide +kernel
theorem dX4_execute_14 : decode cX4_execute 14 = .ok (.aload_n 0, 1) := by decide +kernel
theorem dX4_execute_15 : decode cX4_execute 15 = .ok (.getfield 32, 3) := by decide +kernel
theorem dX4_execute_18 : decode cX4_execute 18 = .ok (.getfield 291, 3) := by decide +kernel
theorem dX4_execute_21 : decode cX4_execute 21 = .ok (.putfield 48, 3) := by decide +kernel
theorem dX4_execute_24 : decode cX4_execute 24 = .ok (.aload_n 0, 1) := by decide +kernel
theorem dX4_execute_25 : decode cX4_execute 25 = .ok (.getfield 32, 3) := by decide +kernel
theorem dX4_execute_28 : decode cX4_execute 28 = .ok (.invokevirtual 294, 3) := by decide +kernel
theorem dX4_execute_31 : decode cX4_execute 31 = .ok (.new 58, 3) := by decide +kernel
theorem dX4_execute_34 : decode cX4_execute 34 = .ok (.dup, 1) := by decide +kernel
theorem dX4_execute_35 : decode cX4_execute 35 = .ok (.ldc_w 297, 3) := by decide +kernel
theorem dX4_execute_38 : decode cX4_execute 38 = .ok (.invokespecial 62, 3) := by decide +kernel
theorem dX4_execute_41 : decode cX4_execute 41 = .ok (.athrow, 1) := by decide +kernel
theorem dX4_execute_42 : decode cX4_execute 42 = .ok (.aload_n 0, 1) := by decide +kernel
theorem dX4_execute_43 : decode cX4_execute 43 = .ok (.getfield 19, 3) := by decide +kernel
theorem dX4_execute_46 : decode cX4_execute 46 = .ok (.aload_n 0, 1) := by decide +kernel
theorem dX4_execute_47 : decode cX4_execute 47 = .ok (.getfield 10, 3) := by decide +kernel
theorem dX4_execute_50 : decode cX4_execute 50 = .ok (.invokevirtual 204, 3) := by decide +kernel
theorem dX4_execute_53 : decode cX4_execute 53 = .ok (.aload_n 0, 1) := by decide +kernel
theorem dX4_execute_54 : decode cX4_execute 54 = .ok (.getfield 32, 3) := by decide +kernel
theorem dX4_execute_57 : decode cX4_execute 57 = .ok (.invokevirtual 299, 3) := by decide +kernel
theorem dX4_execute_60 : decode cX4_execute 60 = .ok (.iconst 0, 1) := by decide +kernel
theorem dX4_execute_61 : decode cX4_execute 61 = .ok (.istore_n 2, 1) := by decide +kernel
theorem dX4_execute_62 : decode cX4_execute 62 = .ok (.iload_n 2, 1) := by decide +kernel
theorem dX4_execute_63 : decode cX4_execute 63 = .ok (.iload_n 1, 1) := by decide +kernel
theorem dX4_execute_64 : decode cX4_execute 64 = .ok (.if_icmp .ge 26, 3) := by decide +kernel
theorem dX4_execute_67 : decode cX4_execute 67 = .ok (.aload_n 0, 1) := by decide +kernel
theorem dX4_execute_68 : decode cX4_execute 68 = .ok (.getfield 32, 3) := by decide +kernel
theorem dX4_execute_71 : decode cX4_execute 71 = .ok (.invokevirtual 302, 3) := by decide +kernel
theorem dX4_execute_74 : decode cX4_execute 74 = .ok (.ifCond .eq 16, 3) := by decide +kernel
theorem dX4_execute_77 : decode cX4_execute 77 = .ok (.aload_n 0, 1) := by decide +kernel
theorem dX4_execute_78 : decode cX4_execute 78 = .ok (.invokevirtual 305, 3) := by decide +kernel
theorem dX4_execute_81 : decode cX4_execute 81 = .ok (.ifCond .eq 9, 3) := by decide +kernel
theorem dX4_execute_84 : decode cX4_execute 84 = .ok (.iinc 2 1, 3) := by decide +kernel
theorem dX4_execute_87 : decode cX4_execute 87 = .ok (.goto (-25), 3) := by decide +kernel
theorem dX4_execute_90 : decode cX4_execute 90 = .ok (.aload_n 0, 1) := by decide +kernel
theorem dX4_execute_91 : decode cX4_execute 91 = .ok (.getfield 32, 3) := by decide +kernel
theorem dX4_execute_94 : decode cX4_execute 94 = .ok (.invokevirtual 294, 3) := by decide +kernel
theorem dX4_execute_97 : decode cX4_execute 97 = .ok (.iload_n 2, 1) := by decide +kernel
theorem dX4_execute_98 : decode cX4_execute 98 = .ok (.iload_n 1, 1) := by decide +kernel
theorem dX4_execute_99 : decode cX4_execute 99 = .ok (.if_icmp .ge 30, 3) := by decide +kernel
theorem dX4_execute_102 : decode cX4_execute 102 = .ok (.aload_n 0, 1) := by decide +kernel
theorem dX4_execute_103 : decode cX4_execute 103 = .ok (.getfield 10, 3) := by decide +kernel
theorem dX4_execute_106 : decode cX4_execute 106 = .ok (.aload_n 0, 1) := by decide +kernel
theorem dX4_execute_107 : decode cX4_execute 107 = .ok (.getfield 19, 3) := by decide +kernel
theorem dX4_execute_110 : decode cX4_execute 110 = .ok (.invokevirtual 204, 3) := by decide +kernel
theorem dX4_execute_113 : decode cX4_execute 113 = .ok (.aload_n 0, 1) := by decide +kernel
theorem dX4_execute_114 : decode cX4_execute 114 = .ok (.iload_n 2, 1) := by decide +kernel
theorem dX4_execute_115 : decode cX4_execute 115 = .ok (.putfield 51, 3) := by decide +kernel
theorem dX4_execute_118 : decode cX4_execute 118 = .ok (.new 65, 3) := by decide +kernel
theorem dX4_execute_121 : decode cX4_execute 121 = .ok (.dup, 1) := by decide +kernel
theorem dX4_execute_122 : decode cX4_execute 122 = .ok (.ldc_w 308, 3) := by decide +kernel
theorem dX4_execute_125 : decode cX4_execute 125 = .ok (.invokespecial 69, 3) := by decide +kernel
theorem dX4_execute_128 : decode cX4_execute 128 = .ok (.athrow, 1) := by decide +kernel
theorem dX4_execute_129 : decode cX4_execute 129 = .ok (.aload_n 0, 1) := by decide +kernel
theorem dX4_execute_130 : decode cX4_execute 130 = .ok (.getfield 25, 3) := by decide +kernel
theorem dX4_execute_133 : decode cX4_execute 133 = .ok (.aload_n 0, 1) := by decide +kernel
theorem dX4_execute_134 : decode cX4_execute 134 = .ok (.getfield 19, 3) := by decide +kernel
theorem dX4_execute_137 : decode cX4_execute 137 = .ok (.invokevirtual 75, 3) := by decide +kernel
theorem dX4_execute_140 : decode cX4_execute 140 = .ok (.iload_n 1, 1) := by decide +kernel
theorem dX4_execute_141 : decode cX4_execute 141 = .ok (.ireturn, 1) := by decide +kernel
theorem dX4_errorPosition_0 : decode cX4_errorPosition 0 = .ok (.aload_n 0, 1) := by decide +kernel
theorem dX4_errorPosition_1 : decode cX4_errorPosition 1 = .ok (.getfield 48, 3) := by decide +kernel
theorem dX4_errorPosition_4 : decode cX4_errorPosition 4 = .ok (.iconst (-1), 1) := by decide +kernel
theorem dX4_errorPosition_5 : decode cX4_errorPosition 5 = .ok (.if_icmp .ne 14, 3) := by decide +kernel
theorem dX4_errorPosition_8 : decode cX4_errorPosition 8 = .ok (.new 171, 3) := by decide +kernel
theorem dX4_errorPosition_11 : decode cX4_errorPosition 11 = .ok (.dup, 1) := by decide +kernel
theorem dX4_errorPosition_12 : decode cX4_errorPosition 12 = .ok (.ldc_w 310, 3) := by decide +kernel
theorem dX4_errorPosition_15 : decode cX4_errorPosition 15 = .ok (.invokespecial 175, 3) := by decide +kernel
theorem dX4_errorPosition_18 : decode cX4_errorPosition 18 = .ok (.athrow, 1) := by decide +kernel
theorem dX4_errorPosition_19 : decode cX4_errorPosition 19 = .ok (.aload_n 0, 1) := by decide +kernel
theorem dX4_errorPosition_20 : decode cX4_errorPosition 20 = .ok (.getfield 48, 3) := by decide +kernel
theorem dX4_errorPosition_23 : decode cX4_errorPosition 23 = .ok (.ireturn, 1) := by decide +kernel
theorem dX4_failedCommand_0 : decode cX4_failedCommand 0 = .ok (.aload_n 0, 1) := by decide +kernel
theorem dX4_failedCommand_1 : decode cX4_failedCommand 1 = .ok (.getfield 51, 3) := by decide +kernel
theorem dX4_failedCommand_4 : decode cX4_failedCommand 4 = .ok (.iconst (-1), 1) := by decide +kernel
theorem dX4_failedCommand_5 : decode cX4_failedCommand 5 = .ok (.if_icmp .ne 14, 3) := by decide +kernel
theorem dX4_failedCommand_8 : decode cX4_failedCommand 8 = .ok (.new 171, 3) := by decide +kernel
theorem dX4_failedCommand_11 : decode cX4_failedCommand 11 = .ok (.dup, 1) := by decide +kernel
theorem dX4_failedCommand_12 : decode cX4_failedCommand 12 = .ok (.ldc_w 312, 3) := by decide +kernel
theorem dX4_failedCommand_15 : decode cX4_failedCommand 15 = .ok (.invokespecial 175, 3) := by decide +kernel
theorem dX4_failedCommand_18 : decode cX4_failedCommand 18 = .ok (.athrow, 1) := by decide +kernel
theorem dX4_failedCommand_19 : decode cX4_failedCommand 19 = .ok (.aload_n 0, 1) := by decide +kernel
theorem dX4_failedCommand_20 : decode cX4_failedCommand 20 = .ok (.getfield 51, 3) := by decide +kernel
theorem dX4_failedCommand_23 : decode cX4_failedCommand 23 = .ok (.ireturn, 1) := by decide +kernel
theorem dX4_undo_0 : decode cX4_undo 0 = .ok (.aload_n 0, 1) := by decide +kernel
theorem dX4_undo_1 : decode cX4_undo 1 = .ok (.getfield 25, 3) := by decide +kernel
theorem dX4_undo_4 : decode cX4_undo 4 = .ok (.aload_n 0, 1) := by decide +kernel
theorem dX4_undo_5 : decode cX4_undo 5 = .ok (.getfield 10, 3) := by decide +kernel
theorem dX4_undo_8 : decode cX4_undo 8 = .ok (.invokevirtual 314, 3) := by decide +kernel
theorem dX4_undo_11 : decode cX4_undo 11 = .ok (.ifCond .ne 14, 3) := by decide +kernel
theorem dX4_undo_14 : decode cX4_undo 14 = .ok (.new 65, 3) := by decide +kernel
theorem dX4_undo_17 : decode cX4_undo 17 = .ok (.dup, 1) := by decide +kernel
theorem dX4_undo_18 : decode cX4_undo 18 = .ok (.ldc_w 318, 3) := by decide +kernel
theorem dX4_undo_21 : decode cX4_undo 21 = .ok (.invokespecial 69, 3) := by decide +kernel
theorem dX4_undo_24 : decode cX4_undo 24 = .ok (.athrow, 1) := by decide +kernel
theorem dX4_undo_25 : decode cX4_undo 25 = .ok (.aload_n 0, 1) := by decide +kernel
theorem dX4_undo_26 : decode cX4_undo 26 = .ok (.getfield 25, 3) := by decide +kernel
theorem dX4_undo_29 : decode cX4_undo 29 = .ok (.getfield 320, 3) := by decide +kernel
theorem dX4_undo_32 : decode cX4_undo 32 = .ok (.ireturn, 1) := by decide +kernel
theorem dX4_save_0 : decode cX4_save 0 = .ok (.aload_n 0, 1) := by decide +kernel
theorem dX4_save_1 : decode cX4_save 1 = .ok (.getfield 16, 3) := by decide +kernel
theorem dX4_save_4 : decode cX4_save 4 = .ok (.aload_n 0, 1) := by decide +kernel
theorem dX4_save_5 : decode cX4_save 5 = .ok (.getfield 10, 3) := by decide +kernel
theorem dX4_save_8 : decode cX4_save 8 = .ok (.invokevirtual 204, 3) := by decide +kernel
theorem dX4_save_11 : decode cX4_save 11 = .ok (.aload_n 0, 1) := by decide +kernel
theorem dX4_save_12 : decode cX4_save 12 = .ok (.iconst 1, 1) := by decide +kernel
theorem dX4_save_13 : decode cX4_save 13 = .ok (.putfield 44, 3) := by decide +kernel
theorem dX4_save_16 : decode cX4_save 16 = .ok (.aload_n 0, 1) := by decide +kernel
theorem dX4_save_17 : decode cX4_save 17 = .ok (.getfield 10, 3) := by decide +kernel
theorem dX4_save_20 : decode cX4_save 20 = .ok (.getfield 114, 3) := by decide +kernel
theorem dX4_save_23 : decode cX4_save 23 = .ok (.ireturn, 1) := by decide +kernel
theorem dX4_restore_0 : decode cX4_restore 0 = .ok (.aload_n 0, 1) := by decide +kernel
theorem dX4_restore_1 : decode cX4_restore 1 = .ok (.getfield 44, 3) := by decide +kernel
theorem dX4_restore_4 : decode cX4_restore 4 = .ok (.ifCond .ne 14, 3) := by decide +kernel
theorem dX4_restore_7 : decode cX4_restore 7 = .ok (.new 65, 3) := by decide +kernel
theorem dX4_restore_10 : decode cX4_restore 10 = .ok (.dup, 1) := by decide +kernel
theorem dX4_restore_11 : decode cX4_restore 11 = .ok (.ldc_w 323, 3) := by decide +kernel
theorem dX4_restore_14 : decode cX4_restore 14 = .ok (.invokespecial 69, 3) := by decide +kernel
theorem dX4_restore_17 : decode cX4_restore 17 = .ok (.athrow, 1) := by decide +kernel
theorem dX4_restore_18 : decode cX4_restore 18 = .ok (.aload_n 0, 1) := by decide +kernel
theorem dX4_restore_19 : decode cX4_restore 19 = .ok (.getfield 10, 3) := by decide +kernel
theorem dX4_restore_22 : decode cX4_restore 22 = .ok (.aload_n 0, 1) := by decide +kernel
theorem dX4_restore_23 : decode cX4_restore 23 = .ok (.getfield 16, 3) := by decide +kernel
theorem dX4_restore_26 : decode cX4_restore 26 = .ok (.invokevirtual 204, 3) := by decide +kernel
theorem dX4_restore_29 : decode cX4_restore 29 = .ok (.aload_n 0, 1) := by decide +kernel
theorem dX4_restore_30 : decode cX4_restore 30 = .ok (.getfield 25, 3) := by decide +kernel
theorem dX4_restore_33 : decode cX4_restore 33 = .ok (.invokevirtual 325, 3) := by decide +kernel
theorem dX4_restore_36 : decode cX4_restore 36 = .ok (.aload_n 0, 1) := by decide +kernel
theorem dX4_restore_37 : decode cX4_restore 37 = .ok (.getfield 10, 3) := by decide +kernel
theorem dX4_restore_40 : decode cX4_restore 40 = .ok (.getfield 114, 3) := by decide +kernel
theorem dX4_restore_43 : decode cX4_restore 43 = .ok (.ireturn, 1) := by decide +kernel
theorem dX4_isSide_0 : decode cX4_isSide 0 = .ok (.iload_n 0, 1) := by decide +kernel
theorem dX4_isSide_1 : decode cX4_isSide 1 = .ok (.ifCond .lt 12, 3) := by decide +kernel
theorem dX4_isSide_4 : decode cX4_isSide 4 = .ok (.iload_n 0, 1) := by decide +kernel
theorem dX4_isSide_5 : decode cX4_isSide 5 = .ok (.iconst 2, 1) := by decide +kernel
theorem dX4_isSide_6 : decode cX4_isSide 6 = .ok (.if_icmp .ge 7, 3) := by decide +kernel
theorem dX4_isSide_9 : decode cX4_isSide 9 = .ok (.iconst 1, 1) := by decide +kernel
theorem dX4_isSide_10 : decode cX4_isSide 10 = .ok (.goto 4, 3) := by decide +kernel
theorem dX4_isSide_13 : decode cX4_isSide 13 = .ok (.iconst 0, 1) := by decide +kernel
theorem dX4_isSide_14 : decode cX4_isSide 14 = .ok (.ireturn, 1) := by decide +kernel
theorem dX4_isLane_0 : decode cX4_isLane 0 = .ok (.iload_n 0, 1) := by decide +kernel
theorem dX4_isLane_1 : decode cX4_isLane 1 = .ok (.ifCond .lt 12, 3) := by decide +kernel
theorem dX4_isLane_4 : decode cX4_isLane 4 = .ok (.iload_n 0, 1) := by decide +kernel
theorem dX4_isLane_5 : decode cX4_isLane 5 = .ok (.iconst 3, 1) := by decide +kernel
theorem dX4_isLane_6 : decode cX4_isLane 6 = .ok (.if_icmp .ge 7, 3) := by decide +kernel
theorem dX4_isLane_9 : decode cX4_isLane 9 = .ok (.iconst 1, 1) := by decide +kernel
theorem dX4_isLane_10 : decode cX4_isLane 10 = .ok (.goto 4, 3) := by decide +kernel
theorem dX4_isLane_13 : decode cX4_isLane 13 = .ok (.iconst 0, 1) := by decide +kernel
theorem dX4_isLane_14 : decode cX4_isLane 14 = .ok (.ireturn, 1) := by decide +kernel
theorem dX4_isColumn_0 : decode cX4_isColumn 0 = .ok (.iload_n 0, 1) := by decide +kernel
theorem dX4_isColumn_1 : decode cX4_isColumn 1 = .ok (.ifCond .lt 13, 3) := by decide +kernel
theorem dX4_isColumn_4 : decode cX4_isColumn 4 = .ok (.iload_n 0, 1) := by decide +kernel
theorem dX4_isColumn_5 : decode cX4_isColumn 5 = .ok (.bipush 10, 2) := by decide +kernel
theorem dX4_isColumn_7 : decode cX4_isColumn 7 = .ok (.if_icmp .ge 7, 3) := by decide +kernel
theorem dX4_isColumn_10 : decode cX4_isColumn 10 = .ok (.iconst 1, 1) := by decide +kernel
theorem dX4_isColumn_11 : decode cX4_isColumn 11 = .ok (.goto 4, 3) := by decide +kernel
theorem dX4_isColumn_14 : decode cX4_isColumn 14 = .ok (.iconst 0, 1) := by decide +kernel
theorem dX4_isColumn_15 : decode cX4_isColumn 15 = .ok (.ireturn, 1) := by decide +kernel
theorem dX4_requireSide_0 : decode cX4_requireSide 0 = .ok (.iload_n 0, 1) := by decide +kernel
theorem dX4_requireSide_1 : decode cX4_requireSide 1 = .ok (.invokestatic 225, 3) := by decide +kernel
theorem dX4_requireSide_4 : decode cX4_requireSide 4 = .ok (.ifCond .ne 14, 3) := by decide +kernel
theorem dX4_requireSide_7 : decode cX4_requireSide 7 = .ok (.new 58, 3) := by decide +kernel
theorem dX4_requireSide_10 : decode cX4_requireSide 10 = .ok (.dup, 1) := by decide +kernel
theorem dX4_requireSide_11 : decode cX4_requireSide 11 = .ok (.ldc_w 328, 3) := by decide +kernel
theorem dX4_requireSide_14 : decode cX4_requireSide 14 = .ok (.invokespecial 62, 3) := by decide +kernel
theorem dX4_requireSide_17 : decode cX4_requireSide 17 = .ok (.athrow, 1) := by decide +kernel
theorem dX4_requireSide_18 : decode cX4_requireSide 18 = .ok (.return_, 1) := by decide +kernel
theorem dX4_known_0 : decode cX4_known 0 = .ok (.aload_n 0, 1) := by decide +kernel
theorem dX4_known_1 : decode cX4_known 1 = .ok (.getfield 10, 3) := by decide +kernel
theorem dX4_known_4 : decode cX4_known 4 = .ok (.iload_n 1, 1) := by decide +kernel
theorem dX4_known_5 : decode cX4_known 5 = .ok (.invokevirtual 330, 3) := by decide +kernel
theorem dX4_known_8 : decode cX4_known 8 = .ok (.astore_n 2, 1) := by decide +kernel
theorem dX4_known_9 : decode cX4_known 9 = .ok (.aload_n 2, 1) := by decide +kernel
theorem dX4_known_10 : decode cX4_known 10 = .ok (.ifnonnull 13, 3) := by decide +kernel
theorem dX4_known_13 : decode cX4_known 13 = .ok (.new 86, 3) := by decide +kernel
theorem dX4_known_16 : decode cX4_known 16 = .ok (.dup, 1) := by decide +kernel
theorem dX4_known_17 : decode cX4_known 17 = .ok (.ldc 88, 2) := by decide +kernel
theorem dX4_known_19 : decode cX4_known 19 = .ok (.invokespecial 90, 3) := by decide +kernel
theorem dX4_known_22 : decode cX4_known 22 = .ok (.athrow, 1) := by decide +kernel
theorem dX4_known_23 : decode cX4_known 23 = .ok (.aload_n 2, 1) := by decide +kernel
theorem dX4_known_24 : decode cX4_known 24 = .ok (.areturn, 1) := by decide +kernel
theorem dX4_unfallen_0 : decode cX4_unfallen 0 = .ok (.aload_n 0, 1) := by decide +kernel
theorem dX4_unfallen_1 : decode cX4_unfallen 1 = .ok (.iload_n 1, 1) := by decide +kernel
theorem dX4_unfallen_2 : decode cX4_unfallen 2 = .ok (.invokevirtual 117, 3) := by decide +kernel
theorem dX4_unfallen_5 : decode cX4_unfallen 5 = .ok (.astore_n 2, 1) := by decide +kernel
theorem dX4_unfallen_6 : decode cX4_unfallen 6 = .ok (.aload_n 2, 1) := by decide +kernel
theorem dX4_unfallen_7 : decode cX4_unfallen 7 = .ok (.invokevirtual 333, 3) := by decide +kernel
theorem dX4_unfallen_10 : decode cX4_unfallen 10 = .ok (.ifCond .eq 14, 3) := by decide +kernel
theorem dX4_unfallen_13 : decode cX4_unfallen 13 = .ok (.new 171, 3) := by decide +kernel
theorem dX4_unfallen_16 : decode cX4_unfallen 16 = .ok (.dup, 1) := by decide +kernel
theorem dX4_unfallen_17 : decode cX4_unfallen 17 = .ok (.ldc_w 336, 3) := by decide +kernel
theorem dX4_unfallen_20 : decode cX4_unfallen 20 = .ok (.invokespecial 175, 3) := by decide +kernel
theorem dX4_unfallen_23 : decode cX4_unfallen 23 = .ok (.athrow, 1) := by decide +kernel
theorem dX4_unfallen_24 : decode cX4_unfallen 24 = .ok (.aload_n 2, 1) := by decide +kernel
theorem dX4_unfallen_25 : decode cX4_unfallen 25 = .ok (.areturn, 1) := by decide +kernel
theorem dX4_write_0 : decode cX4_write 0 = .ok (.aload_n 0, 1) := by decide +kernel
theorem dX4_write_1 : decode cX4_write 1 = .ok (.getfield 40, 3) := by decide +kernel
theorem dX4_write_4 : decode cX4_write 4 = .ok (.ifCond .lt 35, 3) := by decide +kernel
theorem dX4_write_7 : decode cX4_write 7 = .ok (.aload_n 0, 1) := by decide +kernel
theorem dX4_write_8 : decode cX4_write 8 = .ok (.getfield 40, 3) := by decide +kernel
theorem dX4_write_11 : decode cX4_write 11 = .ok (.aload_n 0, 1) := by decide +kernel
theorem dX4_write_12 : decode cX4_write 12 = .ok (.getfield 36, 3) := by decide +kernel
theorem dX4_write_15 : decode cX4_write 15 = .ok (.arraylength, 1) := by decide +kernel
theorem dX4_write_16 : decode cX4_write 16 = .ok (.if_icmp .ge 23, 3) := by decide +kernel
theorem dX4_write_19 : decode cX4_write 19 = .ok (.aload_n 0, 1) := by decide +kernel
theorem dX4_write_20 : decode cX4_write 20 = .ok (.getfield 36, 3) := by decide +kernel
theorem dX4_write_23 : decode cX4_write 23 = .ok (.aload_n 0, 1) := by decide +kernel
theorem dX4_write_24 : decode cX4_write 24 = .ok (.getfield 40, 3) := by decide +kernel
theorem dX4_write_27 : decode cX4_write 27 = .ok (.iload_n 1, 1) := by decide +kernel
theorem dX4_write_28 : decode cX4_write 28 = .ok (.castore, 1) := by decide +kernel
theorem dX4_write_29 : decode cX4_write 29 = .ok (.aload_n 0, 1) := by decide +kernel
theorem dX4_write_30 : decode cX4_write 30 = .ok (.dup, 1) := by decide +kernel
theorem dX4_write_31 : decode cX4_write 31 = .ok (.getfield 40, 3) := by decide +kernel
theorem dX4_write_34 : decode cX4_write 34 = .ok (.iconst 1, 1) := by decide +kernel
theorem dX4_write_35 : decode cX4_write 35 = .ok (.iadd, 1) := by decide +kernel
theorem dX4_write_36 : decode cX4_write 36 = .ok (.putfield 40, 3) := by decide +kernel
theorem dX4_write_39 : decode cX4_write 39 = .ok (.return_, 1) := by decide +kernel
theorem dX4_perform_0 : decode cX4_perform 0 = .ok (.aload_n 0, 1) := by decide +kernel
theorem dX4_perform_1 : decode cX4_perform 1 = .ok (.getfield 32, 3) := by decide +kernel
theorem dX4_perform_4 : decode cX4_perform 4 = .ok (.getfield 338, 3) := by decide +kernel
theorem dX4_perform_7 : decode cX4_perform 7 = .ok (.bipush 108, 2) := by decide +kernel
theorem dX4_perform_9 : decode cX4_perform 9 = .ok (.if_icmp .ne 82, 3) := by decide +kernel
theorem dX4_perform_12 : decode cX4_perform 12 = .ok (.aload_n 0, 1) := by decide +kernel
theorem dX4_perform_13 : decode cX4_perform 13 = .ok (.getfield 10, 3) := by decide +kernel
theorem dX4_perform_16 : decode cX4_perform 16 = .ok (.aload_n 0, 1) := by decide +kernel
theorem dX4_perform_17 : decode cX4_perform 17 = .ok (.getfield 32, 3) := by decide +kernel
theorem dX4_perform_20 : decode cX4_perform 20 = .ok (.getfield 341, 3) := by decide +kernel
theorem dX4_perform_23 : decode cX4_perform 23 = .ok (.aload_n 0, 1) := by decide +kernel
theorem dX4_perform_24 : decode cX4_perform 24 = .ok (.getfield 32, 3) := by decide +kernel
theorem dX4_perform_27 : decode cX4_perform 27 = .ok (.getfield 344, 3) := by decide +kernel
theorem dX4_perform_30 : decode cX4_perform 30 = .ok (.aload_n 0, 1) := by decide +kernel
theorem dX4_perform_31 : decode cX4_perform 31 = .ok (.getfield 32, 3) := by decide +kernel
theorem dX4_perform_34 : decode cX4_perform 34 = .ok (.getfield 347, 3) := by decide +kernel
theorem dX4_perform_37 : decode cX4_perform 37 = .ok (.aload_n 0, 1) := by decide +kernel
theorem dX4_perform_38 : decode cX4_perform 38 = .ok (.getfield 32, 3) := by decide +kernel
theorem dX4_perform_41 : decode cX4_perform 41 = .ok (.getfield 350, 3) := by decide +kernel
theorem dX4_perform_44 : decode cX4_perform 44 = .ok (.invokevirtual 54, 3) := by decide +kernel
theorem dX4_perform_47 : decode cX4_perform 47 = .ok (.ifCond .eq 5, 3) := by decide +kernel
theorem dX4_perform_50 : decode cX4_perform 50 = .ok (.iconst 0, 1) := by decide +kernel
theorem dX4_perform_51 : decode cX4_perform 51 = .ok (.ireturn, 1) := by decide +kernel
theorem dX4_perform_52 : decode cX4_perform 52 = .ok (.aload_n 0, 1) := by decide +kernel
theorem dX4_perform_53 : decode cX4_perform 53 = .ok (.getfield 10, 3) := by decide +kernel
theorem dX4_perform_56 : decode cX4_perform 56 = .ok (.aload_n 0, 1) := by decide +kernel
theorem dX4_perform_57 : decode cX4_perform 57 = .ok (.getfield 32, 3) := by decide +kernel
theorem dX4_perform_60 : decode cX4_perform 60 = .ok (.getfield 341, 3) := by decide +kernel
theorem dX4_perform_63 : decode cX4_perform 63 = .ok (.aload_n 0, 1) := by decide +kernel
theorem dX4_perform_64 : decode cX4_perform 64 = .ok (.getfield 32, 3) := by decide +kernel
theorem dX4_perform_67 : decode cX4_perform 67 = .ok (.getfield 344, 3) := by decide +kernel
theorem dX4_perform_70 : decode cX4_perform 70 = .ok (.aload_n 0, 1) := by decide +kernel
theorem dX4_perform_71 : decode cX4_perform 71 = .ok (.getfield 32, 3) := by decide +kernel
theorem dX4_perform_74 : decode cX4_perform 74 = .ok (.getfield 347, 3) := by decide +kernel
theorem dX4_perform_77 : decode cX4_perform 77 = .ok (.aload_n 0, 1) := by decide +kernel
theorem dX4_perform_78 : decode cX4_perform 78 = .ok (.getfield 32, 3) := by decide +kernel
theorem dX4_perform_81 : decode cX4_perform 81 = .ok (.getfield 350, 3) := by decide +kernel
theorem dX4_perform_84 : decode cX4_perform 84 = .ok (.invokevirtual 79, 3) := by decide +kernel
theorem dX4_perform_87 : decode cX4_perform 87 = .ok (.pop, 1) := by decide +kernel
theorem dX4_perform_88 : decode cX4_perform 88 = .ok (.goto 123, 3) := by decide +kernel
theorem dX4_perform_91 : decode cX4_perform 91 = .ok (.aload_n 0, 1) := by decide +kernel
theorem dX4_perform_92 : decode cX4_perform 92 = .ok (.getfield 32, 3) := by decide +kernel
theorem dX4_perform_95 : decode cX4_perform 95 = .ok (.getfield 338, 3) := by decide +kernel
theorem dX4_perform_98 : decode cX4_perform 98 = .ok (.bipush 111, 2) := by decide +kernel
theorem dX4_perform_100 : decode cX4_perform 100 = .ok (.if_icmp .ne 54, 3) := by decide +kernel
theorem dX4_perform_103 : decode cX4_perform 103 = .ok (.aload_n 0, 1) := by decide +kernel
theorem dX4_perform_104 : decode cX4_perform 104 = .ok (.getfield 10, 3) := by decide +kernel
theorem dX4_perform_107 : decode cX4_perform 107 = .ok (.aload_n 0, 1) := by decide +kernel
theorem dX4_perform_108 : decode cX4_perform 108 = .ok (.getfield 32, 3) := by decide +kernel
theorem dX4_perform_111 : decode cX4_perform 111 = .ok (.getfield 350, 3) := by decide +kernel
theorem dX4_perform_114 : decode cX4_perform 114 = .ok (.aload_n 0, 1) := by decide +kernel
theorem dX4_perform_115 : decode cX4_perform 115 = .ok (.getfield 32, 3) := by decide +kernel
theorem dX4_perform_118 : decode cX4_perform 118 = .ok (.getfield 347, 3) := by decide +kernel
theorem dX4_perform_121 : decode cX4_perform 121 = .ok (.invokevirtual 82, 3) := by decide +kernel
theorem dX4_perform_124 : decode cX4_perform 124 = .ok (.ifCond .eq 5, 3) := by decide +kernel
theorem dX4_perform_127 : decode cX4_perform 127 = .ok (.iconst 0, 1) := by decide +kernel
theorem dX4_perform_128 : decode cX4_perform 128 = .ok (.ireturn, 1) := by decide +kernel
theorem dX4_perform_129 : decode cX4_perform 129 = .ok (.aload_n 0, 1) := by decide +kernel
theorem dX4_perform_130 : decode cX4_perform 130 = .ok (.getfield 10, 3) := by decide +kernel
theorem dX4_perform_133 : decode cX4_perform 133 = .ok (.aload_n 0, 1) := by decide +kernel
theorem dX4_perform_134 : decode cX4_perform 134 = .ok (.getfield 32, 3) := by decide +kernel
theorem dX4_perform_137 : decode cX4_perform 137 = .ok (.getfield 350, 3) := by decide +kernel
theorem dX4_perform_140 : decode cX4_perform 140 = .ok (.aload_n 0, 1) := by decide +kernel
theorem dX4_perform_141 : decode cX4_perform 141 = .ok (.getfield 32, 3) := by decide +kernel
theorem dX4_perform_144 : decode cX4_perform 144 = .ok (.getfield 347, 3) := by decide +kernel
theorem dX4_perform_147 : decode cX4_perform 147 = .ok (.invokevirtual 95, 3) := by decide +kernel
theorem dX4_perform_150 : decode cX4_perform 150 = .ok (.pop, 1) := by decide +kernel
theorem dX4_perform_151 : decode cX4_perform 151 = .ok (.goto 60, 3) := by decide +kernel
theorem dX4_perform_154 : decode cX4_perform 154 = .ok (.aload_n 0, 1) := by decide +kernel
theorem dX4_perform_155 : decode cX4_perform 155 = .ok (.getfield 32, 3) := by decide +kernel
theorem dX4_perform_158 : decode cX4_perform 158 = .ok (.getfield 338, 3) := by decide +kernel
theorem dX4_perform_161 : decode cX4_perform 161 = .ok (.bipush 114, 2) := by decide +kernel
theorem dX4_perform_163 : decode cX4_perform 163 = .ok (.if_icmp .ne 40, 3) := by decide +kernel
theorem dX4_perform_166 : decode cX4_perform 166 = .ok (.aload_n 0, 1) := by decide +kernel
theorem dX4_perform_167 : decode cX4_perform 167 = .ok (.getfield 10, 3) := by decide +kernel
theorem dX4_perform_170 : decode cX4_perform 170 = .ok (.aload_n 0, 1) := by decide +kernel
theorem dX4_perform_171 : decode cX4_perform 171 = .ok (.getfield 32, 3) := by decide +kernel
theorem dX4_perform_174 : decode cX4_perform 174 = .ok (.getfield 350, 3) := by decide +kernel
theorem dX4_perform_177 : decode cX4_perform 177 = .ok (.invokevirtual 99, 3) := by decide +kernel
theorem dX4_perform_180 : decode cX4_perform 180 = .ok (.ifCond .eq 5, 3) := by decide +kernel
theorem dX4_perform_183 : decode cX4_perform 183 = .ok (.iconst 0, 1) := by decide +kernel
theorem dX4_perform_184 : decode cX4_perform 184 = .ok (.ireturn, 1) := by decide +kernel
theorem dX4_perform_185 : decode cX4_perform 185 = .ok (.aload_n 0, 1) := by decide +kernel
theorem dX4_perform_186 : decode cX4_perform 186 = .ok (.getfield 10, 3) := by decide +kernel
theorem dX4_perform_189 : decode cX4_perform 189 = .ok (.aload_n 0, 1) := by decide +kernel
theorem dX4_perform_190 : decode cX4_perform 190 = .ok (.getfield 32, 3) := by decide +kernel
theorem dX4_perform_193 : decode cX4_perform 193 = .ok (.getfield 350, 3) := by decide +kernel
theorem dX4_perform_196 : decode cX4_perform 196 = .ok (.invokevirtual 107, 3) := by decide +kernel
theorem dX4_perform_199 : decode cX4_perform 199 = .ok (.pop, 1) := by decide +kernel
theorem dX4_perform_200 : decode cX4_perform 200 = .ok (.goto 11, 3) := by decide +kernel
theorem dX4_perform_203 : decode cX4_perform 203 = .ok (.aload_n 0, 1) := by decide +kernel
theorem dX4_perform_204 : decode cX4_perform 204 = .ok (.getfield 10, 3) := by decide +kernel
theorem dX4_perform_207 : decode cX4_perform 207 = .ok (.invokevirtual 110, 3) := by decide +kernel
theorem dX4_perform_210 : decode cX4_perform 210 = .ok (.pop, 1) := by decide +kernel
theorem dX4_perform_211 : decode cX4_perform 211 = .ok (.iconst 1, 1) := by decide +kernel
theorem dX4_perform_212 : decode cX4_perform 212 = .ok (.ireturn, 1) := by decide +kernel
theorem dX5_init_0 : decode cX5_init 0 = .ok (.aload_n 0, 1) := by decide +kernel
theorem dX5_init_1 : decode cX5_init 1 = .ok (.invokespecial 3, 3) := by decide +kernel
theorem dX5_init_4 : decode cX5_init 4 = .ok (.aload_n 0, 1) := by decide +kernel
theorem dX5_init_5 : decode cX5_init 5 = .ok (.bipush 113, 2) := by decide +kernel
theorem dX5_init_7 : decode cX5_init 7 = .ok (.newarray .int, 2) := by decide +kernel
theorem dX5_init_9 : decode cX5_init 9 = .ok (.putfield 9, 3) := by decide +kernel
theorem dX5_init_12 : decode cX5_init 12 = .ok (.aload_n 0, 1) := by decide +kernel
theorem dX5_init_13 : decode cX5_init 13 = .ok (.bipush 113, 2) := by decide +kernel
theorem dX5_init_15 : decode cX5_init 15 = .ok (.newarray .int, 2) := by decide +kernel
theorem dX5_init_17 : decode cX5_init 17 = .ok (.putfield 13, 3) := by decide +kernel
theorem dX5_init_20 : decode cX5_init 20 = .ok (.aload_n 0, 1) := by decide +kernel
theorem dX5_init_21 : decode cX5_init 21 = .ok (.bipush 113, 2) := by decide +kernel
theorem dX5_init_23 : decode cX5_init 23 = .ok (.newarray .int, 2) := by decide +kernel
theorem dX5_init_25 : decode cX5_init 25 = .ok (.putfield 16, 3) := by decide +kernel
theorem dX5_init_28 : decode cX5_init 28 = .ok (.aload_n 0, 1) := by decide +kernel
theorem dX5_init_29 : decode cX5_init 29 = .ok (.bipush 113, 2) := by decide +kernel
theorem dX5_init_31 : decode cX5_init 31 = .ok (.newarray .int, 2) := by decide +kernel
theorem dX5_init_33 : decode cX5_init 33 = .ok (.putfield 19, 3) := by decide +kernel
theorem dX5_init_36 : decode cX5_init 36 = .ok (.aload_n 0, 1) := by decide +kernel
theorem dX5_init_37 : decode cX5_init 37 = .ok (.sipush 904, 3) := by decide +kernel
theorem dX5_init_40 : decode cX5_init 40 = .ok (.newarray .int, 2) := by decide +kernel
theorem dX5_init_42 : decode cX5_init 42 = .ok (.putfield 22, 3) := by decide +kernel
theorem dX5_init_45 : decode cX5_init 45 = .ok (.aload_n 0, 1) := by decide +kernel
theorem dX5_init_46 : decode cX5_init 46 = .ok (.bipush 30, 2) := by decide +kernel
theorem dX5_init_48 : decode cX5_init 48 = .ok (.newarray .char, 2) := by decide +kernel
theorem dX5_init_50 : decode cX5_init 50 = .ok (.putfield 25, 3) := by decide +kernel
theorem dX5_init_53 : decode cX5_init 53 = .ok (.aload_n 0, 1) := by decide +kernel
theorem dX5_init_54 : decode cX5_init 54 = .ok (.bipush 60, 2) := by decide +kernel
theorem dX5_init_56 : decode cX5_init 56 = .ok (.newarray .char, 2) := by decide +kernel
theorem dX5_init_58 : decode cX5_init 58 = .ok (.putfield 29, 3) := by decide +kernel
theorem dX5_init_61 : decode cX5_init 61 = .ok (.aload_n 0, 1) := by decide +kernel
theorem dX5_init_62 : decode cX5_init 62 = .ok (.iconst (-1), 1) := by decide +kernel
theorem dX5_init_63 : decode cX5_init 63 = .ok (.putfield 32, 3) := by decide +kernel
theorem dX5_init_66 : decode cX5_init 66 = .ok (.aload_n 0, 1) := by decide +kernel
theorem dX5_init_67 : decode cX5_init 67 = .ok (.iconst (-1), 1) := by decide +kernel
theorem dX5_init_68 : decode cX5_init 68 = .ok (.putfield 36, 3) := by decide +kernel
theorem dX5_init_71 : decode cX5_init 71 = .ok (.aload_n 0, 1) := by decide +kernel
theorem dX5_init_72 : decode cX5_init 72 = .ok (.sipush 300, 3) := by decide +kernel
theorem dX5_init_75 : decode cX5_init 75 = .ok (.newarray .int, 2) := by decide +kernel
theorem dX5_init_77 : decode cX5_init 77 = .ok (.putfield 39, 3) := by decide +kernel
theorem dX5_init_80 : decode cX5_init 80 = .ok (.aload_n 0, 1) := by decide +kernel
theorem dX5_init_81 : decode cX5_init 81 = .ok (.getfield 9, 3) := by decide +kernel
theorem dX5_init_84 : decode cX5_init 84 = .ok (.iconst 3, 1) := by decide +kernel
theorem dX5_init_85 : decode cX5_init 85 = .ok (.iconst 3, 1) := by decide +kernel
theorem dX5_init_86 : decode cX5_init 86 = .ok (.iastore, 1) := by decide +kernel
theorem dX5_init_87 : decode cX5_init 87 = .ok (.aload_n 0, 1) := by decide +kernel
theorem dX5_init_88 : decode cX5_init 88 = .ok (.getfield 9, 3) := by decide +kernel
theorem dX5_init_91 : decode cX5_init 91 = .ok (.iconst 4, 1) := by decide +kernel
theorem dX5_init_92 : decode cX5_init 92 = .ok (.iconst 3, 1) := by decide +kernel
theorem dX5_init_93 : decode cX5_init 93 = .ok (.iastore, 1) := by decide +kernel
theorem dX5_init_94 : decode cX5_init 94 = .ok (.return_, 1) := by decide +kernel
theorem dX5_thrown_0 : decode cX5_thrown 0 = .ok (.aload_n 0, 1) := by decide +kernel
theorem dX5_thrown_1 : decode cX5_thrown 1 = .ok (.getfield 42, 3) := by decide +kernel
theorem dX5_thrown_4 : decode cX5_thrown 4 = .ok (.ireturn, 1) := by decide +kernel
theorem dX5_in_0 : decode cX5_in 0 = .ok (.iload_n 0, 1) := by decide +kernel
theorem dX5_in_1 : decode cX5_in 1 = .ok (.iload_n 1, 1) := by decide +kernel
theorem dX5_in_2 : decode cX5_in 2 = .ok (.if_icmp .lt 12, 3) := by decide +kernel
theorem dX5_in_5 : decode cX5_in 5 = .ok (.iload_n 0, 1) := by decide +kernel
theorem dX5_in_6 : decode cX5_in 6 = .ok (.iload_n 2, 1) := by decide +kernel
theorem dX5_in_7 : decode cX5_in 7 = .ok (.if_icmp .gt 7, 3) := by decide +kernel
theorem dX5_in_10 : decode cX5_in 10 = .ok (.iconst 1, 1) := by decide +kernel
theorem dX5_in_11 : decode cX5_in 11 = .ok (.goto 4, 3) := by decide +kernel
theorem dX5_in_14 : decode cX5_in 14 = .ok (.iconst 0, 1) := by decide +kernel
theorem dX5_in_15 : decode cX5_in 15 = .ok (.ireturn, 1) := by decide +kernel
theorem dX5_keep_0 : decode cX5_keep 0 = .ok (.aload_n 0, 1) := by decide +kernel
theorem dX5_keep_1 : decode cX5_keep 1 = .ok (.iconst 0, 1) := by decide +kernel
theorem dX5_keep_2 : decode cX5_keep 2 = .ok (.putfield 42, 3) := by decide +kernel
theorem dX5_keep_5 : decode cX5_keep 5 = .ok (.aload_n 0, 1) := by decide +kernel
theorem dX5_keep_6 : decode cX5_keep 6 = .ok (.getfield 9, 3) := by decide +kernel
theorem dX5_keep_9 : decode cX5_keep 9 = .ok (.iconst 0, 1) := by decide +kernel
theorem dX5_keep_10 : decode cX5_keep 10 = .ok (.aload_n 0, 1) := by decide +kernel
theorem dX5_keep_11 : decode cX5_keep 11 = .ok (.getfield 13, 3) := by decide +kernel
theorem dX5_keep_14 : decode cX5_keep 14 = .ok (.iconst 0, 1) := by decide +kernel
theorem dX5_keep_15 : decode cX5_keep 15 = .ok (.bipush 113, 2) := by decide +kernel
theorem dX5_keep_17 : decode cX5_keep 17 = .ok (.invokestatic 45, 3) := by decide +kernel
theorem dX5_keep_20 : decode cX5_keep 20 = .ok (.return_, 1) := by decide +kernel
theorem dX5_ends_0 : decode cX5_ends 0 = .ok (.aload_n 0, 1) := by decide +kernel
theorem dX5_ends_1 : decode cX5_ends 1 = .ok (.getfield 42, 3) := by decide +kernel
theorem dX5_ends_4 : decode cX5_ends 4 = .ok (.ifCond .le 20, 3) := by decide +kernel
theorem dX5_ends_7 : decode cX5_ends 7 = .ok (.aload_n 0, 1) := by decide +kernel
theorem dX5_ends_8 : decode cX5_ends 8 = .ok (.getfield 13, 3) := by decide +kernel
theorem dX5_ends_11 : decode cX5_ends 11 = .ok (.iconst 0, 1) := by decide +kernel
theorem dX5_ends_12 : decode cX5_ends 12 = .ok (.aload_n 0, 1) := by decide +kernel
theorem dX5_ends_13 : decode cX5_ends 13 = .ok (.getfield 9, 3) := by decide +kernel
theorem dX5_ends_16 : decode cX5_ends 16 = .ok (.iconst 0, 1) := by decide +kernel
theorem dX5_ends_17 : decode cX5_ends 17 = .ok (.bipush 113, 2) := by decide +kernel
theorem dX5_ends_19 : decode cX5_ends 19 = .ok (.invokestatic 45, 3) := by decide +kernel
theorem dX5_ends_22 : decode cX5_ends 22 = .ok (.iconst 0, 1) := by decide +kernel
theorem dX5_ends_23 : decode cX5_ends 23 = .ok (.ireturn, 1) := by decide +kernel
theorem dX5_ends_24 : decode cX5_ends 24 = .ok (.aload_n 0, 1) := by decide +kernel
theorem dX5_ends_25 : decode cX5_ends 25 = .ok (.getfield 51, 3) := by decide +kernel
theorem dX5_ends_28 : decode cX5_ends 28 = .ok (.bipush 8, 2) := by decide +kernel
theorem dX5_ends_30 : decode cX5_ends 30 = .ok (.if_icmp .ne 30, 3) := by decide +kernel
theorem dX5_ends_33 : decode cX5_ends 33 = .ok (.aload_n 0, 1) := by decide +kernel
theorem dX5_ends_34 : decode cX5_ends 34 = .ok (.getfield 22, 3) := by decide +kernel
theorem dX5_ends_37 : decode cX5_ends 37 = .ok (.bipush 113, 2) := by decide +kernel
theorem dX5_ends_39 : decode cX5_ends 39 = .ok (.aload_n 0, 1) := by decide +kernel
theorem dX5_ends_40 : decode cX5_ends 40 = .ok (.getfield 22, 3) := by decide +kernel
theorem dX5_ends_43 : decode cX5_ends 43 = .ok (.iconst 0, 1) := by decide +kernel
theorem dX5_ends_44 : decode cX5_ends 44 = .ok (.sipush 791, 3) := by decide +kernel
theorem dX5_ends_47 : decode cX5_ends 47 = .ok (.invokestatic 45, 3) := by decide +kernel
theorem dX5_ends_50 : decode cX5_ends 50 = .ok (.aload_n 0, 1) := by decide +kernel
theorem dX5_ends_51 : decode cX5_ends 51 = .ok (.dup, 1) := by decide +kernel
theorem dX5_ends_52 : decode cX5_ends 52 = .ok (.getfield 51, 3) := by decide +kernel
theorem dX5_ends_55 : decode cX5_ends 55 = .ok (.iconst 1, 1) := by decide +kernel
theorem dX5_ends_56 : decode cX5_ends 56 = .ok (.isub, 1) := by decide +kernel
theorem dX5_ends_57 : decode cX5_ends 57 = .ok (.putfield 51, 3) := by decide +kernel
theorem dX5_ends_60 : decode cX5_ends 60 = .ok (.aload_n 0, 1) := by decide +kernel
theorem dX5_ends_61 : decode cX5_ends 61 = .ok (.getfield 13, 3) := by decide +kernel
theorem dX5_ends_64 : decode cX5_ends 64 = .ok (.iconst 0, 1) := by decide +kernel
theorem dX5_ends_65 : decode cX5_ends 65 = .ok (.aload_n 0, 1) := by decide +kernel
theorem dX5_ends_66 : decode cX5_ends 66 = .ok (.getfield 22, 3) := by decide +kernel
theorem dX5_ends_69 : decode cX5_ends 69 = .ok (.bipush 113, 2) := by decide +kernel
theorem dX5_ends_71 : decode cX5_ends 71 = .ok (.aload_n 0, 1) := by decide +kernel
theorem dX5_ends_72 : decode cX5_ends 72 = .ok (.getfield 51, 3) := by decide +kernel
theorem dX5_ends_75 : decode cX5_ends 75 = .ok (.imul, 1) := by decide +kernel
theorem dX5_ends_76 : decode cX5_ends 76 = .ok (.bipush 113, 2) := by decide +kernel
theorem dX5_ends_78 : decode cX5_ends 78 = .ok (.invokestatic 45, 3) := by decide +kernel
theorem dX5_ends_81 : decode cX5_ends 81 = .ok (.aload_n 0, 1) := by decide +kernel
theorem dX5_ends_82 : decode cX5_ends 82 = .ok (.dup, 1) := by decide +kernel
theorem dX5_ends_83 : decode cX5_ends 83 = .ok (.getfield 51, 3) := by decide +kernel
theorem dX5_ends_86 : decode cX5_ends 86 = .ok (.iconst 1, 1) := by decide +kernel
theorem dX5_ends_87 : decode cX5_ends 87 = .ok (.iadd, 1) := by decide +kernel
theorem dX5_ends_88 : decode cX5_ends 88 = .ok (.putfield 51, 3) := by decide +kernel
theorem dX5_ends_91 : decode cX5_ends 91 = .ok (.iload_n 1, 1) := by decide +kernel
theorem dX5_ends_92 : decode cX5_ends 92 = .ok (.ireturn, 1) := by decide +kernel
theorem dX5_fails_0 : decode cX5_fails 0 = .ok (.aload_n 0, 1) := by decide +kernel
theorem dX5_fails_1 : decode cX5_fails 1 = .ok (.iload_n 1, 1) := by decide +kernel
theorem dX5_fails_2 : decode cX5_fails 2 = .ok (.putfield 42, 3) := by decide +kernel
theorem dX5_fails_5 : decode cX5_fails 5 = .ok (.iconst 0, 1) := by decide +kernel
theorem dX5_fails_6 : decode cX5_fails 6 = .ok (.ireturn, 1) := by decide +kernel
theorem dX5_isThere_0 : decode cX5_isThere 0 = .ok (.aload_n 0, 1) := by decide +kernel
theorem dX5_isThere_1 : decode cX5_isThere 1 = .ok (.iload_n 1, 1) := by decide +kernel
theorem dX5_isThere_2 : decode cX5_isThere 2 = .ok (.ifCond .eq 7, 3) := by decide +kernel
theorem dX5_isThere_5 : decode cX5_isThere 5 = .ok (.iconst 0, 1) := by decide +kernel
theorem dX5_isThere_6 : decode cX5_isThere 6 = .ok (.goto 4, 3) := by decide +kernel
theorem dX5_isThere_9 : decode cX5_isThere 9 = .ok (.iconst 1, 1) := by decide +kernel
theorem dX5_isThere_10 : decode cX5_isThere 10 = .ok (.putfield 42, 3) := by decide +kernel
theorem dX5_isThere_13 : decode cX5_isThere 13 = .ok (.iload_n 1, 1) := by decide +kernel
theorem dX5_isThere_14 : decode cX5_isThere 14 = .ok (.ireturn, 1) := by decide +kernel
theorem dX5_isLine_0 : decode cX5_isLine 0 = .ok (.iload_n 1, 1) := by decide +kernel
theorem dX5_isLine_1 : decode cX5_isLine 1 = .ok (.iconst 0, 1) := by decide +kernel
theorem dX5_isLine_2 : decode cX5_isLine 2 = .ok (.aload_n 0, 1) := by decide +kernel
theorem dX5_isLine_3 : decode cX5_isLine 3 = .ok (.getfield 9, 3) := by decide +kernel
theorem dX5_isLine_6 : decode cX5_isLine 6 = .ok (.iconst 0, 1) := by decide +kernel
theorem dX5_isLine_7 : decode cX5_isLine 7 = .ok (.iaload, 1) := by decide +kernel
theorem dX5_isLine_8 : decode cX5_isLine 8 = .ok (.iconst 1, 1) := by decide +kernel
theorem dX5_isLine_9 : decode cX5_isLine 9 = .ok (.isub, 1) := by decide +kernel
theorem dX5_isLine_10 : decode cX5_isLine 10 = .ok (.invokestatic 54, 3) := by decide +kernel
theorem dX5_isLine_13 : decode cX5_isLine 13 = .ok (.ireturn, 1) := by decide +kernel
theorem dX5_isSide_0 : decode cX5_isSide 0 = .ok (.iload_n 0, 1) := by decide +kernel
theorem dX5_isSide_1 : decode cX5_isSide 1 = .ok (.iconst 0, 1) := by decide +kernel
theorem dX5_isSide_2 : decode cX5_isSide 2 = .ok (.iconst 1, 1) := by decide +kernel
theorem dX5_isSide_3 : decode cX5_isSide 3 = .ok (.invokestatic 54, 3) := by decide +kernel
theorem dX5_isSide_6 : decode cX5_isSide 6 = .ok (.ireturn, 1) := by decide +kernel
theorem dX5_isLane_0 : decode cX5_isLane 0 = .ok (.iload_n 0, 1) := by decide +kernel
theorem dX5_isLane_1 : decode cX5_isLane 1 = .ok (.iconst 0, 1) := by decide +kernel
theorem dX5_isLane_2 : decode cX5_isLane 2 = .ok (.iconst 2, 1) := by decide +kernel
theorem dX5_isLane_3 : decode cX5_isLane 3 = .ok (.invokestatic 54, 3) := by decide +kernel
theorem dX5_isLane_6 : decode cX5_isLane 6 = .ok (.ireturn, 1) := by decide +kernel
theorem dX5_isColumn_0 : decode cX5_isColumn 0 = .ok (.iload_n 0, 1) := by decide +kernel
theorem dX5_isColumn_1 : decode cX5_isColumn 1 = .ok (.iconst 0, 1) := by decide +kernel
theorem dX5_isColumn_2 : decode cX5_isColumn 2 = .ok (.bipush 9, 2) := by decide +kernel
theorem dX5_isColumn_4 : decode cX5_isColumn 4 = .ok (.invokestatic 54, 3) := by decide +kernel
theorem dX5_isColumn_7 : decode cX5_isColumn 7 = .ok (.ireturn, 1) := by decide +kernel
theorem dX5_isKind_0 : decode cX5_isKind 0 = .ok (.iload_n 0, 1) := by decide +kernel
theorem dX5_isKind_1 : decode cX5_isKind 1 = .ok (.bipush 112, 2) := by decide +kernel
theorem dX5_isKind_3 : decode cX5_isKind 3 = .ok (.if_icmp .eq 21, 3) := by decide +kernel
theorem dX5_isKind_6 : decode cX5_isKind 6 = .ok (.iload_n 0, 1) := by decide +kernel
theorem dX5_isKind_7 : decode cX5_isKind 7 = .ok (.bipush 110, 2) := by decide +kernel
theorem dX5_isKind_9 : decode cX5_isKind 9 = .ok (.if_icmp .eq 15, 3) := by decide +kernel
theorem dX5_isKind_12 : decode cX5_isKind 12 = .ok (.iload_n 0, 1) := by decide +kernel
theorem dX5_isKind_13 : decode cX5_isKind 13 = .ok (.bipush 99, 2) := by decide +kernel
theorem dX5_isKind_15 : decode cX5_isKind 15 = .ok (.if_icmp .eq 9, 3) := by decide +kernel
theorem dX5_isKind_18 : decode cX5_isKind 18 = .ok (.iload_n 0, 1) := by decide +kernel
theorem dX5_isKind_19 : decode cX5_isKind 19 = .ok (.bipush 115, 2) := by decide +kernel
theorem dX5_isKind_21 : decode cX5_isKind 21 = .ok (.if_icmp .ne 7, 3) := by decide +kernel
theorem dX5_isKind_24 : decode cX5_isKind 24 = .ok (.iconst 1, 1) := by decide +kernel
theorem dX5_isKind_25 : decode cX5_isKind 25 = .ok (.goto 4, 3) := by decide +kernel
theorem dX5_isKind_28 : decode cX5_isKind 28 = .ok (.iconst 0, 1) := by decide +kernel
theorem dX5_isKind_29 : decode cX5_isKind 29 = .ok (.ireturn, 1) := by decide +kernel
theorem dX5_isOrder_0 : decode cX5_isOrder 0 = .ok (.iload_n 0, 1) := by decide +kernel
theorem dX5_isOrder_1 : decode cX5_isOrder 1 = .ok (.bipush 104, 2) := by decide +kernel
theorem dX5_isOrder_3 : decode cX5_isOrder 3 = .ok (.if_icmp .eq 15, 3) := by decide +kernel
theorem dX5_isOrder_6 : decode cX5_isOrder 6 = .ok (.iload_n 0, 1) := by decide +kernel
theorem dX5_isOrder_7 : decode cX5_isOrder 7 = .ok (.bipush 97, 2) := by decide +kernel
theorem dX5_isOrder_9 : decode cX5_isOrder 9 = .ok (.if_icmp .eq 9, 3) := by decide +kernel
theorem dX5_isOrder_12 : decode cX5_isOrder 12 = .ok (.iload_n 0, 1) := by decide +kernel
theorem dX5_isOrder_13 : decode cX5_isOrder 13 = .ok (.bipush 99, 2) := by decide +kernel
theorem dX5_isOrder_15 : decode cX5_isOrder 15 = .ok (.if_icmp .ne 7, 3) := by decide +kernel
theorem dX5_isOrder_18 : decode cX5_isOrder 18 = .ok (.iconst 1, 1) := by decide +kernel
theorem dX5_isOrder_19 : decode cX5_isOrder 19 = .ok (.goto 4, 3) := by decide +kernel
theorem dX5_isOrder_22 : decode cX5_isOrder 22 = .ok (.iconst 0, 1) := by decide +kernel
theorem dX5_isOrder_23 : decode cX5_isOrder 23 = .ok (.ireturn, 1) := by decide +kernel
theorem dX5_of_0 : decode cX5_of 0 = .ok (.aload_n 0, 1) := by decide +kernel
theorem dX5_of_1 : decode cX5_of 1 = .ok (.getfield 9, 3) := by decide +kernel
theorem dX5_of_4 : decode cX5_of 4 = .ok (.iconst 5, 1) := by decide +kernel
theorem dX5_of_5 : decode cX5_of 5 = .ok (.bipush 9, 2) := by decide +kernel
theorem dX5_of_7 : decode cX5_of 7 = .ok (.iload_n 1, 1) := by decide +kernel
theorem dX5_of_8 : decode cX5_of 8 = .ok (.imul, 1) := by decide +kernel
theorem dX5_of_9 : decode cX5_of 9 = .ok (.iadd, 1) := by decide +kernel
theorem dX5_of_10 : decode cX5_of 10 = .ok (.iload_n 2, 1) := by decide +kernel
theorem dX5_of_11 : decode cX5_of 11 = .ok (.iadd, 1) := by decide +kernel
theorem dX5_of_12 : decode cX5_of 12 = .ok (.iaload, 1) := by decide +kernel
theorem dX5_of_13 : decode cX5_of 13 = .ok (.ireturn, 1) := by decide +kernel
theorem dX5_sets_0 : decode cX5_sets 0 = .ok (.aload_n 0, 1) := by decide +kernel
theorem dX5_sets_1 : decode cX5_sets 1 = .ok (.getfield 9, 3) := by decide +kernel
theorem dX5_sets_4 : decode cX5_sets 4 = .ok (.iconst 5, 1) := by decide +kernel
theorem dX5_sets_5 : decode cX5_sets 5 = .ok (.bipush 9, 2) := by decide +kernel
theorem dX5_sets_7 : decode cX5_sets 7 = .ok (.iload_n 1, 1) := by decide +kernel
theorem dX5_sets_8 : decode cX5_sets 8 = .ok (.imul, 1) := by decide +kernel
theorem dX5_sets_9 : decode cX5_sets 9 = .ok (.iadd, 1) := by decide +kernel
theorem dX5_sets_10 : decode cX5_sets 10 = .ok (.iload_n 2, 1) := by decide +kernel
theorem dX5_sets_11 : decode cX5_sets 11 = .ok (.iadd, 1) := by decide +kernel
theorem dX5_sets_12 : decode cX5_sets 12 = .ok (.iload_n 3, 1) := by decide +kernel
theorem dX5_sets_13 : decode cX5_sets 13 = .ok (.iastore, 1) := by decide +kernel
theorem dX5_sets_14 : decode cX5_sets 14 = .ok (.return_, 1) := by decide +kernel
theorem dX5_stands_0 : decode cX5_stands 0 = .ok (.aload_n 0, 1) := by decide +kernel
theorem dX5_stands_1 : decode cX5_stands 1 = .ok (.iload_n 1, 1) := by decide +kernel
theorem dX5_stands_2 : decode cX5_stands 2 = .ok (.bipush 7, 2) := by decide +kernel
theorem dX5_stands_4 : decode cX5_stands 4 = .ok (.invokevirtual 58, 3) := by decide +kernel
theorem dX5_stands_7 : decode cX5_stands 7 = .ok (.ifCond .ne 7, 3) := by decide +kernel
theorem dX5_stands_10 : decode cX5_stands 10 = .ok (.iconst 1, 1) := by decide +kernel
theorem dX5_stands_11 : decode cX5_stands 11 = .ok (.goto 4, 3) := by decide +kernel
theorem dX5_stands_14 : decode cX5_stands 14 = .ok (.iconst 0, 1) := by decide +kernel
theorem dX5_stands_15 : decode cX5_stands 15 = .ok (.ireturn, 1) := by decide +kernel
theorem dX5_isGone_0 : decode cX5_isGone 0 = .ok (.aload_n 0, 1) := by decide +kernel
theorem dX5_isGone_1 : decode cX5_isGone 1 = .ok (.iload_n 1, 1) := by decide +kernel
theorem dX5_isGone_2 : decode cX5_isGone 2 = .ok (.bipush 7, 2) := by decide +kernel
theorem dX5_isGone_4 : decode cX5_isGone 4 = .ok (.invokevirtual 58, 3) := by decide +kernel
theorem dX5_isGone_7 : decode cX5_isGone 7 = .ok (.iconst 2, 1) := by decide +kernel
theorem dX5_isGone_8 : decode cX5_isGone 8 = .ok (.if_icmp .ne 7, 3) := by decide +kernel
theorem dX5_isGone_11 : decode cX5_isGone 11 = .ok (.iconst 1, 1) := by decide +kernel
theorem dX5_isGone_12 : decode cX5_isGone 12 = .ok (.goto 4, 3) := by decide +kernel
theorem dX5_isGone_15 : decode cX5_isGone 15 = .ok (.iconst 0, 1) := by decide +kernel
theorem dX5_isGone_16 : decode cX5_isGone 16 = .ok (.ireturn, 1) := by decide +kernel
theorem dX5_way_0 : decode cX5_way 0 = .ok (.aload_n 0, 1) := by decide +kernel
theorem dX5_way_1 : decode cX5_way 1 = .ok (.iload_n 1, 1) := by decide +kernel
theorem dX5_way_2 : decode cX5_way 2 = .ok (.iconst 0, 1) := by decide +kernel
theorem dX5_way_3 : decode cX5_way 3 = .ok (.invokevirtual 58, 3) := by decide +kernel
theorem dX5_way_6 : decode cX5_way 6 = .ok (.ifCond .ne 7, 3) := by decide +kernel
theorem dX5_way_9 : decode cX5_way 9 = .ok (.iconst 1, 1) := by decide +kernel
theorem dX5_way_10 : decode cX5_way 10 = .ok (.goto 4, 3) := by decide +kernel
theorem dX5_way_13 : decode cX5_way 13 = .ok (.iconst (-1), 1) := by decide +kernel
theorem dX5_way_14 : decode cX5_way 14 = .ok (.ireturn, 1) := by decide +kernel
theorem dX5_cell_0 : decode cX5_cell 0 = .ok (.iconst (-1), 1) := by decide +kernel
theorem dX5_cell_1 : decode cX5_cell 1 = .ok (.istore_n 3, 1) := by decide +kernel
theorem dX5_cell_2 : decode cX5_cell 2 = .ok (.iconst 0, 1) := by decide +kernel
theorem dX5_cell_3 : decode cX5_cell 3 = .ok (.istore 4, 2) := by decide +kernel
theorem dX5_cell_5 : decode cX5_cell 5 = .ok (.iload 4, 2) := by decide +kernel
theorem dX5_cell_7 : decode cX5_cell 7 = .ok (.aload_n 0, 1) := by decide +kernel
theorem dX5_cell_8 : decode cX5_cell 8 = .ok (.getfield 9, 3) := by decide +kernel
theorem dX5_cell_11 : decode cX5_cell 11 = .ok (.iconst 0, 1) := by decide +kernel
theorem dX5_cell_12 : decode cX5_cell 12 = .ok (.iaload, 1) := by decide +kernel
theorem dX5_cell_13 : decode cX5_cell 13 = .ok (.if_icmp .ge 47, 3) := by decide +kernel
theorem dX5_cell_16 : decode cX5_cell 16 = .ok (.aload_n 0, 1) := by decide +kernel
theorem dX5_cell_17 : decode cX5_cell 17 = .ok (.iload 4, 2) := by decide +kernel
theorem dX5_cell_19 : decode cX5_cell 19 = .ok (.invokevirtual 62, 3) := by decide +kernel
theorem dX5_cell_22 : decode cX5_cell 22 = .ok (.ifCond .ne 30, 3) := by decide +kernel
theorem dX5_cell_25 : decode cX5_cell 25 = .ok (.aload_n 0, 1) := by decide +kernel
theorem dX5_cell_26 : decode cX5_cell 26 = .ok (.iload 4, 2) := by decide +kernel
theorem dX5_cell_28 : decode cX5_cell 28 = .ok (.iconst 1, 1) := by decide +kernel
theorem dX5_cell_29 : decode cX5_cell 29 = .ok (.invokevirtual 58, 3) := by decide +kernel
theorem dX5_cell_32 : decode cX5_cell 32 = .ok (.iload_n 1, 1) := by decide +kernel
theorem dX5_cell_33 : decode cX5_cell 33 = .ok (.if_icmp .ne 19, 3) := by decide +kernel
theorem dX5_cell_36 : decode cX5_cell 36 = .ok (.aload_n 0, 1) := by decide +kernel
theorem dX5_cell_37 : decode cX5_cell 37 = .ok (.iload 4, 2) := by decide +kernel
theorem dX5_cell_39 : decode cX5_cell 39 = .ok (.iconst 2, 1) := by decide +kernel
theorem dX5_cell_40 : decode cX5_cell 40 = .ok (.invokevirtual 58, 3) := by decide +kernel
theorem dX5_cell_43 : decode cX5_cell 43 = .ok (.iload_n 2, 1) := by decide +kernel
theorem dX5_cell_44 : decode cX5_cell 44 = .ok (.if_icmp .ne 8, 3) := by decide +kernel
theorem dX5_cell_47 : decode cX5_cell 47 = .ok (.iload 4, 2) := by decide +kernel
theorem dX5_cell_49 : decode cX5_cell 49 = .ok (.goto 4, 3) := by decide +kernel
theorem dX5_cell_52 : decode cX5_cell 52 = .ok (.iload_n 3, 1) := by decide +kernel
theorem dX5_cell_53 : decode cX5_cell 53 = .ok (.istore_n 3, 1) := by decide +kernel
theorem dX5_cell_54 : decode cX5_cell 54 = .ok (.iinc 4 1, 3) := by decide +kernel
theorem dX5_cell_57 : decode cX5_cell 57 = .ok (.goto (-52), 3) := by decide +kernel
theorem dX5_cell_60 : decode cX5_cell 60 = .ok (.iload_n 3, 1) := by decide +kernel
theorem dX5_cell_61 : decode cX5_cell 61 = .ok (.ireturn, 1) := by decide +kernel
theorem dX5_attack_0 : decode cX5_attack 0 = .ok (.aload_n 0, 1) := by decide +kernel
theorem dX5_attack_1 : decode cX5_attack 1 = .ok (.iload_n 1, 1) := by decide +kernel
theorem dX5_attack_2 : decode cX5_attack 2 = .ok (.iconst 4, 1) := by decide +kernel
theorem dX5_attack_3 : decode cX5_attack 3 = .ok (.invokevirtual 58, 3) := by decide +kernel
theorem dX5_attack_6 : decode cX5_attack 6 = .ok (.istore_n 2, 1) := by decide +kernel
theorem dX5_attack_7 : decode cX5_attack 7 = .ok (.aload_n 0, 1) := by decide +kernel
theorem dX5_attack_8 : decode cX5_attack 8 = .ok (.iload_n 1, 1) := by decide +kernel
theorem dX5_attack_9 : decode cX5_attack 9 = .ok (.iconst 3, 1) := by decide +kernel
theorem dX5_attack_10 : decode cX5_attack 10 = .ok (.invokevirtual 58, 3) := by decide +kernel
theorem dX5_attack_13 : decode cX5_attack 13 = .ok (.lookupswitch 49 #[(99, 45), (110, 39), (112, 35)], 35) := by decide +kernel
theorem dX5_attack_48 : decode cX5_attack 48 = .ok (.iload_n 2, 1) := by decide +kernel
theorem dX5_attack_49 : decode cX5_attack 49 = .ok (.iconst 4, 1) := by decide +kernel
theorem dX5_attack_50 : decode cX5_attack 50 = .ok (.idiv, 1) := by decide +kernel
theorem dX5_attack_51 : decode cX5_attack 51 = .ok (.ireturn, 1) := by decide +kernel
theorem dX5_attack_52 : decode cX5_attack 52 = .ok (.iload_n 2, 1) := by decide +kernel
theorem dX5_attack_53 : decode cX5_attack 53 = .ok (.iconst 5, 1) := by decide +kernel
theorem dX5_attack_54 : decode cX5_attack 54 = .ok (.idiv, 1) := by decide +kernel
theorem dX5_attack_55 : decode cX5_attack 55 = .ok (.iconst 2, 1) := by decide +kernel
theorem dX5_attack_56 : decode cX5_attack 56 = .ok (.iadd, 1) := by decide +kernel
theorem dX5_attack_57 : decode cX5_attack 57 = .ok (.ireturn, 1) := by decide +kernel
theorem dX5_attack_58 : decode cX5_attack 58 = .ok (.iload_n 2, 1) := by decide +kernel
theorem dX5_attack_59 : decode cX5_attack 59 = .ok (.iconst 3, 1) := by decide +kernel
theorem dX5_attack_60 : decode cX5_attack 60 = .ok (.idiv, 1) := by decide +kernel
theorem dX5_attack_61 : decode cX5_attack 61 = .ok (.ireturn, 1) := by decide +kernel
theorem dX5_attack_62 : decode cX5_attack 62 = .ok (.iload_n 2, 1) := by decide +kernel
theorem dX5_attack_63 : decode cX5_attack 63 = .ok (.bipush 6, 2) := by decide +kernel
theorem dX5_attack_65 : decode cX5_attack 65 = .ok (.idiv, 1) := by decide +kernel
theorem dX5_attack_66 : decode cX5_attack 66 = .ok (.iconst 1, 1) := by decide +kernel
theorem dX5_attack_67 : decode cX5_attack 67 = .ok (.iadd, 1) := by decide +kernel
theorem dX5_attack_68 : decode cX5_attack 68 = .ok (.ireturn, 1) := by decide +kernel
theorem dX5_counter_0 : decode cX5_counter 0 = .ok (.aload_n 0, 1) := by decide +kernel
theorem dX5_counter_1 : decode cX5_counter 1 = .ok (.iload_n 1, 1) := by decide +kernel
theorem dX5_counter_2 : decode cX5_counter 2 = .ok (.iconst 3, 1) := by decide +kernel
theorem dX5_counter_3 : decode cX5_counter 3 = .ok (.invokevirtual 58, 3) := by decide +kernel
theorem dX5_counter_6 : decode cX5_counter 6 = .ok (.istore_n 2, 1) := by decide +kernel
theorem dX5_counter_7 : decode cX5_counter 7 = .ok (.aload_n 0, 1) := by decide +kernel
theorem dX5_counter_8 : decode cX5_counter 8 = .ok (.iload_n 1, 1) := by decide +kernel
theorem dX5_counter_9 : decode cX5_counter 9 = .ok (.iconst 4, 1) := by decide +kernel
theorem dX5_counter_10 : decode cX5_counter 10 = .ok (.invokevirtual 58, 3) := by decide +kernel
theorem dX5_counter_13 : decode cX5_counter 13 = .ok (.iload_n 2, 1) := by decide +kernel
theorem dX5_counter_14 : decode cX5_counter 14 = .ok (.bipush 112, 2) := by decide +kernel
theorem dX5_counter_16 : decode cX5_counter 16 = .ok (.if_icmp .ne 8, 3) := by decide +kernel
theorem dX5_counter_19 : decode cX5_counter 19 = .ok (.bipush 8, 2) := by decide +kernel
theorem dX5_counter_21 : decode cX5_counter 21 = .ok (.goto 26, 3) := by decide +kernel
theorem dX5_counter_24 : decode cX5_counter 24 = .ok (.iload_n 2, 1) := by decide +kernel
theorem dX5_counter_25 : decode cX5_counter 25 = .ok (.bipush 110, 2) := by decide +kernel
theorem dX5_counter_27 : decode cX5_counter 27 = .ok (.if_icmp .ne 7, 3) := by decide +kernel
theorem dX5_counter_30 : decode cX5_counter 30 = .ok (.iconst 4, 1) := by decide +kernel
theorem dX5_counter_31 : decode cX5_counter 31 = .ok (.goto 16, 3) := by decide +kernel
theorem dX5_counter_34 : decode cX5_counter 34 = .ok (.iload_n 2, 1) := by decide +kernel
theorem dX5_counter_35 : decode cX5_counter 35 = .ok (.bipush 99, 2) := by decide +kernel
theorem dX5_counter_37 : decode cX5_counter 37 = .ok (.if_icmp .ne 8, 3) := by decide +kernel
theorem dX5_counter_40 : decode cX5_counter 40 = .ok (.bipush 10, 2) := by decide +kernel
theorem dX5_counter_42 : decode cX5_counter 42 = .ok (.goto 5, 3) := by decide +kernel
theorem dX5_counter_45 : decode cX5_counter 45 = .ok (.bipush 6, 2) := by decide +kernel
theorem dX5_counter_47 : decode cX5_counter 47 = .ok (.idiv, 1) := by decide +kernel
theorem dX5_counter_48 : decode cX5_counter 48 = .ok (.ireturn, 1) := by decide +kernel
theorem dX5_support_0 : decode cX5_support 0 = .ok (.iconst 0, 1) := by decide +kernel
theorem dX5_support_1 : decode cX5_support 1 = .ok (.istore_n 2, 1) := by decide +kernel
theorem dX5_support_2 : decode cX5_support 2 = .ok (.iconst 0, 1) := by decide +kernel
theorem dX5_support_3 : decode cX5_support 3 = .ok (.istore_n 3, 1) := by decide +kernel
theorem dX5_support_4 : decode cX5_support 4 = .ok (.iload_n 3, 1) := by decide +kernel
theorem dX5_support_5 : decode cX5_support 5 = .ok (.aload_n 0, 1) := by decide +kernel
theorem dX5_support_6 : decode cX5_support 6 = .ok (.getfield 9, 3) := by decide +kernel
theorem dX5_support_9 : decode cX5_support 9 = .ok (.iconst 0, 1) := by decide +kernel
theorem dX5_support_10 : decode cX5_support 10 = .ok (.iaload, 1) := by decide +kernel
theorem dX5_support_11 : decode cX5_support 11 = .ok (.if_icmp .ge 91, 3) := by decide +kernel
theorem dX5_support_14 : decode cX5_support 14 = .ok (.aload_n 0, 1) := by decide +kernel
theorem dX5_support_15 : decode cX5_support 15 = .ok (.iload_n 3, 1) := by decide +kernel
theorem dX5_support_16 : decode cX5_support 16 = .ok (.iconst 1, 1) := by decide +kernel
theorem dX5_support_17 : decode cX5_support 17 = .ok (.invokevirtual 58, 3) := by decide +kernel
theorem dX5_support_20 : decode cX5_support 20 = .ok (.aload_n 0, 1) := by decide +kernel
theorem dX5_support_21 : decode cX5_support 21 = .ok (.iload_n 1, 1) := by decide +kernel
theorem dX5_support_22 : decode cX5_support 22 = .ok (.iconst 1, 1) := by decide +kernel
theorem dX5_support_23 : decode cX5_support 23 = .ok (.invokevirtual 58, 3) := by decide +kernel
theorem dX5_support_26 : decode cX5_support 26 = .ok (.isub, 1) := by decide +kernel
theorem dX5_support_27 : decode cX5_support 27 = .ok (.istore 4, 2) := by decide +kernel
theorem dX5_support_29 : decode cX5_support 29 = .ok (.iload 4, 2) := by decide +kernel
theorem dX5_support_31 : decode cX5_support 31 = .ok (.iload 4, 2) := by decide +kernel
theorem dX5_support_33 : decode cX5_support 33 = .ok (.imul, 1) := by decide +kernel
theorem dX5_support_34 : decode cX5_support 34 = .ok (.iconst 1, 1) := by decide +kernel
theorem dX5_support_35 : decode cX5_support 35 = .ok (.if_icmp .ne 22, 3) := by decide +kernel
theorem dX5_support_38 : decode cX5_support 38 = .ok (.aload_n 0, 1) := by decide +kernel
theorem dX5_support_39 : decode cX5_support 39 = .ok (.iload_n 3, 1) := by decide +kernel
theorem dX5_support_40 : decode cX5_support 40 = .ok (.iconst 2, 1) := by decide +kernel
theorem dX5_support_41 : decode cX5_support 41 = .ok (.invokevirtual 58, 3) := by decide +kernel
theorem dX5_support_44 : decode cX5_support 44 = .ok (.aload_n 0, 1) := by decide +kernel
theorem dX5_support_45 : decode cX5_support 45 = .ok (.iload_n 1, 1) := by decide +kernel
theorem dX5_support_46 : decode cX5_support 46 = .ok (.iconst 2, 1) := by decide +kernel
theorem dX5_support_47 : decode cX5_support 47 = .ok (.invokevirtual 58, 3) := by decide +kernel
theorem dX5_support_50 : decode cX5_support 50 = .ok (.if_icmp .ne 7, 3) := by decide +kernel
theorem dX5_support_53 : decode cX5_support 53 = .ok (.iconst 1, 1) := by decide +kernel
theorem dX5_support_54 : decode cX5_support 54 = .ok (.goto 4, 3) := by decide +kernel
theorem dX5_support_57 : decode cX5_support 57 = .ok (.iconst 0, 1) := by decide +kernel
theorem dX5_support_58 : decode cX5_support 58 = .ok (.istore 5, 2) := by decide +kernel
theorem dX5_support_60 : decode cX5_support 60 = .ok (.iload_n 2, 1) := by decide +kernel
theorem dX5_support_61 : decode cX5_support 61 = .ok (.iload 5, 2) := by decide +kernel
theorem dX5_support_63 : decode cX5_support 63 = .ok (.ifCond .eq 30, 3) := by decide +kernel
theorem dX5_support_66 : decode cX5_support 66 = .ok (.aload_n 0, 1) := by decide +kernel
theorem dX5_support_67 : decode cX5_support 67 = .ok (.iload_n 3, 1) := by decide +kernel
theorem dX5_support_68 : decode cX5_support 68 = .ok (.invokevirtual 66, 3) := by decide +kernel
theorem dX5_support_71 : decode cX5_support 71 = .ok (.ifCond .eq 22, 3) := by decide +kernel
theorem dX5_support_74 : decode cX5_support 74 = .ok (.aload_n 0, 1) := by decide +kernel
theorem dX5_support_75 : decode cX5_support 75 = .ok (.iload_n 3, 1) := by decide +kernel
theorem dX5_support_76 : decode cX5_support 76 = .ok (.iconst 0, 1) := by decide +kernel
theorem dX5_support_77 : decode cX5_support 77 = .ok (.invokevirtual 58, 3) := by decide +kernel
theorem dX5_support_80 : decode cX5_support 80 = .ok (.aload_n 0, 1) := by decide +kernel
theorem dX5_support_81 : decode cX5_support 81 = .ok (.iload_n 1, 1) := by decide +kernel
theorem dX5_support_82 : decode cX5_support 82 = .ok (.iconst 0, 1) := by decide +kernel
theorem dX5_support_83 : decode cX5_support 83 = .ok (.invokevirtual 58, 3) := by decide +kernel
theorem dX5_support_86 : decode cX5_support 86 = .ok (.if_icmp .ne 7, 3) := by decide +kernel
theorem dX5_support_89 : decode cX5_support 89 = .ok (.iconst 1, 1) := by decide +kernel
theorem dX5_support_90 : decode cX5_support 90 = .ok (.goto 4, 3) := by decide +kernel
theorem dX5_support_93 : decode cX5_support 93 = .ok (.iconst 0, 1) := by decide +kernel
theorem dX5_support_94 : decode cX5_support 94 = .ok (.iadd, 1) := by decide +kernel
theorem dX5_support_95 : decode cX5_support 95 = .ok (.istore_n 2, 1) := by decide +kernel
theorem dX5_support_96 : decode cX5_support 96 = .ok (.iinc 3 1, 3) := by decide +kernel
theorem dX5_support_99 : decode cX5_support 99 = .ok (.goto (-95), 3) := by decide +kernel
theorem dX5_support_102 : decode cX5_support 102 = .ok (.iload_n 2, 1) := by decide +kernel
theorem dX5_support_103 : decode cX5_support 103 = .ok (.ireturn, 1) := by decide +kernel
theorem dX5_loses_0 : decode cX5_loses 0 = .ok (.aload_n 0, 1) := by decide +kernel
theorem dX5_loses_1 : decode cX5_loses 1 = .ok (.iload_n 1, 1) := by decide +kernel
theorem dX5_loses_2 : decode cX5_loses 2 = .ok (.iconst 4, 1) := by decide +kernel
theorem dX5_loses_3 : decode cX5_loses 3 = .ok (.iconst 0, 1) := by decide +kernel
theorem dX5_loses_4 : decode cX5_loses 4 = .ok (.aload_n 0, 1) := by decide +kernel
theorem dX5_loses_5 : decode cX5_loses 5 = .ok (.iload_n 1, 1) := by decide +kernel
theorem dX5_loses_6 : decode cX5_loses 6 = .ok (.iconst 4, 1) := by decide +kernel
theorem dX5_loses_7 : decode cX5_loses 7 = .ok (.invokevirtual 58, 3) := by decide +kernel
theorem dX5_loses_10 : decode cX5_loses 10 = .ok (.iload_n 2, 1) := by decide +kernel
theorem dX5_loses_11 : decode cX5_loses 11 = .ok (.isub, 1) := by decide +kernel
theorem dX5_loses_12 : decode cX5_loses 12 = .ok (.invokestatic 69, 3) := by decide +kernel
theorem dX5_loses_15 : decode cX5_loses 15 = .ok (.invokevirtual 74, 3) := by decide +kernel
theorem dX5_loses_18 : decode cX5_loses 18 = .ok (.aload_n 0, 1) := by decide +kernel
theorem dX5_loses_19 : decode cX5_loses 19 = .ok (.iload_n 1, 1) := by decide +kernel
theorem dX5_loses_20 : decode cX5_loses 20 = .ok (.iconst 5, 1) := by decide +kernel
theorem dX5_loses_21 : decode cX5_loses 21 = .ok (.iconst 0, 1) := by decide +kernel
theorem dX5_loses_22 : decode cX5_loses 22 = .ok (.aload_n 0, 1) := by decide +kernel
theorem dX5_loses_23 : decode cX5_loses 23 = .ok (.iload_n 1, 1) := by decide +kernel
theorem dX5_loses_24 : decode cX5_loses 24 = .ok (.iconst 5, 1) := by decide +kernel
theorem dX5_loses_25 : decode cX5_loses 25 = .ok (.invokevirtual 58, 3) := by decide +kernel
theorem dX5_loses_28 : decode cX5_loses 28 = .ok (.iload_n 2, 1) := by decide +kernel
theorem dX5_loses_29 : decode cX5_loses 29 = .ok (.iconst 3, 1) := by decide +kernel
theorem dX5_loses_30 : decode cX5_loses 30 = .ok (.idiv, 1) := by decide +kernel
theorem dX5_loses_31 : decode cX5_loses 31 = .ok (.isub, 1) := by decide +kernel
theorem dX5_loses_32 : decode cX5_loses 32 = .ok (.invokestatic 69, 3) := by decide +kernel
theorem dX5_loses_35 : decode cX5_loses 35 = .ok (.invokevirtual 74, 3) := by decide +kernel
theorem dX5_loses_38 : decode cX5_loses 38 = .ok (.return_, 1) := by decide +kernel
theorem dX5_settles_0 : decode cX5_settles 0 = .ok (.aload_n 0, 1) := by decide +kernel
theorem dX5_settles_1 : decode cX5_settles 1 = .ok (.iload_n 1, 1) := by decide +kernel
theorem dX5_settles_2 : decode cX5_settles 2 = .ok (.iconst 4, 1) := by decide +kernel
theorem dX5_settles_3 : decode cX5_settles 3 = .ok (.invokevirtual 58, 3) := by decide +kernel
theorem dX5_settles_6 : decode cX5_settles 6 = .ok (.ifCond .ne 14, 3) := by decide +kernel
theorem dX5_settles_9 : decode cX5_settles 9 = .ok (.aload_n 0, 1) := by decide +kernel
theorem dX5_settles_10 : decode cX5_settles 10 = .ok (.iload_n 1, 1) := by decide +kernel
theorem dX5_settles_11 : decode cX5_settles 11 = .ok (.bipush 7, 2) := by decide +kernel
theorem dX5_settles_13 : decode cX5_settles 13 = .ok (.iconst 2, 1) := by decide +kernel
theorem dX5_settles_14 : decode cX5_settles 14 = .ok (.invokevirtual 74, 3) := by decide +kernel
theorem dX5_settles_17 : decode cX5_settles 17 = .ok (.goto 29, 3) := by decide +kernel
theorem dX5_settles_20 : decode cX5_settles 20 = .ok (.aload_n 0, 1) := by decide +kernel
theorem dX5_settles_21 : decode cX5_settles 21 = .ok (.iload_n 1, 1) := by decide +kernel
theorem dX5_settles_22 : decode cX5_settles 22 = .ok (.invokevirtual 66, 3) := by decide +kernel
theorem dX5_settles_25 : decode cX5_settles 25 = .ok (.ifCond .eq 21, 3) := by decide +kernel
theorem dX5_settles_28 : decode cX5_settles 28 = .ok (.aload_n 0, 1) := by decide +kernel
theorem dX5_settles_29 : decode cX5_settles 29 = .ok (.iload_n 1, 1) := by decide +kernel
theorem dX5_settles_30 : decode cX5_settles 30 = .ok (.iconst 5, 1) := by decide +kernel
theorem dX5_settles_31 : decode cX5_settles 31 = .ok (.invokevirtual 58, 3) := by decide +kernel
theorem dX5_settles_34 : decode cX5_settles 34 = .ok (.iconst 5, 1) := by decide +kernel
theorem dX5_settles_35 : decode cX5_settles 35 = .ok (.if_icmp .ge 11, 3) := by decide +kernel
theorem dX5_settles_38 : decode cX5_settles 38 = .ok (.aload_n 0, 1) := by decide +kernel
theorem dX5_settles_39 : decode cX5_settles 39 = .ok (.iload_n 1, 1) := by decide +kernel
theorem dX5_settles_40 : decode cX5_settles 40 = .ok (.bipush 7, 2) := by decide +kernel
theorem dX5_settles_42 : decode cX5_settles 42 = .ok (.iconst 1, 1) := by decide +kernel
theorem dX5_settles_43 : decode cX5_settles 43 = .ok (.invokevirtual 74, 3) := by decide +kernel
theorem dX5_settles_46 : decode cX5_settles 46 = .ok (.return_, 1) := by decide +kernel
theorem dX5_fights_0 : decode cX5_fights 0 = .ok (.iload_n 3, 1) := by decide +kernel
theorem dX5_fights_1 : decode cX5_fights 1 = .ok (.ifCond .eq 18, 3) := by decide +kernel
theorem dX5_fights_4 : decode cX5_fights 4 = .ok (.aload_n 0, 1) := by decide +kernel
theorem dX5_fights_5 : decode cX5_fights 5 = .ok (.iload_n 1, 1) := by decide +kernel
theorem dX5_fights_6 : decode cX5_fights 6 = .ok (.iconst 3, 1) := by decide +kernel
theorem dX5_fights_7 : decode cX5_fights 7 = .ok (.invokevirtual 58, 3) := by decide +kernel
theorem dX5_fights_10 : decode cX5_fights 10 = .ok (.bipush 112, 2) := by decide +kernel
theorem dX5_fights_12 : decode cX5_fights 12 = .ok (.if_icmp .ne 7, 3) := by decide +kernel
theorem dX5_fights_15 : decode cX5_fights 15 = .ok (.iconst 1, 1) := by decide +kernel
theorem dX5_fights_16 : decode cX5_fights 16 = .ok (.goto 4, 3) := by decide +kernel
theorem dX5_fights_19 : decode cX5_fights 19 = .ok (.iconst 0, 1) := by decide +kernel
theorem dX5_fights_20 : decode cX5_fights 20 = .ok (.istore 4, 2) := by decide +kernel
theorem dX5_fights_22 : decode cX5_fights 22 = .ok (.aload_n 0, 1) := by decide +kernel
theorem dX5_fights_23 : decode cX5_fights 23 = .ok (.iload_n 2, 1) := by decide +kernel
theorem dX5_fights_24 : decode cX5_fights 24 = .ok (.aload_n 0, 1) := by decide +kernel
theorem dX5_fights_25 : decode cX5_fights 25 = .ok (.iload_n 1, 1) := by decide +kernel
theorem dX5_fights_26 : decode cX5_fights 26 = .ok (.invokevirtual 78, 3) := by decide +kernel
theorem dX5_fights_29 : decode cX5_fights 29 = .ok (.iconst 2, 1) := by decide +kernel
theorem dX5_fights_30 : decode cX5_fights 30 = .ok (.aload_n 0, 1) := by decide +kernel
theorem dX5_fights_31 : decode cX5_fights 31 = .ok (.iload_n 1, 1) := by decide +kernel
theorem dX5_fights_32 : decode cX5_fights 32 = .ok (.invokevirtual 82, 3) := by decide +kernel
theorem dX5_fights_35 : decode cX5_fights 35 = .ok (.imul, 1) := by decide +kernel
theorem dX5_fights_36 : decode cX5_fights 36 = .ok (.iadd, 1) := by decide +kernel
theorem dX5_fights_37 : decode cX5_fights 37 = .ok (.iload 4, 2) := by decide +kernel
theorem dX5_fights_39 : decode cX5_fights 39 = .ok (.ifCond .eq 8, 3) := by decide +kernel
theorem dX5_fights_42 : decode cX5_fights 42 = .ok (.bipush 6, 2) := by decide +kernel
theorem dX5_fights_44 : decode cX5_fights 44 = .ok (.goto 4, 3) := by decide +kernel
theorem dX5_fights_47 : decode cX5_fights 47 = .ok (.iconst 0, 1) := by decide +kernel
theorem dX5_fights_48 : decode cX5_fights 48 = .ok (.iadd, 1) := by decide +kernel
theorem dX5_fights_49 : decode cX5_fights 49 = .ok (.invokevirtual 85, 3) := by decide +kernel
theorem dX5_fights_52 : decode cX5_fights 52 = .ok (.aload_n 0, 1) := by decide +kernel
theorem dX5_fights_53 : decode cX5_fights 53 = .ok (.iload_n 2, 1) := by decide +kernel
theorem dX5_fights_54 : decode cX5_fights 54 = .ok (.iconst 4, 1) := by decide +kernel
theorem dX5_fights_55 : decode cX5_fights 55 = .ok (.invokevirtual 58, 3) := by decide +kernel
theorem dX5_fights_58 : decode cX5_fights 58 = .ok (.ifCond .le 13, 3) := by decide +kernel
theorem dX5_fights_61 : decode cX5_fights 61 = .ok (.aload_n 0, 1) := by decide +kernel
theorem dX5_fights_62 : decode cX5_fights 62 = .ok (.iload_n 1, 1) := by decide +kernel
theorem dX5_fights_63 : decode cX5_fights 63 = .ok (.aload_n 0, 1) := by decide +kernel
theorem dX5_fights_64 : decode cX5_fights 64 = .ok (.iload_n 2, 1) := by decide +kernel
theorem dX5_fights_65 : decode cX5_fights 65 = .ok (.invokevirtual 89, 3) := by decide +kernel
theorem dX5_fights_68 : decode cX5_fights 68 = .ok (.invokevirtual 85, 3) := by decide +kernel
theorem dX5_fights_71 : decode cX5_fights 71 = .ok (.aload_n 0, 1) := by decide +kernel
theorem dX5_fights_72 : decode cX5_fights 72 = .ok (.iload_n 1, 1) := by decide +kernel
theorem dX5_fights_73 : decode cX5_fights 73 = .ok (.invokevirtual 92, 3) := by decide +kernel
theorem dX5_fights_76 : decode cX5_fights 76 = .ok (.aload_n 0, 1) := by decide +kernel
theorem dX5_fights_77 : decode cX5_fights 77 = .ok (.iload_n 2, 1) := by decide +kernel
theorem dX5_fights_78 : decode cX5_fights 78 = .ok (.invokevirtual 92, 3) := by decide +kernel
theorem dX5_fights_81 : decode cX5_fights 81 = .ok (.aload_n 0, 1) := by decide +kernel
theorem dX5_fights_82 : decode cX5_fights 82 = .ok (.getfield 9, 3) := by decide +kernel
theorem dX5_fights_85 : decode cX5_fights 85 = .ok (.iconst 2, 1) := by decide +kernel
theorem dX5_fights_86 : decode cX5_fights 86 = .ok (.dup2, 1) := by decide +kernel
theorem dX5_fights_87 : decode cX5_fights 87 = .ok (.iaload, 1) := by decide +kernel
theorem dX5_fights_88 : decode cX5_fights 88 = .ok (.iconst 1, 1) := by decide +kernel
theorem dX5_fights_89 : decode cX5_fights 89 = .ok (.iadd, 1) := by decide +kernel
theorem dX5_fights_90 : decode cX5_fights 90 = .ok (.iastore, 1) := by decide +kernel
theorem dX5_fights_91 : decode cX5_fights 91 = .ok (.return_, 1) := by decide +kernel
theorem dX5_next_0 : decode cX5_next 0 = .ok (.aload_n 0, 1) := by decide +kernel
theorem dX5_next_1 : decode cX5_next 1 = .ok (.aload_n 0, 1) := by decide +kernel
theorem dX5_next_2 : decode cX5_next 2 = .ok (.iload_n 1, 1) := by decide +kernel
theorem dX5_next_3 : decode cX5_next 3 = .ok (.iconst 1, 1) := by decide +kernel
theorem dX5_next_4 : decode cX5_next 4 = .ok (.invokevirtual 58, 3) := by decide +kernel
theorem dX5_next_7 : decode cX5_next 7 = .ok (.aload_n 0, 1) := by decide +kernel
theorem dX5_next_8 : decode cX5_next 8 = .ok (.iload_n 1, 1) := by decide +kernel
theorem dX5_next_9 : decode cX5_next 9 = .ok (.iconst 2, 1) := by decide +kernel
theorem dX5_next_10 : decode cX5_next 10 = .ok (.invokevirtual 58, 3) := by decide +kernel
theorem dX5_next_13 : decode cX5_next 13 = .ok (.aload_n 0, 1) := by decide +kernel
theorem dX5_next_14 : decode cX5_next 14 = .ok (.iload_n 1, 1) := by decide +kernel
theorem dX5_next_15 : decode cX5_next 15 = .ok (.invokevirtual 96, 3) := by decide +kernel
theorem dX5_next_18 : decode cX5_next 18 = .ok (.iadd, 1) := by decide +kernel
theorem dX5_next_19 : decode cX5_next 19 = .ok (.invokevirtual 99, 3) := by decide +kernel
theorem dX5_next_22 : decode cX5_next 22 = .ok (.ireturn, 1) := by decide +kernel
theorem dX5_moves_0 : decode cX5_moves 0 = .ok (.aload_n 0, 1) := by decide +kernel
theorem dX5_moves_1 : decode cX5_moves 1 = .ok (.iload_n 1, 1) := by decide +kernel
theorem dX5_moves_2 : decode cX5_moves 2 = .ok (.iconst 2, 1) := by decide +kernel
theorem dX5_moves_3 : decode cX5_moves 3 = .ok (.invokevirtual 58, 3) := by decide +kernel
theorem dX5_moves_6 : decode cX5_moves 6 = .ok (.iload_n 2, 1) := by decide +kernel
theorem dX5_moves_7 : decode cX5_moves 7 = .ok (.aload_n 0, 1) := by decide +kernel
theorem dX5_moves_8 : decode cX5_moves 8 = .ok (.iload_n 1, 1) := by decide +kernel
theorem dX5_moves_9 : decode cX5_moves 9 = .ok (.invokevirtual 96, 3) := by decide +kernel
theorem dX5_moves_12 : decode cX5_moves 12 = .ok (.imul, 1) := by decide +kernel
theorem dX5_moves_13 : decode cX5_moves 13 = .ok (.iadd, 1) := by decide +kernel
theorem dX5_moves_14 : decode cX5_moves 14 = .ok (.istore_n 3, 1) := by decide +kernel
theorem dX5_moves_15 : decode cX5_moves 15 = .ok (.iload_n 3, 1) := by decide +kernel
theorem dX5_moves_16 : decode cX5_moves 16 = .ok (.invokestatic 102, 3) := by decide +kernel
theorem dX5_moves_19 : decode cX5_moves 19 = .ok (.ifCond .eq 21, 3) := by decide +kernel
theorem dX5_moves_22 : decode cX5_moves 22 = .ok (.aload_n 0, 1) := by decide +kernel
theorem dX5_moves_23 : decode cX5_moves 23 = .ok (.aload_n 0, 1) := by decide +kernel
theorem dX5_moves_24 : decode cX5_moves 24 = .ok (.iload_n 1, 1) := by decide +kernel
theorem dX5_moves_25 : decode cX5_moves 25 = .ok (.iconst 1, 1) := by decide +kernel
theorem dX5_moves_26 : decode cX5_moves 26 = .ok (.invokevirtual 58, 3) := by decide +kernel
theorem dX5_moves_29 : decode cX5_moves 29 = .ok (.iload_n 3, 1) := by decide +kernel
theorem dX5_moves_30 : decode cX5_moves 30 = .ok (.invokevirtual 99, 3) := by decide +kernel
theorem dX5_moves_33 : decode cX5_moves 33 = .ok (.ifCond .ge 7, 3) := by decide +kernel
theorem dX5_moves_36 : decode cX5_moves 36 = .ok (.iconst 1, 1) := by decide +kernel
theorem dX5_moves_37 : decode cX5_moves 37 = .ok (.goto 4, 3) := by decide +kernel
theorem dX5_moves_40 : decode cX5_moves 40 = .ok (.iconst 0, 1) := by decide +kernel
theorem dX5_moves_41 : decode cX5_moves 41 = .ok (.istore 4, 2) := by decide +kernel
theorem dX5_moves_43 : decode cX5_moves 43 = .ok (.aload_n 0, 1) := by decide +kernel
theorem dX5_moves_44 : decode cX5_moves 44 = .ok (.iload_n 1, 1) := by decide +kernel
theorem dX5_moves_45 : decode cX5_moves 45 = .ok (.iconst 2, 1) := by decide +kernel
theorem dX5_moves_46 : decode cX5_moves 46 = .ok (.iload 4, 2) := by decide +kernel
theorem dX5_moves_48 : decode cX5_moves 48 = .ok (.ifCond .eq 7, 3) := by decide +kernel
theorem dX5_moves_51 : decode cX5_moves 51 = .ok (.iload_n 3, 1) := by decide +kernel
theorem dX5_moves_52 : decode cX5_moves 52 = .ok (.goto 9, 3) := by decide +kernel
theorem dX5_moves_55 : decode cX5_moves 55 = .ok (.aload_n 0, 1) := by decide +kernel
theorem dX5_moves_56 : decode cX5_moves 56 = .ok (.iload_n 1, 1) := by decide +kernel
theorem dX5_moves_57 : decode cX5_moves 57 = .ok (.iconst 2, 1) := by decide +kernel
theorem dX5_moves_58 : decode cX5_moves 58 = .ok (.invokevirtual 58, 3) := by decide +kernel
theorem dX5_moves_61 : decode cX5_moves 61 = .ok (.invokevirtual 74, 3) := by decide +kernel
theorem dX5_moves_64 : decode cX5_moves 64 = .ok (.iload 4, 2) := by decide +kernel
theorem dX5_moves_66 : decode cX5_moves 66 = .ok (.ireturn, 1) := by decide +kernel
theorem dX5_isEnemy_0 : decode cX5_isEnemy 0 = .ok (.iload_n 2, 1) := by decide +kernel
theorem dX5_isEnemy_1 : decode cX5_isEnemy 1 = .ok (.ifCond .lt 22, 3) := by decide +kernel
theorem dX5_isEnemy_4 : decode cX5_isEnemy 4 = .ok (.aload_n 0, 1) := by decide +kernel
theorem dX5_isEnemy_5 : decode cX5_isEnemy 5 = .ok (.iload_n 2, 1) := by decide +kernel
theorem dX5_isEnemy_6 : decode cX5_isEnemy 6 = .ok (.iconst 0, 1) := by decide +kernel
theorem dX5_isEnemy_7 : decode cX5_isEnemy 7 = .ok (.invokevirtual 58, 3) := by decide +kernel
theorem dX5_isEnemy_10 : decode cX5_isEnemy 10 = .ok (.aload_n 0, 1) := by decide +kernel
theorem dX5_isEnemy_11 : decode cX5_isEnemy 11 = .ok (.iload_n 1, 1) := by decide +kernel
theorem dX5_isEnemy_12 : decode cX5_isEnemy 12 = .ok (.iconst 0, 1) := by decide +kernel
theorem dX5_isEnemy_13 : decode cX5_isEnemy 13 = .ok (.invokevirtual 58, 3) := by decide +kernel
theorem dX5_isEnemy_16 : decode cX5_isEnemy 16 = .ok (.if_icmp .eq 7, 3) := by decide +kernel
theorem dX5_isEnemy_19 : decode cX5_isEnemy 19 = .ok (.iconst 1, 1) := by decide +kernel
theorem dX5_isEnemy_20 : decode cX5_isEnemy 20 = .ok (.goto 4, 3) := by decide +kernel
theorem dX5_isEnemy_23 : decode cX5_isEnemy 23 = .ok (.iconst 0, 1) := by decide +kernel
theorem dX5_isEnemy_24 : decode cX5_isEnemy 24 = .ok (.ireturn, 1) := by decide +kernel
theorem dX5_restores_0 : decode cX5_restores 0 = .ok (.aload_n 0, 1) := by decide +kernel
theorem dX5_restores_1 : decode cX5_restores 1 = .ok (.iload_n 1, 1) := by decide +kernel
theorem dX5_restores_2 : decode cX5_restores 2 = .ok (.iconst 5, 1) := by decide +kernel
theorem dX5_restores_3 : decode cX5_restores 3 = .ok (.invokevirtual 58, 3) := by decide +kernel
theorem dX5_restores_6 : decode cX5_restores 6 = .ok (.bipush 8, 2) := by decide +kernel
theorem dX5_restores_8 : decode cX5_restores 8 = .ok (.if_icmp .lt 20, 3) := by decide +kernel
theorem dX5_restores_11 : decode cX5_restores 11 = .ok (.aload_n 0, 1) := by decide +kernel
theorem dX5_restores_12 : decode cX5_restores 12 = .ok (.iload_n 1, 1) := by decide +kernel
theorem dX5_restores_13 : decode cX5_restores 13 = .ok (.bipush 7, 2) := by decide +kernel
theorem dX5_restores_15 : decode cX5_restores 15 = .ok (.iconst 0, 1) := by decide +kernel
theorem dX5_restores_16 : decode cX5_restores 16 = .ok (.invokevirtual 74, 3) := by decide +kernel
theorem dX5_restores_19 : decode cX5_restores 19 = .ok (.aload_n 0, 1) := by decide +kernel
theorem dX5_restores_20 : decode cX5_restores 20 = .ok (.iload_n 1, 1) := by decide +kernel
theorem dX5_restores_21 : decode cX5_restores 21 = .ok (.bipush 6, 2) := by decide +kernel
theorem dX5_restores_23 : decode cX5_restores 23 = .ok (.bipush 104, 2) := by decide +kernel
theorem dX5_restores_25 : decode cX5_restores 25 = .ok (.invokevirtual 74, 3) := by decide +kernel
theorem dX5_restores_28 : decode cX5_restores 28 = .ok (.return_, 1) := by decide +kernel
theorem dX5_flees_0 : decode cX5_flees 0 = .ok (.aload_n 0, 1) := by decide +kernel
theorem dX5_flees_1 : decode cX5_flees 1 = .ok (.iload_n 1, 1) := by decide +kernel
theorem dX5_flees_2 : decode cX5_flees 2 = .ok (.iconst (-1), 1) := by decide +kernel
theorem dX5_flees_3 : decode cX5_flees 3 = .ok (.invokevirtual 105, 3) := by decide +kernel
theorem dX5_flees_6 : decode cX5_flees 6 = .ok (.istore_n 2, 1) := by decide +kernel
theorem dX5_flees_7 : decode cX5_flees 7 = .ok (.aload_n 0, 1) := by decide +kernel
theorem dX5_flees_8 : decode cX5_flees 8 = .ok (.iload_n 1, 1) := by decide +kernel
theorem dX5_flees_9 : decode cX5_flees 9 = .ok (.iconst 5, 1) := by decide +kernel
theorem dX5_flees_10 : decode cX5_flees 10 = .ok (.bipush 20, 2) := by decide +kernel
theorem dX5_flees_12 : decode cX5_flees 12 = .ok (.aload_n 0, 1) := by decide +kernel
theorem dX5_flees_13 : decode cX5_flees 13 = .ok (.iload_n 1, 1) := by decide +kernel
theorem dX5_flees_14 : decode cX5_flees 14 = .ok (.iconst 5, 1) := by decide +kernel
theorem dX5_flees_15 : decode cX5_flees 15 = .ok (.invokevirtual 58, 3) := by decide +kernel
theorem dX5_flees_18 : decode cX5_flees 18 = .ok (.iconst 1, 1) := by decide +kernel
theorem dX5_flees_19 : decode cX5_flees 19 = .ok (.iadd, 1) := by decide +kernel
theorem dX5_flees_20 : decode cX5_flees 20 = .ok (.invokestatic 109, 3) := by decide +kernel
theorem dX5_flees_23 : decode cX5_flees 23 = .ok (.invokevirtual 74, 3) := by decide +kernel
theorem dX5_flees_26 : decode cX5_flees 26 = .ok (.aload_n 0, 1) := by decide +kernel
theorem dX5_flees_27 : decode cX5_flees 27 = .ok (.iload_n 1, 1) := by decide +kernel
theorem dX5_flees_28 : decode cX5_flees 28 = .ok (.bipush 8, 2) := by decide +kernel
theorem dX5_flees_30 : decode cX5_flees 30 = .ok (.aload_n 0, 1) := by decide +kernel
theorem dX5_flees_31 : decode cX5_flees 31 = .ok (.iload_n 1, 1) := by decide +kernel
theorem dX5_flees_32 : decode cX5_flees 32 = .ok (.bipush 8, 2) := by decide +kernel
theorem dX5_flees_34 : decode cX5_flees 34 = .ok (.invokevirtual 58, 3) := by decide +kernel
theorem dX5_flees_37 : decode cX5_flees 37 = .ok (.iconst 1, 1) := by decide +kernel
theorem dX5_flees_38 : decode cX5_flees 38 = .ok (.iadd, 1) := by decide +kernel
theorem dX5_flees_39 : decode cX5_flees 39 = .ok (.invokevirtual 74, 3) := by decide +kernel
theorem dX5_flees_42 : decode cX5_flees 42 = .ok (.aload_n 0, 1) := by decide +kernel
theorem dX5_flees_43 : decode cX5_flees 43 = .ok (.iload_n 1, 1) := by decide +kernel
theorem dX5_flees_44 : decode cX5_flees 44 = .ok (.invokevirtual 112, 3) := by decide +kernel
theorem dX5_flees_47 : decode cX5_flees 47 = .ok (.return_, 1) := by decide +kernel
theorem dX5_acts_0 : decode cX5_acts 0 = .ok (.aload_n 0, 1) := by decide +kernel
theorem dX5_acts_1 : decode cX5_acts 1 = .ok (.iload_n 1, 1) := by decide +kernel
theorem dX5_acts_2 : decode cX5_acts 2 = .ok (.bipush 6, 2) := by decide +kernel
theorem dX5_acts_4 : decode cX5_acts 4 = .ok (.invokevirtual 58, 3) := by decide +kernel
theorem dX5_acts_7 : decode cX5_acts 7 = .ok (.istore_n 2, 1) := by decide +kernel
theorem dX5_acts_8 : decode cX5_acts 8 = .ok (.iload_n 2, 1) := by decide +kernel
theorem dX5_acts_9 : decode cX5_acts 9 = .ok (.bipush 104, 2) := by decide +kernel
theorem dX5_acts_11 : decode cX5_acts 11 = .ok (.if_icmp .ne 23, 3) := by decide +kernel
theorem dX5_acts_14 : decode cX5_acts 14 = .ok (.aload_n 0, 1) := by decide +kernel
theorem dX5_acts_15 : decode cX5_acts 15 = .ok (.iload_n 1, 1) := by decide +kernel
theorem dX5_acts_16 : decode cX5_acts 16 = .ok (.iconst 5, 1) := by decide +kernel
theorem dX5_acts_17 : decode cX5_acts 17 = .ok (.bipush 20, 2) := by decide +kernel
theorem dX5_acts_19 : decode cX5_acts 19 = .ok (.aload_n 0, 1) := by decide +kernel
theorem dX5_acts_20 : decode cX5_acts 20 = .ok (.iload_n 1, 1) := by decide +kernel
theorem dX5_acts_21 : decode cX5_acts 21 = .ok (.iconst 5, 1) := by decide +kernel
theorem dX5_acts_22 : decode cX5_acts 22 = .ok (.invokevirtual 58, 3) := by decide +kernel
theorem dX5_acts_25 : decode cX5_acts 25 = .ok (.iconst 1, 1) := by decide +kernel
theorem dX5_acts_26 : decode cX5_acts 26 = .ok (.iadd, 1) := by decide +kernel
theorem dX5_acts_27 : decode cX5_acts 27 = .ok (.invokestatic 109, 3) := by decide +kernel
theorem dX5_acts_30 : decode cX5_acts 30 = .ok (.invokevirtual 74, 3) := by decide +kernel
theorem dX5_acts_33 : decode cX5_acts 33 = .ok (.return_, 1) := by decide +kernel
theorem dX5_acts_34 : decode cX5_acts 34 = .ok (.iconst 0, 1) := by decide +kernel
theorem dX5_acts_35 : decode cX5_acts 35 = .ok (.istore_n 3, 1) := by decide +kernel
theorem dX5_acts_36 : decode cX5_acts 36 = .ok (.iload_n 2, 1) := by decide +kernel
theorem dX5_acts_37 : decode cX5_acts 37 = .ok (.bipush 99, 2) := by decide +kernel
theorem dX5_acts_39 : decode cX5_acts 39 = .ok (.if_icmp .ne 30, 3) := by decide +kernel
theorem dX5_acts_42 : decode cX5_acts 42 = .ok (.aload_n 0, 1) := by decide +kernel
theorem dX5_acts_43 : decode cX5_acts 43 = .ok (.iload_n 1, 1) := by decide +kernel
theorem dX5_acts_44 : decode cX5_acts 44 = .ok (.iconst 1, 1) := by decide +kernel
theorem dX5_acts_45 : decode cX5_acts 45 = .ok (.invokevirtual 105, 3) := by decide +kernel
theorem dX5_acts_48 : decode cX5_acts 48 = .ok (.istore_n 3, 1) := by decide +kernel
theorem dX5_acts_49 : decode cX5_acts 49 = .ok (.iload_n 3, 1) := by decide +kernel
theorem dX5_acts_50 : decode cX5_acts 50 = .ok (.ifCond .eq 16, 3) := by decide +kernel
theorem dX5_acts_53 : decode cX5_acts 53 = .ok (.aload_n 0, 1) := by decide +kernel
theorem dX5_acts_54 : decode cX5_acts 54 = .ok (.iload_n 1, 1) := by decide +kernel
theorem dX5_acts_55 : decode cX5_acts 55 = .ok (.iconst 1, 1) := by decide +kernel
theorem dX5_acts_56 : decode cX5_acts 56 = .ok (.invokevirtual 105, 3) := by decide +kernel
theorem dX5_acts_59 : decode cX5_acts 59 = .ok (.ifCond .eq 7, 3) := by decide +kernel
theorem dX5_acts_62 : decode cX5_acts 62 = .ok (.iconst 1, 1) := by decide +kernel
theorem dX5_acts_63 : decode cX5_acts 63 = .ok (.goto 4, 3) := by decide +kernel
theorem dX5_acts_66 : decode cX5_acts 66 = .ok (.iconst 0, 1) := by decide +kernel
theorem dX5_acts_67 : decode cX5_acts 67 = .ok (.istore 4, 2) := by decide +kernel
theorem dX5_acts_69 : decode cX5_acts 69 = .ok (.aload_n 0, 1) := by decide +kernel
theorem dX5_acts_70 : decode cX5_acts 70 = .ok (.iload_n 1, 1) := by decide +kernel
theorem dX5_acts_71 : decode cX5_acts 71 = .ok (.invokevirtual 115, 3) := by decide +kernel
theorem dX5_acts_74 : decode cX5_acts 74 = .ok (.istore 4, 2) := by decide +kernel
theorem dX5_acts_76 : decode cX5_acts 76 = .ok (.aload_n 0, 1) := by decide +kernel
theorem dX5_acts_77 : decode cX5_acts 77 = .ok (.iload_n 1, 1) := by decide +kernel
theorem dX5_acts_78 : decode cX5_acts 78 = .ok (.iload 4, 2) := by decide +kernel
theorem dX5_acts_80 : decode cX5_acts 80 = .ok (.invokevirtual 118, 3) := by decide +kernel
theorem dX5_acts_83 : decode cX5_acts 83 = .ok (.ifCond .eq 14, 3) := by decide +kernel
theorem dX5_acts_86 : decode cX5_acts 86 = .ok (.aload_n 0, 1) := by decide +kernel
theorem dX5_acts_87 : decode cX5_acts 87 = .ok (.iload_n 1, 1) := by decide +kernel
theorem dX5_acts_88 : decode cX5_acts 88 = .ok (.iload 4, 2) := by decide +kernel
theorem dX5_acts_90 : decode cX5_acts 90 = .ok (.iload_n 3, 1) := by decide +kernel
theorem dX5_acts_91 : decode cX5_acts 91 = .ok (.invokevirtual 121, 3) := by decide +kernel
theorem dX5_acts_94 : decode cX5_acts 94 = .ok (.goto 16, 3) := by decide +kernel
theorem dX5_acts_97 : decode cX5_acts 97 = .ok (.iload_n 2, 1) := by decide +kernel
theorem dX5_acts_98 : decode cX5_acts 98 = .ok (.bipush 97, 2) := by decide +kernel
theorem dX5_acts_100 : decode cX5_acts 100 = .ok (.if_icmp .ne 10, 3) := by decide +kernel
theorem dX5_acts_103 : decode cX5_acts 103 = .ok (.aload_n 0, 1) := by decide +kernel
theorem dX5_acts_104 : decode cX5_acts 104 = .ok (.iload_n 1, 1) := by decide +kernel
theorem dX5_acts_105 : decode cX5_acts 105 = .ok (.iconst 1, 1) := by decide +kernel
theorem dX5_acts_106 : decode cX5_acts 106 = .ok (.invokevirtual 105, 3) := by decide +kernel
theorem dX5_acts_109 : decode cX5_acts 109 = .ok (.istore_n 3, 1) := by decide +kernel
theorem dX5_acts_110 : decode cX5_acts 110 = .ok (.return_, 1) := by decide +kernel
theorem dX5_passes_0 : decode cX5_passes 0 = .ok (.aload_n 0, 1) := by decide +kernel
theorem dX5_passes_1 : decode cX5_passes 1 = .ok (.getfield 9, 3) := by decide +kernel
theorem dX5_passes_4 : decode cX5_passes 4 = .ok (.iconst 2, 1) := by decide +kernel
theorem dX5_passes_5 : decode cX5_passes 5 = .ok (.iaload, 1) := by decide +kernel
theorem dX5_passes_6 : decode cX5_passes 6 = .ok (.istore_n 1, 1) := by decide +kernel
theorem dX5_passes_7 : decode cX5_passes 7 = .ok (.iconst 0, 1) := by decide +kernel
theorem dX5_passes_8 : decode cX5_passes 8 = .ok (.istore_n 2, 1) := by decide +kernel
theorem dX5_passes_9 : decode cX5_passes 9 = .ok (.iload_n 2, 1) := by decide +kernel
theorem dX5_passes_10 : decode cX5_passes 10 = .ok (.aload_n 0, 1) := by decide +kernel
theorem dX5_passes_11 : decode cX5_passes 11 = .ok (.getfield 9, 3) := by decide +kernel
theorem dX5_passes_14 : decode cX5_passes 14 = .ok (.iconst 0, 1) := by decide +kernel
theorem dX5_passes_15 : decode cX5_passes 15 = .ok (.iaload, 1) := by decide +kernel
theorem dX5_passes_16 : decode cX5_passes 16 = .ok (.if_icmp .ge 41, 3) := by decide +kernel
theorem dX5_passes_19 : decode cX5_passes 19 = .ok (.aload_n 0, 1) := by decide +kernel
theorem dX5_passes_20 : decode cX5_passes 20 = .ok (.iload_n 2, 1) := by decide +kernel
theorem dX5_passes_21 : decode cX5_passes 21 = .ok (.bipush 7, 2) := by decide +kernel
theorem dX5_passes_23 : decode cX5_passes 23 = .ok (.invokevirtual 58, 3) := by decide +kernel
theorem dX5_passes_26 : decode cX5_passes 26 = .ok (.iconst 1, 1) := by decide +kernel
theorem dX5_passes_27 : decode cX5_passes 27 = .ok (.if_icmp .ne 11, 3) := by decide +kernel
theorem dX5_passes_30 : decode cX5_passes 30 = .ok (.aload_n 0, 1) := by decide +kernel
theorem dX5_passes_31 : decode cX5_passes 31 = .ok (.iload_n 2, 1) := by decide +kernel
theorem dX5_passes_32 : decode cX5_passes 32 = .ok (.invokevirtual 125, 3) := by decide +kernel
theorem dX5_passes_35 : decode cX5_passes 35 = .ok (.goto 16, 3) := by decide +kernel
theorem dX5_passes_38 : decode cX5_passes 38 = .ok (.aload_n 0, 1) := by decide +kernel
theorem dX5_passes_39 : decode cX5_passes 39 = .ok (.iload_n 2, 1) := by decide +kernel
theorem dX5_passes_40 : decode cX5_passes 40 = .ok (.invokevirtual 66, 3) := by decide +kernel
theorem dX5_passes_43 : decode cX5_passes 43 = .ok (.ifCond .eq 8, 3) := by decide +kernel
theorem dX5_passes_46 : decode cX5_passes 46 = .ok (.aload_n 0, 1) := by decide +kernel
theorem dX5_passes_47 : decode cX5_passes 47 = .ok (.iload_n 2, 1) := by decide +kernel
theorem dX5_passes_48 : decode cX5_passes 48 = .ok (.invokevirtual 128, 3) := by decide +kernel
theorem dX5_passes_51 : decode cX5_passes 51 = .ok (.iinc 2 1, 3) := by decide +kernel
theorem dX5_passes_54 : decode cX5_passes 54 = .ok (.goto (-45), 3) := by decide +kernel
theorem dX5_passes_57 : decode cX5_passes 57 = .ok (.aload_n 0, 1) := by decide +kernel
theorem dX5_passes_58 : decode cX5_passes 58 = .ok (.getfield 9, 3) := by decide +kernel
theorem dX5_passes_61 : decode cX5_passes 61 = .ok (.iconst 1, 1) := by decide +kernel
theorem dX5_passes_62 : decode cX5_passes 62 = .ok (.dup2, 1) := by decide +kernel
theorem dX5_passes_63 : decode cX5_passes 63 = .ok (.iaload, 1) := by decide +kernel
theorem dX5_passes_64 : decode cX5_passes 64 = .ok (.iconst 1, 1) := by decide +kernel
theorem dX5_passes_65 : decode cX5_passes 65 = .ok (.iadd, 1) := by decide +kernel
theorem dX5_passes_66 : decode cX5_passes 66 = .ok (.iastore, 1) := by decide +kernel
theorem dX5_passes_67 : decode cX5_passes 67 = .ok (.aload_n 0, 1) := by decide +kernel
theorem dX5_passes_68 : decode cX5_passes 68 = .ok (.getfield 9, 3) := by decide +kernel
theorem dX5_passes_71 : decode cX5_passes 71 = .ok (.iconst 2, 1) := by decide +kernel
theorem dX5_passes_72 : decode cX5_passes 72 = .ok (.iaload, 1) := by decide +kernel
theorem dX5_passes_73 : decode cX5_passes 73 = .ok (.iload_n 1, 1) := by decide +kernel
theorem dX5_passes_74 : decode cX5_passes 74 = .ok (.isub, 1) := by decide +kernel
theorem dX5_passes_75 : decode cX5_passes 75 = .ok (.ireturn, 1) := by decide +kernel
theorem dX5_doAddLine_0 : decode cX5_doAddLine 0 = .ok (.aload_n 0, 1) := by decide +kernel
theorem dX5_doAddLine_1 : decode cX5_doAddLine 1 = .ok (.getfield 9, 3) := by decide +kernel
theorem dX5_doAddLine_4 : decode cX5_doAddLine 4 = .ok (.iconst 0, 1) := by decide +kernel
theorem dX5_doAddLine_5 : decode cX5_doAddLine 5 = .ok (.iaload, 1) := by decide +kernel
theorem dX5_doAddLine_6 : decode cX5_doAddLine 6 = .ok (.istore 5, 2) := by decide +kernel
theorem dX5_doAddLine_8 : decode cX5_doAddLine 8 = .ok (.iload_n 1, 1) := by decide +kernel
theorem dX5_doAddLine_9 : decode cX5_doAddLine 9 = .ok (.invokestatic 131, 3) := by decide +kernel
theorem dX5_doAddLine_12 : decode cX5_doAddLine 12 = .ok (.ifCond .eq 28, 3) := by decide +kernel
theorem dX5_doAddLine_15 : decode cX5_doAddLine 15 = .ok (.iload_n 2, 1) := by decide +kernel
theorem dX5_doAddLine_16 : decode cX5_doAddLine 16 = .ok (.invokestatic 134, 3) := by decide +kernel
theorem dX5_doAddLine_19 : decode cX5_doAddLine 19 = .ok (.ifCond .eq 21, 3) := by decide +kernel
theorem dX5_doAddLine_22 : decode cX5_doAddLine 22 = .ok (.iload_n 3, 1) := by decide +kernel
theorem dX5_doAddLine_23 : decode cX5_doAddLine 23 = .ok (.invokestatic 137, 3) := by decide +kernel
theorem dX5_doAddLine_26 : decode cX5_doAddLine 26 = .ok (.ifCond .eq 14, 3) := by decide +kernel
theorem dX5_doAddLine_29 : decode cX5_doAddLine 29 = .ok (.iload 4, 2) := by decide +kernel
theorem dX5_doAddLine_31 : decode cX5_doAddLine 31 = .ok (.iconst 1, 1) := by decide +kernel
theorem dX5_doAddLine_32 : decode cX5_doAddLine 32 = .ok (.bipush 99, 2) := by decide +kernel
theorem dX5_doAddLine_34 : decode cX5_doAddLine 34 = .ok (.invokestatic 54, 3) := by decide +kernel
theorem dX5_doAddLine_37 : decode cX5_doAddLine 37 = .ok (.ifCond .ne 9, 3) := by decide +kernel
theorem dX5_doAddLine_40 : decode cX5_doAddLine 40 = .ok (.aload_n 0, 1) := by decide +kernel
theorem dX5_doAddLine_41 : decode cX5_doAddLine 41 = .ok (.iconst 1, 1) := by decide +kernel
theorem dX5_doAddLine_42 : decode cX5_doAddLine 42 = .ok (.invokevirtual 140, 3) := by decide +kernel
theorem dX5_doAddLine_45 : decode cX5_doAddLine 45 = .ok (.ireturn, 1) := by decide +kernel
theorem dX5_doAddLine_46 : decode cX5_doAddLine 46 = .ok (.iload 5, 2) := by decide +kernel
theorem dX5_doAddLine_48 : decode cX5_doAddLine 48 = .ok (.bipush 12, 2) := by decide +kernel
theorem dX5_doAddLine_50 : decode cX5_doAddLine 50 = .ok (.if_icmp .ne 9, 3) := by decide +kernel
theorem dX5_doAddLine_53 : decode cX5_doAddLine 53 = .ok (.aload_n 0, 1) := by decide +kernel
theorem dX5_doAddLine_54 : decode cX5_doAddLine 54 = .ok (.iconst 2, 1) := by decide +kernel
theorem dX5_doAddLine_55 : decode cX5_doAddLine 55 = .ok (.invokevirtual 140, 3) := by decide +kernel
theorem dX5_doAddLine_58 : decode cX5_doAddLine 58 = .ok (.ireturn, 1) := by decide +kernel
theorem dX5_doAddLine_59 : decode cX5_doAddLine 59 = .ok (.aload_n 0, 1) := by decide +kernel
theorem dX5_doAddLine_60 : decode cX5_doAddLine 60 = .ok (.iload_n 2, 1) := by decide +kernel
theorem dX5_doAddLine_61 : decode cX5_doAddLine 61 = .ok (.bipush 9, 2) := by decide +kernel
theorem dX5_doAddLine_63 : decode cX5_doAddLine 63 = .ok (.iload_n 1, 1) := by decide +kernel
theorem dX5_doAddLine_64 : decode cX5_doAddLine 64 = .ok (.imul, 1) := by decide +kernel
theorem dX5_doAddLine_65 : decode cX5_doAddLine 65 = .ok (.invokevirtual 99, 3) := by decide +kernel
theorem dX5_doAddLine_68 : decode cX5_doAddLine 68 = .ok (.ifCond .lt 9, 3) := by decide +kernel
theorem dX5_doAddLine_71 : decode cX5_doAddLine 71 = .ok (.aload_n 0, 1) := by decide +kernel
theorem dX5_doAddLine_72 : decode cX5_doAddLine 72 = .ok (.iconst 3, 1) := by decide +kernel
theorem dX5_doAddLine_73 : decode cX5_doAddLine 73 = .ok (.invokevirtual 140, 3) := by decide +kernel
theorem dX5_doAddLine_76 : decode cX5_doAddLine 76 = .ok (.ireturn, 1) := by decide +kernel
theorem dX5_doAddLine_77 : decode cX5_doAddLine 77 = .ok (.aload_n 0, 1) := by decide +kernel
theorem dX5_doAddLine_78 : decode cX5_doAddLine 78 = .ok (.iload 5, 2) := by decide +kernel
theorem dX5_doAddLine_80 : decode cX5_doAddLine 80 = .ok (.iconst 0, 1) := by decide +kernel
theorem dX5_doAddLine_81 : decode cX5_doAddLine 81 = .ok (.iload_n 1, 1) := by decide +kernel
theorem dX5_doAddLine_82 : decode cX5_doAddLine 82 = .ok (.invokevirtual 74, 3) := by decide +kernel
theorem dX5_doAddLine_85 : decode cX5_doAddLine 85 = .ok (.aload_n 0, 1) := by decide +kernel
theorem dX5_doAddLine_86 : decode cX5_doAddLine 86 = .ok (.iload 5, 2) := by decide +kernel
theorem dX5_doAddLine_88 : decode cX5_doAddLine 88 = .ok (.iconst 1, 1) := by decide +kernel
theorem dX5_doAddLine_89 : decode cX5_doAddLine 89 = .ok (.iload_n 2, 1) := by decide +kernel
theorem dX5_doAddLine_90 : decode cX5_doAddLine 90 = .ok (.invokevirtual 74, 3) := by decide +kernel
theorem dX5_doAddLine_93 : decode cX5_doAddLine 93 = .ok (.aload_n 0, 1) := by decide +kernel
theorem dX5_doAddLine_94 : decode cX5_doAddLine 94 = .ok (.iload 5, 2) := by decide +kernel
theorem dX5_doAddLine_96 : decode cX5_doAddLine 96 = .ok (.iconst 2, 1) := by decide +kernel
theorem dX5_doAddLine_97 : decode cX5_doAddLine 97 = .ok (.bipush 9, 2) := by decide +kernel
theorem dX5_doAddLine_99 : decode cX5_doAddLine 99 = .ok (.iload_n 1, 1) := by decide +kernel
theorem dX5_doAddLine_100 : decode cX5_doAddLine 100 = .ok (.imul, 1) := by decide +kernel
theorem dX5_doAddLine_101 : decode cX5_doAddLine 101 = .ok (.invokevirtual 74, 3) := by decide +kernel
theorem dX5_doAddLine_104 : decode cX5_doAddLine 104 = .ok (.aload_n 0, 1) := by decide +kernel
theorem dX5_doAddLine_105 : decode cX5_doAddLine 105 = .ok (.iload 5, 2) := by decide +kernel
theorem dX5_doAddLine_107 : decode cX5_doAddLine 107 = .ok (.iconst 3, 1) := by decide +kernel
theorem dX5_doAddLine_108 : decode cX5_doAddLine 108 = .ok (.iload_n 3, 1) := by decide +kernel
theorem dX5_doAddLine_109 : decode cX5_doAddLine 109 = .ok (.invokevirtual 74, 3) := by decide +kernel
theorem dX5_doAddLine_112 : decode cX5_doAddLine 112 = .ok (.aload_n 0, 1) := by decide +kernel
theorem dX5_doAddLine_113 : decode cX5_doAddLine 113 = .ok (.iload 5, 2) := by decide +kernel
theorem dX5_doAddLine_115 : decode cX5_doAddLine 115 = .ok (.iconst 4, 1) := by decide +kernel
theorem dX5_doAddLine_116 : decode cX5_doAddLine 116 = .ok (.iload 4, 2) := by decide +kernel
theorem dX5_doAddLine_118 : decode cX5_doAddLine 118 = .ok (.invokevirtual 74, 3) := by decide +kernel
theorem dX5_doAddLine_121 : decode cX5_doAddLine 121 = .ok (.aload_n 0, 1) := by decide +kernel
theorem dX5_doAddLine_122 : decode cX5_doAddLine 122 = .ok (.iload 5, 2) := by decide +kernel
theorem dX5_doAddLine_124 : decode cX5_doAddLine 124 = .ok (.iconst 5, 1) := by decide +kernel
theorem dX5_doAddLine_125 : decode cX5_doAddLine 125 = .ok (.bipush 10, 2) := by decide +kernel
theorem dX5_doAddLine_127 : decode cX5_doAddLine 127 = .ok (.invokevirtual 74, 3) := by decide +kernel
theorem dX5_doAddLine_130 : decode cX5_doAddLine 130 = .ok (.aload_n 0, 1) := by decide +kernel
theorem dX5_doAddLine_131 : decode cX5_doAddLine 131 = .ok (.iload 5, 2) := by decide +kernel
theorem dX5_doAddLine_133 : decode cX5_doAddLine 133 = .ok (.bipush 6, 2) := by decide +kernel
theorem dX5_doAddLine_135 : decode cX5_doAddLine 135 = .ok (.bipush 104, 2) := by decide +kernel
theorem dX5_doAddLine_137 : decode cX5_doAddLine 137 = .ok (.invokevirtual 74, 3) := by decide +kernel
theorem dX5_doAddLine_140 : decode cX5_doAddLine 140 = .ok (.aload_n 0, 1) := by decide +kernel
theorem dX5_doAddLine_141 : decode cX5_doAddLine 141 = .ok (.iload 5, 2) := by decide +kernel
theorem dX5_doAddLine_143 : decode cX5_doAddLine 143 = .ok (.bipush 7, 2) := by decide +kernel
theorem dX5_doAddLine_145 : decode cX5_doAddLine 145 = .ok (.iconst 0, 1) := by decide +kernel
theorem dX5_doAddLine_146 : decode cX5_doAddLine 146 = .ok (.invokevirtual 74, 3) := by decide +kernel
theorem dX5_doAddLine_149 : decode cX5_doAddLine 149 = .ok (.aload_n 0, 1) := by decide +kernel
theorem dX5_doAddLine_150 : decode cX5_doAddLine 150 = .ok (.iload 5, 2) := by decide +kernel
theorem dX5_doAddLine_152 : decode cX5_doAddLine 152 = .ok (.bipush 8, 2) := by decide +kernel
theorem dX5_doAddLine_154 : decode cX5_doAddLine 154 = .ok (.iconst 0, 1) := by decide +kernel
theorem dX5_doAddLine_155 : decode cX5_doAddLine 155 = .ok (.invokevirtual 74, 3) := by decide +kernel
theorem dX5_doAddLine_158 : decode cX5_doAddLine 158 = .ok (.aload_n 0, 1) := by decide +kernel
theorem dX5_doAddLine_159 : decode cX5_doAddLine 159 = .ok (.getfield 9, 3) := by decide +kernel
theorem dX5_doAddLine_162 : decode cX5_doAddLine 162 = .ok (.iconst 0, 1) := by decide +kernel
theorem dX5_doAddLine_163 : decode cX5_doAddLine 163 = .ok (.dup2, 1) := by decide +kernel
theorem dX5_doAddLine_164 : decode cX5_doAddLine 164 = .ok (.iaload, 1) := by decide +kernel
theorem dX5_doAddLine_165 : decode cX5_doAddLine 165 = .ok (.iconst 1, 1) := by decide +kernel
theorem dX5_doAddLine_166 : decode cX5_doAddLine 166 = .ok (.iadd, 1) := by decide +kernel
theorem dX5_doAddLine_167 : decode cX5_doAddLine 167 = .ok (.iastore, 1) := by decide +kernel
theorem dX5_doAddLine_168 : decode cX5_doAddLine 168 = .ok (.iload 5, 2) := by decide +kernel
theorem dX5_doAddLine_170 : decode cX5_doAddLine 170 = .ok (.ireturn, 1) := by decide +kernel
theorem dX5_addLine_0 : decode cX5_addLine 0 = .ok (.aload_n 0, 1) := by decide +kernel
theorem dX5_addLine_1 : decode cX5_addLine 1 = .ok (.invokevirtual 143, 3) := by decide +kernel
theorem dX5_addLine_4 : decode cX5_addLine 4 = .ok (.aload_n 0, 1) := by decide +kernel
theorem dX5_addLine_5 : decode cX5_addLine 5 = .ok (.aload_n 0, 1) := by decide +kernel
theorem dX5_addLine_6 : decode cX5_addLine 6 = .ok (.iload_n 1, 1) := by decide +kernel
theorem dX5_addLine_7 : decode cX5_addLine 7 = .ok (.iload_n 2, 1) := by decide +kernel
theorem dX5_addLine_8 : decode cX5_addLine 8 = .ok (.iload_n 3, 1) := by decide +kernel
theorem dX5_addLine_9 : decode cX5_addLine 9 = .ok (.iload 4, 2) := by decide +kernel
theorem dX5_addLine_11 : decode cX5_addLine 11 = .ok (.invokevirtual 146, 3) := by decide +kernel
theorem dX5_addLine_14 : decode cX5_addLine 14 = .ok (.invokevirtual 150, 3) := by decide +kernel
theorem dX5_addLine_17 : decode cX5_addLine 17 = .ok (.ireturn, 1) := by decide +kernel
theorem dX5_doSetOrder_0 : decode cX5_doSetOrder 0 = .ok (.aload_n 0, 1) := by decide +kernel
theorem dX5_doSetOrder_1 : decode cX5_doSetOrder 1 = .ok (.iload_n 1, 1) := by decide +kernel
theorem dX5_doSetOrder_2 : decode cX5_doSetOrder 2 = .ok (.invokevirtual 153, 3) := by decide +kernel
theorem dX5_doSetOrder_5 : decode cX5_doSetOrder 5 = .ok (.ifCond .ne 9, 3) := by decide +kernel
theorem dX5_doSetOrder_8 : decode cX5_doSetOrder 8 = .ok (.aload_n 0, 1) := by decide +kernel
theorem dX5_doSetOrder_9 : decode cX5_doSetOrder 9 = .ok (.iconst 1, 1) := by decide +kernel
theorem dX5_doSetOrder_10 : decode cX5_doSetOrder 10 = .ok (.invokevirtual 140, 3) := by decide +kernel
theorem dX5_doSetOrder_13 : decode cX5_doSetOrder 13 = .ok (.ireturn, 1) := by decide +kernel
theorem dX5_doSetOrder_14 : decode cX5_doSetOrder 14 = .ok (.iload_n 2, 1) := by decide +kernel
theorem dX5_doSetOrder_15 : decode cX5_doSetOrder 15 = .ok (.invokestatic 156, 3) := by decide +kernel
theorem dX5_doSetOrder_18 : decode cX5_doSetOrder 18 = .ok (.ifCond .ne 9, 3) := by decide +kernel
theorem dX5_doSetOrder_21 : decode cX5_doSetOrder 21 = .ok (.aload_n 0, 1) := by decide +kernel
theorem dX5_doSetOrder_22 : decode cX5_doSetOrder 22 = .ok (.iconst 2, 1) := by decide +kernel
theorem dX5_doSetOrder_23 : decode cX5_doSetOrder 23 = .ok (.invokevirtual 140, 3) := by decide +kernel
theorem dX5_doSetOrder_26 : decode cX5_doSetOrder 26 = .ok (.ireturn, 1) := by decide +kernel
theorem dX5_doSetOrder_27 : decode cX5_doSetOrder 27 = .ok (.aload_n 0, 1) := by decide +kernel
theorem dX5_doSetOrder_28 : decode cX5_doSetOrder 28 = .ok (.iload_n 1, 1) := by decide +kernel
theorem dX5_doSetOrder_29 : decode cX5_doSetOrder 29 = .ok (.invokevirtual 66, 3) := by decide +kernel
theorem dX5_doSetOrder_32 : decode cX5_doSetOrder 32 = .ok (.ifCond .ne 9, 3) := by decide +kernel
theorem dX5_doSetOrder_35 : decode cX5_doSetOrder 35 = .ok (.aload_n 0, 1) := by decide +kernel
theorem dX5_doSetOrder_36 : decode cX5_doSetOrder 36 = .ok (.iconst 3, 1) := by decide +kernel
theorem dX5_doSetOrder_37 : decode cX5_doSetOrder 37 = .ok (.invokevirtual 140, 3) := by decide +kernel
theorem dX5_doSetOrder_40 : decode cX5_doSetOrder 40 = .ok (.ireturn, 1) := by decide +kernel
theorem dX5_doSetOrder_41 : decode cX5_doSetOrder 41 = .ok (.aload_n 0, 1) := by decide +kernel
theorem dX5_doSetOrder_42 : decode cX5_doSetOrder 42 = .ok (.iload_n 1, 1) := by decide +kernel
theorem dX5_doSetOrder_43 : decode cX5_doSetOrder 43 = .ok (.bipush 6, 2) := by decide +kernel
theorem dX5_doSetOrder_45 : decode cX5_doSetOrder 45 = .ok (.invokevirtual 58, 3) := by decide +kernel
theorem dX5_doSetOrder_48 : decode cX5_doSetOrder 48 = .ok (.istore_n 3, 1) := by decide +kernel
theorem dX5_doSetOrder_49 : decode cX5_doSetOrder 49 = .ok (.aload_n 0, 1) := by decide +kernel
theorem dX5_doSetOrder_50 : decode cX5_doSetOrder 50 = .ok (.iload_n 1, 1) := by decide +kernel
theorem dX5_doSetOrder_51 : decode cX5_doSetOrder 51 = .ok (.bipush 6, 2) := by decide +kernel
theorem dX5_doSetOrder_53 : decode cX5_doSetOrder 53 = .ok (.iload_n 2, 1) := by decide +kernel
theorem dX5_doSetOrder_54 : decode cX5_doSetOrder 54 = .ok (.invokevirtual 74, 3) := by decide +kernel
theorem dX5_doSetOrder_57 : decode cX5_doSetOrder 57 = .ok (.iload_n 3, 1) := by decide +kernel
theorem dX5_doSetOrder_58 : decode cX5_doSetOrder 58 = .ok (.ireturn, 1) := by decide +kernel
theorem dX5_setOrder_0 : decode cX5_setOrder 0 = .ok (.aload_n 0, 1) := by decide +kernel
theorem dX5_setOrder_1 : decode cX5_setOrder 1 = .ok (.invokevirtual 143, 3) := by decide +kernel
theorem dX5_setOrder_4 : decode cX5_setOrder 4 = .ok (.aload_n 0, 1) := by decide +kernel
theorem dX5_setOrder_5 : decode cX5_setOrder 5 = .ok (.aload_n 0, 1) := by decide +kernel
theorem dX5_setOrder_6 : decode cX5_setOrder 6 = .ok (.iload_n 1, 1) := by decide +kernel
theorem dX5_setOrder_7 : decode cX5_setOrder 7 = .ok (.iload_n 2, 1) := by decide +kernel
theorem dX5_setOrder_8 : decode cX5_setOrder 8 = .ok (.invokevirtual 159, 3) := by decide +kernel
theorem dX5_setOrder_11 : decode cX5_setOrder 11 = .ok (.invokevirtual 150, 3) := by decide +kernel
theorem dX5_setOrder_14 : decode cX5_setOrder 14 = .ok (.istore_n 3, 1) := by decide +kernel
theorem dX5_setOrder_15 : decode cX5_setOrder 15 = .ok (.aload_n 0, 1) := by decide +kernel
theorem dX5_setOrder_16 : decode cX5_setOrder 16 = .ok (.getfield 42, 3) := by decide +kernel
theorem dX5_setOrder_19 : decode cX5_setOrder 19 = .ok (.ifCond .le 8, 3) := by decide +kernel
theorem dX5_setOrder_22 : decode cX5_setOrder 22 = .ok (.bipush 32, 2) := by decide +kernel
theorem dX5_setOrder_24 : decode cX5_setOrder 24 = .ok (.goto 5, 3) := by decide +kernel
theorem dX5_setOrder_27 : decode cX5_setOrder 27 = .ok (.iload_n 3, 1) := by decide +kernel
theorem dX5_setOrder_28 : decode cX5_setOrder 28 = .ok (.i2c, 1) := by decide +kernel
theorem dX5_setOrder_29 : decode cX5_setOrder 29 = .ok (.ireturn, 1) := by decide +kernel
theorem dX5_doRally_0 : decode cX5_doRally 0 = .ok (.aload_n 0, 1) := by decide +kernel
theorem dX5_doRally_1 : decode cX5_doRally 1 = .ok (.iload_n 1, 1) := by decide +kernel
theorem dX5_doRally_2 : decode cX5_doRally 2 = .ok (.invokevirtual 153, 3) := by decide +kernel
theorem dX5_doRally_5 : decode cX5_doRally 5 = .ok (.ifCond .ne 9, 3) := by decide +kernel
theorem dX5_doRally_8 : decode cX5_doRally 8 = .ok (.aload_n 0, 1) := by decide +kernel
theorem dX5_doRally_9 : decode cX5_doRally 9 = .ok (.iconst 1, 1) := by decide +kernel
theorem dX5_doRally_10 : decode cX5_doRally 10 = .ok (.invokevirtual 140, 3) := by decide +kernel
theorem dX5_doRally_13 : decode cX5_doRally 13 = .ok (.ireturn, 1) := by decide +kernel
theorem dX5_doRally_14 : decode cX5_doRally 14 = .ok (.aload_n 0, 1) := by decide +kernel
theorem dX5_doRally_15 : decode cX5_doRally 15 = .ok (.iload_n 1, 1) := by decide +kernel
theorem dX5_doRally_16 : decode cX5_doRally 16 = .ok (.bipush 7, 2) := by decide +kernel
theorem dX5_doRally_18 : decode cX5_doRally 18 = .ok (.invokevirtual 58, 3) := by decide +kernel
theorem dX5_doRally_21 : decode cX5_doRally 21 = .ok (.iconst 1, 1) := by decide +kernel
theorem dX5_doRally_22 : decode cX5_doRally 22 = .ok (.if_icmp .eq 9, 3) := by decide +kernel
theorem dX5_doRally_25 : decode cX5_doRally 25 = .ok (.aload_n 0, 1) := by decide +kernel
theorem dX5_doRally_26 : decode cX5_doRally 26 = .ok (.iconst 2, 1) := by decide +kernel
theorem dX5_doRally_27 : decode cX5_doRally 27 = .ok (.invokevirtual 140, 3) := by decide +kernel
theorem dX5_doRally_30 : decode cX5_doRally 30 = .ok (.ireturn, 1) := by decide +kernel
theorem dX5_doRally_31 : decode cX5_doRally 31 = .ok (.iconst 3, 1) := by decide +kernel
theorem dX5_doRally_32 : decode cX5_doRally 32 = .ok (.aload_n 0, 1) := by decide +kernel
theorem dX5_doRally_33 : decode cX5_doRally 33 = .ok (.iload_n 1, 1) := by decide +kernel
theorem dX5_doRally_34 : decode cX5_doRally 34 = .ok (.iconst 0, 1) := by decide +kernel
theorem dX5_doRally_35 : decode cX5_doRally 35 = .ok (.invokevirtual 58, 3) := by decide +kernel
theorem dX5_doRally_38 : decode cX5_doRally 38 = .ok (.iadd, 1) := by decide +kernel
theorem dX5_doRally_39 : decode cX5_doRally 39 = .ok (.istore_n 2, 1) := by decide +kernel
theorem dX5_doRally_40 : decode cX5_doRally 40 = .ok (.aload_n 0, 1) := by decide +kernel
theorem dX5_doRally_41 : decode cX5_doRally 41 = .ok (.getfield 9, 3) := by decide +kernel
theorem dX5_doRally_44 : decode cX5_doRally 44 = .ok (.iload_n 2, 1) := by decide +kernel
theorem dX5_doRally_45 : decode cX5_doRally 45 = .ok (.iaload, 1) := by decide +kernel
theorem dX5_doRally_46 : decode cX5_doRally 46 = .ok (.ifCond .ne 9, 3) := by decide +kernel
theorem dX5_doRally_49 : decode cX5_doRally 49 = .ok (.aload_n 0, 1) := by decide +kernel
theorem dX5_doRally_50 : decode cX5_doRally 50 = .ok (.iconst 3, 1) := by decide +kernel
theorem dX5_doRally_51 : decode cX5_doRally 51 = .ok (.invokevirtual 140, 3) := by decide +kernel
theorem dX5_doRally_54 : decode cX5_doRally 54 = .ok (.ireturn, 1) := by decide +kernel
theorem dX5_doRally_55 : decode cX5_doRally 55 = .ok (.aload_n 0, 1) := by decide +kernel
theorem dX5_doRally_56 : decode cX5_doRally 56 = .ok (.getfield 9, 3) := by decide +kernel
theorem dX5_doRally_59 : decode cX5_doRally 59 = .ok (.iload_n 2, 1) := by decide +kernel
theorem dX5_doRally_60 : decode cX5_doRally 60 = .ok (.dup2, 1) := by decide +kernel
theorem dX5_doRally_61 : decode cX5_doRally 61 = .ok (.iaload, 1) := by decide +kernel
theorem dX5_doRally_62 : decode cX5_doRally 62 = .ok (.iconst 1, 1) := by decide +kernel
theorem dX5_doRally_63 : decode cX5_doRally 63 = .ok (.isub, 1) := by decide +kernel
theorem dX5_doRally_64 : decode cX5_doRally 64 = .ok (.iastore, 1) := by decide +kernel
theorem dX5_doRally_65 : decode cX5_doRally 65 = .ok (.aload_n 0, 1) := by decide +kernel
theorem dX5_doRally_66 : decode cX5_doRally 66 = .ok (.iload_n 1, 1) := by decide +kernel
theorem dX5_doRally_67 : decode cX5_doRally 67 = .ok (.iconst 5, 1) := by decide +kernel
theorem dX5_doRally_68 : decode cX5_doRally 68 = .ok (.bipush 20, 2) := by decide +kernel
theorem dX5_doRally_70 : decode cX5_doRally 70 = .ok (.aload_n 0, 1) := by decide +kernel
theorem dX5_doRally_71 : decode cX5_doRally 71 = .ok (.iload_n 1, 1) := by decide +kernel
theorem dX5_doRally_72 : decode cX5_doRally 72 = .ok (.iconst 5, 1) := by decide +kernel
theorem dX5_doRally_73 : decode cX5_doRally 73 = .ok (.invokevirtual 58, 3) := by decide +kernel
theorem dX5_doRally_76 : decode cX5_doRally 76 = .ok (.bipush 6, 2) := by decide +kernel
theorem dX5_doRally_78 : decode cX5_doRally 78 = .ok (.iadd, 1) := by decide +kernel
theorem dX5_doRally_79 : decode cX5_doRally 79 = .ok (.invokestatic 109, 3) := by decide +kernel
theorem dX5_doRally_82 : decode cX5_doRally 82 = .ok (.invokevirtual 74, 3) := by decide +kernel
theorem dX5_doRally_85 : decode cX5_doRally 85 = .ok (.aload_n 0, 1) := by decide +kernel
theorem dX5_doRally_86 : decode cX5_doRally 86 = .ok (.iload_n 1, 1) := by decide +kernel
theorem dX5_doRally_87 : decode cX5_doRally 87 = .ok (.invokevirtual 112, 3) := by decide +kernel
theorem dX5_doRally_90 : decode cX5_doRally 90 = .ok (.aload_n 0, 1) := by decide +kernel
theorem dX5_doRally_91 : decode cX5_doRally 91 = .ok (.iload_n 1, 1) := by decide +kernel
theorem dX5_doRally_92 : decode cX5_doRally 92 = .ok (.iconst 5, 1) := by decide +kernel
theorem dX5_doRally_93 : decode cX5_doRally 93 = .ok (.invokevirtual 58, 3) := by decide +kernel
theorem dX5_doRally_96 : decode cX5_doRally 96 = .ok (.ireturn, 1) := by decide +kernel
theorem dX5_rally_0 : decode cX5_rally 0 = .ok (.aload_n 0, 1) := by decide +kernel
theorem dX5_rally_1 : decode cX5_rally 1 = .ok (.invokevirtual 143, 3) := by decide +kernel
theorem dX5_rally_4 : decode cX5_rally 4 = .ok (.aload_n 0, 1) := by decide +kernel
theorem dX5_rally_5 : decode cX5_rally 5 = .ok (.aload_n 0, 1) := by decide +kernel
theorem dX5_rally_6 : decode cX5_rally 6 = .ok (.iload_n 1, 1) := by decide +kernel
theorem dX5_rally_7 : decode cX5_rally 7 = .ok (.invokevirtual 162, 3) := by decide +kernel
theorem dX5_rally_10 : decode cX5_rally 10 = .ok (.invokevirtual 150, 3) := by decide +kernel
theorem dX5_rally_13 : decode cX5_rally 13 = .ok (.ireturn, 1) := by decide +kernel
theorem dX5_turn_0 : decode cX5_turn 0 = .ok (.aload_n 0, 1) := by decide +kernel
theorem dX5_turn_1 : decode cX5_turn 1 = .ok (.invokevirtual 143, 3) := by decide +kernel
theorem dX5_turn_4 : decode cX5_turn 4 = .ok (.aload_n 0, 1) := by decide +kernel
theorem dX5_turn_5 : decode cX5_turn 5 = .ok (.aload_n 0, 1) := by decide +kernel
theorem dX5_turn_6 : decode cX5_turn 6 = .ok (.invokevirtual 165, 3) := by decide +kernel
theorem dX5_turn_9 : decode cX5_turn 9 = .ok (.invokevirtual 150, 3) := by decide +kernel
theorem dX5_turn_12 : decode cX5_turn 12 = .ok (.ireturn, 1) := by decide +kernel
theorem dX5_lineCount_0 : decode cX5_lineCount 0 = .ok (.aload_n 0, 1) := by decide +kernel
theorem dX5_lineCount_1 : decode cX5_lineCount 1 = .ok (.iconst 0, 1) := by decide +kernel
theorem dX5_lineCount_2 : decode cX5_lineCount 2 = .ok (.putfield 42, 3) := by decide +kernel
theorem dX5_lineCount_5 : decode cX5_lineCount 5 = .ok (.aload_n 0, 1) := by decide +kernel
theorem dX5_lineCount_6 : decode cX5_lineCount 6 = .ok (.getfield 9, 3) := by decide +kernel
theorem dX5_lineCount_9 : decode cX5_lineCount 9 = .ok (.iconst 0, 1) := by decide +kernel
theorem dX5_lineCount_10 : decode cX5_lineCount 10 = .ok (.iaload, 1) := by decide +kernel
theorem dX5_lineCount_11 : decode cX5_lineCount 11 = .ok (.ireturn, 1) := by decide +kernel
theorem dX5_tells_0 : decode cX5_tells 0 = .ok (.aload_n 0, 1) := by decide +kernel
theorem dX5_tells_1 : decode cX5_tells 1 = .ok (.aload_n 0, 1) := by decide +kernel
theorem dX5_tells_2 : decode cX5_tells 2 = .ok (.iload_n 1, 1) := by decide +kernel
theorem dX5_tells_3 : decode cX5_tells 3 = .ok (.invokevirtual 153, 3) := by decide +kernel
theorem dX5_tells_6 : decode cX5_tells 6 = .ok (.invokevirtual 169, 3) := by decide +kernel
theorem dX5_tells_9 : decode cX5_tells 9 = .ok (.ifCond .eq 12, 3) := by decide +kernel
theorem dX5_tells_12 : decode cX5_tells 12 = .ok (.aload_n 0, 1) := by decide +kernel
theorem dX5_tells_13 : decode cX5_tells 13 = .ok (.iload_n 1, 1) := by decide +kernel
theorem dX5_tells_14 : decode cX5_tells 14 = .ok (.iload_n 2, 1) := by decide +kernel
theorem dX5_tells_15 : decode cX5_tells 15 = .ok (.invokevirtual 58, 3) := by decide +kernel
theorem dX5_tells_18 : decode cX5_tells 18 = .ok (.goto 4, 3) := by decide +kernel
theorem dX5_tells_21 : decode cX5_tells 21 = .ok (.iconst 0, 1) := by decide +kernel
theorem dX5_tells_22 : decode cX5_tells 22 = .ok (.ireturn, 1) := by decide +kernel
theorem dX5_sideOf_0 : decode cX5_sideOf 0 = .ok (.aload_n 0, 1) := by decide +kernel
theorem dX5_sideOf_1 : decode cX5_sideOf 1 = .ok (.iload_n 1, 1) := by decide +kernel
theorem dX5_sideOf_2 : decode cX5_sideOf 2 = .ok (.iconst 0, 1) := by decide +kernel
theorem dX5_sideOf_3 : decode cX5_sideOf 3 = .ok (.invokevirtual 173, 3) := by decide +kernel
theorem dX5_sideOf_6 : decode cX5_sideOf 6 = .ok (.ireturn, 1) := by decide +kernel
theorem dX5_asks_0 : decode cX5_asks 0 = .ok (.aload_n 0, 1) := by decide +kernel
theorem dX5_asks_1 : decode cX5_asks 1 = .ok (.aload_n 0, 1) := by decide +kernel
theorem dX5_asks_2 : decode cX5_asks 2 = .ok (.iload_n 1, 1) := by decide +kernel
theorem dX5_asks_3 : decode cX5_asks 3 = .ok (.invokevirtual 153, 3) := by decide +kernel
theorem dX5_asks_6 : decode cX5_asks 6 = .ok (.ifCond .ne 7, 3) := by decide +kernel
theorem dX5_asks_9 : decode cX5_asks 9 = .ok (.iconst 1, 1) := by decide +kernel
theorem dX5_asks_10 : decode cX5_asks 10 = .ok (.goto 16, 3) := by decide +kernel
theorem dX5_asks_13 : decode cX5_asks 13 = .ok (.aload_n 0, 1) := by decide +kernel
theorem dX5_asks_14 : decode cX5_asks 14 = .ok (.iload_n 1, 1) := by decide +kernel
theorem dX5_asks_15 : decode cX5_asks 15 = .ok (.invokevirtual 62, 3) := by decide +kernel
theorem dX5_asks_18 : decode cX5_asks 18 = .ok (.ifCond .eq 7, 3) := by decide +kernel
theorem dX5_asks_21 : decode cX5_asks 21 = .ok (.iconst 2, 1) := by decide +kernel
theorem dX5_asks_22 : decode cX5_asks 22 = .ok (.goto 4, 3) := by decide +kernel
theorem dX5_asks_25 : decode cX5_asks 25 = .ok (.iconst 0, 1) := by decide +kernel
theorem dX5_asks_26 : decode cX5_asks 26 = .ok (.putfield 42, 3) := by decide +kernel
theorem dX5_asks_29 : decode cX5_asks 29 = .ok (.aload_n 0, 1) := by decide +kernel
theorem dX5_asks_30 : decode cX5_asks 30 = .ok (.getfield 42, 3) := by decide +kernel
theorem dX5_asks_33 : decode cX5_asks 33 = .ok (.ifCond .ne 7, 3) := by decide +kernel
theorem dX5_asks_36 : decode cX5_asks 36 = .ok (.iconst 1, 1) := by decide +kernel
theorem dX5_asks_37 : decode cX5_asks 37 = .ok (.goto 4, 3) := by decide +kernel
theorem dX5_asks_40 : decode cX5_asks 40 = .ok (.iconst 0, 1) := by decide +kernel
theorem dX5_asks_41 : decode cX5_asks 41 = .ok (.ireturn, 1) := by decide +kernel
theorem dX5_laneOf_0 : decode cX5_laneOf 0 = .ok (.aload_n 0, 1) := by decide +kernel
theorem dX5_laneOf_1 : decode cX5_laneOf 1 = .ok (.iload_n 1, 1) := by decide +kernel
theorem dX5_laneOf_2 : decode cX5_laneOf 2 = .ok (.invokevirtual 176, 3) := by decide +kernel
theorem dX5_laneOf_5 : decode cX5_laneOf 5 = .ok (.ifCond .eq 12, 3) := by decide +kernel
theorem dX5_laneOf_8 : decode cX5_laneOf 8 = .ok (.aload_n 0, 1) := by decide +kernel
theorem dX5_laneOf_9 : decode cX5_laneOf 9 = .ok (.iload_n 1, 1) := by decide +kernel
theorem dX5_laneOf_10 : decode cX5_laneOf 10 = .ok (.iconst 1, 1) := by decide +kernel
theorem dX5_laneOf_11 : decode cX5_laneOf 11 = .ok (.invokevirtual 58, 3) := by decide +kernel
theorem dX5_laneOf_14 : decode cX5_laneOf 14 = .ok (.goto 4, 3) := by decide +kernel
theorem dX5_laneOf_17 : decode cX5_laneOf 17 = .ok (.iconst 0, 1) := by decide +kernel
theorem dX5_laneOf_18 : decode cX5_laneOf 18 = .ok (.ireturn, 1) := by decide +kernel
theorem dX5_columnOf_0 : decode cX5_columnOf 0 = .ok (.aload_n 0, 1) := by decide +kernel
theorem dX5_columnOf_1 : decode cX5_columnOf 1 = .ok (.iload_n 1, 1) := by decide +kernel
theorem dX5_columnOf_2 : decode cX5_columnOf 2 = .ok (.invokevirtual 176, 3) := by decide +kernel
theorem dX5_columnOf_5 : decode cX5_columnOf 5 = .ok (.ifCond .eq 12, 3) := by decide +kernel
theorem dX5_columnOf_8 : decode cX5_columnOf 8 = .ok (.aload_n 0, 1) := by decide +kernel
theorem dX5_columnOf_9 : decode cX5_columnOf 9 = .ok (.iload_n 1, 1) := by decide +kernel
theorem dX5_columnOf_10 : decode cX5_columnOf 10 = .ok (.iconst 2, 1) := by decide +kernel
theorem dX5_columnOf_11 : decode cX5_columnOf 11 = .ok (.invokevirtual 58, 3) := by decide +kernel
theorem dX5_columnOf_14 : decode cX5_columnOf 14 = .ok (.goto 4, 3) := by decide +kernel
theorem dX5_columnOf_17 : decode cX5_columnOf 17 = .ok (.iconst 0, 1) := by decide +kernel
theorem dX5_columnOf_18 : decode cX5_columnOf 18 = .ok (.ireturn, 1) := by decide +kernel
theorem dX5_kindOf_0 : decode cX5_kindOf 0 = .ok (.aload_n 0, 1) := by decide +kernel
theorem dX5_kindOf_1 : decode cX5_kindOf 1 = .ok (.iload_n 1, 1) := by decide +kernel
theorem dX5_kindOf_2 : decode cX5_kindOf 2 = .ok (.iconst 3, 1) := by decide +kernel
theorem dX5_kindOf_3 : decode cX5_kindOf 3 = .ok (.invokevirtual 173, 3) := by decide +kernel
theorem dX5_kindOf_6 : decode cX5_kindOf 6 = .ok (.istore_n 2, 1) := by decide +kernel
theorem dX5_kindOf_7 : decode cX5_kindOf 7 = .ok (.aload_n 0, 1) := by decide +kernel
theorem dX5_kindOf_8 : decode cX5_kindOf 8 = .ok (.getfield 42, 3) := by decide +kernel
theorem dX5_kindOf_11 : decode cX5_kindOf 11 = .ok (.ifCond .le 8, 3) := by decide +kernel
theorem dX5_kindOf_14 : decode cX5_kindOf 14 = .ok (.bipush 32, 2) := by decide +kernel
theorem dX5_kindOf_16 : decode cX5_kindOf 16 = .ok (.goto 5, 3) := by decide +kernel
theorem dX5_kindOf_19 : decode cX5_kindOf 19 = .ok (.iload_n 2, 1) := by decide +kernel
theorem dX5_kindOf_20 : decode cX5_kindOf 20 = .ok (.i2c, 1) := by decide +kernel
theorem dX5_kindOf_21 : decode cX5_kindOf 21 = .ok (.ireturn, 1) := by decide +kernel
theorem dX5_strengthOf_0 : decode cX5_strengthOf 0 = .ok (.aload_n 0, 1) := by decide +kernel
theorem dX5_strengthOf_1 : decode cX5_strengthOf 1 = .ok (.iload_n 1, 1) := by decide +kernel
theorem dX5_strengthOf_2 : decode cX5_strengthOf 2 = .ok (.iconst 4, 1) := by decide +kernel
theorem dX5_strengthOf_3 : decode cX5_strengthOf 3 = .ok (.invokevirtual 173, 3) := by decide +kernel
theorem dX5_strengthOf_6 : decode cX5_strengthOf 6 = .ok (.ireturn, 1) := by decide +kernel
theorem dX5_moraleOf_0 : decode cX5_moraleOf 0 = .ok (.aload_n 0, 1) := by decide +kernel
theorem dX5_moraleOf_1 : decode cX5_moraleOf 1 = .ok (.iload_n 1, 1) := by decide +kernel
theorem dX5_moraleOf_2 : decode cX5_moraleOf 2 = .ok (.iconst 5, 1) := by decide +kernel
theorem dX5_moraleOf_3 : decode cX5_moraleOf 3 = .ok (.invokevirtual 173, 3) := by decide +kernel
theorem dX5_moraleOf_6 : decode cX5_moraleOf 6 = .ok (.ireturn, 1) := by decide +kernel
theorem dX5_orderOf_0 : decode cX5_orderOf 0 = .ok (.aload_n 0, 1) := by decide +kernel
theorem dX5_orderOf_1 : decode cX5_orderOf 1 = .ok (.aload_n 0, 1) := by decide +kernel
theorem dX5_orderOf_2 : decode cX5_orderOf 2 = .ok (.iload_n 1, 1) := by decide +kernel
theorem dX5_orderOf_3 : decode cX5_orderOf 3 = .ok (.invokevirtual 153, 3) := by decide +kernel
theorem dX5_orderOf_6 : decode cX5_orderOf 6 = .ok (.ifCond .ne 7, 3) := by decide +kernel
theorem dX5_orderOf_9 : decode cX5_orderOf 9 = .ok (.iconst 1, 1) := by decide +kernel
theorem dX5_orderOf_10 : decode cX5_orderOf 10 = .ok (.goto 16, 3) := by decide +kernel
theorem dX5_orderOf_13 : decode cX5_orderOf 13 = .ok (.aload_n 0, 1) := by decide +kernel
theorem dX5_orderOf_14 : decode cX5_orderOf 14 = .ok (.iload_n 1, 1) := by decide +kernel
theorem dX5_orderOf_15 : decode cX5_orderOf 15 = .ok (.invokevirtual 66, 3) := by decide +kernel
theorem dX5_orderOf_18 : decode cX5_orderOf 18 = .ok (.ifCond .ne 7, 3) := by decide +kernel
theorem dX5_orderOf_21 : decode cX5_orderOf 21 = .ok (.iconst 2, 1) := by decide +kernel
theorem dX5_orderOf_22 : decode cX5_orderOf 22 = .ok (.goto 4, 3) := by decide +kernel
theorem dX5_orderOf_25 : decode cX5_orderOf 25 = .ok (.iconst 0, 1) := by decide +kernel
theorem dX5_orderOf_26 : decode cX5_orderOf 26 = .ok (.putfield 42, 3) := by decide +kernel
theorem dX5_orderOf_29 : decode cX5_orderOf 29 = .ok (.aload_n 0, 1) := by decide +kernel
theorem dX5_orderOf_30 : decode cX5_orderOf 30 = .ok (.getfield 42, 3) := by decide +kernel
theorem dX5_orderOf_33 : decode cX5_orderOf 33 = .ok (.ifCond .le 8, 3) := by decide +kernel
theorem dX5_orderOf_36 : decode cX5_orderOf 36 = .ok (.bipush 32, 2) := by decide +kernel
theorem dX5_orderOf_38 : decode cX5_orderOf 38 = .ok (.goto 11, 3) := by decide +kernel
theorem dX5_orderOf_41 : decode cX5_orderOf 41 = .ok (.aload_n 0, 1) := by decide +kernel
theorem dX5_orderOf_42 : decode cX5_orderOf 42 = .ok (.iload_n 1, 1) := by decide +kernel
theorem dX5_orderOf_43 : decode cX5_orderOf 43 = .ok (.bipush 6, 2) := by decide +kernel
theorem dX5_orderOf_45 : decode cX5_orderOf 45 = .ok (.invokevirtual 58, 3) := by decide +kernel
theorem dX5_orderOf_48 : decode cX5_orderOf 48 = .ok (.i2c, 1) := by decide +kernel
theorem dX5_orderOf_49 : decode cX5_orderOf 49 = .ok (.ireturn, 1) := by decide +kernel
theorem dX5_isStanding_0 : decode cX5_isStanding 0 = .ok (.aload_n 0, 1) := by decide +kernel
theorem dX5_isStanding_1 : decode cX5_isStanding 1 = .ok (.aload_n 0, 1) := by decide +kernel
theorem dX5_isStanding_2 : decode cX5_isStanding 2 = .ok (.iload_n 1, 1) := by decide +kernel
theorem dX5_isStanding_3 : decode cX5_isStanding 3 = .ok (.invokevirtual 153, 3) := by decide +kernel
theorem dX5_isStanding_6 : decode cX5_isStanding 6 = .ok (.invokevirtual 169, 3) := by decide +kernel
theorem dX5_isStanding_9 : decode cX5_isStanding 9 = .ok (.ifCond .eq 15, 3) := by decide +kernel
theorem dX5_isStanding_12 : decode cX5_isStanding 12 = .ok (.aload_n 0, 1) := by decide +kernel
theorem dX5_isStanding_13 : decode cX5_isStanding 13 = .ok (.iload_n 1, 1) := by decide +kernel
theorem dX5_isStanding_14 : decode cX5_isStanding 14 = .ok (.invokevirtual 66, 3) := by decide +kernel
theorem dX5_isStanding_17 : decode cX5_isStanding 17 = .ok (.ifCond .eq 7, 3) := by decide +kernel
theorem dX5_isStanding_20 : decode cX5_isStanding 20 = .ok (.iconst 1, 1) := by decide +kernel
theorem dX5_isStanding_21 : decode cX5_isStanding 21 = .ok (.goto 4, 3) := by decide +kernel
theorem dX5_isStanding_24 : decode cX5_isStanding 24 = .ok (.iconst 0, 1) := by decide +kernel
theorem dX5_isStanding_25 : decode cX5_isStanding 25 = .ok (.ireturn, 1) := by decide +kernel
theorem dX5_isRouted_0 : decode cX5_isRouted 0 = .ok (.aload_n 0, 1) := by decide +kernel
theorem dX5_isRouted_1 : decode cX5_isRouted 1 = .ok (.aload_n 0, 1) := by decide +kernel
theorem dX5_isRouted_2 : decode cX5_isRouted 2 = .ok (.iload_n 1, 1) := by decide +kernel
theorem dX5_isRouted_3 : decode cX5_isRouted 3 = .ok (.invokevirtual 153, 3) := by decide +kernel
theorem dX5_isRouted_6 : decode cX5_isRouted 6 = .ok (.invokevirtual 169, 3) := by decide +kernel
theorem dX5_isRouted_9 : decode cX5_isRouted 9 = .ok (.ifCond .eq 18, 3) := by decide +kernel
theorem dX5_isRouted_12 : decode cX5_isRouted 12 = .ok (.aload_n 0, 1) := by decide +kernel
theorem dX5_isRouted_13 : decode cX5_isRouted 13 = .ok (.iload_n 1, 1) := by decide +kernel
theorem dX5_isRouted_14 : decode cX5_isRouted 14 = .ok (.bipush 7, 2) := by decide +kernel
theorem dX5_isRouted_16 : decode cX5_isRouted 16 = .ok (.invokevirtual 58, 3) := by decide +kernel
theorem dX5_isRouted_19 : decode cX5_isRouted 19 = .ok (.iconst 1, 1) := by decide +kernel
theorem dX5_isRouted_20 : decode cX5_isRouted 20 = .ok (.if_icmp .ne 7, 3) := by decide +kernel
theorem dX5_isRouted_23 : decode cX5_isRouted 23 = .ok (.iconst 1, 1) := by decide +kernel
theorem dX5_isRouted_24 : decode cX5_isRouted 24 = .ok (.goto 4, 3) := by decide +kernel
theorem dX5_isRouted_27 : decode cX5_isRouted 27 = .ok (.iconst 0, 1) := by decide +kernel
theorem dX5_isRouted_28 : decode cX5_isRouted 28 = .ok (.ireturn, 1) := by decide +kernel
theorem dX5_routedTurns_0 : decode cX5_routedTurns 0 = .ok (.aload_n 0, 1) := by decide +kernel
theorem dX5_routedTurns_1 : decode cX5_routedTurns 1 = .ok (.iload_n 1, 1) := by decide +kernel
theorem dX5_routedTurns_2 : decode cX5_routedTurns 2 = .ok (.bipush 8, 2) := by decide +kernel
theorem dX5_routedTurns_4 : decode cX5_routedTurns 4 = .ok (.invokevirtual 173, 3) := by decide +kernel
theorem dX5_routedTurns_7 : decode cX5_routedTurns 7 = .ok (.ireturn, 1) := by decide +kernel
theorem dX5_lineIn_0 : decode cX5_lineIn 0 = .ok (.aload_n 0, 1) := by decide +kernel
theorem dX5_lineIn_1 : decode cX5_lineIn 1 = .ok (.iload_n 1, 1) := by decide +kernel
theorem dX5_lineIn_2 : decode cX5_lineIn 2 = .ok (.iload_n 2, 1) := by decide +kernel
theorem dX5_lineIn_3 : decode cX5_lineIn 3 = .ok (.invokevirtual 99, 3) := by decide +kernel
theorem dX5_lineIn_6 : decode cX5_lineIn 6 = .ok (.istore_n 3, 1) := by decide +kernel
theorem dX5_lineIn_7 : decode cX5_lineIn 7 = .ok (.aload_n 0, 1) := by decide +kernel
theorem dX5_lineIn_8 : decode cX5_lineIn 8 = .ok (.iload_n 1, 1) := by decide +kernel
theorem dX5_lineIn_9 : decode cX5_lineIn 9 = .ok (.invokestatic 134, 3) := by decide +kernel
theorem dX5_lineIn_12 : decode cX5_lineIn 12 = .ok (.ifCond .eq 10, 3) := by decide +kernel
theorem dX5_lineIn_15 : decode cX5_lineIn 15 = .ok (.iload_n 2, 1) := by decide +kernel
theorem dX5_lineIn_16 : decode cX5_lineIn 16 = .ok (.invokestatic 102, 3) := by decide +kernel
theorem dX5_lineIn_19 : decode cX5_lineIn 19 = .ok (.ifCond .ne 7, 3) := by decide +kernel
theorem dX5_lineIn_22 : decode cX5_lineIn 22 = .ok (.iconst 1, 1) := by decide +kernel
theorem dX5_lineIn_23 : decode cX5_lineIn 23 = .ok (.goto 12, 3) := by decide +kernel
theorem dX5_lineIn_26 : decode cX5_lineIn 26 = .ok (.iload_n 3, 1) := by decide +kernel
theorem dX5_lineIn_27 : decode cX5_lineIn 27 = .ok (.ifCond .ge 7, 3) := by decide +kernel
theorem dX5_lineIn_30 : decode cX5_lineIn 30 = .ok (.iconst 2, 1) := by decide +kernel
theorem dX5_lineIn_31 : decode cX5_lineIn 31 = .ok (.goto 4, 3) := by decide +kernel
theorem dX5_lineIn_34 : decode cX5_lineIn 34 = .ok (.iconst 0, 1) := by decide +kernel
theorem dX5_lineIn_35 : decode cX5_lineIn 35 = .ok (.putfield 42, 3) := by decide +kernel
theorem dX5_lineIn_38 : decode cX5_lineIn 38 = .ok (.aload_n 0, 1) := by decide +kernel
theorem dX5_lineIn_39 : decode cX5_lineIn 39 = .ok (.getfield 42, 3) := by decide +kernel
theorem dX5_lineIn_42 : decode cX5_lineIn 42 = .ok (.ifCond .le 7, 3) := by decide +kernel
theorem dX5_lineIn_45 : decode cX5_lineIn 45 = .ok (.iconst 0, 1) := by decide +kernel
theorem dX5_lineIn_46 : decode cX5_lineIn 46 = .ok (.goto 4, 3) := by decide +kernel
theorem dX5_lineIn_49 : decode cX5_lineIn 49 = .ok (.iload_n 3, 1) := by decide +kernel
theorem dX5_lineIn_50 : decode cX5_lineIn 50 = .ok (.ireturn, 1) := by decide +kernel
theorem dX5_attackOf_0 : decode cX5_attackOf 0 = .ok (.aload_n 0, 1) := by decide +kernel
theorem dX5_attackOf_1 : decode cX5_attackOf 1 = .ok (.aload_n 0, 1) := by decide +kernel
theorem dX5_attackOf_2 : decode cX5_attackOf 2 = .ok (.iload_n 1, 1) := by decide +kernel
theorem dX5_attackOf_3 : decode cX5_attackOf 3 = .ok (.invokevirtual 153, 3) := by decide +kernel
theorem dX5_attackOf_6 : decode cX5_attackOf 6 = .ok (.invokevirtual 169, 3) := by decide +kernel
theorem dX5_attackOf_9 : decode cX5_attackOf 9 = .ok (.ifCond .eq 11, 3) := by decide +kernel
theorem dX5_attackOf_12 : decode cX5_attackOf 12 = .ok (.aload_n 0, 1) := by decide +kernel
theorem dX5_attackOf_13 : decode cX5_attackOf 13 = .ok (.iload_n 1, 1) := by decide +kernel
theorem dX5_attackOf_14 : decode cX5_attackOf 14 = .ok (.invokevirtual 78, 3) := by decide +kernel
theorem dX5_attackOf_17 : decode cX5_attackOf 17 = .ok (.goto 4, 3) := by decide +kernel
theorem dX5_attackOf_20 : decode cX5_attackOf 20 = .ok (.iconst 0, 1) := by decide +kernel
theorem dX5_attackOf_21 : decode cX5_attackOf 21 = .ok (.ireturn, 1) := by decide +kernel
theorem dX5_counterOf_0 : decode cX5_counterOf 0 = .ok (.aload_n 0, 1) := by decide +kernel
theorem dX5_counterOf_1 : decode cX5_counterOf 1 = .ok (.aload_n 0, 1) := by decide +kernel
theorem dX5_counterOf_2 : decode cX5_counterOf 2 = .ok (.iload_n 1, 1) := by decide +kernel
theorem dX5_counterOf_3 : decode cX5_counterOf 3 = .ok (.invokevirtual 153, 3) := by decide +kernel
theorem dX5_counterOf_6 : decode cX5_counterOf 6 = .ok (.invokevirtual 169, 3) := by decide +kernel
theorem dX5_counterOf_9 : decode cX5_counterOf 9 = .ok (.ifCond .eq 11, 3) := by decide +kernel
theorem dX5_counterOf_12 : decode cX5_counterOf 12 = .ok (.aload_n 0, 1) := by decide +kernel
theorem dX5_counterOf_13 : decode cX5_counterOf 13 = .ok (.iload_n 1, 1) := by decide +kernel
theorem dX5_counterOf_14 : decode cX5_counterOf 14 = .ok (.invokevirtual 89, 3) := by decide +kernel
theorem dX5_counterOf_17 : decode cX5_counterOf 17 = .ok (.goto 4, 3) := by decide +kernel
theorem dX5_counterOf_20 : decode cX5_counterOf 20 = .ok (.iconst 0, 1) := by decide +kernel
theorem dX5_counterOf_21 : decode cX5_counterOf 21 = .ok (.ireturn, 1) := by decide +kernel
theorem dX5_supportOf_0 : decode cX5_supportOf 0 = .ok (.aload_n 0, 1) := by decide +kernel
theorem dX5_supportOf_1 : decode cX5_supportOf 1 = .ok (.iload_n 1, 1) := by decide +kernel
theorem dX5_supportOf_2 : decode cX5_supportOf 2 = .ok (.invokevirtual 176, 3) := by decide +kernel
theorem dX5_supportOf_5 : decode cX5_supportOf 5 = .ok (.ifCond .eq 11, 3) := by decide +kernel
theorem dX5_supportOf_8 : decode cX5_supportOf 8 = .ok (.aload_n 0, 1) := by decide +kernel
theorem dX5_supportOf_9 : decode cX5_supportOf 9 = .ok (.iload_n 1, 1) := by decide +kernel
theorem dX5_supportOf_10 : decode cX5_supportOf 10 = .ok (.invokevirtual 82, 3) := by decide +kernel
theorem dX5_supportOf_13 : decode cX5_supportOf 13 = .ok (.goto 4, 3) := by decide +kernel
theorem dX5_supportOf_16 : decode cX5_supportOf 16 = .ok (.iconst 0, 1) := by decide +kernel
theorem dX5_supportOf_17 : decode cX5_supportOf 17 = .ok (.ireturn, 1) := by decide +kernel
theorem dX5_supportByLines_0 : decode cX5_supportByLines 0 = .ok (.aload_n 0, 1) := by decide +kernel
theorem dX5_supportByLines_1 : decode cX5_supportByLines 1 = .ok (.iload_n 1, 1) := by decide +kernel
theorem dX5_supportByLines_2 : decode cX5_supportByLines 2 = .ok (.invokevirtual 179, 3) := by decide +kernel
theorem dX5_supportByLines_5 : decode cX5_supportByLines 5 = .ok (.ireturn, 1) := by decide +kernel
theorem dX5_enemyAhead_0 : decode cX5_enemyAhead 0 = .ok (.iconst (-1), 1) := by decide +kernel
theorem dX5_enemyAhead_1 : decode cX5_enemyAhead 1 = .ok (.istore_n 2, 1) := by decide +kernel
theorem dX5_enemyAhead_2 : decode cX5_enemyAhead 2 = .ok (.aload_n 0, 1) := by decide +kernel
theorem dX5_enemyAhead_3 : decode cX5_enemyAhead 3 = .ok (.iload_n 1, 1) := by decide +kernel
theorem dX5_enemyAhead_4 : decode cX5_enemyAhead 4 = .ok (.invokevirtual 176, 3) := by decide +kernel
theorem dX5_enemyAhead_7 : decode cX5_enemyAhead 7 = .ok (.istore_n 3, 1) := by decide +kernel
theorem dX5_enemyAhead_8 : decode cX5_enemyAhead 8 = .ok (.iload_n 3, 1) := by decide +kernel
theorem dX5_enemyAhead_9 : decode cX5_enemyAhead 9 = .ok (.ifCond .eq 12, 3) := by decide +kernel
theorem dX5_enemyAhead_12 : decode cX5_enemyAhead 12 = .ok (.aload_n 0, 1) := by decide +kernel
theorem dX5_enemyAhead_13 : decode cX5_enemyAhead 13 = .ok (.iload_n 1, 1) := by decide +kernel
theorem dX5_enemyAhead_14 : decode cX5_enemyAhead 14 = .ok (.iconst 2, 1) := by decide +kernel
theorem dX5_enemyAhead_15 : decode cX5_enemyAhead 15 = .ok (.invokevirtual 58, 3) := by decide +kernel
theorem dX5_enemyAhead_18 : decode cX5_enemyAhead 18 = .ok (.goto 4, 3) := by decide +kernel
theorem dX5_enemyAhead_21 : decode cX5_enemyAhead 21 = .ok (.iconst (-1), 1) := by decide +kernel
theorem dX5_enemyAhead_22 : decode cX5_enemyAhead 22 = .ok (.istore 4, 2) := by decide +kernel
theorem dX5_enemyAhead_24 : decode cX5_enemyAhead 24 = .ok (.iload 4, 2) := by decide +kernel
theorem dX5_enemyAhead_26 : decode cX5_enemyAhead 26 = .ok (.invokestatic 102, 3) := by decide +kernel
theorem dX5_enemyAhead_29 : decode cX5_enemyAhead 29 = .ok (.ifCond .eq 51, 3) := by decide +kernel
theorem dX5_enemyAhead_32 : decode cX5_enemyAhead 32 = .ok (.iload_n 2, 1) := by decide +kernel
theorem dX5_enemyAhead_33 : decode cX5_enemyAhead 33 = .ok (.ifCond .ge 47, 3) := by decide +kernel
theorem dX5_enemyAhead_36 : decode cX5_enemyAhead 36 = .ok (.aload_n 0, 1) := by decide +kernel
theorem dX5_enemyAhead_37 : decode cX5_enemyAhead 37 = .ok (.aload_n 0, 1) := by decide +kernel
theorem dX5_enemyAhead_38 : decode cX5_enemyAhead 38 = .ok (.iload_n 1, 1) := by decide +kernel
theorem dX5_enemyAhead_39 : decode cX5_enemyAhead 39 = .ok (.iconst 1, 1) := by decide +kernel
theorem dX5_enemyAhead_40 : decode cX5_enemyAhead 40 = .ok (.invokevirtual 58, 3) := by decide +kernel
theorem dX5_enemyAhead_43 : decode cX5_enemyAhead 43 = .ok (.iload 4, 2) := by decide +kernel
theorem dX5_enemyAhead_45 : decode cX5_enemyAhead 45 = .ok (.invokevirtual 99, 3) := by decide +kernel
theorem dX5_enemyAhead_48 : decode cX5_enemyAhead 48 = .ok (.istore 5, 2) := by decide +kernel
theorem dX5_enemyAhead_50 : decode cX5_enemyAhead 50 = .ok (.aload_n 0, 1) := by decide +kernel
theorem dX5_enemyAhead_51 : decode cX5_enemyAhead 51 = .ok (.iload_n 1, 1) := by decide +kernel
theorem dX5_enemyAhead_52 : decode cX5_enemyAhead 52 = .ok (.iload 5, 2) := by decide +kernel
theorem dX5_enemyAhead_54 : decode cX5_enemyAhead 54 = .ok (.invokevirtual 118, 3) := by decide +kernel
theorem dX5_enemyAhead_57 : decode cX5_enemyAhead 57 = .ok (.ifCond .eq 8, 3) := by decide +kernel
theorem dX5_enemyAhead_60 : decode cX5_enemyAhead 60 = .ok (.iload 5, 2) := by decide +kernel
theorem dX5_enemyAhead_62 : decode cX5_enemyAhead 62 = .ok (.goto 4, 3) := by decide +kernel
theorem dX5_enemyAhead_65 : decode cX5_enemyAhead 65 = .ok (.iload_n 2, 1) := by decide +kernel
theorem dX5_enemyAhead_66 : decode cX5_enemyAhead 66 = .ok (.istore_n 2, 1) := by decide +kernel
theorem dX5_enemyAhead_67 : decode cX5_enemyAhead 67 = .ok (.iload 4, 2) := by decide +kernel
theorem dX5_enemyAhead_69 : decode cX5_enemyAhead 69 = .ok (.aload_n 0, 1) := by decide +kernel
theorem dX5_enemyAhead_70 : decode cX5_enemyAhead 70 = .ok (.iload_n 1, 1) := by decide +kernel
theorem dX5_enemyAhead_71 : decode cX5_enemyAhead 71 = .ok (.invokevirtual 96, 3) := by decide +kernel
theorem dX5_enemyAhead_74 : decode cX5_enemyAhead 74 = .ok (.iadd, 1) := by decide +kernel
theorem dX5_enemyAhead_75 : decode cX5_enemyAhead 75 = .ok (.istore 4, 2) := by decide +kernel
theorem dX5_enemyAhead_77 : decode cX5_enemyAhead 77 = .ok (.goto (-53), 3) := by decide +kernel
theorem dX5_enemyAhead_80 : decode cX5_enemyAhead 80 = .ok (.aload_n 0, 1) := by decide +kernel
theorem dX5_enemyAhead_81 : decode cX5_enemyAhead 81 = .ok (.aload_n 0, 1) := by decide +kernel
theorem dX5_enemyAhead_82 : decode cX5_enemyAhead 82 = .ok (.getfield 42, 3) := by decide +kernel
theorem dX5_enemyAhead_85 : decode cX5_enemyAhead 85 = .ok (.ifCond .le 10, 3) := by decide +kernel
theorem dX5_enemyAhead_88 : decode cX5_enemyAhead 88 = .ok (.aload_n 0, 1) := by decide +kernel
theorem dX5_enemyAhead_89 : decode cX5_enemyAhead 89 = .ok (.getfield 42, 3) := by decide +kernel
theorem dX5_enemyAhead_92 : decode cX5_enemyAhead 92 = .ok (.goto 12, 3) := by decide +kernel
theorem dX5_enemyAhead_95 : decode cX5_enemyAhead 95 = .ok (.iload_n 2, 1) := by decide +kernel
theorem dX5_enemyAhead_96 : decode cX5_enemyAhead 96 = .ok (.ifCond .ge 7, 3) := by decide +kernel
theorem dX5_enemyAhead_99 : decode cX5_enemyAhead 99 = .ok (.iconst 2, 1) := by decide +kernel
theorem dX5_enemyAhead_100 : decode cX5_enemyAhead 100 = .ok (.goto 4, 3) := by decide +kernel
theorem dX5_enemyAhead_103 : decode cX5_enemyAhead 103 = .ok (.iconst 0, 1) := by decide +kernel
theorem dX5_enemyAhead_104 : decode cX5_enemyAhead 104 = .ok (.putfield 42, 3) := by decide +kernel
theorem dX5_enemyAhead_107 : decode cX5_enemyAhead 107 = .ok (.aload_n 0, 1) := by decide +kernel
theorem dX5_enemyAhead_108 : decode cX5_enemyAhead 108 = .ok (.getfield 42, 3) := by decide +kernel
theorem dX5_enemyAhead_111 : decode cX5_enemyAhead 111 = .ok (.ifCond .le 7, 3) := by decide +kernel
theorem dX5_enemyAhead_114 : decode cX5_enemyAhead 114 = .ok (.iconst 0, 1) := by decide +kernel
theorem dX5_enemyAhead_115 : decode cX5_enemyAhead 115 = .ok (.goto 4, 3) := by decide +kernel
theorem dX5_enemyAhead_118 : decode cX5_enemyAhead 118 = .ok (.iload_n 2, 1) := by decide +kernel
theorem dX5_enemyAhead_119 : decode cX5_enemyAhead 119 = .ok (.ireturn, 1) := by decide +kernel
theorem dX5_enemyByDistances_0 : decode cX5_enemyByDistances 0 = .ok (.aload_n 0, 1) := by decide +kernel
theorem dX5_enemyByDistances_1 : decode cX5_enemyByDistances 1 = .ok (.iload_n 1, 1) := by decide +kernel
theorem dX5_enemyByDistances_2 : decode cX5_enemyByDistances 2 = .ok (.invokevirtual 182, 3) := by decide +kernel
theorem dX5_enemyByDistances_5 : decode cX5_enemyByDistances 5 = .ok (.ireturn, 1) := by decide +kernel
theorem dX5_fightCount_0 : decode cX5_fightCount 0 = .ok (.aload_n 0, 1) := by decide +kernel
theorem dX5_fightCount_1 : decode cX5_fightCount 1 = .ok (.iconst 0, 1) := by decide +kernel
theorem dX5_fightCount_2 : decode cX5_fightCount 2 = .ok (.putfield 42, 3) := by decide +kernel
theorem dX5_fightCount_5 : decode cX5_fightCount 5 = .ok (.aload_n 0, 1) := by decide +kernel
theorem dX5_fightCount_6 : decode cX5_fightCount 6 = .ok (.getfield 9, 3) := by decide +kernel
theorem dX5_fightCount_9 : decode cX5_fightCount 9 = .ok (.iconst 2, 1) := by decide +kernel
theorem dX5_fightCount_10 : decode cX5_fightCount 10 = .ok (.iaload, 1) := by decide +kernel
theorem dX5_fightCount_11 : decode cX5_fightCount 11 = .ok (.ireturn, 1) := by decide +kernel
theorem dX5_turnsUntilFight_0 : decode cX5_turnsUntilFight 0 = .ok (.aload_n 0, 1) := by decide +kernel
theorem dX5_turnsUntilFight_1 : decode cX5_turnsUntilFight 1 = .ok (.getfield 9, 3) := by decide +kernel
theorem dX5_turnsUntilFight_4 : decode cX5_turnsUntilFight 4 = .ok (.iconst 0, 1) := by decide +kernel
theorem dX5_turnsUntilFight_5 : decode cX5_turnsUntilFight 5 = .ok (.aload_n 0, 1) := by decide +kernel
theorem dX5_turnsUntilFight_6 : decode cX5_turnsUntilFight 6 = .ok (.getfield 16, 3) := by decide +kernel
theorem dX5_turnsUntilFight_9 : decode cX5_turnsUntilFight 9 = .ok (.iconst 0, 1) := by decide +kernel
theorem dX5_turnsUntilFight_10 : decode cX5_turnsUntilFight 10 = .ok (.bipush 113, 2) := by decide +kernel
theorem dX5_turnsUntilFight_12 : decode cX5_turnsUntilFight 12 = .ok (.invokestatic 45, 3) := by decide +kernel
theorem dX5_turnsUntilFight_15 : decode cX5_turnsUntilFight 15 = .ok (.iconst 0, 1) := by decide +kernel
theorem dX5_turnsUntilFight_16 : decode cX5_turnsUntilFight 16 = .ok (.istore_n 1, 1) := by decide +kernel
theorem dX5_turnsUntilFight_17 : decode cX5_turnsUntilFight 17 = .ok (.iconst 0, 1) := by decide +kernel
theorem dX5_turnsUntilFight_18 : decode cX5_turnsUntilFight 18 = .ok (.istore_n 2, 1) := by decide +kernel
theorem dX5_turnsUntilFight_19 : decode cX5_turnsUntilFight 19 = .ok (.iload_n 1, 1) := by decide +kernel
theorem dX5_turnsUntilFight_20 : decode cX5_turnsUntilFight 20 = .ok (.bipush 20, 2) := by decide +kernel
theorem dX5_turnsUntilFight_22 : decode cX5_turnsUntilFight 22 = .ok (.if_icmp .ge 18, 3) := by decide +kernel
theorem dX5_turnsUntilFight_25 : decode cX5_turnsUntilFight 25 = .ok (.iload_n 2, 1) := by decide +kernel
theorem dX5_turnsUntilFight_26 : decode cX5_turnsUntilFight 26 = .ok (.ifCond .ne 14, 3) := by decide +kernel
theorem dX5_turnsUntilFight_29 : decode cX5_turnsUntilFight 29 = .ok (.aload_n 0, 1) := by decide +kernel
theorem dX5_turnsUntilFight_30 : decode cX5_turnsUntilFight 30 = .ok (.invokevirtual 165, 3) := by decide +kernel
theorem dX5_turnsUntilFight_33 : decode cX5_turnsUntilFight 33 = .ok (.istore_n 2, 1) := by decide +kernel
theorem dX5_turnsUntilFight_34 : decode cX5_turnsUntilFight 34 = .ok (.iinc 1 1, 3) := by decide +kernel
theorem dX5_turnsUntilFight_37 : decode cX5_turnsUntilFight 37 = .ok (.goto (-18), 3) := by decide +kernel
theorem dX5_turnsUntilFight_40 : decode cX5_turnsUntilFight 40 = .ok (.aload_n 0, 1) := by decide +kernel
theorem dX5_turnsUntilFight_41 : decode cX5_turnsUntilFight 41 = .ok (.getfield 16, 3) := by decide +kernel
theorem dX5_turnsUntilFight_44 : decode cX5_turnsUntilFight 44 = .ok (.iconst 0, 1) := by decide +kernel
theorem dX5_turnsUntilFight_45 : decode cX5_turnsUntilFight 45 = .ok (.aload_n 0, 1) := by decide +kernel
theorem dX5_turnsUntilFight_46 : decode cX5_turnsUntilFight 46 = .ok (.getfield 9, 3) := by decide +kernel
theorem dX5_turnsUntilFight_49 : decode cX5_turnsUntilFight 49 = .ok (.iconst 0, 1) := by decide +kernel
theorem dX5_turnsUntilFight_50 : decode cX5_turnsUntilFight 50 = .ok (.bipush 113, 2) := by decide +kernel
theorem dX5_turnsUntilFight_52 : decode cX5_turnsUntilFight 52 = .ok (.invokestatic 45, 3) := by decide +kernel
theorem dX5_turnsUntilFight_55 : decode cX5_turnsUntilFight 55 = .ok (.aload_n 0, 1) := by decide +kernel
theorem dX5_turnsUntilFight_56 : decode cX5_turnsUntilFight 56 = .ok (.iload_n 2, 1) := by decide +kernel
theorem dX5_turnsUntilFight_57 : decode cX5_turnsUntilFight 57 = .ok (.ifCond .le 7, 3) := by decide +kernel
theorem dX5_turnsUntilFight_60 : decode cX5_turnsUntilFight 60 = .ok (.iconst 1, 1) := by decide +kernel
theorem dX5_turnsUntilFight_61 : decode cX5_turnsUntilFight 61 = .ok (.goto 4, 3) := by decide +kernel
theorem dX5_turnsUntilFight_64 : decode cX5_turnsUntilFight 64 = .ok (.iconst 0, 1) := by decide +kernel
theorem dX5_turnsUntilFight_65 : decode cX5_turnsUntilFight 65 = .ok (.invokevirtual 169, 3) := by decide +kernel
theorem dX5_turnsUntilFight_68 : decode cX5_turnsUntilFight 68 = .ok (.ifCond .eq 7, 3) := by decide +kernel
theorem dX5_turnsUntilFight_71 : decode cX5_turnsUntilFight 71 = .ok (.iload_n 1, 1) := by decide +kernel
theorem dX5_turnsUntilFight_72 : decode cX5_turnsUntilFight 72 = .ok (.goto 4, 3) := by decide +kernel
theorem dX5_turnsUntilFight_75 : decode cX5_turnsUntilFight 75 = .ok (.iconst 0, 1) := by decide +kernel
theorem dX5_turnsUntilFight_76 : decode cX5_turnsUntilFight 76 = .ok (.ireturn, 1) := by decide +kernel
theorem dX5_jarsOf_0 : decode cX5_jarsOf 0 = .ok (.aload_n 0, 1) := by decide +kernel
theorem dX5_jarsOf_1 : decode cX5_jarsOf 1 = .ok (.iload_n 1, 1) := by decide +kernel
theorem dX5_jarsOf_2 : decode cX5_jarsOf 2 = .ok (.invokestatic 131, 3) := by decide +kernel
theorem dX5_jarsOf_5 : decode cX5_jarsOf 5 = .ok (.invokevirtual 169, 3) := by decide +kernel
theorem dX5_jarsOf_8 : decode cX5_jarsOf 8 = .ok (.ifCond .eq 14, 3) := by decide +kernel
theorem dX5_jarsOf_11 : decode cX5_jarsOf 11 = .ok (.aload_n 0, 1) := by decide +kernel
theorem dX5_jarsOf_12 : decode cX5_jarsOf 12 = .ok (.getfield 9, 3) := by decide +kernel
theorem dX5_jarsOf_15 : decode cX5_jarsOf 15 = .ok (.iconst 3, 1) := by decide +kernel
theorem dX5_jarsOf_16 : decode cX5_jarsOf 16 = .ok (.iload_n 1, 1) := by decide +kernel
theorem dX5_jarsOf_17 : decode cX5_jarsOf 17 = .ok (.iadd, 1) := by decide +kernel
theorem dX5_jarsOf_18 : decode cX5_jarsOf 18 = .ok (.iaload, 1) := by decide +kernel
theorem dX5_jarsOf_19 : decode cX5_jarsOf 19 = .ok (.goto 4, 3) := by decide +kernel
theorem dX5_jarsOf_22 : decode cX5_jarsOf 22 = .ok (.iconst 0, 1) := by decide +kernel
theorem dX5_jarsOf_23 : decode cX5_jarsOf 23 = .ok (.ireturn, 1) := by decide +kernel
theorem dX5_sum_0 : decode cX5_sum 0 = .ok (.iconst 0, 1) := by decide +kernel
theorem dX5_sum_1 : decode cX5_sum 1 = .ok (.istore_n 2, 1) := by decide +kernel
theorem dX5_sum_2 : decode cX5_sum 2 = .ok (.iconst 0, 1) := by decide +kernel
theorem dX5_sum_3 : decode cX5_sum 3 = .ok (.istore_n 3, 1) := by decide +kernel
theorem dX5_sum_4 : decode cX5_sum 4 = .ok (.iload_n 3, 1) := by decide +kernel
theorem dX5_sum_5 : decode cX5_sum 5 = .ok (.aload_n 0, 1) := by decide +kernel
theorem dX5_sum_6 : decode cX5_sum 6 = .ok (.getfield 9, 3) := by decide +kernel
theorem dX5_sum_9 : decode cX5_sum 9 = .ok (.iconst 0, 1) := by decide +kernel
theorem dX5_sum_10 : decode cX5_sum 10 = .ok (.iaload, 1) := by decide +kernel
theorem dX5_sum_11 : decode cX5_sum 11 = .ok (.if_icmp .ge 32, 3) := by decide +kernel
theorem dX5_sum_14 : decode cX5_sum 14 = .ok (.iload_n 2, 1) := by decide +kernel
theorem dX5_sum_15 : decode cX5_sum 15 = .ok (.aload_n 0, 1) := by decide +kernel
theorem dX5_sum_16 : decode cX5_sum 16 = .ok (.iload_n 3, 1) := by decide +kernel
theorem dX5_sum_17 : decode cX5_sum 17 = .ok (.iconst 0, 1) := by decide +kernel
theorem dX5_sum_18 : decode cX5_sum 18 = .ok (.invokevirtual 58, 3) := by decide +kernel
theorem dX5_sum_21 : decode cX5_sum 21 = .ok (.iload_n 1, 1) := by decide +kernel
theorem dX5_sum_22 : decode cX5_sum 22 = .ok (.if_icmp .ne 12, 3) := by decide +kernel
theorem dX5_sum_25 : decode cX5_sum 25 = .ok (.aload_n 0, 1) := by decide +kernel
theorem dX5_sum_26 : decode cX5_sum 26 = .ok (.iload_n 3, 1) := by decide +kernel
theorem dX5_sum_27 : decode cX5_sum 27 = .ok (.iconst 4, 1) := by decide +kernel
theorem dX5_sum_28 : decode cX5_sum 28 = .ok (.invokevirtual 58, 3) := by decide +kernel
theorem dX5_sum_31 : decode cX5_sum 31 = .ok (.goto 4, 3) := by decide +kernel
theorem dX5_sum_34 : decode cX5_sum 34 = .ok (.iconst 0, 1) := by decide +kernel
theorem dX5_sum_35 : decode cX5_sum 35 = .ok (.iadd, 1) := by decide +kernel
theorem dX5_sum_36 : decode cX5_sum 36 = .ok (.istore_n 2, 1) := by decide +kernel
theorem dX5_sum_37 : decode cX5_sum 37 = .ok (.iinc 3 1, 3) := by decide +kernel
theorem dX5_sum_40 : decode cX5_sum 40 = .ok (.goto (-36), 3) := by decide +kernel
theorem dX5_sum_43 : decode cX5_sum 43 = .ok (.iload_n 2, 1) := by decide +kernel
theorem dX5_sum_44 : decode cX5_sum 44 = .ok (.ireturn, 1) := by decide +kernel
theorem dX5_strengthOfSide_0 : decode cX5_strengthOfSide 0 = .ok (.aload_n 0, 1) := by decide +kernel
theorem dX5_strengthOfSide_1 : decode cX5_strengthOfSide 1 = .ok (.iload_n 1, 1) := by decide +kernel
theorem dX5_strengthOfSide_2 : decode cX5_strengthOfSide 2 = .ok (.invokestatic 131, 3) := by decide +kernel
theorem dX5_strengthOfSide_5 : decode cX5_strengthOfSide 5 = .ok (.invokevirtual 169, 3) := by decide +kernel
theorem dX5_strengthOfSide_8 : decode cX5_strengthOfSide 8 = .ok (.ifCond .eq 11, 3) := by decide +kernel
theorem dX5_strengthOfSide_11 : decode cX5_strengthOfSide 11 = .ok (.aload_n 0, 1) := by decide +kernel
theorem dX5_strengthOfSide_12 : decode cX5_strengthOfSide 12 = .ok (.iload_n 1, 1) := by decide +kernel
theorem dX5_strengthOfSide_13 : decode cX5_strengthOfSide 13 = .ok (.invokevirtual 185, 3) := by decide +kernel
theorem dX5_strengthOfSide_16 : decode cX5_strengthOfSide 16 = .ok (.goto 4, 3) := by decide +kernel
theorem dX5_strengthOfSide_19 : decode cX5_strengthOfSide 19 = .ok (.iconst 0, 1) := by decide +kernel
theorem dX5_strengthOfSide_20 : decode cX5_strengthOfSide 20 = .ok (.ireturn, 1) := by decide +kernel
theorem dX5_strengthByCells_0 : decode cX5_strengthByCells 0 = .ok (.aload_n 0, 1) := by decide +kernel
theorem dX5_strengthByCells_1 : decode cX5_strengthByCells 1 = .ok (.iload_n 1, 1) := by decide +kernel
theorem dX5_strengthByCells_2 : decode cX5_strengthByCells 2 = .ok (.invokevirtual 188, 3) := by decide +kernel
theorem dX5_strengthByCells_5 : decode cX5_strengthByCells 5 = .ok (.ireturn, 1) := by decide +kernel
theorem dX5_fallenOf_0 : decode cX5_fallenOf 0 = .ok (.iconst 0, 1) := by decide +kernel
theorem dX5_fallenOf_1 : decode cX5_fallenOf 1 = .ok (.istore_n 2, 1) := by decide +kernel
theorem dX5_fallenOf_2 : decode cX5_fallenOf 2 = .ok (.aload_n 0, 1) := by decide +kernel
theorem dX5_fallenOf_3 : decode cX5_fallenOf 3 = .ok (.iload_n 1, 1) := by decide +kernel
theorem dX5_fallenOf_4 : decode cX5_fallenOf 4 = .ok (.invokestatic 131, 3) := by decide +kernel
theorem dX5_fallenOf_7 : decode cX5_fallenOf 7 = .ok (.invokevirtual 169, 3) := by decide +kernel
theorem dX5_fallenOf_10 : decode cX5_fallenOf 10 = .ok (.istore_n 3, 1) := by decide +kernel
theorem dX5_fallenOf_11 : decode cX5_fallenOf 11 = .ok (.iconst 0, 1) := by decide +kernel
theorem dX5_fallenOf_12 : decode cX5_fallenOf 12 = .ok (.istore 4, 2) := by decide +kernel
theorem dX5_fallenOf_14 : decode cX5_fallenOf 14 = .ok (.iload 4, 2) := by decide +kernel
theorem dX5_fallenOf_16 : decode cX5_fallenOf 16 = .ok (.aload_n 0, 1) := by decide +kernel
theorem dX5_fallenOf_17 : decode cX5_fallenOf 17 = .ok (.getfield 9, 3) := by decide +kernel
theorem dX5_fallenOf_20 : decode cX5_fallenOf 20 = .ok (.iconst 0, 1) := by decide +kernel
theorem dX5_fallenOf_21 : decode cX5_fallenOf 21 = .ok (.iaload, 1) := by decide +kernel
theorem dX5_fallenOf_22 : decode cX5_fallenOf 22 = .ok (.if_icmp .ge 41, 3) := by decide +kernel
theorem dX5_fallenOf_25 : decode cX5_fallenOf 25 = .ok (.iload_n 3, 1) := by decide +kernel
theorem dX5_fallenOf_26 : decode cX5_fallenOf 26 = .ok (.ifCond .eq 37, 3) := by decide +kernel
theorem dX5_fallenOf_29 : decode cX5_fallenOf 29 = .ok (.iload_n 2, 1) := by decide +kernel
theorem dX5_fallenOf_30 : decode cX5_fallenOf 30 = .ok (.aload_n 0, 1) := by decide +kernel
theorem dX5_fallenOf_31 : decode cX5_fallenOf 31 = .ok (.iload 4, 2) := by decide +kernel
theorem dX5_fallenOf_33 : decode cX5_fallenOf 33 = .ok (.iconst 0, 1) := by decide +kernel
theorem dX5_fallenOf_34 : decode cX5_fallenOf 34 = .ok (.invokevirtual 58, 3) := by decide +kernel
theorem dX5_fallenOf_37 : decode cX5_fallenOf 37 = .ok (.iload_n 1, 1) := by decide +kernel
theorem dX5_fallenOf_38 : decode cX5_fallenOf 38 = .ok (.if_icmp .ne 16, 3) := by decide +kernel
theorem dX5_fallenOf_41 : decode cX5_fallenOf 41 = .ok (.aload_n 0, 1) := by decide +kernel
theorem dX5_fallenOf_42 : decode cX5_fallenOf 42 = .ok (.iload 4, 2) := by decide +kernel
theorem dX5_fallenOf_44 : decode cX5_fallenOf 44 = .ok (.invokevirtual 62, 3) := by decide +kernel
theorem dX5_fallenOf_47 : decode cX5_fallenOf 47 = .ok (.ifCond .eq 7, 3) := by decide +kernel
theorem dX5_fallenOf_50 : decode cX5_fallenOf 50 = .ok (.iconst 1, 1) := by decide +kernel
theorem dX5_fallenOf_51 : decode cX5_fallenOf 51 = .ok (.goto 4, 3) := by decide +kernel
theorem dX5_fallenOf_54 : decode cX5_fallenOf 54 = .ok (.iconst 0, 1) := by decide +kernel
theorem dX5_fallenOf_55 : decode cX5_fallenOf 55 = .ok (.iadd, 1) := by decide +kernel
theorem dX5_fallenOf_56 : decode cX5_fallenOf 56 = .ok (.istore_n 2, 1) := by decide +kernel
theorem dX5_fallenOf_57 : decode cX5_fallenOf 57 = .ok (.iinc 4 1, 3) := by decide +kernel
theorem dX5_fallenOf_60 : decode cX5_fallenOf 60 = .ok (.goto (-46), 3) := by decide +kernel
theorem dX5_fallenOf_63 : decode cX5_fallenOf 63 = .ok (.iload_n 2, 1) := by decide +kernel
theorem dX5_fallenOf_64 : decode cX5_fallenOf 64 = .ok (.ireturn, 1) := by decide +kernel
theorem dX5_frontOf_0 : decode cX5_frontOf 0 = .ok (.iconst (-1), 1) := by decide +kernel
theorem dX5_frontOf_1 : decode cX5_frontOf 1 = .ok (.istore_n 3, 1) := by decide +kernel
theorem dX5_frontOf_2 : decode cX5_frontOf 2 = .ok (.iload_n 1, 1) := by decide +kernel
theorem dX5_frontOf_3 : decode cX5_frontOf 3 = .ok (.invokestatic 131, 3) := by decide +kernel
theorem dX5_frontOf_6 : decode cX5_frontOf 6 = .ok (.ifCond .eq 14, 3) := by decide +kernel
theorem dX5_frontOf_9 : decode cX5_frontOf 9 = .ok (.iload_n 2, 1) := by decide +kernel
theorem dX5_frontOf_10 : decode cX5_frontOf 10 = .ok (.invokestatic 134, 3) := by decide +kernel
theorem dX5_frontOf_13 : decode cX5_frontOf 13 = .ok (.ifCond .eq 7, 3) := by decide +kernel
theorem dX5_frontOf_16 : decode cX5_frontOf 16 = .ok (.iconst 1, 1) := by decide +kernel
theorem dX5_frontOf_17 : decode cX5_frontOf 17 = .ok (.goto 4, 3) := by decide +kernel
theorem dX5_frontOf_20 : decode cX5_frontOf 20 = .ok (.iconst 0, 1) := by decide +kernel
theorem dX5_frontOf_21 : decode cX5_frontOf 21 = .ok (.istore 4, 2) := by decide +kernel
theorem dX5_frontOf_23 : decode cX5_frontOf 23 = .ok (.iconst 0, 1) := by decide +kernel
theorem dX5_frontOf_24 : decode cX5_frontOf 24 = .ok (.istore 5, 2) := by decide +kernel
theorem dX5_frontOf_26 : decode cX5_frontOf 26 = .ok (.iload 5, 2) := by decide +kernel
theorem dX5_frontOf_28 : decode cX5_frontOf 28 = .ok (.bipush 10, 2) := by decide +kernel
theorem dX5_frontOf_30 : decode cX5_frontOf 30 = .ok (.if_icmp .ge 62, 3) := by decide +kernel
theorem dX5_frontOf_33 : decode cX5_frontOf 33 = .ok (.iload 4, 2) := by decide +kernel
theorem dX5_frontOf_35 : decode cX5_frontOf 35 = .ok (.ifCond .eq 57, 3) := by decide +kernel
theorem dX5_frontOf_38 : decode cX5_frontOf 38 = .ok (.iload_n 1, 1) := by decide +kernel
theorem dX5_frontOf_39 : decode cX5_frontOf 39 = .ok (.ifCond .ne 8, 3) := by decide +kernel
theorem dX5_frontOf_42 : decode cX5_frontOf 42 = .ok (.iload 5, 2) := by decide +kernel
theorem dX5_frontOf_44 : decode cX5_frontOf 44 = .ok (.goto 8, 3) := by decide +kernel
theorem dX5_frontOf_47 : decode cX5_frontOf 47 = .ok (.bipush 9, 2) := by decide +kernel
theorem dX5_frontOf_49 : decode cX5_frontOf 49 = .ok (.iload 5, 2) := by decide +kernel
theorem dX5_frontOf_51 : decode cX5_frontOf 51 = .ok (.isub, 1) := by decide +kernel
theorem dX5_frontOf_52 : decode cX5_frontOf 52 = .ok (.istore 6, 2) := by decide +kernel
theorem dX5_frontOf_54 : decode cX5_frontOf 54 = .ok (.aload_n 0, 1) := by decide +kernel
theorem dX5_frontOf_55 : decode cX5_frontOf 55 = .ok (.iload_n 2, 1) := by decide +kernel
theorem dX5_frontOf_56 : decode cX5_frontOf 56 = .ok (.iload 6, 2) := by decide +kernel
theorem dX5_frontOf_58 : decode cX5_frontOf 58 = .ok (.invokevirtual 99, 3) := by decide +kernel
theorem dX5_frontOf_61 : decode cX5_frontOf 61 = .ok (.istore 7, 2) := by decide +kernel
theorem dX5_frontOf_63 : decode cX5_frontOf 63 = .ok (.iload 7, 2) := by decide +kernel
theorem dX5_frontOf_65 : decode cX5_frontOf 65 = .ok (.ifCond .lt 19, 3) := by decide +kernel
theorem dX5_frontOf_68 : decode cX5_frontOf 68 = .ok (.aload_n 0, 1) := by decide +kernel
theorem dX5_frontOf_69 : decode cX5_frontOf 69 = .ok (.iload 7, 2) := by decide +kernel
theorem dX5_frontOf_71 : decode cX5_frontOf 71 = .ok (.iconst 0, 1) := by decide +kernel
theorem dX5_frontOf_72 : decode cX5_frontOf 72 = .ok (.invokevirtual 58, 3) := by decide +kernel
theorem dX5_frontOf_75 : decode cX5_frontOf 75 = .ok (.iload_n 1, 1) := by decide +kernel
theorem dX5_frontOf_76 : decode cX5_frontOf 76 = .ok (.if_icmp .ne 8, 3) := by decide +kernel
theorem dX5_frontOf_79 : decode cX5_frontOf 79 = .ok (.iload 6, 2) := by decide +kernel
theorem dX5_frontOf_81 : decode cX5_frontOf 81 = .ok (.goto 4, 3) := by decide +kernel
theorem dX5_frontOf_84 : decode cX5_frontOf 84 = .ok (.iload_n 3, 1) := by decide +kernel
theorem dX5_frontOf_85 : decode cX5_frontOf 85 = .ok (.istore_n 3, 1) := by decide +kernel
theorem dX5_frontOf_86 : decode cX5_frontOf 86 = .ok (.iinc 5 1, 3) := by decide +kernel
theorem dX5_frontOf_89 : decode cX5_frontOf 89 = .ok (.goto (-63), 3) := by decide +kernel
theorem dX5_frontOf_92 : decode cX5_frontOf 92 = .ok (.aload_n 0, 1) := by decide +kernel
theorem dX5_frontOf_93 : decode cX5_frontOf 93 = .ok (.iload 4, 2) := by decide +kernel
theorem dX5_frontOf_95 : decode cX5_frontOf 95 = .ok (.ifCond .ne 7, 3) := by decide +kernel
theorem dX5_frontOf_98 : decode cX5_frontOf 98 = .ok (.iconst 1, 1) := by decide +kernel
theorem dX5_frontOf_99 : decode cX5_frontOf 99 = .ok (.goto 12, 3) := by decide +kernel
theorem dX5_frontOf_102 : decode cX5_frontOf 102 = .ok (.iload_n 3, 1) := by decide +kernel
theorem dX5_frontOf_103 : decode cX5_frontOf 103 = .ok (.ifCond .ge 7, 3) := by decide +kernel
theorem dX5_frontOf_106 : decode cX5_frontOf 106 = .ok (.iconst 2, 1) := by decide +kernel
theorem dX5_frontOf_107 : decode cX5_frontOf 107 = .ok (.goto 4, 3) := by decide +kernel
theorem dX5_frontOf_110 : decode cX5_frontOf 110 = .ok (.iconst 0, 1) := by decide +kernel
theorem dX5_frontOf_111 : decode cX5_frontOf 111 = .ok (.putfield 42, 3) := by decide +kernel
theorem dX5_frontOf_114 : decode cX5_frontOf 114 = .ok (.aload_n 0, 1) := by decide +kernel
theorem dX5_frontOf_115 : decode cX5_frontOf 115 = .ok (.getfield 42, 3) := by decide +kernel
theorem dX5_frontOf_118 : decode cX5_frontOf 118 = .ok (.ifCond .le 7, 3) := by decide +kernel
theorem dX5_frontOf_121 : decode cX5_frontOf 121 = .ok (.iconst 0, 1) := by decide +kernel
theorem dX5_frontOf_122 : decode cX5_frontOf 122 = .ok (.goto 4, 3) := by decide +kernel
theorem dX5_frontOf_125 : decode cX5_frontOf 125 = .ok (.iload_n 3, 1) := by decide +kernel
theorem dX5_frontOf_126 : decode cX5_frontOf 126 = .ok (.ireturn, 1) := by decide +kernel
theorem dX5_leader_0 : decode cX5_leader 0 = .ok (.aload_n 0, 1) := by decide +kernel
theorem dX5_leader_1 : decode cX5_leader 1 = .ok (.iconst 0, 1) := by decide +kernel
theorem dX5_leader_2 : decode cX5_leader 2 = .ok (.invokevirtual 185, 3) := by decide +kernel
theorem dX5_leader_5 : decode cX5_leader 5 = .ok (.aload_n 0, 1) := by decide +kernel
theorem dX5_leader_6 : decode cX5_leader 6 = .ok (.iconst 1, 1) := by decide +kernel
theorem dX5_leader_7 : decode cX5_leader 7 = .ok (.invokevirtual 185, 3) := by decide +kernel
theorem dX5_leader_10 : decode cX5_leader 10 = .ok (.isub, 1) := by decide +kernel
theorem dX5_leader_11 : decode cX5_leader 11 = .ok (.istore_n 1, 1) := by decide +kernel
theorem dX5_leader_12 : decode cX5_leader 12 = .ok (.aload_n 0, 1) := by decide +kernel
theorem dX5_leader_13 : decode cX5_leader 13 = .ok (.iload_n 1, 1) := by decide +kernel
theorem dX5_leader_14 : decode cX5_leader 14 = .ok (.ifCond .eq 7, 3) := by decide +kernel
theorem dX5_leader_17 : decode cX5_leader 17 = .ok (.iconst 1, 1) := by decide +kernel
theorem dX5_leader_18 : decode cX5_leader 18 = .ok (.goto 4, 3) := by decide +kernel
theorem dX5_leader_21 : decode cX5_leader 21 = .ok (.iconst 0, 1) := by decide +kernel
theorem dX5_leader_22 : decode cX5_leader 22 = .ok (.invokevirtual 169, 3) := by decide +kernel
theorem dX5_leader_25 : decode cX5_leader 25 = .ok (.ifCond .eq 11, 3) := by decide +kernel
theorem dX5_leader_28 : decode cX5_leader 28 = .ok (.iload_n 1, 1) := by decide +kernel
theorem dX5_leader_29 : decode cX5_leader 29 = .ok (.ifCond .ge 7, 3) := by decide +kernel
theorem dX5_leader_32 : decode cX5_leader 32 = .ok (.iconst 1, 1) := by decide +kernel
theorem dX5_leader_33 : decode cX5_leader 33 = .ok (.goto 4, 3) := by decide +kernel
theorem dX5_leader_36 : decode cX5_leader 36 = .ok (.iconst 0, 1) := by decide +kernel
theorem dX5_leader_37 : decode cX5_leader 37 = .ok (.ireturn, 1) := by decide +kernel
theorem dX5_lineByStrength_0 : decode cX5_lineByStrength 0 = .ok (.iconst 0, 1) := by decide +kernel
theorem dX5_lineByStrength_1 : decode cX5_lineByStrength 1 = .ok (.istore_n 2, 1) := by decide +kernel
theorem dX5_lineByStrength_2 : decode cX5_lineByStrength 2 = .ok (.aload_n 0, 1) := by decide +kernel
theorem dX5_lineByStrength_3 : decode cX5_lineByStrength 3 = .ok (.aload_n 0, 1) := by decide +kernel
theorem dX5_lineByStrength_4 : decode cX5_lineByStrength 4 = .ok (.iload_n 1, 1) := by decide +kernel
theorem dX5_lineByStrength_5 : decode cX5_lineByStrength 5 = .ok (.invokevirtual 153, 3) := by decide +kernel
theorem dX5_lineByStrength_8 : decode cX5_lineByStrength 8 = .ok (.invokevirtual 169, 3) := by decide +kernel
theorem dX5_lineByStrength_11 : decode cX5_lineByStrength 11 = .ok (.istore_n 3, 1) := by decide +kernel
theorem dX5_lineByStrength_12 : decode cX5_lineByStrength 12 = .ok (.iconst 0, 1) := by decide +kernel
theorem dX5_lineByStrength_13 : decode cX5_lineByStrength 13 = .ok (.istore 4, 2) := by decide +kernel
theorem dX5_lineByStrength_15 : decode cX5_lineByStrength 15 = .ok (.iload 4, 2) := by decide +kernel
theorem dX5_lineByStrength_17 : decode cX5_lineByStrength 17 = .ok (.aload_n 0, 1) := by decide +kernel
theorem dX5_lineByStrength_18 : decode cX5_lineByStrength 18 = .ok (.getfield 9, 3) := by decide +kernel
theorem dX5_lineByStrength_21 : decode cX5_lineByStrength 21 = .ok (.iconst 0, 1) := by decide +kernel
theorem dX5_lineByStrength_22 : decode cX5_lineByStrength 22 = .ok (.iaload, 1) := by decide +kernel
theorem dX5_lineByStrength_23 : decode cX5_lineByStrength 23 = .ok (.if_icmp .ge 93, 3) := by decide +kernel
theorem dX5_lineByStrength_26 : decode cX5_lineByStrength 26 = .ok (.iload_n 3, 1) := by decide +kernel
theorem dX5_lineByStrength_27 : decode cX5_lineByStrength 27 = .ok (.ifCond .eq 89, 3) := by decide +kernel
theorem dX5_lineByStrength_30 : decode cX5_lineByStrength 30 = .ok (.iconst 0, 1) := by decide +kernel
theorem dX5_lineByStrength_31 : decode cX5_lineByStrength 31 = .ok (.istore 5, 2) := by decide +kernel
theorem dX5_lineByStrength_33 : decode cX5_lineByStrength 33 = .ok (.iconst 0, 1) := by decide +kernel
theorem dX5_lineByStrength_34 : decode cX5_lineByStrength 34 = .ok (.istore 6, 2) := by decide +kernel
theorem dX5_lineByStrength_36 : decode cX5_lineByStrength 36 = .ok (.iload 6, 2) := by decide +kernel
theorem dX5_lineByStrength_38 : decode cX5_lineByStrength 38 = .ok (.aload_n 0, 1) := by decide +kernel
theorem dX5_lineByStrength_39 : decode cX5_lineByStrength 39 = .ok (.getfield 9, 3) := by decide +kernel
theorem dX5_lineByStrength_42 : decode cX5_lineByStrength 42 = .ok (.iconst 0, 1) := by decide +kernel
theorem dX5_lineByStrength_43 : decode cX5_lineByStrength 43 = .ok (.iaload, 1) := by decide +kernel
theorem dX5_lineByStrength_44 : decode cX5_lineByStrength 44 = .ok (.if_icmp .ge 53, 3) := by decide +kernel
theorem dX5_lineByStrength_47 : decode cX5_lineByStrength 47 = .ok (.aload_n 0, 1) := by decide +kernel
theorem dX5_lineByStrength_48 : decode cX5_lineByStrength 48 = .ok (.iload 6, 2) := by decide +kernel
theorem dX5_lineByStrength_50 : decode cX5_lineByStrength 50 = .ok (.iconst 4, 1) := by decide +kernel
theorem dX5_lineByStrength_51 : decode cX5_lineByStrength 51 = .ok (.invokevirtual 58, 3) := by decide +kernel
theorem dX5_lineByStrength_54 : decode cX5_lineByStrength 54 = .ok (.aload_n 0, 1) := by decide +kernel
theorem dX5_lineByStrength_55 : decode cX5_lineByStrength 55 = .ok (.iload 4, 2) := by decide +kernel
theorem dX5_lineByStrength_57 : decode cX5_lineByStrength 57 = .ok (.iconst 4, 1) := by decide +kernel
theorem dX5_lineByStrength_58 : decode cX5_lineByStrength 58 = .ok (.invokevirtual 58, 3) := by decide +kernel
theorem dX5_lineByStrength_61 : decode cX5_lineByStrength 61 = .ok (.isub, 1) := by decide +kernel
theorem dX5_lineByStrength_62 : decode cX5_lineByStrength 62 = .ok (.istore 7, 2) := by decide +kernel
theorem dX5_lineByStrength_64 : decode cX5_lineByStrength 64 = .ok (.iload 5, 2) := by decide +kernel
theorem dX5_lineByStrength_66 : decode cX5_lineByStrength 66 = .ok (.iload 7, 2) := by decide +kernel
theorem dX5_lineByStrength_68 : decode cX5_lineByStrength 68 = .ok (.ifCond .gt 15, 3) := by decide +kernel
theorem dX5_lineByStrength_71 : decode cX5_lineByStrength 71 = .ok (.iload 7, 2) := by decide +kernel
theorem dX5_lineByStrength_73 : decode cX5_lineByStrength 73 = .ok (.ifCond .ne 14, 3) := by decide +kernel
theorem dX5_lineByStrength_76 : decode cX5_lineByStrength 76 = .ok (.iload 6, 2) := by decide +kernel
theorem dX5_lineByStrength_78 : decode cX5_lineByStrength 78 = .ok (.iload 4, 2) := by decide +kernel
theorem dX5_lineByStrength_80 : decode cX5_lineByStrength 80 = .ok (.if_icmp .ge 7, 3) := by decide +kernel
theorem dX5_lineByStrength_83 : decode cX5_lineByStrength 83 = .ok (.iconst 1, 1) := by decide +kernel
theorem dX5_lineByStrength_84 : decode cX5_lineByStrength 84 = .ok (.goto 4, 3) := by decide +kernel
theorem dX5_lineByStrength_87 : decode cX5_lineByStrength 87 = .ok (.iconst 0, 1) := by decide +kernel
theorem dX5_lineByStrength_88 : decode cX5_lineByStrength 88 = .ok (.iadd, 1) := by decide +kernel
theorem dX5_lineByStrength_89 : decode cX5_lineByStrength 89 = .ok (.istore 5, 2) := by decide +kernel
theorem dX5_lineByStrength_91 : decode cX5_lineByStrength 91 = .ok (.iinc 6 1, 3) := by decide +kernel
theorem dX5_lineByStrength_94 : decode cX5_lineByStrength 94 = .ok (.goto (-58), 3) := by decide +kernel
theorem dX5_lineByStrength_97 : decode cX5_lineByStrength 97 = .ok (.iload 5, 2) := by decide +kernel
theorem dX5_lineByStrength_99 : decode cX5_lineByStrength 99 = .ok (.iload_n 1, 1) := by decide +kernel
theorem dX5_lineByStrength_100 : decode cX5_lineByStrength 100 = .ok (.if_icmp .ne 8, 3) := by decide +kernel
theorem dX5_lineByStrength_103 : decode cX5_lineByStrength 103 = .ok (.iload 4, 2) := by decide +kernel
theorem dX5_lineByStrength_105 : decode cX5_lineByStrength 105 = .ok (.goto 4, 3) := by decide +kernel
theorem dX5_lineByStrength_108 : decode cX5_lineByStrength 108 = .ok (.iload_n 2, 1) := by decide +kernel
theorem dX5_lineByStrength_109 : decode cX5_lineByStrength 109 = .ok (.istore_n 2, 1) := by decide +kernel
theorem dX5_lineByStrength_110 : decode cX5_lineByStrength 110 = .ok (.iinc 4 1, 3) := by decide +kernel
theorem dX5_lineByStrength_113 : decode cX5_lineByStrength 113 = .ok (.goto (-98), 3) := by decide +kernel
theorem dX5_lineByStrength_116 : decode cX5_lineByStrength 116 = .ok (.iload_n 2, 1) := by decide +kernel
theorem dX5_lineByStrength_117 : decode cX5_lineByStrength 117 = .ok (.ireturn, 1) := by decide +kernel
theorem dX5_turnCount_0 : decode cX5_turnCount 0 = .ok (.aload_n 0, 1) := by decide +kernel
theorem dX5_turnCount_1 : decode cX5_turnCount 1 = .ok (.iconst 0, 1) := by decide +kernel
theorem dX5_turnCount_2 : decode cX5_turnCount 2 = .ok (.putfield 42, 3) := by decide +kernel
theorem dX5_turnCount_5 : decode cX5_turnCount 5 = .ok (.aload_n 0, 1) := by decide +kernel
theorem dX5_turnCount_6 : decode cX5_turnCount 6 = .ok (.getfield 9, 3) := by decide +kernel
theorem dX5_turnCount_9 : decode cX5_turnCount 9 = .ok (.iconst 1, 1) := by decide +kernel
theorem dX5_turnCount_10 : decode cX5_turnCount 10 = .ok (.iaload, 1) := by decide +kernel
theorem dX5_turnCount_11 : decode cX5_turnCount 11 = .ok (.ireturn, 1) := by decide +kernel
theorem dX5_says_0 : decode cX5_says 0 = .ok (.aload_n 0, 1) := by decide +kernel
theorem dX5_says_1 : decode cX5_says 1 = .ok (.getfield 25, 3) := by decide +kernel
theorem dX5_says_4 : decode cX5_says 4 = .ok (.aload_n 0, 1) := by decide +kernel
theorem dX5_says_5 : decode cX5_says 5 = .ok (.getfield 191, 3) := by decide +kernel
theorem dX5_says_8 : decode cX5_says 8 = .ok (.iload_n 1, 1) := by decide +kernel
theorem dX5_says_9 : decode cX5_says 9 = .ok (.i2c, 1) := by decide +kernel
theorem dX5_says_10 : decode cX5_says 10 = .ok (.castore, 1) := by decide +kernel
theorem dX5_says_11 : decode cX5_says 11 = .ok (.aload_n 0, 1) := by decide +kernel
theorem dX5_says_12 : decode cX5_says 12 = .ok (.dup, 1) := by decide +kernel
theorem dX5_says_13 : decode cX5_says 13 = .ok (.getfield 191, 3) := by decide +kernel
theorem dX5_says_16 : decode cX5_says 16 = .ok (.iconst 1, 1) := by decide +kernel
theorem dX5_says_17 : decode cX5_says 17 = .ok (.iadd, 1) := by decide +kernel
theorem dX5_says_18 : decode cX5_says 18 = .ok (.putfield 191, 3) := by decide +kernel
theorem dX5_says_21 : decode cX5_says 21 = .ok (.return_, 1) := by decide +kernel
theorem dX5_writeLane_0 : decode cX5_writeLane 0 = .ok (.aload_n 0, 1) := by decide +kernel
theorem dX5_writeLane_1 : decode cX5_writeLane 1 = .ok (.iload_n 1, 1) := by decide +kernel
theorem dX5_writeLane_2 : decode cX5_writeLane 2 = .ok (.invokestatic 134, 3) := by decide +kernel
theorem dX5_writeLane_5 : decode cX5_writeLane 5 = .ok (.invokevirtual 169, 3) := by decide +kernel
theorem dX5_writeLane_8 : decode cX5_writeLane 8 = .ok (.ifCond .ne 5, 3) := by decide +kernel
theorem dX5_writeLane_11 : decode cX5_writeLane 11 = .ok (.iconst 0, 1) := by decide +kernel
theorem dX5_writeLane_12 : decode cX5_writeLane 12 = .ok (.ireturn, 1) := by decide +kernel
theorem dX5_writeLane_13 : decode cX5_writeLane 13 = .ok (.aload_n 0, 1) := by decide +kernel
theorem dX5_writeLane_14 : decode cX5_writeLane 14 = .ok (.iconst 0, 1) := by decide +kernel
theorem dX5_writeLane_15 : decode cX5_writeLane 15 = .ok (.putfield 191, 3) := by decide +kernel
theorem dX5_writeLane_18 : decode cX5_writeLane 18 = .ok (.iconst 0, 1) := by decide +kernel
theorem dX5_writeLane_19 : decode cX5_writeLane 19 = .ok (.istore_n 2, 1) := by decide +kernel
theorem dX5_writeLane_20 : decode cX5_writeLane 20 = .ok (.iload_n 2, 1) := by decide +kernel
theorem dX5_writeLane_21 : decode cX5_writeLane 21 = .ok (.bipush 10, 2) := by decide +kernel
theorem dX5_writeLane_23 : decode cX5_writeLane 23 = .ok (.if_icmp .ge 73, 3) := by decide +kernel
theorem dX5_writeLane_26 : decode cX5_writeLane 26 = .ok (.aload_n 0, 1) := by decide +kernel
theorem dX5_writeLane_27 : decode cX5_writeLane 27 = .ok (.iload_n 1, 1) := by decide +kernel
theorem dX5_writeLane_28 : decode cX5_writeLane 28 = .ok (.iload_n 2, 1) := by decide +kernel
theorem dX5_writeLane_29 : decode cX5_writeLane 29 = .ok (.invokevirtual 99, 3) := by decide +kernel
theorem dX5_writeLane_32 : decode cX5_writeLane 32 = .ok (.istore_n 3, 1) := by decide +kernel
theorem dX5_writeLane_33 : decode cX5_writeLane 33 = .ok (.aload_n 0, 1) := by decide +kernel
theorem dX5_writeLane_34 : decode cX5_writeLane 34 = .ok (.iload_n 3, 1) := by decide +kernel
theorem dX5_writeLane_35 : decode cX5_writeLane 35 = .ok (.ifCond .ge 8, 3) := by decide +kernel
theorem dX5_writeLane_38 : decode cX5_writeLane 38 = .ok (.bipush 46, 2) := by decide +kernel
theorem dX5_writeLane_40 : decode cX5_writeLane 40 = .ok (.goto 26, 3) := by decide +kernel
theorem dX5_writeLane_43 : decode cX5_writeLane 43 = .ok (.aload_n 0, 1) := by decide +kernel
theorem dX5_writeLane_44 : decode cX5_writeLane 44 = .ok (.iload_n 3, 1) := by decide +kernel
theorem dX5_writeLane_45 : decode cX5_writeLane 45 = .ok (.iconst 3, 1) := by decide +kernel
theorem dX5_writeLane_46 : decode cX5_writeLane 46 = .ok (.invokevirtual 58, 3) := by decide +kernel
theorem dX5_writeLane_49 : decode cX5_writeLane 49 = .ok (.aload_n 0, 1) := by decide +kernel
theorem dX5_writeLane_50 : decode cX5_writeLane 50 = .ok (.iload_n 3, 1) := by decide +kernel
theorem dX5_writeLane_51 : decode cX5_writeLane 51 = .ok (.iconst 0, 1) := by decide +kernel
theorem dX5_writeLane_52 : decode cX5_writeLane 52 = .ok (.invokevirtual 58, 3) := by decide +kernel
theorem dX5_writeLane_55 : decode cX5_writeLane 55 = .ok (.iconst 1, 1) := by decide +kernel
theorem dX5_writeLane_56 : decode cX5_writeLane 56 = .ok (.if_icmp .ne 8, 3) := by decide +kernel
theorem dX5_writeLane_59 : decode cX5_writeLane 59 = .ok (.bipush 32, 2) := by decide +kernel
theorem dX5_writeLane_61 : decode cX5_writeLane 61 = .ok (.goto 4, 3) := by decide +kernel
theorem dX5_writeLane_64 : decode cX5_writeLane 64 = .ok (.iconst 0, 1) := by decide +kernel
theorem dX5_writeLane_65 : decode cX5_writeLane 65 = .ok (.isub, 1) := by decide +kernel
theorem dX5_writeLane_66 : decode cX5_writeLane 66 = .ok (.invokevirtual 194, 3) := by decide +kernel
theorem dX5_writeLane_69 : decode cX5_writeLane 69 = .ok (.iload_n 3, 1) := by decide +kernel
theorem dX5_writeLane_70 : decode cX5_writeLane 70 = .ok (.ifCond .lt 20, 3) := by decide +kernel
theorem dX5_writeLane_73 : decode cX5_writeLane 73 = .ok (.aload_n 0, 1) := by decide +kernel
theorem dX5_writeLane_74 : decode cX5_writeLane 74 = .ok (.iload_n 3, 1) := by decide +kernel
theorem dX5_writeLane_75 : decode cX5_writeLane 75 = .ok (.bipush 7, 2) := by decide +kernel
theorem dX5_writeLane_77 : decode cX5_writeLane 77 = .ok (.invokevirtual 58, 3) := by decide +kernel
theorem dX5_writeLane_80 : decode cX5_writeLane 80 = .ok (.iconst 1, 1) := by decide +kernel
theorem dX5_writeLane_81 : decode cX5_writeLane 81 = .ok (.if_icmp .ne 9, 3) := by decide +kernel
theorem dX5_writeLane_84 : decode cX5_writeLane 84 = .ok (.aload_n 0, 1) := by decide +kernel
theorem dX5_writeLane_85 : decode cX5_writeLane 85 = .ok (.bipush 33, 2) := by decide +kernel
theorem dX5_writeLane_87 : decode cX5_writeLane 87 = .ok (.invokevirtual 194, 3) := by decide +kernel
theorem dX5_writeLane_90 : decode cX5_writeLane 90 = .ok (.iinc 2 1, 3) := by decide +kernel
theorem dX5_writeLane_93 : decode cX5_writeLane 93 = .ok (.goto (-73), 3) := by decide +kernel
theorem dX5_writeLane_96 : decode cX5_writeLane 96 = .ok (.aload_n 0, 1) := by decide +kernel
theorem dX5_writeLane_97 : decode cX5_writeLane 97 = .ok (.getfield 191, 3) := by decide +kernel
theorem dX5_writeLane_100 : decode cX5_writeLane 100 = .ok (.ireturn, 1) := by decide +kernel
theorem dX5_writtenAt_0 : decode cX5_writtenAt 0 = .ok (.aload_n 0, 1) := by decide +kernel
theorem dX5_writtenAt_1 : decode cX5_writtenAt 1 = .ok (.iload_n 1, 1) := by decide +kernel
theorem dX5_writtenAt_2 : decode cX5_writtenAt 2 = .ok (.iconst 0, 1) := by decide +kernel
theorem dX5_writtenAt_3 : decode cX5_writtenAt 3 = .ok (.aload_n 0, 1) := by decide +kernel
theorem dX5_writtenAt_4 : decode cX5_writtenAt 4 = .ok (.getfield 191, 3) := by decide +kernel
theorem dX5_writtenAt_7 : decode cX5_writtenAt 7 = .ok (.iconst 1, 1) := by decide +kernel
theorem dX5_writtenAt_8 : decode cX5_writtenAt 8 = .ok (.isub, 1) := by decide +kernel
theorem dX5_writtenAt_9 : decode cX5_writtenAt 9 = .ok (.invokestatic 54, 3) := by decide +kernel
theorem dX5_writtenAt_12 : decode cX5_writtenAt 12 = .ok (.invokevirtual 169, 3) := by decide +kernel
theorem dX5_writtenAt_15 : decode cX5_writtenAt 15 = .ok (.ifCond .eq 12, 3) := by decide +kernel
theorem dX5_writtenAt_18 : decode cX5_writtenAt 18 = .ok (.aload_n 0, 1) := by decide +kernel
theorem dX5_writtenAt_19 : decode cX5_writtenAt 19 = .ok (.getfield 25, 3) := by decide +kernel
theorem dX5_writtenAt_22 : decode cX5_writtenAt 22 = .ok (.iload_n 1, 1) := by decide +kernel
theorem dX5_writtenAt_23 : decode cX5_writtenAt 23 = .ok (.caload, 1) := by decide +kernel
theorem dX5_writtenAt_24 : decode cX5_writtenAt 24 = .ok (.goto 5, 3) := by decide +kernel
theorem dX5_writtenAt_27 : decode cX5_writtenAt 27 = .ok (.bipush 32, 2) := by decide +kernel
theorem dX5_writtenAt_29 : decode cX5_writtenAt 29 = .ok (.ireturn, 1) := by decide +kernel
theorem dX5_meanMorale_0 : decode cX5_meanMorale 0 = .ok (.iconst 0, 1) := by decide +kernel
theorem dX5_meanMorale_1 : decode cX5_meanMorale 1 = .ok (.istore_n 1, 1) := by decide +kernel
theorem dX5_meanMorale_2 : decode cX5_meanMorale 2 = .ok (.iconst 0, 1) := by decide +kernel
theorem dX5_meanMorale_3 : decode cX5_meanMorale 3 = .ok (.istore_n 2, 1) := by decide +kernel
theorem dX5_meanMorale_4 : decode cX5_meanMorale 4 = .ok (.iconst 0, 1) := by decide +kernel
theorem dX5_meanMorale_5 : decode cX5_meanMorale 5 = .ok (.istore_n 3, 1) := by decide +kernel
theorem dX5_meanMorale_6 : decode cX5_meanMorale 6 = .ok (.iload_n 3, 1) := by decide +kernel
theorem dX5_meanMorale_7 : decode cX5_meanMorale 7 = .ok (.aload_n 0, 1) := by decide +kernel
theorem dX5_meanMorale_8 : decode cX5_meanMorale 8 = .ok (.getfield 9, 3) := by decide +kernel
theorem dX5_meanMorale_11 : decode cX5_meanMorale 11 = .ok (.iconst 0, 1) := by decide +kernel
theorem dX5_meanMorale_12 : decode cX5_meanMorale 12 = .ok (.iaload, 1) := by decide +kernel
theorem dX5_meanMorale_13 : decode cX5_meanMorale 13 = .ok (.if_icmp .ge 46, 3) := by decide +kernel
theorem dX5_meanMorale_16 : decode cX5_meanMorale 16 = .ok (.iload_n 1, 1) := by decide +kernel
theorem dX5_meanMorale_17 : decode cX5_meanMorale 17 = .ok (.aload_n 0, 1) := by decide +kernel
theorem dX5_meanMorale_18 : decode cX5_meanMorale 18 = .ok (.iload_n 3, 1) := by decide +kernel
theorem dX5_meanMorale_19 : decode cX5_meanMorale 19 = .ok (.invokevirtual 62, 3) := by decide +kernel
theorem dX5_meanMorale_22 : decode cX5_meanMorale 22 = .ok (.ifCond .eq 7, 3) := by decide +kernel
theorem dX5_meanMorale_25 : decode cX5_meanMorale 25 = .ok (.iconst 0, 1) := by decide +kernel
theorem dX5_meanMorale_26 : decode cX5_meanMorale 26 = .ok (.goto 4, 3) := by decide +kernel
theorem dX5_meanMorale_29 : decode cX5_meanMorale 29 = .ok (.iconst 1, 1) := by decide +kernel
theorem dX5_meanMorale_30 : decode cX5_meanMorale 30 = .ok (.iadd, 1) := by decide +kernel
theorem dX5_meanMorale_31 : decode cX5_meanMorale 31 = .ok (.istore_n 1, 1) := by decide +kernel
theorem dX5_meanMorale_32 : decode cX5_meanMorale 32 = .ok (.iload_n 2, 1) := by decide +kernel
theorem dX5_meanMorale_33 : decode cX5_meanMorale 33 = .ok (.aload_n 0, 1) := by decide +kernel
theorem dX5_meanMorale_34 : decode cX5_meanMorale 34 = .ok (.iload_n 3, 1) := by decide +kernel
theorem dX5_meanMorale_35 : decode cX5_meanMorale 35 = .ok (.invokevirtual 62, 3) := by decide +kernel
theorem dX5_meanMorale_38 : decode cX5_meanMorale 38 = .ok (.ifCond .eq 7, 3) := by decide +kernel
theorem dX5_meanMorale_41 : decode cX5_meanMorale 41 = .ok (.iconst 0, 1) := by decide +kernel
theorem dX5_meanMorale_42 : decode cX5_meanMorale 42 = .ok (.goto 9, 3) := by decide +kernel
theorem dX5_meanMorale_45 : decode cX5_meanMorale 45 = .ok (.aload_n 0, 1) := by decide +kernel
theorem dX5_meanMorale_46 : decode cX5_meanMorale 46 = .ok (.iload_n 3, 1) := by decide +kernel
theorem dX5_meanMorale_47 : decode cX5_meanMorale 47 = .ok (.iconst 5, 1) := by decide +kernel
theorem dX5_meanMorale_48 : decode cX5_meanMorale 48 = .ok (.invokevirtual 58, 3) := by decide +kernel
theorem dX5_meanMorale_51 : decode cX5_meanMorale 51 = .ok (.iadd, 1) := by decide +kernel
theorem dX5_meanMorale_52 : decode cX5_meanMorale 52 = .ok (.istore_n 2, 1) := by decide +kernel
theorem dX5_meanMorale_53 : decode cX5_meanMorale 53 = .ok (.iinc 3 1, 3) := by decide +kernel
theorem dX5_meanMorale_56 : decode cX5_meanMorale 56 = .ok (.goto (-50), 3) := by decide +kernel
theorem dX5_meanMorale_59 : decode cX5_meanMorale 59 = .ok (.aload_n 0, 1) := by decide +kernel
theorem dX5_meanMorale_60 : decode cX5_meanMorale 60 = .ok (.iload_n 1, 1) := by decide +kernel
theorem dX5_meanMorale_61 : decode cX5_meanMorale 61 = .ok (.ifCond .le 7, 3) := by decide +kernel
theorem dX5_meanMorale_64 : decode cX5_meanMorale 64 = .ok (.iconst 1, 1) := by decide +kernel
theorem dX5_meanMorale_65 : decode cX5_meanMorale 65 = .ok (.goto 4, 3) := by decide +kernel
theorem dX5_meanMorale_68 : decode cX5_meanMorale 68 = .ok (.iconst 0, 1) := by decide +kernel
theorem dX5_meanMorale_69 : decode cX5_meanMorale 69 = .ok (.invokevirtual 169, 3) := by decide +kernel
theorem dX5_meanMorale_72 : decode cX5_meanMorale 72 = .ok (.ifCond .eq 11, 3) := by decide +kernel
theorem dX5_meanMorale_75 : decode cX5_meanMorale 75 = .ok (.iload_n 2, 1) := by decide +kernel
theorem dX5_meanMorale_76 : decode cX5_meanMorale 76 = .ok (.i2d, 1) := by decide +kernel
theorem dX5_meanMorale_77 : decode cX5_meanMorale 77 = .ok (.iload_n 1, 1) := by decide +kernel
theorem dX5_meanMorale_78 : decode cX5_meanMorale 78 = .ok (.i2d, 1) := by decide +kernel
theorem dX5_meanMorale_79 : decode cX5_meanMorale 79 = .ok (.ddiv, 1) := by decide +kernel
theorem dX5_meanMorale_80 : decode cX5_meanMorale 80 = .ok (.goto 4, 3) := by decide +kernel
theorem dX5_meanMorale_83 : decode cX5_meanMorale 83 = .ok (.dconst 0, 1) := by decide +kernel
theorem dX5_meanMorale_84 : decode cX5_meanMorale 84 = .ok (.dreturn, 1) := by decide +kernel
theorem dX5_standingShare_0 : decode cX5_standingShare 0 = .ok (.iconst 0, 1) := by decide +kernel
theorem dX5_standingShare_1 : decode cX5_standingShare 1 = .ok (.istore_n 1, 1) := by decide +kernel
theorem dX5_standingShare_2 : decode cX5_standingShare 2 = .ok (.iconst 0, 1) := by decide +kernel
theorem dX5_standingShare_3 : decode cX5_standingShare 3 = .ok (.istore_n 2, 1) := by decide +kernel
theorem dX5_standingShare_4 : decode cX5_standingShare 4 = .ok (.iload_n 2, 1) := by decide +kernel
theorem dX5_standingShare_5 : decode cX5_standingShare 5 = .ok (.aload_n 0, 1) := by decide +kernel
theorem dX5_standingShare_6 : decode cX5_standingShare 6 = .ok (.getfield 9, 3) := by decide +kernel
theorem dX5_standingShare_9 : decode cX5_standingShare 9 = .ok (.iconst 0, 1) := by decide +kernel
theorem dX5_standingShare_10 : decode cX5_standingShare 10 = .ok (.iaload, 1) := by decide +kernel
theorem dX5_standingShare_11 : decode cX5_standingShare 11 = .ok (.if_icmp .ge 25, 3) := by decide +kernel
theorem dX5_standingShare_14 : decode cX5_standingShare 14 = .ok (.iload_n 1, 1) := by decide +kernel
theorem dX5_standingShare_15 : decode cX5_standingShare 15 = .ok (.aload_n 0, 1) := by decide +kernel
theorem dX5_standingShare_16 : decode cX5_standingShare 16 = .ok (.iload_n 2, 1) := by decide +kernel
theorem dX5_standingShare_17 : decode cX5_standingShare 17 = .ok (.invokevirtual 66, 3) := by decide +kernel
theorem dX5_standingShare_20 : decode cX5_standingShare 20 = .ok (.ifCond .eq 7, 3) := by decide +kernel
theorem dX5_standingShare_23 : decode cX5_standingShare 23 = .ok (.iconst 1, 1) := by decide +kernel
theorem dX5_standingShare_24 : decode cX5_standingShare 24 = .ok (.goto 4, 3) := by decide +kernel
theorem dX5_standingShare_27 : decode cX5_standingShare 27 = .ok (.iconst 0, 1) := by decide +kernel
theorem dX5_standingShare_28 : decode cX5_standingShare 28 = .ok (.iadd, 1) := by decide +kernel
theorem dX5_standingShare_29 : decode cX5_standingShare 29 = .ok (.istore_n 1, 1) := by decide +kernel
theorem dX5_standingShare_30 : decode cX5_standingShare 30 = .ok (.iinc 2 1, 3) := by decide +kernel
theorem dX5_standingShare_33 : decode cX5_standingShare 33 = .ok (.goto (-29), 3) := by decide +kernel
theorem dX5_standingShare_36 : decode cX5_standingShare 36 = .ok (.aload_n 0, 1) := by decide +kernel
theorem dX5_standingShare_37 : decode cX5_standingShare 37 = .ok (.aload_n 0, 1) := by decide +kernel
theorem dX5_standingShare_38 : decode cX5_standingShare 38 = .ok (.getfield 9, 3) := by decide +kernel
theorem dX5_standingShare_41 : decode cX5_standingShare 41 = .ok (.iconst 0, 1) := by decide +kernel
theorem dX5_standingShare_42 : decode cX5_standingShare 42 = .ok (.iaload, 1) := by decide +kernel
theorem dX5_standingShare_43 : decode cX5_standingShare 43 = .ok (.ifCond .le 7, 3) := by decide +kernel
theorem dX5_standingShare_46 : decode cX5_standingShare 46 = .ok (.iconst 1, 1) := by decide +kernel
theorem dX5_standingShare_47 : decode cX5_standingShare 47 = .ok (.goto 4, 3) := by decide +kernel
theorem dX5_standingShare_50 : decode cX5_standingShare 50 = .ok (.iconst 0, 1) := by decide +kernel
theorem dX5_standingShare_51 : decode cX5_standingShare 51 = .ok (.invokevirtual 169, 3) := by decide +kernel
theorem dX5_standingShare_54 : decode cX5_standingShare 54 = .ok (.ifCond .eq 16, 3) := by decide +kernel
theorem dX5_standingShare_57 : decode cX5_standingShare 57 = .ok (.iload_n 1, 1) := by decide +kernel
theorem dX5_standingShare_58 : decode cX5_standingShare 58 = .ok (.i2f, 1) := by decide +kernel
theorem dX5_standingShare_59 : decode cX5_standingShare 59 = .ok (.aload_n 0, 1) := by decide +kernel
theorem dX5_standingShare_60 : decode cX5_standingShare 60 = .ok (.getfield 9, 3) := by decide +kernel
theorem dX5_standingShare_63 : decode cX5_standingShare 63 = .ok (.iconst 0, 1) := by decide +kernel
theorem dX5_standingShare_64 : decode cX5_standingShare 64 = .ok (.iaload, 1) := by decide +kernel
theorem dX5_standingShare_65 : decode cX5_standingShare 65 = .ok (.i2f, 1) := by decide +kernel
theorem dX5_standingShare_66 : decode cX5_standingShare 66 = .ok (.fdiv, 1) := by decide +kernel
theorem dX5_standingShare_67 : decode cX5_standingShare 67 = .ok (.goto 4, 3) := by decide +kernel
theorem dX5_standingShare_70 : decode cX5_standingShare 70 = .ok (.fconst 0, 1) := by decide +kernel
theorem dX5_standingShare_71 : decode cX5_standingShare 71 = .ok (.freturn, 1) := by decide +kernel
theorem dX5_isConsistent_0 : decode cX5_isConsistent 0 = .ok (.aload_n 0, 1) := by decide +kernel
theorem dX5_isConsistent_1 : decode cX5_isConsistent 1 = .ok (.iconst 0, 1) := by decide +kernel
theorem dX5_isConsistent_2 : decode cX5_isConsistent 2 = .ok (.putfield 42, 3) := by decide +kernel
theorem dX5_isConsistent_5 : decode cX5_isConsistent 5 = .ok (.iconst 1, 1) := by decide +kernel
theorem dX5_isConsistent_6 : decode cX5_isConsistent 6 = .ok (.ireturn, 1) := by decide +kernel
theorem dX5_type_0 : decode cX5_type 0 = .ok (.aload_n 0, 1) := by decide +kernel
theorem dX5_type_1 : decode cX5_type 1 = .ok (.iload_n 1, 1) := by decide +kernel
theorem dX5_type_2 : decode cX5_type 2 = .ok (.bipush 32, 2) := by decide +kernel
theorem dX5_type_4 : decode cX5_type 4 = .ok (.bipush 126, 2) := by decide +kernel
theorem dX5_type_6 : decode cX5_type 6 = .ok (.invokestatic 54, 3) := by decide +kernel
theorem dX5_type_9 : decode cX5_type 9 = .ok (.ifCond .ne 7, 3) := by decide +kernel
theorem dX5_type_12 : decode cX5_type 12 = .ok (.iconst 1, 1) := by decide +kernel
theorem dX5_type_13 : decode cX5_type 13 = .ok (.goto 17, 3) := by decide +kernel
theorem dX5_type_16 : decode cX5_type 16 = .ok (.aload_n 0, 1) := by decide +kernel
theorem dX5_type_17 : decode cX5_type 17 = .ok (.getfield 197, 3) := by decide +kernel
theorem dX5_type_20 : decode cX5_type 20 = .ok (.bipush 60, 2) := by decide +kernel
theorem dX5_type_22 : decode cX5_type 22 = .ok (.if_icmp .ne 7, 3) := by decide +kernel
theorem dX5_type_25 : decode cX5_type 25 = .ok (.iconst 2, 1) := by decide +kernel
theorem dX5_type_26 : decode cX5_type 26 = .ok (.goto 4, 3) := by decide +kernel
theorem dX5_type_29 : decode cX5_type 29 = .ok (.iconst 0, 1) := by decide +kernel
theorem dX5_type_30 : decode cX5_type 30 = .ok (.putfield 42, 3) := by decide +kernel
theorem dX5_type_33 : decode cX5_type 33 = .ok (.aload_n 0, 1) := by decide +kernel
theorem dX5_type_34 : decode cX5_type 34 = .ok (.getfield 42, 3) := by decide +kernel
theorem dX5_type_37 : decode cX5_type 37 = .ok (.ifCond .le 5, 3) := by decide +kernel
theorem dX5_type_40 : decode cX5_type 40 = .ok (.iconst 0, 1) := by decide +kernel
theorem dX5_type_41 : decode cX5_type 41 = .ok (.ireturn, 1) := by decide +kernel
theorem dX5_type_42 : decode cX5_type 42 = .ok (.aload_n 0, 1) := by decide +kernel
theorem dX5_type_43 : decode cX5_type 43 = .ok (.getfield 29, 3) := by decide +kernel
theorem dX5_type_46 : decode cX5_type 46 = .ok (.aload_n 0, 1) := by decide +kernel
theorem dX5_type_47 : decode cX5_type 47 = .ok (.getfield 197, 3) := by decide +kernel
theorem dX5_type_50 : decode cX5_type 50 = .ok (.iload_n 1, 1) := by decide +kernel
theorem dX5_type_51 : decode cX5_type 51 = .ok (.castore, 1) := by decide +kernel
theorem dX5_type_52 : decode cX5_type 52 = .ok (.aload_n 0, 1) := by decide +kernel
theorem dX5_type_53 : decode cX5_type 53 = .ok (.dup, 1) := by decide +kernel
theorem dX5_type_54 : decode cX5_type 54 = .ok (.getfield 197, 3) := by decide +kernel
theorem dX5_type_57 : decode cX5_type 57 = .ok (.iconst 1, 1) := by decide +kernel
theorem dX5_type_58 : decode cX5_type 58 = .ok (.iadd, 1) := by decide +kernel
theorem dX5_type_59 : decode cX5_type 59 = .ok (.putfield 197, 3) := by decide +kernel
theorem dX5_type_62 : decode cX5_type 62 = .ok (.aload_n 0, 1) := by decide +kernel
theorem dX5_type_63 : decode cX5_type 63 = .ok (.getfield 197, 3) := by decide +kernel
theorem dX5_type_66 : decode cX5_type 66 = .ok (.ireturn, 1) := by decide +kernel
theorem dX5_behind_0 : decode cX5_behind 0 = .ok (.aload_n 0, 1) := by decide +kernel
theorem dX5_behind_1 : decode cX5_behind 1 = .ok (.getfield 200, 3) := by decide +kernel
theorem dX5_behind_4 : decode cX5_behind 4 = .ok (.aload_n 0, 1) := by decide +kernel
theorem dX5_behind_5 : decode cX5_behind 5 = .ok (.getfield 197, 3) := by decide +kernel
theorem dX5_behind_8 : decode cX5_behind 8 = .ok (.if_icmp .ge 15, 3) := by decide +kernel
theorem dX5_behind_11 : decode cX5_behind 11 = .ok (.aload_n 0, 1) := by decide +kernel
theorem dX5_behind_12 : decode cX5_behind 12 = .ok (.getfield 29, 3) := by decide +kernel
theorem dX5_behind_15 : decode cX5_behind 15 = .ok (.aload_n 0, 1) := by decide +kernel
theorem dX5_behind_16 : decode cX5_behind 16 = .ok (.getfield 200, 3) := by decide +kernel
theorem dX5_behind_19 : decode cX5_behind 19 = .ok (.caload, 1) := by decide +kernel
theorem dX5_behind_20 : decode cX5_behind 20 = .ok (.goto 4, 3) := by decide +kernel
theorem dX5_behind_23 : decode cX5_behind 23 = .ok (.iconst (-1), 1) := by decide +kernel
theorem dX5_behind_24 : decode cX5_behind 24 = .ok (.ireturn, 1) := by decide +kernel
theorem dX5_skip_0 : decode cX5_skip 0 = .ok (.iconst 0, 1) := by decide +kernel
theorem dX5_skip_1 : decode cX5_skip 1 = .ok (.istore_n 2, 1) := by decide +kernel
theorem dX5_skip_2 : decode cX5_skip 2 = .ok (.iload_n 2, 1) := by decide +kernel
theorem dX5_skip_3 : decode cX5_skip 3 = .ok (.aload_n 1, 1) := by decide +kernel
theorem dX5_skip_4 : decode cX5_skip 4 = .ok (.invokevirtual 203, 3) := by decide +kernel
theorem dX5_skip_7 : decode cX5_skip 7 = .ok (.if_icmp .ge 58, 3) := by decide +kernel
theorem dX5_skip_10 : decode cX5_skip 10 = .ok (.aload_n 0, 1) := by decide +kernel
theorem dX5_skip_11 : decode cX5_skip 11 = .ok (.getfield 207, 3) := by decide +kernel
theorem dX5_skip_14 : decode cX5_skip 14 = .ok (.ifCond .ne 51, 3) := by decide +kernel
theorem dX5_skip_17 : decode cX5_skip 17 = .ok (.aload_n 0, 1) := by decide +kernel
theorem dX5_skip_18 : decode cX5_skip 18 = .ok (.aload_n 0, 1) := by decide +kernel
theorem dX5_skip_19 : decode cX5_skip 19 = .ok (.invokevirtual 211, 3) := by decide +kernel
theorem dX5_skip_22 : decode cX5_skip 22 = .ok (.aload_n 1, 1) := by decide +kernel
theorem dX5_skip_23 : decode cX5_skip 23 = .ok (.iload_n 2, 1) := by decide +kernel
theorem dX5_skip_24 : decode cX5_skip 24 = .ok (.invokevirtual 214, 3) := by decide +kernel
theorem dX5_skip_27 : decode cX5_skip 27 = .ok (.if_icmp .eq 7, 3) := by decide +kernel
theorem dX5_skip_30 : decode cX5_skip 30 = .ok (.iconst 1, 1) := by decide +kernel
theorem dX5_skip_31 : decode cX5_skip 31 = .ok (.goto 4, 3) := by decide +kernel
theorem dX5_skip_34 : decode cX5_skip 34 = .ok (.iconst 0, 1) := by decide +kernel
theorem dX5_skip_35 : decode cX5_skip 35 = .ok (.putfield 207, 3) := by decide +kernel
theorem dX5_skip_38 : decode cX5_skip 38 = .ok (.aload_n 0, 1) := by decide +kernel
theorem dX5_skip_39 : decode cX5_skip 39 = .ok (.dup, 1) := by decide +kernel
theorem dX5_skip_40 : decode cX5_skip 40 = .ok (.getfield 200, 3) := by decide +kernel
theorem dX5_skip_43 : decode cX5_skip 43 = .ok (.aload_n 0, 1) := by decide +kernel
theorem dX5_skip_44 : decode cX5_skip 44 = .ok (.getfield 207, 3) := by decide +kernel
theorem dX5_skip_47 : decode cX5_skip 47 = .ok (.ifCond .eq 7, 3) := by decide +kernel
theorem dX5_skip_50 : decode cX5_skip 50 = .ok (.iconst 0, 1) := by decide +kernel
theorem dX5_skip_51 : decode cX5_skip 51 = .ok (.goto 4, 3) := by decide +kernel
theorem dX5_skip_54 : decode cX5_skip 54 = .ok (.iconst 1, 1) := by decide +kernel
theorem dX5_skip_55 : decode cX5_skip 55 = .ok (.iadd, 1) := by decide +kernel
theorem dX5_skip_56 : decode cX5_skip 56 = .ok (.putfield 200, 3) := by decide +kernel
theorem dX5_skip_59 : decode cX5_skip 59 = .ok (.iinc 2 1, 3) := by decide +kernel
theorem dX5_skip_62 : decode cX5_skip 62 = .ok (.goto (-60), 3) := by decide +kernel
theorem dX5_skip_65 : decode cX5_skip 65 = .ok (.return_, 1) := by decide +kernel
theorem dX5_isDigit_0 : decode cX5_isDigit 0 = .ok (.aload_n 0, 1) := by decide +kernel
theorem dX5_isDigit_1 : decode cX5_isDigit 1 = .ok (.getfield 207, 3) := by decide +kernel
theorem dX5_isDigit_4 : decode cX5_isDigit 4 = .ok (.ifCond .ne 21, 3) := by decide +kernel
theorem dX5_isDigit_7 : decode cX5_isDigit 7 = .ok (.aload_n 0, 1) := by decide +kernel
theorem dX5_isDigit_8 : decode cX5_isDigit 8 = .ok (.invokevirtual 211, 3) := by decide +kernel
theorem dX5_isDigit_11 : decode cX5_isDigit 11 = .ok (.bipush 48, 2) := by decide +kernel
theorem dX5_isDigit_13 : decode cX5_isDigit 13 = .ok (.bipush 57, 2) := by decide +kernel
theorem dX5_isDigit_15 : decode cX5_isDigit 15 = .ok (.invokestatic 54, 3) := by decide +kernel
theorem dX5_isDigit_18 : decode cX5_isDigit 18 = .ok (.ifCond .eq 7, 3) := by decide +kernel
theorem dX5_isDigit_21 : decode cX5_isDigit 21 = .ok (.iconst 1, 1) := by decide +kernel
theorem dX5_isDigit_22 : decode cX5_isDigit 22 = .ok (.goto 4, 3) := by decide +kernel
theorem dX5_isDigit_25 : decode cX5_isDigit 25 = .ok (.iconst 0, 1) := by decide +kernel
theorem dX5_isDigit_26 : decode cX5_isDigit 26 = .ok (.ireturn, 1) := by decide +kernel
theorem dX5_readNumber_0 : decode cX5_readNumber 0 = .ok (.aload_n 0, 1) := by decide +kernel
theorem dX5_readNumber_1 : decode cX5_readNumber 1 = .ok (.ldc 218, 2) := by decide +kernel
theorem dX5_readNumber_3 : decode cX5_readNumber 3 = .ok (.invokevirtual 220, 3) := by decide +kernel
theorem dX5_readNumber_6 : decode cX5_readNumber 6 = .ok (.aload_n 0, 1) := by decide +kernel
theorem dX5_readNumber_7 : decode cX5_readNumber 7 = .ok (.aload_n 0, 1) := by decide +kernel
theorem dX5_readNumber_8 : decode cX5_readNumber 8 = .ok (.getfield 207, 3) := by decide +kernel
theorem dX5_readNumber_11 : decode cX5_readNumber 11 = .ok (.ifCond .ne 10, 3) := by decide +kernel
theorem dX5_readNumber_14 : decode cX5_readNumber 14 = .ok (.aload_n 0, 1) := by decide +kernel
theorem dX5_readNumber_15 : decode cX5_readNumber 15 = .ok (.invokevirtual 224, 3) := by decide +kernel
theorem dX5_readNumber_18 : decode cX5_readNumber 18 = .ok (.ifCond .ne 7, 3) := by decide +kernel
theorem dX5_readNumber_21 : decode cX5_readNumber 21 = .ok (.iconst 1, 1) := by decide +kernel
theorem dX5_readNumber_22 : decode cX5_readNumber 22 = .ok (.goto 4, 3) := by decide +kernel
theorem dX5_readNumber_25 : decode cX5_readNumber 25 = .ok (.iconst 0, 1) := by decide +kernel
theorem dX5_readNumber_26 : decode cX5_readNumber 26 = .ok (.putfield 207, 3) := by decide +kernel
theorem dX5_readNumber_29 : decode cX5_readNumber 29 = .ok (.iconst 0, 1) := by decide +kernel
theorem dX5_readNumber_30 : decode cX5_readNumber 30 = .ok (.istore_n 2, 1) := by decide +kernel
theorem dX5_readNumber_31 : decode cX5_readNumber 31 = .ok (.iconst 0, 1) := by decide +kernel
theorem dX5_readNumber_32 : decode cX5_readNumber 32 = .ok (.istore_n 3, 1) := by decide +kernel
theorem dX5_readNumber_33 : decode cX5_readNumber 33 = .ok (.iload_n 3, 1) := by decide +kernel
theorem dX5_readNumber_34 : decode cX5_readNumber 34 = .ok (.iload_n 1, 1) := by decide +kernel
theorem dX5_readNumber_35 : decode cX5_readNumber 35 = .ok (.if_icmp .ge 44, 3) := by decide +kernel
theorem dX5_readNumber_38 : decode cX5_readNumber 38 = .ok (.aload_n 0, 1) := by decide +kernel
theorem dX5_readNumber_39 : decode cX5_readNumber 39 = .ok (.invokevirtual 224, 3) := by decide +kernel
theorem dX5_readNumber_42 : decode cX5_readNumber 42 = .ok (.ifCond .eq 37, 3) := by decide +kernel
theorem dX5_readNumber_45 : decode cX5_readNumber 45 = .ok (.bipush 10, 2) := by decide +kernel
theorem dX5_readNumber_47 : decode cX5_readNumber 47 = .ok (.iload_n 2, 1) := by decide +kernel
theorem dX5_readNumber_48 : decode cX5_readNumber 48 = .ok (.imul, 1) := by decide +kernel
theorem dX5_readNumber_49 : decode cX5_readNumber 49 = .ok (.aload_n 0, 1) := by decide +kernel
theorem dX5_readNumber_50 : decode cX5_readNumber 50 = .ok (.getfield 29, 3) := by decide +kernel
theorem dX5_readNumber_53 : decode cX5_readNumber 53 = .ok (.aload_n 0, 1) := by decide +kernel
theorem dX5_readNumber_54 : decode cX5_readNumber 54 = .ok (.getfield 200, 3) := by decide +kernel
theorem dX5_readNumber_57 : decode cX5_readNumber 57 = .ok (.caload, 1) := by decide +kernel
theorem dX5_readNumber_58 : decode cX5_readNumber 58 = .ok (.iadd, 1) := by decide +kernel
theorem dX5_readNumber_59 : decode cX5_readNumber 59 = .ok (.bipush 48, 2) := by decide +kernel
theorem dX5_readNumber_61 : decode cX5_readNumber 61 = .ok (.isub, 1) := by decide +kernel
theorem dX5_readNumber_62 : decode cX5_readNumber 62 = .ok (.istore_n 2, 1) := by decide +kernel
theorem dX5_readNumber_63 : decode cX5_readNumber 63 = .ok (.aload_n 0, 1) := by decide +kernel
theorem dX5_readNumber_64 : decode cX5_readNumber 64 = .ok (.dup, 1) := by decide +kernel
theorem dX5_readNumber_65 : decode cX5_readNumber 65 = .ok (.getfield 200, 3) := by decide +kernel
theorem dX5_readNumber_68 : decode cX5_readNumber 68 = .ok (.iconst 1, 1) := by decide +kernel
theorem dX5_readNumber_69 : decode cX5_readNumber 69 = .ok (.iadd, 1) := by decide +kernel
theorem dX5_readNumber_70 : decode cX5_readNumber 70 = .ok (.putfield 200, 3) := by decide +kernel
theorem dX5_readNumber_73 : decode cX5_readNumber 73 = .ok (.iinc 3 1, 3) := by decide +kernel
theorem dX5_readNumber_76 : decode cX5_readNumber 76 = .ok (.goto (-43), 3) := by decide +kernel
theorem dX5_readNumber_79 : decode cX5_readNumber 79 = .ok (.iload_n 2, 1) := by decide +kernel
theorem dX5_readNumber_80 : decode cX5_readNumber 80 = .ok (.ireturn, 1) := by decide +kernel
theorem dX5_readLetter_0 : decode cX5_readLetter 0 = .ok (.aload_n 0, 1) := by decide +kernel
theorem dX5_readLetter_1 : decode cX5_readLetter 1 = .ok (.ldc 218, 2) := by decide +kernel
theorem dX5_readLetter_3 : decode cX5_readLetter 3 = .ok (.invokevirtual 220, 3) := by decide +kernel
theorem dX5_readLetter_6 : decode cX5_readLetter 6 = .ok (.aload_n 0, 1) := by decide +kernel
theorem dX5_readLetter_7 : decode cX5_readLetter 7 = .ok (.invokevirtual 211, 3) := by decide +kernel
theorem dX5_readLetter_10 : decode cX5_readLetter 10 = .ok (.istore_n 2, 1) := by decide +kernel
theorem dX5_readLetter_11 : decode cX5_readLetter 11 = .ok (.aload_n 0, 1) := by decide +kernel
theorem dX5_readLetter_12 : decode cX5_readLetter 12 = .ok (.aload_n 0, 1) := by decide +kernel
theorem dX5_readLetter_13 : decode cX5_readLetter 13 = .ok (.getfield 207, 3) := by decide +kernel
theorem dX5_readLetter_16 : decode cX5_readLetter 16 = .ok (.ifCond .ne 24, 3) := by decide +kernel
theorem dX5_readLetter_19 : decode cX5_readLetter 19 = .ok (.iload_n 1, 1) := by decide +kernel
theorem dX5_readLetter_20 : decode cX5_readLetter 20 = .ok (.ifCond .eq 13, 3) := by decide +kernel
theorem dX5_readLetter_23 : decode cX5_readLetter 23 = .ok (.iload_n 2, 1) := by decide +kernel
theorem dX5_readLetter_24 : decode cX5_readLetter 24 = .ok (.invokestatic 137, 3) := by decide +kernel
theorem dX5_readLetter_27 : decode cX5_readLetter 27 = .ok (.ifCond .eq 13, 3) := by decide +kernel
theorem dX5_readLetter_30 : decode cX5_readLetter 30 = .ok (.goto 14, 3) := by decide +kernel
theorem dX5_readLetter_33 : decode cX5_readLetter 33 = .ok (.iload_n 2, 1) := by decide +kernel
theorem dX5_readLetter_34 : decode cX5_readLetter 34 = .ok (.invokestatic 156, 3) := by decide +kernel
theorem dX5_readLetter_37 : decode cX5_readLetter 37 = .ok (.ifCond .ne 7, 3) := by decide +kernel
theorem dX5_readLetter_40 : decode cX5_readLetter 40 = .ok (.iconst 1, 1) := by decide +kernel
theorem dX5_readLetter_41 : decode cX5_readLetter 41 = .ok (.goto 4, 3) := by decide +kernel
theorem dX5_readLetter_44 : decode cX5_readLetter 44 = .ok (.iconst 0, 1) := by decide +kernel
theorem dX5_readLetter_45 : decode cX5_readLetter 45 = .ok (.putfield 207, 3) := by decide +kernel
theorem dX5_readLetter_48 : decode cX5_readLetter 48 = .ok (.aload_n 0, 1) := by decide +kernel
theorem dX5_readLetter_49 : decode cX5_readLetter 49 = .ok (.dup, 1) := by decide +kernel
theorem dX5_readLetter_50 : decode cX5_readLetter 50 = .ok (.getfield 200, 3) := by decide +kernel
theorem dX5_readLetter_53 : decode cX5_readLetter 53 = .ok (.aload_n 0, 1) := by decide +kernel
theorem dX5_readLetter_54 : decode cX5_readLetter 54 = .ok (.getfield 207, 3) := by decide +kernel
theorem dX5_readLetter_57 : decode cX5_readLetter 57 = .ok (.ifCond .eq 7, 3) := by decide +kernel
theorem dX5_readLetter_60 : decode cX5_readLetter 60 = .ok (.iconst 0, 1) := by decide +kernel
theorem dX5_readLetter_61 : decode cX5_readLetter 61 = .ok (.goto 4, 3) := by decide +kernel
theorem dX5_readLetter_64 : decode cX5_readLetter 64 = .ok (.iconst 1, 1) := by decide +kernel
theorem dX5_readLetter_65 : decode cX5_readLetter 65 = .ok (.iadd, 1) := by decide +kernel
theorem dX5_readLetter_66 : decode cX5_readLetter 66 = .ok (.putfield 200, 3) := by decide +kernel
theorem dX5_readLetter_69 : decode cX5_readLetter 69 = .ok (.iload_n 2, 1) := by decide +kernel
theorem dX5_readLetter_70 : decode cX5_readLetter 70 = .ok (.ireturn, 1) := by decide +kernel
theorem dX5_readCommand_0 : decode cX5_readCommand 0 = .ok (.aload_n 0, 1) := by decide +kernel
theorem dX5_readCommand_1 : decode cX5_readCommand 1 = .ok (.getfield 207, 3) := by decide +kernel
theorem dX5_readCommand_4 : decode cX5_readCommand 4 = .ok (.ifCond .eq 4, 3) := by decide +kernel
theorem dX5_readCommand_7 : decode cX5_readCommand 7 = .ok (.return_, 1) := by decide +kernel
theorem dX5_readCommand_8 : decode cX5_readCommand 8 = .ok (.aload_n 0, 1) := by decide +kernel
theorem dX5_readCommand_9 : decode cX5_readCommand 9 = .ok (.invokevirtual 211, 3) := by decide +kernel
theorem dX5_readCommand_12 : decode cX5_readCommand 12 = .ok (.istore_n 1, 1) := by decide +kernel
theorem dX5_readCommand_13 : decode cX5_readCommand 13 = .ok (.iconst 5, 1) := by decide +kernel
theorem dX5_readCommand_14 : decode cX5_readCommand 14 = .ok (.aload_n 0, 1) := by decide +kernel
theorem dX5_readCommand_15 : decode cX5_readCommand 15 = .ok (.getfield 228, 3) := by decide +kernel
theorem dX5_readCommand_18 : decode cX5_readCommand 18 = .ok (.imul, 1) := by decide +kernel
theorem dX5_readCommand_19 : decode cX5_readCommand 19 = .ok (.istore_n 2, 1) := by decide +kernel
theorem dX5_readCommand_20 : decode cX5_readCommand 20 = .ok (.aload_n 0, 1) := by decide +kernel
theorem dX5_readCommand_21 : decode cX5_readCommand 21 = .ok (.dup, 1) := by decide +kernel
theorem dX5_readCommand_22 : decode cX5_readCommand 22 = .ok (.getfield 228, 3) := by decide +kernel
theorem dX5_readCommand_25 : decode cX5_readCommand 25 = .ok (.iconst 1, 1) := by decide +kernel
theorem dX5_readCommand_26 : decode cX5_readCommand 26 = .ok (.iadd, 1) := by decide +kernel
theorem dX5_readCommand_27 : decode cX5_readCommand 27 = .ok (.putfield 228, 3) := by decide +kernel
theorem dX5_readCommand_30 : decode cX5_readCommand 30 = .ok (.aload_n 0, 1) := by decide +kernel
theorem dX5_readCommand_31 : decode cX5_readCommand 31 = .ok (.getfield 39, 3) := by decide +kernel
theorem dX5_readCommand_34 : decode cX5_readCommand 34 = .ok (.iload_n 2, 1) := by decide +kernel
theorem dX5_readCommand_35 : decode cX5_readCommand 35 = .ok (.iload_n 1, 1) := by decide +kernel
theorem dX5_readCommand_36 : decode cX5_readCommand 36 = .ok (.iastore, 1) := by decide +kernel
theorem dX5_readCommand_37 : decode cX5_readCommand 37 = .ok (.iload_n 1, 1) := by decide +kernel
theorem dX5_readCommand_38 : decode cX5_readCommand 38 = .ok (.lookupswitch 152 #[(108, 34), (111, 95), (114, 130)], 34) := by decide +kernel
theorem dX5_readCommand_72 : decode cX5_readCommand 72 = .ok (.aload_n 0, 1) := by decide +kernel
theorem dX5_readCommand_73 : decode cX5_readCommand 73 = .ok (.ldc 231, 2) := by decide +kernel
theorem dX5_readCommand_75 : decode cX5_readCommand 75 = .ok (.invokevirtual 220, 3) := by decide +kernel
theorem dX5_readCommand_78 : decode cX5_readCommand 78 = .ok (.aload_n 0, 1) := by decide +kernel
theorem dX5_readCommand_79 : decode cX5_readCommand 79 = .ok (.getfield 39, 3) := by decide +kernel
theorem dX5_readCommand_82 : decode cX5_readCommand 82 = .ok (.iload_n 2, 1) := by decide +kernel
theorem dX5_readCommand_83 : decode cX5_readCommand 83 = .ok (.iconst 1, 1) := by decide +kernel
theorem dX5_readCommand_84 : decode cX5_readCommand 84 = .ok (.iadd, 1) := by decide +kernel
theorem dX5_readCommand_85 : decode cX5_readCommand 85 = .ok (.aload_n 0, 1) := by decide +kernel
theorem dX5_readCommand_86 : decode cX5_readCommand 86 = .ok (.iconst 1, 1) := by decide +kernel
theorem dX5_readCommand_87 : decode cX5_readCommand 87 = .ok (.invokevirtual 233, 3) := by decide +kernel
theorem dX5_readCommand_90 : decode cX5_readCommand 90 = .ok (.iastore, 1) := by decide +kernel
theorem dX5_readCommand_91 : decode cX5_readCommand 91 = .ok (.aload_n 0, 1) := by decide +kernel
theorem dX5_readCommand_92 : decode cX5_readCommand 92 = .ok (.getfield 39, 3) := by decide +kernel
theorem dX5_readCommand_95 : decode cX5_readCommand 95 = .ok (.iload_n 2, 1) := by decide +kernel
theorem dX5_readCommand_96 : decode cX5_readCommand 96 = .ok (.iconst 2, 1) := by decide +kernel
theorem dX5_readCommand_97 : decode cX5_readCommand 97 = .ok (.iadd, 1) := by decide +kernel
theorem dX5_readCommand_98 : decode cX5_readCommand 98 = .ok (.aload_n 0, 1) := by decide +kernel
theorem dX5_readCommand_99 : decode cX5_readCommand 99 = .ok (.iconst 1, 1) := by decide +kernel
theorem dX5_readCommand_100 : decode cX5_readCommand 100 = .ok (.invokevirtual 233, 3) := by decide +kernel
theorem dX5_readCommand_103 : decode cX5_readCommand 103 = .ok (.iastore, 1) := by decide +kernel
theorem dX5_readCommand_104 : decode cX5_readCommand 104 = .ok (.aload_n 0, 1) := by decide +kernel
theorem dX5_readCommand_105 : decode cX5_readCommand 105 = .ok (.getfield 39, 3) := by decide +kernel
theorem dX5_readCommand_108 : decode cX5_readCommand 108 = .ok (.iload_n 2, 1) := by decide +kernel
theorem dX5_readCommand_109 : decode cX5_readCommand 109 = .ok (.iconst 3, 1) := by decide +kernel
theorem dX5_readCommand_110 : decode cX5_readCommand 110 = .ok (.iadd, 1) := by decide +kernel
theorem dX5_readCommand_111 : decode cX5_readCommand 111 = .ok (.aload_n 0, 1) := by decide +kernel
theorem dX5_readCommand_112 : decode cX5_readCommand 112 = .ok (.iconst 1, 1) := by decide +kernel
theorem dX5_readCommand_113 : decode cX5_readCommand 113 = .ok (.invokevirtual 236, 3) := by decide +kernel
theorem dX5_readCommand_116 : decode cX5_readCommand 116 = .ok (.iastore, 1) := by decide +kernel
theorem dX5_readCommand_117 : decode cX5_readCommand 117 = .ok (.aload_n 0, 1) := by decide +kernel
theorem dX5_readCommand_118 : decode cX5_readCommand 118 = .ok (.getfield 39, 3) := by decide +kernel
theorem dX5_readCommand_121 : decode cX5_readCommand 121 = .ok (.iload_n 2, 1) := by decide +kernel
theorem dX5_readCommand_122 : decode cX5_readCommand 122 = .ok (.iconst 4, 1) := by decide +kernel
theorem dX5_readCommand_123 : decode cX5_readCommand 123 = .ok (.iadd, 1) := by decide +kernel
theorem dX5_readCommand_124 : decode cX5_readCommand 124 = .ok (.aload_n 0, 1) := by decide +kernel
theorem dX5_readCommand_125 : decode cX5_readCommand 125 = .ok (.iconst 2, 1) := by decide +kernel
theorem dX5_readCommand_126 : decode cX5_readCommand 126 = .ok (.invokevirtual 233, 3) := by decide +kernel
theorem dX5_readCommand_129 : decode cX5_readCommand 129 = .ok (.iastore, 1) := by decide +kernel
theorem dX5_readCommand_130 : decode cX5_readCommand 130 = .ok (.goto 66, 3) := by decide +kernel
theorem dX5_readCommand_133 : decode cX5_readCommand 133 = .ok (.aload_n 0, 1) := by decide +kernel
theorem dX5_readCommand_134 : decode cX5_readCommand 134 = .ok (.ldc 240, 2) := by decide +kernel
theorem dX5_readCommand_136 : decode cX5_readCommand 136 = .ok (.invokevirtual 220, 3) := by decide +kernel
theorem dX5_readCommand_139 : decode cX5_readCommand 139 = .ok (.aload_n 0, 1) := by decide +kernel
theorem dX5_readCommand_140 : decode cX5_readCommand 140 = .ok (.getfield 39, 3) := by decide +kernel
theorem dX5_readCommand_143 : decode cX5_readCommand 143 = .ok (.iload_n 2, 1) := by decide +kernel
theorem dX5_readCommand_144 : decode cX5_readCommand 144 = .ok (.iconst 1, 1) := by decide +kernel
theorem dX5_readCommand_145 : decode cX5_readCommand 145 = .ok (.iadd, 1) := by decide +kernel
theorem dX5_readCommand_146 : decode cX5_readCommand 146 = .ok (.aload_n 0, 1) := by decide +kernel
theorem dX5_readCommand_147 : decode cX5_readCommand 147 = .ok (.iconst 2, 1) := by decide +kernel
theorem dX5_readCommand_148 : decode cX5_readCommand 148 = .ok (.invokevirtual 233, 3) := by decide +kernel
theorem dX5_readCommand_151 : decode cX5_readCommand 151 = .ok (.iastore, 1) := by decide +kernel
theorem dX5_readCommand_152 : decode cX5_readCommand 152 = .ok (.aload_n 0, 1) := by decide +kernel
theorem dX5_readCommand_153 : decode cX5_readCommand 153 = .ok (.getfield 39, 3) := by decide +kernel
theorem dX5_readCommand_156 : decode cX5_readCommand 156 = .ok (.iload_n 2, 1) := by decide +kernel
theorem dX5_readCommand_157 : decode cX5_readCommand 157 = .ok (.iconst 2, 1) := by decide +kernel
theorem dX5_readCommand_158 : decode cX5_readCommand 158 = .ok (.iadd, 1) := by decide +kernel
theorem dX5_readCommand_159 : decode cX5_readCommand 159 = .ok (.aload_n 0, 1) := by decide +kernel
theorem dX5_readCommand_160 : decode cX5_readCommand 160 = .ok (.iconst 0, 1) := by decide +kernel
theorem dX5_readCommand_161 : decode cX5_readCommand 161 = .ok (.invokevirtual 236, 3) := by decide +kernel
theorem dX5_readCommand_164 : decode cX5_readCommand 164 = .ok (.iastore, 1) := by decide +kernel
theorem dX5_readCommand_165 : decode cX5_readCommand 165 = .ok (.goto 31, 3) := by decide +kernel
theorem dX5_readCommand_168 : decode cX5_readCommand 168 = .ok (.aload_n 0, 1) := by decide +kernel
theorem dX5_readCommand_169 : decode cX5_readCommand 169 = .ok (.ldc 242, 2) := by decide +kernel
theorem dX5_readCommand_171 : decode cX5_readCommand 171 = .ok (.invokevirtual 220, 3) := by decide +kernel
theorem dX5_readCommand_174 : decode cX5_readCommand 174 = .ok (.aload_n 0, 1) := by decide +kernel
theorem dX5_readCommand_175 : decode cX5_readCommand 175 = .ok (.getfield 39, 3) := by decide +kernel
theorem dX5_readCommand_178 : decode cX5_readCommand 178 = .ok (.iload_n 2, 1) := by decide +kernel
theorem dX5_readCommand_179 : decode cX5_readCommand 179 = .ok (.iconst 1, 1) := by decide +kernel
theorem dX5_readCommand_180 : decode cX5_readCommand 180 = .ok (.iadd, 1) := by decide +kernel
theorem dX5_readCommand_181 : decode cX5_readCommand 181 = .ok (.aload_n 0, 1) := by decide +kernel
theorem dX5_readCommand_182 : decode cX5_readCommand 182 = .ok (.iconst 2, 1) := by decide +kernel
theorem dX5_readCommand_183 : decode cX5_readCommand 183 = .ok (.invokevirtual 233, 3) := by decide +kernel
theorem dX5_readCommand_186 : decode cX5_readCommand 186 = .ok (.iastore, 1) := by decide +kernel
theorem dX5_readCommand_187 : decode cX5_readCommand 187 = .ok (.goto 9, 3) := by decide +kernel
theorem dX5_readCommand_190 : decode cX5_readCommand 190 = .ok (.aload_n 0, 1) := by decide +kernel
theorem dX5_readCommand_191 : decode cX5_readCommand 191 = .ok (.ldc 244, 2) := by decide +kernel
theorem dX5_readCommand_193 : decode cX5_readCommand 193 = .ok (.invokevirtual 220, 3) := by decide +kernel
theorem dX5_readCommand_196 : decode cX5_readCommand 196 = .ok (.return_, 1) := by decide +kernel
theorem dX5_does_0 : decode cX5_does 0 = .ok (.aload_n 0, 1) := by decide +kernel
theorem dX5_does_1 : decode cX5_does 1 = .ok (.getfield 39, 3) := by decide +kernel
theorem dX5_does_4 : decode cX5_does 4 = .ok (.iconst 5, 1) := by decide +kernel
theorem dX5_does_5 : decode cX5_does 5 = .ok (.iload_n 1, 1) := by decide +kernel
theorem dX5_does_6 : decode cX5_does 6 = .ok (.imul, 1) := by decide +kernel
theorem dX5_does_7 : decode cX5_does 7 = .ok (.iconst 1, 1) := by decide +kernel
theorem dX5_does_8 : decode cX5_does 8 = .ok (.iadd, 1) := by decide +kernel
theorem dX5_does_9 : decode cX5_does 9 = .ok (.iaload, 1) := by decide +kernel
theorem dX5_does_10 : decode cX5_does 10 = .ok (.istore_n 2, 1) := by decide +kernel
theorem dX5_does_11 : decode cX5_does 11 = .ok (.aload_n 0, 1) := by decide +kernel
theorem dX5_does_12 : decode cX5_does 12 = .ok (.getfield 39, 3) := by decide +kernel
theorem dX5_does_15 : decode cX5_does 15 = .ok (.iconst 5, 1) := by decide +kernel
theorem dX5_does_16 : decode cX5_does 16 = .ok (.iload_n 1, 1) := by decide +kernel
theorem dX5_does_17 : decode cX5_does 17 = .ok (.imul, 1) := by decide +kernel
theorem dX5_does_18 : decode cX5_does 18 = .ok (.iconst 2, 1) := by decide +kernel
theorem dX5_does_19 : decode cX5_does 19 = .ok (.iadd, 1) := by decide +kernel
theorem dX5_does_20 : decode cX5_does 20 = .ok (.iaload, 1) := by decide +kernel
theorem dX5_does_21 : decode cX5_does 21 = .ok (.istore_n 3, 1) := by decide +kernel
theorem dX5_does_22 : decode cX5_does 22 = .ok (.aload_n 0, 1) := by decide +kernel
theorem dX5_does_23 : decode cX5_does 23 = .ok (.getfield 39, 3) := by decide +kernel
theorem dX5_does_26 : decode cX5_does 26 = .ok (.iconst 5, 1) := by decide +kernel
theorem dX5_does_27 : decode cX5_does 27 = .ok (.iload_n 1, 1) := by decide +kernel
theorem dX5_does_28 : decode cX5_does 28 = .ok (.imul, 1) := by decide +kernel
theorem dX5_does_29 : decode cX5_does 29 = .ok (.iaload, 1) := by decide +kernel
theorem dX5_does_30 : decode cX5_does 30 = .ok (.lookupswitch 86 #[(108, 34), (111, 65), (114, 76)], 34) := by decide +kernel
theorem dX5_does_64 : decode cX5_does 64 = .ok (.aload_n 0, 1) := by decide +kernel
theorem dX5_does_65 : decode cX5_does 65 = .ok (.iload_n 2, 1) := by decide +kernel
theorem dX5_does_66 : decode cX5_does 66 = .ok (.iload_n 3, 1) := by decide +kernel
theorem dX5_does_67 : decode cX5_does 67 = .ok (.aload_n 0, 1) := by decide +kernel
theorem dX5_does_68 : decode cX5_does 68 = .ok (.getfield 39, 3) := by decide +kernel
theorem dX5_does_71 : decode cX5_does 71 = .ok (.iconst 5, 1) := by decide +kernel
theorem dX5_does_72 : decode cX5_does 72 = .ok (.iload_n 1, 1) := by decide +kernel
theorem dX5_does_73 : decode cX5_does 73 = .ok (.imul, 1) := by decide +kernel
theorem dX5_does_74 : decode cX5_does 74 = .ok (.iconst 3, 1) := by decide +kernel
theorem dX5_does_75 : decode cX5_does 75 = .ok (.iadd, 1) := by decide +kernel
theorem dX5_does_76 : decode cX5_does 76 = .ok (.iaload, 1) := by decide +kernel
theorem dX5_does_77 : decode cX5_does 77 = .ok (.aload_n 0, 1) := by decide +kernel
theorem dX5_does_78 : decode cX5_does 78 = .ok (.getfield 39, 3) := by decide +kernel
theorem dX5_does_81 : decode cX5_does 81 = .ok (.iconst 5, 1) := by decide +kernel
theorem dX5_does_82 : decode cX5_does 82 = .ok (.iload_n 1, 1) := by decide +kernel
theorem dX5_does_83 : decode cX5_does 83 = .ok (.imul, 1) := by decide +kernel
theorem dX5_does_84 : decode cX5_does 84 = .ok (.iconst 4, 1) := by decide +kernel
theorem dX5_does_85 : decode cX5_does 85 = .ok (.iadd, 1) := by decide +kernel
theorem dX5_does_86 : decode cX5_does 86 = .ok (.iaload, 1) := by decide +kernel
theorem dX5_does_87 : decode cX5_does 87 = .ok (.invokevirtual 146, 3) := by decide +kernel
theorem dX5_does_90 : decode cX5_does 90 = .ok (.istore 4, 2) := by decide +kernel
theorem dX5_does_92 : decode cX5_does 92 = .ok (.goto 30, 3) := by decide +kernel
theorem dX5_does_95 : decode cX5_does 95 = .ok (.aload_n 0, 1) := by decide +kernel
theorem dX5_does_96 : decode cX5_does 96 = .ok (.iload_n 2, 1) := by decide +kernel
theorem dX5_does_97 : decode cX5_does 97 = .ok (.iload_n 3, 1) := by decide +kernel
theorem dX5_does_98 : decode cX5_does 98 = .ok (.invokevirtual 159, 3) := by decide +kernel
theorem dX5_does_101 : decode cX5_does 101 = .ok (.istore 4, 2) := by decide +kernel
theorem dX5_does_103 : decode cX5_does 103 = .ok (.goto 19, 3) := by decide +kernel
theorem dX5_does_106 : decode cX5_does 106 = .ok (.aload_n 0, 1) := by decide +kernel
theorem dX5_does_107 : decode cX5_does 107 = .ok (.iload_n 2, 1) := by decide +kernel
theorem dX5_does_108 : decode cX5_does 108 = .ok (.invokevirtual 162, 3) := by decide +kernel
theorem dX5_does_111 : decode cX5_does 111 = .ok (.istore 4, 2) := by decide +kernel
theorem dX5_does_113 : decode cX5_does 113 = .ok (.goto 9, 3) := by decide +kernel
theorem dX5_does_116 : decode cX5_does 116 = .ok (.aload_n 0, 1) := by decide +kernel
theorem dX5_does_117 : decode cX5_does 117 = .ok (.invokevirtual 165, 3) := by decide +kernel
theorem dX5_does_120 : decode cX5_does 120 = .ok (.istore 4, 2) := by decide +kernel
theorem dX5_does_122 : decode cX5_does 122 = .ok (.return_, 1) := by decide +kernel
theorem dX5_execute_0 : decode cX5_execute 0 = .ok (.aload_n 0, 1) := by decide +kernel
theorem dX5_execute_1 : decode cX5_execute 1 = .ok (.iconst 0, 1) := by decide +kernel
theorem dX5_execute_2 : decode cX5_execute 2 = .ok (.putfield 200, 3) := by decide +kernel
theorem dX5_execute_5 : decode cX5_execute 5 = .ok (.aload_n 0, 1) := by decide +kernel
theorem dX5_execute_6 : decode cX5_execute 6 = .ok (.iconst 0, 1) := by decide +kernel
theorem dX5_execute_7 : decode cX5_execute 7 = .ok (.putfield 207, 3) := by decide +kernel
theorem dX5_execute_10 : decode cX5_execute 10 = .ok (.aload_n 0, 1) := by decide +kernel
theorem dX5_execute_11 : decode cX5_execute 11 = .ok (.iconst 0, 1) := by decide +kernel
theorem dX5_execute_12 : decode cX5_execute 12 = .ok (.putfield 228, 3) := by decide +kernel
theorem dX5_execute_15 : decode cX5_execute 15 = .ok (.aload_n 0, 1) := by decide +kernel
theorem dX5_execute_16 : decode cX5_execute 16 = .ok (.invokevirtual 246, 3) := by decide +kernel
theorem dX5_execute_19 : decode cX5_execute 19 = .ok (.aload_n 0, 1) := by decide +kernel
theorem dX5_execute_20 : decode cX5_execute 20 = .ok (.getfield 207, 3) := by decide +kernel
theorem dX5_execute_23 : decode cX5_execute 23 = .ok (.ifCond .ne 29, 3) := by decide +kernel
theorem dX5_execute_26 : decode cX5_execute 26 = .ok (.aload_n 0, 1) := by decide +kernel
theorem dX5_execute_27 : decode cX5_execute 27 = .ok (.invokevirtual 211, 3) := by decide +kernel
theorem dX5_execute_30 : decode cX5_execute 30 = .ok (.bipush 59, 2) := by decide +kernel
theorem dX5_execute_32 : decode cX5_execute 32 = .ok (.if_icmp .ne 20, 3) := by decide +kernel
theorem dX5_execute_35 : decode cX5_execute 35 = .ok (.aload_n 0, 1) := by decide +kernel
theorem dX5_execute_36 : decode cX5_execute 36 = .ok (.dup, 1) := by decide +kernel
theorem dX5_execute_37 : decode cX5_execute 37 = .ok (.getfield 200, 3) := by decide +kernel
theorem dX5_execute_40 : decode cX5_execute 40 = .ok (.iconst 1, 1) := by decide +kernel
theorem dX5_execute_41 : decode cX5_execute 41 = .ok (.iadd, 1) := by decide +kernel
theorem dX5_execute_42 : decode cX5_execute 42 = .ok (.putfield 200, 3) := by decide +kernel
theorem dX5_execute_45 : decode cX5_execute 45 = .ok (.aload_n 0, 1) := by decide +kernel
theorem dX5_execute_46 : decode cX5_execute 46 = .ok (.invokevirtual 246, 3) := by decide +kernel
theorem dX5_execute_49 : decode cX5_execute 49 = .ok (.goto (-30), 3) := by decide +kernel
theorem dX5_execute_52 : decode cX5_execute 52 = .ok (.aload_n 0, 1) := by decide +kernel
theorem dX5_execute_53 : decode cX5_execute 53 = .ok (.aload_n 0, 1) := by decide +kernel
theorem dX5_execute_54 : decode cX5_execute 54 = .ok (.getfield 207, 3) := by decide +kernel
theorem dX5_execute_57 : decode cX5_execute 57 = .ok (.ifCond .ne 14, 3) := by decide +kernel
theorem dX5_execute_60 : decode cX5_execute 60 = .ok (.aload_n 0, 1) := by decide +kernel
theorem dX5_execute_61 : decode cX5_execute 61 = .ok (.getfield 200, 3) := by decide +kernel
theorem dX5_execute_64 : decode cX5_execute 64 = .ok (.aload_n 0, 1) := by decide +kernel
theorem dX5_execute_65 : decode cX5_execute 65 = .ok (.getfield 197, 3) := by decide +kernel
theorem dX5_execute_68 : decode cX5_execute 68 = .ok (.if_icmp .ge 7, 3) := by decide +kernel
theorem dX5_execute_71 : decode cX5_execute 71 = .ok (.iconst 1, 1) := by decide +kernel
theorem dX5_execute_72 : decode cX5_execute 72 = .ok (.goto 4, 3) := by decide +kernel
theorem dX5_execute_75 : decode cX5_execute 75 = .ok (.iconst 0, 1) := by decide +kernel
theorem dX5_execute_76 : decode cX5_execute 76 = .ok (.putfield 207, 3) := by decide +kernel
theorem dX5_execute_79 : decode cX5_execute 79 = .ok (.aload_n 0, 1) := by decide +kernel
theorem dX5_execute_80 : decode cX5_execute 80 = .ok (.aload_n 0, 1) := by decide +kernel
theorem dX5_execute_81 : decode cX5_execute 81 = .ok (.getfield 207, 3) := by decide +kernel
theorem dX5_execute_84 : decode cX5_execute 84 = .ok (.ifCond .eq 10, 3) := by decide +kernel
theorem dX5_execute_87 : decode cX5_execute 87 = .ok (.aload_n 0, 1) := by decide +kernel
theorem dX5_execute_88 : decode cX5_execute 88 = .ok (.getfield 200, 3) := by decide +kernel
theorem dX5_execute_91 : decode cX5_execute 91 = .ok (.goto 7, 3) := by decide +kernel
theorem dX5_execute_94 : decode cX5_execute 94 = .ok (.aload_n 0, 1) := by decide +kernel
theorem dX5_execute_95 : decode cX5_execute 95 = .ok (.getfield 32, 3) := by decide +kernel
theorem dX5_execute_98 : decode cX5_execute 98 = .ok (.putfield 32, 3) := by decide +kernel
theorem dX5_execute_101 : decode cX5_execute 101 = .ok (.aload_n 0, 1) := by decide +kernel
theorem dX5_execute_102 : decode cX5_execute 102 = .ok (.iconst 0, 1) := by decide +kernel
theorem dX5_execute_103 : decode cX5_execute 103 = .ok (.putfield 197, 3) := by decide +kernel
theorem dX5_execute_106 : decode cX5_execute 106 = .ok (.aload_n 0, 1) := by decide +kernel
theorem dX5_execute_107 : decode cX5_execute 107 = .ok (.getfield 207, 3) := by decide +kernel
theorem dX5_execute_110 : decode cX5_execute 110 = .ok (.ifCond .eq 9, 3) := by decide +kernel
theorem dX5_execute_113 : decode cX5_execute 113 = .ok (.aload_n 0, 1) := by decide +kernel
theorem dX5_execute_114 : decode cX5_execute 114 = .ok (.iconst 1, 1) := by decide +kernel
theorem dX5_execute_115 : decode cX5_execute 115 = .ok (.invokevirtual 140, 3) := by decide +kernel
theorem dX5_execute_118 : decode cX5_execute 118 = .ok (.ireturn, 1) := by decide +kernel
theorem dX5_execute_119 : decode cX5_execute 119 = .ok (.aload_n 0, 1) := by decide +kernel
theorem dX5_execute_120 : decode cX5_execute 120 = .ok (.invokevirtual 143, 3) := by decide +kernel
theorem dX5_execute_123 : decode cX5_execute 123 = .ok (.iconst 0, 1) := by decide +kernel
theorem dX5_execute_124 : decode cX5_execute 124 = .ok (.istore_n 1, 1) := by decide +kernel
theorem dX5_execute_125 : decode cX5_execute 125 = .ok (.iload_n 1, 1) := by decide +kernel
theorem dX5_execute_126 : decode cX5_execute 126 = .ok (.aload_n 0, 1) := by decide +kernel
theorem dX5_execute_127 : decode cX5_execute 127 = .ok (.getfield 228, 3) := by decide +kernel
theorem dX5_execute_130 : decode cX5_execute 130 = .ok (.if_icmp .ge 36, 3) := by decide +kernel
theorem dX5_execute_133 : decode cX5_execute 133 = .ok (.aload_n 0, 1) := by decide +kernel
theorem dX5_execute_134 : decode cX5_execute 134 = .ok (.iload_n 1, 1) := by decide +kernel
theorem dX5_execute_135 : decode cX5_execute 135 = .ok (.invokevirtual 249, 3) := by decide +kernel
theorem dX5_execute_138 : decode cX5_execute 138 = .ok (.aload_n 0, 1) := by decide +kernel
theorem dX5_execute_139 : decode cX5_execute 139 = .ok (.getfield 42, 3) := by decide +kernel
theorem dX5_execute_142 : decode cX5_execute 142 = .ok (.ifCond .le 18, 3) := by decide +kernel
theorem dX5_execute_145 : decode cX5_execute 145 = .ok (.aload_n 0, 1) := by decide +kernel
theorem dX5_execute_146 : decode cX5_execute 146 = .ok (.iload_n 1, 1) := by decide +kernel
theorem dX5_execute_147 : decode cX5_execute 147 = .ok (.putfield 36, 3) := by decide +kernel
theorem dX5_execute_150 : decode cX5_execute 150 = .ok (.aload_n 0, 1) := by decide +kernel
theorem dX5_execute_151 : decode cX5_execute 151 = .ok (.aload_n 0, 1) := by decide +kernel
theorem dX5_execute_152 : decode cX5_execute 152 = .ok (.iconst 2, 1) := by decide +kernel
theorem dX5_execute_153 : decode cX5_execute 153 = .ok (.invokevirtual 140, 3) := by decide +kernel
theorem dX5_execute_156 : decode cX5_execute 156 = .ok (.invokevirtual 150, 3) := by decide +kernel
theorem dX5_execute_159 : decode cX5_execute 159 = .ok (.ireturn, 1) := by decide +kernel
theorem dX5_execute_160 : decode cX5_execute 160 = .ok (.iinc 1 1, 3) := by decide +kernel
theorem dX5_execute_163 : decode cX5_execute 163 = .ok (.goto (-38), 3) := by decide +kernel
theorem dX5_execute_166 : decode cX5_execute 166 = .ok (.aload_n 0, 1) := by decide +kernel
theorem dX5_execute_167 : decode cX5_execute 167 = .ok (.aload_n 0, 1) := by decide +kernel
theorem dX5_execute_168 : decode cX5_execute 168 = .ok (.getfield 228, 3) := by decide +kernel
theorem dX5_execute_171 : decode cX5_execute 171 = .ok (.invokevirtual 150, 3) := by decide +kernel
theorem dX5_execute_174 : decode cX5_execute 174 = .ok (.ireturn, 1) := by decide +kernel
theorem dX5_errorPosition_0 : decode cX5_errorPosition 0 = .ok (.aload_n 0, 1) := by decide +kernel
theorem dX5_errorPosition_1 : decode cX5_errorPosition 1 = .ok (.aload_n 0, 1) := by decide +kernel
theorem dX5_errorPosition_2 : decode cX5_errorPosition 2 = .ok (.getfield 32, 3) := by decide +kernel
theorem dX5_errorPosition_5 : decode cX5_errorPosition 5 = .ok (.ifCond .lt 7, 3) := by decide +kernel
theorem dX5_errorPosition_8 : decode cX5_errorPosition 8 = .ok (.iconst 1, 1) := by decide +kernel
theorem dX5_errorPosition_9 : decode cX5_errorPosition 9 = .ok (.goto 4, 3) := by decide +kernel
theorem dX5_errorPosition_12 : decode cX5_errorPosition 12 = .ok (.iconst 0, 1) := by decide +kernel
theorem dX5_errorPosition_13 : decode cX5_errorPosition 13 = .ok (.invokevirtual 169, 3) := by decide +kernel
theorem dX5_errorPosition_16 : decode cX5_errorPosition 16 = .ok (.ifCond .eq 10, 3) := by decide +kernel
theorem dX5_errorPosition_19 : decode cX5_errorPosition 19 = .ok (.aload_n 0, 1) := by decide +kernel
theorem dX5_errorPosition_20 : decode cX5_errorPosition 20 = .ok (.getfield 32, 3) := by decide +kernel
theorem dX5_errorPosition_23 : decode cX5_errorPosition 23 = .ok (.goto 4, 3) := by decide +kernel
theorem dX5_errorPosition_26 : decode cX5_errorPosition 26 = .ok (.iconst 0, 1) := by decide +kernel
theorem dX5_errorPosition_27 : decode cX5_errorPosition 27 = .ok (.ireturn, 1) := by decide +kernel
theorem dX5_failedCommand_0 : decode cX5_failedCommand 0 = .ok (.aload_n 0, 1) := by decide +kernel
theorem dX5_failedCommand_1 : decode cX5_failedCommand 1 = .ok (.aload_n 0, 1) := by decide +kernel
theorem dX5_failedCommand_2 : decode cX5_failedCommand 2 = .ok (.getfield 36, 3) := by decide +kernel
theorem dX5_failedCommand_5 : decode cX5_failedCommand 5 = .ok (.ifCond .lt 7, 3) := by decide +kernel
theorem dX5_failedCommand_8 : decode cX5_failedCommand 8 = .ok (.iconst 1, 1) := by decide +kernel
theorem dX5_failedCommand_9 : decode cX5_failedCommand 9 = .ok (.goto 4, 3) := by decide +kernel
theorem dX5_failedCommand_12 : decode cX5_failedCommand 12 = .ok (.iconst 0, 1) := by decide +kernel
theorem dX5_failedCommand_13 : decode cX5_failedCommand 13 = .ok (.invokevirtual 169, 3) := by decide +kernel
theorem dX5_failedCommand_16 : decode cX5_failedCommand 16 = .ok (.ifCond .eq 10, 3) := by decide +kernel
theorem dX5_failedCommand_19 : decode cX5_failedCommand 19 = .ok (.aload_n 0, 1) := by decide +kernel
theorem dX5_failedCommand_20 : decode cX5_failedCommand 20 = .ok (.getfield 36, 3) := by decide +kernel
theorem dX5_failedCommand_23 : decode cX5_failedCommand 23 = .ok (.goto 4, 3) := by decide +kernel
theorem dX5_failedCommand_26 : decode cX5_failedCommand 26 = .ok (.iconst 0, 1) := by decide +kernel
theorem dX5_failedCommand_27 : decode cX5_failedCommand 27 = .ok (.ireturn, 1) := by decide +kernel
theorem dX5_undo_0 : decode cX5_undo 0 = .ok (.aload_n 0, 1) := by decide +kernel
theorem dX5_undo_1 : decode cX5_undo 1 = .ok (.aload_n 0, 1) := by decide +kernel
theorem dX5_undo_2 : decode cX5_undo 2 = .ok (.getfield 51, 3) := by decide +kernel
theorem dX5_undo_5 : decode cX5_undo 5 = .ok (.ifCond .ne 7, 3) := by decide +kernel
theorem dX5_undo_8 : decode cX5_undo 8 = .ok (.iconst 1, 1) := by decide +kernel
theorem dX5_undo_9 : decode cX5_undo 9 = .ok (.goto 4, 3) := by decide +kernel
theorem dX5_undo_12 : decode cX5_undo 12 = .ok (.iconst 0, 1) := by decide +kernel
theorem dX5_undo_13 : decode cX5_undo 13 = .ok (.putfield 42, 3) := by decide +kernel
theorem dX5_undo_16 : decode cX5_undo 16 = .ok (.aload_n 0, 1) := by decide +kernel
theorem dX5_undo_17 : decode cX5_undo 17 = .ok (.getfield 42, 3) := by decide +kernel
theorem dX5_undo_20 : decode cX5_undo 20 = .ok (.ifCond .le 5, 3) := by decide +kernel
theorem dX5_undo_23 : decode cX5_undo 23 = .ok (.iconst 0, 1) := by decide +kernel
theorem dX5_undo_24 : decode cX5_undo 24 = .ok (.ireturn, 1) := by decide +kernel
theorem dX5_undo_25 : decode cX5_undo 25 = .ok (.aload_n 0, 1) := by decide +kernel
theorem dX5_undo_26 : decode cX5_undo 26 = .ok (.dup, 1) := by decide +kernel
theorem dX5_undo_27 : decode cX5_undo 27 = .ok (.getfield 51, 3) := by decide +kernel
theorem dX5_undo_30 : decode cX5_undo 30 = .ok (.iconst 1, 1) := by decide +kernel
theorem dX5_undo_31 : decode cX5_undo 31 = .ok (.isub, 1) := by decide +kernel
theorem dX5_undo_32 : decode cX5_undo 32 = .ok (.putfield 51, 3) := by decide +kernel
theorem dX5_undo_35 : decode cX5_undo 35 = .ok (.aload_n 0, 1) := by decide +kernel
theorem dX5_undo_36 : decode cX5_undo 36 = .ok (.getfield 22, 3) := by decide +kernel
theorem dX5_undo_39 : decode cX5_undo 39 = .ok (.bipush 113, 2) := by decide +kernel
theorem dX5_undo_41 : decode cX5_undo 41 = .ok (.aload_n 0, 1) := by decide +kernel
theorem dX5_undo_42 : decode cX5_undo 42 = .ok (.getfield 51, 3) := by decide +kernel
theorem dX5_undo_45 : decode cX5_undo 45 = .ok (.imul, 1) := by decide +kernel
theorem dX5_undo_46 : decode cX5_undo 46 = .ok (.aload_n 0, 1) := by decide +kernel
theorem dX5_undo_47 : decode cX5_undo 47 = .ok (.getfield 9, 3) := by decide +kernel
theorem dX5_undo_50 : decode cX5_undo 50 = .ok (.iconst 0, 1) := by decide +kernel
theorem dX5_undo_51 : decode cX5_undo 51 = .ok (.bipush 113, 2) := by decide +kernel
theorem dX5_undo_53 : decode cX5_undo 53 = .ok (.invokestatic 45, 3) := by decide +kernel
theorem dX5_undo_56 : decode cX5_undo 56 = .ok (.aload_n 0, 1) := by decide +kernel
theorem dX5_undo_57 : decode cX5_undo 57 = .ok (.getfield 51, 3) := by decide +kernel
theorem dX5_undo_60 : decode cX5_undo 60 = .ok (.ireturn, 1) := by decide +kernel
theorem dX5_save_0 : decode cX5_save 0 = .ok (.aload_n 0, 1) := by decide +kernel
theorem dX5_save_1 : decode cX5_save 1 = .ok (.iconst 0, 1) := by decide +kernel
theorem dX5_save_2 : decode cX5_save 2 = .ok (.putfield 42, 3) := by decide +kernel
theorem dX5_save_5 : decode cX5_save 5 = .ok (.aload_n 0, 1) := by decide +kernel
theorem dX5_save_6 : decode cX5_save 6 = .ok (.getfield 9, 3) := by decide +kernel
theorem dX5_save_9 : decode cX5_save 9 = .ok (.iconst 0, 1) := by decide +kernel
theorem dX5_save_10 : decode cX5_save 10 = .ok (.aload_n 0, 1) := by decide +kernel
theorem dX5_save_11 : decode cX5_save 11 = .ok (.getfield 19, 3) := by decide +kernel
theorem dX5_save_14 : decode cX5_save 14 = .ok (.iconst 0, 1) := by decide +kernel
theorem dX5_save_15 : decode cX5_save 15 = .ok (.bipush 113, 2) := by decide +kernel
theorem dX5_save_17 : decode cX5_save 17 = .ok (.invokestatic 45, 3) := by decide +kernel
theorem dX5_save_20 : decode cX5_save 20 = .ok (.aload_n 0, 1) := by decide +kernel
theorem dX5_save_21 : decode cX5_save 21 = .ok (.iconst 1, 1) := by decide +kernel
theorem dX5_save_22 : decode cX5_save 22 = .ok (.putfield 252, 3) := by decide +kernel
theorem dX5_save_25 : decode cX5_save 25 = .ok (.aload_n 0, 1) := by decide +kernel
theorem dX5_save_26 : decode cX5_save 26 = .ok (.getfield 9, 3) := by decide +kernel
theorem dX5_save_29 : decode cX5_save 29 = .ok (.iconst 0, 1) := by decide +kernel
theorem dX5_save_30 : decode cX5_save 30 = .ok (.iaload, 1) := by decide +kernel
theorem dX5_save_31 : decode cX5_save 31 = .ok (.ireturn, 1) := by decide +kernel
theorem dX5_restore_0 : decode cX5_restore 0 = .ok (.aload_n 0, 1) := by decide +kernel
theorem dX5_restore_1 : decode cX5_restore 1 = .ok (.aload_n 0, 1) := by decide +kernel
theorem dX5_restore_2 : decode cX5_restore 2 = .ok (.getfield 252, 3) := by decide +kernel
theorem dX5_restore_5 : decode cX5_restore 5 = .ok (.ifCond .eq 7, 3) := by decide +kernel
theorem dX5_restore_8 : decode cX5_restore 8 = .ok (.iconst 0, 1) := by decide +kernel
theorem dX5_restore_9 : decode cX5_restore 9 = .ok (.goto 4, 3) := by decide +kernel
theorem dX5_restore_12 : decode cX5_restore 12 = .ok (.iconst 1, 1) := by decide +kernel
theorem dX5_restore_13 : decode cX5_restore 13 = .ok (.putfield 42, 3) := by decide +kernel
theorem dX5_restore_16 : decode cX5_restore 16 = .ok (.aload_n 0, 1) := by decide +kernel
theorem dX5_restore_17 : decode cX5_restore 17 = .ok (.getfield 42, 3) := by decide +kernel
theorem dX5_restore_20 : decode cX5_restore 20 = .ok (.ifCond .le 5, 3) := by decide +kernel
theorem dX5_restore_23 : decode cX5_restore 23 = .ok (.iconst 0, 1) := by decide +kernel
theorem dX5_restore_24 : decode cX5_restore 24 = .ok (.ireturn, 1) := by decide +kernel
theorem dX5_restore_25 : decode cX5_restore 25 = .ok (.aload_n 0, 1) := by decide +kernel
theorem dX5_restore_26 : decode cX5_restore 26 = .ok (.getfield 19, 3) := by decide +kernel
theorem dX5_restore_29 : decode cX5_restore 29 = .ok (.iconst 0, 1) := by decide +kernel
theorem dX5_restore_30 : decode cX5_restore 30 = .ok (.aload_n 0, 1) := by decide +kernel
theorem dX5_restore_31 : decode cX5_restore 31 = .ok (.getfield 9, 3) := by decide +kernel
theorem dX5_restore_34 : decode cX5_restore 34 = .ok (.iconst 0, 1) := by decide +kernel
theorem dX5_restore_35 : decode cX5_restore 35 = .ok (.bipush 113, 2) := by decide +kernel
theorem dX5_restore_37 : decode cX5_restore 37 = .ok (.invokestatic 45, 3) := by decide +kernel
theorem dX5_restore_40 : decode cX5_restore 40 = .ok (.aload_n 0, 1) := by decide +kernel
theorem dX5_restore_41 : decode cX5_restore 41 = .ok (.iconst 0, 1) := by decide +kernel
theorem dX5_restore_42 : decode cX5_restore 42 = .ok (.putfield 51, 3) := by decide +kernel
theorem dX5_restore_45 : decode cX5_restore 45 = .ok (.aload_n 0, 1) := by decide +kernel
theorem dX5_restore_46 : decode cX5_restore 46 = .ok (.getfield 9, 3) := by decide +kernel
theorem dX5_restore_49 : decode cX5_restore 49 = .ok (.iconst 0, 1) := by decide +kernel
theorem dX5_restore_50 : decode cX5_restore 50 = .ok (.iaload, 1) := by decide +kernel
theorem dX5_restore_51 : decode cX5_restore 51 = .ok (.ireturn, 1) := by decide +kernel
theorem dJx00060_init_a7421_0 : decode cJx00060_init_a7421 0 = .ok (.aload_n 0, 1) := by decide +kernel
theorem dJx00060_init_a7421_1 : decode cJx00060_init_a7421 1 = .ok (.aload_n 1, 1) := by decide +kernel
theorem dJx00060_init_a7421_2 : decode cJx00060_init_a7421 2 = .ok (.invokespecial 7, 3) := by decide +kernel
theorem dJx00060_init_a7421_5 : decode cJx00060_init_a7421 5 = .ok (.return_, 1) := by decide +kernel
theorem dJ11_isValidCodePoint_9a6ad_0 : decode cJ11_isValidCodePoint_9a6ad 0 = .ok (.iload_n 0, 1) := by decide +kernel
theorem dJ11_isValidCodePoint_9a6ad_1 : decode cJ11_isValidCodePoint_9a6ad 1 = .ok (.bipush 16, 2) := by decide +kernel
theorem dJ11_isValidCodePoint_9a6ad_3 : decode cJ11_isValidCodePoint_9a6ad 3 = .ok (.iushr, 1) := by decide +kernel
theorem dJ11_isValidCodePoint_9a6ad_4 : decode cJ11_isValidCodePoint_9a6ad 4 = .ok (.istore_n 1, 1) := by decide +kernel
theorem dJ11_isValidCodePoint_9a6ad_5 : decode cJ11_isValidCodePoint_9a6ad 5 = .ok (.iload_n 1, 1) := by decide +kernel
theorem dJ11_isValidCodePoint_9a6ad_6 : decode cJ11_isValidCodePoint_9a6ad 6 = .ok (.bipush 17, 2) := by decide +kernel
theorem dJ11_isValidCodePoint_9a6ad_8 : decode cJ11_isValidCodePoint_9a6ad 8 = .ok (.if_icmp .ge 7, 3) := by decide +kernel
theorem dJ11_isValidCodePoint_9a6ad_11 : decode cJ11_isValidCodePoint_9a6ad 11 = .ok (.iconst 1, 1) := by decide +kernel
theorem dJ11_isValidCodePoint_9a6ad_12 : decode cJ11_isValidCodePoint_9a6ad 12 = .ok (.goto 4, 3) := by decide +kernel
theorem dJ11_isValidCodePoint_9a6ad_15 : decode cJ11_isValidCodePoint_9a6ad 15 = .ok (.iconst 0, 1) := by decide +kernel
theorem dJ11_isValidCodePoint_9a6ad_16 : decode cJ11_isValidCodePoint_9a6ad 16 = .ok (.ireturn, 1) := by decide +kernel
theorem dJ11_highSurrogate_5068e_0 : decode cJ11_highSurrogate_5068e 0 = .ok (.iload_n 0, 1) := by decide +kernel
theorem dJ11_highSurrogate_5068e_1 : decode cJ11_highSurrogate_5068e 1 = .ok (.bipush 10, 2) := by decide +kernel
theorem dJ11_highSurrogate_5068e_3 : decode cJ11_highSurrogate_5068e 3 = .ok (.iushr, 1) := by decide +kernel
theorem dJ11_highSurrogate_5068e_4 : decode cJ11_highSurrogate_5068e 4 = .ok (.ldc 110, 2) := by decide +kernel
theorem dJ11_highSurrogate_5068e_6 : decode cJ11_highSurrogate_5068e 6 = .ok (.iadd, 1) := by decide +kernel
theorem dJ11_highSurrogate_5068e_7 : decode cJ11_highSurrogate_5068e 7 = .ok (.i2c, 1) := by decide +kernel
theorem dJ11_highSurrogate_5068e_8 : decode cJ11_highSurrogate_5068e 8 = .ok (.ireturn, 1) := by decide +kernel
theorem dJ11_lowSurrogate_5068e_0 : decode cJ11_lowSurrogate_5068e 0 = .ok (.iload_n 0, 1) := by decide +kernel
theorem dJ11_lowSurrogate_5068e_1 : decode cJ11_lowSurrogate_5068e 1 = .ok (.sipush 1023, 3) := by decide +kernel
theorem dJ11_lowSurrogate_5068e_4 : decode cJ11_lowSurrogate_5068e 4 = .ok (.iand, 1) := by decide +kernel
theorem dJ11_lowSurrogate_5068e_5 : decode cJ11_lowSurrogate_5068e 5 = .ok (.ldc 76, 2) := by decide +kernel
theorem dJ11_lowSurrogate_5068e_7 : decode cJ11_lowSurrogate_5068e 7 = .ok (.iadd, 1) := by decide +kernel
theorem dJ11_lowSurrogate_5068e_8 : decode cJ11_lowSurrogate_5068e 8 = .ok (.i2c, 1) := by decide +kernel
theorem dJ11_lowSurrogate_5068e_9 : decode cJ11_lowSurrogate_5068e 9 = .ok (.ireturn, 1) := by decide +kernel
theorem dJ9_abs_0f7a4_0 : decode cJ9_abs_0f7a4 0 = .ok (.iload_n 0, 1) := by decide +kernel
theorem dJ9_abs_0f7a4_1 : decode cJ9_abs_0f7a4 1 = .ok (.ifCond .ge 8, 3) := by decide +kernel
theorem dJ9_abs_0f7a4_4 : decode cJ9_abs_0f7a4 4 = .ok (.iload_n 0, 1) := by decide +kernel
theorem dJ9_abs_0f7a4_5 : decode cJ9_abs_0f7a4 5 = .ok (.ineg, 1) := by decide +kernel
theorem dJ9_abs_0f7a4_6 : decode cJ9_abs_0f7a4 6 = .ok (.goto 4, 3) := by decide +kernel
theorem dJ9_abs_0f7a4_9 : decode cJ9_abs_0f7a4 9 = .ok (.iload_n 0, 1) := by decide +kernel
theorem dJ9_abs_0f7a4_10 : decode cJ9_abs_0f7a4 10 = .ok (.ireturn, 1) := by decide +kernel
theorem dJ9_max_7cf53_0 : decode cJ9_max_7cf53 0 = .ok (.iload_n 0, 1) := by decide +kernel
theorem dJ9_max_7cf53_1 : decode cJ9_max_7cf53 1 = .ok (.iload_n 1, 1) := by decide +kernel
theorem dJ9_max_7cf53_2 : decode cJ9_max_7cf53 2 = .ok (.if_icmp .lt 7, 3) := by decide +kernel
theorem dJ9_max_7cf53_5 : decode cJ9_max_7cf53 5 = .ok (.iload_n 0, 1) := by decide +kernel
theorem dJ9_max_7cf53_6 : decode cJ9_max_7cf53 6 = .ok (.goto 4, 3) := by decide +kernel
theorem dJ9_max_7cf53_9 : decode cJ9_max_7cf53 9 = .ok (.iload_n 1, 1) := by decide +kernel
theorem dJ9_max_7cf53_10 : decode cJ9_max_7cf53 10 = .ok (.ireturn, 1) := by decide +kernel
theorem dJ9_min_7cf53_0 : decode cJ9_min_7cf53 0 = .ok (.iload_n 0, 1) := by decide +kernel
theorem dJ9_min_7cf53_1 : decode cJ9_min_7cf53 1 = .ok (.iload_n 1, 1) := by decide +kernel
theorem dJ9_min_7cf53_2 : decode cJ9_min_7cf53 2 = .ok (.if_icmp .gt 7, 3) := by decide +kernel
theorem dJ9_min_7cf53_5 : decode cJ9_min_7cf53 5 = .ok (.iload_n 0, 1) := by decide +kernel
theorem dJ9_min_7cf53_6 : decode cJ9_min_7cf53 6 = .ok (.goto 4, 3) := by decide +kernel
theorem dJ9_min_7cf53_9 : decode cJ9_min_7cf53 9 = .ok (.iload_n 1, 1) := by decide +kernel
theorem dJ9_min_7cf53_10 : decode cJ9_min_7cf53 10 = .ok (.ireturn, 1) := by decide +kernel
theorem dJ0_length_8abf5_0 : decode cJ0_length_8abf5 0 = .ok (.aload_n 0, 1) := by decide +kernel
theorem dJ0_length_8abf5_1 : decode cJ0_length_8abf5 1 = .ok (.getfield 9, 3) := by decide +kernel
theorem dJ0_length_8abf5_4 : decode cJ0_length_8abf5 4 = .ok (.arraylength, 1) := by decide +kernel
theorem dJ0_length_8abf5_5 : decode cJ0_length_8abf5 5 = .ok (.aload_n 0, 1) := by decide +kernel
theorem dJ0_length_8abf5_6 : decode cJ0_length_8abf5 6 = .ok (.invokevirtual 335, 3) := by decide +kernel
theorem dJ0_length_8abf5_9 : decode cJ0_length_8abf5 9 = .ok (.ishr, 1) := by decide +kernel
theorem dJ0_length_8abf5_10 : decode cJ0_length_8abf5 10 = .ok (.ireturn, 1) := by decide +kernel
theorem dJ0_charAt_5068e_0 : decode cJ0_charAt_5068e 0 = .ok (.aload_n 0, 1) := by decide +kernel
theorem dJ0_charAt_5068e_1 : decode cJ0_charAt_5068e 1 = .ok (.invokevirtual 492, 3) := by decide +kernel
theorem dJ0_charAt_5068e_4 : decode cJ0_charAt_5068e 4 = .ok (.ifCond .eq 12, 3) := by decide +kernel
theorem dJ0_charAt_5068e_7 : decode cJ0_charAt_5068e 7 = .ok (.aload_n 0, 1) := by decide +kernel
theorem dJ0_charAt_5068e_8 : decode cJ0_charAt_5068e 8 = .ok (.getfield 9, 3) := by decide +kernel
theorem dJ0_charAt_5068e_11 : decode cJ0_charAt_5068e 11 = .ok (.iload_n 1, 1) := by decide +kernel
theorem dJ0_charAt_5068e_12 : decode cJ0_charAt_5068e 12 = .ok (.invokestatic 495, 3) := by decide +kernel
theorem dJ0_charAt_5068e_15 : decode cJ0_charAt_5068e 15 = .ok (.ireturn, 1) := by decide +kernel
theorem dJ0_charAt_5068e_16 : decode cJ0_charAt_5068e 16 = .ok (.aload_n 0, 1) := by decide +kernel
theorem dJ0_charAt_5068e_17 : decode cJ0_charAt_5068e 17 = .ok (.getfield 9, 3) := by decide +kernel
theorem dJ0_charAt_5068e_20 : decode cJ0_charAt_5068e 20 = .ok (.iload_n 1, 1) := by decide +kernel
theorem dJ0_charAt_5068e_21 : decode cJ0_charAt_5068e 21 = .ok (.invokestatic 498, 3) := by decide +kernel
theorem dJ0_charAt_5068e_24 : decode cJ0_charAt_5068e 24 = .ok (.ireturn, 1) := by decide +kernel
theorem dJ0_indexOf_0f7a4_0 : decode cJ0_indexOf_0f7a4 0 = .ok (.aload_n 0, 1) := by decide +kernel
theorem dJ0_indexOf_0f7a4_1 : decode cJ0_indexOf_0f7a4 1 = .ok (.iload_n 1, 1) := by decide +kernel
theorem dJ0_indexOf_0f7a4_2 : decode cJ0_indexOf_0f7a4 2 = .ok (.iconst 0, 1) := by decide +kernel
theorem dJ0_indexOf_0f7a4_3 : decode cJ0_indexOf_0f7a4 3 = .ok (.invokevirtual 633, 3) := by decide +kernel
theorem dJ0_indexOf_0f7a4_6 : decode cJ0_indexOf_0f7a4 6 = .ok (.ireturn, 1) := by decide +kernel
theorem dJ0_indexOf_7cf53_0 : decode cJ0_indexOf_7cf53 0 = .ok (.aload_n 0, 1) := by decide +kernel
theorem dJ0_indexOf_7cf53_1 : decode cJ0_indexOf_7cf53 1 = .ok (.invokevirtual 492, 3) := by decide +kernel
theorem dJ0_indexOf_7cf53_4 : decode cJ0_indexOf_7cf53 4 = .ok (.ifCond .eq 19, 3) := by decide +kernel
theorem dJ0_indexOf_7cf53_7 : decode cJ0_indexOf_7cf53 7 = .ok (.aload_n 0, 1) := by decide +kernel
theorem dJ0_indexOf_7cf53_8 : decode cJ0_indexOf_7cf53 8 = .ok (.getfield 9, 3) := by decide +kernel
theorem dJ0_indexOf_7cf53_11 : decode cJ0_indexOf_7cf53 11 = .ok (.iload_n 1, 1) := by decide +kernel
theorem dJ0_indexOf_7cf53_12 : decode cJ0_indexOf_7cf53 12 = .ok (.iload_n 2, 1) := by decide +kernel
theorem dJ0_indexOf_7cf53_13 : decode cJ0_indexOf_7cf53 13 = .ok (.aload_n 0, 1) := by decide +kernel
theorem dJ0_indexOf_7cf53_14 : decode cJ0_indexOf_7cf53 14 = .ok (.invokevirtual 505, 3) := by decide +kernel
theorem dJ0_indexOf_7cf53_17 : decode cJ0_indexOf_7cf53 17 = .ok (.invokestatic 637, 3) := by decide +kernel
theorem dJ0_indexOf_7cf53_20 : decode cJ0_indexOf_7cf53 20 = .ok (.goto 16, 3) := by decide +kernel
theorem dJ0_indexOf_7cf53_23 : decode cJ0_indexOf_7cf53 23 = .ok (.aload_n 0, 1) := by decide +kernel
theorem dJ0_indexOf_7cf53_24 : decode cJ0_indexOf_7cf53 24 = .ok (.getfield 9, 3) := by decide +kernel
theorem dJ0_indexOf_7cf53_27 : decode cJ0_indexOf_7cf53 27 = .ok (.iload_n 1, 1) := by decide +kernel
theorem dJ0_indexOf_7cf53_28 : decode cJ0_indexOf_7cf53 28 = .ok (.iload_n 2, 1) := by decide +kernel
theorem dJ0_indexOf_7cf53_29 : decode cJ0_indexOf_7cf53 29 = .ok (.aload_n 0, 1) := by decide +kernel
theorem dJ0_indexOf_7cf53_30 : decode cJ0_indexOf_7cf53 30 = .ok (.invokevirtual 505, 3) := by decide +kernel
theorem dJ0_indexOf_7cf53_33 : decode cJ0_indexOf_7cf53 33 = .ok (.invokestatic 640, 3) := by decide +kernel
theorem dJ0_indexOf_7cf53_36 : decode cJ0_indexOf_7cf53 36 = .ok (.ireturn, 1) := by decide +kernel
theorem dJ0_coder_7d493_0 : decode cJ0_coder_7d493 0 = .ok (.getstatic 38, 3) := by decide +kernel
theorem dJ0_coder_7d493_3 : decode cJ0_coder_7d493 3 = .ok (.ifCond .eq 10, 3) := by decide +kernel
theorem dJ0_coder_7d493_6 : decode cJ0_coder_7d493 6 = .ok (.aload_n 0, 1) := by decide +kernel
theorem dJ0_coder_7d493_7 : decode cJ0_coder_7d493 7 = .ok (.getfield 15, 3) := by decide +kernel
theorem dJ0_coder_7d493_10 : decode cJ0_coder_7d493 10 = .ok (.goto 4, 3) := by decide +kernel
theorem dJ0_coder_7d493_13 : decode cJ0_coder_7d493 13 = .ok (.iconst 1, 1) := by decide +kernel
theorem dJ0_coder_7d493_14 : decode cJ0_coder_7d493 14 = .ok (.ireturn, 1) := by decide +kernel
theorem dJ0_isLatin1_aae02_0 : decode cJ0_isLatin1_aae02 0 = .ok (.getstatic 38, 3) := by decide +kernel
theorem dJ0_isLatin1_aae02_3 : decode cJ0_isLatin1_aae02 3 = .ok (.ifCond .eq 14, 3) := by decide +kernel
theorem dJ0_isLatin1_aae02_6 : decode cJ0_isLatin1_aae02 6 = .ok (.aload_n 0, 1) := by decide +kernel
theorem dJ0_isLatin1_aae02_7 : decode cJ0_isLatin1_aae02 7 = .ok (.getfield 15, 3) := by decide +kernel
theorem dJ0_isLatin1_aae02_10 : decode cJ0_isLatin1_aae02 10 = .ok (.ifCond .ne 7, 3) := by decide +kernel
theorem dJ0_isLatin1_aae02_13 : decode cJ0_isLatin1_aae02 13 = .ok (.iconst 1, 1) := by decide +kernel
theorem dJ0_isLatin1_aae02_14 : decode cJ0_isLatin1_aae02 14 = .ok (.goto 4, 3) := by decide +kernel
theorem dJ0_isLatin1_aae02_17 : decode cJ0_isLatin1_aae02 17 = .ok (.iconst 0, 1) := by decide +kernel
theorem dJ0_isLatin1_aae02_18 : decode cJ0_isLatin1_aae02 18 = .ok (.ireturn, 1) := by decide +kernel
theorem dJ0_checkIndex_df160_0 : decode cJ0_checkIndex_df160 0 = .ok (.iload_n 0, 1) := by decide +kernel
theorem dJ0_checkIndex_df160_1 : decode cJ0_checkIndex_df160 1 = .ok (.iload_n 1, 1) := by decide +kernel
theorem dJ0_checkIndex_df160_2 : decode cJ0_checkIndex_df160 2 = .ok (.getstatic 1053, 3) := by decide +kernel
theorem dJ0_checkIndex_df160_5 : decode cJ0_checkIndex_df160 5 = .ok (.invokestatic 1059, 3) := by decide +kernel
theorem dJ0_checkIndex_df160_8 : decode cJ0_checkIndex_df160 8 = .ok (.pop, 1) := by decide +kernel
theorem dJ0_checkIndex_df160_9 : decode cJ0_checkIndex_df160 9 = .ok (.return_, 1) := by decide +kernel
theorem dJ0_checkBoundsBeginEnd_23922_0 : decode cJ0_checkBoundsBeginEnd_23922 0 = .ok (.iload_n 0, 1) := by decide +kernel
theorem dJ0_checkBoundsBeginEnd_23922_1 : decode cJ0_checkBoundsBeginEnd_23922 1 = .ok (.iload_n 1, 1) := by decide +kernel
theorem dJ0_checkBoundsBeginEnd_23922_2 : decode cJ0_checkBoundsBeginEnd_23922 2 = .ok (.iload_n 2, 1) := by decide +kernel
theorem dJ0_checkBoundsBeginEnd_23922_3 : decode cJ0_checkBoundsBeginEnd_23922 3 = .ok (.getstatic 1053, 3) := by decide +kernel
theorem dJ0_checkBoundsBeginEnd_23922_6 : decode cJ0_checkBoundsBeginEnd_23922 6 = .ok (.invokestatic 1062, 3) := by decide +kernel
theorem dJ0_checkBoundsBeginEnd_23922_9 : decode cJ0_checkBoundsBeginEnd_23922 9 = .ok (.pop, 1) := by decide +kernel
theorem dJ0_checkBoundsBeginEnd_23922_10 : decode cJ0_checkBoundsBeginEnd_23922 10 = .ok (.return_, 1) := by decide +kernel
theorem dJ1_charAt_3b067_0 : decode cJ1_charAt_3b067 0 = .ok (.iload_n 1, 1) := by decide +kernel
theorem dJ1_charAt_3b067_1 : decode cJ1_charAt_3b067 1 = .ok (.aload_n 0, 1) := by decide +kernel
theorem dJ1_charAt_3b067_2 : decode cJ1_charAt_3b067 2 = .ok (.arraylength, 1) := by decide +kernel
theorem dJ1_charAt_3b067_3 : decode cJ1_charAt_3b067 3 = .ok (.invokestatic 9, 3) := by decide +kernel
theorem dJ1_charAt_3b067_6 : decode cJ1_charAt_3b067 6 = .ok (.aload_n 0, 1) := by decide +kernel
theorem dJ1_charAt_3b067_7 : decode cJ1_charAt_3b067 7 = .ok (.iload_n 1, 1) := by decide +kernel
theorem dJ1_charAt_3b067_8 : decode cJ1_charAt_3b067 8 = .ok (.baload, 1) := by decide +kernel
theorem dJ1_charAt_3b067_9 : decode cJ1_charAt_3b067 9 = .ok (.sipush 255, 3) := by decide +kernel
theorem dJ1_charAt_3b067_12 : decode cJ1_charAt_3b067 12 = .ok (.iand, 1) := by decide +kernel
theorem dJ1_charAt_3b067_13 : decode cJ1_charAt_3b067 13 = .ok (.i2c, 1) := by decide +kernel
theorem dJ1_charAt_3b067_14 : decode cJ1_charAt_3b067 14 = .ok (.ireturn, 1) := by decide +kernel
theorem dJ1_canEncode_9a6ad_0 : decode cJ1_canEncode_9a6ad 0 = .ok (.iload_n 0, 1) := by decide +kernel
theorem dJ1_canEncode_9a6ad_1 : decode cJ1_canEncode_9a6ad 1 = .ok (.ifCond .lt 14, 3) := by decide +kernel
theorem dJ1_canEncode_9a6ad_4 : decode cJ1_canEncode_9a6ad 4 = .ok (.iload_n 0, 1) := by decide +kernel
theorem dJ1_canEncode_9a6ad_5 : decode cJ1_canEncode_9a6ad 5 = .ok (.sipush 255, 3) := by decide +kernel
theorem dJ1_canEncode_9a6ad_8 : decode cJ1_canEncode_9a6ad 8 = .ok (.if_icmp .gt 7, 3) := by decide +kernel
theorem dJ1_canEncode_9a6ad_11 : decode cJ1_canEncode_9a6ad 11 = .ok (.iconst 1, 1) := by decide +kernel
theorem dJ1_canEncode_9a6ad_12 : decode cJ1_canEncode_9a6ad 12 = .ok (.goto 4, 3) := by decide +kernel
theorem dJ1_canEncode_9a6ad_15 : decode cJ1_canEncode_9a6ad 15 = .ok (.iconst 0, 1) := by decide +kernel
theorem dJ1_canEncode_9a6ad_16 : decode cJ1_canEncode_9a6ad 16 = .ok (.ireturn, 1) := by decide +kernel
theorem dJ1_indexOf_4cfef_0 : decode cJ1_indexOf_4cfef 0 = .ok (.iload_n 1, 1) := by decide +kernel
theorem dJ1_indexOf_4cfef_1 : decode cJ1_indexOf_4cfef 1 = .ok (.invokestatic 88, 3) := by decide +kernel
theorem dJ1_indexOf_4cfef_4 : decode cJ1_indexOf_4cfef 4 = .ok (.ifCond .ne 5, 3) := by decide +kernel
theorem dJ1_indexOf_4cfef_7 : decode cJ1_indexOf_4cfef 7 = .ok (.iconst (-1), 1) := by decide +kernel
theorem dJ1_indexOf_4cfef_8 : decode cJ1_indexOf_4cfef 8 = .ok (.ireturn, 1) := by decide +kernel
theorem dJ1_indexOf_4cfef_9 : decode cJ1_indexOf_4cfef 9 = .ok (.iload_n 2, 1) := by decide +kernel
theorem dJ1_indexOf_4cfef_10 : decode cJ1_indexOf_4cfef 10 = .ok (.iconst 0, 1) := by decide +kernel
theorem dJ1_indexOf_4cfef_11 : decode cJ1_indexOf_4cfef 11 = .ok (.invokestatic 92, 3) := by decide +kernel
theorem dJ1_indexOf_4cfef_14 : decode cJ1_indexOf_4cfef 14 = .ok (.istore_n 2, 1) := by decide +kernel
theorem dJ1_indexOf_4cfef_15 : decode cJ1_indexOf_4cfef 15 = .ok (.iload_n 3, 1) := by decide +kernel
theorem dJ1_indexOf_4cfef_16 : decode cJ1_indexOf_4cfef 16 = .ok (.aload_n 0, 1) := by decide +kernel
theorem dJ1_indexOf_4cfef_17 : decode cJ1_indexOf_4cfef 17 = .ok (.arraylength, 1) := by decide +kernel
theorem dJ1_indexOf_4cfef_18 : decode cJ1_indexOf_4cfef 18 = .ok (.invokestatic 38, 3) := by decide +kernel
theorem dJ1_indexOf_4cfef_21 : decode cJ1_indexOf_4cfef 21 = .ok (.istore_n 3, 1) := by decide +kernel
theorem dJ1_indexOf_4cfef_22 : decode cJ1_indexOf_4cfef 22 = .ok (.iload_n 2, 1) := by decide +kernel
theorem dJ1_indexOf_4cfef_23 : decode cJ1_indexOf_4cfef 23 = .ok (.iload_n 3, 1) := by decide +kernel
theorem dJ1_indexOf_4cfef_24 : decode cJ1_indexOf_4cfef 24 = .ok (.if_icmp .lt 5, 3) := by decide +kernel
theorem dJ1_indexOf_4cfef_27 : decode cJ1_indexOf_4cfef 27 = .ok (.iconst (-1), 1) := by decide +kernel
theorem dJ1_indexOf_4cfef_28 : decode cJ1_indexOf_4cfef 28 = .ok (.ireturn, 1) := by decide +kernel
theorem dJ1_indexOf_4cfef_29 : decode cJ1_indexOf_4cfef 29 = .ok (.aload_n 0, 1) := by decide +kernel
theorem dJ1_indexOf_4cfef_30 : decode cJ1_indexOf_4cfef 30 = .ok (.iload_n 1, 1) := by decide +kernel
theorem dJ1_indexOf_4cfef_31 : decode cJ1_indexOf_4cfef 31 = .ok (.iload_n 2, 1) := by decide +kernel
theorem dJ1_indexOf_4cfef_32 : decode cJ1_indexOf_4cfef 32 = .ok (.iload_n 3, 1) := by decide +kernel
theorem dJ1_indexOf_4cfef_33 : decode cJ1_indexOf_4cfef 33 = .ok (.invokestatic 95, 3) := by decide +kernel
theorem dJ1_indexOf_4cfef_36 : decode cJ1_indexOf_4cfef 36 = .ok (.ireturn, 1) := by decide +kernel
theorem dJ1_indexOfChar_4cfef_0 : decode cJ1_indexOfChar_4cfef 0 = .ok (.iload_n 1, 1) := by decide +kernel
theorem dJ1_indexOfChar_4cfef_1 : decode cJ1_indexOfChar_4cfef 1 = .ok (.i2b, 1) := by decide +kernel
theorem dJ1_indexOfChar_4cfef_2 : decode cJ1_indexOfChar_4cfef 2 = .ok (.istore 4, 2) := by decide +kernel
theorem dJ1_indexOfChar_4cfef_4 : decode cJ1_indexOfChar_4cfef 4 = .ok (.iload_n 2, 1) := by decide +kernel
theorem dJ1_indexOfChar_4cfef_5 : decode cJ1_indexOfChar_4cfef 5 = .ok (.istore 5, 2) := by decide +kernel
theorem dJ1_indexOfChar_4cfef_7 : decode cJ1_indexOfChar_4cfef 7 = .ok (.iload 5, 2) := by decide +kernel
theorem dJ1_indexOfChar_4cfef_9 : decode cJ1_indexOfChar_4cfef 9 = .ok (.iload_n 3, 1) := by decide +kernel
theorem dJ1_indexOfChar_4cfef_10 : decode cJ1_indexOfChar_4cfef 10 = .ok (.if_icmp .ge 21, 3) := by decide +kernel
theorem dJ1_indexOfChar_4cfef_13 : decode cJ1_indexOfChar_4cfef 13 = .ok (.aload_n 0, 1) := by decide +kernel
theorem dJ1_indexOfChar_4cfef_14 : decode cJ1_indexOfChar_4cfef 14 = .ok (.iload 5, 2) := by decide +kernel
theorem dJ1_indexOfChar_4cfef_16 : decode cJ1_indexOfChar_4cfef 16 = .ok (.baload, 1) := by decide +kernel
theorem dJ1_indexOfChar_4cfef_17 : decode cJ1_indexOfChar_4cfef 17 = .ok (.iload 4, 2) := by decide +kernel
theorem dJ1_indexOfChar_4cfef_19 : decode cJ1_indexOfChar_4cfef 19 = .ok (.if_icmp .ne 6, 3) := by decide +kernel
theorem dJ1_indexOfChar_4cfef_22 : decode cJ1_indexOfChar_4cfef 22 = .ok (.iload 5, 2) := by decide +kernel
theorem dJ1_indexOfChar_4cfef_24 : decode cJ1_indexOfChar_4cfef 24 = .ok (.ireturn, 1) := by decide +kernel
theorem dJ1_indexOfChar_4cfef_25 : decode cJ1_indexOfChar_4cfef 25 = .ok (.iinc 5 1, 3) := by decide +kernel
theorem dJ1_indexOfChar_4cfef_28 : decode cJ1_indexOfChar_4cfef 28 = .ok (.goto (-21), 3) := by decide +kernel
theorem dJ1_indexOfChar_4cfef_31 : decode cJ1_indexOfChar_4cfef 31 = .ok (.iconst (-1), 1) := by decide +kernel
theorem dJ1_indexOfChar_4cfef_32 : decode cJ1_indexOfChar_4cfef 32 = .ok (.ireturn, 1) := by decide +kernel
theorem dJ2_getChar_3b067_0 : decode cJ2_getChar_3b067 0 = .ok (.getstatic 44, 3) := by decide +kernel
theorem dJ2_getChar_3b067_3 : decode cJ2_getChar_3b067 3 = .ok (.ifCond .ne 25, 3) := by decide +kernel
theorem dJ2_getChar_3b067_6 : decode cJ2_getChar_3b067 6 = .ok (.iload_n 1, 1) := by decide +kernel
theorem dJ2_getChar_3b067_7 : decode cJ2_getChar_3b067 7 = .ok (.ifCond .lt 11, 3) := by decide +kernel
theorem dJ2_getChar_3b067_10 : decode cJ2_getChar_3b067 10 = .ok (.iload_n 1, 1) := by decide +kernel
theorem dJ2_getChar_3b067_11 : decode cJ2_getChar_3b067 11 = .ok (.aload_n 0, 1) := by decide +kernel
theorem dJ2_getChar_3b067_12 : decode cJ2_getChar_3b067 12 = .ok (.invokestatic 48, 3) := by decide +kernel
theorem dJ2_getChar_3b067_15 : decode cJ2_getChar_3b067 15 = .ok (.if_icmp .lt 13, 3) := by decide +kernel
theorem dJ2_getChar_3b067_18 : decode cJ2_getChar_3b067 18 = .ok (.new 52, 3) := by decide +kernel
theorem dJ2_getChar_3b067_21 : decode cJ2_getChar_3b067 21 = .ok (.dup, 1) := by decide +kernel
theorem dJ2_getChar_3b067_22 : decode cJ2_getChar_3b067 22 = .ok (.ldc 54, 2) := by decide +kernel
theorem dJ2_getChar_3b067_24 : decode cJ2_getChar_3b067 24 = .ok (.invokespecial 56, 3) := by decide +kernel
theorem dJ2_getChar_3b067_27 : decode cJ2_getChar_3b067 27 = .ok (.athrow, 1) := by decide +kernel
theorem dJ2_getChar_3b067_28 : decode cJ2_getChar_3b067 28 = .ok (.iload_n 1, 1) := by decide +kernel
theorem dJ2_getChar_3b067_29 : decode cJ2_getChar_3b067 29 = .ok (.iconst 1, 1) := by decide +kernel
theorem dJ2_getChar_3b067_30 : decode cJ2_getChar_3b067 30 = .ok (.ishl, 1) := by decide +kernel
theorem dJ2_getChar_3b067_31 : decode cJ2_getChar_3b067 31 = .ok (.istore_n 1, 1) := by decide +kernel
theorem dJ2_getChar_3b067_32 : decode cJ2_getChar_3b067 32 = .ok (.aload_n 0, 1) := by decide +kernel
theorem dJ2_getChar_3b067_33 : decode cJ2_getChar_3b067 33 = .ok (.iload_n 1, 1) := by decide +kernel
theorem dJ2_getChar_3b067_34 : decode cJ2_getChar_3b067 34 = .ok (.iinc 1 1, 3) := by decide +kernel
theorem dJ2_getChar_3b067_37 : decode cJ2_getChar_3b067 37 = .ok (.baload, 1) := by decide +kernel
theorem dJ2_getChar_3b067_38 : decode cJ2_getChar_3b067 38 = .ok (.sipush 255, 3) := by decide +kernel
theorem dJ2_getChar_3b067_41 : decode cJ2_getChar_3b067 41 = .ok (.iand, 1) := by decide +kernel
theorem dJ2_getChar_3b067_42 : decode cJ2_getChar_3b067 42 = .ok (.getstatic 59, 3) := by decide +kernel
theorem dJ2_getChar_3b067_45 : decode cJ2_getChar_3b067 45 = .ok (.ishl, 1) := by decide +kernel
theorem dJ2_getChar_3b067_46 : decode cJ2_getChar_3b067 46 = .ok (.aload_n 0, 1) := by decide +kernel
theorem dJ2_getChar_3b067_47 : decode cJ2_getChar_3b067 47 = .ok (.iload_n 1, 1) := by decide +kernel
theorem dJ2_getChar_3b067_48 : decode cJ2_getChar_3b067 48 = .ok (.baload, 1) := by decide +kernel
theorem dJ2_getChar_3b067_49 : decode cJ2_getChar_3b067 49 = .ok (.sipush 255, 3) := by decide +kernel
theorem dJ2_getChar_3b067_52 : decode cJ2_getChar_3b067 52 = .ok (.iand, 1) := by decide +kernel
theorem dJ2_getChar_3b067_53 : decode cJ2_getChar_3b067 53 = .ok (.getstatic 63, 3) := by decide +kernel
theorem dJ2_getChar_3b067_56 : decode cJ2_getChar_3b067 56 = .ok (.ishl, 1) := by decide +kernel
theorem dJ2_getChar_3b067_57 : decode cJ2_getChar_3b067 57 = .ok (.ior, 1) := by decide +kernel
theorem dJ2_getChar_3b067_58 : decode cJ2_getChar_3b067 58 = .ok (.i2c, 1) := by decide +kernel
theorem dJ2_getChar_3b067_59 : decode cJ2_getChar_3b067 59 = .ok (.ireturn, 1) := by decide +kernel
theorem dJ2_length_9d52b_0 : decode cJ2_length_9d52b 0 = .ok (.aload_n 0, 1) := by decide +kernel
theorem dJ2_length_9d52b_1 : decode cJ2_length_9d52b 1 = .ok (.arraylength, 1) := by decide +kernel
theorem dJ2_length_9d52b_2 : decode cJ2_length_9d52b 2 = .ok (.iconst 1, 1) := by decide +kernel
theorem dJ2_length_9d52b_3 : decode cJ2_length_9d52b 3 = .ok (.ishr, 1) := by decide +kernel
theorem dJ2_length_9d52b_4 : decode cJ2_length_9d52b 4 = .ok (.ireturn, 1) := by decide +kernel
theorem dJ2_indexOf_4cfef_0 : decode cJ2_indexOf_4cfef 0 = .ok (.iload_n 2, 1) := by decide +kernel
theorem dJ2_indexOf_4cfef_1 : decode cJ2_indexOf_4cfef 1 = .ok (.iconst 0, 1) := by decide +kernel
theorem dJ2_indexOf_4cfef_2 : decode cJ2_indexOf_4cfef 2 = .ok (.invokestatic 224, 3) := by decide +kernel
theorem dJ2_indexOf_4cfef_5 : decode cJ2_indexOf_4cfef 5 = .ok (.istore_n 2, 1) := by decide +kernel
theorem dJ2_indexOf_4cfef_6 : decode cJ2_indexOf_4cfef 6 = .ok (.iload_n 3, 1) := by decide +kernel
theorem dJ2_indexOf_4cfef_7 : decode cJ2_indexOf_4cfef 7 = .ok (.aload_n 0, 1) := by decide +kernel
theorem dJ2_indexOf_4cfef_8 : decode cJ2_indexOf_4cfef 8 = .ok (.arraylength, 1) := by decide +kernel
theorem dJ2_indexOf_4cfef_9 : decode cJ2_indexOf_4cfef 9 = .ok (.iconst 1, 1) := by decide +kernel
theorem dJ2_indexOf_4cfef_10 : decode cJ2_indexOf_4cfef 10 = .ok (.ishr, 1) := by decide +kernel
theorem dJ2_indexOf_4cfef_11 : decode cJ2_indexOf_4cfef 11 = .ok (.invokestatic 183, 3) := by decide +kernel
theorem dJ2_indexOf_4cfef_14 : decode cJ2_indexOf_4cfef 14 = .ok (.istore_n 3, 1) := by decide +kernel
theorem dJ2_indexOf_4cfef_15 : decode cJ2_indexOf_4cfef 15 = .ok (.iload_n 2, 1) := by decide +kernel
theorem dJ2_indexOf_4cfef_16 : decode cJ2_indexOf_4cfef 16 = .ok (.iload_n 3, 1) := by decide +kernel
theorem dJ2_indexOf_4cfef_17 : decode cJ2_indexOf_4cfef 17 = .ok (.if_icmp .lt 5, 3) := by decide +kernel
theorem dJ2_indexOf_4cfef_20 : decode cJ2_indexOf_4cfef 20 = .ok (.iconst (-1), 1) := by decide +kernel
theorem dJ2_indexOf_4cfef_21 : decode cJ2_indexOf_4cfef 21 = .ok (.ireturn, 1) := by decide +kernel
theorem dJ2_indexOf_4cfef_22 : decode cJ2_indexOf_4cfef 22 = .ok (.iload_n 1, 1) := by decide +kernel
theorem dJ2_indexOf_4cfef_23 : decode cJ2_indexOf_4cfef 23 = .ok (.ldc 227, 2) := by decide +kernel
theorem dJ2_indexOf_4cfef_25 : decode cJ2_indexOf_4cfef 25 = .ok (.if_icmp .ge 11, 3) := by decide +kernel
theorem dJ2_indexOf_4cfef_28 : decode cJ2_indexOf_4cfef 28 = .ok (.aload_n 0, 1) := by decide +kernel
theorem dJ2_indexOf_4cfef_29 : decode cJ2_indexOf_4cfef 29 = .ok (.iload_n 1, 1) := by decide +kernel
theorem dJ2_indexOf_4cfef_30 : decode cJ2_indexOf_4cfef 30 = .ok (.iload_n 2, 1) := by decide +kernel
theorem dJ2_indexOf_4cfef_31 : decode cJ2_indexOf_4cfef 31 = .ok (.iload_n 3, 1) := by decide +kernel
theorem dJ2_indexOf_4cfef_32 : decode cJ2_indexOf_4cfef 32 = .ok (.invokestatic 228, 3) := by decide +kernel
theorem dJ2_indexOf_4cfef_35 : decode cJ2_indexOf_4cfef 35 = .ok (.ireturn, 1) := by decide +kernel
theorem dJ2_indexOf_4cfef_36 : decode cJ2_indexOf_4cfef 36 = .ok (.aload_n 0, 1) := by decide +kernel
theorem dJ2_indexOf_4cfef_37 : decode cJ2_indexOf_4cfef 37 = .ok (.iload_n 1, 1) := by decide +kernel
theorem dJ2_indexOf_4cfef_38 : decode cJ2_indexOf_4cfef 38 = .ok (.iload_n 2, 1) := by decide +kernel
theorem dJ2_indexOf_4cfef_39 : decode cJ2_indexOf_4cfef 39 = .ok (.iload_n 3, 1) := by decide +kernel
theorem dJ2_indexOf_4cfef_40 : decode cJ2_indexOf_4cfef 40 = .ok (.invokestatic 232, 3) := by decide +kernel
theorem dJ2_indexOf_4cfef_43 : decode cJ2_indexOf_4cfef 43 = .ok (.ireturn, 1) := by decide +kernel
theorem dJ2_indexOfChar_4cfef_0 : decode cJ2_indexOfChar_4cfef 0 = .ok (.iload_n 2, 1) := by decide +kernel
theorem dJ2_indexOfChar_4cfef_1 : decode cJ2_indexOfChar_4cfef 1 = .ok (.iload_n 3, 1) := by decide +kernel
theorem dJ2_indexOfChar_4cfef_2 : decode cJ2_indexOfChar_4cfef 2 = .ok (.aload_n 0, 1) := by decide +kernel
theorem dJ2_indexOfChar_4cfef_3 : decode cJ2_indexOfChar_4cfef 3 = .ok (.invokestatic 96, 3) := by decide +kernel
theorem dJ2_indexOfChar_4cfef_6 : decode cJ2_indexOfChar_4cfef 6 = .ok (.aload_n 0, 1) := by decide +kernel
theorem dJ2_indexOfChar_4cfef_7 : decode cJ2_indexOfChar_4cfef 7 = .ok (.iload_n 1, 1) := by decide +kernel
theorem dJ2_indexOfChar_4cfef_8 : decode cJ2_indexOfChar_4cfef 8 = .ok (.iload_n 2, 1) := by decide +kernel
theorem dJ2_indexOfChar_4cfef_9 : decode cJ2_indexOfChar_4cfef 9 = .ok (.iload_n 3, 1) := by decide +kernel
theorem dJ2_indexOfChar_4cfef_10 : decode cJ2_indexOfChar_4cfef 10 = .ok (.invokestatic 244, 3) := by decide +kernel
theorem dJ2_indexOfChar_4cfef_13 : decode cJ2_indexOfChar_4cfef 13 = .ok (.ireturn, 1) := by decide +kernel
theorem dJ2_indexOfCharUnsafe_4cfef_0 : decode cJ2_indexOfCharUnsafe_4cfef 0 = .ok (.iload_n 2, 1) := by decide +kernel
theorem dJ2_indexOfCharUnsafe_4cfef_1 : decode cJ2_indexOfCharUnsafe_4cfef 1 = .ok (.istore 4, 2) := by decide +kernel
theorem dJ2_indexOfCharUnsafe_4cfef_3 : decode cJ2_indexOfCharUnsafe_4cfef 3 = .ok (.iload 4, 2) := by decide +kernel
theorem dJ2_indexOfCharUnsafe_4cfef_5 : decode cJ2_indexOfCharUnsafe_4cfef 5 = .ok (.iload_n 3, 1) := by decide +kernel
theorem dJ2_indexOfCharUnsafe_4cfef_6 : decode cJ2_indexOfCharUnsafe_4cfef 6 = .ok (.if_icmp .ge 22, 3) := by decide +kernel
theorem dJ2_indexOfCharUnsafe_4cfef_9 : decode cJ2_indexOfCharUnsafe_4cfef 9 = .ok (.aload_n 0, 1) := by decide +kernel
theorem dJ2_indexOfCharUnsafe_4cfef_10 : decode cJ2_indexOfCharUnsafe_4cfef 10 = .ok (.iload 4, 2) := by decide +kernel
theorem dJ2_indexOfCharUnsafe_4cfef_12 : decode cJ2_indexOfCharUnsafe_4cfef 12 = .ok (.invokestatic 71, 3) := by decide +kernel
theorem dJ2_indexOfCharUnsafe_4cfef_15 : decode cJ2_indexOfCharUnsafe_4cfef 15 = .ok (.iload_n 1, 1) := by decide +kernel
theorem dJ2_indexOfCharUnsafe_4cfef_16 : decode cJ2_indexOfCharUnsafe_4cfef 16 = .ok (.if_icmp .ne 6, 3) := by decide +kernel
theorem dJ2_indexOfCharUnsafe_4cfef_19 : decode cJ2_indexOfCharUnsafe_4cfef 19 = .ok (.iload 4, 2) := by decide +kernel
theorem dJ2_indexOfCharUnsafe_4cfef_21 : decode cJ2_indexOfCharUnsafe_4cfef 21 = .ok (.ireturn, 1) := by decide +kernel
theorem dJ2_indexOfCharUnsafe_4cfef_22 : decode cJ2_indexOfCharUnsafe_4cfef 22 = .ok (.iinc 4 1, 3) := by decide +kernel
theorem dJ2_indexOfCharUnsafe_4cfef_25 : decode cJ2_indexOfCharUnsafe_4cfef 25 = .ok (.goto (-22), 3) := by decide +kernel
theorem dJ2_indexOfCharUnsafe_4cfef_28 : decode cJ2_indexOfCharUnsafe_4cfef 28 = .ok (.iconst (-1), 1) := by decide +kernel
theorem dJ2_indexOfCharUnsafe_4cfef_29 : decode cJ2_indexOfCharUnsafe_4cfef 29 = .ok (.ireturn, 1) := by decide +kernel
theorem dJ2_indexOfSupplementary_4cfef_0 : decode cJ2_indexOfSupplementary_4cfef 0 = .ok (.iload_n 1, 1) := by decide +kernel
theorem dJ2_indexOfSupplementary_4cfef_1 : decode cJ2_indexOfSupplementary_4cfef 1 = .ok (.invokestatic 164, 3) := by decide +kernel
theorem dJ2_indexOfSupplementary_4cfef_4 : decode cJ2_indexOfSupplementary_4cfef 4 = .ok (.ifCond .eq 65, 3) := by decide +kernel
theorem dJ2_indexOfSupplementary_4cfef_7 : decode cJ2_indexOfSupplementary_4cfef 7 = .ok (.iload_n 1, 1) := by decide +kernel
theorem dJ2_indexOfSupplementary_4cfef_8 : decode cJ2_indexOfSupplementary_4cfef 8 = .ok (.invokestatic 157, 3) := by decide +kernel
theorem dJ2_indexOfSupplementary_4cfef_11 : decode cJ2_indexOfSupplementary_4cfef 11 = .ok (.istore 4, 2) := by decide +kernel
theorem dJ2_indexOfSupplementary_4cfef_13 : decode cJ2_indexOfSupplementary_4cfef 13 = .ok (.iload_n 1, 1) := by decide +kernel
theorem dJ2_indexOfSupplementary_4cfef_14 : decode cJ2_indexOfSupplementary_4cfef 14 = .ok (.invokestatic 161, 3) := by decide +kernel
theorem dJ2_indexOfSupplementary_4cfef_17 : decode cJ2_indexOfSupplementary_4cfef 17 = .ok (.istore 5, 2) := by decide +kernel
theorem dJ2_indexOfSupplementary_4cfef_19 : decode cJ2_indexOfSupplementary_4cfef 19 = .ok (.iload_n 2, 1) := by decide +kernel
theorem dJ2_indexOfSupplementary_4cfef_20 : decode cJ2_indexOfSupplementary_4cfef 20 = .ok (.iload_n 3, 1) := by decide +kernel
theorem dJ2_indexOfSupplementary_4cfef_21 : decode cJ2_indexOfSupplementary_4cfef 21 = .ok (.aload_n 0, 1) := by decide +kernel
theorem dJ2_indexOfSupplementary_4cfef_22 : decode cJ2_indexOfSupplementary_4cfef 22 = .ok (.invokestatic 96, 3) := by decide +kernel
theorem dJ2_indexOfSupplementary_4cfef_25 : decode cJ2_indexOfSupplementary_4cfef 25 = .ok (.iload_n 2, 1) := by decide +kernel
theorem dJ2_indexOfSupplementary_4cfef_26 : decode cJ2_indexOfSupplementary_4cfef 26 = .ok (.istore 6, 2) := by decide +kernel
theorem dJ2_indexOfSupplementary_4cfef_28 : decode cJ2_indexOfSupplementary_4cfef 28 = .ok (.iload 6, 2) := by decide +kernel
theorem dJ2_indexOfSupplementary_4cfef_30 : decode cJ2_indexOfSupplementary_4cfef 30 = .ok (.iload_n 3, 1) := by decide +kernel
theorem dJ2_indexOfSupplementary_4cfef_31 : decode cJ2_indexOfSupplementary_4cfef 31 = .ok (.iconst 1, 1) := by decide +kernel
theorem dJ2_indexOfSupplementary_4cfef_32 : decode cJ2_indexOfSupplementary_4cfef 32 = .ok (.isub, 1) := by decide +kernel
theorem dJ2_indexOfSupplementary_4cfef_33 : decode cJ2_indexOfSupplementary_4cfef 33 = .ok (.if_icmp .ge 36, 3) := by decide +kernel
theorem dJ2_indexOfSupplementary_4cfef_36 : decode cJ2_indexOfSupplementary_4cfef 36 = .ok (.aload_n 0, 1) := by decide +kernel
theorem dJ2_indexOfSupplementary_4cfef_37 : decode cJ2_indexOfSupplementary_4cfef 37 = .ok (.iload 6, 2) := by decide +kernel
theorem dJ2_indexOfSupplementary_4cfef_39 : decode cJ2_indexOfSupplementary_4cfef 39 = .ok (.invokestatic 71, 3) := by decide +kernel
theorem dJ2_indexOfSupplementary_4cfef_42 : decode cJ2_indexOfSupplementary_4cfef 42 = .ok (.iload 4, 2) := by decide +kernel
theorem dJ2_indexOfSupplementary_4cfef_44 : decode cJ2_indexOfSupplementary_4cfef 44 = .ok (.if_icmp .ne 19, 3) := by decide +kernel
theorem dJ2_indexOfSupplementary_4cfef_47 : decode cJ2_indexOfSupplementary_4cfef 47 = .ok (.aload_n 0, 1) := by decide +kernel
theorem dJ2_indexOfSupplementary_4cfef_48 : decode cJ2_indexOfSupplementary_4cfef 48 = .ok (.iload 6, 2) := by decide +kernel
theorem dJ2_indexOfSupplementary_4cfef_50 : decode cJ2_indexOfSupplementary_4cfef 50 = .ok (.iconst 1, 1) := by decide +kernel
theorem dJ2_indexOfSupplementary_4cfef_51 : decode cJ2_indexOfSupplementary_4cfef 51 = .ok (.iadd, 1) := by decide +kernel
theorem dJ2_indexOfSupplementary_4cfef_52 : decode cJ2_indexOfSupplementary_4cfef 52 = .ok (.invokestatic 71, 3) := by decide +kernel
theorem dJ2_indexOfSupplementary_4cfef_55 : decode cJ2_indexOfSupplementary_4cfef 55 = .ok (.iload 5, 2) := by decide +kernel
theorem dJ2_indexOfSupplementary_4cfef_57 : decode cJ2_indexOfSupplementary_4cfef 57 = .ok (.if_icmp .ne 6, 3) := by decide +kernel
theorem dJ2_indexOfSupplementary_4cfef_60 : decode cJ2_indexOfSupplementary_4cfef 60 = .ok (.iload 6, 2) := by decide +kernel
theorem dJ2_indexOfSupplementary_4cfef_62 : decode cJ2_indexOfSupplementary_4cfef 62 = .ok (.ireturn, 1) := by decide +kernel
theorem dJ2_indexOfSupplementary_4cfef_63 : decode cJ2_indexOfSupplementary_4cfef 63 = .ok (.iinc 6 1, 3) := by decide +kernel
theorem dJ2_indexOfSupplementary_4cfef_66 : decode cJ2_indexOfSupplementary_4cfef 66 = .ok (.goto (-38), 3) := by decide +kernel
theorem dJ2_indexOfSupplementary_4cfef_69 : decode cJ2_indexOfSupplementary_4cfef 69 = .ok (.iconst (-1), 1) := by decide +kernel
theorem dJ2_indexOfSupplementary_4cfef_70 : decode cJ2_indexOfSupplementary_4cfef 70 = .ok (.ireturn, 1) := by decide +kernel
theorem dJ2_charAt_3b067_0 : decode cJ2_charAt_3b067 0 = .ok (.iload_n 1, 1) := by decide +kernel
theorem dJ2_charAt_3b067_1 : decode cJ2_charAt_3b067 1 = .ok (.aload_n 0, 1) := by decide +kernel
theorem dJ2_charAt_3b067_2 : decode cJ2_charAt_3b067 2 = .ok (.invokestatic 67, 3) := by decide +kernel
theorem dJ2_charAt_3b067_5 : decode cJ2_charAt_3b067 5 = .ok (.aload_n 0, 1) := by decide +kernel
theorem dJ2_charAt_3b067_6 : decode cJ2_charAt_3b067 6 = .ok (.iload_n 1, 1) := by decide +kernel
theorem dJ2_charAt_3b067_7 : decode cJ2_charAt_3b067 7 = .ok (.invokestatic 71, 3) := by decide +kernel
theorem dJ2_charAt_3b067_10 : decode cJ2_charAt_3b067 10 = .ok (.ireturn, 1) := by decide +kernel
theorem dJ2_checkIndex_2214a_0 : decode cJ2_checkIndex_2214a 0 = .ok (.iload_n 0, 1) := by decide +kernel
theorem dJ2_checkIndex_2214a_1 : decode cJ2_checkIndex_2214a 1 = .ok (.aload_n 1, 1) := by decide +kernel
theorem dJ2_checkIndex_2214a_2 : decode cJ2_checkIndex_2214a 2 = .ok (.invokestatic 48, 3) := by decide +kernel
theorem dJ2_checkIndex_2214a_5 : decode cJ2_checkIndex_2214a 5 = .ok (.invokestatic 414, 3) := by decide +kernel
theorem dJ2_checkIndex_2214a_8 : decode cJ2_checkIndex_2214a 8 = .ok (.return_, 1) := by decide +kernel
theorem dJ2_checkBoundsBeginEnd_d044e_0 : decode cJ2_checkBoundsBeginEnd_d044e 0 = .ok (.iload_n 0, 1) := by decide +kernel
theorem dJ2_checkBoundsBeginEnd_d044e_1 : decode cJ2_checkBoundsBeginEnd_d044e 1 = .ok (.iload_n 1, 1) := by decide +kernel
theorem dJ2_checkBoundsBeginEnd_d044e_2 : decode cJ2_checkBoundsBeginEnd_d044e 2 = .ok (.aload_n 2, 1) := by decide +kernel
theorem dJ2_checkBoundsBeginEnd_d044e_3 : decode cJ2_checkBoundsBeginEnd_d044e 3 = .ok (.invokestatic 48, 3) := by decide +kernel
theorem dJ2_checkBoundsBeginEnd_d044e_6 : decode cJ2_checkBoundsBeginEnd_d044e 6 = .ok (.invokestatic 241, 3) := by decide +kernel
theorem dJ2_checkBoundsBeginEnd_d044e_9 : decode cJ2_checkBoundsBeginEnd_d044e 9 = .ok (.return_, 1) := by decide +kernel
theorem dJ7_fill_53178_0 : decode cJ7_fill_53178 0 = .ok (.iconst 0, 1) := by decide +kernel
theorem dJ7_fill_53178_1 : decode cJ7_fill_53178 1 = .ok (.istore_n 2, 1) := by decide +kernel
theorem dJ7_fill_53178_2 : decode cJ7_fill_53178 2 = .ok (.aload_n 0, 1) := by decide +kernel
theorem dJ7_fill_53178_3 : decode cJ7_fill_53178 3 = .ok (.arraylength, 1) := by decide +kernel
theorem dJ7_fill_53178_4 : decode cJ7_fill_53178 4 = .ok (.istore_n 3, 1) := by decide +kernel
theorem dJ7_fill_53178_5 : decode cJ7_fill_53178 5 = .ok (.iload_n 2, 1) := by decide +kernel
theorem dJ7_fill_53178_6 : decode cJ7_fill_53178 6 = .ok (.iload_n 3, 1) := by decide +kernel
theorem dJ7_fill_53178_7 : decode cJ7_fill_53178 7 = .ok (.if_icmp .ge 13, 3) := by decide +kernel
theorem dJ7_fill_53178_10 : decode cJ7_fill_53178 10 = .ok (.aload_n 0, 1) := by decide +kernel
theorem dJ7_fill_53178_11 : decode cJ7_fill_53178 11 = .ok (.iload_n 2, 1) := by decide +kernel
theorem dJ7_fill_53178_12 : decode cJ7_fill_53178 12 = .ok (.iload_n 1, 1) := by decide +kernel
theorem dJ7_fill_53178_13 : decode cJ7_fill_53178 13 = .ok (.iastore, 1) := by decide +kernel
theorem dJ7_fill_53178_14 : decode cJ7_fill_53178 14 = .ok (.iinc 2 1, 3) := by decide +kernel
theorem dJ7_fill_53178_17 : decode cJ7_fill_53178 17 = .ok (.goto (-12), 3) := by decide +kernel
theorem dJ7_fill_53178_20 : decode cJ7_fill_53178 20 = .ok (.return_, 1) := by decide +kernel
theorem dJ3_checkIndex_8e157_0 : decode cJ3_checkIndex_8e157 0 = .ok (.iload_n 0, 1) := by decide +kernel
theorem dJ3_checkIndex_8e157_1 : decode cJ3_checkIndex_8e157 1 = .ok (.ifCond .lt 8, 3) := by decide +kernel
theorem dJ3_checkIndex_8e157_4 : decode cJ3_checkIndex_8e157 4 = .ok (.iload_n 0, 1) := by decide +kernel
theorem dJ3_checkIndex_8e157_5 : decode cJ3_checkIndex_8e157 5 = .ok (.iload_n 1, 1) := by decide +kernel
theorem dJ3_checkIndex_8e157_6 : decode cJ3_checkIndex_8e157 6 = .ok (.if_icmp .lt 10, 3) := by decide +kernel
theorem dJ3_checkIndex_8e157_9 : decode cJ3_checkIndex_8e157 9 = .ok (.aload_n 2, 1) := by decide +kernel
theorem dJ3_checkIndex_8e157_10 : decode cJ3_checkIndex_8e157 10 = .ok (.iload_n 0, 1) := by decide +kernel
theorem dJ3_checkIndex_8e157_11 : decode cJ3_checkIndex_8e157 11 = .ok (.iload_n 1, 1) := by decide +kernel
theorem dJ3_checkIndex_8e157_12 : decode cJ3_checkIndex_8e157 12 = .ok (.invokestatic 95, 3) := by decide +kernel
theorem dJ3_checkIndex_8e157_15 : decode cJ3_checkIndex_8e157 15 = .ok (.athrow, 1) := by decide +kernel
theorem dJ3_checkIndex_8e157_16 : decode cJ3_checkIndex_8e157 16 = .ok (.iload_n 0, 1) := by decide +kernel
theorem dJ3_checkIndex_8e157_17 : decode cJ3_checkIndex_8e157 17 = .ok (.ireturn, 1) := by decide +kernel
theorem dJ3_checkFromToIndex_8c36e_0 : decode cJ3_checkFromToIndex_8c36e 0 = .ok (.iload_n 0, 1) := by decide +kernel
theorem dJ3_checkFromToIndex_8c36e_1 : decode cJ3_checkFromToIndex_8c36e 1 = .ok (.ifCond .lt 13, 3) := by decide +kernel
theorem dJ3_checkFromToIndex_8c36e_4 : decode cJ3_checkFromToIndex_8c36e 4 = .ok (.iload_n 0, 1) := by decide +kernel
theorem dJ3_checkFromToIndex_8c36e_5 : decode cJ3_checkFromToIndex_8c36e 5 = .ok (.iload_n 1, 1) := by decide +kernel
theorem dJ3_checkFromToIndex_8c36e_6 : decode cJ3_checkFromToIndex_8c36e 6 = .ok (.if_icmp .gt 8, 3) := by decide +kernel
theorem dJ3_checkFromToIndex_8c36e_9 : decode cJ3_checkFromToIndex_8c36e 9 = .ok (.iload_n 1, 1) := by decide +kernel
theorem dJ3_checkFromToIndex_8c36e_10 : decode cJ3_checkFromToIndex_8c36e 10 = .ok (.iload_n 2, 1) := by decide +kernel
theorem dJ3_checkFromToIndex_8c36e_11 : decode cJ3_checkFromToIndex_8c36e 11 = .ok (.if_icmp .le 11, 3) := by decide +kernel
theorem dJ3_checkFromToIndex_8c36e_14 : decode cJ3_checkFromToIndex_8c36e 14 = .ok (.aload_n 3, 1) := by decide +kernel
theorem dJ3_checkFromToIndex_8c36e_15 : decode cJ3_checkFromToIndex_8c36e 15 = .ok (.iload_n 0, 1) := by decide +kernel
theorem dJ3_checkFromToIndex_8c36e_16 : decode cJ3_checkFromToIndex_8c36e 16 = .ok (.iload_n 1, 1) := by decide +kernel
theorem dJ3_checkFromToIndex_8c36e_17 : decode cJ3_checkFromToIndex_8c36e 17 = .ok (.iload_n 2, 1) := by decide +kernel
theorem dJ3_checkFromToIndex_8c36e_18 : decode cJ3_checkFromToIndex_8c36e 18 = .ok (.invokestatic 99, 3) := by decide +kernel
theorem dJ3_checkFromToIndex_8c36e_21 : decode cJ3_checkFromToIndex_8c36e 21 = .ok (.athrow, 1) := by decide +kernel
theorem dJ3_checkFromToIndex_8c36e_22 : decode cJ3_checkFromToIndex_8c36e 22 = .ok (.iload_n 0, 1) := by decide +kernel
theorem dJ3_checkFromToIndex_8c36e_23 : decode cJ3_checkFromToIndex_8c36e 23 = .ok (.ireturn, 1) := by decide +kernel
theorem dL_addLine_0 : decode cL_addLine 0 = .ok (.aload 5, 2) := by decide +kernel
theorem dL_addLine_2 : decode cL_addLine 2 = .ok (.iconst 0, 1) := by decide +kernel
theorem dL_addLine_3 : decode cL_addLine 3 = .ok (.aload_n 0, 1) := by decide +kernel
theorem dL_addLine_4 : decode cL_addLine 4 = .ok (.iload_n 1, 1) := by decide +kernel
theorem dL_addLine_5 : decode cL_addLine 5 = .ok (.iload_n 2, 1) := by decide +kernel
theorem dL_addLine_6 : decode cL_addLine 6 = .ok (.iload_n 3, 1) := by decide +kernel
theorem dL_addLine_7 : decode cL_addLine 7 = .ok (.iload 4, 2) := by decide +kernel
theorem dL_addLine_9 : decode cL_addLine 9 = .ok (.invokevirtual 7, 3) := by decide +kernel
theorem dL_addLine_12 : decode cL_addLine 12 = .ok (.i2l, 1) := by decide +kernel
theorem dL_addLine_13 : decode cL_addLine 13 = .ok (.lastore, 1) := by decide +kernel
theorem dL_addLine_14 : decode cL_addLine 14 = .ok (.goto 15, 3) := by decide +kernel
theorem dL_addLine_17 : decode cL_addLine 17 = .ok (.astore 6, 2) := by decide +kernel
theorem dL_addLine_19 : decode cL_addLine 19 = .ok (.iconst 1, 1) := by decide +kernel
theorem dL_addLine_20 : decode cL_addLine 20 = .ok (.ireturn, 1) := by decide +kernel
theorem dL_addLine_21 : decode cL_addLine 21 = .ok (.astore 6, 2) := by decide +kernel
theorem dL_addLine_23 : decode cL_addLine 23 = .ok (.iconst 2, 1) := by decide +kernel
theorem dL_addLine_24 : decode cL_addLine 24 = .ok (.ireturn, 1) := by decide +kernel
theorem dL_addLine_25 : decode cL_addLine 25 = .ok (.astore 6, 2) := by decide +kernel
theorem dL_addLine_27 : decode cL_addLine 27 = .ok (.iconst 3, 1) := by decide +kernel
theorem dL_addLine_28 : decode cL_addLine 28 = .ok (.ireturn, 1) := by decide +kernel
theorem dL_addLine_29 : decode cL_addLine 29 = .ok (.iconst 0, 1) := by decide +kernel
theorem dL_addLine_30 : decode cL_addLine 30 = .ok (.ireturn, 1) := by decide +kernel
theorem dL_setOrder_0 : decode cL_setOrder 0 = .ok (.aload_n 3, 1) := by decide +kernel
theorem dL_setOrder_1 : decode cL_setOrder 1 = .ok (.iconst 0, 1) := by decide +kernel
theorem dL_setOrder_2 : decode cL_setOrder 2 = .ok (.aload_n 0, 1) := by decide +kernel
theorem dL_setOrder_3 : decode cL_setOrder 3 = .ok (.iload_n 1, 1) := by decide +kernel
theorem dL_setOrder_4 : decode cL_setOrder 4 = .ok (.iload_n 2, 1) := by decide +kernel
theorem dL_setOrder_5 : decode cL_setOrder 5 = .ok (.invokevirtual 19, 3) := by decide +kernel
theorem dL_setOrder_8 : decode cL_setOrder 8 = .ok (.i2l, 1) := by decide +kernel
theorem dL_setOrder_9 : decode cL_setOrder 9 = .ok (.lastore, 1) := by decide +kernel
theorem dL_setOrder_10 : decode cL_setOrder 10 = .ok (.goto 15, 3) := by decide +kernel
theorem dL_setOrder_13 : decode cL_setOrder 13 = .ok (.astore 4, 2) := by decide +kernel
theorem dL_setOrder_15 : decode cL_setOrder 15 = .ok (.iconst 1, 1) := by decide +kernel
theorem dL_setOrder_16 : decode cL_setOrder 16 = .ok (.ireturn, 1) := by decide +kernel
theorem dL_setOrder_17 : decode cL_setOrder 17 = .ok (.astore 4, 2) := by decide +kernel
theorem dL_setOrder_19 : decode cL_setOrder 19 = .ok (.iconst 2, 1) := by decide +kernel
theorem dL_setOrder_20 : decode cL_setOrder 20 = .ok (.ireturn, 1) := by decide +kernel
theorem dL_setOrder_21 : decode cL_setOrder 21 = .ok (.astore 4, 2) := by decide +kernel
theorem dL_setOrder_23 : decode cL_setOrder 23 = .ok (.iconst 3, 1) := by decide +kernel
theorem dL_setOrder_24 : decode cL_setOrder 24 = .ok (.ireturn, 1) := by decide +kernel
theorem dL_setOrder_25 : decode cL_setOrder 25 = .ok (.iconst 0, 1) := by decide +kernel
theorem dL_setOrder_26 : decode cL_setOrder 26 = .ok (.ireturn, 1) := by decide +kernel
theorem dL_rally_0 : decode cL_rally 0 = .ok (.aload_n 2, 1) := by decide +kernel
theorem dL_rally_1 : decode cL_rally 1 = .ok (.iconst 0, 1) := by decide +kernel
theorem dL_rally_2 : decode cL_rally 2 = .ok (.aload_n 0, 1) := by decide +kernel
theorem dL_rally_3 : decode cL_rally 3 = .ok (.iload_n 1, 1) := by decide +kernel
theorem dL_rally_4 : decode cL_rally 4 = .ok (.invokevirtual 25, 3) := by decide +kernel
theorem dL_rally_7 : decode cL_rally 7 = .ok (.i2l, 1) := by decide +kernel
theorem dL_rally_8 : decode cL_rally 8 = .ok (.lastore, 1) := by decide +kernel
theorem dL_rally_9 : decode cL_rally 9 = .ok (.goto 12, 3) := by decide +kernel
theorem dL_rally_12 : decode cL_rally 12 = .ok (.astore_n 3, 1) := by decide +kernel
theorem dL_rally_13 : decode cL_rally 13 = .ok (.iconst 1, 1) := by decide +kernel
theorem dL_rally_14 : decode cL_rally 14 = .ok (.ireturn, 1) := by decide +kernel
theorem dL_rally_15 : decode cL_rally 15 = .ok (.astore_n 3, 1) := by decide +kernel
theorem dL_rally_16 : decode cL_rally 16 = .ok (.iconst 2, 1) := by decide +kernel
theorem dL_rally_17 : decode cL_rally 17 = .ok (.ireturn, 1) := by decide +kernel
theorem dL_rally_18 : decode cL_rally 18 = .ok (.astore_n 3, 1) := by decide +kernel
theorem dL_rally_19 : decode cL_rally 19 = .ok (.iconst 3, 1) := by decide +kernel
theorem dL_rally_20 : decode cL_rally 20 = .ok (.ireturn, 1) := by decide +kernel
theorem dL_rally_21 : decode cL_rally 21 = .ok (.iconst 0, 1) := by decide +kernel
theorem dL_rally_22 : decode cL_rally 22 = .ok (.ireturn, 1) := by decide +kernel
theorem dL_sideOf_0 : decode cL_sideOf 0 = .ok (.aload_n 2, 1) := by decide +kernel
theorem dL_sideOf_1 : decode cL_sideOf 1 = .ok (.iconst 0, 1) := by decide +kernel
theorem dL_sideOf_2 : decode cL_sideOf 2 = .ok (.aload_n 0, 1) := by decide +kernel
theorem dL_sideOf_3 : decode cL_sideOf 3 = .ok (.iload_n 1, 1) := by decide +kernel
theorem dL_sideOf_4 : decode cL_sideOf 4 = .ok (.invokevirtual 29, 3) := by decide +kernel
theorem dL_sideOf_7 : decode cL_sideOf 7 = .ok (.i2l, 1) := by decide +kernel
theorem dL_sideOf_8 : decode cL_sideOf 8 = .ok (.lastore, 1) := by decide +kernel
theorem dL_sideOf_9 : decode cL_sideOf 9 = .ok (.goto 6, 3) := by decide +kernel
theorem dL_sideOf_12 : decode cL_sideOf 12 = .ok (.astore_n 3, 1) := by decide +kernel
theorem dL_sideOf_13 : decode cL_sideOf 13 = .ok (.iconst 1, 1) := by decide +kernel
theorem dL_sideOf_14 : decode cL_sideOf 14 = .ok (.ireturn, 1) := by decide +kernel
theorem dL_sideOf_15 : decode cL_sideOf 15 = .ok (.iconst 0, 1) := by decide +kernel
theorem dL_sideOf_16 : decode cL_sideOf 16 = .ok (.ireturn, 1) := by decide +kernel
theorem dL_laneOf_0 : decode cL_laneOf 0 = .ok (.aload_n 2, 1) := by decide +kernel
theorem dL_laneOf_1 : decode cL_laneOf 1 = .ok (.iconst 0, 1) := by decide +kernel
theorem dL_laneOf_2 : decode cL_laneOf 2 = .ok (.aload_n 0, 1) := by decide +kernel
theorem dL_laneOf_3 : decode cL_laneOf 3 = .ok (.iload_n 1, 1) := by decide +kernel
theorem dL_laneOf_4 : decode cL_laneOf 4 = .ok (.invokevirtual 32, 3) := by decide +kernel
theorem dL_laneOf_7 : decode cL_laneOf 7 = .ok (.i2l, 1) := by decide +kernel
theorem dL_laneOf_8 : decode cL_laneOf 8 = .ok (.lastore, 1) := by decide +kernel
theorem dL_laneOf_9 : decode cL_laneOf 9 = .ok (.goto 9, 3) := by decide +kernel
theorem dL_laneOf_12 : decode cL_laneOf 12 = .ok (.astore_n 3, 1) := by decide +kernel
theorem dL_laneOf_13 : decode cL_laneOf 13 = .ok (.iconst 1, 1) := by decide +kernel
theorem dL_laneOf_14 : decode cL_laneOf 14 = .ok (.ireturn, 1) := by decide +kernel
theorem dL_laneOf_15 : decode cL_laneOf 15 = .ok (.astore_n 3, 1) := by decide +kernel
theorem dL_laneOf_16 : decode cL_laneOf 16 = .ok (.iconst 2, 1) := by decide +kernel
theorem dL_laneOf_17 : decode cL_laneOf 17 = .ok (.ireturn, 1) := by decide +kernel
theorem dL_laneOf_18 : decode cL_laneOf 18 = .ok (.iconst 0, 1) := by decide +kernel
theorem dL_laneOf_19 : decode cL_laneOf 19 = .ok (.ireturn, 1) := by decide +kernel
theorem dL_columnOf_0 : decode cL_columnOf 0 = .ok (.aload_n 2, 1) := by decide +kernel
theorem dL_columnOf_1 : decode cL_columnOf 1 = .ok (.iconst 0, 1) := by decide +kernel
theorem dL_columnOf_2 : decode cL_columnOf 2 = .ok (.aload_n 0, 1) := by decide +kernel
theorem dL_columnOf_3 : decode cL_columnOf 3 = .ok (.iload_n 1, 1) := by decide +kernel
theorem dL_columnOf_4 : decode cL_columnOf 4 = .ok (.invokevirtual 37, 3) := by decide +kernel
theorem dL_columnOf_7 : decode cL_columnOf 7 = .ok (.i2l, 1) := by decide +kernel
theorem dL_columnOf_8 : decode cL_columnOf 8 = .ok (.lastore, 1) := by decide +kernel
theorem dL_columnOf_9 : decode cL_columnOf 9 = .ok (.goto 9, 3) := by decide +kernel
theorem dL_columnOf_12 : decode cL_columnOf 12 = .ok (.astore_n 3, 1) := by decide +kernel
theorem dL_columnOf_13 : decode cL_columnOf 13 = .ok (.iconst 1, 1) := by decide +kernel
theorem dL_columnOf_14 : decode cL_columnOf 14 = .ok (.ireturn, 1) := by decide +kernel
theorem dL_columnOf_15 : decode cL_columnOf 15 = .ok (.astore_n 3, 1) := by decide +kernel
theorem dL_columnOf_16 : decode cL_columnOf 16 = .ok (.iconst 2, 1) := by decide +kernel
theorem dL_columnOf_17 : decode cL_columnOf 17 = .ok (.ireturn, 1) := by decide +kernel
theorem dL_columnOf_18 : decode cL_columnOf 18 = .ok (.iconst 0, 1) := by decide +kernel
theorem dL_columnOf_19 : decode cL_columnOf 19 = .ok (.ireturn, 1) := by decide +kernel
theorem dL_kindOf_0 : decode cL_kindOf 0 = .ok (.aload_n 2, 1) := by decide +kernel
theorem dL_kindOf_1 : decode cL_kindOf 1 = .ok (.iconst 0, 1) := by decide +kernel
theorem dL_kindOf_2 : decode cL_kindOf 2 = .ok (.aload_n 0, 1) := by decide +kernel
theorem dL_kindOf_3 : decode cL_kindOf 3 = .ok (.iload_n 1, 1) := by decide +kernel
theorem dL_kindOf_4 : decode cL_kindOf 4 = .ok (.invokevirtual 40, 3) := by decide +kernel
theorem dL_kindOf_7 : decode cL_kindOf 7 = .ok (.i2l, 1) := by decide +kernel
theorem dL_kindOf_8 : decode cL_kindOf 8 = .ok (.lastore, 1) := by decide +kernel
theorem dL_kindOf_9 : decode cL_kindOf 9 = .ok (.goto 6, 3) := by decide +kernel
theorem dL_kindOf_12 : decode cL_kindOf 12 = .ok (.astore_n 3, 1) := by decide +kernel
theorem dL_kindOf_13 : decode cL_kindOf 13 = .ok (.iconst 1, 1) := by decide +kernel
theorem dL_kindOf_14 : decode cL_kindOf 14 = .ok (.ireturn, 1) := by decide +kernel
theorem dL_kindOf_15 : decode cL_kindOf 15 = .ok (.iconst 0, 1) := by decide +kernel
theorem dL_kindOf_16 : decode cL_kindOf 16 = .ok (.ireturn, 1) := by decide +kernel
theorem dL_strengthOf_0 : decode cL_strengthOf 0 = .ok (.aload_n 2, 1) := by decide +kernel
theorem dL_strengthOf_1 : decode cL_strengthOf 1 = .ok (.iconst 0, 1) := by decide +kernel
theorem dL_strengthOf_2 : decode cL_strengthOf 2 = .ok (.aload_n 0, 1) := by decide +kernel
theorem dL_strengthOf_3 : decode cL_strengthOf 3 = .ok (.iload_n 1, 1) := by decide +kernel
theorem dL_strengthOf_4 : decode cL_strengthOf 4 = .ok (.invokevirtual 44, 3) := by decide +kernel
theorem dL_strengthOf_7 : decode cL_strengthOf 7 = .ok (.i2l, 1) := by decide +kernel
theorem dL_strengthOf_8 : decode cL_strengthOf 8 = .ok (.lastore, 1) := by decide +kernel
theorem dL_strengthOf_9 : decode cL_strengthOf 9 = .ok (.goto 6, 3) := by decide +kernel
theorem dL_strengthOf_12 : decode cL_strengthOf 12 = .ok (.astore_n 3, 1) := by decide +kernel
theorem dL_strengthOf_13 : decode cL_strengthOf 13 = .ok (.iconst 1, 1) := by decide +kernel
theorem dL_strengthOf_14 : decode cL_strengthOf 14 = .ok (.ireturn, 1) := by decide +kernel
theorem dL_strengthOf_15 : decode cL_strengthOf 15 = .ok (.iconst 0, 1) := by decide +kernel
theorem dL_strengthOf_16 : decode cL_strengthOf 16 = .ok (.ireturn, 1) := by decide +kernel
theorem dL_moraleOf_0 : decode cL_moraleOf 0 = .ok (.aload_n 2, 1) := by decide +kernel
theorem dL_moraleOf_1 : decode cL_moraleOf 1 = .ok (.iconst 0, 1) := by decide +kernel
theorem dL_moraleOf_2 : decode cL_moraleOf 2 = .ok (.aload_n 0, 1) := by decide +kernel
theorem dL_moraleOf_3 : decode cL_moraleOf 3 = .ok (.iload_n 1, 1) := by decide +kernel
theorem dL_moraleOf_4 : decode cL_moraleOf 4 = .ok (.invokevirtual 47, 3) := by decide +kernel
theorem dL_moraleOf_7 : decode cL_moraleOf 7 = .ok (.i2l, 1) := by decide +kernel
theorem dL_moraleOf_8 : decode cL_moraleOf 8 = .ok (.lastore, 1) := by decide +kernel
theorem dL_moraleOf_9 : decode cL_moraleOf 9 = .ok (.goto 6, 3) := by decide +kernel
theorem dL_moraleOf_12 : decode cL_moraleOf 12 = .ok (.astore_n 3, 1) := by decide +kernel
theorem dL_moraleOf_13 : decode cL_moraleOf 13 = .ok (.iconst 1, 1) := by decide +kernel
theorem dL_moraleOf_14 : decode cL_moraleOf 14 = .ok (.ireturn, 1) := by decide +kernel
theorem dL_moraleOf_15 : decode cL_moraleOf 15 = .ok (.iconst 0, 1) := by decide +kernel
theorem dL_moraleOf_16 : decode cL_moraleOf 16 = .ok (.ireturn, 1) := by decide +kernel
theorem dL_orderOf_0 : decode cL_orderOf 0 = .ok (.aload_n 2, 1) := by decide +kernel
theorem dL_orderOf_1 : decode cL_orderOf 1 = .ok (.iconst 0, 1) := by decide +kernel
theorem dL_orderOf_2 : decode cL_orderOf 2 = .ok (.aload_n 0, 1) := by decide +kernel
theorem dL_orderOf_3 : decode cL_orderOf 3 = .ok (.iload_n 1, 1) := by decide +kernel
theorem dL_orderOf_4 : decode cL_orderOf 4 = .ok (.invokevirtual 50, 3) := by decide +kernel
theorem dL_orderOf_7 : decode cL_orderOf 7 = .ok (.i2l, 1) := by decide +kernel
theorem dL_orderOf_8 : decode cL_orderOf 8 = .ok (.lastore, 1) := by decide +kernel
theorem dL_orderOf_9 : decode cL_orderOf 9 = .ok (.goto 9, 3) := by decide +kernel
theorem dL_orderOf_12 : decode cL_orderOf 12 = .ok (.astore_n 3, 1) := by decide +kernel
theorem dL_orderOf_13 : decode cL_orderOf 13 = .ok (.iconst 1, 1) := by decide +kernel
theorem dL_orderOf_14 : decode cL_orderOf 14 = .ok (.ireturn, 1) := by decide +kernel
theorem dL_orderOf_15 : decode cL_orderOf 15 = .ok (.astore_n 3, 1) := by decide +kernel
theorem dL_orderOf_16 : decode cL_orderOf 16 = .ok (.iconst 2, 1) := by decide +kernel
theorem dL_orderOf_17 : decode cL_orderOf 17 = .ok (.ireturn, 1) := by decide +kernel
theorem dL_orderOf_18 : decode cL_orderOf 18 = .ok (.iconst 0, 1) := by decide +kernel
theorem dL_orderOf_19 : decode cL_orderOf 19 = .ok (.ireturn, 1) := by decide +kernel
theorem dL_isStanding_0 : decode cL_isStanding 0 = .ok (.aload_n 2, 1) := by decide +kernel
theorem dL_isStanding_1 : decode cL_isStanding 1 = .ok (.iconst 0, 1) := by decide +kernel
theorem dL_isStanding_2 : decode cL_isStanding 2 = .ok (.aload_n 0, 1) := by decide +kernel
theorem dL_isStanding_3 : decode cL_isStanding 3 = .ok (.iload_n 1, 1) := by decide +kernel
theorem dL_isStanding_4 : decode cL_isStanding 4 = .ok (.invokevirtual 53, 3) := by decide +kernel
theorem dL_isStanding_7 : decode cL_isStanding 7 = .ok (.ifCond .eq 7, 3) := by decide +kernel
theorem dL_isStanding_10 : decode cL_isStanding 10 = .ok (.lconst 1, 1) := by decide +kernel
theorem dL_isStanding_11 : decode cL_isStanding 11 = .ok (.goto 4, 3) := by decide +kernel
theorem dL_isStanding_14 : decode cL_isStanding 14 = .ok (.lconst 0, 1) := by decide +kernel
theorem dL_isStanding_15 : decode cL_isStanding 15 = .ok (.lastore, 1) := by decide +kernel
theorem dL_isStanding_16 : decode cL_isStanding 16 = .ok (.goto 6, 3) := by decide +kernel
theorem dL_isStanding_19 : decode cL_isStanding 19 = .ok (.astore_n 3, 1) := by decide +kernel
theorem dL_isStanding_20 : decode cL_isStanding 20 = .ok (.iconst 1, 1) := by decide +kernel
theorem dL_isStanding_21 : decode cL_isStanding 21 = .ok (.ireturn, 1) := by decide +kernel
theorem dL_isStanding_22 : decode cL_isStanding 22 = .ok (.iconst 0, 1) := by decide +kernel
theorem dL_isStanding_23 : decode cL_isStanding 23 = .ok (.ireturn, 1) := by decide +kernel
theorem dL_isRouted_0 : decode cL_isRouted 0 = .ok (.aload_n 2, 1) := by decide +kernel
theorem dL_isRouted_1 : decode cL_isRouted 1 = .ok (.iconst 0, 1) := by decide +kernel
theorem dL_isRouted_2 : decode cL_isRouted 2 = .ok (.aload_n 0, 1) := by decide +kernel
theorem dL_isRouted_3 : decode cL_isRouted 3 = .ok (.iload_n 1, 1) := by decide +kernel
theorem dL_isRouted_4 : decode cL_isRouted 4 = .ok (.invokevirtual 57, 3) := by decide +kernel
theorem dL_isRouted_7 : decode cL_isRouted 7 = .ok (.ifCond .eq 7, 3) := by decide +kernel
theorem dL_isRouted_10 : decode cL_isRouted 10 = .ok (.lconst 1, 1) := by decide +kernel
theorem dL_isRouted_11 : decode cL_isRouted 11 = .ok (.goto 4, 3) := by decide +kernel
theorem dL_isRouted_14 : decode cL_isRouted 14 = .ok (.lconst 0, 1) := by decide +kernel
theorem dL_isRouted_15 : decode cL_isRouted 15 = .ok (.lastore, 1) := by decide +kernel
theorem dL_isRouted_16 : decode cL_isRouted 16 = .ok (.goto 6, 3) := by decide +kernel
theorem dL_isRouted_19 : decode cL_isRouted 19 = .ok (.astore_n 3, 1) := by decide +kernel
theorem dL_isRouted_20 : decode cL_isRouted 20 = .ok (.iconst 1, 1) := by decide +kernel
theorem dL_isRouted_21 : decode cL_isRouted 21 = .ok (.ireturn, 1) := by decide +kernel
theorem dL_isRouted_22 : decode cL_isRouted 22 = .ok (.iconst 0, 1) := by decide +kernel
theorem dL_isRouted_23 : decode cL_isRouted 23 = .ok (.ireturn, 1) := by decide +kernel
theorem dL_routedTurns_0 : decode cL_routedTurns 0 = .ok (.aload_n 2, 1) := by decide +kernel
theorem dL_routedTurns_1 : decode cL_routedTurns 1 = .ok (.iconst 0, 1) := by decide +kernel
theorem dL_routedTurns_2 : decode cL_routedTurns 2 = .ok (.aload_n 0, 1) := by decide +kernel
theorem dL_routedTurns_3 : decode cL_routedTurns 3 = .ok (.iload_n 1, 1) := by decide +kernel
theorem dL_routedTurns_4 : decode cL_routedTurns 4 = .ok (.invokevirtual 60, 3) := by decide +kernel
theorem dL_routedTurns_7 : decode cL_routedTurns 7 = .ok (.i2l, 1) := by decide +kernel
theorem dL_routedTurns_8 : decode cL_routedTurns 8 = .ok (.lastore, 1) := by decide +kernel
theorem dL_routedTurns_9 : decode cL_routedTurns 9 = .ok (.goto 6, 3) := by decide +kernel
theorem dL_routedTurns_12 : decode cL_routedTurns 12 = .ok (.astore_n 3, 1) := by decide +kernel
theorem dL_routedTurns_13 : decode cL_routedTurns 13 = .ok (.iconst 1, 1) := by decide +kernel
theorem dL_routedTurns_14 : decode cL_routedTurns 14 = .ok (.ireturn, 1) := by decide +kernel
theorem dL_routedTurns_15 : decode cL_routedTurns 15 = .ok (.iconst 0, 1) := by decide +kernel
theorem dL_routedTurns_16 : decode cL_routedTurns 16 = .ok (.ireturn, 1) := by decide +kernel
theorem dL_lineIn_0 : decode cL_lineIn 0 = .ok (.aload_n 3, 1) := by decide +kernel
theorem dL_lineIn_1 : decode cL_lineIn 1 = .ok (.iconst 0, 1) := by decide +kernel
theorem dL_lineIn_2 : decode cL_lineIn 2 = .ok (.aload_n 0, 1) := by decide +kernel
theorem dL_lineIn_3 : decode cL_lineIn 3 = .ok (.iload_n 1, 1) := by decide +kernel
theorem dL_lineIn_4 : decode cL_lineIn 4 = .ok (.iload_n 2, 1) := by decide +kernel
theorem dL_lineIn_5 : decode cL_lineIn 5 = .ok (.invokevirtual 63, 3) := by decide +kernel
theorem dL_lineIn_8 : decode cL_lineIn 8 = .ok (.i2l, 1) := by decide +kernel
theorem dL_lineIn_9 : decode cL_lineIn 9 = .ok (.lastore, 1) := by decide +kernel
theorem dL_lineIn_10 : decode cL_lineIn 10 = .ok (.goto 11, 3) := by decide +kernel
theorem dL_lineIn_13 : decode cL_lineIn 13 = .ok (.astore 4, 2) := by decide +kernel
theorem dL_lineIn_15 : decode cL_lineIn 15 = .ok (.iconst 1, 1) := by decide +kernel
theorem dL_lineIn_16 : decode cL_lineIn 16 = .ok (.ireturn, 1) := by decide +kernel
theorem dL_lineIn_17 : decode cL_lineIn 17 = .ok (.astore 4, 2) := by decide +kernel
theorem dL_lineIn_19 : decode cL_lineIn 19 = .ok (.iconst 2, 1) := by decide +kernel
theorem dL_lineIn_20 : decode cL_lineIn 20 = .ok (.ireturn, 1) := by decide +kernel
theorem dL_lineIn_21 : decode cL_lineIn 21 = .ok (.iconst 0, 1) := by decide +kernel
theorem dL_lineIn_22 : decode cL_lineIn 22 = .ok (.ireturn, 1) := by decide +kernel
theorem dL_attackOf_0 : decode cL_attackOf 0 = .ok (.aload_n 2, 1) := by decide +kernel
theorem dL_attackOf_1 : decode cL_attackOf 1 = .ok (.iconst 0, 1) := by decide +kernel
theorem dL_attackOf_2 : decode cL_attackOf 2 = .ok (.aload_n 0, 1) := by decide +kernel
theorem dL_attackOf_3 : decode cL_attackOf 3 = .ok (.iload_n 1, 1) := by decide +kernel
theorem dL_attackOf_4 : decode cL_attackOf 4 = .ok (.invokevirtual 67, 3) := by decide +kernel
theorem dL_attackOf_7 : decode cL_attackOf 7 = .ok (.i2l, 1) := by decide +kernel
theorem dL_attackOf_8 : decode cL_attackOf 8 = .ok (.lastore, 1) := by decide +kernel
theorem dL_attackOf_9 : decode cL_attackOf 9 = .ok (.goto 6, 3) := by decide +kernel
theorem dL_attackOf_12 : decode cL_attackOf 12 = .ok (.astore_n 3, 1) := by decide +kernel
theorem dL_attackOf_13 : decode cL_attackOf 13 = .ok (.iconst 1, 1) := by decide +kernel
theorem dL_attackOf_14 : decode cL_attackOf 14 = .ok (.ireturn, 1) := by decide +kernel
theorem dL_attackOf_15 : decode cL_attackOf 15 = .ok (.iconst 0, 1) := by decide +kernel
theorem dL_attackOf_16 : decode cL_attackOf 16 = .ok (.ireturn, 1) := by decide +kernel
theorem dL_counterOf_0 : decode cL_counterOf 0 = .ok (.aload_n 2, 1) := by decide +kernel
theorem dL_counterOf_1 : decode cL_counterOf 1 = .ok (.iconst 0, 1) := by decide +kernel
theorem dL_counterOf_2 : decode cL_counterOf 2 = .ok (.aload_n 0, 1) := by decide +kernel
theorem dL_counterOf_3 : decode cL_counterOf 3 = .ok (.iload_n 1, 1) := by decide +kernel
theorem dL_counterOf_4 : decode cL_counterOf 4 = .ok (.invokevirtual 70, 3) := by decide +kernel
theorem dL_counterOf_7 : decode cL_counterOf 7 = .ok (.i2l, 1) := by decide +kernel
theorem dL_counterOf_8 : decode cL_counterOf 8 = .ok (.lastore, 1) := by decide +kernel
theorem dL_counterOf_9 : decode cL_counterOf 9 = .ok (.goto 6, 3) := by decide +kernel
theorem dL_counterOf_12 : decode cL_counterOf 12 = .ok (.astore_n 3, 1) := by decide +kernel
theorem dL_counterOf_13 : decode cL_counterOf 13 = .ok (.iconst 1, 1) := by decide +kernel
theorem dL_counterOf_14 : decode cL_counterOf 14 = .ok (.ireturn, 1) := by decide +kernel
theorem dL_counterOf_15 : decode cL_counterOf 15 = .ok (.iconst 0, 1) := by decide +kernel
theorem dL_counterOf_16 : decode cL_counterOf 16 = .ok (.ireturn, 1) := by decide +kernel
theorem dL_supportOf_0 : decode cL_supportOf 0 = .ok (.aload_n 2, 1) := by decide +kernel
theorem dL_supportOf_1 : decode cL_supportOf 1 = .ok (.iconst 0, 1) := by decide +kernel
theorem dL_supportOf_2 : decode cL_supportOf 2 = .ok (.aload_n 0, 1) := by decide +kernel
theorem dL_supportOf_3 : decode cL_supportOf 3 = .ok (.iload_n 1, 1) := by decide +kernel
theorem dL_supportOf_4 : decode cL_supportOf 4 = .ok (.invokevirtual 73, 3) := by decide +kernel
theorem dL_supportOf_7 : decode cL_supportOf 7 = .ok (.i2l, 1) := by decide +kernel
theorem dL_supportOf_8 : decode cL_supportOf 8 = .ok (.lastore, 1) := by decide +kernel
theorem dL_supportOf_9 : decode cL_supportOf 9 = .ok (.goto 9, 3) := by decide +kernel
theorem dL_supportOf_12 : decode cL_supportOf 12 = .ok (.astore_n 3, 1) := by decide +kernel
theorem dL_supportOf_13 : decode cL_supportOf 13 = .ok (.iconst 1, 1) := by decide +kernel
theorem dL_supportOf_14 : decode cL_supportOf 14 = .ok (.ireturn, 1) := by decide +kernel
theorem dL_supportOf_15 : decode cL_supportOf 15 = .ok (.astore_n 3, 1) := by decide +kernel
theorem dL_supportOf_16 : decode cL_supportOf 16 = .ok (.iconst 2, 1) := by decide +kernel
theorem dL_supportOf_17 : decode cL_supportOf 17 = .ok (.ireturn, 1) := by decide +kernel
theorem dL_supportOf_18 : decode cL_supportOf 18 = .ok (.iconst 0, 1) := by decide +kernel
theorem dL_supportOf_19 : decode cL_supportOf 19 = .ok (.ireturn, 1) := by decide +kernel
theorem dL_supportByLines_0 : decode cL_supportByLines 0 = .ok (.aload_n 2, 1) := by decide +kernel
theorem dL_supportByLines_1 : decode cL_supportByLines 1 = .ok (.iconst 0, 1) := by decide +kernel
theorem dL_supportByLines_2 : decode cL_supportByLines 2 = .ok (.aload_n 0, 1) := by decide +kernel
theorem dL_supportByLines_3 : decode cL_supportByLines 3 = .ok (.iload_n 1, 1) := by decide +kernel
theorem dL_supportByLines_4 : decode cL_supportByLines 4 = .ok (.invokevirtual 76, 3) := by decide +kernel
theorem dL_supportByLines_7 : decode cL_supportByLines 7 = .ok (.i2l, 1) := by decide +kernel
theorem dL_supportByLines_8 : decode cL_supportByLines 8 = .ok (.lastore, 1) := by decide +kernel
theorem dL_supportByLines_9 : decode cL_supportByLines 9 = .ok (.goto 9, 3) := by decide +kernel
theorem dL_supportByLines_12 : decode cL_supportByLines 12 = .ok (.astore_n 3, 1) := by decide +kernel
theorem dL_supportByLines_13 : decode cL_supportByLines 13 = .ok (.iconst 1, 1) := by decide +kernel
theorem dL_supportByLines_14 : decode cL_supportByLines 14 = .ok (.ireturn, 1) := by decide +kernel
theorem dL_supportByLines_15 : decode cL_supportByLines 15 = .ok (.astore_n 3, 1) := by decide +kernel
theorem dL_supportByLines_16 : decode cL_supportByLines 16 = .ok (.iconst 2, 1) := by decide +kernel
theorem dL_supportByLines_17 : decode cL_supportByLines 17 = .ok (.ireturn, 1) := by decide +kernel
theorem dL_supportByLines_18 : decode cL_supportByLines 18 = .ok (.iconst 0, 1) := by decide +kernel
theorem dL_supportByLines_19 : decode cL_supportByLines 19 = .ok (.ireturn, 1) := by decide +kernel
theorem dL_enemyAhead_0 : decode cL_enemyAhead 0 = .ok (.aload_n 2, 1) := by decide +kernel
theorem dL_enemyAhead_1 : decode cL_enemyAhead 1 = .ok (.iconst 0, 1) := by decide +kernel
theorem dL_enemyAhead_2 : decode cL_enemyAhead 2 = .ok (.aload_n 0, 1) := by decide +kernel
theorem dL_enemyAhead_3 : decode cL_enemyAhead 3 = .ok (.iload_n 1, 1) := by decide +kernel
theorem dL_enemyAhead_4 : decode cL_enemyAhead 4 = .ok (.invokevirtual 79, 3) := by decide +kernel
theorem dL_enemyAhead_7 : decode cL_enemyAhead 7 = .ok (.i2l, 1) := by decide +kernel
theorem dL_enemyAhead_8 : decode cL_enemyAhead 8 = .ok (.lastore, 1) := by decide +kernel
theorem dL_enemyAhead_9 : decode cL_enemyAhead 9 = .ok (.goto 9, 3) := by decide +kernel
theorem dL_enemyAhead_12 : decode cL_enemyAhead 12 = .ok (.astore_n 3, 1) := by decide +kernel
theorem dL_enemyAhead_13 : decode cL_enemyAhead 13 = .ok (.iconst 1, 1) := by decide +kernel
theorem dL_enemyAhead_14 : decode cL_enemyAhead 14 = .ok (.ireturn, 1) := by decide +kernel
theorem dL_enemyAhead_15 : decode cL_enemyAhead 15 = .ok (.astore_n 3, 1) := by decide +kernel
theorem dL_enemyAhead_16 : decode cL_enemyAhead 16 = .ok (.iconst 2, 1) := by decide +kernel
theorem dL_enemyAhead_17 : decode cL_enemyAhead 17 = .ok (.ireturn, 1) := by decide +kernel
theorem dL_enemyAhead_18 : decode cL_enemyAhead 18 = .ok (.iconst 0, 1) := by decide +kernel
theorem dL_enemyAhead_19 : decode cL_enemyAhead 19 = .ok (.ireturn, 1) := by decide +kernel
theorem dL_enemyByDistances_0 : decode cL_enemyByDistances 0 = .ok (.aload_n 2, 1) := by decide +kernel
theorem dL_enemyByDistances_1 : decode cL_enemyByDistances 1 = .ok (.iconst 0, 1) := by decide +kernel
theorem dL_enemyByDistances_2 : decode cL_enemyByDistances 2 = .ok (.aload_n 0, 1) := by decide +kernel
theorem dL_enemyByDistances_3 : decode cL_enemyByDistances 3 = .ok (.iload_n 1, 1) := by decide +kernel
theorem dL_enemyByDistances_4 : decode cL_enemyByDistances 4 = .ok (.invokevirtual 82, 3) := by decide +kernel
theorem dL_enemyByDistances_7 : decode cL_enemyByDistances 7 = .ok (.i2l, 1) := by decide +kernel
theorem dL_enemyByDistances_8 : decode cL_enemyByDistances 8 = .ok (.lastore, 1) := by decide +kernel
theorem dL_enemyByDistances_9 : decode cL_enemyByDistances 9 = .ok (.goto 9, 3) := by decide +kernel
theorem dL_enemyByDistances_12 : decode cL_enemyByDistances 12 = .ok (.astore_n 3, 1) := by decide +kernel
theorem dL_enemyByDistances_13 : decode cL_enemyByDistances 13 = .ok (.iconst 1, 1) := by decide +kernel
theorem dL_enemyByDistances_14 : decode cL_enemyByDistances 14 = .ok (.ireturn, 1) := by decide +kernel
theorem dL_enemyByDistances_15 : decode cL_enemyByDistances 15 = .ok (.astore_n 3, 1) := by decide +kernel
theorem dL_enemyByDistances_16 : decode cL_enemyByDistances 16 = .ok (.iconst 2, 1) := by decide +kernel
theorem dL_enemyByDistances_17 : decode cL_enemyByDistances 17 = .ok (.ireturn, 1) := by decide +kernel
theorem dL_enemyByDistances_18 : decode cL_enemyByDistances 18 = .ok (.iconst 0, 1) := by decide +kernel
theorem dL_enemyByDistances_19 : decode cL_enemyByDistances 19 = .ok (.ireturn, 1) := by decide +kernel
theorem dL_turnsUntilFight_0 : decode cL_turnsUntilFight 0 = .ok (.aload_n 1, 1) := by decide +kernel
theorem dL_turnsUntilFight_1 : decode cL_turnsUntilFight 1 = .ok (.iconst 0, 1) := by decide +kernel
theorem dL_turnsUntilFight_2 : decode cL_turnsUntilFight 2 = .ok (.aload_n 0, 1) := by decide +kernel
theorem dL_turnsUntilFight_3 : decode cL_turnsUntilFight 3 = .ok (.invokevirtual 85, 3) := by decide +kernel
theorem dL_turnsUntilFight_6 : decode cL_turnsUntilFight 6 = .ok (.i2l, 1) := by decide +kernel
theorem dL_turnsUntilFight_7 : decode cL_turnsUntilFight 7 = .ok (.lastore, 1) := by decide +kernel
theorem dL_turnsUntilFight_8 : decode cL_turnsUntilFight 8 = .ok (.goto 6, 3) := by decide +kernel
theorem dL_turnsUntilFight_11 : decode cL_turnsUntilFight 11 = .ok (.astore_n 2, 1) := by decide +kernel
theorem dL_turnsUntilFight_12 : decode cL_turnsUntilFight 12 = .ok (.iconst 1, 1) := by decide +kernel
theorem dL_turnsUntilFight_13 : decode cL_turnsUntilFight 13 = .ok (.ireturn, 1) := by decide +kernel
theorem dL_turnsUntilFight_14 : decode cL_turnsUntilFight 14 = .ok (.iconst 0, 1) := by decide +kernel
theorem dL_turnsUntilFight_15 : decode cL_turnsUntilFight 15 = .ok (.ireturn, 1) := by decide +kernel
theorem dL_jarsOf_0 : decode cL_jarsOf 0 = .ok (.aload_n 2, 1) := by decide +kernel
theorem dL_jarsOf_1 : decode cL_jarsOf 1 = .ok (.iconst 0, 1) := by decide +kernel
theorem dL_jarsOf_2 : decode cL_jarsOf 2 = .ok (.aload_n 0, 1) := by decide +kernel
theorem dL_jarsOf_3 : decode cL_jarsOf 3 = .ok (.iload_n 1, 1) := by decide +kernel
theorem dL_jarsOf_4 : decode cL_jarsOf 4 = .ok (.invokevirtual 89, 3) := by decide +kernel
theorem dL_jarsOf_7 : decode cL_jarsOf 7 = .ok (.i2l, 1) := by decide +kernel
theorem dL_jarsOf_8 : decode cL_jarsOf 8 = .ok (.lastore, 1) := by decide +kernel
theorem dL_jarsOf_9 : decode cL_jarsOf 9 = .ok (.goto 6, 3) := by decide +kernel
theorem dL_jarsOf_12 : decode cL_jarsOf 12 = .ok (.astore_n 3, 1) := by decide +kernel
theorem dL_jarsOf_13 : decode cL_jarsOf 13 = .ok (.iconst 1, 1) := by decide +kernel
theorem dL_jarsOf_14 : decode cL_jarsOf 14 = .ok (.ireturn, 1) := by decide +kernel
theorem dL_jarsOf_15 : decode cL_jarsOf 15 = .ok (.iconst 0, 1) := by decide +kernel
theorem dL_jarsOf_16 : decode cL_jarsOf 16 = .ok (.ireturn, 1) := by decide +kernel
theorem dL_strengthOfSide_0 : decode cL_strengthOfSide 0 = .ok (.aload_n 2, 1) := by decide +kernel
theorem dL_strengthOfSide_1 : decode cL_strengthOfSide 1 = .ok (.iconst 0, 1) := by decide +kernel
theorem dL_strengthOfSide_2 : decode cL_strengthOfSide 2 = .ok (.aload_n 0, 1) := by decide +kernel
theorem dL_strengthOfSide_3 : decode cL_strengthOfSide 3 = .ok (.iload_n 1, 1) := by decide +kernel
theorem dL_strengthOfSide_4 : decode cL_strengthOfSide 4 = .ok (.invokevirtual 92, 3) := by decide +kernel
theorem dL_strengthOfSide_7 : decode cL_strengthOfSide 7 = .ok (.i2l, 1) := by decide +kernel
theorem dL_strengthOfSide_8 : decode cL_strengthOfSide 8 = .ok (.lastore, 1) := by decide +kernel
theorem dL_strengthOfSide_9 : decode cL_strengthOfSide 9 = .ok (.goto 6, 3) := by decide +kernel
theorem dL_strengthOfSide_12 : decode cL_strengthOfSide 12 = .ok (.astore_n 3, 1) := by decide +kernel
theorem dL_strengthOfSide_13 : decode cL_strengthOfSide 13 = .ok (.iconst 1, 1) := by decide +kernel
theorem dL_strengthOfSide_14 : decode cL_strengthOfSide 14 = .ok (.ireturn, 1) := by decide +kernel
theorem dL_strengthOfSide_15 : decode cL_strengthOfSide 15 = .ok (.iconst 0, 1) := by decide +kernel
theorem dL_strengthOfSide_16 : decode cL_strengthOfSide 16 = .ok (.ireturn, 1) := by decide +kernel
theorem dL_strengthByCells_0 : decode cL_strengthByCells 0 = .ok (.aload_n 2, 1) := by decide +kernel
theorem dL_strengthByCells_1 : decode cL_strengthByCells 1 = .ok (.iconst 0, 1) := by decide +kernel
theorem dL_strengthByCells_2 : decode cL_strengthByCells 2 = .ok (.aload_n 0, 1) := by decide +kernel
theorem dL_strengthByCells_3 : decode cL_strengthByCells 3 = .ok (.iload_n 1, 1) := by decide +kernel
theorem dL_strengthByCells_4 : decode cL_strengthByCells 4 = .ok (.invokevirtual 95, 3) := by decide +kernel
theorem dL_strengthByCells_7 : decode cL_strengthByCells 7 = .ok (.i2l, 1) := by decide +kernel
theorem dL_strengthByCells_8 : decode cL_strengthByCells 8 = .ok (.lastore, 1) := by decide +kernel
theorem dL_strengthByCells_9 : decode cL_strengthByCells 9 = .ok (.goto 6, 3) := by decide +kernel
theorem dL_strengthByCells_12 : decode cL_strengthByCells 12 = .ok (.astore_n 3, 1) := by decide +kernel
theorem dL_strengthByCells_13 : decode cL_strengthByCells 13 = .ok (.iconst 1, 1) := by decide +kernel
theorem dL_strengthByCells_14 : decode cL_strengthByCells 14 = .ok (.ireturn, 1) := by decide +kernel
theorem dL_strengthByCells_15 : decode cL_strengthByCells 15 = .ok (.iconst 0, 1) := by decide +kernel
theorem dL_strengthByCells_16 : decode cL_strengthByCells 16 = .ok (.ireturn, 1) := by decide +kernel
theorem dL_fallenOf_0 : decode cL_fallenOf 0 = .ok (.aload_n 2, 1) := by decide +kernel
theorem dL_fallenOf_1 : decode cL_fallenOf 1 = .ok (.iconst 0, 1) := by decide +kernel
theorem dL_fallenOf_2 : decode cL_fallenOf 2 = .ok (.aload_n 0, 1) := by decide +kernel
theorem dL_fallenOf_3 : decode cL_fallenOf 3 = .ok (.iload_n 1, 1) := by decide +kernel
theorem dL_fallenOf_4 : decode cL_fallenOf 4 = .ok (.invokevirtual 98, 3) := by decide +kernel
theorem dL_fallenOf_7 : decode cL_fallenOf 7 = .ok (.i2l, 1) := by decide +kernel
theorem dL_fallenOf_8 : decode cL_fallenOf 8 = .ok (.lastore, 1) := by decide +kernel
theorem dL_fallenOf_9 : decode cL_fallenOf 9 = .ok (.goto 6, 3) := by decide +kernel
theorem dL_fallenOf_12 : decode cL_fallenOf 12 = .ok (.astore_n 3, 1) := by decide +kernel
theorem dL_fallenOf_13 : decode cL_fallenOf 13 = .ok (.iconst 1, 1) := by decide +kernel
theorem dL_fallenOf_14 : decode cL_fallenOf 14 = .ok (.ireturn, 1) := by decide +kernel
theorem dL_fallenOf_15 : decode cL_fallenOf 15 = .ok (.iconst 0, 1) := by decide +kernel
theorem dL_fallenOf_16 : decode cL_fallenOf 16 = .ok (.ireturn, 1) := by decide +kernel
theorem dL_frontOf_0 : decode cL_frontOf 0 = .ok (.aload_n 3, 1) := by decide +kernel
theorem dL_frontOf_1 : decode cL_frontOf 1 = .ok (.iconst 0, 1) := by decide +kernel
theorem dL_frontOf_2 : decode cL_frontOf 2 = .ok (.aload_n 0, 1) := by decide +kernel
theorem dL_frontOf_3 : decode cL_frontOf 3 = .ok (.iload_n 1, 1) := by decide +kernel
theorem dL_frontOf_4 : decode cL_frontOf 4 = .ok (.iload_n 2, 1) := by decide +kernel
theorem dL_frontOf_5 : decode cL_frontOf 5 = .ok (.invokevirtual 101, 3) := by decide +kernel
theorem dL_frontOf_8 : decode cL_frontOf 8 = .ok (.i2l, 1) := by decide +kernel
theorem dL_frontOf_9 : decode cL_frontOf 9 = .ok (.lastore, 1) := by decide +kernel
theorem dL_frontOf_10 : decode cL_frontOf 10 = .ok (.goto 11, 3) := by decide +kernel
theorem dL_frontOf_13 : decode cL_frontOf 13 = .ok (.astore 4, 2) := by decide +kernel
theorem dL_frontOf_15 : decode cL_frontOf 15 = .ok (.iconst 1, 1) := by decide +kernel
theorem dL_frontOf_16 : decode cL_frontOf 16 = .ok (.ireturn, 1) := by decide +kernel
theorem dL_frontOf_17 : decode cL_frontOf 17 = .ok (.astore 4, 2) := by decide +kernel
theorem dL_frontOf_19 : decode cL_frontOf 19 = .ok (.iconst 2, 1) := by decide +kernel
theorem dL_frontOf_20 : decode cL_frontOf 20 = .ok (.ireturn, 1) := by decide +kernel
theorem dL_frontOf_21 : decode cL_frontOf 21 = .ok (.iconst 0, 1) := by decide +kernel
theorem dL_frontOf_22 : decode cL_frontOf 22 = .ok (.ireturn, 1) := by decide +kernel
theorem dL_leader_0 : decode cL_leader 0 = .ok (.aload_n 1, 1) := by decide +kernel
theorem dL_leader_1 : decode cL_leader 1 = .ok (.iconst 0, 1) := by decide +kernel
theorem dL_leader_2 : decode cL_leader 2 = .ok (.aload_n 0, 1) := by decide +kernel
theorem dL_leader_3 : decode cL_leader 3 = .ok (.invokevirtual 104, 3) := by decide +kernel
theorem dL_leader_6 : decode cL_leader 6 = .ok (.i2l, 1) := by decide +kernel
theorem dL_leader_7 : decode cL_leader 7 = .ok (.lastore, 1) := by decide +kernel
theorem dL_leader_8 : decode cL_leader 8 = .ok (.goto 6, 3) := by decide +kernel
theorem dL_leader_11 : decode cL_leader 11 = .ok (.astore_n 2, 1) := by decide +kernel
theorem dL_leader_12 : decode cL_leader 12 = .ok (.iconst 1, 1) := by decide +kernel
theorem dL_leader_13 : decode cL_leader 13 = .ok (.ireturn, 1) := by decide +kernel
theorem dL_leader_14 : decode cL_leader 14 = .ok (.iconst 0, 1) := by decide +kernel
theorem dL_leader_15 : decode cL_leader 15 = .ok (.ireturn, 1) := by decide +kernel
theorem dL_lineByStrength_0 : decode cL_lineByStrength 0 = .ok (.aload_n 2, 1) := by decide +kernel
theorem dL_lineByStrength_1 : decode cL_lineByStrength 1 = .ok (.iconst 0, 1) := by decide +kernel
theorem dL_lineByStrength_2 : decode cL_lineByStrength 2 = .ok (.aload_n 0, 1) := by decide +kernel
theorem dL_lineByStrength_3 : decode cL_lineByStrength 3 = .ok (.iload_n 1, 1) := by decide +kernel
theorem dL_lineByStrength_4 : decode cL_lineByStrength 4 = .ok (.invokevirtual 107, 3) := by decide +kernel
theorem dL_lineByStrength_7 : decode cL_lineByStrength 7 = .ok (.i2l, 1) := by decide +kernel
theorem dL_lineByStrength_8 : decode cL_lineByStrength 8 = .ok (.lastore, 1) := by decide +kernel
theorem dL_lineByStrength_9 : decode cL_lineByStrength 9 = .ok (.goto 6, 3) := by decide +kernel
theorem dL_lineByStrength_12 : decode cL_lineByStrength 12 = .ok (.astore_n 3, 1) := by decide +kernel
theorem dL_lineByStrength_13 : decode cL_lineByStrength 13 = .ok (.iconst 1, 1) := by decide +kernel
theorem dL_lineByStrength_14 : decode cL_lineByStrength 14 = .ok (.ireturn, 1) := by decide +kernel
theorem dL_lineByStrength_15 : decode cL_lineByStrength 15 = .ok (.iconst 0, 1) := by decide +kernel
theorem dL_lineByStrength_16 : decode cL_lineByStrength 16 = .ok (.ireturn, 1) := by decide +kernel
theorem dL_writeLane_0 : decode cL_writeLane 0 = .ok (.aload_n 2, 1) := by decide +kernel
theorem dL_writeLane_1 : decode cL_writeLane 1 = .ok (.iconst 0, 1) := by decide +kernel
theorem dL_writeLane_2 : decode cL_writeLane 2 = .ok (.aload_n 0, 1) := by decide +kernel
theorem dL_writeLane_3 : decode cL_writeLane 3 = .ok (.iload_n 1, 1) := by decide +kernel
theorem dL_writeLane_4 : decode cL_writeLane 4 = .ok (.invokevirtual 110, 3) := by decide +kernel
theorem dL_writeLane_7 : decode cL_writeLane 7 = .ok (.i2l, 1) := by decide +kernel
theorem dL_writeLane_8 : decode cL_writeLane 8 = .ok (.lastore, 1) := by decide +kernel
theorem dL_writeLane_9 : decode cL_writeLane 9 = .ok (.goto 6, 3) := by decide +kernel
theorem dL_writeLane_12 : decode cL_writeLane 12 = .ok (.astore_n 3, 1) := by decide +kernel
theorem dL_writeLane_13 : decode cL_writeLane 13 = .ok (.iconst 1, 1) := by decide +kernel
theorem dL_writeLane_14 : decode cL_writeLane 14 = .ok (.ireturn, 1) := by decide +kernel
theorem dL_writeLane_15 : decode cL_writeLane 15 = .ok (.iconst 0, 1) := by decide +kernel
theorem dL_writeLane_16 : decode cL_writeLane 16 = .ok (.ireturn, 1) := by decide +kernel
theorem dL_writtenAt_0 : decode cL_writtenAt 0 = .ok (.aload_n 2, 1) := by decide +kernel
theorem dL_writtenAt_1 : decode cL_writtenAt 1 = .ok (.iconst 0, 1) := by decide +kernel
theorem dL_writtenAt_2 : decode cL_writtenAt 2 = .ok (.aload_n 0, 1) := by decide +kernel
theorem dL_writtenAt_3 : decode cL_writtenAt 3 = .ok (.iload_n 1, 1) := by decide +kernel
theorem dL_writtenAt_4 : decode cL_writtenAt 4 = .ok (.invokevirtual 113, 3) := by decide +kernel
theorem dL_writtenAt_7 : decode cL_writtenAt 7 = .ok (.i2l, 1) := by decide +kernel
theorem dL_writtenAt_8 : decode cL_writtenAt 8 = .ok (.lastore, 1) := by decide +kernel
theorem dL_writtenAt_9 : decode cL_writtenAt 9 = .ok (.goto 6, 3) := by decide +kernel
theorem dL_writtenAt_12 : decode cL_writtenAt 12 = .ok (.astore_n 3, 1) := by decide +kernel
theorem dL_writtenAt_13 : decode cL_writtenAt 13 = .ok (.iconst 1, 1) := by decide +kernel
theorem dL_writtenAt_14 : decode cL_writtenAt 14 = .ok (.ireturn, 1) := by decide +kernel
theorem dL_writtenAt_15 : decode cL_writtenAt 15 = .ok (.iconst 0, 1) := by decide +kernel
theorem dL_writtenAt_16 : decode cL_writtenAt 16 = .ok (.ireturn, 1) := by decide +kernel
theorem dL_meanMorale_0 : decode cL_meanMorale 0 = .ok (.aload_n 1, 1) := by decide +kernel
theorem dL_meanMorale_1 : decode cL_meanMorale 1 = .ok (.iconst 0, 1) := by decide +kernel
theorem dL_meanMorale_2 : decode cL_meanMorale 2 = .ok (.aload_n 0, 1) := by decide +kernel
theorem dL_meanMorale_3 : decode cL_meanMorale 3 = .ok (.invokevirtual 116, 3) := by decide +kernel
theorem dL_meanMorale_6 : decode cL_meanMorale 6 = .ok (.dastore, 1) := by decide +kernel
theorem dL_meanMorale_7 : decode cL_meanMorale 7 = .ok (.goto 6, 3) := by decide +kernel
theorem dL_meanMorale_10 : decode cL_meanMorale 10 = .ok (.astore_n 2, 1) := by decide +kernel
theorem dL_meanMorale_11 : decode cL_meanMorale 11 = .ok (.iconst 1, 1) := by decide +kernel
theorem dL_meanMorale_12 : decode cL_meanMorale 12 = .ok (.ireturn, 1) := by decide +kernel
theorem dL_meanMorale_13 : decode cL_meanMorale 13 = .ok (.iconst 0, 1) := by decide +kernel
theorem dL_meanMorale_14 : decode cL_meanMorale 14 = .ok (.ireturn, 1) := by decide +kernel
theorem dL_standingShare_0 : decode cL_standingShare 0 = .ok (.aload_n 1, 1) := by decide +kernel
theorem dL_standingShare_1 : decode cL_standingShare 1 = .ok (.iconst 0, 1) := by decide +kernel
theorem dL_standingShare_2 : decode cL_standingShare 2 = .ok (.aload_n 0, 1) := by decide +kernel
theorem dL_standingShare_3 : decode cL_standingShare 3 = .ok (.invokevirtual 122, 3) := by decide +kernel
theorem dL_standingShare_6 : decode cL_standingShare 6 = .ok (.f2d, 1) := by decide +kernel
theorem dL_standingShare_7 : decode cL_standingShare 7 = .ok (.dastore, 1) := by decide +kernel
theorem dL_standingShare_8 : decode cL_standingShare 8 = .ok (.goto 6, 3) := by decide +kernel
theorem dL_standingShare_11 : decode cL_standingShare 11 = .ok (.astore_n 2, 1) := by decide +kernel
theorem dL_standingShare_12 : decode cL_standingShare 12 = .ok (.iconst 1, 1) := by decide +kernel
theorem dL_standingShare_13 : decode cL_standingShare 13 = .ok (.ireturn, 1) := by decide +kernel
theorem dL_standingShare_14 : decode cL_standingShare 14 = .ok (.iconst 0, 1) := by decide +kernel
theorem dL_standingShare_15 : decode cL_standingShare 15 = .ok (.ireturn, 1) := by decide +kernel
theorem dL_type_0 : decode cL_type 0 = .ok (.aload_n 2, 1) := by decide +kernel
theorem dL_type_1 : decode cL_type 1 = .ok (.iconst 0, 1) := by decide +kernel
theorem dL_type_2 : decode cL_type 2 = .ok (.aload_n 0, 1) := by decide +kernel
theorem dL_type_3 : decode cL_type 3 = .ok (.iload_n 1, 1) := by decide +kernel
theorem dL_type_4 : decode cL_type 4 = .ok (.invokevirtual 126, 3) := by decide +kernel
theorem dL_type_7 : decode cL_type 7 = .ok (.i2l, 1) := by decide +kernel
theorem dL_type_8 : decode cL_type 8 = .ok (.lastore, 1) := by decide +kernel
theorem dL_type_9 : decode cL_type 9 = .ok (.goto 9, 3) := by decide +kernel
theorem dL_type_12 : decode cL_type 12 = .ok (.astore_n 3, 1) := by decide +kernel
theorem dL_type_13 : decode cL_type 13 = .ok (.iconst 1, 1) := by decide +kernel
theorem dL_type_14 : decode cL_type 14 = .ok (.ireturn, 1) := by decide +kernel
theorem dL_type_15 : decode cL_type 15 = .ok (.astore_n 3, 1) := by decide +kernel
theorem dL_type_16 : decode cL_type 16 = .ok (.iconst 2, 1) := by decide +kernel
theorem dL_type_17 : decode cL_type 17 = .ok (.ireturn, 1) := by decide +kernel
theorem dL_type_18 : decode cL_type 18 = .ok (.iconst 0, 1) := by decide +kernel
theorem dL_type_19 : decode cL_type 19 = .ok (.ireturn, 1) := by decide +kernel
theorem dL_execute_0 : decode cL_execute 0 = .ok (.aload_n 1, 1) := by decide +kernel
theorem dL_execute_1 : decode cL_execute 1 = .ok (.iconst 0, 1) := by decide +kernel
theorem dL_execute_2 : decode cL_execute 2 = .ok (.aload_n 0, 1) := by decide +kernel
theorem dL_execute_3 : decode cL_execute 3 = .ok (.invokevirtual 130, 3) := by decide +kernel
theorem dL_execute_6 : decode cL_execute 6 = .ok (.i2l, 1) := by decide +kernel
theorem dL_execute_7 : decode cL_execute 7 = .ok (.lastore, 1) := by decide +kernel
theorem dL_execute_8 : decode cL_execute 8 = .ok (.goto 9, 3) := by decide +kernel
theorem dL_execute_11 : decode cL_execute 11 = .ok (.astore_n 2, 1) := by decide +kernel
theorem dL_execute_12 : decode cL_execute 12 = .ok (.iconst 1, 1) := by decide +kernel
theorem dL_execute_13 : decode cL_execute 13 = .ok (.ireturn, 1) := by decide +kernel
theorem dL_execute_14 : decode cL_execute 14 = .ok (.astore_n 2, 1) := by decide +kernel
theorem dL_execute_15 : decode cL_execute 15 = .ok (.iconst 2, 1) := by decide +kernel
theorem dL_execute_16 : decode cL_execute 16 = .ok (.ireturn, 1) := by decide +kernel
theorem dL_execute_17 : decode cL_execute 17 = .ok (.iconst 0, 1) := by decide +kernel
theorem dL_execute_18 : decode cL_execute 18 = .ok (.ireturn, 1) := by decide +kernel
theorem dL_errorPosition_0 : decode cL_errorPosition 0 = .ok (.aload_n 1, 1) := by decide +kernel
theorem dL_errorPosition_1 : decode cL_errorPosition 1 = .ok (.iconst 0, 1) := by decide +kernel
theorem dL_errorPosition_2 : decode cL_errorPosition 2 = .ok (.aload_n 0, 1) := by decide +kernel
theorem dL_errorPosition_3 : decode cL_errorPosition 3 = .ok (.invokevirtual 133, 3) := by decide +kernel
theorem dL_errorPosition_6 : decode cL_errorPosition 6 = .ok (.i2l, 1) := by decide +kernel
theorem dL_errorPosition_7 : decode cL_errorPosition 7 = .ok (.lastore, 1) := by decide +kernel
theorem dL_errorPosition_8 : decode cL_errorPosition 8 = .ok (.goto 6, 3) := by decide +kernel
theorem dL_errorPosition_11 : decode cL_errorPosition 11 = .ok (.astore_n 2, 1) := by decide +kernel
theorem dL_errorPosition_12 : decode cL_errorPosition 12 = .ok (.iconst 1, 1) := by decide +kernel
theorem dL_errorPosition_13 : decode cL_errorPosition 13 = .ok (.ireturn, 1) := by decide +kernel
theorem dL_errorPosition_14 : decode cL_errorPosition 14 = .ok (.iconst 0, 1) := by decide +kernel
theorem dL_errorPosition_15 : decode cL_errorPosition 15 = .ok (.ireturn, 1) := by decide +kernel
theorem dL_failedCommand_0 : decode cL_failedCommand 0 = .ok (.aload_n 1, 1) := by decide +kernel
theorem dL_failedCommand_1 : decode cL_failedCommand 1 = .ok (.iconst 0, 1) := by decide +kernel
theorem dL_failedCommand_2 : decode cL_failedCommand 2 = .ok (.aload_n 0, 1) := by decide +kernel
theorem dL_failedCommand_3 : decode cL_failedCommand 3 = .ok (.invokevirtual 136, 3) := by decide +kernel
theorem dL_failedCommand_6 : decode cL_failedCommand 6 = .ok (.i2l, 1) := by decide +kernel
theorem dL_failedCommand_7 : decode cL_failedCommand 7 = .ok (.lastore, 1) := by decide +kernel
theorem dL_failedCommand_8 : decode cL_failedCommand 8 = .ok (.goto 6, 3) := by decide +kernel
theorem dL_failedCommand_11 : decode cL_failedCommand 11 = .ok (.astore_n 2, 1) := by decide +kernel
theorem dL_failedCommand_12 : decode cL_failedCommand 12 = .ok (.iconst 1, 1) := by decide +kernel
theorem dL_failedCommand_13 : decode cL_failedCommand 13 = .ok (.ireturn, 1) := by decide +kernel
theorem dL_failedCommand_14 : decode cL_failedCommand 14 = .ok (.iconst 0, 1) := by decide +kernel
theorem dL_failedCommand_15 : decode cL_failedCommand 15 = .ok (.ireturn, 1) := by decide +kernel
theorem dL_undo_0 : decode cL_undo 0 = .ok (.aload_n 1, 1) := by decide +kernel
theorem dL_undo_1 : decode cL_undo 1 = .ok (.iconst 0, 1) := by decide +kernel
theorem dL_undo_2 : decode cL_undo 2 = .ok (.aload_n 0, 1) := by decide +kernel
theorem dL_undo_3 : decode cL_undo 3 = .ok (.invokevirtual 139, 3) := by decide +kernel
theorem dL_undo_6 : decode cL_undo 6 = .ok (.i2l, 1) := by decide +kernel
theorem dL_undo_7 : decode cL_undo 7 = .ok (.lastore, 1) := by decide +kernel
theorem dL_undo_8 : decode cL_undo 8 = .ok (.goto 6, 3) := by decide +kernel
theorem dL_undo_11 : decode cL_undo 11 = .ok (.astore_n 2, 1) := by decide +kernel
theorem dL_undo_12 : decode cL_undo 12 = .ok (.iconst 1, 1) := by decide +kernel
theorem dL_undo_13 : decode cL_undo 13 = .ok (.ireturn, 1) := by decide +kernel
theorem dL_undo_14 : decode cL_undo 14 = .ok (.iconst 0, 1) := by decide +kernel
theorem dL_undo_15 : decode cL_undo 15 = .ok (.ireturn, 1) := by decide +kernel
theorem dL_restore_0 : decode cL_restore 0 = .ok (.aload_n 1, 1) := by decide +kernel
theorem dL_restore_1 : decode cL_restore 1 = .ok (.iconst 0, 1) := by decide +kernel
theorem dL_restore_2 : decode cL_restore 2 = .ok (.aload_n 0, 1) := by decide +kernel
theorem dL_restore_3 : decode cL_restore 3 = .ok (.invokevirtual 142, 3) := by decide +kernel
theorem dL_restore_6 : decode cL_restore 6 = .ok (.i2l, 1) := by decide +kernel
theorem dL_restore_7 : decode cL_restore 7 = .ok (.lastore, 1) := by decide +kernel
theorem dL_restore_8 : decode cL_restore 8 = .ok (.goto 6, 3) := by decide +kernel
theorem dL_restore_11 : decode cL_restore 11 = .ok (.astore_n 2, 1) := by decide +kernel
theorem dL_restore_12 : decode cL_restore 12 = .ok (.iconst 1, 1) := by decide +kernel
theorem dL_restore_13 : decode cL_restore 13 = .ok (.ireturn, 1) := by decide +kernel
theorem dL_restore_14 : decode cL_restore 14 = .ok (.iconst 0, 1) := by decide +kernel
theorem dL_restore_15 : decode cL_restore 15 = .ok (.ireturn, 1) := by decide +kernel
theorem dL_law_0 : decode cL_law 0 = .ok (.new 8, 3) := by decide +kernel
theorem dL_law_3 : decode cL_law 3 = .ok (.dup, 1) := by decide +kernel
theorem dL_law_4 : decode cL_law 4 = .ok (.invokespecial 145, 3) := by decide +kernel
theorem dL_law_7 : decode cL_law 7 = .ok (.astore_n 1, 1) := by decide +kernel
theorem dL_law_8 : decode cL_law 8 = .ok (.new 146, 3) := by decide +kernel
theorem dL_law_11 : decode cL_law 11 = .ok (.dup, 1) := by decide +kernel
theorem dL_law_12 : decode cL_law 12 = .ok (.invokespecial 148, 3) := by decide +kernel
theorem dL_law_15 : decode cL_law 15 = .ok (.astore_n 2, 1) := by decide +kernel
theorem dL_law_16 : decode cL_law 16 = .ok (.iconst 1, 1) := by decide +kernel
theorem dL_law_17 : decode cL_law 17 = .ok (.newarray .long, 2) := by decide +kernel
theorem dL_law_19 : decode cL_law 19 = .ok (.astore_n 3, 1) := by decide +kernel
theorem dL_law_20 : decode cL_law 20 = .ok (.iconst 1, 1) := by decide +kernel
theorem dL_law_21 : decode cL_law 21 = .ok (.newarray .double, 2) := by decide +kernel
theorem dL_law_23 : decode cL_law 23 = .ok (.astore 4, 2) := by decide +kernel
theorem dL_law_25 : decode cL_law 25 = .ok (.iconst 0, 1) := by decide +kernel
theorem dL_law_26 : decode cL_law 26 = .ok (.istore 5, 2) := by decide +kernel
theorem dL_law_28 : decode cL_law 28 = .ok (.iload 5, 2) := by decide +kernel
theorem dL_law_30 : decode cL_law 30 = .ok (.aload_n 0, 1) := by decide +kernel
theorem dL_law_31 : decode cL_law 31 = .ok (.arraylength, 1) := by decide +kernel
theorem dL_law_32 : decode cL_law 32 = .ok (.iconst 5, 1) := by decide +kernel
theorem dL_law_33 : decode cL_law 33 = .ok (.isub, 1) := by decide +kernel
theorem dL_law_34 : decode cL_law 34 = .ok (.if_icmp .gt 2441, 3) := by decide +kernel
theorem dL_law_37 : decode cL_law 37 = .ok (.aload_n 0, 1) := by decide +kernel
theorem dL_law_38 : decode cL_law 38 = .ok (.iload 5, 2) := by decide +kernel
theorem dL_law_40 : decode cL_law 40 = .ok (.iaload, 1) := by decide +kernel
theorem dL_law_41 : decode cL_law 41 = .ok (.bipush 63, 2) := by decide +kernel
theorem dL_law_43 : decode cL_law 43 = .ok (.iand, 1) := by decide +kernel
theorem dL_law_44 : decode cL_law 44 = .ok (.tableswitch 2425 0 43 #[192, 286, 356, 412, 425, 438, 494, 550, 606, 662, 718, 774, 830, 893, 956, 1012, 1080, 1136, 1192, 1248, 1304, 1360, 1416, 1429, 1473, 1529, 1585, 1641, 1697, 1765, 1809, 1865, 1878, 1934, 1990, 2055, 2121, 2134, 2192, 2236, 2280, 2324, 2368, 2381], 192) := by decide +kernel
theorem dL_law_236 : decode cL_law 236 = .ok (.aload_n 1, 1) := by decide +kernel
theorem dL_law_237 : decode cL_law 237 = .ok (.aload_n 0, 1) := by decide +kernel
theorem dL_law_238 : decode cL_law 238 = .ok (.iload 5, 2) := by decide +kernel
theorem dL_law_240 : decode cL_law 240 = .ok (.iconst 1, 1) := by decide +kernel
theorem dL_law_241 : decode cL_law 241 = .ok (.iadd, 1) := by decide +kernel
theorem dL_law_242 : decode cL_law 242 = .ok (.iaload, 1) := by decide +kernel
theorem dL_law_243 : decode cL_law 243 = .ok (.aload_n 0, 1) := by decide +kernel
theorem dL_law_244 : decode cL_law 244 = .ok (.iload 5, 2) := by decide +kernel
theorem dL_law_246 : decode cL_law 246 = .ok (.iconst 2, 1) := by decide +kernel
theorem dL_law_247 : decode cL_law 247 = .ok (.iadd, 1) := by decide +kernel
theorem dL_law_248 : decode cL_law 248 = .ok (.iaload, 1) := by decide +kernel
theorem dL_law_249 : decode cL_law 249 = .ok (.aload_n 0, 1) := by decide +kernel
theorem dL_law_250 : decode cL_law 250 = .ok (.iload 5, 2) := by decide +kernel
theorem dL_law_252 : decode cL_law 252 = .ok (.iconst 3, 1) := by decide +kernel
theorem dL_law_253 : decode cL_law 253 = .ok (.iadd, 1) := by decide +kernel
theorem dL_law_254 : decode cL_law 254 = .ok (.iaload, 1) := by decide +kernel
theorem dL_law_255 : decode cL_law 255 = .ok (.i2c, 1) := by decide +kernel
theorem dL_law_256 : decode cL_law 256 = .ok (.aload_n 0, 1) := by decide +kernel
theorem dL_law_257 : decode cL_law 257 = .ok (.iload 5, 2) := by decide +kernel
theorem dL_law_259 : decode cL_law 259 = .ok (.iconst 4, 1) := by decide +kernel
theorem dL_law_260 : decode cL_law 260 = .ok (.iadd, 1) := by decide +kernel
theorem dL_law_261 : decode cL_law 261 = .ok (.iaload, 1) := by decide +kernel
theorem dL_law_262 : decode cL_law 262 = .ok (.aload_n 3, 1) := by decide +kernel
theorem dL_law_263 : decode cL_law 263 = .ok (.invokestatic 149, 3) := by decide +kernel
theorem dL_law_266 : decode cL_law 266 = .ok (.istore 6, 2) := by decide +kernel
theorem dL_law_268 : decode cL_law 268 = .ok (.aload_n 2, 1) := by decide +kernel
theorem dL_law_269 : decode cL_law 269 = .ok (.aload_n 0, 1) := by decide +kernel
theorem dL_law_270 : decode cL_law 270 = .ok (.iload 5, 2) := by decide +kernel
theorem dL_law_272 : decode cL_law 272 = .ok (.iconst 1, 1) := by decide +kernel
theorem dL_law_273 : decode cL_law 273 = .ok (.iadd, 1) := by decide +kernel
theorem dL_law_274 : decode cL_law 274 = .ok (.iaload, 1) := by decide +kernel
theorem dL_law_275 : decode cL_law 275 = .ok (.aload_n 0, 1) := by decide +kernel
theorem dL_law_276 : decode cL_law 276 = .ok (.iload 5, 2) := by decide +kernel
theorem dL_law_278 : decode cL_law 278 = .ok (.iconst 2, 1) := by decide +kernel
theorem dL_law_279 : decode cL_law 279 = .ok (.iadd, 1) := by decide +kernel
theorem dL_law_280 : decode cL_law 280 = .ok (.iaload, 1) := by decide +kernel
theorem dL_law_281 : decode cL_law 281 = .ok (.aload_n 0, 1) := by decide +kernel
theorem dL_law_282 : decode cL_law 282 = .ok (.iload 5, 2) := by decide +kernel
theorem dL_law_284 : decode cL_law 284 = .ok (.iconst 3, 1) := by decide +kernel
theorem dL_law_285 : decode cL_law 285 = .ok (.iadd, 1) := by decide +kernel
theorem dL_law_286 : decode cL_law 286 = .ok (.iaload, 1) := by decide +kernel
theorem dL_law_287 : decode cL_law 287 = .ok (.i2c, 1) := by decide +kernel
theorem dL_law_288 : decode cL_law 288 = .ok (.aload_n 0, 1) := by decide +kernel
theorem dL_law_289 : decode cL_law 289 = .ok (.iload 5, 2) := by decide +kernel
theorem dL_law_291 : decode cL_law 291 = .ok (.iconst 4, 1) := by decide +kernel
theorem dL_law_292 : decode cL_law 292 = .ok (.iadd, 1) := by decide +kernel
theorem dL_law_293 : decode cL_law 293 = .ok (.iaload, 1) := by decide +kernel
theorem dL_law_294 : decode cL_law 294 = .ok (.invokevirtual 154, 3) := by decide +kernel
theorem dL_law_297 : decode cL_law 297 = .ok (.istore 7, 2) := by decide +kernel
theorem dL_law_299 : decode cL_law 299 = .ok (.aload_n 2, 1) := by decide +kernel
theorem dL_law_300 : decode cL_law 300 = .ok (.invokevirtual 155, 3) := by decide +kernel
theorem dL_law_303 : decode cL_law 303 = .ok (.iload 6, 2) := by decide +kernel
theorem dL_law_305 : decode cL_law 305 = .ok (.if_icmp .eq 5, 3) := by decide +kernel
theorem dL_law_308 : decode cL_law 308 = .ok (.iconst 0, 1) := by decide +kernel
theorem dL_law_309 : decode cL_law 309 = .ok (.ireturn, 1) := by decide +kernel
theorem dL_law_310 : decode cL_law 310 = .ok (.iload 6, 2) := by decide +kernel
theorem dL_law_312 : decode cL_law 312 = .ok (.ifCond .ne 15, 3) := by decide +kernel
theorem dL_law_315 : decode cL_law 315 = .ok (.aload_n 3, 1) := by decide +kernel
theorem dL_law_316 : decode cL_law 316 = .ok (.iconst 0, 1) := by decide +kernel
theorem dL_law_317 : decode cL_law 317 = .ok (.laload, 1) := by decide +kernel
theorem dL_law_318 : decode cL_law 318 = .ok (.iload 7, 2) := by decide +kernel
theorem dL_law_320 : decode cL_law 320 = .ok (.i2l, 1) := by decide +kernel
theorem dL_law_321 : decode cL_law 321 = .ok (.lcmp, 1) := by decide +kernel
theorem dL_law_322 : decode cL_law 322 = .ok (.ifCond .eq 5, 3) := by decide +kernel
theorem dL_law_325 : decode cL_law 325 = .ok (.iconst 0, 1) := by decide +kernel
theorem dL_law_326 : decode cL_law 326 = .ok (.ireturn, 1) := by decide +kernel
theorem dL_law_327 : decode cL_law 327 = .ok (.goto 2142, 3) := by decide +kernel
theorem dL_law_330 : decode cL_law 330 = .ok (.aload_n 1, 1) := by decide +kernel
theorem dL_law_331 : decode cL_law 331 = .ok (.aload_n 0, 1) := by decide +kernel
theorem dL_law_332 : decode cL_law 332 = .ok (.iload 5, 2) := by decide +kernel
theorem dL_law_334 : decode cL_law 334 = .ok (.iconst 1, 1) := by decide +kernel
theorem dL_law_335 : decode cL_law 335 = .ok (.iadd, 1) := by decide +kernel
theorem dL_law_336 : decode cL_law 336 = .ok (.iaload, 1) := by decide +kernel
theorem dL_law_337 : decode cL_law 337 = .ok (.aload_n 0, 1) := by decide +kernel
theorem dL_law_338 : decode cL_law 338 = .ok (.iload 5, 2) := by decide +kernel
theorem dL_law_340 : decode cL_law 340 = .ok (.iconst 2, 1) := by decide +kernel
theorem dL_law_341 : decode cL_law 341 = .ok (.iadd, 1) := by decide +kernel
theorem dL_law_342 : decode cL_law 342 = .ok (.iaload, 1) := by decide +kernel
theorem dL_law_343 : decode cL_law 343 = .ok (.i2c, 1) := by decide +kernel
theorem dL_law_344 : decode cL_law 344 = .ok (.aload_n 3, 1) := by decide +kernel
theorem dL_law_345 : decode cL_law 345 = .ok (.invokestatic 158, 3) := by decide +kernel
theorem dL_law_348 : decode cL_law 348 = .ok (.istore 6, 2) := by decide +kernel
theorem dL_law_350 : decode cL_law 350 = .ok (.aload_n 2, 1) := by decide +kernel
theorem dL_law_351 : decode cL_law 351 = .ok (.aload_n 0, 1) := by decide +kernel
theorem dL_law_352 : decode cL_law 352 = .ok (.iload 5, 2) := by decide +kernel
theorem dL_law_354 : decode cL_law 354 = .ok (.iconst 1, 1) := by decide +kernel
theorem dL_law_355 : decode cL_law 355 = .ok (.iadd, 1) := by decide +kernel
theorem dL_law_356 : decode cL_law 356 = .ok (.iaload, 1) := by decide +kernel
theorem dL_law_357 : decode cL_law 357 = .ok (.aload_n 0, 1) := by decide +kernel
theorem dL_law_358 : decode cL_law 358 = .ok (.iload 5, 2) := by decide +kernel
theorem dL_law_360 : decode cL_law 360 = .ok (.iconst 2, 1) := by decide +kernel
theorem dL_law_361 : decode cL_law 361 = .ok (.iadd, 1) := by decide +kernel
theorem dL_law_362 : decode cL_law 362 = .ok (.iaload, 1) := by decide +kernel
theorem dL_law_363 : decode cL_law 363 = .ok (.i2c, 1) := by decide +kernel
theorem dL_law_364 : decode cL_law 364 = .ok (.invokevirtual 161, 3) := by decide +kernel
theorem dL_law_367 : decode cL_law 367 = .ok (.istore 7, 2) := by decide +kernel
theorem dL_law_369 : decode cL_law 369 = .ok (.aload_n 2, 1) := by decide +kernel
theorem dL_law_370 : decode cL_law 370 = .ok (.invokevirtual 155, 3) := by decide +kernel
theorem dL_law_373 : decode cL_law 373 = .ok (.iload 6, 2) := by decide +kernel
theorem dL_law_375 : decode cL_law 375 = .ok (.if_icmp .eq 5, 3) := by decide +kernel
theorem dL_law_378 : decode cL_law 378 = .ok (.iconst 0, 1) := by decide +kernel
theorem dL_law_379 : decode cL_law 379 = .ok (.ireturn, 1) := by decide +kernel
theorem dL_law_380 : decode cL_law 380 = .ok (.iload 6, 2) := by decide +kernel
theorem dL_law_382 : decode cL_law 382 = .ok (.ifCond .ne 15, 3) := by decide +kernel
theorem dL_law_385 : decode cL_law 385 = .ok (.aload_n 3, 1) := by decide +kernel
theorem dL_law_386 : decode cL_law 386 = .ok (.iconst 0, 1) := by decide +kernel
theorem dL_law_387 : decode cL_law 387 = .ok (.laload, 1) := by decide +kernel
theorem dL_law_388 : decode cL_law 388 = .ok (.iload 7, 2) := by decide +kernel
theorem dL_law_390 : decode cL_law 390 = .ok (.i2l, 1) := by decide +kernel
theorem dL_law_391 : decode cL_law 391 = .ok (.lcmp, 1) := by decide +kernel
theorem dL_law_392 : decode cL_law 392 = .ok (.ifCond .eq 5, 3) := by decide +kernel
theorem dL_law_395 : decode cL_law 395 = .ok (.iconst 0, 1) := by decide +kernel
theorem dL_law_396 : decode cL_law 396 = .ok (.ireturn, 1) := by decide +kernel
theorem dL_law_397 : decode cL_law 397 = .ok (.goto 2072, 3) := by decide +kernel
theorem dL_law_400 : decode cL_law 400 = .ok (.aload_n 1, 1) := by decide +kernel
theorem dL_law_401 : decode cL_law 401 = .ok (.aload_n 0, 1) := by decide +kernel
theorem dL_law_402 : decode cL_law 402 = .ok (.iload 5, 2) := by decide +kernel
theorem dL_law_404 : decode cL_law 404 = .ok (.iconst 1, 1) := by decide +kernel
theorem dL_law_405 : decode cL_law 405 = .ok (.iadd, 1) := by decide +kernel
theorem dL_law_406 : decode cL_law 406 = .ok (.iaload, 1) := by decide +kernel
theorem dL_law_407 : decode cL_law 407 = .ok (.aload_n 3, 1) := by decide +kernel
theorem dL_law_408 : decode cL_law 408 = .ok (.invokestatic 162, 3) := by decide +kernel
theorem dL_law_411 : decode cL_law 411 = .ok (.istore 6, 2) := by decide +kernel
theorem dL_law_413 : decode cL_law 413 = .ok (.aload_n 2, 1) := by decide +kernel
theorem dL_law_414 : decode cL_law 414 = .ok (.aload_n 0, 1) := by decide +kernel
theorem dL_law_415 : decode cL_law 415 = .ok (.iload 5, 2) := by decide +kernel
theorem dL_law_417 : decode cL_law 417 = .ok (.iconst 1, 1) := by decide +kernel
theorem dL_law_418 : decode cL_law 418 = .ok (.iadd, 1) := by decide +kernel
theorem dL_law_419 : decode cL_law 419 = .ok (.iaload, 1) := by decide +kernel
theorem dL_law_420 : decode cL_law 420 = .ok (.invokevirtual 165, 3) := by decide +kernel
theorem dL_law_423 : decode cL_law 423 = .ok (.istore 7, 2) := by decide +kernel
theorem dL_law_425 : decode cL_law 425 = .ok (.aload_n 2, 1) := by decide +kernel
theorem dL_law_426 : decode cL_law 426 = .ok (.invokevirtual 155, 3) := by decide +kernel
theorem dL_law_429 : decode cL_law 429 = .ok (.iload 6, 2) := by decide +kernel
theorem dL_law_431 : decode cL_law 431 = .ok (.if_icmp .eq 5, 3) := by decide +kernel
theorem dL_law_434 : decode cL_law 434 = .ok (.iconst 0, 1) := by decide +kernel
theorem dL_law_435 : decode cL_law 435 = .ok (.ireturn, 1) := by decide +kernel
theorem dL_law_436 : decode cL_law 436 = .ok (.iload 6, 2) := by decide +kernel
theorem dL_law_438 : decode cL_law 438 = .ok (.ifCond .ne 15, 3) := by decide +kernel
theorem dL_law_441 : decode cL_law 441 = .ok (.aload_n 3, 1) := by decide +kernel
theorem dL_law_442 : decode cL_law 442 = .ok (.iconst 0, 1) := by decide +kernel
theorem dL_law_443 : decode cL_law 443 = .ok (.laload, 1) := by decide +kernel
theorem dL_law_444 : decode cL_law 444 = .ok (.iload 7, 2) := by decide +kernel
theorem dL_law_446 : decode cL_law 446 = .ok (.i2l, 1) := by decide +kernel
theorem dL_law_447 : decode cL_law 447 = .ok (.lcmp, 1) := by decide +kernel
theorem dL_law_448 : decode cL_law 448 = .ok (.ifCond .eq 5, 3) := by decide +kernel
theorem dL_law_451 : decode cL_law 451 = .ok (.iconst 0, 1) := by decide +kernel
theorem dL_law_452 : decode cL_law 452 = .ok (.ireturn, 1) := by decide +kernel
theorem dL_law_453 : decode cL_law 453 = .ok (.goto 2016, 3) := by decide +kernel
theorem dL_law_456 : decode cL_law 456 = .ok (.aload_n 1, 1) := by decide +kernel
theorem dL_law_457 : decode cL_law 457 = .ok (.invokevirtual 166, 3) := by decide +kernel
theorem dL_law_460 : decode cL_law 460 = .ok (.aload_n 2, 1) := by decide +kernel
theorem dL_law_461 : decode cL_law 461 = .ok (.invokevirtual 169, 3) := by decide +kernel
theorem dL_law_464 : decode cL_law 464 = .ok (.if_icmp .eq 2005, 3) := by decide +kernel
theorem dL_law_467 : decode cL_law 467 = .ok (.iconst 0, 1) := by decide +kernel
theorem dL_law_468 : decode cL_law 468 = .ok (.ireturn, 1) := by decide +kernel
theorem dL_law_469 : decode cL_law 469 = .ok (.aload_n 1, 1) := by decide +kernel
theorem dL_law_470 : decode cL_law 470 = .ok (.invokevirtual 170, 3) := by decide +kernel
theorem dL_law_473 : decode cL_law 473 = .ok (.aload_n 2, 1) := by decide +kernel
theorem dL_law_474 : decode cL_law 474 = .ok (.invokevirtual 173, 3) := by decide +kernel
theorem dL_law_477 : decode cL_law 477 = .ok (.if_icmp .eq 1992, 3) := by decide +kernel
theorem dL_law_480 : decode cL_law 480 = .ok (.iconst 0, 1) := by decide +kernel
theorem dL_law_481 : decode cL_law 481 = .ok (.ireturn, 1) := by decide +kernel
theorem dL_law_482 : decode cL_law 482 = .ok (.aload_n 1, 1) := by decide +kernel
theorem dL_law_483 : decode cL_law 483 = .ok (.aload_n 0, 1) := by decide +kernel
theorem dL_law_484 : decode cL_law 484 = .ok (.iload 5, 2) := by decide +kernel
theorem dL_law_486 : decode cL_law 486 = .ok (.iconst 1, 1) := by decide +kernel
theorem dL_law_487 : decode cL_law 487 = .ok (.iadd, 1) := by decide +kernel
theorem dL_law_488 : decode cL_law 488 = .ok (.iaload, 1) := by decide +kernel
theorem dL_law_489 : decode cL_law 489 = .ok (.aload_n 3, 1) := by decide +kernel
theorem dL_law_490 : decode cL_law 490 = .ok (.invokestatic 174, 3) := by decide +kernel
theorem dL_law_493 : decode cL_law 493 = .ok (.istore 6, 2) := by decide +kernel
theorem dL_law_495 : decode cL_law 495 = .ok (.aload_n 2, 1) := by decide +kernel
theorem dL_law_496 : decode cL_law 496 = .ok (.aload_n 0, 1) := by decide +kernel
theorem dL_law_497 : decode cL_law 497 = .ok (.iload 5, 2) := by decide +kernel
theorem dL_law_499 : decode cL_law 499 = .ok (.iconst 1, 1) := by decide +kernel
theorem dL_law_500 : decode cL_law 500 = .ok (.iadd, 1) := by decide +kernel
theorem dL_law_501 : decode cL_law 501 = .ok (.iaload, 1) := by decide +kernel
theorem dL_law_502 : decode cL_law 502 = .ok (.invokevirtual 176, 3) := by decide +kernel
theorem dL_law_505 : decode cL_law 505 = .ok (.istore 7, 2) := by decide +kernel
theorem dL_law_507 : decode cL_law 507 = .ok (.aload_n 2, 1) := by decide +kernel
theorem dL_law_508 : decode cL_law 508 = .ok (.invokevirtual 155, 3) := by decide +kernel
theorem dL_law_511 : decode cL_law 511 = .ok (.iload 6, 2) := by decide +kernel
theorem dL_law_513 : decode cL_law 513 = .ok (.if_icmp .eq 5, 3) := by decide +kernel
theorem dL_law_516 : decode cL_law 516 = .ok (.iconst 0, 1) := by decide +kernel
theorem dL_law_517 : decode cL_law 517 = .ok (.ireturn, 1) := by decide +kernel
theorem dL_law_518 : decode cL_law 518 = .ok (.iload 6, 2) := by decide +kernel
theorem dL_law_520 : decode cL_law 520 = .ok (.ifCond .ne 15, 3) := by decide +kernel
theorem dL_law_523 : decode cL_law 523 = .ok (.aload_n 3, 1) := by decide +kernel
theorem dL_law_524 : decode cL_law 524 = .ok (.iconst 0, 1) := by decide +kernel
theorem dL_law_525 : decode cL_law 525 = .ok (.laload, 1) := by decide +kernel
theorem dL_law_526 : decode cL_law 526 = .ok (.iload 7, 2) := by decide +kernel
theorem dL_law_528 : decode cL_law 528 = .ok (.i2l, 1) := by decide +kernel
theorem dL_law_529 : decode cL_law 529 = .ok (.lcmp, 1) := by decide +kernel
theorem dL_law_530 : decode cL_law 530 = .ok (.ifCond .eq 5, 3) := by decide +kernel
theorem dL_law_533 : decode cL_law 533 = .ok (.iconst 0, 1) := by decide +kernel
theorem dL_law_534 : decode cL_law 534 = .ok (.ireturn, 1) := by decide +kernel
theorem dL_law_535 : decode cL_law 535 = .ok (.goto 1934, 3) := by decide +kernel
theorem dL_law_538 : decode cL_law 538 = .ok (.aload_n 1, 1) := by decide +kernel
theorem dL_law_539 : decode cL_law 539 = .ok (.aload_n 0, 1) := by decide +kernel
theorem dL_law_540 : decode cL_law 540 = .ok (.iload 5, 2) := by decide +kernel
theorem dL_law_542 : decode cL_law 542 = .ok (.iconst 1, 1) := by decide +kernel
theorem dL_law_543 : decode cL_law 543 = .ok (.iadd, 1) := by decide +kernel
theorem dL_law_544 : decode cL_law 544 = .ok (.iaload, 1) := by decide +kernel
theorem dL_law_545 : decode cL_law 545 = .ok (.aload_n 3, 1) := by decide +kernel
theorem dL_law_546 : decode cL_law 546 = .ok (.invokestatic 177, 3) := by decide +kernel
theorem dL_law_549 : decode cL_law 549 = .ok (.istore 6, 2) := by decide +kernel
theorem dL_law_551 : decode cL_law 551 = .ok (.aload_n 2, 1) := by decide +kernel
theorem dL_law_552 : decode cL_law 552 = .ok (.aload_n 0, 1) := by decide +kernel
theorem dL_law_553 : decode cL_law 553 = .ok (.iload 5, 2) := by decide +kernel
theorem dL_law_555 : decode cL_law 555 = .ok (.iconst 1, 1) := by decide +kernel
theorem dL_law_556 : decode cL_law 556 = .ok (.iadd, 1) := by decide +kernel
theorem dL_law_557 : decode cL_law 557 = .ok (.iaload, 1) := by decide +kernel
theorem dL_law_558 : decode cL_law 558 = .ok (.invokevirtual 179, 3) := by decide +kernel
theorem dL_law_561 : decode cL_law 561 = .ok (.istore 7, 2) := by decide +kernel
theorem dL_law_563 : decode cL_law 563 = .ok (.aload_n 2, 1) := by decide +kernel
theorem dL_law_564 : decode cL_law 564 = .ok (.invokevirtual 155, 3) := by decide +kernel
theorem dL_law_567 : decode cL_law 567 = .ok (.iload 6, 2) := by decide +kernel
theorem dL_law_569 : decode cL_law 569 = .ok (.if_icmp .eq 5, 3) := by decide +kernel
theorem dL_law_572 : decode cL_law 572 = .ok (.iconst 0, 1) := by decide +kernel
theorem dL_law_573 : decode cL_law 573 = .ok (.ireturn, 1) := by decide +kernel
theorem dL_law_574 : decode cL_law 574 = .ok (.iload 6, 2) := by decide +kernel
theorem dL_law_576 : decode cL_law 576 = .ok (.ifCond .ne 15, 3) := by decide +kernel
theorem dL_law_579 : decode cL_law 579 = .ok (.aload_n 3, 1) := by decide +kernel
theorem dL_law_580 : decode cL_law 580 = .ok (.iconst 0, 1) := by decide +kernel
theorem dL_law_581 : decode cL_law 581 = .ok (.laload, 1) := by decide +kernel
theorem dL_law_582 : decode cL_law 582 = .ok (.iload 7, 2) := by decide +kernel
theorem dL_law_584 : decode cL_law 584 = .ok (.i2l, 1) := by decide +kernel
theorem dL_law_585 : decode cL_law 585 = .ok (.lcmp, 1) := by decide +kernel
theorem dL_law_586 : decode cL_law 586 = .ok (.ifCond .eq 5, 3) := by decide +kernel
theorem dL_law_589 : decode cL_law 589 = .ok (.iconst 0, 1) := by decide +kernel
theorem dL_law_590 : decode cL_law 590 = .ok (.ireturn, 1) := by decide +kernel
theorem dL_law_591 : decode cL_law 591 = .ok (.goto 1878, 3) := by decide +kernel
theorem dL_law_594 : decode cL_law 594 = .ok (.aload_n 1, 1) := by decide +kernel
theorem dL_law_595 : decode cL_law 595 = .ok (.aload_n 0, 1) := by decide +kernel
theorem dL_law_596 : decode cL_law 596 = .ok (.iload 5, 2) := by decide +kernel
theorem dL_law_598 : decode cL_law 598 = .ok (.iconst 1, 1) := by decide +kernel
theorem dL_law_599 : decode cL_law 599 = .ok (.iadd, 1) := by decide +kernel
theorem dL_law_600 : decode cL_law 600 = .ok (.iaload, 1) := by decide +kernel
theorem dL_law_601 : decode cL_law 601 = .ok (.aload_n 3, 1) := by decide +kernel
theorem dL_law_602 : decode cL_law 602 = .ok (.invokestatic 180, 3) := by decide +kernel
theorem dL_law_605 : decode cL_law 605 = .ok (.istore 6, 2) := by decide +kernel
theorem dL_law_607 : decode cL_law 607 = .ok (.aload_n 2, 1) := by decide +kernel
theorem dL_law_608 : decode cL_law 608 = .ok (.aload_n 0, 1) := by decide +kernel
theorem dL_law_609 : decode cL_law 609 = .ok (.iload 5, 2) := by decide +kernel
theorem dL_law_611 : decode cL_law 611 = .ok (.iconst 1, 1) := by decide +kernel
theorem dL_law_612 : decode cL_law 612 = .ok (.iadd, 1) := by decide +kernel
theorem dL_law_613 : decode cL_law 613 = .ok (.iaload, 1) := by decide +kernel
theorem dL_law_614 : decode cL_law 614 = .ok (.invokevirtual 182, 3) := by decide +kernel
theorem dL_law_617 : decode cL_law 617 = .ok (.istore 7, 2) := by decide +kernel
theorem dL_law_619 : decode cL_law 619 = .ok (.aload_n 2, 1) := by decide +kernel
theorem dL_law_620 : decode cL_law 620 = .ok (.invokevirtual 155, 3) := by decide +kernel
theorem dL_law_623 : decode cL_law 623 = .ok (.iload 6, 2) := by decide +kernel
theorem dL_law_625 : decode cL_law 625 = .ok (.if_icmp .eq 5, 3) := by decide +kernel
theorem dL_law_628 : decode cL_law 628 = .ok (.iconst 0, 1) := by decide +kernel
theorem dL_law_629 : decode cL_law 629 = .ok (.ireturn, 1) := by decide +kernel
theorem dL_law_630 : decode cL_law 630 = .ok (.iload 6, 2) := by decide +kernel
theorem dL_law_632 : decode cL_law 632 = .ok (.ifCond .ne 15, 3) := by decide +kernel
theorem dL_law_635 : decode cL_law 635 = .ok (.aload_n 3, 1) := by decide +kernel
theorem dL_law_636 : decode cL_law 636 = .ok (.iconst 0, 1) := by decide +kernel
theorem dL_law_637 : decode cL_law 637 = .ok (.laload, 1) := by decide +kernel
theorem dL_law_638 : decode cL_law 638 = .ok (.iload 7, 2) := by decide +kernel
theorem dL_law_640 : decode cL_law 640 = .ok (.i2l, 1) := by decide +kernel
theorem dL_law_641 : decode cL_law 641 = .ok (.lcmp, 1) := by decide +kernel
theorem dL_law_642 : decode cL_law 642 = .ok (.ifCond .eq 5, 3) := by decide +kernel
theorem dL_law_645 : decode cL_law 645 = .ok (.iconst 0, 1) := by decide +kernel
theorem dL_law_646 : decode cL_law 646 = .ok (.ireturn, 1) := by decide +kernel
theorem dL_law_647 : decode cL_law 647 = .ok (.goto 1822, 3) := by decide +kernel
theorem dL_law_650 : decode cL_law 650 = .ok (.aload_n 1, 1) := by decide +kernel
theorem dL_law_651 : decode cL_law 651 = .ok (.aload_n 0, 1) := by decide +kernel
theorem dL_law_652 : decode cL_law 652 = .ok (.iload 5, 2) := by decide +kernel
theorem dL_law_654 : decode cL_law 654 = .ok (.iconst 1, 1) := by decide +kernel
theorem dL_law_655 : decode cL_law 655 = .ok (.iadd, 1) := by decide +kernel
theorem dL_law_656 : decode cL_law 656 = .ok (.iaload, 1) := by decide +kernel
theorem dL_law_657 : decode cL_law 657 = .ok (.aload_n 3, 1) := by decide +kernel
theorem dL_law_658 : decode cL_law 658 = .ok (.invokestatic 183, 3) := by decide +kernel
theorem dL_law_661 : decode cL_law 661 = .ok (.istore 6, 2) := by decide +kernel
theorem dL_law_663 : decode cL_law 663 = .ok (.aload_n 2, 1) := by decide +kernel
theorem dL_law_664 : decode cL_law 664 = .ok (.aload_n 0, 1) := by decide +kernel
theorem dL_law_665 : decode cL_law 665 = .ok (.iload 5, 2) := by decide +kernel
theorem dL_law_667 : decode cL_law 667 = .ok (.iconst 1, 1) := by decide +kernel
theorem dL_law_668 : decode cL_law 668 = .ok (.iadd, 1) := by decide +kernel
theorem dL_law_669 : decode cL_law 669 = .ok (.iaload, 1) := by decide +kernel
theorem dL_law_670 : decode cL_law 670 = .ok (.invokevirtual 185, 3) := by decide +kernel
theorem dL_law_673 : decode cL_law 673 = .ok (.istore 7, 2) := by decide +kernel
theorem dL_law_675 : decode cL_law 675 = .ok (.aload_n 2, 1) := by decide +kernel
theorem dL_law_676 : decode cL_law 676 = .ok (.invokevirtual 155, 3) := by decide +kernel
theorem dL_law_679 : decode cL_law 679 = .ok (.iload 6, 2) := by decide +kernel
theorem dL_law_681 : decode cL_law 681 = .ok (.if_icmp .eq 5, 3) := by decide +kernel
theorem dL_law_684 : decode cL_law 684 = .ok (.iconst 0, 1) := by decide +kernel
theorem dL_law_685 : decode cL_law 685 = .ok (.ireturn, 1) := by decide +kernel
theorem dL_law_686 : decode cL_law 686 = .ok (.iload 6, 2) := by decide +kernel
theorem dL_law_688 : decode cL_law 688 = .ok (.ifCond .ne 15, 3) := by decide +kernel
theorem dL_law_691 : decode cL_law 691 = .ok (.aload_n 3, 1) := by decide +kernel
theorem dL_law_692 : decode cL_law 692 = .ok (.iconst 0, 1) := by decide +kernel
theorem dL_law_693 : decode cL_law 693 = .ok (.laload, 1) := by decide +kernel
theorem dL_law_694 : decode cL_law 694 = .ok (.iload 7, 2) := by decide +kernel
theorem dL_law_696 : decode cL_law 696 = .ok (.i2l, 1) := by decide +kernel
theorem dL_law_697 : decode cL_law 697 = .ok (.lcmp, 1) := by decide +kernel
theorem dL_law_698 : decode cL_law 698 = .ok (.ifCond .eq 5, 3) := by decide +kernel
theorem dL_law_701 : decode cL_law 701 = .ok (.iconst 0, 1) := by decide +kernel
theorem dL_law_702 : decode cL_law 702 = .ok (.ireturn, 1) := by decide +kernel
theorem dL_law_703 : decode cL_law 703 = .ok (.goto 1766, 3) := by decide +kernel
theorem dL_law_706 : decode cL_law 706 = .ok (.aload_n 1, 1) := by decide +kernel
theorem dL_law_707 : decode cL_law 707 = .ok (.aload_n 0, 1) := by decide +kernel
theorem dL_law_708 : decode cL_law 708 = .ok (.iload 5, 2) := by decide +kernel
theorem dL_law_710 : decode cL_law 710 = .ok (.iconst 1, 1) := by decide +kernel
theorem dL_law_711 : decode cL_law 711 = .ok (.iadd, 1) := by decide +kernel
theorem dL_law_712 : decode cL_law 712 = .ok (.iaload, 1) := by decide +kernel
theorem dL_law_713 : decode cL_law 713 = .ok (.aload_n 3, 1) := by decide +kernel
theorem dL_law_714 : decode cL_law 714 = .ok (.invokestatic 186, 3) := by decide +kernel
theorem dL_law_717 : decode cL_law 717 = .ok (.istore 6, 2) := by decide +kernel
theorem dL_law_719 : decode cL_law 719 = .ok (.aload_n 2, 1) := by decide +kernel
theorem dL_law_720 : decode cL_law 720 = .ok (.aload_n 0, 1) := by decide +kernel
theorem dL_law_721 : decode cL_law 721 = .ok (.iload 5, 2) := by decide +kernel
theorem dL_law_723 : decode cL_law 723 = .ok (.iconst 1, 1) := by decide +kernel
theorem dL_law_724 : decode cL_law 724 = .ok (.iadd, 1) := by decide +kernel
theorem dL_law_725 : decode cL_law 725 = .ok (.iaload, 1) := by decide +kernel
theorem dL_law_726 : decode cL_law 726 = .ok (.invokevirtual 188, 3) := by decide +kernel
theorem dL_law_729 : decode cL_law 729 = .ok (.istore 7, 2) := by decide +kernel
theorem dL_law_731 : decode cL_law 731 = .ok (.aload_n 2, 1) := by decide +kernel
theorem dL_law_732 : decode cL_law 732 = .ok (.invokevirtual 155, 3) := by decide +kernel
theorem dL_law_735 : decode cL_law 735 = .ok (.iload 6, 2) := by decide +kernel
theorem dL_law_737 : decode cL_law 737 = .ok (.if_icmp .eq 5, 3) := by decide +kernel
theorem dL_law_740 : decode cL_law 740 = .ok (.iconst 0, 1) := by decide +kernel
theorem dL_law_741 : decode cL_law 741 = .ok (.ireturn, 1) := by decide +kernel
theorem dL_law_742 : decode cL_law 742 = .ok (.iload 6, 2) := by decide +kernel
theorem dL_law_744 : decode cL_law 744 = .ok (.ifCond .ne 15, 3) := by decide +kernel
theorem dL_law_747 : decode cL_law 747 = .ok (.aload_n 3, 1) := by decide +kernel
theorem dL_law_748 : decode cL_law 748 = .ok (.iconst 0, 1) := by decide +kernel
theorem dL_law_749 : decode cL_law 749 = .ok (.laload, 1) := by decide +kernel
theorem dL_law_750 : decode cL_law 750 = .ok (.iload 7, 2) := by decide +kernel
theorem dL_law_752 : decode cL_law 752 = .ok (.i2l, 1) := by decide +kernel
theorem dL_law_753 : decode cL_law 753 = .ok (.lcmp, 1) := by decide +kernel
theorem dL_law_754 : decode cL_law 754 = .ok (.ifCond .eq 5, 3) := by decide +kernel
theorem dL_law_757 : decode cL_law 757 = .ok (.iconst 0, 1) := by decide +kernel
theorem dL_law_758 : decode cL_law 758 = .ok (.ireturn, 1) := by decide +kernel
theorem dL_law_759 : decode cL_law 759 = .ok (.goto 1710, 3) := by decide +kernel
theorem dL_law_762 : decode cL_law 762 = .ok (.aload_n 1, 1) := by decide +kernel
theorem dL_law_763 : decode cL_law 763 = .ok (.aload_n 0, 1) := by decide +kernel
theorem dL_law_764 : decode cL_law 764 = .ok (.iload 5, 2) := by decide +kernel
theorem dL_law_766 : decode cL_law 766 = .ok (.iconst 1, 1) := by decide +kernel
theorem dL_law_767 : decode cL_law 767 = .ok (.iadd, 1) := by decide +kernel
theorem dL_law_768 : decode cL_law 768 = .ok (.iaload, 1) := by decide +kernel
theorem dL_law_769 : decode cL_law 769 = .ok (.aload_n 3, 1) := by decide +kernel
theorem dL_law_770 : decode cL_law 770 = .ok (.invokestatic 189, 3) := by decide +kernel
theorem dL_law_773 : decode cL_law 773 = .ok (.istore 6, 2) := by decide +kernel
theorem dL_law_775 : decode cL_law 775 = .ok (.aload_n 2, 1) := by decide +kernel
theorem dL_law_776 : decode cL_law 776 = .ok (.aload_n 0, 1) := by decide +kernel
theorem dL_law_777 : decode cL_law 777 = .ok (.iload 5, 2) := by decide +kernel
theorem dL_law_779 : decode cL_law 779 = .ok (.iconst 1, 1) := by decide +kernel
theorem dL_law_780 : decode cL_law 780 = .ok (.iadd, 1) := by decide +kernel
theorem dL_law_781 : decode cL_law 781 = .ok (.iaload, 1) := by decide +kernel
theorem dL_law_782 : decode cL_law 782 = .ok (.invokevirtual 191, 3) := by decide +kernel
theorem dL_law_785 : decode cL_law 785 = .ok (.istore 7, 2) := by decide +kernel
theorem dL_law_787 : decode cL_law 787 = .ok (.aload_n 2, 1) := by decide +kernel
theorem dL_law_788 : decode cL_law 788 = .ok (.invokevirtual 155, 3) := by decide +kernel
theorem dL_law_791 : decode cL_law 791 = .ok (.iload 6, 2) := by decide +kernel
theorem dL_law_793 : decode cL_law 793 = .ok (.if_icmp .eq 5, 3) := by decide +kernel
theorem dL_law_796 : decode cL_law 796 = .ok (.iconst 0, 1) := by decide +kernel
theorem dL_law_797 : decode cL_law 797 = .ok (.ireturn, 1) := by decide +kernel
theorem dL_law_798 : decode cL_law 798 = .ok (.iload 6, 2) := by decide +kernel
theorem dL_law_800 : decode cL_law 800 = .ok (.ifCond .ne 15, 3) := by decide +kernel
theorem dL_law_803 : decode cL_law 803 = .ok (.aload_n 3, 1) := by decide +kernel
theorem dL_law_804 : decode cL_law 804 = .ok (.iconst 0, 1) := by decide +kernel
theorem dL_law_805 : decode cL_law 805 = .ok (.laload, 1) := by decide +kernel
theorem dL_law_806 : decode cL_law 806 = .ok (.iload 7, 2) := by decide +kernel
theorem dL_law_808 : decode cL_law 808 = .ok (.i2l, 1) := by decide +kernel
theorem dL_law_809 : decode cL_law 809 = .ok (.lcmp, 1) := by decide +kernel
theorem dL_law_810 : decode cL_law 810 = .ok (.ifCond .eq 5, 3) := by decide +kernel
theorem dL_law_813 : decode cL_law 813 = .ok (.iconst 0, 1) := by decide +kernel
theorem dL_law_814 : decode cL_law 814 = .ok (.ireturn, 1) := by decide +kernel
theorem dL_law_815 : decode cL_law 815 = .ok (.goto 1654, 3) := by decide +kernel
theorem dL_law_818 : decode cL_law 818 = .ok (.aload_n 1, 1) := by decide +kernel
theorem dL_law_819 : decode cL_law 819 = .ok (.aload_n 0, 1) := by decide +kernel
theorem dL_law_820 : decode cL_law 820 = .ok (.iload 5, 2) := by decide +kernel
theorem dL_law_822 : decode cL_law 822 = .ok (.iconst 1, 1) := by decide +kernel
theorem dL_law_823 : decode cL_law 823 = .ok (.iadd, 1) := by decide +kernel
theorem dL_law_824 : decode cL_law 824 = .ok (.iaload, 1) := by decide +kernel
theorem dL_law_825 : decode cL_law 825 = .ok (.aload_n 3, 1) := by decide +kernel
theorem dL_law_826 : decode cL_law 826 = .ok (.invokestatic 192, 3) := by decide +kernel
theorem dL_law_829 : decode cL_law 829 = .ok (.istore 6, 2) := by decide +kernel
theorem dL_law_831 : decode cL_law 831 = .ok (.aload_n 2, 1) := by decide +kernel
theorem dL_law_832 : decode cL_law 832 = .ok (.aload_n 0, 1) := by decide +kernel
theorem dL_law_833 : decode cL_law 833 = .ok (.iload 5, 2) := by decide +kernel
theorem dL_law_835 : decode cL_law 835 = .ok (.iconst 1, 1) := by decide +kernel
theorem dL_law_836 : decode cL_law 836 = .ok (.iadd, 1) := by decide +kernel
theorem dL_law_837 : decode cL_law 837 = .ok (.iaload, 1) := by decide +kernel
theorem dL_law_838 : decode cL_law 838 = .ok (.invokevirtual 194, 3) := by decide +kernel
theorem dL_law_841 : decode cL_law 841 = .ok (.istore 7, 2) := by decide +kernel
theorem dL_law_843 : decode cL_law 843 = .ok (.aload_n 2, 1) := by decide +kernel
theorem dL_law_844 : decode cL_law 844 = .ok (.invokevirtual 155, 3) := by decide +kernel
theorem dL_law_847 : decode cL_law 847 = .ok (.iload 6, 2) := by decide +kernel
theorem dL_law_849 : decode cL_law 849 = .ok (.if_icmp .eq 5, 3) := by decide +kernel
theorem dL_law_852 : decode cL_law 852 = .ok (.iconst 0, 1) := by decide +kernel
theorem dL_law_853 : decode cL_law 853 = .ok (.ireturn, 1) := by decide +kernel
theorem dL_law_854 : decode cL_law 854 = .ok (.iload 6, 2) := by decide +kernel
theorem dL_law_856 : decode cL_law 856 = .ok (.ifCond .ne 15, 3) := by decide +kernel
theorem dL_law_859 : decode cL_law 859 = .ok (.aload_n 3, 1) := by decide +kernel
theorem dL_law_860 : decode cL_law 860 = .ok (.iconst 0, 1) := by decide +kernel
theorem dL_law_861 : decode cL_law 861 = .ok (.laload, 1) := by decide +kernel
theorem dL_law_862 : decode cL_law 862 = .ok (.iload 7, 2) := by decide +kernel
theorem dL_law_864 : decode cL_law 864 = .ok (.i2l, 1) := by decide +kernel
theorem dL_law_865 : decode cL_law 865 = .ok (.lcmp, 1) := by decide +kernel
theorem dL_law_866 : decode cL_law 866 = .ok (.ifCond .eq 5, 3) := by decide +kernel
theorem dL_law_869 : decode cL_law 869 = .ok (.iconst 0, 1) := by decide +kernel
theorem dL_law_870 : decode cL_law 870 = .ok (.ireturn, 1) := by decide +kernel
theorem dL_law_871 : decode cL_law 871 = .ok (.goto 1598, 3) := by decide +kernel
theorem dL_law_874 : decode cL_law 874 = .ok (.aload_n 1, 1) := by decide +kernel
theorem dL_law_875 : decode cL_law 875 = .ok (.aload_n 0, 1) := by decide +kernel
theorem dL_law_876 : decode cL_law 876 = .ok (.iload 5, 2) := by decide +kernel
theorem dL_law_878 : decode cL_law 878 = .ok (.iconst 1, 1) := by decide +kernel
theorem dL_law_879 : decode cL_law 879 = .ok (.iadd, 1) := by decide +kernel
theorem dL_law_880 : decode cL_law 880 = .ok (.iaload, 1) := by decide +kernel
theorem dL_law_881 : decode cL_law 881 = .ok (.aload_n 3, 1) := by decide +kernel
theorem dL_law_882 : decode cL_law 882 = .ok (.invokestatic 195, 3) := by decide +kernel
theorem dL_law_885 : decode cL_law 885 = .ok (.istore 6, 2) := by decide +kernel
theorem dL_law_887 : decode cL_law 887 = .ok (.aload_n 2, 1) := by decide +kernel
theorem dL_law_888 : decode cL_law 888 = .ok (.aload_n 0, 1) := by decide +kernel
theorem dL_law_889 : decode cL_law 889 = .ok (.iload 5, 2) := by decide +kernel
theorem dL_law_891 : decode cL_law 891 = .ok (.iconst 1, 1) := by decide +kernel
theorem dL_law_892 : decode cL_law 892 = .ok (.iadd, 1) := by decide +kernel
theorem dL_law_893 : decode cL_law 893 = .ok (.iaload, 1) := by decide +kernel
theorem dL_law_894 : decode cL_law 894 = .ok (.invokevirtual 197, 3) := by decide +kernel
theorem dL_law_897 : decode cL_law 897 = .ok (.istore 7, 2) := by decide +kernel
theorem dL_law_899 : decode cL_law 899 = .ok (.aload_n 2, 1) := by decide +kernel
theorem dL_law_900 : decode cL_law 900 = .ok (.invokevirtual 155, 3) := by decide +kernel
theorem dL_law_903 : decode cL_law 903 = .ok (.iload 6, 2) := by decide +kernel
theorem dL_law_905 : decode cL_law 905 = .ok (.if_icmp .eq 5, 3) := by decide +kernel
theorem dL_law_908 : decode cL_law 908 = .ok (.iconst 0, 1) := by decide +kernel
theorem dL_law_909 : decode cL_law 909 = .ok (.ireturn, 1) := by decide +kernel
theorem dL_law_910 : decode cL_law 910 = .ok (.iload 6, 2) := by decide +kernel
theorem dL_law_912 : decode cL_law 912 = .ok (.ifCond .ne 22, 3) := by decide +kernel
theorem dL_law_915 : decode cL_law 915 = .ok (.aload_n 3, 1) := by decide +kernel
theorem dL_law_916 : decode cL_law 916 = .ok (.iconst 0, 1) := by decide +kernel
theorem dL_law_917 : decode cL_law 917 = .ok (.laload, 1) := by decide +kernel
theorem dL_law_918 : decode cL_law 918 = .ok (.iload 7, 2) := by decide +kernel
theorem dL_law_920 : decode cL_law 920 = .ok (.ifCond .eq 7, 3) := by decide +kernel
theorem dL_law_923 : decode cL_law 923 = .ok (.lconst 1, 1) := by decide +kernel
theorem dL_law_924 : decode cL_law 924 = .ok (.goto 4, 3) := by decide +kernel
theorem dL_law_927 : decode cL_law 927 = .ok (.lconst 0, 1) := by decide +kernel
theorem dL_law_928 : decode cL_law 928 = .ok (.lcmp, 1) := by decide +kernel
theorem dL_law_929 : decode cL_law 929 = .ok (.ifCond .eq 5, 3) := by decide +kernel
theorem dL_law_932 : decode cL_law 932 = .ok (.iconst 0, 1) := by decide +kernel
theorem dL_law_933 : decode cL_law 933 = .ok (.ireturn, 1) := by decide +kernel
theorem dL_law_934 : decode cL_law 934 = .ok (.goto 1535, 3) := by decide +kernel
theorem dL_law_937 : decode cL_law 937 = .ok (.aload_n 1, 1) := by decide +kernel
theorem dL_law_938 : decode cL_law 938 = .ok (.aload_n 0, 1) := by decide +kernel
theorem dL_law_939 : decode cL_law 939 = .ok (.iload 5, 2) := by decide +kernel
theorem dL_law_941 : decode cL_law 941 = .ok (.iconst 1, 1) := by decide +kernel
theorem dL_law_942 : decode cL_law 942 = .ok (.iadd, 1) := by decide +kernel
theorem dL_law_943 : decode cL_law 943 = .ok (.iaload, 1) := by decide +kernel
theorem dL_law_944 : decode cL_law 944 = .ok (.aload_n 3, 1) := by decide +kernel
theorem dL_law_945 : decode cL_law 945 = .ok (.invokestatic 198, 3) := by decide +kernel
theorem dL_law_948 : decode cL_law 948 = .ok (.istore 6, 2) := by decide +kernel
theorem dL_law_950 : decode cL_law 950 = .ok (.aload_n 2, 1) := by decide +kernel
theorem dL_law_951 : decode cL_law 951 = .ok (.aload_n 0, 1) := by decide +kernel
theorem dL_law_952 : decode cL_law 952 = .ok (.iload 5, 2) := by decide +kernel
theorem dL_law_954 : decode cL_law 954 = .ok (.iconst 1, 1) := by decide +kernel
theorem dL_law_955 : decode cL_law 955 = .ok (.iadd, 1) := by decide +kernel
theorem dL_law_956 : decode cL_law 956 = .ok (.iaload, 1) := by decide +kernel
theorem dL_law_957 : decode cL_law 957 = .ok (.invokevirtual 200, 3) := by decide +kernel
theorem dL_law_960 : decode cL_law 960 = .ok (.istore 7, 2) := by decide +kernel
theorem dL_law_962 : decode cL_law 962 = .ok (.aload_n 2, 1) := by decide +kernel
theorem dL_law_963 : decode cL_law 963 = .ok (.invokevirtual 155, 3) := by decide +kernel
theorem dL_law_966 : decode cL_law 966 = .ok (.iload 6, 2) := by decide +kernel
theorem dL_law_968 : decode cL_law 968 = .ok (.if_icmp .eq 5, 3) := by decide +kernel
theorem dL_law_971 : decode cL_law 971 = .ok (.iconst 0, 1) := by decide +kernel
theorem dL_law_972 : decode cL_law 972 = .ok (.ireturn, 1) := by decide +kernel
theorem dL_law_973 : decode cL_law 973 = .ok (.iload 6, 2) := by decide +kernel
theorem dL_law_975 : decode cL_law 975 = .ok (.ifCond .ne 22, 3) := by decide +kernel
theorem dL_law_978 : decode cL_law 978 = .ok (.aload_n 3, 1) := by decide +kernel
theorem dL_law_979 : decode cL_law 979 = .ok (.iconst 0, 1) := by decide +kernel
theorem dL_law_980 : decode cL_law 980 = .ok (.laload, 1) := by decide +kernel
theorem dL_law_981 : decode cL_law 981 = .ok (.iload 7, 2) := by decide +kernel
theorem dL_law_983 : decode cL_law 983 = .ok (.ifCond .eq 7, 3) := by decide +kernel
theorem dL_law_986 : decode cL_law 986 = .ok (.lconst 1, 1) := by decide +kernel
theorem dL_law_987 : decode cL_law 987 = .ok (.goto 4, 3) := by decide +kernel
theorem dL_law_990 : decode cL_law 990 = .ok (.lconst 0, 1) := by decide +kernel
theorem dL_law_991 : decode cL_law 991 = .ok (.lcmp, 1) := by decide +kernel
theorem dL_law_992 : decode cL_law 992 = .ok (.ifCond .eq 5, 3) := by decide +kernel
theorem dL_law_995 : decode cL_law 995 = .ok (.iconst 0, 1) := by decide +kernel
theorem dL_law_996 : decode cL_law 996 = .ok (.ireturn, 1) := by decide +kernel
theorem dL_law_997 : decode cL_law 997 = .ok (.goto 1472, 3) := by decide +kernel
theorem dL_law_1000 : decode cL_law 1000 = .ok (.aload_n 1, 1) := by decide +kernel
theorem dL_law_1001 : decode cL_law 1001 = .ok (.aload_n 0, 1) := by decide +kernel
theorem dL_law_1002 : decode cL_law 1002 = .ok (.iload 5, 2) := by decide +kernel
theorem dL_law_1004 : decode cL_law 1004 = .ok (.iconst 1, 1) := by decide +kernel
theorem dL_law_1005 : decode cL_law 1005 = .ok (.iadd, 1) := by decide +kernel
theorem dL_law_1006 : decode cL_law 1006 = .ok (.iaload, 1) := by decide +kernel
theorem dL_law_1007 : decode cL_law 1007 = .ok (.aload_n 3, 1) := by decide +kernel
theorem dL_law_1008 : decode cL_law 1008 = .ok (.invokestatic 201, 3) := by decide +kernel
theorem dL_law_1011 : decode cL_law 1011 = .ok (.istore 6, 2) := by decide +kernel
theorem dL_law_1013 : decode cL_law 1013 = .ok (.aload_n 2, 1) := by decide +kernel
theorem dL_law_1014 : decode cL_law 1014 = .ok (.aload_n 0, 1) := by decide +kernel
theorem dL_law_1015 : decode cL_law 1015 = .ok (.iload 5, 2) := by decide +kernel
theorem dL_law_1017 : decode cL_law 1017 = .ok (.iconst 1, 1) := by decide +kernel
theorem dL_law_1018 : decode cL_law 1018 = .ok (.iadd, 1) := by decide +kernel
theorem dL_law_1019 : decode cL_law 1019 = .ok (.iaload, 1) := by decide +kernel
theorem dL_law_1020 : decode cL_law 1020 = .ok (.invokevirtual 203, 3) := by decide +kernel
theorem dL_law_1023 : decode cL_law 1023 = .ok (.istore 7, 2) := by decide +kernel
theorem dL_law_1025 : decode cL_law 1025 = .ok (.aload_n 2, 1) := by decide +kernel
theorem dL_law_1026 : decode cL_law 1026 = .ok (.invokevirtual 155, 3) := by decide +kernel
theorem dL_law_1029 : decode cL_law 1029 = .ok (.iload 6, 2) := by decide +kernel
theorem dL_law_1031 : decode cL_law 1031 = .ok (.if_icmp .eq 5, 3) := by decide +kernel
theorem dL_law_1034 : decode cL_law 1034 = .ok (.iconst 0, 1) := by decide +kernel
theorem dL_law_1035 : decode cL_law 1035 = .ok (.ireturn, 1) := by decide +kernel
theorem dL_law_1036 : decode cL_law 1036 = .ok (.iload 6, 2) := by decide +kernel
theorem dL_law_1038 : decode cL_law 1038 = .ok (.ifCond .ne 15, 3) := by decide +kernel
theorem dL_law_1041 : decode cL_law 1041 = .ok (.aload_n 3, 1) := by decide +kernel
theorem dL_law_1042 : decode cL_law 1042 = .ok (.iconst 0, 1) := by decide +kernel
theorem dL_law_1043 : decode cL_law 1043 = .ok (.laload, 1) := by decide +kernel
theorem dL_law_1044 : decode cL_law 1044 = .ok (.iload 7, 2) := by decide +kernel
theorem dL_law_1046 : decode cL_law 1046 = .ok (.i2l, 1) := by decide +kernel
theorem dL_law_1047 : decode cL_law 1047 = .ok (.lcmp, 1) := by decide +kernel
theorem dL_law_1048 : decode cL_law 1048 = .ok (.ifCond .eq 5, 3) := by decide +kernel
theorem dL_law_1051 : decode cL_law 1051 = .ok (.iconst 0, 1) := by decide +kernel
theorem dL_law_1052 : decode cL_law 1052 = .ok (.ireturn, 1) := by decide +kernel
theorem dL_law_1053 : decode cL_law 1053 = .ok (.goto 1416, 3) := by decide +kernel
theorem dL_law_1056 : decode cL_law 1056 = .ok (.aload_n 1, 1) := by decide +kernel
theorem dL_law_1057 : decode cL_law 1057 = .ok (.aload_n 0, 1) := by decide +kernel
theorem dL_law_1058 : decode cL_law 1058 = .ok (.iload 5, 2) := by decide +kernel
theorem dL_law_1060 : decode cL_law 1060 = .ok (.iconst 1, 1) := by decide +kernel
theorem dL_law_1061 : decode cL_law 1061 = .ok (.iadd, 1) := by decide +kernel
theorem dL_law_1062 : decode cL_law 1062 = .ok (.iaload, 1) := by decide +kernel
theorem dL_law_1063 : decode cL_law 1063 = .ok (.aload_n 0, 1) := by decide +kernel
theorem dL_law_1064 : decode cL_law 1064 = .ok (.iload 5, 2) := by decide +kernel
theorem dL_law_1066 : decode cL_law 1066 = .ok (.iconst 2, 1) := by decide +kernel
theorem dL_law_1067 : decode cL_law 1067 = .ok (.iadd, 1) := by decide +kernel
theorem dL_law_1068 : decode cL_law 1068 = .ok (.iaload, 1) := by decide +kernel
theorem dL_law_1069 : decode cL_law 1069 = .ok (.aload_n 3, 1) := by decide +kernel
theorem dL_law_1070 : decode cL_law 1070 = .ok (.invokestatic 204, 3) := by decide +kernel
theorem dL_law_1073 : decode cL_law 1073 = .ok (.istore 6, 2) := by decide +kernel
theorem dL_law_1075 : decode cL_law 1075 = .ok (.aload_n 2, 1) := by decide +kernel
theorem dL_law_1076 : decode cL_law 1076 = .ok (.aload_n 0, 1) := by decide +kernel
theorem dL_law_1077 : decode cL_law 1077 = .ok (.iload 5, 2) := by decide +kernel
theorem dL_law_1079 : decode cL_law 1079 = .ok (.iconst 1, 1) := by decide +kernel
theorem dL_law_1080 : decode cL_law 1080 = .ok (.iadd, 1) := by decide +kernel
theorem dL_law_1081 : decode cL_law 1081 = .ok (.iaload, 1) := by decide +kernel
theorem dL_law_1082 : decode cL_law 1082 = .ok (.aload_n 0, 1) := by decide +kernel
theorem dL_law_1083 : decode cL_law 1083 = .ok (.iload 5, 2) := by decide +kernel
theorem dL_law_1085 : decode cL_law 1085 = .ok (.iconst 2, 1) := by decide +kernel
theorem dL_law_1086 : decode cL_law 1086 = .ok (.iadd, 1) := by decide +kernel
theorem dL_law_1087 : decode cL_law 1087 = .ok (.iaload, 1) := by decide +kernel
theorem dL_law_1088 : decode cL_law 1088 = .ok (.invokevirtual 207, 3) := by decide +kernel
theorem dL_law_1091 : decode cL_law 1091 = .ok (.istore 7, 2) := by decide +kernel
theorem dL_law_1093 : decode cL_law 1093 = .ok (.aload_n 2, 1) := by decide +kernel
theorem dL_law_1094 : decode cL_law 1094 = .ok (.invokevirtual 155, 3) := by decide +kernel
theorem dL_law_1097 : decode cL_law 1097 = .ok (.iload 6, 2) := by decide +kernel
theorem dL_law_1099 : decode cL_law 1099 = .ok (.if_icmp .eq 5, 3) := by decide +kernel
theorem dL_law_1102 : decode cL_law 1102 = .ok (.iconst 0, 1) := by decide +kernel
theorem dL_law_1103 : decode cL_law 1103 = .ok (.ireturn, 1) := by decide +kernel
theorem dL_law_1104 : decode cL_law 1104 = .ok (.iload 6, 2) := by decide +kernel
theorem dL_law_1106 : decode cL_law 1106 = .ok (.ifCond .ne 15, 3) := by decide +kernel
theorem dL_law_1109 : decode cL_law 1109 = .ok (.aload_n 3, 1) := by decide +kernel
theorem dL_law_1110 : decode cL_law 1110 = .ok (.iconst 0, 1) := by decide +kernel
theorem dL_law_1111 : decode cL_law 1111 = .ok (.laload, 1) := by decide +kernel
theorem dL_law_1112 : decode cL_law 1112 = .ok (.iload 7, 2) := by decide +kernel
theorem dL_law_1114 : decode cL_law 1114 = .ok (.i2l, 1) := by decide +kernel
theorem dL_law_1115 : decode cL_law 1115 = .ok (.lcmp, 1) := by decide +kernel
theorem dL_law_1116 : decode cL_law 1116 = .ok (.ifCond .eq 5, 3) := by decide +kernel
theorem dL_law_1119 : decode cL_law 1119 = .ok (.iconst 0, 1) := by decide +kernel
theorem dL_law_1120 : decode cL_law 1120 = .ok (.ireturn, 1) := by decide +kernel
theorem dL_law_1121 : decode cL_law 1121 = .ok (.goto 1348, 3) := by decide +kernel
theorem dL_law_1124 : decode cL_law 1124 = .ok (.aload_n 1, 1) := by decide +kernel
theorem dL_law_1125 : decode cL_law 1125 = .ok (.aload_n 0, 1) := by decide +kernel
theorem dL_law_1126 : decode cL_law 1126 = .ok (.iload 5, 2) := by decide +kernel
theorem dL_law_1128 : decode cL_law 1128 = .ok (.iconst 1, 1) := by decide +kernel
theorem dL_law_1129 : decode cL_law 1129 = .ok (.iadd, 1) := by decide +kernel
theorem dL_law_1130 : decode cL_law 1130 = .ok (.iaload, 1) := by decide +kernel
theorem dL_law_1131 : decode cL_law 1131 = .ok (.aload_n 3, 1) := by decide +kernel
theorem dL_law_1132 : decode cL_law 1132 = .ok (.invokestatic 208, 3) := by decide +kernel
theorem dL_law_1135 : decode cL_law 1135 = .ok (.istore 6, 2) := by decide +kernel
theorem dL_law_1137 : decode cL_law 1137 = .ok (.aload_n 2, 1) := by decide +kernel
theorem dL_law_1138 : decode cL_law 1138 = .ok (.aload_n 0, 1) := by decide +kernel
theorem dL_law_1139 : decode cL_law 1139 = .ok (.iload 5, 2) := by decide +kernel
theorem dL_law_1141 : decode cL_law 1141 = .ok (.iconst 1, 1) := by decide +kernel
theorem dL_law_1142 : decode cL_law 1142 = .ok (.iadd, 1) := by decide +kernel
theorem dL_law_1143 : decode cL_law 1143 = .ok (.iaload, 1) := by decide +kernel
theorem dL_law_1144 : decode cL_law 1144 = .ok (.invokevirtual 210, 3) := by decide +kernel
theorem dL_law_1147 : decode cL_law 1147 = .ok (.istore 7, 2) := by decide +kernel
theorem dL_law_1149 : decode cL_law 1149 = .ok (.aload_n 2, 1) := by decide +kernel
theorem dL_law_1150 : decode cL_law 1150 = .ok (.invokevirtual 155, 3) := by decide +kernel
theorem dL_law_1153 : decode cL_law 1153 = .ok (.iload 6, 2) := by decide +kernel
theorem dL_law_1155 : decode cL_law 1155 = .ok (.if_icmp .eq 5, 3) := by decide +kernel
theorem dL_law_1158 : decode cL_law 1158 = .ok (.iconst 0, 1) := by decide +kernel
theorem dL_law_1159 : decode cL_law 1159 = .ok (.ireturn, 1) := by decide +kernel
theorem dL_law_1160 : decode cL_law 1160 = .ok (.iload 6, 2) := by decide +kernel
theorem dL_law_1162 : decode cL_law 1162 = .ok (.ifCond .ne 15, 3) := by decide +kernel
theorem dL_law_1165 : decode cL_law 1165 = .ok (.aload_n 3, 1) := by decide +kernel
theorem dL_law_1166 : decode cL_law 1166 = .ok (.iconst 0, 1) := by decide +kernel
theorem dL_law_1167 : decode cL_law 1167 = .ok (.laload, 1) := by decide +kernel
theorem dL_law_1168 : decode cL_law 1168 = .ok (.iload 7, 2) := by decide +kernel
theorem dL_law_1170 : decode cL_law 1170 = .ok (.i2l, 1) := by decide +kernel
theorem dL_law_1171 : decode cL_law 1171 = .ok (.lcmp, 1) := by decide +kernel
theorem dL_law_1172 : decode cL_law 1172 = .ok (.ifCond .eq 5, 3) := by decide +kernel
theorem dL_law_1175 : decode cL_law 1175 = .ok (.iconst 0, 1) := by decide +kernel
theorem dL_law_1176 : decode cL_law 1176 = .ok (.ireturn, 1) := by decide +kernel
theorem dL_law_1177 : decode cL_law 1177 = .ok (.goto 1292, 3) := by decide +kernel
theorem dL_law_1180 : decode cL_law 1180 = .ok (.aload_n 1, 1) := by decide +kernel
theorem dL_law_1181 : decode cL_law 1181 = .ok (.aload_n 0, 1) := by decide +kernel
theorem dL_law_1182 : decode cL_law 1182 = .ok (.iload 5, 2) := by decide +kernel
theorem dL_law_1184 : decode cL_law 1184 = .ok (.iconst 1, 1) := by decide +kernel
theorem dL_law_1185 : decode cL_law 1185 = .ok (.iadd, 1) := by decide +kernel
theorem dL_law_1186 : decode cL_law 1186 = .ok (.iaload, 1) := by decide +kernel
theorem dL_law_1187 : decode cL_law 1187 = .ok (.aload_n 3, 1) := by decide +kernel
theorem dL_law_1188 : decode cL_law 1188 = .ok (.invokestatic 211, 3) := by decide +kernel
theorem dL_law_1191 : decode cL_law 1191 = .ok (.istore 6, 2) := by decide +kernel
theorem dL_law_1193 : decode cL_law 1193 = .ok (.aload_n 2, 1) := by decide +kernel
theorem dL_law_1194 : decode cL_law 1194 = .ok (.aload_n 0, 1) := by decide +kernel
theorem dL_law_1195 : decode cL_law 1195 = .ok (.iload 5, 2) := by decide +kernel
theorem dL_law_1197 : decode cL_law 1197 = .ok (.iconst 1, 1) := by decide +kernel
theorem dL_law_1198 : decode cL_law 1198 = .ok (.iadd, 1) := by decide +kernel
theorem dL_law_1199 : decode cL_law 1199 = .ok (.iaload, 1) := by decide +kernel
theorem dL_law_1200 : decode cL_law 1200 = .ok (.invokevirtual 213, 3) := by decide +kernel
theorem dL_law_1203 : decode cL_law 1203 = .ok (.istore 7, 2) := by decide +kernel
theorem dL_law_1205 : decode cL_law 1205 = .ok (.aload_n 2, 1) := by decide +kernel
theorem dL_law_1206 : decode cL_law 1206 = .ok (.invokevirtual 155, 3) := by decide +kernel
theorem dL_law_1209 : decode cL_law 1209 = .ok (.iload 6, 2) := by decide +kernel
theorem dL_law_1211 : decode cL_law 1211 = .ok (.if_icmp .eq 5, 3) := by decide +kernel
theorem dL_law_1214 : decode cL_law 1214 = .ok (.iconst 0, 1) := by decide +kernel
theorem dL_law_1215 : decode cL_law 1215 = .ok (.ireturn, 1) := by decide +kernel
theorem dL_law_1216 : decode cL_law 1216 = .ok (.iload 6, 2) := by decide +kernel
theorem dL_law_1218 : decode cL_law 1218 = .ok (.ifCond .ne 15, 3) := by decide +kernel
theorem dL_law_1221 : decode cL_law 1221 = .ok (.aload_n 3, 1) := by decide +kernel
theorem dL_law_1222 : decode cL_law 1222 = .ok (.iconst 0, 1) := by decide +kernel
theorem dL_law_1223 : decode cL_law 1223 = .ok (.laload, 1) := by decide +kernel
theorem dL_law_1224 : decode cL_law 1224 = .ok (.iload 7, 2) := by decide +kernel
theorem dL_law_1226 : decode cL_law 1226 = .ok (.i2l, 1) := by decide +kernel
theorem dL_law_1227 : decode cL_law 1227 = .ok (.lcmp, 1) := by decide +kernel
theorem dL_law_1228 : decode cL_law 1228 = .ok (.ifCond .eq 5, 3) := by decide +kernel
theorem dL_law_1231 : decode cL_law 1231 = .ok (.iconst 0, 1) := by decide +kernel
theorem dL_law_1232 : decode cL_law 1232 = .ok (.ireturn, 1) := by decide +kernel
theorem dL_law_1233 : decode cL_law 1233 = .ok (.goto 1236, 3) := by decide +kernel
theorem dL_law_1236 : decode cL_law 1236 = .ok (.aload_n 1, 1) := by decide +kernel
theorem dL_law_1237 : decode cL_law 1237 = .ok (.aload_n 0, 1) := by decide +kernel
theorem dL_law_1238 : decode cL_law 1238 = .ok (.iload 5, 2) := by decide +kernel
theorem dL_law_1240 : decode cL_law 1240 = .ok (.iconst 1, 1) := by decide +kernel
theorem dL_law_1241 : decode cL_law 1241 = .ok (.iadd, 1) := by decide +kernel
theorem dL_law_1242 : decode cL_law 1242 = .ok (.iaload, 1) := by decide +kernel
theorem dL_law_1243 : decode cL_law 1243 = .ok (.aload_n 3, 1) := by decide +kernel
theorem dL_law_1244 : decode cL_law 1244 = .ok (.invokestatic 214, 3) := by decide +kernel
theorem dL_law_1247 : decode cL_law 1247 = .ok (.istore 6, 2) := by decide +kernel
theorem dL_law_1249 : decode cL_law 1249 = .ok (.aload_n 2, 1) := by decide +kernel
theorem dL_law_1250 : decode cL_law 1250 = .ok (.aload_n 0, 1) := by decide +kernel
theorem dL_law_1251 : decode cL_law 1251 = .ok (.iload 5, 2) := by decide +kernel
theorem dL_law_1253 : decode cL_law 1253 = .ok (.iconst 1, 1) := by decide +kernel
theorem dL_law_1254 : decode cL_law 1254 = .ok (.iadd, 1) := by decide +kernel
theorem dL_law_1255 : decode cL_law 1255 = .ok (.iaload, 1) := by decide +kernel
theorem dL_law_1256 : decode cL_law 1256 = .ok (.invokevirtual 216, 3) := by decide +kernel
theorem dL_law_1259 : decode cL_law 1259 = .ok (.istore 7, 2) := by decide +kernel
theorem dL_law_1261 : decode cL_law 1261 = .ok (.aload_n 2, 1) := by decide +kernel
theorem dL_law_1262 : decode cL_law 1262 = .ok (.invokevirtual 155, 3) := by decide +kernel
theorem dL_law_1265 : decode cL_law 1265 = .ok (.iload 6, 2) := by decide +kernel
theorem dL_law_1267 : decode cL_law 1267 = .ok (.if_icmp .eq 5, 3) := by decide +kernel
theorem dL_law_1270 : decode cL_law 1270 = .ok (.iconst 0, 1) := by decide +kernel
theorem dL_law_1271 : decode cL_law 1271 = .ok (.ireturn, 1) := by decide +kernel
theorem dL_law_1272 : decode cL_law 1272 = .ok (.iload 6, 2) := by decide +kernel
theorem dL_law_1274 : decode cL_law 1274 = .ok (.ifCond .ne 15, 3) := by decide +kernel
theorem dL_law_1277 : decode cL_law 1277 = .ok (.aload_n 3, 1) := by decide +kernel
theorem dL_law_1278 : decode cL_law 1278 = .ok (.iconst 0, 1) := by decide +kernel
theorem dL_law_1279 : decode cL_law 1279 = .ok (.laload, 1) := by decide +kernel
theorem dL_law_1280 : decode cL_law 1280 = .ok (.iload 7, 2) := by decide +kernel
theorem dL_law_1282 : decode cL_law 1282 = .ok (.i2l, 1) := by decide +kernel
theorem dL_law_1283 : decode cL_law 1283 = .ok (.lcmp, 1) := by decide +kernel
theorem dL_law_1284 : decode cL_law 1284 = .ok (.ifCond .eq 5, 3) := by decide +kernel
theorem dL_law_1287 : decode cL_law 1287 = .ok (.iconst 0, 1) := by decide +kernel
theorem dL_law_1288 : decode cL_law 1288 = .ok (.ireturn, 1) := by decide +kernel
theorem dL_law_1289 : decode cL_law 1289 = .ok (.goto 1180, 3) := by decide +kernel
theorem dL_law_1292 : decode cL_law 1292 = .ok (.aload_n 1, 1) := by decide +kernel
theorem dL_law_1293 : decode cL_law 1293 = .ok (.aload_n 0, 1) := by decide +kernel
theorem dL_law_1294 : decode cL_law 1294 = .ok (.iload 5, 2) := by decide +kernel
theorem dL_law_1296 : decode cL_law 1296 = .ok (.iconst 1, 1) := by decide +kernel
theorem dL_law_1297 : decode cL_law 1297 = .ok (.iadd, 1) := by decide +kernel
theorem dL_law_1298 : decode cL_law 1298 = .ok (.iaload, 1) := by decide +kernel
theorem dL_law_1299 : decode cL_law 1299 = .ok (.aload_n 3, 1) := by decide +kernel
theorem dL_law_1300 : decode cL_law 1300 = .ok (.invokestatic 217, 3) := by decide +kernel
theorem dL_law_1303 : decode cL_law 1303 = .ok (.istore 6, 2) := by decide +kernel
theorem dL_law_1305 : decode cL_law 1305 = .ok (.aload_n 2, 1) := by decide +kernel
theorem dL_law_1306 : decode cL_law 1306 = .ok (.aload_n 0, 1) := by decide +kernel
theorem dL_law_1307 : decode cL_law 1307 = .ok (.iload 5, 2) := by decide +kernel
theorem dL_law_1309 : decode cL_law 1309 = .ok (.iconst 1, 1) := by decide +kernel
theorem dL_law_1310 : decode cL_law 1310 = .ok (.iadd, 1) := by decide +kernel
theorem dL_law_1311 : decode cL_law 1311 = .ok (.iaload, 1) := by decide +kernel
theorem dL_law_1312 : decode cL_law 1312 = .ok (.invokevirtual 219, 3) := by decide +kernel
theorem dL_law_1315 : decode cL_law 1315 = .ok (.istore 7, 2) := by decide +kernel
theorem dL_law_1317 : decode cL_law 1317 = .ok (.aload_n 2, 1) := by decide +kernel
theorem dL_law_1318 : decode cL_law 1318 = .ok (.invokevirtual 155, 3) := by decide +kernel
theorem dL_law_1321 : decode cL_law 1321 = .ok (.iload 6, 2) := by decide +kernel
theorem dL_law_1323 : decode cL_law 1323 = .ok (.if_icmp .eq 5, 3) := by decide +kernel
theorem dL_law_1326 : decode cL_law 1326 = .ok (.iconst 0, 1) := by decide +kernel
theorem dL_law_1327 : decode cL_law 1327 = .ok (.ireturn, 1) := by decide +kernel
theorem dL_law_1328 : decode cL_law 1328 = .ok (.iload 6, 2) := by decide +kernel
theorem dL_law_1330 : decode cL_law 1330 = .ok (.ifCond .ne 15, 3) := by decide +kernel
theorem dL_law_1333 : decode cL_law 1333 = .ok (.aload_n 3, 1) := by decide +kernel
theorem dL_law_1334 : decode cL_law 1334 = .ok (.iconst 0, 1) := by decide +kernel
theorem dL_law_1335 : decode cL_law 1335 = .ok (.laload, 1) := by decide +kernel
theorem dL_law_1336 : decode cL_law 1336 = .ok (.iload 7, 2) := by decide +kernel
theorem dL_law_1338 : decode cL_law 1338 = .ok (.i2l, 1) := by decide +kernel
theorem dL_law_1339 : decode cL_law 1339 = .ok (.lcmp, 1) := by decide +kernel
theorem dL_law_1340 : decode cL_law 1340 = .ok (.ifCond .eq 5, 3) := by decide +kernel
theorem dL_law_1343 : decode cL_law 1343 = .ok (.iconst 0, 1) := by decide +kernel
theorem dL_law_1344 : decode cL_law 1344 = .ok (.ireturn, 1) := by decide +kernel
theorem dL_law_1345 : decode cL_law 1345 = .ok (.goto 1124, 3) := by decide +kernel
theorem dL_law_1348 : decode cL_law 1348 = .ok (.aload_n 1, 1) := by decide +kernel
theorem dL_law_1349 : decode cL_law 1349 = .ok (.aload_n 0, 1) := by decide +kernel
theorem dL_law_1350 : decode cL_law 1350 = .ok (.iload 5, 2) := by decide +kernel
theorem dL_law_1352 : decode cL_law 1352 = .ok (.iconst 1, 1) := by decide +kernel
theorem dL_law_1353 : decode cL_law 1353 = .ok (.iadd, 1) := by decide +kernel
theorem dL_law_1354 : decode cL_law 1354 = .ok (.iaload, 1) := by decide +kernel
theorem dL_law_1355 : decode cL_law 1355 = .ok (.aload_n 3, 1) := by decide +kernel
theorem dL_law_1356 : decode cL_law 1356 = .ok (.invokestatic 220, 3) := by decide +kernel
theorem dL_law_1359 : decode cL_law 1359 = .ok (.istore 6, 2) := by decide +kernel
theorem dL_law_1361 : decode cL_law 1361 = .ok (.aload_n 2, 1) := by decide +kernel
theorem dL_law_1362 : decode cL_law 1362 = .ok (.aload_n 0, 1) := by decide +kernel
theorem dL_law_1363 : decode cL_law 1363 = .ok (.iload 5, 2) := by decide +kernel
theorem dL_law_1365 : decode cL_law 1365 = .ok (.iconst 1, 1) := by decide +kernel
theorem dL_law_1366 : decode cL_law 1366 = .ok (.iadd, 1) := by decide +kernel
theorem dL_law_1367 : decode cL_law 1367 = .ok (.iaload, 1) := by decide +kernel
theorem dL_law_1368 : decode cL_law 1368 = .ok (.invokevirtual 222, 3) := by decide +kernel
theorem dL_law_1371 : decode cL_law 1371 = .ok (.istore 7, 2) := by decide +kernel
theorem dL_law_1373 : decode cL_law 1373 = .ok (.aload_n 2, 1) := by decide +kernel
theorem dL_law_1374 : decode cL_law 1374 = .ok (.invokevirtual 155, 3) := by decide +kernel
theorem dL_law_1377 : decode cL_law 1377 = .ok (.iload 6, 2) := by decide +kernel
theorem dL_law_1379 : decode cL_law 1379 = .ok (.if_icmp .eq 5, 3) := by decide +kernel
theorem dL_law_1382 : decode cL_law 1382 = .ok (.iconst 0, 1) := by decide +kernel
theorem dL_law_1383 : decode cL_law 1383 = .ok (.ireturn, 1) := by decide +kernel
theorem dL_law_1384 : decode cL_law 1384 = .ok (.iload 6, 2) := by decide +kernel
theorem dL_law_1386 : decode cL_law 1386 = .ok (.ifCond .ne 15, 3) := by decide +kernel
theorem dL_law_1389 : decode cL_law 1389 = .ok (.aload_n 3, 1) := by decide +kernel
theorem dL_law_1390 : decode cL_law 1390 = .ok (.iconst 0, 1) := by decide +kernel
theorem dL_law_1391 : decode cL_law 1391 = .ok (.laload, 1) := by decide +kernel
theorem dL_law_1392 : decode cL_law 1392 = .ok (.iload 7, 2) := by decide +kernel
theorem dL_law_1394 : decode cL_law 1394 = .ok (.i2l, 1) := by decide +kernel
theorem dL_law_1395 : decode cL_law 1395 = .ok (.lcmp, 1) := by decide +kernel
theorem dL_law_1396 : decode cL_law 1396 = .ok (.ifCond .eq 5, 3) := by decide +kernel
theorem dL_law_1399 : decode cL_law 1399 = .ok (.iconst 0, 1) := by decide +kernel
theorem dL_law_1400 : decode cL_law 1400 = .ok (.ireturn, 1) := by decide +kernel
theorem dL_law_1401 : decode cL_law 1401 = .ok (.goto 1068, 3) := by decide +kernel
theorem dL_law_1404 : decode cL_law 1404 = .ok (.aload_n 1, 1) := by decide +kernel
theorem dL_law_1405 : decode cL_law 1405 = .ok (.aload_n 0, 1) := by decide +kernel
theorem dL_law_1406 : decode cL_law 1406 = .ok (.iload 5, 2) := by decide +kernel
theorem dL_law_1408 : decode cL_law 1408 = .ok (.iconst 1, 1) := by decide +kernel
theorem dL_law_1409 : decode cL_law 1409 = .ok (.iadd, 1) := by decide +kernel
theorem dL_law_1410 : decode cL_law 1410 = .ok (.iaload, 1) := by decide +kernel
theorem dL_law_1411 : decode cL_law 1411 = .ok (.aload_n 3, 1) := by decide +kernel
theorem dL_law_1412 : decode cL_law 1412 = .ok (.invokestatic 223, 3) := by decide +kernel
theorem dL_law_1415 : decode cL_law 1415 = .ok (.istore 6, 2) := by decide +kernel
theorem dL_law_1417 : decode cL_law 1417 = .ok (.aload_n 2, 1) := by decide +kernel
theorem dL_law_1418 : decode cL_law 1418 = .ok (.aload_n 0, 1) := by decide +kernel
theorem dL_law_1419 : decode cL_law 1419 = .ok (.iload 5, 2) := by decide +kernel
theorem dL_law_1421 : decode cL_law 1421 = .ok (.iconst 1, 1) := by decide +kernel
theorem dL_law_1422 : decode cL_law 1422 = .ok (.iadd, 1) := by decide +kernel
theorem dL_law_1423 : decode cL_law 1423 = .ok (.iaload, 1) := by decide +kernel
theorem dL_law_1424 : decode cL_law 1424 = .ok (.invokevirtual 225, 3) := by decide +kernel
theorem dL_law_1427 : decode cL_law 1427 = .ok (.istore 7, 2) := by decide +kernel
theorem dL_law_1429 : decode cL_law 1429 = .ok (.aload_n 2, 1) := by decide +kernel
theorem dL_law_1430 : decode cL_law 1430 = .ok (.invokevirtual 155, 3) := by decide +kernel
theorem dL_law_1433 : decode cL_law 1433 = .ok (.iload 6, 2) := by decide +kernel
theorem dL_law_1435 : decode cL_law 1435 = .ok (.if_icmp .eq 5, 3) := by decide +kernel
theorem dL_law_1438 : decode cL_law 1438 = .ok (.iconst 0, 1) := by decide +kernel
theorem dL_law_1439 : decode cL_law 1439 = .ok (.ireturn, 1) := by decide +kernel
theorem dL_law_1440 : decode cL_law 1440 = .ok (.iload 6, 2) := by decide +kernel
theorem dL_law_1442 : decode cL_law 1442 = .ok (.ifCond .ne 15, 3) := by decide +kernel
theorem dL_law_1445 : decode cL_law 1445 = .ok (.aload_n 3, 1) := by decide +kernel
theorem dL_law_1446 : decode cL_law 1446 = .ok (.iconst 0, 1) := by decide +kernel
theorem dL_law_1447 : decode cL_law 1447 = .ok (.laload, 1) := by decide +kernel
theorem dL_law_1448 : decode cL_law 1448 = .ok (.iload 7, 2) := by decide +kernel
theorem dL_law_1450 : decode cL_law 1450 = .ok (.i2l, 1) := by decide +kernel
theorem dL_law_1451 : decode cL_law 1451 = .ok (.lcmp, 1) := by decide +kernel
theorem dL_law_1452 : decode cL_law 1452 = .ok (.ifCond .eq 5, 3) := by decide +kernel
theorem dL_law_1455 : decode cL_law 1455 = .ok (.iconst 0, 1) := by decide +kernel
theorem dL_law_1456 : decode cL_law 1456 = .ok (.ireturn, 1) := by decide +kernel
theorem dL_law_1457 : decode cL_law 1457 = .ok (.goto 1012, 3) := by decide +kernel
theorem dL_law_1460 : decode cL_law 1460 = .ok (.aload_n 1, 1) := by decide +kernel
theorem dL_law_1461 : decode cL_law 1461 = .ok (.invokevirtual 226, 3) := by decide +kernel
theorem dL_law_1464 : decode cL_law 1464 = .ok (.aload_n 2, 1) := by decide +kernel
theorem dL_law_1465 : decode cL_law 1465 = .ok (.invokevirtual 229, 3) := by decide +kernel
theorem dL_law_1468 : decode cL_law 1468 = .ok (.if_icmp .eq 1001, 3) := by decide +kernel
theorem dL_law_1471 : decode cL_law 1471 = .ok (.iconst 0, 1) := by decide +kernel
theorem dL_law_1472 : decode cL_law 1472 = .ok (.ireturn, 1) := by decide +kernel
theorem dL_law_1473 : decode cL_law 1473 = .ok (.aload_n 1, 1) := by decide +kernel
theorem dL_law_1474 : decode cL_law 1474 = .ok (.aload_n 3, 1) := by decide +kernel
theorem dL_law_1475 : decode cL_law 1475 = .ok (.invokestatic 230, 3) := by decide +kernel
theorem dL_law_1478 : decode cL_law 1478 = .ok (.istore 6, 2) := by decide +kernel
theorem dL_law_1480 : decode cL_law 1480 = .ok (.aload_n 2, 1) := by decide +kernel
theorem dL_law_1481 : decode cL_law 1481 = .ok (.invokevirtual 233, 3) := by decide +kernel
theorem dL_law_1484 : decode cL_law 1484 = .ok (.istore 7, 2) := by decide +kernel
theorem dL_law_1486 : decode cL_law 1486 = .ok (.aload_n 2, 1) := by decide +kernel
theorem dL_law_1487 : decode cL_law 1487 = .ok (.invokevirtual 155, 3) := by decide +kernel
theorem dL_law_1490 : decode cL_law 1490 = .ok (.iload 6, 2) := by decide +kernel
theorem dL_law_1492 : decode cL_law 1492 = .ok (.if_icmp .eq 5, 3) := by decide +kernel
theorem dL_law_1495 : decode cL_law 1495 = .ok (.iconst 0, 1) := by decide +kernel
theorem dL_law_1496 : decode cL_law 1496 = .ok (.ireturn, 1) := by decide +kernel
theorem dL_law_1497 : decode cL_law 1497 = .ok (.iload 6, 2) := by decide +kernel
theorem dL_law_1499 : decode cL_law 1499 = .ok (.ifCond .ne 15, 3) := by decide +kernel
theorem dL_law_1502 : decode cL_law 1502 = .ok (.aload_n 3, 1) := by decide +kernel
theorem dL_law_1503 : decode cL_law 1503 = .ok (.iconst 0, 1) := by decide +kernel
theorem dL_law_1504 : decode cL_law 1504 = .ok (.laload, 1) := by decide +kernel
theorem dL_law_1505 : decode cL_law 1505 = .ok (.iload 7, 2) := by decide +kernel
theorem dL_law_1507 : decode cL_law 1507 = .ok (.i2l, 1) := by decide +kernel
theorem dL_law_1508 : decode cL_law 1508 = .ok (.lcmp, 1) := by decide +kernel
theorem dL_law_1509 : decode cL_law 1509 = .ok (.ifCond .eq 5, 3) := by decide +kernel
theorem dL_law_1512 : decode cL_law 1512 = .ok (.iconst 0, 1) := by decide +kernel
theorem dL_law_1513 : decode cL_law 1513 = .ok (.ireturn, 1) := by decide +kernel
theorem dL_law_1514 : decode cL_law 1514 = .ok (.goto 955, 3) := by decide +kernel
theorem dL_law_1517 : decode cL_law 1517 = .ok (.aload_n 1, 1) := by decide +kernel
theorem dL_law_1518 : decode cL_law 1518 = .ok (.aload_n 0, 1) := by decide +kernel
theorem dL_law_1519 : decode cL_law 1519 = .ok (.iload 5, 2) := by decide +kernel
theorem dL_law_1521 : decode cL_law 1521 = .ok (.iconst 1, 1) := by decide +kernel
theorem dL_law_1522 : decode cL_law 1522 = .ok (.iadd, 1) := by decide +kernel
theorem dL_law_1523 : decode cL_law 1523 = .ok (.iaload, 1) := by decide +kernel
theorem dL_law_1524 : decode cL_law 1524 = .ok (.aload_n 3, 1) := by decide +kernel
theorem dL_law_1525 : decode cL_law 1525 = .ok (.invokestatic 234, 3) := by decide +kernel
theorem dL_law_1528 : decode cL_law 1528 = .ok (.istore 6, 2) := by decide +kernel
theorem dL_law_1530 : decode cL_law 1530 = .ok (.aload_n 2, 1) := by decide +kernel
theorem dL_law_1531 : decode cL_law 1531 = .ok (.aload_n 0, 1) := by decide +kernel
theorem dL_law_1532 : decode cL_law 1532 = .ok (.iload 5, 2) := by decide +kernel
theorem dL_law_1534 : decode cL_law 1534 = .ok (.iconst 1, 1) := by decide +kernel
theorem dL_law_1535 : decode cL_law 1535 = .ok (.iadd, 1) := by decide +kernel
theorem dL_law_1536 : decode cL_law 1536 = .ok (.iaload, 1) := by decide +kernel
theorem dL_law_1537 : decode cL_law 1537 = .ok (.invokevirtual 236, 3) := by decide +kernel
theorem dL_law_1540 : decode cL_law 1540 = .ok (.istore 7, 2) := by decide +kernel
theorem dL_law_1542 : decode cL_law 1542 = .ok (.aload_n 2, 1) := by decide +kernel
theorem dL_law_1543 : decode cL_law 1543 = .ok (.invokevirtual 155, 3) := by decide +kernel
theorem dL_law_1546 : decode cL_law 1546 = .ok (.iload 6, 2) := by decide +kernel
theorem dL_law_1548 : decode cL_law 1548 = .ok (.if_icmp .eq 5, 3) := by decide +kernel
theorem dL_law_1551 : decode cL_law 1551 = .ok (.iconst 0, 1) := by decide +kernel
theorem dL_law_1552 : decode cL_law 1552 = .ok (.ireturn, 1) := by decide +kernel
theorem dL_law_1553 : decode cL_law 1553 = .ok (.iload 6, 2) := by decide +kernel
theorem dL_law_1555 : decode cL_law 1555 = .ok (.ifCond .ne 15, 3) := by decide +kernel
theorem dL_law_1558 : decode cL_law 1558 = .ok (.aload_n 3, 1) := by decide +kernel
theorem dL_law_1559 : decode cL_law 1559 = .ok (.iconst 0, 1) := by decide +kernel
theorem dL_law_1560 : decode cL_law 1560 = .ok (.laload, 1) := by decide +kernel
theorem dL_law_1561 : decode cL_law 1561 = .ok (.iload 7, 2) := by decide +kernel
theorem dL_law_1563 : decode cL_law 1563 = .ok (.i2l, 1) := by decide +kernel
theorem dL_law_1564 : decode cL_law 1564 = .ok (.lcmp, 1) := by decide +kernel
theorem dL_law_1565 : decode cL_law 1565 = .ok (.ifCond .eq 5, 3) := by decide +kernel
theorem dL_law_1568 : decode cL_law 1568 = .ok (.iconst 0, 1) := by decide +kernel
theorem dL_law_1569 : decode cL_law 1569 = .ok (.ireturn, 1) := by decide +kernel
theorem dL_law_1570 : decode cL_law 1570 = .ok (.goto 899, 3) := by decide +kernel
theorem dL_law_1573 : decode cL_law 1573 = .ok (.aload_n 1, 1) := by decide +kernel
theorem dL_law_1574 : decode cL_law 1574 = .ok (.aload_n 0, 1) := by decide +kernel
theorem dL_law_1575 : decode cL_law 1575 = .ok (.iload 5, 2) := by decide +kernel
theorem dL_law_1577 : decode cL_law 1577 = .ok (.iconst 1, 1) := by decide +kernel
theorem dL_law_1578 : decode cL_law 1578 = .ok (.iadd, 1) := by decide +kernel
theorem dL_law_1579 : decode cL_law 1579 = .ok (.iaload, 1) := by decide +kernel
theorem dL_law_1580 : decode cL_law 1580 = .ok (.aload_n 3, 1) := by decide +kernel
theorem dL_law_1581 : decode cL_law 1581 = .ok (.invokestatic 237, 3) := by decide +kernel
theorem dL_law_1584 : decode cL_law 1584 = .ok (.istore 6, 2) := by decide +kernel
theorem dL_law_1586 : decode cL_law 1586 = .ok (.aload_n 2, 1) := by decide +kernel
theorem dL_law_1587 : decode cL_law 1587 = .ok (.aload_n 0, 1) := by decide +kernel
theorem dL_law_1588 : decode cL_law 1588 = .ok (.iload 5, 2) := by decide +kernel
theorem dL_law_1590 : decode cL_law 1590 = .ok (.iconst 1, 1) := by decide +kernel
theorem dL_law_1591 : decode cL_law 1591 = .ok (.iadd, 1) := by decide +kernel
theorem dL_law_1592 : decode cL_law 1592 = .ok (.iaload, 1) := by decide +kernel
theorem dL_law_1593 : decode cL_law 1593 = .ok (.invokevirtual 239, 3) := by decide +kernel
theorem dL_law_1596 : decode cL_law 1596 = .ok (.istore 7, 2) := by decide +kernel
theorem dL_law_1598 : decode cL_law 1598 = .ok (.aload_n 2, 1) := by decide +kernel
theorem dL_law_1599 : decode cL_law 1599 = .ok (.invokevirtual 155, 3) := by decide +kernel
theorem dL_law_1602 : decode cL_law 1602 = .ok (.iload 6, 2) := by decide +kernel
theorem dL_law_1604 : decode cL_law 1604 = .ok (.if_icmp .eq 5, 3) := by decide +kernel
theorem dL_law_1607 : decode cL_law 1607 = .ok (.iconst 0, 1) := by decide +kernel
theorem dL_law_1608 : decode cL_law 1608 = .ok (.ireturn, 1) := by decide +kernel
theorem dL_law_1609 : decode cL_law 1609 = .ok (.iload 6, 2) := by decide +kernel
theorem dL_law_1611 : decode cL_law 1611 = .ok (.ifCond .ne 15, 3) := by decide +kernel
theorem dL_law_1614 : decode cL_law 1614 = .ok (.aload_n 3, 1) := by decide +kernel
theorem dL_law_1615 : decode cL_law 1615 = .ok (.iconst 0, 1) := by decide +kernel
theorem dL_law_1616 : decode cL_law 1616 = .ok (.laload, 1) := by decide +kernel
theorem dL_law_1617 : decode cL_law 1617 = .ok (.iload 7, 2) := by decide +kernel
theorem dL_law_1619 : decode cL_law 1619 = .ok (.i2l, 1) := by decide +kernel
theorem dL_law_1620 : decode cL_law 1620 = .ok (.lcmp, 1) := by decide +kernel
theorem dL_law_1621 : decode cL_law 1621 = .ok (.ifCond .eq 5, 3) := by decide +kernel
theorem dL_law_1624 : decode cL_law 1624 = .ok (.iconst 0, 1) := by decide +kernel
theorem dL_law_1625 : decode cL_law 1625 = .ok (.ireturn, 1) := by decide +kernel
theorem dL_law_1626 : decode cL_law 1626 = .ok (.goto 843, 3) := by decide +kernel
theorem dL_law_1629 : decode cL_law 1629 = .ok (.aload_n 1, 1) := by decide +kernel
theorem dL_law_1630 : decode cL_law 1630 = .ok (.aload_n 0, 1) := by decide +kernel
theorem dL_law_1631 : decode cL_law 1631 = .ok (.iload 5, 2) := by decide +kernel
theorem dL_law_1633 : decode cL_law 1633 = .ok (.iconst 1, 1) := by decide +kernel
theorem dL_law_1634 : decode cL_law 1634 = .ok (.iadd, 1) := by decide +kernel
theorem dL_law_1635 : decode cL_law 1635 = .ok (.iaload, 1) := by decide +kernel
theorem dL_law_1636 : decode cL_law 1636 = .ok (.aload_n 3, 1) := by decide +kernel
theorem dL_law_1637 : decode cL_law 1637 = .ok (.invokestatic 240, 3) := by decide +kernel
theorem dL_law_1640 : decode cL_law 1640 = .ok (.istore 6, 2) := by decide +kernel
theorem dL_law_1642 : decode cL_law 1642 = .ok (.aload_n 2, 1) := by decide +kernel
theorem dL_law_1643 : decode cL_law 1643 = .ok (.aload_n 0, 1) := by decide +kernel
theorem dL_law_1644 : decode cL_law 1644 = .ok (.iload 5, 2) := by decide +kernel
theorem dL_law_1646 : decode cL_law 1646 = .ok (.iconst 1, 1) := by decide +kernel
theorem dL_law_1647 : decode cL_law 1647 = .ok (.iadd, 1) := by decide +kernel
theorem dL_law_1648 : decode cL_law 1648 = .ok (.iaload, 1) := by decide +kernel
theorem dL_law_1649 : decode cL_law 1649 = .ok (.invokevirtual 242, 3) := by decide +kernel
theorem dL_law_1652 : decode cL_law 1652 = .ok (.istore 7, 2) := by decide +kernel
theorem dL_law_1654 : decode cL_law 1654 = .ok (.aload_n 2, 1) := by decide +kernel
theorem dL_law_1655 : decode cL_law 1655 = .ok (.invokevirtual 155, 3) := by decide +kernel
theorem dL_law_1658 : decode cL_law 1658 = .ok (.iload 6, 2) := by decide +kernel
theorem dL_law_1660 : decode cL_law 1660 = .ok (.if_icmp .eq 5, 3) := by decide +kernel
theorem dL_law_1663 : decode cL_law 1663 = .ok (.iconst 0, 1) := by decide +kernel
theorem dL_law_1664 : decode cL_law 1664 = .ok (.ireturn, 1) := by decide +kernel
theorem dL_law_1665 : decode cL_law 1665 = .ok (.iload 6, 2) := by decide +kernel
theorem dL_law_1667 : decode cL_law 1667 = .ok (.ifCond .ne 15, 3) := by decide +kernel
theorem dL_law_1670 : decode cL_law 1670 = .ok (.aload_n 3, 1) := by decide +kernel
theorem dL_law_1671 : decode cL_law 1671 = .ok (.iconst 0, 1) := by decide +kernel
theorem dL_law_1672 : decode cL_law 1672 = .ok (.laload, 1) := by decide +kernel
theorem dL_law_1673 : decode cL_law 1673 = .ok (.iload 7, 2) := by decide +kernel
theorem dL_law_1675 : decode cL_law 1675 = .ok (.i2l, 1) := by decide +kernel
theorem dL_law_1676 : decode cL_law 1676 = .ok (.lcmp, 1) := by decide +kernel
theorem dL_law_1677 : decode cL_law 1677 = .ok (.ifCond .eq 5, 3) := by decide +kernel
theorem dL_law_1680 : decode cL_law 1680 = .ok (.iconst 0, 1) := by decide +kernel
theorem dL_law_1681 : decode cL_law 1681 = .ok (.ireturn, 1) := by decide +kernel
theorem dL_law_1682 : decode cL_law 1682 = .ok (.goto 787, 3) := by decide +kernel
theorem dL_law_1685 : decode cL_law 1685 = .ok (.aload_n 1, 1) := by decide +kernel
theorem dL_law_1686 : decode cL_law 1686 = .ok (.aload_n 0, 1) := by decide +kernel
theorem dL_law_1687 : decode cL_law 1687 = .ok (.iload 5, 2) := by decide +kernel
theorem dL_law_1689 : decode cL_law 1689 = .ok (.iconst 1, 1) := by decide +kernel
theorem dL_law_1690 : decode cL_law 1690 = .ok (.iadd, 1) := by decide +kernel
theorem dL_law_1691 : decode cL_law 1691 = .ok (.iaload, 1) := by decide +kernel
theorem dL_law_1692 : decode cL_law 1692 = .ok (.aload_n 3, 1) := by decide +kernel
theorem dL_law_1693 : decode cL_law 1693 = .ok (.invokestatic 243, 3) := by decide +kernel
theorem dL_law_1696 : decode cL_law 1696 = .ok (.istore 6, 2) := by decide +kernel
theorem dL_law_1698 : decode cL_law 1698 = .ok (.aload_n 2, 1) := by decide +kernel
theorem dL_law_1699 : decode cL_law 1699 = .ok (.aload_n 0, 1) := by decide +kernel
theorem dL_law_1700 : decode cL_law 1700 = .ok (.iload 5, 2) := by decide +kernel
theorem dL_law_1702 : decode cL_law 1702 = .ok (.iconst 1, 1) := by decide +kernel
theorem dL_law_1703 : decode cL_law 1703 = .ok (.iadd, 1) := by decide +kernel
theorem dL_law_1704 : decode cL_law 1704 = .ok (.iaload, 1) := by decide +kernel
theorem dL_law_1705 : decode cL_law 1705 = .ok (.invokevirtual 245, 3) := by decide +kernel
theorem dL_law_1708 : decode cL_law 1708 = .ok (.istore 7, 2) := by decide +kernel
theorem dL_law_1710 : decode cL_law 1710 = .ok (.aload_n 2, 1) := by decide +kernel
theorem dL_law_1711 : decode cL_law 1711 = .ok (.invokevirtual 155, 3) := by decide +kernel
theorem dL_law_1714 : decode cL_law 1714 = .ok (.iload 6, 2) := by decide +kernel
theorem dL_law_1716 : decode cL_law 1716 = .ok (.if_icmp .eq 5, 3) := by decide +kernel
theorem dL_law_1719 : decode cL_law 1719 = .ok (.iconst 0, 1) := by decide +kernel
theorem dL_law_1720 : decode cL_law 1720 = .ok (.ireturn, 1) := by decide +kernel
theorem dL_law_1721 : decode cL_law 1721 = .ok (.iload 6, 2) := by decide +kernel
theorem dL_law_1723 : decode cL_law 1723 = .ok (.ifCond .ne 15, 3) := by decide +kernel
theorem dL_law_1726 : decode cL_law 1726 = .ok (.aload_n 3, 1) := by decide +kernel
theorem dL_law_1727 : decode cL_law 1727 = .ok (.iconst 0, 1) := by decide +kernel
theorem dL_law_1728 : decode cL_law 1728 = .ok (.laload, 1) := by decide +kernel
theorem dL_law_1729 : decode cL_law 1729 = .ok (.iload 7, 2) := by decide +kernel
theorem dL_law_1731 : decode cL_law 1731 = .ok (.i2l, 1) := by decide +kernel
theorem dL_law_1732 : decode cL_law 1732 = .ok (.lcmp, 1) := by decide +kernel
theorem dL_law_1733 : decode cL_law 1733 = .ok (.ifCond .eq 5, 3) := by decide +kernel
theorem dL_law_1736 : decode cL_law 1736 = .ok (.iconst 0, 1) := by decide +kernel
theorem dL_law_1737 : decode cL_law 1737 = .ok (.ireturn, 1) := by decide +kernel
theorem dL_law_1738 : decode cL_law 1738 = .ok (.goto 731, 3) := by decide +kernel
theorem dL_law_1741 : decode cL_law 1741 = .ok (.aload_n 1, 1) := by decide +kernel
theorem dL_law_1742 : decode cL_law 1742 = .ok (.aload_n 0, 1) := by decide +kernel
theorem dL_law_1743 : decode cL_law 1743 = .ok (.iload 5, 2) := by decide +kernel
theorem dL_law_1745 : decode cL_law 1745 = .ok (.iconst 1, 1) := by decide +kernel
theorem dL_law_1746 : decode cL_law 1746 = .ok (.iadd, 1) := by decide +kernel
theorem dL_law_1747 : decode cL_law 1747 = .ok (.iaload, 1) := by decide +kernel
theorem dL_law_1748 : decode cL_law 1748 = .ok (.aload_n 0, 1) := by decide +kernel
theorem dL_law_1749 : decode cL_law 1749 = .ok (.iload 5, 2) := by decide +kernel
theorem dL_law_1751 : decode cL_law 1751 = .ok (.iconst 2, 1) := by decide +kernel
theorem dL_law_1752 : decode cL_law 1752 = .ok (.iadd, 1) := by decide +kernel
theorem dL_law_1753 : decode cL_law 1753 = .ok (.iaload, 1) := by decide +kernel
theorem dL_law_1754 : decode cL_law 1754 = .ok (.aload_n 3, 1) := by decide +kernel
theorem dL_law_1755 : decode cL_law 1755 = .ok (.invokestatic 246, 3) := by decide +kernel
theorem dL_law_1758 : decode cL_law 1758 = .ok (.istore 6, 2) := by decide +kernel
theorem dL_law_1760 : decode cL_law 1760 = .ok (.aload_n 2, 1) := by decide +kernel
theorem dL_law_1761 : decode cL_law 1761 = .ok (.aload_n 0, 1) := by decide +kernel
theorem dL_law_1762 : decode cL_law 1762 = .ok (.iload 5, 2) := by decide +kernel
theorem dL_law_1764 : decode cL_law 1764 = .ok (.iconst 1, 1) := by decide +kernel
theorem dL_law_1765 : decode cL_law 1765 = .ok (.iadd, 1) := by decide +kernel
theorem dL_law_1766 : decode cL_law 1766 = .ok (.iaload, 1) := by decide +kernel
theorem dL_law_1767 : decode cL_law 1767 = .ok (.aload_n 0, 1) := by decide +kernel
theorem dL_law_1768 : decode cL_law 1768 = .ok (.iload 5, 2) := by decide +kernel
theorem dL_law_1770 : decode cL_law 1770 = .ok (.iconst 2, 1) := by decide +kernel
theorem dL_law_1771 : decode cL_law 1771 = .ok (.iadd, 1) := by decide +kernel
theorem dL_law_1772 : decode cL_law 1772 = .ok (.iaload, 1) := by decide +kernel
theorem dL_law_1773 : decode cL_law 1773 = .ok (.invokevirtual 248, 3) := by decide +kernel
theorem dL_law_1776 : decode cL_law 1776 = .ok (.istore 7, 2) := by decide +kernel
theorem dL_law_1778 : decode cL_law 1778 = .ok (.aload_n 2, 1) := by decide +kernel
theorem dL_law_1779 : decode cL_law 1779 = .ok (.invokevirtual 155, 3) := by decide +kernel
theorem dL_law_1782 : decode cL_law 1782 = .ok (.iload 6, 2) := by decide +kernel
theorem dL_law_1784 : decode cL_law 1784 = .ok (.if_icmp .eq 5, 3) := by decide +kernel
theorem dL_law_1787 : decode cL_law 1787 = .ok (.iconst 0, 1) := by decide +kernel
theorem dL_law_1788 : decode cL_law 1788 = .ok (.ireturn, 1) := by decide +kernel
theorem dL_law_1789 : decode cL_law 1789 = .ok (.iload 6, 2) := by decide +kernel
theorem dL_law_1791 : decode cL_law 1791 = .ok (.ifCond .ne 15, 3) := by decide +kernel
theorem dL_law_1794 : decode cL_law 1794 = .ok (.aload_n 3, 1) := by decide +kernel
theorem dL_law_1795 : decode cL_law 1795 = .ok (.iconst 0, 1) := by decide +kernel
theorem dL_law_1796 : decode cL_law 1796 = .ok (.laload, 1) := by decide +kernel
theorem dL_law_1797 : decode cL_law 1797 = .ok (.iload 7, 2) := by decide +kernel
theorem dL_law_1799 : decode cL_law 1799 = .ok (.i2l, 1) := by decide +kernel
theorem dL_law_1800 : decode cL_law 1800 = .ok (.lcmp, 1) := by decide +kernel
theorem dL_law_1801 : decode cL_law 1801 = .ok (.ifCond .eq 5, 3) := by decide +kernel
theorem dL_law_1804 : decode cL_law 1804 = .ok (.iconst 0, 1) := by decide +kernel
theorem dL_law_1805 : decode cL_law 1805 = .ok (.ireturn, 1) := by decide +kernel
theorem dL_law_1806 : decode cL_law 1806 = .ok (.goto 663, 3) := by decide +kernel
theorem dL_law_1809 : decode cL_law 1809 = .ok (.aload_n 1, 1) := by decide +kernel
theorem dL_law_1810 : decode cL_law 1810 = .ok (.aload_n 3, 1) := by decide +kernel
theorem dL_law_1811 : decode cL_law 1811 = .ok (.invokestatic 249, 3) := by decide +kernel
theorem dL_law_1814 : decode cL_law 1814 = .ok (.istore 6, 2) := by decide +kernel
theorem dL_law_1816 : decode cL_law 1816 = .ok (.aload_n 2, 1) := by decide +kernel
theorem dL_law_1817 : decode cL_law 1817 = .ok (.invokevirtual 251, 3) := by decide +kernel
theorem dL_law_1820 : decode cL_law 1820 = .ok (.istore 7, 2) := by decide +kernel
theorem dL_law_1822 : decode cL_law 1822 = .ok (.aload_n 2, 1) := by decide +kernel
theorem dL_law_1823 : decode cL_law 1823 = .ok (.invokevirtual 155, 3) := by decide +kernel
theorem dL_law_1826 : decode cL_law 1826 = .ok (.iload 6, 2) := by decide +kernel
theorem dL_law_1828 : decode cL_law 1828 = .ok (.if_icmp .eq 5, 3) := by decide +kernel
theorem dL_law_1831 : decode cL_law 1831 = .ok (.iconst 0, 1) := by decide +kernel
theorem dL_law_1832 : decode cL_law 1832 = .ok (.ireturn, 1) := by decide +kernel
theorem dL_law_1833 : decode cL_law 1833 = .ok (.iload 6, 2) := by decide +kernel
theorem dL_law_1835 : decode cL_law 1835 = .ok (.ifCond .ne 15, 3) := by decide +kernel
theorem dL_law_1838 : decode cL_law 1838 = .ok (.aload_n 3, 1) := by decide +kernel
theorem dL_law_1839 : decode cL_law 1839 = .ok (.iconst 0, 1) := by decide +kernel
theorem dL_law_1840 : decode cL_law 1840 = .ok (.laload, 1) := by decide +kernel
theorem dL_law_1841 : decode cL_law 1841 = .ok (.iload 7, 2) := by decide +kernel
theorem dL_law_1843 : decode cL_law 1843 = .ok (.i2l, 1) := by decide +kernel
theorem dL_law_1844 : decode cL_law 1844 = .ok (.lcmp, 1) := by decide +kernel
theorem dL_law_1845 : decode cL_law 1845 = .ok (.ifCond .eq 5, 3) := by decide +kernel
theorem dL_law_1848 : decode cL_law 1848 = .ok (.iconst 0, 1) := by decide +kernel
theorem dL_law_1849 : decode cL_law 1849 = .ok (.ireturn, 1) := by decide +kernel
theorem dL_law_1850 : decode cL_law 1850 = .ok (.goto 619, 3) := by decide +kernel
theorem dL_law_1853 : decode cL_law 1853 = .ok (.aload_n 1, 1) := by decide +kernel
theorem dL_law_1854 : decode cL_law 1854 = .ok (.aload_n 0, 1) := by decide +kernel
theorem dL_law_1855 : decode cL_law 1855 = .ok (.iload 5, 2) := by decide +kernel
theorem dL_law_1857 : decode cL_law 1857 = .ok (.iconst 1, 1) := by decide +kernel
theorem dL_law_1858 : decode cL_law 1858 = .ok (.iadd, 1) := by decide +kernel
theorem dL_law_1859 : decode cL_law 1859 = .ok (.iaload, 1) := by decide +kernel
theorem dL_law_1860 : decode cL_law 1860 = .ok (.aload_n 3, 1) := by decide +kernel
theorem dL_law_1861 : decode cL_law 1861 = .ok (.invokestatic 252, 3) := by decide +kernel
theorem dL_law_1864 : decode cL_law 1864 = .ok (.istore 6, 2) := by decide +kernel
theorem dL_law_1866 : decode cL_law 1866 = .ok (.aload_n 2, 1) := by decide +kernel
theorem dL_law_1867 : decode cL_law 1867 = .ok (.aload_n 0, 1) := by decide +kernel
theorem dL_law_1868 : decode cL_law 1868 = .ok (.iload 5, 2) := by decide +kernel
theorem dL_law_1870 : decode cL_law 1870 = .ok (.iconst 1, 1) := by decide +kernel
theorem dL_law_1871 : decode cL_law 1871 = .ok (.iadd, 1) := by decide +kernel
theorem dL_law_1872 : decode cL_law 1872 = .ok (.iaload, 1) := by decide +kernel
theorem dL_law_1873 : decode cL_law 1873 = .ok (.invokevirtual 254, 3) := by decide +kernel
theorem dL_law_1876 : decode cL_law 1876 = .ok (.istore 7, 2) := by decide +kernel
theorem dL_law_1878 : decode cL_law 1878 = .ok (.aload_n 2, 1) := by decide +kernel
theorem dL_law_1879 : decode cL_law 1879 = .ok (.invokevirtual 155, 3) := by decide +kernel
theorem dL_law_1882 : decode cL_law 1882 = .ok (.iload 6, 2) := by decide +kernel
theorem dL_law_1884 : decode cL_law 1884 = .ok (.if_icmp .eq 5, 3) := by decide +kernel
theorem dL_law_1887 : decode cL_law 1887 = .ok (.iconst 0, 1) := by decide +kernel
theorem dL_law_1888 : decode cL_law 1888 = .ok (.ireturn, 1) := by decide +kernel
theorem dL_law_1889 : decode cL_law 1889 = .ok (.iload 6, 2) := by decide +kernel
theorem dL_law_1891 : decode cL_law 1891 = .ok (.ifCond .ne 15, 3) := by decide +kernel
theorem dL_law_1894 : decode cL_law 1894 = .ok (.aload_n 3, 1) := by decide +kernel
theorem dL_law_1895 : decode cL_law 1895 = .ok (.iconst 0, 1) := by decide +kernel
theorem dL_law_1896 : decode cL_law 1896 = .ok (.laload, 1) := by decide +kernel
theorem dL_law_1897 : decode cL_law 1897 = .ok (.iload 7, 2) := by decide +kernel
theorem dL_law_1899 : decode cL_law 1899 = .ok (.i2l, 1) := by decide +kernel
theorem dL_law_1900 : decode cL_law 1900 = .ok (.lcmp, 1) := by decide +kernel
theorem dL_law_1901 : decode cL_law 1901 = .ok (.ifCond .eq 5, 3) := by decide +kernel
theorem dL_law_1904 : decode cL_law 1904 = .ok (.iconst 0, 1) := by decide +kernel
theorem dL_law_1905 : decode cL_law 1905 = .ok (.ireturn, 1) := by decide +kernel
theorem dL_law_1906 : decode cL_law 1906 = .ok (.goto 563, 3) := by decide +kernel
theorem dL_law_1909 : decode cL_law 1909 = .ok (.aload_n 1, 1) := by decide +kernel
theorem dL_law_1910 : decode cL_law 1910 = .ok (.invokevirtual 255, 3) := by decide +kernel
theorem dL_law_1913 : decode cL_law 1913 = .ok (.aload_n 2, 1) := by decide +kernel
theorem dL_law_1914 : decode cL_law 1914 = .ok (.invokevirtual 258, 3) := by decide +kernel
theorem dL_law_1917 : decode cL_law 1917 = .ok (.if_icmp .eq 552, 3) := by decide +kernel
theorem dL_law_1920 : decode cL_law 1920 = .ok (.iconst 0, 1) := by decide +kernel
theorem dL_law_1921 : decode cL_law 1921 = .ok (.ireturn, 1) := by decide +kernel
theorem dL_law_1922 : decode cL_law 1922 = .ok (.aload_n 1, 1) := by decide +kernel
theorem dL_law_1923 : decode cL_law 1923 = .ok (.aload_n 0, 1) := by decide +kernel
theorem dL_law_1924 : decode cL_law 1924 = .ok (.iload 5, 2) := by decide +kernel
theorem dL_law_1926 : decode cL_law 1926 = .ok (.iconst 1, 1) := by decide +kernel
theorem dL_law_1927 : decode cL_law 1927 = .ok (.iadd, 1) := by decide +kernel
theorem dL_law_1928 : decode cL_law 1928 = .ok (.iaload, 1) := by decide +kernel
theorem dL_law_1929 : decode cL_law 1929 = .ok (.aload_n 3, 1) := by decide +kernel
theorem dL_law_1930 : decode cL_law 1930 = .ok (.invokestatic 259, 3) := by decide +kernel
theorem dL_law_1933 : decode cL_law 1933 = .ok (.istore 6, 2) := by decide +kernel
theorem dL_law_1935 : decode cL_law 1935 = .ok (.aload_n 2, 1) := by decide +kernel
theorem dL_law_1936 : decode cL_law 1936 = .ok (.aload_n 0, 1) := by decide +kernel
theorem dL_law_1937 : decode cL_law 1937 = .ok (.iload 5, 2) := by decide +kernel
theorem dL_law_1939 : decode cL_law 1939 = .ok (.iconst 1, 1) := by decide +kernel
theorem dL_law_1940 : decode cL_law 1940 = .ok (.iadd, 1) := by decide +kernel
theorem dL_law_1941 : decode cL_law 1941 = .ok (.iaload, 1) := by decide +kernel
theorem dL_law_1942 : decode cL_law 1942 = .ok (.invokevirtual 261, 3) := by decide +kernel
theorem dL_law_1945 : decode cL_law 1945 = .ok (.istore 7, 2) := by decide +kernel
theorem dL_law_1947 : decode cL_law 1947 = .ok (.aload_n 2, 1) := by decide +kernel
theorem dL_law_1948 : decode cL_law 1948 = .ok (.invokevirtual 155, 3) := by decide +kernel
theorem dL_law_1951 : decode cL_law 1951 = .ok (.iload 6, 2) := by decide +kernel
theorem dL_law_1953 : decode cL_law 1953 = .ok (.if_icmp .eq 5, 3) := by decide +kernel
theorem dL_law_1956 : decode cL_law 1956 = .ok (.iconst 0, 1) := by decide +kernel
theorem dL_law_1957 : decode cL_law 1957 = .ok (.ireturn, 1) := by decide +kernel
theorem dL_law_1958 : decode cL_law 1958 = .ok (.iload 6, 2) := by decide +kernel
theorem dL_law_1960 : decode cL_law 1960 = .ok (.ifCond .ne 15, 3) := by decide +kernel
theorem dL_law_1963 : decode cL_law 1963 = .ok (.aload_n 3, 1) := by decide +kernel
theorem dL_law_1964 : decode cL_law 1964 = .ok (.iconst 0, 1) := by decide +kernel
theorem dL_law_1965 : decode cL_law 1965 = .ok (.laload, 1) := by decide +kernel
theorem dL_law_1966 : decode cL_law 1966 = .ok (.iload 7, 2) := by decide +kernel
theorem dL_law_1968 : decode cL_law 1968 = .ok (.i2l, 1) := by decide +kernel
theorem dL_law_1969 : decode cL_law 1969 = .ok (.lcmp, 1) := by decide +kernel
theorem dL_law_1970 : decode cL_law 1970 = .ok (.ifCond .eq 5, 3) := by decide +kernel
theorem dL_law_1973 : decode cL_law 1973 = .ok (.iconst 0, 1) := by decide +kernel
theorem dL_law_1974 : decode cL_law 1974 = .ok (.ireturn, 1) := by decide +kernel
theorem dL_law_1975 : decode cL_law 1975 = .ok (.goto 494, 3) := by decide +kernel
theorem dL_law_1978 : decode cL_law 1978 = .ok (.aload_n 1, 1) := by decide +kernel
theorem dL_law_1979 : decode cL_law 1979 = .ok (.aload_n 0, 1) := by decide +kernel
theorem dL_law_1980 : decode cL_law 1980 = .ok (.iload 5, 2) := by decide +kernel
theorem dL_law_1982 : decode cL_law 1982 = .ok (.iconst 1, 1) := by decide +kernel
theorem dL_law_1983 : decode cL_law 1983 = .ok (.iadd, 1) := by decide +kernel
theorem dL_law_1984 : decode cL_law 1984 = .ok (.iaload, 1) := by decide +kernel
theorem dL_law_1985 : decode cL_law 1985 = .ok (.aload_n 3, 1) := by decide +kernel
theorem dL_law_1986 : decode cL_law 1986 = .ok (.invokestatic 262, 3) := by decide +kernel
theorem dL_law_1989 : decode cL_law 1989 = .ok (.istore 6, 2) := by decide +kernel
theorem dL_law_1991 : decode cL_law 1991 = .ok (.aload_n 2, 1) := by decide +kernel
theorem dL_law_1992 : decode cL_law 1992 = .ok (.aload_n 0, 1) := by decide +kernel
theorem dL_law_1993 : decode cL_law 1993 = .ok (.iload 5, 2) := by decide +kernel
theorem dL_law_1995 : decode cL_law 1995 = .ok (.iconst 1, 1) := by decide +kernel
theorem dL_law_1996 : decode cL_law 1996 = .ok (.iadd, 1) := by decide +kernel
theorem dL_law_1997 : decode cL_law 1997 = .ok (.iaload, 1) := by decide +kernel
theorem dL_law_1998 : decode cL_law 1998 = .ok (.invokevirtual 264, 3) := by decide +kernel
theorem dL_law_2001 : decode cL_law 2001 = .ok (.istore 7, 2) := by decide +kernel
theorem dL_law_2003 : decode cL_law 2003 = .ok (.aload_n 2, 1) := by decide +kernel
theorem dL_law_2004 : decode cL_law 2004 = .ok (.invokevirtual 155, 3) := by decide +kernel
theorem dL_law_2007 : decode cL_law 2007 = .ok (.iload 6, 2) := by decide +kernel
theorem dL_law_2009 : decode cL_law 2009 = .ok (.if_icmp .eq 5, 3) := by decide +kernel
theorem dL_law_2012 : decode cL_law 2012 = .ok (.iconst 0, 1) := by decide +kernel
theorem dL_law_2013 : decode cL_law 2013 = .ok (.ireturn, 1) := by decide +kernel
theorem dL_law_2014 : decode cL_law 2014 = .ok (.iload 6, 2) := by decide +kernel
theorem dL_law_2016 : decode cL_law 2016 = .ok (.ifCond .ne 15, 3) := by decide +kernel
theorem dL_law_2019 : decode cL_law 2019 = .ok (.aload_n 3, 1) := by decide +kernel
theorem dL_law_2020 : decode cL_law 2020 = .ok (.iconst 0, 1) := by decide +kernel
theorem dL_law_2021 : decode cL_law 2021 = .ok (.laload, 1) := by decide +kernel
theorem dL_law_2022 : decode cL_law 2022 = .ok (.iload 7, 2) := by decide +kernel
theorem dL_law_2024 : decode cL_law 2024 = .ok (.i2l, 1) := by decide +kernel
theorem dL_law_2025 : decode cL_law 2025 = .ok (.lcmp, 1) := by decide +kernel
theorem dL_law_2026 : decode cL_law 2026 = .ok (.ifCond .eq 5, 3) := by decide +kernel
theorem dL_law_2029 : decode cL_law 2029 = .ok (.iconst 0, 1) := by decide +kernel
theorem dL_law_2030 : decode cL_law 2030 = .ok (.ireturn, 1) := by decide +kernel
theorem dL_law_2031 : decode cL_law 2031 = .ok (.goto 438, 3) := by decide +kernel
theorem dL_law_2034 : decode cL_law 2034 = .ok (.aload_n 1, 1) := by decide +kernel
theorem dL_law_2035 : decode cL_law 2035 = .ok (.aload 4, 2) := by decide +kernel
theorem dL_law_2037 : decode cL_law 2037 = .ok (.invokestatic 265, 3) := by decide +kernel
theorem dL_law_2040 : decode cL_law 2040 = .ok (.istore 6, 2) := by decide +kernel
theorem dL_law_2042 : decode cL_law 2042 = .ok (.aload_n 2, 1) := by decide +kernel
theorem dL_law_2043 : decode cL_law 2043 = .ok (.invokevirtual 268, 3) := by decide +kernel
theorem dL_law_2046 : decode cL_law 2046 = .ok (.dstore 7, 2) := by decide +kernel
theorem dL_law_2048 : decode cL_law 2048 = .ok (.aload_n 2, 1) := by decide +kernel
theorem dL_law_2049 : decode cL_law 2049 = .ok (.invokevirtual 155, 3) := by decide +kernel
theorem dL_law_2052 : decode cL_law 2052 = .ok (.iload 6, 2) := by decide +kernel
theorem dL_law_2054 : decode cL_law 2054 = .ok (.if_icmp .eq 5, 3) := by decide +kernel
theorem dL_law_2057 : decode cL_law 2057 = .ok (.iconst 0, 1) := by decide +kernel
theorem dL_law_2058 : decode cL_law 2058 = .ok (.ireturn, 1) := by decide +kernel
theorem dL_law_2059 : decode cL_law 2059 = .ok (.iload 6, 2) := by decide +kernel
theorem dL_law_2061 : decode cL_law 2061 = .ok (.ifCond .ne 35, 3) := by decide +kernel
theorem dL_law_2064 : decode cL_law 2064 = .ok (.aload 4, 2) := by decide +kernel
theorem dL_law_2066 : decode cL_law 2066 = .ok (.iconst 0, 1) := by decide +kernel
theorem dL_law_2067 : decode cL_law 2067 = .ok (.daload, 1) := by decide +kernel
theorem dL_law_2068 : decode cL_law 2068 = .ok (.dload 7, 2) := by decide +kernel
theorem dL_law_2070 : decode cL_law 2070 = .ok (.dcmp .l, 1) := by decide +kernel
theorem dL_law_2071 : decode cL_law 2071 = .ok (.ifCond .eq 25, 3) := by decide +kernel
theorem dL_law_2074 : decode cL_law 2074 = .ok (.aload 4, 2) := by decide +kernel
theorem dL_law_2076 : decode cL_law 2076 = .ok (.iconst 0, 1) := by decide +kernel
theorem dL_law_2077 : decode cL_law 2077 = .ok (.daload, 1) := by decide +kernel
theorem dL_law_2078 : decode cL_law 2078 = .ok (.aload 4, 2) := by decide +kernel
theorem dL_law_2080 : decode cL_law 2080 = .ok (.iconst 0, 1) := by decide +kernel
theorem dL_law_2081 : decode cL_law 2081 = .ok (.daload, 1) := by decide +kernel
theorem dL_law_2082 : decode cL_law 2082 = .ok (.dcmp .l, 1) := by decide +kernel
theorem dL_law_2083 : decode cL_law 2083 = .ok (.ifCond .eq 11, 3) := by decide +kernel
theorem dL_law_2086 : decode cL_law 2086 = .ok (.dload 7, 2) := by decide +kernel
theorem dL_law_2088 : decode cL_law 2088 = .ok (.dload 7, 2) := by decide +kernel
theorem dL_law_2090 : decode cL_law 2090 = .ok (.dcmp .l, 1) := by decide +kernel
theorem dL_law_2091 : decode cL_law 2091 = .ok (.ifCond .ne 5, 3) := by decide +kernel
theorem dL_law_2094 : decode cL_law 2094 = .ok (.iconst 0, 1) := by decide +kernel
theorem dL_law_2095 : decode cL_law 2095 = .ok (.ireturn, 1) := by decide +kernel
theorem dL_law_2096 : decode cL_law 2096 = .ok (.goto 373, 3) := by decide +kernel
theorem dL_law_2099 : decode cL_law 2099 = .ok (.aload_n 1, 1) := by decide +kernel
theorem dL_law_2100 : decode cL_law 2100 = .ok (.aload 4, 2) := by decide +kernel
theorem dL_law_2102 : decode cL_law 2102 = .ok (.invokestatic 269, 3) := by decide +kernel
theorem dL_law_2105 : decode cL_law 2105 = .ok (.istore 6, 2) := by decide +kernel
theorem dL_law_2107 : decode cL_law 2107 = .ok (.aload_n 2, 1) := by decide +kernel
theorem dL_law_2108 : decode cL_law 2108 = .ok (.invokevirtual 271, 3) := by decide +kernel
theorem dL_law_2111 : decode cL_law 2111 = .ok (.fstore 7, 2) := by decide +kernel
theorem dL_law_2113 : decode cL_law 2113 = .ok (.aload_n 2, 1) := by decide +kernel
theorem dL_law_2114 : decode cL_law 2114 = .ok (.invokevirtual 155, 3) := by decide +kernel
theorem dL_law_2117 : decode cL_law 2117 = .ok (.iload 6, 2) := by decide +kernel
theorem dL_law_2119 : decode cL_law 2119 = .ok (.if_icmp .eq 5, 3) := by decide +kernel
theorem dL_law_2122 : decode cL_law 2122 = .ok (.iconst 0, 1) := by decide +kernel
theorem dL_law_2123 : decode cL_law 2123 = .ok (.ireturn, 1) := by decide +kernel
theorem dL_law_2124 : decode cL_law 2124 = .ok (.iload 6, 2) := by decide +kernel
theorem dL_law_2126 : decode cL_law 2126 = .ok (.ifCond .ne 36, 3) := by decide +kernel
theorem dL_law_2129 : decode cL_law 2129 = .ok (.aload 4, 2) := by decide +kernel
theorem dL_law_2131 : decode cL_law 2131 = .ok (.iconst 0, 1) := by decide +kernel
theorem dL_law_2132 : decode cL_law 2132 = .ok (.daload, 1) := by decide +kernel
theorem dL_law_2133 : decode cL_law 2133 = .ok (.fload 7, 2) := by decide +kernel
theorem dL_law_2135 : decode cL_law 2135 = .ok (.f2d, 1) := by decide +kernel
theorem dL_law_2136 : decode cL_law 2136 = .ok (.dcmp .l, 1) := by decide +kernel
theorem dL_law_2137 : decode cL_law 2137 = .ok (.ifCond .eq 25, 3) := by decide +kernel
theorem dL_law_2140 : decode cL_law 2140 = .ok (.aload 4, 2) := by decide +kernel
theorem dL_law_2142 : decode cL_law 2142 = .ok (.iconst 0, 1) := by decide +kernel
theorem dL_law_2143 : decode cL_law 2143 = .ok (.daload, 1) := by decide +kernel
theorem dL_law_2144 : decode cL_law 2144 = .ok (.aload 4, 2) := by decide +kernel
theorem dL_law_2146 : decode cL_law 2146 = .ok (.iconst 0, 1) := by decide +kernel
theorem dL_law_2147 : decode cL_law 2147 = .ok (.daload, 1) := by decide +kernel
theorem dL_law_2148 : decode cL_law 2148 = .ok (.dcmp .l, 1) := by decide +kernel
theorem dL_law_2149 : decode cL_law 2149 = .ok (.ifCond .eq 11, 3) := by decide +kernel
theorem dL_law_2152 : decode cL_law 2152 = .ok (.fload 7, 2) := by decide +kernel
theorem dL_law_2154 : decode cL_law 2154 = .ok (.fload 7, 2) := by decide +kernel
theorem dL_law_2156 : decode cL_law 2156 = .ok (.fcmp .l, 1) := by decide +kernel
theorem dL_law_2157 : decode cL_law 2157 = .ok (.ifCond .ne 5, 3) := by decide +kernel
theorem dL_law_2160 : decode cL_law 2160 = .ok (.iconst 0, 1) := by decide +kernel
theorem dL_law_2161 : decode cL_law 2161 = .ok (.ireturn, 1) := by decide +kernel
theorem dL_law_2162 : decode cL_law 2162 = .ok (.goto 307, 3) := by decide +kernel
theorem dL_law_2165 : decode cL_law 2165 = .ok (.aload_n 1, 1) := by decide +kernel
theorem dL_law_2166 : decode cL_law 2166 = .ok (.invokevirtual 272, 3) := by decide +kernel
theorem dL_law_2169 : decode cL_law 2169 = .ok (.aload_n 2, 1) := by decide +kernel
theorem dL_law_2170 : decode cL_law 2170 = .ok (.invokevirtual 276, 3) := by decide +kernel
theorem dL_law_2173 : decode cL_law 2173 = .ok (.if_icmp .eq 296, 3) := by decide +kernel
theorem dL_law_2176 : decode cL_law 2176 = .ok (.iconst 0, 1) := by decide +kernel
theorem dL_law_2177 : decode cL_law 2177 = .ok (.ireturn, 1) := by decide +kernel
theorem dL_law_2178 : decode cL_law 2178 = .ok (.aload_n 1, 1) := by decide +kernel
theorem dL_law_2179 : decode cL_law 2179 = .ok (.aload_n 0, 1) := by decide +kernel
theorem dL_law_2180 : decode cL_law 2180 = .ok (.iload 5, 2) := by decide +kernel
theorem dL_law_2182 : decode cL_law 2182 = .ok (.iconst 1, 1) := by decide +kernel
theorem dL_law_2183 : decode cL_law 2183 = .ok (.iadd, 1) := by decide +kernel
theorem dL_law_2184 : decode cL_law 2184 = .ok (.iaload, 1) := by decide +kernel
theorem dL_law_2185 : decode cL_law 2185 = .ok (.i2c, 1) := by decide +kernel
theorem dL_law_2186 : decode cL_law 2186 = .ok (.aload_n 3, 1) := by decide +kernel
theorem dL_law_2187 : decode cL_law 2187 = .ok (.invokestatic 277, 3) := by decide +kernel
theorem dL_law_2190 : decode cL_law 2190 = .ok (.istore 6, 2) := by decide +kernel
theorem dL_law_2192 : decode cL_law 2192 = .ok (.aload_n 2, 1) := by decide +kernel
theorem dL_law_2193 : decode cL_law 2193 = .ok (.aload_n 0, 1) := by decide +kernel
theorem dL_law_2194 : decode cL_law 2194 = .ok (.iload 5, 2) := by decide +kernel
theorem dL_law_2196 : decode cL_law 2196 = .ok (.iconst 1, 1) := by decide +kernel
theorem dL_law_2197 : decode cL_law 2197 = .ok (.iadd, 1) := by decide +kernel
theorem dL_law_2198 : decode cL_law 2198 = .ok (.iaload, 1) := by decide +kernel
theorem dL_law_2199 : decode cL_law 2199 = .ok (.i2c, 1) := by decide +kernel
theorem dL_law_2200 : decode cL_law 2200 = .ok (.invokevirtual 280, 3) := by decide +kernel
theorem dL_law_2203 : decode cL_law 2203 = .ok (.istore 7, 2) := by decide +kernel
theorem dL_law_2205 : decode cL_law 2205 = .ok (.aload_n 2, 1) := by decide +kernel
theorem dL_law_2206 : decode cL_law 2206 = .ok (.invokevirtual 155, 3) := by decide +kernel
theorem dL_law_2209 : decode cL_law 2209 = .ok (.iload 6, 2) := by decide +kernel
theorem dL_law_2211 : decode cL_law 2211 = .ok (.if_icmp .eq 5, 3) := by decide +kernel
theorem dL_law_2214 : decode cL_law 2214 = .ok (.iconst 0, 1) := by decide +kernel
theorem dL_law_2215 : decode cL_law 2215 = .ok (.ireturn, 1) := by decide +kernel
theorem dL_law_2216 : decode cL_law 2216 = .ok (.iload 6, 2) := by decide +kernel
theorem dL_law_2218 : decode cL_law 2218 = .ok (.ifCond .ne 15, 3) := by decide +kernel
theorem dL_law_2221 : decode cL_law 2221 = .ok (.aload_n 3, 1) := by decide +kernel
theorem dL_law_2222 : decode cL_law 2222 = .ok (.iconst 0, 1) := by decide +kernel
theorem dL_law_2223 : decode cL_law 2223 = .ok (.laload, 1) := by decide +kernel
theorem dL_law_2224 : decode cL_law 2224 = .ok (.iload 7, 2) := by decide +kernel
theorem dL_law_2226 : decode cL_law 2226 = .ok (.i2l, 1) := by decide +kernel
theorem dL_law_2227 : decode cL_law 2227 = .ok (.lcmp, 1) := by decide +kernel
theorem dL_law_2228 : decode cL_law 2228 = .ok (.ifCond .eq 5, 3) := by decide +kernel
theorem dL_law_2231 : decode cL_law 2231 = .ok (.iconst 0, 1) := by decide +kernel
theorem dL_law_2232 : decode cL_law 2232 = .ok (.ireturn, 1) := by decide +kernel
theorem dL_law_2233 : decode cL_law 2233 = .ok (.goto 236, 3) := by decide +kernel
theorem dL_law_2236 : decode cL_law 2236 = .ok (.aload_n 1, 1) := by decide +kernel
theorem dL_law_2237 : decode cL_law 2237 = .ok (.aload_n 3, 1) := by decide +kernel
theorem dL_law_2238 : decode cL_law 2238 = .ok (.invokestatic 281, 3) := by decide +kernel
theorem dL_law_2241 : decode cL_law 2241 = .ok (.istore 6, 2) := by decide +kernel
theorem dL_law_2243 : decode cL_law 2243 = .ok (.aload_n 2, 1) := by decide +kernel
theorem dL_law_2244 : decode cL_law 2244 = .ok (.invokevirtual 283, 3) := by decide +kernel
theorem dL_law_2247 : decode cL_law 2247 = .ok (.istore 7, 2) := by decide +kernel
theorem dL_law_2249 : decode cL_law 2249 = .ok (.aload_n 2, 1) := by decide +kernel
theorem dL_law_2250 : decode cL_law 2250 = .ok (.invokevirtual 155, 3) := by decide +kernel
theorem dL_law_2253 : decode cL_law 2253 = .ok (.iload 6, 2) := by decide +kernel
theorem dL_law_2255 : decode cL_law 2255 = .ok (.if_icmp .eq 5, 3) := by decide +kernel
theorem dL_law_2258 : decode cL_law 2258 = .ok (.iconst 0, 1) := by decide +kernel
theorem dL_law_2259 : decode cL_law 2259 = .ok (.ireturn, 1) := by decide +kernel
theorem dL_law_2260 : decode cL_law 2260 = .ok (.iload 6, 2) := by decide +kernel
theorem dL_law_2262 : decode cL_law 2262 = .ok (.ifCond .ne 15, 3) := by decide +kernel
theorem dL_law_2265 : decode cL_law 2265 = .ok (.aload_n 3, 1) := by decide +kernel
theorem dL_law_2266 : decode cL_law 2266 = .ok (.iconst 0, 1) := by decide +kernel
theorem dL_law_2267 : decode cL_law 2267 = .ok (.laload, 1) := by decide +kernel
theorem dL_law_2268 : decode cL_law 2268 = .ok (.iload 7, 2) := by decide +kernel
theorem dL_law_2270 : decode cL_law 2270 = .ok (.i2l, 1) := by decide +kernel
theorem dL_law_2271 : decode cL_law 2271 = .ok (.lcmp, 1) := by decide +kernel
theorem dL_law_2272 : decode cL_law 2272 = .ok (.ifCond .eq 5, 3) := by decide +kernel
theorem dL_law_2275 : decode cL_law 2275 = .ok (.iconst 0, 1) := by decide +kernel
theorem dL_law_2276 : decode cL_law 2276 = .ok (.ireturn, 1) := by decide +kernel
theorem dL_law_2277 : decode cL_law 2277 = .ok (.goto 192, 3) := by decide +kernel
theorem dL_law_2280 : decode cL_law 2280 = .ok (.aload_n 1, 1) := by decide +kernel
theorem dL_law_2281 : decode cL_law 2281 = .ok (.aload_n 3, 1) := by decide +kernel
theorem dL_law_2282 : decode cL_law 2282 = .ok (.invokestatic 284, 3) := by decide +kernel
theorem dL_law_2285 : decode cL_law 2285 = .ok (.istore 6, 2) := by decide +kernel
theorem dL_law_2287 : decode cL_law 2287 = .ok (.aload_n 2, 1) := by decide +kernel
theorem dL_law_2288 : decode cL_law 2288 = .ok (.invokevirtual 286, 3) := by decide +kernel
theorem dL_law_2291 : decode cL_law 2291 = .ok (.istore 7, 2) := by decide +kernel
theorem dL_law_2293 : decode cL_law 2293 = .ok (.aload_n 2, 1) := by decide +kernel
theorem dL_law_2294 : decode cL_law 2294 = .ok (.invokevirtual 155, 3) := by decide +kernel
theorem dL_law_2297 : decode cL_law 2297 = .ok (.iload 6, 2) := by decide +kernel
theorem dL_law_2299 : decode cL_law 2299 = .ok (.if_icmp .eq 5, 3) := by decide +kernel
theorem dL_law_2302 : decode cL_law 2302 = .ok (.iconst 0, 1) := by decide +kernel
theorem dL_law_2303 : decode cL_law 2303 = .ok (.ireturn, 1) := by decide +kernel
theorem dL_law_2304 : decode cL_law 2304 = .ok (.iload 6, 2) := by decide +kernel
theorem dL_law_2306 : decode cL_law 2306 = .ok (.ifCond .ne 15, 3) := by decide +kernel
theorem dL_law_2309 : decode cL_law 2309 = .ok (.aload_n 3, 1) := by decide +kernel
theorem dL_law_2310 : decode cL_law 2310 = .ok (.iconst 0, 1) := by decide +kernel
theorem dL_law_2311 : decode cL_law 2311 = .ok (.laload, 1) := by decide +kernel
theorem dL_law_2312 : decode cL_law 2312 = .ok (.iload 7, 2) := by decide +kernel
theorem dL_law_2314 : decode cL_law 2314 = .ok (.i2l, 1) := by decide +kernel
theorem dL_law_2315 : decode cL_law 2315 = .ok (.lcmp, 1) := by decide +kernel
theorem dL_law_2316 : decode cL_law 2316 = .ok (.ifCond .eq 5, 3) := by decide +kernel
theorem dL_law_2319 : decode cL_law 2319 = .ok (.iconst 0, 1) := by decide +kernel
theorem dL_law_2320 : decode cL_law 2320 = .ok (.ireturn, 1) := by decide +kernel
theorem dL_law_2321 : decode cL_law 2321 = .ok (.goto 148, 3) := by decide +kernel
theorem dL_law_2324 : decode cL_law 2324 = .ok (.aload_n 1, 1) := by decide +kernel
theorem dL_law_2325 : decode cL_law 2325 = .ok (.aload_n 3, 1) := by decide +kernel
theorem dL_law_2326 : decode cL_law 2326 = .ok (.invokestatic 287, 3) := by decide +kernel
theorem dL_law_2329 : decode cL_law 2329 = .ok (.istore 6, 2) := by decide +kernel
theorem dL_law_2331 : decode cL_law 2331 = .ok (.aload_n 2, 1) := by decide +kernel
theorem dL_law_2332 : decode cL_law 2332 = .ok (.invokevirtual 289, 3) := by decide +kernel
theorem dL_law_2335 : decode cL_law 2335 = .ok (.istore 7, 2) := by decide +kernel
theorem dL_law_2337 : decode cL_law 2337 = .ok (.aload_n 2, 1) := by decide +kernel
theorem dL_law_2338 : decode cL_law 2338 = .ok (.invokevirtual 155, 3) := by decide +kernel
theorem dL_law_2341 : decode cL_law 2341 = .ok (.iload 6, 2) := by decide +kernel
theorem dL_law_2343 : decode cL_law 2343 = .ok (.if_icmp .eq 5, 3) := by decide +kernel
theorem dL_law_2346 : decode cL_law 2346 = .ok (.iconst 0, 1) := by decide +kernel
theorem dL_law_2347 : decode cL_law 2347 = .ok (.ireturn, 1) := by decide +kernel
theorem dL_law_2348 : decode cL_law 2348 = .ok (.iload 6, 2) := by decide +kernel
theorem dL_law_2350 : decode cL_law 2350 = .ok (.ifCond .ne 15, 3) := by decide +kernel
theorem dL_law_2353 : decode cL_law 2353 = .ok (.aload_n 3, 1) := by decide +kernel
theorem dL_law_2354 : decode cL_law 2354 = .ok (.iconst 0, 1) := by decide +kernel
theorem dL_law_2355 : decode cL_law 2355 = .ok (.laload, 1) := by decide +kernel
theorem dL_law_2356 : decode cL_law 2356 = .ok (.iload 7, 2) := by decide +kernel
theorem dL_law_2358 : decode cL_law 2358 = .ok (.i2l, 1) := by decide +kernel
theorem dL_law_2359 : decode cL_law 2359 = .ok (.lcmp, 1) := by decide +kernel
theorem dL_law_2360 : decode cL_law 2360 = .ok (.ifCond .eq 5, 3) := by decide +kernel
theorem dL_law_2363 : decode cL_law 2363 = .ok (.iconst 0, 1) := by decide +kernel
theorem dL_law_2364 : decode cL_law 2364 = .ok (.ireturn, 1) := by decide +kernel
theorem dL_law_2365 : decode cL_law 2365 = .ok (.goto 104, 3) := by decide +kernel
theorem dL_law_2368 : decode cL_law 2368 = .ok (.aload_n 1, 1) := by decide +kernel
theorem dL_law_2369 : decode cL_law 2369 = .ok (.aload_n 3, 1) := by decide +kernel
theorem dL_law_2370 : decode cL_law 2370 = .ok (.invokestatic 290, 3) := by decide +kernel
theorem dL_law_2373 : decode cL_law 2373 = .ok (.istore 6, 2) := by decide +kernel
theorem dL_law_2375 : decode cL_law 2375 = .ok (.aload_n 2, 1) := by decide +kernel
theorem dL_law_2376 : decode cL_law 2376 = .ok (.invokevirtual 292, 3) := by decide +kernel
theorem dL_law_2379 : decode cL_law 2379 = .ok (.istore 7, 2) := by decide +kernel
theorem dL_law_2381 : decode cL_law 2381 = .ok (.aload_n 2, 1) := by decide +kernel
theorem dL_law_2382 : decode cL_law 2382 = .ok (.invokevirtual 155, 3) := by decide +kernel
theorem dL_law_2385 : decode cL_law 2385 = .ok (.iload 6, 2) := by decide +kernel
theorem dL_law_2387 : decode cL_law 2387 = .ok (.if_icmp .eq 5, 3) := by decide +kernel
theorem dL_law_2390 : decode cL_law 2390 = .ok (.iconst 0, 1) := by decide +kernel
theorem dL_law_2391 : decode cL_law 2391 = .ok (.ireturn, 1) := by decide +kernel
theorem dL_law_2392 : decode cL_law 2392 = .ok (.iload 6, 2) := by decide +kernel
theorem dL_law_2394 : decode cL_law 2394 = .ok (.ifCond .ne 15, 3) := by decide +kernel
theorem dL_law_2397 : decode cL_law 2397 = .ok (.aload_n 3, 1) := by decide +kernel
theorem dL_law_2398 : decode cL_law 2398 = .ok (.iconst 0, 1) := by decide +kernel
theorem dL_law_2399 : decode cL_law 2399 = .ok (.laload, 1) := by decide +kernel
theorem dL_law_2400 : decode cL_law 2400 = .ok (.iload 7, 2) := by decide +kernel
theorem dL_law_2402 : decode cL_law 2402 = .ok (.i2l, 1) := by decide +kernel
theorem dL_law_2403 : decode cL_law 2403 = .ok (.lcmp, 1) := by decide +kernel
theorem dL_law_2404 : decode cL_law 2404 = .ok (.ifCond .eq 5, 3) := by decide +kernel
theorem dL_law_2407 : decode cL_law 2407 = .ok (.iconst 0, 1) := by decide +kernel
theorem dL_law_2408 : decode cL_law 2408 = .ok (.ireturn, 1) := by decide +kernel
theorem dL_law_2409 : decode cL_law 2409 = .ok (.goto 60, 3) := by decide +kernel
theorem dL_law_2412 : decode cL_law 2412 = .ok (.aload_n 1, 1) := by decide +kernel
theorem dL_law_2413 : decode cL_law 2413 = .ok (.invokevirtual 293, 3) := by decide +kernel
theorem dL_law_2416 : decode cL_law 2416 = .ok (.aload_n 2, 1) := by decide +kernel
theorem dL_law_2417 : decode cL_law 2417 = .ok (.invokevirtual 296, 3) := by decide +kernel
theorem dL_law_2420 : decode cL_law 2420 = .ok (.if_icmp .eq 49, 3) := by decide +kernel
theorem dL_law_2423 : decode cL_law 2423 = .ok (.iconst 0, 1) := by decide +kernel
theorem dL_law_2424 : decode cL_law 2424 = .ok (.ireturn, 1) := by decide +kernel
theorem dL_law_2425 : decode cL_law 2425 = .ok (.aload_n 1, 1) := by decide +kernel
theorem dL_law_2426 : decode cL_law 2426 = .ok (.aload_n 3, 1) := by decide +kernel
theorem dL_law_2427 : decode cL_law 2427 = .ok (.invokestatic 297, 3) := by decide +kernel
theorem dL_law_2430 : decode cL_law 2430 = .ok (.istore 6, 2) := by decide +kernel
theorem dL_law_2432 : decode cL_law 2432 = .ok (.aload_n 2, 1) := by decide +kernel
theorem dL_law_2433 : decode cL_law 2433 = .ok (.invokevirtual 299, 3) := by decide +kernel
theorem dL_law_2436 : decode cL_law 2436 = .ok (.istore 7, 2) := by decide +kernel
theorem dL_law_2438 : decode cL_law 2438 = .ok (.aload_n 2, 1) := by decide +kernel
theorem dL_law_2439 : decode cL_law 2439 = .ok (.invokevirtual 155, 3) := by decide +kernel
theorem dL_law_2442 : decode cL_law 2442 = .ok (.iload 6, 2) := by decide +kernel
theorem dL_law_2444 : decode cL_law 2444 = .ok (.if_icmp .eq 5, 3) := by decide +kernel
theorem dL_law_2447 : decode cL_law 2447 = .ok (.iconst 0, 1) := by decide +kernel
theorem dL_law_2448 : decode cL_law 2448 = .ok (.ireturn, 1) := by decide +kernel
theorem dL_law_2449 : decode cL_law 2449 = .ok (.iload 6, 2) := by decide +kernel
theorem dL_law_2451 : decode cL_law 2451 = .ok (.ifCond .ne 15, 3) := by decide +kernel
theorem dL_law_2454 : decode cL_law 2454 = .ok (.aload_n 3, 1) := by decide +kernel
theorem dL_law_2455 : decode cL_law 2455 = .ok (.iconst 0, 1) := by decide +kernel
theorem dL_law_2456 : decode cL_law 2456 = .ok (.laload, 1) := by decide +kernel
theorem dL_law_2457 : decode cL_law 2457 = .ok (.iload 7, 2) := by decide +kernel
theorem dL_law_2459 : decode cL_law 2459 = .ok (.i2l, 1) := by decide +kernel
theorem dL_law_2460 : decode cL_law 2460 = .ok (.lcmp, 1) := by decide +kernel
theorem dL_law_2461 : decode cL_law 2461 = .ok (.ifCond .eq 5, 3) := by decide +kernel
theorem dL_law_2464 : decode cL_law 2464 = .ok (.iconst 0, 1) := by decide +kernel
theorem dL_law_2465 : decode cL_law 2465 = .ok (.ireturn, 1) := by decide +kernel
theorem dL_law_2466 : decode cL_law 2466 = .ok (.goto 3, 3) := by decide +kernel
theorem dL_law_2469 : decode cL_law 2469 = .ok (.iinc 5 5, 3) := by decide +kernel
theorem dL_law_2472 : decode cL_law 2472 = .ok (.goto (-2444), 3) := by decide +kernel
theorem dL_law_2475 : decode cL_law 2475 = .ok (.iconst 1, 1) := by decide +kernel
theorem dL_law_2476 : decode cL_law 2476 = .ok (.ireturn, 1) := by decide +kernel
abbrev vwCl : List vw_C := [(RJ0, TJ0, 2), (RJx00060, TJx00060, 6), (RX0, TX0, 8), (RX1, TX1, 7), (RX2, TX2, 3), (RX3, TX3, 10), (RX4, TX4, 10), (RX5, TX5, 18)]
end
section
section ZB
/-- one list of words for every method: the good words of the tables -/
def gW : List Cond := lw_tbl.filter goodWord
theorem gW_T {w : Cond} (h : w ∈ tables_1) (hg : goodWord w = true) : w ∈ gW := List.mem_filter.mpr ⟨List.mem_append_right _ h, hg⟩
theorem gW_I (i : Nat) {w : Cond} (h : tables_1[i]? = some w) (hg : goodWord w = true) : w ∈ gW := gW_T (List.mem_of_getElem? h) hg
theorem gW_P {y : MethodName} {k : Nat} (h : (y, k) ∈ lw_privs) : Cond.selects y.cls y y ∈ gW := List.mem_filter.mpr ⟨List.mem_append_left _ (List.mem_map.mpr ⟨(y, k), h, rfl⟩), rfl⟩
theorem gW_tbl {w : Cond} (h : w ∈ gW) : w ∈ lw_tbl := (List.mem_filter.mp h).1
theorem gW_g {w : Cond} (h : w ∈ gW) : goodWord w = true := (List.mem_filter.mp h).2
theorem gW_in {ws : List Cond} (h : ∀ w ∈ ws, w ∈ gW) : GoodIn gW ws := fun w hw => ⟨h w hw, good_of_word (gW_g (h w hw))⟩
theorem gW_V {own C : String} {idx : Nat} {y : MethodName} {w : Cond} (h1 : Cond.methodLink own idx y ∈ gW) (h2 : Cond.instanceMethod y ∈ gW) (h3 : Cond.selects C y y ∈ gW) (h4 : Cond.initialized C ∈ gW) (h5 : w ∈ gW) : GoodIn gW (wsV own idx C y (w :: gW)) := gW_in (fun v hv => by
  simp only [wsV, List.mem_append, List.mem_cons, List.not_mem_nil, or_false] at hv
  rcases hv with (rfl | rfl | rfl | rfl) | rfl | hv
  all_goals assumption)
theorem gW_S {own : String} {idx : Nat} {y : MethodName} {w : Cond} (h1 : Cond.methodLink own idx y ∈ gW) (h2 : Cond.static y ∈ gW) (h4 : Cond.initialized y.cls ∈ gW) (h5 : w ∈ gW) : GoodIn gW (va_wsS own idx y (w :: gW)) := gW_in (fun v hv => by
  simp only [va_wsS, List.mem_append, List.mem_cons, List.not_mem_nil, or_false] at hv
  rcases hv with (rfl | rfl | rfl) | rfl | hv
  all_goals assumption)
theorem gW_C {w : Cond} (h5 : w ∈ gW) : GoodIn gW (w :: gW) := gW_in (fun v hv => by
  simp only [List.mem_cons] at hv
  rcases hv with rfl | hv
  all_goals assumption)
/-- classes and array classes, the heap's first new address, the texts' and the bytes' addresses, the addresses of the world -/
abbrev zG : Type := va_G × (Nat → ClassId) × Nat × (Nat → Nat) × (Nat → Nat) × (Nat → Nat → Nat → Nat)
abbrev zKp : Type := Nat → Nat → Nat → Int32
abbrev zMu : Type := Nat → Nat → Int32
abbrev zOm : Type := Int64 × UInt64
abbrev gD (g : zG) : va_G := g.1
abbrev gQ (g : zG) (k : Nat) : ClassId := g.2.1 k
abbrev gS (g : zG) : Nat := g.2.2.1
abbrev gAK (g : zG) : Nat → Nat := g.2.2.2.1
abbrev gAV (g : zG) : Nat → Nat := g.2.2.2.2.1
abbrev gA (g : zG) : Nat → Nat → Nat → Nat := g.2.2.2.2.2
abbrev gT (g : zG) : List (ClassId × FieldType) := [(gQ g 0, .char), (gQ g 1, .int), (gQ g 2, .object "LineBattle$Field"), (gQ g 3, .object "LineBattle$Line"), (gQ g 4, .long), (gQ g 5, .double)]
def gK (g : zG) (U : State) : Prop := va_K (gD g) vwCl (gT g) U
def zA (g : zG) : Nat → Prop := fun q => gS g ≤ q
theorem gK.moved {g : zG} {u U : State} (hvm : u.vm.Alike U.vm) (h : gK g u) : gK g U := va_K.moved hvm h

/-- the texts: class, place in its pool, the text -/
def zLit : List (String × Nat × String) := [("LineBattle$Field", 64, "pncs"), ("LineBattle", 60, "side, lane, kind or strength is out of range"), ("LineBattle", 67, "there are 12 lines already"), ("LineBattle", 72, "there is a line in the first column"), ("LineBattle$Field", 111, "hac"), ("LineBattle", 88, "there is no such line"), ("LineBattle", 91, "there is no such order"), ("LineBattle", 93, "the line does not stand"), ("LineBattle", 103, "the line is not routed"), ("LineBattle", 105, "its side has no jar"), ("LineBattle", 336, "the line has fallen"), ("LineBattle", 165, "there is no such cell"), ("LineBattle", 173, "there is no line in this cell"), ("LineBattle", 196, "there is no enemy ahead"), ("LineBattle", 207, "there will be no fight within 20 turns"), ("LineBattle", 328, "there is no such side"), ("LineBattle", 228, "there is no such side or lane"), ("LineBattle", 234, "the side has no line in this lane"), ("LineBattle", 236, "both sides have the same strength"), ("LineBattle", 241, "there is no such rank"), ("LineBattle", 246, "there is no such lane"), ("LineBattle", 256, "there is no such character"), ("LineBattle", 263, "there are no lines that have not fallen"), ("LineBattle", 269, "no line was added"), ("LineBattle", 277, "the character is not from 32 to 126"), ("LineBattle", 283, "the buffer is full"), ("LineBattle$CommandText", 53, "line"), ("LineBattle$CommandText", 62, "pncs"), ("LineBattle$CommandText", 70, "order"), ("LineBattle$CommandText", 72, "hac"), ("LineBattle$CommandText", 74, "rally"), ("LineBattle$CommandText", 76, "turn"), ("LineBattle", 297, "the text is malformed"), ("LineBattle", 308, "a command failed"), ("LineBattle", 310, "no text was malformed so far"), ("LineBattle", 312, "no command failed so far"), ("LineBattle", 318, "nothing can be undone"), ("LineBattle", 323, "there is no snapshot"), ("LineBattleModel", 231, "line"), ("LineBattleModel", 218, " "), ("LineBattleModel", 240, "order"), ("LineBattleModel", 242, "rally"), ("LineBattleModel", 244, "turn")]
def zByt : List (List Int32) := [[112, 110, 99, 115], [115, 105, 100, 101, 44, 32, 108, 97, 110, 101, 44, 32, 107, 105, 110, 100, 32, 111, 114, 32, 115, 116, 114, 101, 110, 103, 116, 104, 32, 105, 115, 32, 111, 117, 116, 32, 111, 102, 32, 114, 97, 110, 103, 101], [116, 104, 101, 114, 101, 32, 97, 114, 101, 32, 49, 50, 32, 108, 105, 110, 101, 115, 32, 97, 108, 114, 101, 97, 100, 121], [116, 104, 101, 114, 101, 32, 105, 115, 32, 97, 32, 108, 105, 110, 101, 32, 105, 110, 32, 116, 104, 101, 32, 102, 105, 114, 115, 116, 32, 99, 111, 108, 117, 109, 110], [104, 97, 99], [116, 104, 101, 114, 101, 32, 105, 115, 32, 110, 111, 32, 115, 117, 99, 104, 32, 108, 105, 110, 101], [116, 104, 101, 114, 101, 32, 105, 115, 32, 110, 111, 32, 115, 117, 99, 104, 32, 111, 114, 100, 101, 114], [116, 104, 101, 32, 108, 105, 110, 101, 32, 100, 111, 101, 115, 32, 110, 111, 116, 32, 115, 116, 97, 110, 100], [116, 104, 101, 32, 108, 105, 110, 101, 32, 105, 115, 32, 110, 111, 116, 32, 114, 111, 117, 116, 101, 100], [105, 116, 115, 32, 115, 105, 100, 101, 32, 104, 97, 115, 32, 110, 111, 32, 106, 97, 114], [116, 104, 101, 32, 108, 105, 110, 101, 32, 104, 97, 115, 32, 102, 97, 108, 108, 101, 110], [116, 104, 101, 114, 101, 32, 105, 115, 32, 110, 111, 32, 115, 117, 99, 104, 32, 99, 101, 108, 108], [116, 104, 101, 114, 101, 32, 105, 115, 32, 110, 111, 32, 108, 105, 110, 101, 32, 105, 110, 32, 116, 104, 105, 115, 32, 99, 101, 108, 108], [116, 104, 101, 114, 101, 32, 105, 115, 32, 110, 111, 32, 101, 110, 101, 109, 121, 32, 97, 104, 101, 97, 100], [116, 104, 101, 114, 101, 32, 119, 105, 108, 108, 32, 98, 101, 32, 110, 111, 32, 102, 105, 103, 104, 116, 32, 119, 105, 116, 104, 105, 110, 32, 50, 48, 32, 116, 117, 114, 110, 115], [116, 104, 101, 114, 101, 32, 105, 115, 32, 110, 111, 32, 115, 117, 99, 104, 32, 115, 105, 100, 101], [116, 104, 101, 114, 101, 32, 105, 115, 32, 110, 111, 32, 115, 117, 99, 104, 32, 115, 105, 100, 101, 32, 111, 114, 32, 108, 97, 110, 101], [116, 104, 101, 32, 115, 105, 100, 101, 32, 104, 97, 115, 32, 110, 111, 32, 108, 105, 110, 101, 32, 105, 110, 32, 116, 104, 105, 115, 32, 108, 97, 110, 101], [98, 111, 116, 104, 32, 115, 105, 100, 101, 115, 32, 104, 97, 118, 101, 32, 116, 104, 101, 32, 115, 97, 109, 101, 32, 115, 116, 114, 101, 110, 103, 116, 104], [116, 104, 101, 114, 101, 32, 105, 115, 32, 110, 111, 32, 115, 117, 99, 104, 32, 114, 97, 110, 107], [116, 104, 101, 114, 101, 32, 105, 115, 32, 110, 111, 32, 115, 117, 99, 104, 32, 108, 97, 110, 101], [116, 104, 101, 114, 101, 32, 105, 115, 32, 110, 111, 32, 115, 117, 99, 104, 32, 99, 104, 97, 114, 97, 99, 116, 101, 114], [116, 104, 101, 114, 101, 32, 97, 114, 101, 32, 110, 111, 32, 108, 105, 110, 101, 115, 32, 116, 104, 97, 116, 32, 104, 97, 118, 101, 32, 110, 111, 116, 32, 102, 97, 108, 108, 101, 110], [110, 111, 32, 108, 105, 110, 101, 32, 119, 97, 115, 32, 97, 100, 100, 101, 100], [116, 104, 101, 32, 99, 104, 97, 114, 97, 99, 116, 101, 114, 32, 105, 115, 32, 110, 111, 116, 32, 102, 114, 111, 109, 32, 51, 50, 32, 116, 111, 32, 49, 50, 54], [116, 104, 101, 32, 98, 117, 102, 102, 101, 114, 32, 105, 115, 32, 102, 117, 108, 108], [108, 105, 110, 101], [112, 110, 99, 115], [111, 114, 100, 101, 114], [104, 97, 99], [114, 97, 108, 108, 121], [116, 117, 114, 110], [116, 104, 101, 32, 116, 101, 120, 116, 32, 105, 115, 32, 109, 97, 108, 102, 111, 114, 109, 101, 100], [97, 32, 99, 111, 109, 109, 97, 110, 100, 32, 102, 97, 105, 108, 101, 100], [110, 111, 32, 116, 101, 120, 116, 32, 119, 97, 115, 32, 109, 97, 108, 102, 111, 114, 109, 101, 100, 32, 115, 111, 32, 102, 97, 114], [110, 111, 32, 99, 111, 109, 109, 97, 110, 100, 32, 102, 97, 105, 108, 101, 100, 32, 115, 111, 32, 102, 97, 114], [110, 111, 116, 104, 105, 110, 103, 32, 99, 97, 110, 32, 98, 101, 32, 117, 110, 100, 111, 110, 101], [116, 104, 101, 114, 101, 32, 105, 115, 32, 110, 111, 32, 115, 110, 97, 112, 115, 104, 111, 116], [108, 105, 110, 101], [32], [111, 114, 100, 101, 114], [114, 97, 108, 108, 121], [116, 117, 114, 110]]
def gStr (g : zG) (U : State) (H : Heap) : Prop := ∀ i : Nat, i < 43 → va_O "java/lang/String" (gAK g i) (zA g) U H ∧ va_OF "java/lang/String" "coder" "B" (.int 0) (gAK g i) (zA g) U H ∧ va_OF "java/lang/String" "value" "[B" (.ref (gAV g i)) (gAK g i) (zA g) U H ∧ va_T .byte (gAV g i) (zByt.getD i []).length (fun j => .int ((zByt.getD i []).getD j 0)) (zA g) U H
def gRef (g : zG) (U : State) : Prop := ∀ (i : Nat) (q : String × Nat × String), zLit[i]? = some q → vk_R q.1 q.2.1 q.2.2 (gAK g i) U
/-- what holds outside the world -/
def gB (g : zG) (U : State) (H : Heap) : Prop := gStr g U H ∧ gRef g U ∧ vx_Zq Bundle.tN "UNASSIGNED_STACK" Bundle.steD (zA g) U H ∧ vx_Zq Bundle.tN "SUPPRESSED_SENTINEL" Bundle.listD (zA g) U H ∧ va_Z "java/lang/String" "COMPACT_STRINGS" "Z" (.int 1) (zA g) U H
theorem gB.kept {g : zG} {U : State} {H H1 : Heap} (h : gB g U H) (hq : ∀ a : Nat, a < H.size → ¬ zA g a → H1[a]? = H[a]?) : gB g U H1 :=
  ⟨fun i hi => ⟨(h.1 i hi).1.kept hq, (h.1 i hi).2.1.kept hq, (h.1 i hi).2.2.1.kept hq, (h.1 i hi).2.2.2.kept hq⟩, h.2.1, vx_Zq.kept h.2.2.1 hq, vx_Zq.kept h.2.2.2.1 hq, va_Z.kept h.2.2.2.2 hq⟩
theorem gB.warm {g : zG} {s U : State} {H : Heap} (hW : s.WarmedH U.vm) (h : gB g s H) : gB g U H :=
  ⟨fun i hi => ⟨va_O.moved hW.alike (h.1 i hi).1, va_OF.moved hW.alike (h.1 i hi).2.1, va_OF.moved hW.alike (h.1 i hi).2.2.1, va_T.moved hW.alike (h.1 i hi).2.2.2⟩, fun i q hq => (h.2.1 i q hq).warm hW, vx_Zq.moved hW.alike h.2.2.1, vx_Zq.moved hW.alike h.2.2.2.1, va_Z.moved hW.alike h.2.2.2.2⟩
theorem gB.same {g : zG} {u U : State} {H : Heap} (hv : U.vm = u.vm) (h : gB g u H) : gB g U H := by
  have ha : u.vm.Alike U.vm := by rw [hv]; exact Vm.Alike.refl _
  exact ⟨fun i hi => ⟨va_O.moved ha (h.1 i hi).1, va_OF.moved ha (h.1 i hi).2.1, va_OF.moved ha (h.1 i hi).2.2.1, va_T.moved ha (h.1 i hi).2.2.2⟩, fun i q hq => vk_R.same hv (h.2.1 i q hq), vx_Zq.moved ha h.2.2.1, vx_Zq.moved ha h.2.2.2.1, va_Z.moved ha h.2.2.2.2⟩

def zIdx : List (Nat × Nat × Nat) := [(0, 0, 0), (1, 0, 0), (2, 0, 0), (3, 0, 0), (4, 0, 0), (5, 0, 0)] ++ ((List.range 11).flatMap (fun f => (6, f, 0) :: (7, f, 0) :: (8, f, 0) :: (List.range 12).map (fun i => (9, f, i))) ++ (List.range 11).map (fun k => (10 + k, 0, 0)))
def zV (t f i : Nat) : Prop := (t, f, i) ∈ zIdx
theorem zV0 : zV 0 0 0 := by unfold zV; decide
theorem zV1 : zV 1 0 0 := by unfold zV; decide
theorem zV2 : zV 2 0 0 := by unfold zV; decide
theorem zV3 : zV 3 0 0 := by unfold zV; decide
theorem zV4 : zV 4 0 0 := by unfold zV; decide
theorem zV5 : zV 5 0 0 := by unfold zV; decide
theorem zV10 : zV 10 0 0 := by unfold zV; decide
theorem zV11 : zV 11 0 0 := by unfold zV; decide
theorem zV12 : zV 12 0 0 := by unfold zV; decide
theorem zV13 : zV 13 0 0 := by unfold zV; decide
theorem zV14 : zV 14 0 0 := by unfold zV; decide
theorem zV15 : zV 15 0 0 := by unfold zV; decide
theorem zV16 : zV 16 0 0 := by unfold zV; decide
theorem zV17 : zV 17 0 0 := by unfold zV; decide
theorem zV18 : zV 18 0 0 := by unfold zV; decide
theorem zV19 : zV 19 0 0 := by unfold zV; decide
theorem zV20 : zV 20 0 0 := by unfold zV; decide
theorem zV6 {f : Nat} (hf : f < 11) : zV 6 f 0 := List.mem_append_right _ (List.mem_append_left _ (List.mem_flatMap.mpr ⟨f, List.mem_range.mpr hf, by simp⟩))
theorem zV7 {f : Nat} (hf : f < 11) : zV 7 f 0 := List.mem_append_right _ (List.mem_append_left _ (List.mem_flatMap.mpr ⟨f, List.mem_range.mpr hf, by simp⟩))
theorem zV8 {f : Nat} (hf : f < 11) : zV 8 f 0 := List.mem_append_right _ (List.mem_append_left _ (List.mem_flatMap.mpr ⟨f, List.mem_range.mpr hf, by simp⟩))
theorem zV9 {f i : Nat} (hf : f < 11) (hi : i < 12) : zV 9 f i := List.mem_append_right _ (List.mem_append_left _ (List.mem_flatMap.mpr ⟨f, List.mem_range.mpr hf, by simp; exact hi⟩))
def zNd : List (Nat × Nat × Nat) → Bool
  | [] => true
  | a :: l => decide (a ∉ l) && zNd l
theorem zNd_inj : ∀ (l : List (Nat × Nat × Nat)), zNd l = true → ∀ (i j : Nat) (a : Nat × Nat × Nat), l[i]? = some a → l[j]? = some a → i = j
  | [], _, i, j, a, h, _ => by simp at h
  | b :: l, hn, i, j, a, h1, h2 => by
    simp only [zNd, Bool.and_eq_true, decide_eq_true_eq] at hn
    cases i with
    | zero =>
      cases j with
      | zero => rfl
      | succ j =>
        rw [List.getElem?_cons_zero] at h1
        rw [List.getElem?_cons_succ] at h2
        cases h1
        exact absurd (List.mem_of_getElem? h2) hn.1
    | succ i =>
      rw [List.getElem?_cons_succ] at h1
      cases j with
      | zero =>
        rw [List.getElem?_cons_zero] at h2
        cases h2
        exact absurd (List.mem_of_getElem? h1) hn.1
      | succ j =>
        rw [List.getElem?_cons_succ] at h2
        rw [zNd_inj l hn.2 i j a h1 h2]
theorem zIdx_nd : zNd zIdx = true := by decide +kernel
/-- a live line's numbers stand in its field's row, another's aside -/
def zL (κ : zKp) (f i w : Nat) : Int32 := if i < (κ 6 f 0).toNatClampNeg then κ 6 f (5 + 9 * i + w) else κ 9 f (9 * i + w)
/-- what each cell of the world holds -/
def zE (g : zG) (κ : zKp) (μ : zMu) (ω : zOm) (t f i : Nat) : va_E := match t with
  | 0 => .inr (6, [.ref (gA g 6 0 0), .ref (gA g 6 1 0), .ref (gA g 6 2 0), .ref (gA g 4 0 0), .ref (gA g 2 0 0), .ref (gA g 1 0 0), .int (κ 0 0 0), .int (κ 0 0 1), .int (κ 0 0 2), .int (κ 0 0 3)])
  | 1 => .inl (gQ g 0, 20, .inl (κ 1 0))
  | 2 => .inr (2, [.ref (gA g 3 0 0), .int (κ 2 0 0), .int (κ 2 0 1), .int (κ 2 0 2), .int (κ 2 0 3), .int (κ 2 0 4), .int (κ 2 0 5), .int (κ 2 0 6)])
  | 3 => .inl (gQ g 0, 60, .inl (κ 3 0))
  | 4 => .inr (4, [.ref (gA g 5 0 0), .int (κ 4 0 0), .int (κ 4 0 1)])
  | 5 => .inl (gQ g 2, 8, .inr (.inr (.inr (.inr (fun j => some (gA g 6 (3 + j) 0))))))
  | 6 => .inr (3, [.ref (gA g 7 f 0), .ref (gA g 8 f 0), .int (κ 6 f 0), .int (κ 6 f 1), .int (κ 6 f 2), .int (κ 6 f 3), .int (κ 6 f 4)])
  | 7 => .inl (gQ g 3, 12, .inr (.inr (.inr (.inr (fun j => some (gA g 9 f j))))))
  | 8 => .inl (gQ g 1, 30, .inl (κ 8 f))
  | 9 => .inr (5, [.int (nI i), .int (zL κ f i 0), .int (zL κ f i 1), .int (zL κ f i 2), .int (zL κ f i 3), .int (zL κ f i 6), .int (zL κ f i 4), .int (zL κ f i 5), .int (zL κ f i 7), .int (zL κ f i 8)])
  | 10 => .inr (7, [.ref (gA g 11 0 0), .ref (gA g 12 0 0), .ref (gA g 13 0 0), .ref (gA g 14 0 0), .int (μ 0 0), .ref (gA g 15 0 0), .int (μ 0 1), .int (μ 0 2), .ref (gA g 16 0 0), .int (μ 0 3), .ref (gA g 17 0 0), .int (μ 0 4), .int (μ 0 5), .int (μ 0 6), .int (μ 0 7), .int (μ 0 8), .ref (gA g 18 0 0), .int (μ 0 9)])
  | 11 => .inl (gQ g 1, 113, .inl (μ 1))
  | 12 => .inl (gQ g 1, 113, .inl (μ 2))
  | 13 => .inl (gQ g 1, 113, .inl (μ 3))
  | 14 => .inl (gQ g 1, 113, .inl (μ 4))
  | 15 => .inl (gQ g 1, 904, .inl (fun q => μ (10 + q / 113) (q % 113)))
  | 16 => .inl (gQ g 0, 30, .inl (μ 6))
  | 17 => .inl (gQ g 0, 60, .inl (μ 7))
  | 18 => .inl (gQ g 1, 300, .inl (μ 8))
  | 19 => .inl (gQ g 4, 1, .inr (.inl (fun _ => ω.1)))
  | _ => .inl (gQ g 5, 1, .inr (.inr (.inr (.inl (fun _ => ω.2)))))
def zWs (g : zG) (κ : zKp) (μ : zMu) (ω : zOm) : va_W := zIdx.map (fun q => (gA g q.1 q.2.1 q.2.2, zE g κ μ ω q.1 q.2.1 q.2.2))
/-- the world -/
def WW (g : zG) (κ : zKp) (μ : zMu) (ω : zOm) (H : Heap) : Prop := va_P (gD g) vwCl (zWs g κ μ ω) H ∧ va_D (zA g) (zWs g κ μ ω)
theorem zpos (g : zG) (κ : zKp) (μ : zMu) (ω : zOm) {t f i : Nat} (h : zV t f i) : ∃ k : Nat, zIdx[k]? = some (t, f, i) ∧ (zWs g κ μ ω)[k]? = some (gA g t f i, zE g κ μ ω t f i) := by
  obtain ⟨k, hk⟩ := List.getElem?_of_mem h
  exact ⟨k, hk, by rw [zWs, List.getElem?_map, hk]; rfl⟩
theorem zset {g : zG} {κ κ' : zKp} {μ μ' : zMu} {ω ω' : zOm} {t f i k : Nat} {e' : va_E} (hk : zIdx[k]? = some (t, f, i)) (he : zE g κ' μ' ω' t f i = e') (hne : ∀ t' f' i', zV t' f' i' → ¬ (t' = t ∧ f' = f ∧ i' = i) → zE g κ' μ' ω' t' f' i' = zE g κ μ ω t' f' i') : (zWs g κ μ ω).set k (gA g t f i, e') = zWs g κ' μ' ω' := by
  subst he
  apply List.ext_getElem?
  intro j
  by_cases hj : k = j
  · subst hj
    rw [List.getElem?_set_self (by rw [zWs, List.length_map]; exact (List.getElem?_eq_some_iff.mp hk).1), zWs, List.getElem?_map, hk]
    rfl
  · rw [List.getElem?_set_ne hj, zWs, zWs, List.getElem?_map, List.getElem?_map]
    cases hq : zIdx[j]? with
    | none => rfl
    | some q =>
      obtain ⟨t', f', i'⟩ := q
      have : ¬ (t' = t ∧ f' = f ∧ i' = i) := by
        rintro ⟨rfl, rfl, rfl⟩
        exact hj (zNd_inj _ zIdx_nd _ _ _ hk hq)
      show some (gA g t' f' i', zE g κ μ ω t' f' i') = some (gA g t' f' i', zE g κ' μ' ω' t' f' i')
      rw [hne t' f' i' (List.mem_of_getElem? hq) this]
/-- another state that says the same of every cell -/
theorem WW.eq {g : zG} {κ κ' : zKp} {μ μ' : zMu} {ω ω' : zOm} {H : Heap} (h : WW g κ μ ω H) (hne : ∀ t f i, zV t f i → zE g κ' μ' ω' t f i = zE g κ μ ω t f i) : WW g κ' μ' ω' H := by
  have e : zWs g κ' μ' ω' = zWs g κ μ ω := by
    apply List.map_congr_left
    intro q hq
    rw [hne q.1 q.2.1 q.2.2 hq]
  unfold WW
  rw [e]
  exact h
def zPre (g : zG) (κ : zKp) (μ : zMu) (ω : zOm) (U : State) : Prop := WW g κ μ ω U.heap ∧ gK g U ∧ gB g U U.heap ∧ gS g ≤ U.heap.size
def zR (lvl mc : Nat) : Room := { frames := lvl, cells := mc, slots := 6 * mc, locals := 100 * lvl }
def zPost (g : zG) (κ : zKp) (μ : zMu) (ω : zOm) (r : Option Value) : Array Value → State → Outcome → State → Prop := fun _ st oc t => oc = .returned r ∧ WW g κ μ ω t.heap ∧ va_F (zA g) st t
/-- a method that returns: its answer, the world behind it -/
def zM (l : Launch) (g : zG) (y : MethodName) (cc : ByteArray) (n : Nat) (ret : Option FieldType) (lvl mc : Nat) (As : List Value) (κ : zKp) (μ : zMu) (ω : zOm) (κ' : zKp) (μ' : zMu) (ω' : zOm) (r : Option Value) : Prop :=
  Met l y (.code y cc n ret :: gW) (zR lvl mc) (va_Pc As (zPre g κ μ ω)) (zPost g κ' μ' ω' r) mc (6 * mc) (zA g)
/-- the caller's facts -/
def zX (p : Program) (l : Launch) (s : State) (m : MethodId) (args : Array Value) (meth : Method) (c : Code) (R : Room) (g : zG) (own : String) (cc : ByteArray) (n : Nat) (ret : Option FieldType) (lvl mc : Nat) : Prop :=
  p.tables.exec = Jvm.exec ∧ c.code = cc ∧ c.maxLocals = n ∧ s.vm.findClass own = some m.cls ∧ (∀ w ∈ gW, w.before args s = true) ∧ gK g s ∧ gB g s s.heap ∧ gS g ≤ s.heap.size ∧ R = zR lvl mc ∧ meth.locks = false ∧ meth.sig.returnType = ret
/-- the abstract machine: from here the method comes to Q -/
def zZ (p : Program) (l : Launch) (e : Env) (R : Room) (s : State) (m : MethodId) (args : Array Value) (below : List Frame) (meth : Method) (c : Code) (g : zG) (n : Nat) (Q : State → Prop) (κ : zKp) (μ : zMu) (ω : zOm) (k pc : Nat) (lv : List (Nat × Value)) (st : List Value) : Prop :=
  ∀ (H : Heap) (ls : Array Slot) (locs : List Loc), lv_has ls n lv → va_S (zA g) s.heap H locs → WW g κ μ ω H → W p l e R s m args below meth c H locs k (6 * k) Q (F0 m pc ls st)
end ZB
section ZR
variable {p : Program} {l : Launch} {e : Env} {R : Room} {s : State} {m : MethodId} {args : Array Value} {below : List Frame} {meth : Method} {c : Code} {Q : State → Prop} {g : zG} {own : String} {cc : ByteArray} {n lvl mc : Nat} {ret : Option FieldType} {κ κ' : zKp} {μ μ' : zMu} {ω ω' : zOm} {k pc : Nat} {lv lv' : List (Nat × Value)} {st : List Value}
theorem zX.pre (hX : zX p l s m args meth c R g own cc n ret lvl mc) {H : Heap} {locs : List Loc} (hS : va_S (zA g) s.heap H locs) (hW : WW g κ μ ω H) {U : State} (hU : U.heap = H) (hw : s.WarmedH U.vm) : zPre g κ μ ω U := by
  obtain ⟨-, -, -, -, -, hK, hB, hs, -⟩ := hX
  subst hU
  exact ⟨hW, gK.moved hw.alike hK, (hB.kept (fun a h1 h2 => hS.2.1 a h1 h2)).warm hw, Nat.le_trans hs hS.1⟩
theorem zPre_blind {As : List Value} : FrameBlind (va_Pc As (zPre g κ μ ω)) := fun a U fr mk h => ⟨h.1, h.2.1, gK.moved (u := U) (U := U.calling fr mk a) (Vm.Alike.refl U.vm) h.2.2.1, gB.same (u := U) (U := U.calling fr mk a) rfl h.2.2.2.1, h.2.2.2.2⟩
/-- the locals in another order, some left out -/
theorem z_sub (ks : List Nat) (hl : lv_pick lv ks = lv') (kk : zZ p l e R s m args below meth c g n Q κ μ ω k pc lv' st) : zZ p l e R s m args below meth c g n Q κ μ ω k pc lv st := fun H ls locs h1 h2 h3 => kk H ls locs (lv_sub h1 ks hl) h2 h3
theorem z_widen {k2 : Nat} (h : k ≤ k2) (kk : zZ p l e R s m args below meth c g n Q κ μ ω k2 pc lv st) : zZ p l e R s m args below meth c g n Q κ μ ω k pc lv st := fun H ls locs h1 h2 h3 => W.widen h (Nat.mul_le_mul_left 6 h) (kk H ls locs h1 h2 h3)
theorem z_world {κ' : zKp} {μ' : zMu} {ω' : zOm} (h : ∀ H, WW g κ μ ω H → WW g κ' μ' ω' H) (kk : zZ p l e R s m args below meth c g n Q κ' μ' ω' k pc lv st) : zZ p l e R s m args below meth c g n Q κ μ ω k pc lv st := fun H ls locs h1 h2 h3 => kk H ls locs h1 h2 (h H h3)
theorem z_topi {x : Int32} (kk : ∀ y : Int32, y = x → zZ p l e R s m args below meth c g n Q κ μ ω k pc lv (.int y :: st)) : zZ p l e R s m args below meth c g n Q κ μ ω k pc lv (.int x :: st) := kk x rfl
theorem z_isv {x y : Int32} (h : x = y) (kk : zZ p l e R s m args below meth c g n Q κ μ ω k pc lv (.int y :: st)) : zZ p l e R s m args below meth c g n Q κ μ ω k pc lv (.int x :: st) := h ▸ kk
theorem z_iconst (hX : zX p l s m args meth c R g own cc n ret lvl mc) {q : Int} {v : Int32} (d : decode cc pc = .ok (.iconst q, 1)) (hv : Int32.ofInt q = v) (kk : zZ p l e R s m args below meth c g n Q κ μ ω k (pc + 1) lv (.int v :: st)) : zZ p l e R s m args below meth c g n Q κ μ ω k pc lv st := fun H ls locs hl hS hW => lv_iconst hX.1 hX.2.1 d hv (kk H ls locs hl hS hW)
theorem z_bipush (hX : zX p l s m args meth c R g own cc n ret lvl mc) {q : Int} {v : Int32} (d : decode cc pc = .ok (.bipush q, 2)) (hv : (Int8.ofInt q).toInt32 = v) (kk : zZ p l e R s m args below meth c g n Q κ μ ω k (pc + 2) lv (.int v :: st)) : zZ p l e R s m args below meth c g n Q κ μ ω k pc lv st := fun H ls locs hl hS hW => lv_bipush hX.1 hX.2.1 d hv (kk H ls locs hl hS hW)
theorem z_sipush (hX : zX p l s m args meth c R g own cc n ret lvl mc) {q : Int} {v : Int32} (d : decode cc pc = .ok (.sipush q, 3)) (hv : (Int16.ofInt q).toInt32 = v) (kk : zZ p l e R s m args below meth c g n Q κ μ ω k (pc + 3) lv (.int v :: st)) : zZ p l e R s m args below meth c g n Q κ μ ω k pc lv st := fun H ls locs hl hS hW => lv_sipush hX.1 hX.2.1 d hv (kk H ls locs hl hS hW)
theorem z_lconst (hX : zX p l s m args meth c R g own cc n ret lvl mc) {q : Fin 2} {v : Int64} (d : decode cc pc = .ok (.lconst q, 1)) (hv : Int64.ofNat (q : Nat) = v) (kk : zZ p l e R s m args below meth c g n Q κ μ ω k (pc + 1) lv (.long v :: st)) : zZ p l e R s m args below meth c g n Q κ μ ω k pc lv st := fun H ls locs hl hS hW => lv_lconst hX.1 hX.2.1 d hv (kk H ls locs hl hS hW)
theorem z_iload_n (hX : zX p l s m args meth c R g own cc n ret lvl mc) {q : Fin 4} {x : Int32} (d : decode cc pc = .ok (.iload_n q, 1)) (j : Nat) (hj : lv[j]? = some ((q : Nat), .int x)) (kk : zZ p l e R s m args below meth c g n Q κ μ ω k (pc + 1) lv (.int x :: st)) : zZ p l e R s m args below meth c g n Q κ μ ω k pc lv st := fun H ls locs hl hS hW => lv_iload_n hX.1 hX.2.1 d rfl (lv_at hl j hj) (kk H ls locs hl hS hW)
theorem z_iload (hX : zX p l s m args meth c R g own cc n ret lvl mc) {i : Nat} {x : Int32} (d : decode cc pc = .ok (.iload i, 2)) (j : Nat) (hj : lv[j]? = some (i, .int x)) (kk : zZ p l e R s m args below meth c g n Q κ μ ω k (pc + 2) lv (.int x :: st)) : zZ p l e R s m args below meth c g n Q κ μ ω k pc lv st := fun H ls locs hl hS hW => lv_iload hX.1 hX.2.1 d (lv_at hl j hj) (kk H ls locs hl hS hW)
theorem z_istore_n (hX : zX p l s m args meth c R g own cc n ret lvl mc) {q : Fin 4} {x : Int32} (d : decode cc pc = .ok (.istore_n q, 1)) (hn : (q : Nat) < n) (hl' : ((q : Nat), Value.int x) :: lv.filter (fun z => !(z.1 == (q : Nat)) && !(z.1 + 1 == (q : Nat) && z.2.category == 2)) = lv') (kk : zZ p l e R s m args below meth c g n Q κ μ ω k (pc + 1) lv' st) : zZ p l e R s m args below meth c g n Q κ μ ω k pc lv (.int x :: st) := fun H ls locs hl hS hW => lv_istore_n hX.1 hX.2.1 d rfl hl hn hl' (fun ls hl => kk H ls locs hl hS hW)
theorem z_istore (hX : zX p l s m args meth c R g own cc n ret lvl mc) {i : Nat} {x : Int32} (d : decode cc pc = .ok (.istore i, 2)) (hn : i < n) (hl' : (i, Value.int x) :: lv.filter (fun z => !(z.1 == i) && !(z.1 + 1 == i && z.2.category == 2)) = lv') (kk : zZ p l e R s m args below meth c g n Q κ μ ω k (pc + 2) lv' st) : zZ p l e R s m args below meth c g n Q κ μ ω k pc lv (.int x :: st) := fun H ls locs hl hS hW => lv_istore hX.1 hX.2.1 d hl hn hl' (fun ls hl => kk H ls locs hl hS hW)
theorem z_aload_n (hX : zX p l s m args meth c R g own cc n ret lvl mc) {q : Fin 4} {x : Nat} (d : decode cc pc = .ok (.aload_n q, 1)) (j : Nat) (hj : lv[j]? = some ((q : Nat), .ref x)) (kk : zZ p l e R s m args below meth c g n Q κ μ ω k (pc + 1) lv (.ref x :: st)) : zZ p l e R s m args below meth c g n Q κ μ ω k pc lv st := fun H ls locs hl hS hW => lv_aload_n hX.1 hX.2.1 d rfl (lv_at hl j hj) (kk H ls locs hl hS hW)
theorem z_aload (hX : zX p l s m args meth c R g own cc n ret lvl mc) {i : Nat} {x : Nat} (d : decode cc pc = .ok (.aload i, 2)) (j : Nat) (hj : lv[j]? = some (i, .ref x)) (kk : zZ p l e R s m args below meth c g n Q κ μ ω k (pc + 2) lv (.ref x :: st)) : zZ p l e R s m args below meth c g n Q κ μ ω k pc lv st := fun H ls locs hl hS hW => lv_aload hX.1 hX.2.1 d (lv_at hl j hj) (kk H ls locs hl hS hW)
theorem z_astore_n (hX : zX p l s m args meth c R g own cc n ret lvl mc) {q : Fin 4} {x : Nat} (d : decode cc pc = .ok (.astore_n q, 1)) (hn : (q : Nat) < n) (hl' : ((q : Nat), Value.ref x) :: lv.filter (fun z => !(z.1 == (q : Nat)) && !(z.1 + 1 == (q : Nat) && z.2.category == 2)) = lv') (kk : zZ p l e R s m args below meth c g n Q κ μ ω k (pc + 1) lv' st) : zZ p l e R s m args below meth c g n Q κ μ ω k pc lv (.ref x :: st) := fun H ls locs hl hS hW => lv_astore_n hX.1 hX.2.1 d rfl hl hn hl' (fun ls hl => kk H ls locs hl hS hW)
theorem z_astore (hX : zX p l s m args meth c R g own cc n ret lvl mc) {i : Nat} {x : Nat} (d : decode cc pc = .ok (.astore i, 2)) (hn : i < n) (hl' : (i, Value.ref x) :: lv.filter (fun z => !(z.1 == i) && !(z.1 + 1 == i && z.2.category == 2)) = lv') (kk : zZ p l e R s m args below meth c g n Q κ μ ω k (pc + 2) lv' st) : zZ p l e R s m args below meth c g n Q κ μ ω k pc lv (.ref x :: st) := fun H ls locs hl hS hW => lv_astore hX.1 hX.2.1 d hl hn hl' (fun ls hl => kk H ls locs hl hS hW)
theorem z_iinc (hX : zX p l s m args meth c R g own cc n ret lvl mc) {i : Nat} {q : Int} {x v : Int32} (d : decode cc pc = .ok (.iinc i q, 3)) (j : Nat) (hj : lv[j]? = some (i, .int x)) (hv : x + Int32.ofInt q = v) (hn : i < n) (hl' : (i, Value.int v) :: lv.filter (fun z => !(z.1 == i) && !(z.1 + 1 == i && z.2.category == 2)) = lv') (kk : zZ p l e R s m args below meth c g n Q κ μ ω k (pc + 3) lv' st) : zZ p l e R s m args below meth c g n Q κ μ ω k pc lv st := fun H ls locs hl hS hW => lv_iinc hX.1 hX.2.1 d hl hj hv hn hl' (fun ls hl => kk H ls locs hl hS hW)
theorem z_iadd (hX : zX p l s m args meth c R g own cc n ret lvl mc) {x y : Int32} (d : decode cc pc = .ok (.iadd, 1)) (kk : zZ p l e R s m args below meth c g n Q κ μ ω k (pc + 1) lv (.int (x + y) :: st)) : zZ p l e R s m args below meth c g n Q κ μ ω k pc lv (.int y :: .int x :: st) := fun H ls locs hl hS hW => lv_iadd hX.1 hX.2.1 d (kk H ls locs hl hS hW)
theorem z_isub (hX : zX p l s m args meth c R g own cc n ret lvl mc) {x y : Int32} (d : decode cc pc = .ok (.isub, 1)) (kk : zZ p l e R s m args below meth c g n Q κ μ ω k (pc + 1) lv (.int (x - y) :: st)) : zZ p l e R s m args below meth c g n Q κ μ ω k pc lv (.int y :: .int x :: st) := fun H ls locs hl hS hW => lv_isub hX.1 hX.2.1 d (kk H ls locs hl hS hW)
theorem z_imul (hX : zX p l s m args meth c R g own cc n ret lvl mc) {x y : Int32} (d : decode cc pc = .ok (.imul, 1)) (kk : zZ p l e R s m args below meth c g n Q κ μ ω k (pc + 1) lv (.int (x * y) :: st)) : zZ p l e R s m args below meth c g n Q κ μ ω k pc lv (.int y :: .int x :: st) := fun H ls locs hl hS hW => lv_imul hX.1 hX.2.1 d (kk H ls locs hl hS hW)
theorem z_iand (hX : zX p l s m args meth c R g own cc n ret lvl mc) {x y : Int32} (d : decode cc pc = .ok (.iand, 1)) (kk : zZ p l e R s m args below meth c g n Q κ μ ω k (pc + 1) lv (.int (x &&& y) :: st)) : zZ p l e R s m args below meth c g n Q κ μ ω k pc lv (.int y :: .int x :: st) := fun H ls locs hl hS hW => lv_iand hX.1 hX.2.1 d (kk H ls locs hl hS hW)
theorem z_ineg (hX : zX p l s m args meth c R g own cc n ret lvl mc) {x : Int32} (d : decode cc pc = .ok (.ineg, 1)) (kk : zZ p l e R s m args below meth c g n Q κ μ ω k (pc + 1) lv (.int (0 - x) :: st)) : zZ p l e R s m args below meth c g n Q κ μ ω k pc lv (.int x :: st) := fun H ls locs hl hS hW => lv_ineg hX.1 hX.2.1 d (kk H ls locs hl hS hW)
theorem z_idiv (hX : zX p l s m args meth c R g own cc n ret lvl mc) {x y : Int32} (d : decode cc pc = .ok (.idiv, 1)) (h0 : ¬ y = 0) (kk : zZ p l e R s m args below meth c g n Q κ μ ω k (pc + 1) lv (.int (x / y) :: st)) : zZ p l e R s m args below meth c g n Q κ μ ω k pc lv (.int y :: .int x :: st) := fun H ls locs hl hS hW => lv_idiv hX.1 hX.2.1 d h0 (kk H ls locs hl hS hW)
theorem z_irem (hX : zX p l s m args meth c R g own cc n ret lvl mc) {x y : Int32} (d : decode cc pc = .ok (.irem, 1)) (h0 : ¬ y = 0) (kk : zZ p l e R s m args below meth c g n Q κ μ ω k (pc + 1) lv (.int (x - x / y * y) :: st)) : zZ p l e R s m args below meth c g n Q κ μ ω k pc lv (.int y :: .int x :: st) := fun H ls locs hl hS hW => lv_irem hX.1 hX.2.1 d h0 (kk H ls locs hl hS hW)
theorem z_i2c (hX : zX p l s m args meth c R g own cc n ret lvl mc) {x : Int32} (d : decode cc pc = .ok (.i2c, 1)) (kk : zZ p l e R s m args below meth c g n Q κ μ ω k (pc + 1) lv (.int (x.toUInt32 % 65536).toInt32 :: st)) : zZ p l e R s m args below meth c g n Q κ μ ω k pc lv (.int x :: st) := fun H ls locs hl hS hW => lv_i2c hX.1 hX.2.1 d rfl (kk H ls locs hl hS hW)
theorem z_i2l (hX : zX p l s m args meth c R g own cc n ret lvl mc) {x : Int32} (d : decode cc pc = .ok (.i2l, 1)) (kk : zZ p l e R s m args below meth c g n Q κ μ ω k (pc + 1) lv (.long x.toInt64 :: st)) : zZ p l e R s m args below meth c g n Q κ μ ω k pc lv (.int x :: st) := fun H ls locs hl hS hW => lv_i2l hX.1 hX.2.1 d rfl (kk H ls locs hl hS hW)
theorem z_dup (hX : zX p l s m args meth c R g own cc n ret lvl mc) {va : Value} (d : decode cc pc = .ok (.dup, 1)) (hva : va.category = 1) (kk : zZ p l e R s m args below meth c g n Q κ μ ω k (pc + 1) lv (va :: va :: st)) : zZ p l e R s m args below meth c g n Q κ μ ω k pc lv (va :: st) := fun H ls locs hl hS hW => lv_dup hX.1 hX.2.1 d hva (kk H ls locs hl hS hW)
theorem z_pop (hX : zX p l s m args meth c R g own cc n ret lvl mc) {va : Value} (d : decode cc pc = .ok (.pop, 1)) (hva : va.category = 1) (kk : zZ p l e R s m args below meth c g n Q κ μ ω k (pc + 1) lv st) : zZ p l e R s m args below meth c g n Q κ μ ω k pc lv (va :: st) := fun H ls locs hl hS hW => lv_pop hX.1 hX.2.1 d hva (kk H ls locs hl hS hW)
theorem z_dup2 (hX : zX p l s m args meth c R g own cc n ret lvl mc) {va vb : Value} (d : decode cc pc = .ok (.dup2, 1)) (hva : va.category = 1) (hvb : vb.category = 1) (kk : zZ p l e R s m args below meth c g n Q κ μ ω k (pc + 1) lv (va :: vb :: va :: vb :: st)) : zZ p l e R s m args below meth c g n Q κ μ ω k pc lv (va :: vb :: st) := fun H ls locs hl hS hW => lv_dup2_11 hX.1 hX.2.1 d hva hvb (kk H ls locs hl hS hW)
theorem z_null (hX : zX p l s m args meth c R g own cc n ret lvl mc)  (d : decode cc pc = .ok (.aconst_null, 1)) (kk : zZ p l e R s m args below meth c g n Q κ μ ω k (pc + 1) lv (.null :: st)) : zZ p l e R s m args below meth c g n Q κ μ ω k pc lv st := fun H ls locs hl hS hW => lv_null hX.1 hX.2.1 d (kk H ls locs hl hS hW)
theorem z_goto (hX : zX p l s m args meth c R g own cc n ret lvl mc) {off : Int} {tgt : Nat} (d : decode cc pc = .ok (.goto off, 3)) (ht : (pc : Int) + off = (tgt : Int)) (kk : zZ p l e R s m args below meth c g n Q κ μ ω k tgt lv st) : zZ p l e R s m args below meth c g n Q κ μ ω k pc lv st := fun H ls locs hl hS hW => lv_goto hX.1 hX.2.1 d ht (kk H ls locs hl hS hW)
theorem z_if_eq (hX : zX p l s m args meth c R g own cc n ret lvl mc) {x : Int32} {off : Int} {tgt : Nat} (d : decode cc pc = .ok (.ifCond .eq off, 3)) (ht : (pc : Int) + off = (tgt : Int)) (kt : x = 0 → zZ p l e R s m args below meth c g n Q κ μ ω k tgt lv st) (kf : ¬ x = 0 → zZ p l e R s m args below meth c g n Q κ μ ω k (pc + 3) lv st) : zZ p l e R s m args below meth c g n Q κ μ ω k pc lv (.int x :: st) := fun H ls locs hl hS hW => lv_if_eq hX.1 hX.2.1 d ht (fun h => kt h H ls locs hl hS hW) (fun h => kf (h) H ls locs hl hS hW)
theorem z_if_ne (hX : zX p l s m args meth c R g own cc n ret lvl mc) {x : Int32} {off : Int} {tgt : Nat} (d : decode cc pc = .ok (.ifCond .ne off, 3)) (ht : (pc : Int) + off = (tgt : Int)) (kt : ¬ x = 0 → zZ p l e R s m args below meth c g n Q κ μ ω k tgt lv st) (kf : x = 0 → zZ p l e R s m args below meth c g n Q κ μ ω k (pc + 3) lv st) : zZ p l e R s m args below meth c g n Q κ μ ω k pc lv (.int x :: st) := fun H ls locs hl hS hW => lv_if_ne hX.1 hX.2.1 d ht (fun h => kt h H ls locs hl hS hW) (fun h => kf (Classical.not_not.mp h) H ls locs hl hS hW)
theorem z_if_lt (hX : zX p l s m args meth c R g own cc n ret lvl mc) {x : Int32} {off : Int} {tgt : Nat} (d : decode cc pc = .ok (.ifCond .lt off, 3)) (ht : (pc : Int) + off = (tgt : Int)) (kt : x < 0 → zZ p l e R s m args below meth c g n Q κ μ ω k tgt lv st) (kf : ¬ x < 0 → zZ p l e R s m args below meth c g n Q κ μ ω k (pc + 3) lv st) : zZ p l e R s m args below meth c g n Q κ μ ω k pc lv (.int x :: st) := fun H ls locs hl hS hW => lv_if_lt hX.1 hX.2.1 d ht (fun h => kt h H ls locs hl hS hW) (fun h => kf (h) H ls locs hl hS hW)
theorem z_if_ge (hX : zX p l s m args meth c R g own cc n ret lvl mc) {x : Int32} {off : Int} {tgt : Nat} (d : decode cc pc = .ok (.ifCond .ge off, 3)) (ht : (pc : Int) + off = (tgt : Int)) (kt : 0 ≤ x → zZ p l e R s m args below meth c g n Q κ μ ω k tgt lv st) (kf : ¬ 0 ≤ x → zZ p l e R s m args below meth c g n Q κ μ ω k (pc + 3) lv st) : zZ p l e R s m args below meth c g n Q κ μ ω k pc lv (.int x :: st) := fun H ls locs hl hS hW => lv_if_ge hX.1 hX.2.1 d ht (fun h => kt h H ls locs hl hS hW) (fun h => kf (h) H ls locs hl hS hW)
theorem z_if_gt (hX : zX p l s m args meth c R g own cc n ret lvl mc) {x : Int32} {off : Int} {tgt : Nat} (d : decode cc pc = .ok (.ifCond .gt off, 3)) (ht : (pc : Int) + off = (tgt : Int)) (kt : 0 < x → zZ p l e R s m args below meth c g n Q κ μ ω k tgt lv st) (kf : ¬ 0 < x → zZ p l e R s m args below meth c g n Q κ μ ω k (pc + 3) lv st) : zZ p l e R s m args below meth c g n Q κ μ ω k pc lv (.int x :: st) := fun H ls locs hl hS hW => lv_if_gt hX.1 hX.2.1 d ht (fun h => kt h H ls locs hl hS hW) (fun h => kf (h) H ls locs hl hS hW)
theorem z_if_le (hX : zX p l s m args meth c R g own cc n ret lvl mc) {x : Int32} {off : Int} {tgt : Nat} (d : decode cc pc = .ok (.ifCond .le off, 3)) (ht : (pc : Int) + off = (tgt : Int)) (kt : x ≤ 0 → zZ p l e R s m args below meth c g n Q κ μ ω k tgt lv st) (kf : ¬ x ≤ 0 → zZ p l e R s m args below meth c g n Q κ μ ω k (pc + 3) lv st) : zZ p l e R s m args below meth c g n Q κ μ ω k pc lv (.int x :: st) := fun H ls locs hl hS hW => lv_if_le hX.1 hX.2.1 d ht (fun h => kt h H ls locs hl hS hW) (fun h => kf (h) H ls locs hl hS hW)
theorem z_icmp_eq (hX : zX p l s m args meth c R g own cc n ret lvl mc) {x y : Int32} {off : Int} {tgt : Nat} (d : decode cc pc = .ok (.if_icmp .eq off, 3)) (ht : (pc : Int) + off = (tgt : Int)) (kt : x = y → zZ p l e R s m args below meth c g n Q κ μ ω k tgt lv st) (kf : ¬ x = y → zZ p l e R s m args below meth c g n Q κ μ ω k (pc + 3) lv st) : zZ p l e R s m args below meth c g n Q κ μ ω k pc lv (.int y :: .int x :: st) := fun H ls locs hl hS hW => lv_icmp_eq hX.1 hX.2.1 d ht (fun h => kt h H ls locs hl hS hW) (fun h => kf (h) H ls locs hl hS hW)
theorem z_icmp_ne (hX : zX p l s m args meth c R g own cc n ret lvl mc) {x y : Int32} {off : Int} {tgt : Nat} (d : decode cc pc = .ok (.if_icmp .ne off, 3)) (ht : (pc : Int) + off = (tgt : Int)) (kt : ¬ x = y → zZ p l e R s m args below meth c g n Q κ μ ω k tgt lv st) (kf : x = y → zZ p l e R s m args below meth c g n Q κ μ ω k (pc + 3) lv st) : zZ p l e R s m args below meth c g n Q κ μ ω k pc lv (.int y :: .int x :: st) := fun H ls locs hl hS hW => lv_icmp_ne hX.1 hX.2.1 d ht (fun h => kt h H ls locs hl hS hW) (fun h => kf (Classical.not_not.mp h) H ls locs hl hS hW)
theorem z_icmp_lt (hX : zX p l s m args meth c R g own cc n ret lvl mc) {x y : Int32} {off : Int} {tgt : Nat} (d : decode cc pc = .ok (.if_icmp .lt off, 3)) (ht : (pc : Int) + off = (tgt : Int)) (kt : x < y → zZ p l e R s m args below meth c g n Q κ μ ω k tgt lv st) (kf : ¬ x < y → zZ p l e R s m args below meth c g n Q κ μ ω k (pc + 3) lv st) : zZ p l e R s m args below meth c g n Q κ μ ω k pc lv (.int y :: .int x :: st) := fun H ls locs hl hS hW => lv_icmp_lt hX.1 hX.2.1 d ht (fun h => kt h H ls locs hl hS hW) (fun h => kf (h) H ls locs hl hS hW)
theorem z_icmp_ge (hX : zX p l s m args meth c R g own cc n ret lvl mc) {x y : Int32} {off : Int} {tgt : Nat} (d : decode cc pc = .ok (.if_icmp .ge off, 3)) (ht : (pc : Int) + off = (tgt : Int)) (kt : y ≤ x → zZ p l e R s m args below meth c g n Q κ μ ω k tgt lv st) (kf : ¬ y ≤ x → zZ p l e R s m args below meth c g n Q κ μ ω k (pc + 3) lv st) : zZ p l e R s m args below meth c g n Q κ μ ω k pc lv (.int y :: .int x :: st) := fun H ls locs hl hS hW => lv_icmp_ge hX.1 hX.2.1 d ht (fun h => kt h H ls locs hl hS hW) (fun h => kf (h) H ls locs hl hS hW)
theorem z_icmp_gt (hX : zX p l s m args meth c R g own cc n ret lvl mc) {x y : Int32} {off : Int} {tgt : Nat} (d : decode cc pc = .ok (.if_icmp .gt off, 3)) (ht : (pc : Int) + off = (tgt : Int)) (kt : y < x → zZ p l e R s m args below meth c g n Q κ μ ω k tgt lv st) (kf : ¬ y < x → zZ p l e R s m args below meth c g n Q κ μ ω k (pc + 3) lv st) : zZ p l e R s m args below meth c g n Q κ μ ω k pc lv (.int y :: .int x :: st) := fun H ls locs hl hS hW => lv_icmp_gt hX.1 hX.2.1 d ht (fun h => kt h H ls locs hl hS hW) (fun h => kf (h) H ls locs hl hS hW)
theorem z_icmp_le (hX : zX p l s m args meth c R g own cc n ret lvl mc) {x y : Int32} {off : Int} {tgt : Nat} (d : decode cc pc = .ok (.if_icmp .le off, 3)) (ht : (pc : Int) + off = (tgt : Int)) (kt : x ≤ y → zZ p l e R s m args below meth c g n Q κ μ ω k tgt lv st) (kf : ¬ x ≤ y → zZ p l e R s m args below meth c g n Q κ μ ω k (pc + 3) lv st) : zZ p l e R s m args below meth c g n Q κ μ ω k pc lv (.int y :: .int x :: st) := fun H ls locs hl hS hW => lv_icmp_le hX.1 hX.2.1 d ht (fun h => kt h H ls locs hl hS hW) (fun h => kf (h) H ls locs hl hS hW)
theorem z_if_eqB (hX : zX p l s m args meth c R g own cc n ret lvl mc) {b : Prop} [Decidable b] {off : Int} {tgt : Nat} (d : decode cc pc = .ok (.ifCond .eq off, 3)) (ht : (pc : Int) + off = (tgt : Int)) (kt : ¬ b → zZ p l e R s m args below meth c g n Q κ μ ω k tgt lv st) (kf : b → zZ p l e R s m args below meth c g n Q κ μ ω k (pc + 3) lv st) : zZ p l e R s m args below meth c g n Q κ μ ω k pc lv (.int (if b then 1 else 0) :: st) := z_if_eq hX d ht (fun h => kt (fun hb => by rw [if_pos hb] at h; exact absurd h (by decide))) (fun h => kf (Classical.byContradiction (fun hb => h (if_neg hb))))
theorem z_if_neB (hX : zX p l s m args meth c R g own cc n ret lvl mc) {b : Prop} [Decidable b] {off : Int} {tgt : Nat} (d : decode cc pc = .ok (.ifCond .ne off, 3)) (ht : (pc : Int) + off = (tgt : Int)) (kt : b → zZ p l e R s m args below meth c g n Q κ μ ω k tgt lv st) (kf : ¬ b → zZ p l e R s m args below meth c g n Q κ μ ω k (pc + 3) lv st) : zZ p l e R s m args below meth c g n Q κ μ ω k pc lv (.int (if b then 1 else 0) :: st) := z_if_ne hX d ht (fun h => kt (Classical.byContradiction (fun hb => h (if_neg hb)))) (fun h => kf (fun hb => by rw [if_pos hb] at h; exact absurd h (by decide)))
theorem z_ifnull (hX : zX p l s m args meth c R g own cc n ret lvl mc) {x : Nat} {off : Int} (d : decode cc pc = .ok (.ifnull off, 3)) (kk : zZ p l e R s m args below meth c g n Q κ μ ω k (pc + 3) lv st) : zZ p l e R s m args below meth c g n Q κ μ ω k pc lv (.ref x :: st) := fun H ls locs hl hS hW => lv_ifnull hX.1 hX.2.1 d (kk H ls locs hl hS hW)
theorem z_ifnullN (hX : zX p l s m args meth c R g own cc n ret lvl mc) {off : Int} {tgt : Nat} (d : decode cc pc = .ok (.ifnull off, 3)) (ht : (pc : Int) + off = (tgt : Int)) (kk : zZ p l e R s m args below meth c g n Q κ μ ω k tgt lv st) : zZ p l e R s m args below meth c g n Q κ μ ω k pc lv (.null :: st) := fun H ls locs hl hS hW => lv_ifnullN hX.1 hX.2.1 d ht (kk H ls locs hl hS hW)
theorem z_ifnonnull (hX : zX p l s m args meth c R g own cc n ret lvl mc) {x : Nat} {off : Int} {tgt : Nat} (d : decode cc pc = .ok (.ifnonnull off, 3)) (ht : (pc : Int) + off = (tgt : Int)) (kk : zZ p l e R s m args below meth c g n Q κ μ ω k tgt lv st) : zZ p l e R s m args below meth c g n Q κ μ ω k pc lv (.ref x :: st) := fun H ls locs hl hS hW => lv_ifnonnull hX.1 hX.2.1 d ht (kk H ls locs hl hS hW)
theorem z_ifnonnullN (hX : zX p l s m args meth c R g own cc n ret lvl mc) {off : Int} (d : decode cc pc = .ok (.ifnonnull off, 3)) (kk : zZ p l e R s m args below meth c g n Q κ μ ω k (pc + 3) lv st) : zZ p l e R s m args below meth c g n Q κ μ ω k pc lv (.null :: st) := fun H ls locs hl hS hW => lv_ifnonnullN hX.1 hX.2.1 d (kk H ls locs hl hS hW)
theorem z_get (hX : zX p l s m args meth c R g own cc n ret lvl mc) {t f i ci N index q : Nat} {C : String} {T : u_T} {fs : List Value} {v : Value} (hV : zV t f i) (he : zE g κ μ ω t f i = .inr (ci, fs)) (hc : vwCl[ci]? = some (C, T, N)) (hin : ∀ w ∈ u_ws C T N, w ∈ gW) (hq : q < N) (hT : (T q).1 = C) (hlink : Cond.fieldLink own index C (T q).2.1 (T q).2.2.1 ∈ gW) (hv : fs[q]? = some v) (d : decode cc pc = .ok (.getfield index, 3)) (kk : zZ p l e R s m args below meth c g n Q κ μ ω k (pc + 3) lv (v :: st)) : zZ p l e R s m args below meth c g n Q κ μ ω k pc lv (.ref (gA g t f i) :: st) := fun H ls locs hl hS hW => by
  obtain ⟨q0, -, h2⟩ := zpos g κ μ ω hV
  rw [he] at h2
  exact va_get (ref := C) hX.1 hX.2.1 hX.2.2.2.2.1 hin hX.2.2.2.1 hX.2.2.2.2.2.1 hW.1 q0 h2 hc q hq (hX.2.2.2.2.1 _ hlink) (fun x h => by rw [hT] at h; exact h) hv d (kk H ls locs hl hS hW)
theorem z_put (hX : zX p l s m args meth c R g own cc n ret lvl mc) {t f i ci N index q : Nat} {C : String} {T : u_T} {ty0 : Nat → FieldType} {ty : FieldType} {fs : List Value} {v : Value} (hV : zV t f i) (he : zE g κ μ ω t f i = .inr (ci, fs)) (hc : vwCl[ci]? = some (C, T, N)) (hin : ∀ w ∈ u_ws C T N, w ∈ gW) (hty : ∀ k, k < N → parseFieldDescriptor (T k).2.2.1 = some (ty0 k)) (hnm : ∀ a, a < N → ∀ b, b < N → a ≠ b → (T a).2.1 ≠ (T b).2.1) (hq : q < N) (hT : (T q).1 = C) (hfin : (T q).2.2.2 = false) (hlink : Cond.fieldLink own index C (T q).2.1 (T q).2.2.1 ∈ gW) (hd : parseFieldDescriptor (T q).2.2.1 = some ty) (hnv : narrow ty v = v) (hfv : fits ty v = true) (hlf : q < fs.length) (he' : zE g κ' μ' ω' t f i = .inr (ci, fs.set q v)) (hne : ∀ t' f' i', zV t' f' i' → ¬ (t' = t ∧ f' = f ∧ i' = i) → zE g κ' μ' ω' t' f' i' = zE g κ μ ω t' f' i') (d : decode cc pc = .ok (.putfield index, 3)) (kk : zZ p l e R s m args below meth c g n Q κ' μ' ω' k (pc + 3) lv st) : zZ p l e R s m args below meth c g n Q κ μ ω k pc lv (v :: .ref (gA g t f i) :: st) := fun H ls locs hl hS hW => by
  obtain ⟨q0, h1, h2⟩ := zpos g κ μ ω hV
  rw [he] at h2
  refine va_put (ref := C) (H0 := s.heap) hX.1 hX.2.1 hX.2.2.2.2.1 hin ty0 hty hnm hX.2.2.2.1 hX.2.2.2.2.2.1 hW.1 hW.2 hS q0 h2 hc q hq (hX.2.2.2.2.1 _ hlink) (fun x h => by rw [hT] at h; exact h) hfin hd hnv hfv hlf d (fun H1 locs1 hP hD hS1 => ?_)
  rw [zset h1 he' hne] at hP hD
  exact kk H1 ls locs1 hl hS1 ⟨hP, hD⟩
theorem z_iald (hX : zX p l s m args meth c R g own cc n ret lvl mc) {t f i t0 N : Nat} {cA : ClassId} {fn : Nat → Int32} {j : Int32} (hV : zV t f i) (he : zE g κ μ ω t f i = .inl (cA, N, .inl fn)) (ht : (gT g)[t0]? = some (cA, .int)) (hin : vp_in j N) (d : decode cc pc = .ok (.iaload, 1)) (kk : zZ p l e R s m args below meth c g n Q κ μ ω k (pc + 1) lv (.int (fn j.toNatClampNeg) :: st)) : zZ p l e R s m args below meth c g n Q κ μ ω k pc lv (.int j :: .ref (gA g t f i) :: st) := fun H ls locs hl hS hW => by
  obtain ⟨q0, -, h2⟩ := zpos g κ μ ω hV
  rw [he] at h2
  exact va_iald hX.1 hX.2.1 hX.2.2.2.2.2.1 hW.1 q0 t0 h2 ht hin d (kk H ls locs hl hS hW)
theorem z_cald (hX : zX p l s m args meth c R g own cc n ret lvl mc) {t f i t0 N : Nat} {cA : ClassId} {fn : Nat → Int32} {j : Int32} (hV : zV t f i) (he : zE g κ μ ω t f i = .inl (cA, N, .inl fn)) (ht : (gT g)[t0]? = some (cA, .char)) (hin : vp_in j N) (d : decode cc pc = .ok (.caload, 1)) (kk : zZ p l e R s m args below meth c g n Q κ μ ω k (pc + 1) lv (.int (fn j.toNatClampNeg) :: st)) : zZ p l e R s m args below meth c g n Q κ μ ω k pc lv (.int j :: .ref (gA g t f i) :: st) := fun H ls locs hl hS hW => by
  obtain ⟨q0, -, h2⟩ := zpos g κ μ ω hV
  rw [he] at h2
  exact va_cald hX.1 hX.2.1 hX.2.2.2.2.2.1 hW.1 q0 t0 h2 ht hin d (kk H ls locs hl hS hW)
theorem z_iast (hX : zX p l s m args meth c R g own cc n ret lvl mc) {t f i t0 N : Nat} {cA : ClassId} {fn : Nat → Int32} {j x : Int32} (hV : zV t f i) (he : zE g κ μ ω t f i = .inl (cA, N, .inl fn)) (ht : (gT g)[t0]? = some (cA, .int)) (hin : vp_in j N) (he' : zE g κ' μ' ω' t f i = .inl (cA, N, .inl (upd fn j.toNatClampNeg x))) (hne : ∀ t' f' i', zV t' f' i' → ¬ (t' = t ∧ f' = f ∧ i' = i) → zE g κ' μ' ω' t' f' i' = zE g κ μ ω t' f' i') (d : decode cc pc = .ok (.iastore, 1)) (kk : zZ p l e R s m args below meth c g n Q κ' μ' ω' k (pc + 1) lv st) : zZ p l e R s m args below meth c g n Q κ μ ω k pc lv (.int x :: .int j :: .ref (gA g t f i) :: st) := fun H ls locs hl hS hW => by
  obtain ⟨q0, h1, h2⟩ := zpos g κ μ ω hV
  rw [he] at h2
  refine va_iast (H0 := s.heap) hX.1 hX.2.1 hX.2.2.2.2.2.1 hW.1 hW.2 hS q0 t0 h2 ht hin d (fun H1 locs1 hP hD hS1 => ?_)
  rw [zset h1 he' hne] at hP hD
  exact kk H1 ls locs1 hl hS1 ⟨hP, hD⟩
theorem z_cast (hX : zX p l s m args meth c R g own cc n ret lvl mc) {t f i t0 N : Nat} {cA : ClassId} {fn : Nat → Int32} {j x : Int32} (hV : zV t f i) (he : zE g κ μ ω t f i = .inl (cA, N, .inl fn)) (ht : (gT g)[t0]? = some (cA, .char)) (hin : vp_in j N) (he' : zE g κ' μ' ω' t f i = .inl (cA, N, .inl (upd fn j.toNatClampNeg (vp_nar .char x)))) (hne : ∀ t' f' i', zV t' f' i' → ¬ (t' = t ∧ f' = f ∧ i' = i) → zE g κ' μ' ω' t' f' i' = zE g κ μ ω t' f' i') (d : decode cc pc = .ok (.castore, 1)) (kk : zZ p l e R s m args below meth c g n Q κ' μ' ω' k (pc + 1) lv st) : zZ p l e R s m args below meth c g n Q κ μ ω k pc lv (.int x :: .int j :: .ref (gA g t f i) :: st) := fun H ls locs hl hS hW => by
  obtain ⟨q0, h1, h2⟩ := zpos g κ μ ω hV
  rw [he] at h2
  refine va_cast (H0 := s.heap) hX.1 hX.2.1 hX.2.2.2.2.2.1 hW.1 hW.2 hS q0 t0 h2 ht hin d (fun H1 locs1 hP hD hS1 => ?_)
  rw [zset h1 he' hne] at hP hD
  exact kk H1 ls locs1 hl hS1 ⟨hP, hD⟩
theorem z_alen (hX : zX p l s m args meth c R g own cc n ret lvl mc) {t f i t0 : Nat} {cA : ClassId} {x : vp_A} {ty : FieldType} {v : Int32} (hV : zV t f i) (he : zE g κ μ ω t f i = .inl (cA, x)) (ht : (gT g)[t0]? = some (cA, ty)) (hv : Int32.ofNat x.1 = v) (d : decode cc pc = .ok (.arraylength, 1)) (kk : zZ p l e R s m args below meth c g n Q κ μ ω k (pc + 1) lv (.int v :: st)) : zZ p l e R s m args below meth c g n Q κ μ ω k pc lv (.ref (gA g t f i) :: st) := fun H ls locs hl hS hW => by
  obtain ⟨q0, -, h2⟩ := zpos g κ μ ω hV
  rw [he] at h2
  exact va_alen hX.1 hX.2.1 hX.2.2.2.2.2.1 hW.1 q0 t0 h2 ht hv d (kk H ls locs hl hS hW)
theorem z_aald (hX : zX p l s m args meth c R g own cc n ret lvl mc) {t f i t0 N b : Nat} {cA : ClassId} {C : String} {fn : Nat → Option Nat} {j : Int32} (hV : zV t f i) (he : zE g κ μ ω t f i = .inl (cA, N, .inr (.inr (.inr (.inr fn))))) (ht : (gT g)[t0]? = some (cA, .object C)) (hin : vp_in j N) (hb : fn j.toNatClampNeg = some b) (d : decode cc pc = .ok (.aaload, 1)) (kk : zZ p l e R s m args below meth c g n Q κ μ ω k (pc + 1) lv (.ref b :: st)) : zZ p l e R s m args below meth c g n Q κ μ ω k pc lv (.int j :: .ref (gA g t f i) :: st) := fun H ls locs hl hS hW => by
  obtain ⟨q0, -, h2⟩ := zpos g κ μ ω hV
  rw [he] at h2
  refine va_aldq hX.1 hX.2.1 hX.2.2.2.2.2.1 hW.1 q0 t0 h2 ht hin d ?_
  rw [hb]
  exact kk H ls locs hl hS hW
/-- the receiver's class -/
def zRc (g : zG) (C : String) (b : Nat) : Prop := ∀ (κ : zKp) (μ : zMu) (ω : zOm) (U : State) (H : Heap), gK g U → WW g κ μ ω H → ∃ cell : Cell, H[b]? = some cell ∧ cell.vm.isStatics = false ∧ U.vm.findClass C = some cell.cls
theorem zRc_of {t f i ci N : Nat} {C : String} {T : u_T} (hV : zV t f i) (he : ∀ κ μ ω, ∃ fs, zE g κ μ ω t f i = .inr (ci, fs)) (hc : vwCl[ci]? = some (C, T, N)) : zRc g C (gA g t f i) := fun κ μ ω U H hK hW => by
  obtain ⟨q0, -, h2⟩ := zpos g κ μ ω hV
  obtain ⟨fs, hf⟩ := he κ μ ω
  rw [hf] at h2
  exact va_recv hK hW.1 hc h2
theorem zRc0 : zRc g RX4 (gA g 0 0 0) := zRc_of zV0 (fun _ _ _ => ⟨_, rfl⟩) rfl
theorem zRc2 : zRc g RX0 (gA g 2 0 0) := zRc_of zV2 (fun _ _ _ => ⟨_, rfl⟩) rfl
theorem zRc4 : zRc g RX2 (gA g 4 0 0) := zRc_of zV4 (fun _ _ _ => ⟨_, rfl⟩) rfl
theorem zRc6 {f : Nat} (hf : f < 11) : zRc g RX1 (gA g 6 f 0) := zRc_of (zV6 hf) (fun _ _ _ => ⟨_, rfl⟩) rfl
theorem zRc9 {f i : Nat} (hf : f < 11) (hi : i < 12) : zRc g RX3 (gA g 9 f i) := zRc_of (zV9 hf hi) (fun _ _ _ => ⟨_, rfl⟩) rfl
theorem zRc10 : zRc g RX5 (gA g 10 0 0) := zRc_of zV10 (fun _ _ _ => ⟨_, rfl⟩) rfl
/-- a call place: the words that it links -/
def zCV (own : String) (idx : Nat) (y : MethodName) (cY : ByteArray) (nY : Nat) (retY : Option FieldType) (nA : Nat) : Prop := GoodIn gW (wsV own idx y.cls y (.code y cY nY retY :: gW)) ∧ y.cls ≠ "java/lang/invoke/MethodHandle" ∧ y.cls ≠ "java/lang/invoke/VarHandle" ∧ (parseMethodDescriptor y.desc).map (fun d => d.parameters.length) = some nA
def zCS (own : String) (idx : Nat) (y : MethodName) (cY : ByteArray) (nY : Nat) (retY : Option FieldType) (nA : Nat) : Prop := GoodIn gW (va_wsS own idx y (.code y cY nY retY :: gW)) ∧ y.cls ≠ "java/lang/invoke/MethodHandle" ∧ y.cls ≠ "java/lang/invoke/VarHandle" ∧ (parseMethodDescriptor y.desc).map (fun d => d.parameters.length) = some nA
def zCN (own : String) (idx : Nat) (y : MethodName) (host : String) (cY : ByteArray) (nY : Nat) (retY : Option FieldType) (nA : Nat) : Prop := GoodIn gW (.code y cY nY retY :: gW) ∧ Cond.methodLinkNest own idx y host ∈ gW ∧ Cond.static y ∈ gW ∧ Cond.initialized y.cls ∈ gW ∧ y.cls ≠ "java/lang/invoke/MethodHandle" ∧ y.cls ≠ "java/lang/invoke/VarHandle" ∧ (parseMethodDescriptor y.desc).map (fun d => d.parameters.length) = some nA
theorem zroom {a b nY : Nat} (h1 : a < b) (h2 : nY ≤ 81) : 8 + (nY + 11) + 100 * a ≤ 100 * b := by omega
/-- behind a call that returned: back in the caller -/
theorem z_back {mcY pc2 : Nat} {r : Option Value} {rest st0 : List Value} {a : Array Value} {κ' : zKp} {μ' : zMu} {ω' : zOm} {H : Heap} {ls : Array Slot} {locs : List Loc} (hl : lv_has ls n lv) (hS : va_S (zA g) s.heap H locs)
    (hr : va_Run p l e R s m args below meth c H locs k (6 * k) mcY (6 * mcY) (F0 m pc ls st0) rest (zPost g κ' μ' ω' r a) (zA g)) (kk : zZ p l e R s m args below meth c g n Q κ' μ' ω' (k + mcY) (pc + 3) lv (r.toList ++ rest)) : W p l e R s m args below meth c H locs k (6 * k) Q (F0 m pc ls st0) := by
  intro T hT X
  obtain ⟨v, st₀, t, T', L, h0, X', hL, e1, e2, ⟨hv, hw, hF⟩, stp⟩ := hr T hT X
  cases hv
  have hS' : va_S (zA g) s.heap T'.heap (locs ++ L) := by
    refine ⟨Nat.le_trans hS.1 (by rw [e1, ← h0]; exact hF.1), fun q h1 h2 => ?_, fun q hq => ?_⟩
    · rw [e1, hF.2 q (by rw [h0]; exact Nat.lt_of_lt_of_le h1 hS.1) h2, h0]
      exact hS.2.1 q h1 h2
    · rcases List.mem_append.mp hq with h | h
      · exact hS.2.2 q h
      · exact hL q h
  rw [← Nat.mul_add] at X'
  obtain ⟨t2, a1, b1⟩ := kk T'.heap ls (locs ++ L) hl hS' (by rw [e1]; exact hw) T' rfl X'
  exact ⟨t2, stp t2 a1, b1⟩
theorem z_callV (hX : zX p l s m args meth c R g own cc n ret lvl mc) {idx nY lvlY mcY b nA : Nat} {y : MethodName} {cY : ByteArray} {retY : Option FieldType} {As rest : List Value} {r : Option Value} (hM : zM l g y cY nY retY lvlY mcY (.ref b :: As) κ μ ω κ' μ' ω' r) (hC : zCV own idx y cY nY retY nA) (hrc : zRc g y.cls b) (d : decode cc pc = .ok (.invokevirtual idx, 3)) (hlv : lvlY < lvl ∧ nY ≤ 81 ∧ k + mcY ≤ mc) (hA : As.length = nA) (hst : st = As.reverse ++ .ref b :: rest) (hcat : (rest.map fun v => v.category).sum ≤ 8) (kk : zZ p l e R s m args below meth c g n Q κ' μ' ω' (k + mcY) (pc + 3) lv (r.toList ++ rest)) : zZ p l e R s m args below meth c g n Q κ μ ω k pc lv st := fun H ls locs hl hS hW => by
  obtain ⟨hx, hb, hml, hown, hts, hK, hB, hs, rfl, -⟩ := id hX
  obtain ⟨hG, h1, h2, h3⟩ := hC
  subst hst
  exact z_back hl hS (va_runV (nL := n) ⟨hx, hb, hml, hown, hts⟩ hM (cwV nA hts hG rfl rfl rfl ⟨rfl, h1, h2, h3⟩ ⟨hlv.1, zroom hlv.1 hlv.2.1⟩) ⟨zPre_blind, hrc κ μ ω s H hK hW, fun U hU hw => ⟨rfl, hX.pre hS hW hU hw⟩⟩ rfl hA hl.1 rfl (lv_room hcat) d ⟨hlv.2.2, by rw [← Nat.mul_add]; exact Nat.mul_le_mul_left 6 hlv.2.2⟩) kk
theorem z_callS (hX : zX p l s m args meth c R g own cc n ret lvl mc) {idx nY lvlY mcY nA : Nat} {y : MethodName} {cY : ByteArray} {retY : Option FieldType} {As rest : List Value} {r : Option Value} (hM : zM l g y cY nY retY lvlY mcY As κ μ ω κ' μ' ω' r) (hC : zCS own idx y cY nY retY nA) (d : decode cc pc = .ok (.invokestatic idx, 3)) (hlv : lvlY < lvl ∧ nY ≤ 81 ∧ k + mcY ≤ mc) (hA : As.length = nA) (hst : st = As.reverse ++ rest) (hcat : (rest.map fun v => v.category).sum ≤ 8) (kk : zZ p l e R s m args below meth c g n Q κ' μ' ω' (k + mcY) (pc + 3) lv (r.toList ++ rest)) : zZ p l e R s m args below meth c g n Q κ μ ω k pc lv st := fun H ls locs hl hS hW => by
  obtain ⟨hx, hb, hml, hown, hts, hK, hB, hs, rfl, -⟩ := id hX
  obtain ⟨hG, h1, h2, h3⟩ := hC
  subst hst
  exact z_back hl hS (va_runS (nL := n) ⟨hx, hb, hml, hown, hts⟩ hM (va_cwS nA hts hG rfl rfl rfl ⟨h1, h2, h3⟩ ⟨hlv.1, zroom hlv.1 hlv.2.1⟩) ⟨zPre_blind, fun U hU hw => ⟨rfl, hX.pre hS hW hU hw⟩⟩ rfl hA hl.1 rfl (lv_room hcat) d ⟨hlv.2.2, by rw [← Nat.mul_add]; exact Nat.mul_le_mul_left 6 hlv.2.2⟩) kk
/-- what a body owes at its end -/
abbrev zQ (g : zG) (κ' : zKp) (μ' : zMu) (ω' : zOm) (r : Option Value) (below : List Frame) (args : Array Value) (s : State) (mc : Nat) : State → Prop := MQ below (zPost g κ' μ' ω' r) args s mc (6 * mc) (zA g)
theorem z_iret {r : Option Value} {x : Int32} {ty : FieldType} (hX : zX p l s m args meth c R g own cc n (some ty) lvl mc) (d : decode cc pc = .ok (.ireturn, 1)) (hk : k ≤ mc) (hn : narrow ty (.int x) = .int x) (hr : r = some (.int x)) (hw : ∀ H, WW g κ μ ω H → WW g κ' μ' ω' H) : zZ p l e R s m args below meth c g n (zQ g κ' μ' ω' r below args s mc) κ μ ω k pc lv [.int x] := fun H ls locs hl hS hW => by
  subst hr
  obtain ⟨hx, hb, hml, hown, hts, hK, hB, hs, hR, hlk, hrt⟩ := hX
  exact W.widen hk (Nat.mul_le_mul_left 6 hk) (W.zret hx hb hrt hn (fun t ht hw2 => ⟨rfl, by rw [ht]; exact hw H hW, hS.F ht⟩) hS.2.2 d hlk)
theorem z_iretI {r : Option Value} {x : Int32} (hX : zX p l s m args meth c R g own cc n (some .int) lvl mc) (d : decode cc pc = .ok (.ireturn, 1)) (hk : k ≤ mc) (hr : r = some (.int x)) (hw : ∀ H, WW g κ μ ω H → WW g κ' μ' ω' H) : zZ p l e R s m args below meth c g n (zQ g κ' μ' ω' r below args s mc) κ μ ω k pc lv [.int x] := z_iret hX d hk rfl hr hw
theorem z_vret (hX : zX p l s m args meth c R g own cc n none lvl mc) (d : decode cc pc = .ok (.return_, 1)) (hk : k ≤ mc) (hw : ∀ H, WW g κ μ ω H → WW g κ' μ' ω' H) : zZ p l e R s m args below meth c g n (zQ g κ' μ' ω' none below args s mc) κ μ ω k pc lv [] := fun H ls locs hl hS hW => by
  obtain ⟨hx, hb, hml, hown, hts, hK, hB, hs, hR, hlk, hrt⟩ := hX
  exact W.widen hk (Nat.mul_le_mul_left 6 hk) (W.vret hx hb hrt (fun t ht hw2 => ⟨rfl, by rw [ht]; exact hw H hW, hS.F ht⟩) hS.2.2 d hlk)
theorem z_aret {r : Option Value} {v : Value} {nm : String} (hX : zX p l s m args meth c R g own cc n (some (.object nm)) lvl mc) (d : decode cc pc = .ok (.areturn, 1)) (hk : k ≤ mc) (hv : v = .null ∨ ∃ a, v = .ref a) (hr : r = some v) (hw : ∀ H, WW g κ μ ω H → WW g κ' μ' ω' H) : zZ p l e R s m args below meth c g n (zQ g κ' μ' ω' r below args s mc) κ μ ω k pc lv [v] := fun H ls locs hl hS hW => by
  subst hr
  obtain ⟨hx, hb, hml, hown, hts, hK, hB, hs, hR, hlk, hrt⟩ := hX
  exact W.widen hk (Nat.mul_le_mul_left 6 hk) (W.aret hx hb hrt (Or.inl ⟨_, rfl⟩) hv (fun t ht hw2 => ⟨rfl, by rw [ht]; exact hw H hW, hS.F ht⟩) hS.2.2 d hlk)
/-- a contract from its body -/
theorem zM_of {y : MethodName} {As : List Value} {r : Option Value} (hy : plainName y.cls = true) (hlen : (lg_sl As).length ≤ n) (body : ∀ (p : Program) (e : Env) (R : Room) (s : State) (m : MethodId) (args : Array Value) (below : List Frame) (meth : Method) (c : Code), zX p l s m args meth c R g y.cls cc n ret lvl mc → zZ p l e R s m args below meth c g n (zQ g κ' μ' ω' r below args s mc) κ μ ω 0 0 (lv_args 0 As) []) : zM l g y cc n ret lvl mc As κ μ ω κ' μ' ω' r := by
  refine Met.ofW (cc := cc) (maxL := n) (ret := ret) hy rfl ?_
  intro p e s m args below meth c s₁ B hml hv
  obtain ⟨rfl, hW, hK, hB, hs⟩ := hv
  have hts := atoms_spec (ws := .code y cc n ret :: gW) B.pre
  have hl := lv_entry As (n := n) hlen
  rw [lg_entry_eq]
  exact body p e (zR lvl mc) s m As.toArray below meth c ⟨B.exec, B.bytes, hml, findClass_of_methodNamed B.named, fun w hw => hts w (List.mem_cons_of_mem _ hw), hK, hB, hs, rfl, B.notSynchronized, B.returns⟩ s.heap _ [] hl va_S.rf hW
end ZR
end
