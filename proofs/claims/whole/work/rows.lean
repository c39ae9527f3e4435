section
-- ===== PART A: goes FIRST, ahead of the names: the tables' words, and 'selects' of the private methods out of them =====
/-- a private method of a class that the tables say can be made, by its rows of tables_1 -/
def lw_okq (q : MethodName × Nat) : Prop := (q.1.cls ≠ "java/lang/invoke/MethodHandle" ∧ q.1.cls ≠ "java/lang/invoke/VarHandle") ∧ Cond.instantiable q.1.cls q.2 ∈ tables_1 ∧ Cond.privateMethod q.1 ∈ tables_1 ∧ Cond.instanceMethod q.1 ∈ tables_1
theorem lw_p0 : lw_okq (⟨"TideIsland$Laws", "push", "(I)V"⟩, 6) := ⟨⟨by decide +kernel, by decide +kernel⟩, List.mem_of_getElem? (i := 29) (by decide +kernel), List.mem_of_getElem? (i := 308) (by decide +kernel), List.mem_of_getElem? (i := 309) (by decide +kernel)⟩
theorem lw_p1 : lw_okq (⟨"TideIsland$Laws", "pop", "()I"⟩, 6) := ⟨⟨by decide +kernel, by decide +kernel⟩, List.mem_of_getElem? (i := 29) (by decide +kernel), List.mem_of_getElem? (i := 312) (by decide +kernel), List.mem_of_getElem? (i := 313) (by decide +kernel)⟩
theorem lw_p2 : lw_okq (⟨"TideIsland$Island", "plainLevelAt", "(I)I"⟩, 13) := ⟨⟨by decide +kernel, by decide +kernel⟩, List.mem_of_getElem? (i := 59) (by decide +kernel), List.mem_of_getElem? (i := 343) (by decide +kernel), List.mem_of_getElem? (i := 344) (by decide +kernel)⟩
theorem lw_p3 : lw_okq (⟨"TideIsland", "isHouse", "(I)Z"⟩, 11) := ⟨⟨by decide +kernel, by decide +kernel⟩, List.mem_of_getElem? (i := 21) (by decide +kernel), List.mem_of_getElem? (i := 488) (by decide +kernel), List.mem_of_getElem? (i := 489) (by decide +kernel)⟩
theorem lw_p4 : lw_okq (⟨"TideIsland$Island", "growCorn", "(I)V"⟩, 13) := ⟨⟨by decide +kernel, by decide +kernel⟩, List.mem_of_getElem? (i := 59) (by decide +kernel), List.mem_of_getElem? (i := 538) (by decide +kernel), List.mem_of_getElem? (i := 539) (by decide +kernel)⟩
theorem lw_p5 : lw_okq (⟨"TideIsland$Island", "moveHouses", "(I)V"⟩, 13) := ⟨⟨by decide +kernel, by decide +kernel⟩, List.mem_of_getElem? (i := 59) (by decide +kernel), List.mem_of_getElem? (i := 548) (by decide +kernel), List.mem_of_getElem? (i := 549) (by decide +kernel)⟩
theorem lw_p6 : lw_okq (⟨"TideIsland$Island", "drawStorm", "()V"⟩, 13) := ⟨⟨by decide +kernel, by decide +kernel⟩, List.mem_of_getElem? (i := 59) (by decide +kernel), List.mem_of_getElem? (i := 560) (by decide +kernel), List.mem_of_getElem? (i := 561) (by decide +kernel)⟩
theorem lw_p7 : lw_okq (⟨"TideIsland$Reader", "begin", "()V"⟩, 12) := ⟨⟨by decide +kernel, by decide +kernel⟩, List.mem_of_getElem? (i := 136) (by decide +kernel), List.mem_of_getElem? (i := 584) (by decide +kernel), List.mem_of_getElem? (i := 585) (by decide +kernel)⟩
theorem lw_p8 : lw_okq (⟨"TideIsland$Reader", "goOn", "()V"⟩, 12) := ⟨⟨by decide +kernel, by decide +kernel⟩, List.mem_of_getElem? (i := 136) (by decide +kernel), List.mem_of_getElem? (i := 588) (by decide +kernel), List.mem_of_getElem? (i := 589) (by decide +kernel)⟩
theorem lw_p9 : lw_okq (⟨"TideIsland$Reader", "keyHere", "()I"⟩, 12) := ⟨⟨by decide +kernel, by decide +kernel⟩, List.mem_of_getElem? (i := 136) (by decide +kernel), List.mem_of_getElem? (i := 596) (by decide +kernel), List.mem_of_getElem? (i := 597) (by decide +kernel)⟩
theorem lw_p10 : lw_okq (⟨"TideIsland$Reader", "spells", "(Ljava/lang/String;)Z"⟩, 12) := ⟨⟨by decide +kernel, by decide +kernel⟩, List.mem_of_getElem? (i := 136) (by decide +kernel), List.mem_of_getElem? (i := 601) (by decide +kernel), List.mem_of_getElem? (i := 602) (by decide +kernel)⟩
theorem lw_p11 : lw_okq (⟨"TideIsland$Reader", "takePiece", "()Z"⟩, 12) := ⟨⟨by decide +kernel, by decide +kernel⟩, List.mem_of_getElem? (i := 136) (by decide +kernel), List.mem_of_getElem? (i := 660) (by decide +kernel), List.mem_of_getElem? (i := 661) (by decide +kernel)⟩
theorem lw_p12 : lw_okq (⟨"TideIsland$Reader", "push", "(I)V"⟩, 12) := ⟨⟨by decide +kernel, by decide +kernel⟩, List.mem_of_getElem? (i := 136) (by decide +kernel), List.mem_of_getElem? (i := 664) (by decide +kernel), List.mem_of_getElem? (i := 665) (by decide +kernel)⟩
theorem lw_p13 : lw_okq (⟨"TideIsland$Reader", "operandHere", "()I"⟩, 12) := ⟨⟨by decide +kernel, by decide +kernel⟩, List.mem_of_getElem? (i := 136) (by decide +kernel), List.mem_of_getElem? (i := 668) (by decide +kernel), List.mem_of_getElem? (i := 669) (by decide +kernel)⟩
theorem lw_p14 : lw_okq (⟨"TideIsland$Reader", "followsWord", "()Z"⟩, 12) := ⟨⟨by decide +kernel, by decide +kernel⟩, List.mem_of_getElem? (i := 136) (by decide +kernel), List.mem_of_getElem? (i := 672) (by decide +kernel), List.mem_of_getElem? (i := 673) (by decide +kernel)⟩
theorem lw_p15 : lw_okq (⟨"TideIsland$Reader", "numberHere", "()I"⟩, 12) := ⟨⟨by decide +kernel, by decide +kernel⟩, List.mem_of_getElem? (i := 136) (by decide +kernel), List.mem_of_getElem? (i := 676) (by decide +kernel), List.mem_of_getElem? (i := 677) (by decide +kernel)⟩
def lw_privs_1 : List (MethodName × Nat) := [(⟨"TideIsland$Laws", "push", "(I)V"⟩, 6), (⟨"TideIsland$Laws", "pop", "()I"⟩, 6), (⟨"TideIsland$Island", "plainLevelAt", "(I)I"⟩, 13), (⟨"TideIsland", "isHouse", "(I)Z"⟩, 11), (⟨"TideIsland$Island", "growCorn", "(I)V"⟩, 13), (⟨"TideIsland$Island", "moveHouses", "(I)V"⟩, 13), (⟨"TideIsland$Island", "drawStorm", "()V"⟩, 13), (⟨"TideIsland$Reader", "begin", "()V"⟩, 12), (⟨"TideIsland$Reader", "goOn", "()V"⟩, 12), (⟨"TideIsland$Reader", "keyHere", "()I"⟩, 12), (⟨"TideIsland$Reader", "spells", "(Ljava/lang/String;)Z"⟩, 12), (⟨"TideIsland$Reader", "takePiece", "()Z"⟩, 12), (⟨"TideIsland$Reader", "push", "(I)V"⟩, 12), (⟨"TideIsland$Reader", "operandHere", "()I"⟩, 12), (⟨"TideIsland$Reader", "followsWord", "()Z"⟩, 12), (⟨"TideIsland$Reader", "numberHere", "()I"⟩, 12)]
theorem lw_r1 : ∀ q ∈ lw_privs_1, lw_okq q := List.forall_mem_cons.mpr ⟨lw_p0, List.forall_mem_cons.mpr ⟨lw_p1, List.forall_mem_cons.mpr ⟨lw_p2, List.forall_mem_cons.mpr ⟨lw_p3, List.forall_mem_cons.mpr ⟨lw_p4, List.forall_mem_cons.mpr ⟨lw_p5, List.forall_mem_cons.mpr ⟨lw_p6, List.forall_mem_cons.mpr ⟨lw_p7, List.forall_mem_cons.mpr ⟨lw_p8, List.forall_mem_cons.mpr ⟨lw_p9, List.forall_mem_cons.mpr ⟨lw_p10, List.forall_mem_cons.mpr ⟨lw_p11, List.forall_mem_cons.mpr ⟨lw_p12, List.forall_mem_cons.mpr ⟨lw_p13, List.forall_mem_cons.mpr ⟨lw_p14, List.forall_mem_cons.mpr ⟨lw_p15, fun _ h => absurd h List.not_mem_nil⟩⟩⟩⟩⟩⟩⟩⟩⟩⟩⟩⟩⟩⟩⟩⟩
theorem lw_p16 : lw_okq (⟨"TideIsland$Reader", "nameHere", "()I"⟩, 12) := ⟨⟨by decide +kernel, by decide +kernel⟩, List.mem_of_getElem? (i := 136) (by decide +kernel), List.mem_of_getElem? (i := 680) (by decide +kernel), List.mem_of_getElem? (i := 681) (by decide +kernel)⟩
theorem lw_p17 : lw_okq (⟨"TideIsland$Reader", "namesOfKey", "()Ljava/lang/String;"⟩, 12) := ⟨⟨by decide +kernel, by decide +kernel⟩, List.mem_of_getElem? (i := 136) (by decide +kernel), List.mem_of_getElem? (i := 684) (by decide +kernel), List.mem_of_getElem? (i := 685) (by decide +kernel)⟩
theorem lw_p18 : lw_okq (⟨"TideIsland$Reader", "put", "(I)V"⟩, 12) := ⟨⟨by decide +kernel, by decide +kernel⟩, List.mem_of_getElem? (i := 136) (by decide +kernel), List.mem_of_getElem? (i := 746) (by decide +kernel), List.mem_of_getElem? (i := 747) (by decide +kernel)⟩
theorem lw_p19 : lw_okq (⟨"TideIsland$Reader", "endPiece", "()V"⟩, 12) := ⟨⟨by decide +kernel, by decide +kernel⟩, List.mem_of_getElem? (i := 136) (by decide +kernel), List.mem_of_getElem? (i := 750) (by decide +kernel), List.mem_of_getElem? (i := 751) (by decide +kernel)⟩
theorem lw_p20 : lw_okq (⟨"TideIsland$Reader", "topSign", "()I"⟩, 12) := ⟨⟨by decide +kernel, by decide +kernel⟩, List.mem_of_getElem? (i := 136) (by decide +kernel), List.mem_of_getElem? (i := 754) (by decide +kernel), List.mem_of_getElem? (i := 755) (by decide +kernel)⟩
theorem lw_p21 : lw_okq (⟨"TideIsland$Reader", "takeSign", "()Z"⟩, 12) := ⟨⟨by decide +kernel, by decide +kernel⟩, List.mem_of_getElem? (i := 136) (by decide +kernel), List.mem_of_getElem? (i := 758) (by decide +kernel), List.mem_of_getElem? (i := 759) (by decide +kernel)⟩
theorem lw_p22 : lw_okq (⟨"TideIsland$Reader", "closeBracket", "()Z"⟩, 12) := ⟨⟨by decide +kernel, by decide +kernel⟩, List.mem_of_getElem? (i := 136) (by decide +kernel), List.mem_of_getElem? (i := 762) (by decide +kernel), List.mem_of_getElem? (i := 763) (by decide +kernel)⟩
theorem lw_p23 : lw_okq (⟨"TideIsland$Reader", "putPending", "(I)V"⟩, 12) := ⟨⟨by decide +kernel, by decide +kernel⟩, List.mem_of_getElem? (i := 136) (by decide +kernel), List.mem_of_getElem? (i := 766) (by decide +kernel), List.mem_of_getElem? (i := 767) (by decide +kernel)⟩
theorem lw_p24 : lw_okq (⟨"TideIsland", "firstWrong", "(II)I"⟩, 11) := ⟨⟨by decide +kernel, by decide +kernel⟩, List.mem_of_getElem? (i := 21) (by decide +kernel), List.mem_of_getElem? (i := 884) (by decide +kernel), List.mem_of_getElem? (i := 885) (by decide +kernel)⟩
theorem lw_p25 : lw_okq (⟨"TideIslandModel", "sets", "(III)V"⟩, 31) := ⟨⟨by decide +kernel, by decide +kernel⟩, List.mem_of_getElem? (i := 905) (by decide +kernel), List.mem_of_getElem? (i := 1018) (by decide +kernel), List.mem_of_getElem? (i := 1019) (by decide +kernel)⟩
theorem lw_p26 : lw_okq (⟨"TideIslandModel", "becomes", "(II)I"⟩, 31) := ⟨⟨by decide +kernel, by decide +kernel⟩, List.mem_of_getElem? (i := 905) (by decide +kernel), List.mem_of_getElem? (i := 1022) (by decide +kernel), List.mem_of_getElem? (i := 1023) (by decide +kernel)⟩
theorem lw_p27 : lw_okq (⟨"TideIslandModel", "of", "(II)I"⟩, 31) := ⟨⟨by decide +kernel, by decide +kernel⟩, List.mem_of_getElem? (i := 905) (by decide +kernel), List.mem_of_getElem? (i := 1030) (by decide +kernel), List.mem_of_getElem? (i := 1031) (by decide +kernel)⟩
theorem lw_p28 : lw_okq (⟨"TideIslandModel", "top", "(I)I"⟩, 31) := ⟨⟨by decide +kernel, by decide +kernel⟩, List.mem_of_getElem? (i := 905) (by decide +kernel), List.mem_of_getElem? (i := 1034) (by decide +kernel), List.mem_of_getElem? (i := 1035) (by decide +kernel)⟩
theorem lw_p29 : lw_okq (⟨"TideIslandModel", "room", "(I)I"⟩, 31) := ⟨⟨by decide +kernel, by decide +kernel⟩, List.mem_of_getElem? (i := 905) (by decide +kernel), List.mem_of_getElem? (i := 1038) (by decide +kernel), List.mem_of_getElem? (i := 1039) (by decide +kernel)⟩
theorem lw_p30 : lw_okq (⟨"TideIslandModel", "counts", "(I)I"⟩, 31) := ⟨⟨by decide +kernel, by decide +kernel⟩, List.mem_of_getElem? (i := 905) (by decide +kernel), List.mem_of_getElem? (i := 1042) (by decide +kernel), List.mem_of_getElem? (i := 1043) (by decide +kernel)⟩
theorem lw_p31 : lw_okq (⟨"TideIslandModel", "textAt", "(I)I"⟩, 31) := ⟨⟨by decide +kernel, by decide +kernel⟩, List.mem_of_getElem? (i := 905) (by decide +kernel), List.mem_of_getElem? (i := 1046) (by decide +kernel), List.mem_of_getElem? (i := 1047) (by decide +kernel)⟩
def lw_privs_2 : List (MethodName × Nat) := [(⟨"TideIsland$Reader", "nameHere", "()I"⟩, 12), (⟨"TideIsland$Reader", "namesOfKey", "()Ljava/lang/String;"⟩, 12), (⟨"TideIsland$Reader", "put", "(I)V"⟩, 12), (⟨"TideIsland$Reader", "endPiece", "()V"⟩, 12), (⟨"TideIsland$Reader", "topSign", "()I"⟩, 12), (⟨"TideIsland$Reader", "takeSign", "()Z"⟩, 12), (⟨"TideIsland$Reader", "closeBracket", "()Z"⟩, 12), (⟨"TideIsland$Reader", "putPending", "(I)V"⟩, 12), (⟨"TideIsland", "firstWrong", "(II)I"⟩, 11), (⟨"TideIslandModel", "sets", "(III)V"⟩, 31), (⟨"TideIslandModel", "becomes", "(II)I"⟩, 31), (⟨"TideIslandModel", "of", "(II)I"⟩, 31), (⟨"TideIslandModel", "top", "(I)I"⟩, 31), (⟨"TideIslandModel", "room", "(I)I"⟩, 31), (⟨"TideIslandModel", "counts", "(I)I"⟩, 31), (⟨"TideIslandModel", "textAt", "(I)I"⟩, 31)]
theorem lw_r2 : ∀ q ∈ lw_privs_2, lw_okq q := List.forall_mem_cons.mpr ⟨lw_p16, List.forall_mem_cons.mpr ⟨lw_p17, List.forall_mem_cons.mpr ⟨lw_p18, List.forall_mem_cons.mpr ⟨lw_p19, List.forall_mem_cons.mpr ⟨lw_p20, List.forall_mem_cons.mpr ⟨lw_p21, List.forall_mem_cons.mpr ⟨lw_p22, List.forall_mem_cons.mpr ⟨lw_p23, List.forall_mem_cons.mpr ⟨lw_p24, List.forall_mem_cons.mpr ⟨lw_p25, List.forall_mem_cons.mpr ⟨lw_p26, List.forall_mem_cons.mpr ⟨lw_p27, List.forall_mem_cons.mpr ⟨lw_p28, List.forall_mem_cons.mpr ⟨lw_p29, List.forall_mem_cons.mpr ⟨lw_p30, List.forall_mem_cons.mpr ⟨lw_p31, fun _ h => absurd h List.not_mem_nil⟩⟩⟩⟩⟩⟩⟩⟩⟩⟩⟩⟩⟩⟩⟩⟩
theorem lw_p32 : lw_okq (⟨"TideIslandModel", "worked", "(I)I"⟩, 31) := ⟨⟨by decide +kernel, by decide +kernel⟩, List.mem_of_getElem? (i := 905) (by decide +kernel), List.mem_of_getElem? (i := 1050) (by decide +kernel), List.mem_of_getElem? (i := 1051) (by decide +kernel)⟩
theorem lw_p33 : lw_okq (⟨"TideIslandModel", "worth", "(I)I"⟩, 31) := ⟨⟨by decide +kernel, by decide +kernel⟩, List.mem_of_getElem? (i := 905) (by decide +kernel), List.mem_of_getElem? (i := 1060) (by decide +kernel), List.mem_of_getElem? (i := 1061) (by decide +kernel)⟩
theorem lw_p34 : lw_okq (⟨"TideIslandModel", "level", "(I)I"⟩, 31) := ⟨⟨by decide +kernel, by decide +kernel⟩, List.mem_of_getElem? (i := 905) (by decide +kernel), List.mem_of_getElem? (i := 1068) (by decide +kernel), List.mem_of_getElem? (i := 1069) (by decide +kernel)⟩
theorem lw_p35 : lw_okq (⟨"TideIslandModel", "drawn", "()I"⟩, 31) := ⟨⟨by decide +kernel, by decide +kernel⟩, List.mem_of_getElem? (i := 905) (by decide +kernel), List.mem_of_getElem? (i := 1101) (by decide +kernel), List.mem_of_getElem? (i := 1102) (by decide +kernel)⟩
theorem lw_p36 : lw_okq (⟨"TideIslandModel", "dry", "(I)I"⟩, 31) := ⟨⟨by decide +kernel, by decide +kernel⟩, List.mem_of_getElem? (i := 905) (by decide +kernel), List.mem_of_getElem? (i := 1106) (by decide +kernel), List.mem_of_getElem? (i := 1107) (by decide +kernel)⟩
theorem lw_p37 : lw_okq (⟨"TideIslandModel", "isDry", "(II)Z"⟩, 31) := ⟨⟨by decide +kernel, by decide +kernel⟩, List.mem_of_getElem? (i := 905) (by decide +kernel), List.mem_of_getElem? (i := 1146) (by decide +kernel), List.mem_of_getElem? (i := 1147) (by decide +kernel)⟩
theorem lw_p38 : lw_okq (⟨"TideIslandModel", "ownsAt", "(II)I"⟩, 31) := ⟨⟨by decide +kernel, by decide +kernel⟩, List.mem_of_getElem? (i := 905) (by decide +kernel), List.mem_of_getElem? (i := 1159) (by decide +kernel), List.mem_of_getElem? (i := 1160) (by decide +kernel)⟩
theorem lw_p39 : lw_okq (⟨"TideIslandModel", "isHouse", "(I)Z"⟩, 31) := ⟨⟨by decide +kernel, by decide +kernel⟩, List.mem_of_getElem? (i := 905) (by decide +kernel), List.mem_of_getElem? (i := 1176) (by decide +kernel), List.mem_of_getElem? (i := 1177) (by decide +kernel)⟩
theorem lw_p40 : lw_okq (⟨"TideIslandModel", "many", "(I)I"⟩, 31) := ⟨⟨by decide +kernel, by decide +kernel⟩, List.mem_of_getElem? (i := 905) (by decide +kernel), List.mem_of_getElem? (i := 1180) (by decide +kernel), List.mem_of_getElem? (i := 1181) (by decide +kernel)⟩
theorem lw_p41 : lw_okq (⟨"TideIslandModel", "where", "(I)I"⟩, 31) := ⟨⟨by decide +kernel, by decide +kernel⟩, List.mem_of_getElem? (i := 905) (by decide +kernel), List.mem_of_getElem? (i := 1184) (by decide +kernel), List.mem_of_getElem? (i := 1185) (by decide +kernel)⟩
theorem lw_p42 : lw_okq (⟨"TideIslandModel", "peak", "()I"⟩, 31) := ⟨⟨by decide +kernel, by decide +kernel⟩, List.mem_of_getElem? (i := 905) (by decide +kernel), List.mem_of_getElem? (i := 1196) (by decide +kernel), List.mem_of_getElem? (i := 1197) (by decide +kernel)⟩
theorem lw_p43 : lw_okq (⟨"TideIslandModel", "goesOn", "()V"⟩, 31) := ⟨⟨by decide +kernel, by decide +kernel⟩, List.mem_of_getElem? (i := 905) (by decide +kernel), List.mem_of_getElem? (i := 1213) (by decide +kernel), List.mem_of_getElem? (i := 1214) (by decide +kernel)⟩
theorem lw_p44 : lw_okq (⟨"TideIslandModel", "grows", "(I)I"⟩, 31) := ⟨⟨by decide +kernel, by decide +kernel⟩, List.mem_of_getElem? (i := 905) (by decide +kernel), List.mem_of_getElem? (i := 1217) (by decide +kernel), List.mem_of_getElem? (i := 1218) (by decide +kernel)⟩
theorem lw_p45 : lw_okq (⟨"TideIslandModel", "parse", "()I"⟩, 31) := ⟨⟨by decide +kernel, by decide +kernel⟩, List.mem_of_getElem? (i := 905) (by decide +kernel), List.mem_of_getElem? (i := 1233) (by decide +kernel), List.mem_of_getElem? (i := 1234) (by decide +kernel)⟩
theorem lw_p46 : lw_okq (⟨"TideIslandModel", "nextToken", "()V"⟩, 31) := ⟨⟨by decide +kernel, by decide +kernel⟩, List.mem_of_getElem? (i := 905) (by decide +kernel), List.mem_of_getElem? (i := 1237) (by decide +kernel), List.mem_of_getElem? (i := 1238) (by decide +kernel)⟩
theorem lw_p47 : lw_okq (⟨"TideIslandModel", "isLetter", "(I)Z"⟩, 31) := ⟨⟨by decide +kernel, by decide +kernel⟩, List.mem_of_getElem? (i := 905) (by decide +kernel), List.mem_of_getElem? (i := 1241) (by decide +kernel), List.mem_of_getElem? (i := 1242) (by decide +kernel)⟩
def lw_privs_3 : List (MethodName × Nat) := [(⟨"TideIslandModel", "worked", "(I)I"⟩, 31), (⟨"TideIslandModel", "worth", "(I)I"⟩, 31), (⟨"TideIslandModel", "level", "(I)I"⟩, 31), (⟨"TideIslandModel", "drawn", "()I"⟩, 31), (⟨"TideIslandModel", "dry", "(I)I"⟩, 31), (⟨"TideIslandModel", "isDry", "(II)Z"⟩, 31), (⟨"TideIslandModel", "ownsAt", "(II)I"⟩, 31), (⟨"TideIslandModel", "isHouse", "(I)Z"⟩, 31), (⟨"TideIslandModel", "many", "(I)I"⟩, 31), (⟨"TideIslandModel", "where", "(I)I"⟩, 31), (⟨"TideIslandModel", "peak", "()I"⟩, 31), (⟨"TideIslandModel", "goesOn", "()V"⟩, 31), (⟨"TideIslandModel", "grows", "(I)I"⟩, 31), (⟨"TideIslandModel", "parse", "()I"⟩, 31), (⟨"TideIslandModel", "nextToken", "()V"⟩, 31), (⟨"TideIslandModel", "isLetter", "(I)Z"⟩, 31)]
theorem lw_r3 : ∀ q ∈ lw_privs_3, lw_okq q := List.forall_mem_cons.mpr ⟨lw_p32, List.forall_mem_cons.mpr ⟨lw_p33, List.forall_mem_cons.mpr ⟨lw_p34, List.forall_mem_cons.mpr ⟨lw_p35, List.forall_mem_cons.mpr ⟨lw_p36, List.forall_mem_cons.mpr ⟨lw_p37, List.forall_mem_cons.mpr ⟨lw_p38, List.forall_mem_cons.mpr ⟨lw_p39, List.forall_mem_cons.mpr ⟨lw_p40, List.forall_mem_cons.mpr ⟨lw_p41, List.forall_mem_cons.mpr ⟨lw_p42, List.forall_mem_cons.mpr ⟨lw_p43, List.forall_mem_cons.mpr ⟨lw_p44, List.forall_mem_cons.mpr ⟨lw_p45, List.forall_mem_cons.mpr ⟨lw_p46, List.forall_mem_cons.mpr ⟨lw_p47, fun _ h => absurd h List.not_mem_nil⟩⟩⟩⟩⟩⟩⟩⟩⟩⟩⟩⟩⟩⟩⟩⟩
theorem lw_p48 : lw_okq (⟨"TideIslandModel", "isDigit", "(I)Z"⟩, 31) := ⟨⟨by decide +kernel, by decide +kernel⟩, List.mem_of_getElem? (i := 905) (by decide +kernel), List.mem_of_getElem? (i := 1247) (by decide +kernel), List.mem_of_getElem? (i := 1248) (by decide +kernel)⟩
theorem lw_p49 : lw_okq (⟨"TideIslandModel", "key", "()I"⟩, 31) := ⟨⟨by decide +kernel, by decide +kernel⟩, List.mem_of_getElem? (i := 905) (by decide +kernel), List.mem_of_getElem? (i := 1253) (by decide +kernel), List.mem_of_getElem? (i := 1254) (by decide +kernel)⟩
theorem lw_p50 : lw_okq (⟨"TideIslandModel", "isWordAt", "(IIII)Z"⟩, 31) := ⟨⟨by decide +kernel, by decide +kernel⟩, List.mem_of_getElem? (i := 905) (by decide +kernel), List.mem_of_getElem? (i := 1257) (by decide +kernel), List.mem_of_getElem? (i := 1258) (by decide +kernel)⟩
theorem lw_p51 : lw_okq (⟨"TideIslandModel", "either", "(I)Z"⟩, 31) := ⟨⟨by decide +kernel, by decide +kernel⟩, List.mem_of_getElem? (i := 905) (by decide +kernel), List.mem_of_getElem? (i := 1261) (by decide +kernel), List.mem_of_getElem? (i := 1262) (by decide +kernel)⟩
theorem lw_p52 : lw_okq (⟨"TideIslandModel", "both", "(I)Z"⟩, 31) := ⟨⟨by decide +kernel, by decide +kernel⟩, List.mem_of_getElem? (i := 905) (by decide +kernel), List.mem_of_getElem? (i := 1265) (by decide +kernel), List.mem_of_getElem? (i := 1266) (by decide +kernel)⟩
theorem lw_p53 : lw_okq (⟨"TideIslandModel", "test", "(I)Z"⟩, 31) := ⟨⟨by decide +kernel, by decide +kernel⟩, List.mem_of_getElem? (i := 905) (by decide +kernel), List.mem_of_getElem? (i := 1269) (by decide +kernel), List.mem_of_getElem? (i := 1270) (by decide +kernel)⟩
theorem lw_p54 : lw_okq (⟨"TideIslandModel", "sum", "(I)Z"⟩, 31) := ⟨⟨by decide +kernel, by decide +kernel⟩, List.mem_of_getElem? (i := 905) (by decide +kernel), List.mem_of_getElem? (i := 1273) (by decide +kernel), List.mem_of_getElem? (i := 1274) (by decide +kernel)⟩
theorem lw_p55 : lw_okq (⟨"TideIslandModel", "term", "(I)Z"⟩, 31) := ⟨⟨by decide +kernel, by decide +kernel⟩, List.mem_of_getElem? (i := 905) (by decide +kernel), List.mem_of_getElem? (i := 1277) (by decide +kernel), List.mem_of_getElem? (i := 1278) (by decide +kernel)⟩
theorem lw_p56 : lw_okq (⟨"TideIslandModel", "part0", "(I)Z"⟩, 31) := ⟨⟨by decide +kernel, by decide +kernel⟩, List.mem_of_getElem? (i := 905) (by decide +kernel), List.mem_of_getElem? (i := 1281) (by decide +kernel), List.mem_of_getElem? (i := 1282) (by decide +kernel)⟩
theorem lw_p57 : lw_okq (⟨"TideIslandModel", "step", "(II)V"⟩, 31) := ⟨⟨by decide +kernel, by decide +kernel⟩, List.mem_of_getElem? (i := 905) (by decide +kernel), List.mem_of_getElem? (i := 1285) (by decide +kernel), List.mem_of_getElem? (i := 1286) (by decide +kernel)⟩
theorem lw_p58 : lw_okq (⟨"TideIslandModel", "isSign", "(I)Z"⟩, 31) := ⟨⟨by decide +kernel, by decide +kernel⟩, List.mem_of_getElem? (i := 905) (by decide +kernel), List.mem_of_getElem? (i := 1292) (by decide +kernel), List.mem_of_getElem? (i := 1293) (by decide +kernel)⟩
theorem lw_p59 : lw_okq (⟨"TideIslandModel", "isText", "(I)Z"⟩, 31) := ⟨⟨by decide +kernel, by decide +kernel⟩, List.mem_of_getElem? (i := 905) (by decide +kernel), List.mem_of_getElem? (i := 1300) (by decide +kernel), List.mem_of_getElem? (i := 1301) (by decide +kernel)⟩
theorem lw_p60 : lw_okq (⟨"TideIslandModel", "setAside", "([I[I)V"⟩, 31) := ⟨⟨by decide +kernel, by decide +kernel⟩, List.mem_of_getElem? (i := 905) (by decide +kernel), List.mem_of_getElem? (i := 1367) (by decide +kernel), List.mem_of_getElem? (i := 1368) (by decide +kernel)⟩
theorem lw_p61 : lw_okq (⟨"TideIslandModel", "allCorn", "()I"⟩, 31) := ⟨⟨by decide +kernel, by decide +kernel⟩, List.mem_of_getElem? (i := 905) (by decide +kernel), List.mem_of_getElem? (i := 1371) (by decide +kernel), List.mem_of_getElem? (i := 1372) (by decide +kernel)⟩
def lw_privs_4 : List (MethodName × Nat) := [(⟨"TideIslandModel", "isDigit", "(I)Z"⟩, 31), (⟨"TideIslandModel", "key", "()I"⟩, 31), (⟨"TideIslandModel", "isWordAt", "(IIII)Z"⟩, 31), (⟨"TideIslandModel", "either", "(I)Z"⟩, 31), (⟨"TideIslandModel", "both", "(I)Z"⟩, 31), (⟨"TideIslandModel", "test", "(I)Z"⟩, 31), (⟨"TideIslandModel", "sum", "(I)Z"⟩, 31), (⟨"TideIslandModel", "term", "(I)Z"⟩, 31), (⟨"TideIslandModel", "part0", "(I)Z"⟩, 31), (⟨"TideIslandModel", "step", "(II)V"⟩, 31), (⟨"TideIslandModel", "isSign", "(I)Z"⟩, 31), (⟨"TideIslandModel", "isText", "(I)Z"⟩, 31), (⟨"TideIslandModel", "setAside", "([I[I)V"⟩, 31), (⟨"TideIslandModel", "allCorn", "()I"⟩, 31)]
theorem lw_r4 : ∀ q ∈ lw_privs_4, lw_okq q := List.forall_mem_cons.mpr ⟨lw_p48, List.forall_mem_cons.mpr ⟨lw_p49, List.forall_mem_cons.mpr ⟨lw_p50, List.forall_mem_cons.mpr ⟨lw_p51, List.forall_mem_cons.mpr ⟨lw_p52, List.forall_mem_cons.mpr ⟨lw_p53, List.forall_mem_cons.mpr ⟨lw_p54, List.forall_mem_cons.mpr ⟨lw_p55, List.forall_mem_cons.mpr ⟨lw_p56, List.forall_mem_cons.mpr ⟨lw_p57, List.forall_mem_cons.mpr ⟨lw_p58, List.forall_mem_cons.mpr ⟨lw_p59, List.forall_mem_cons.mpr ⟨lw_p60, List.forall_mem_cons.mpr ⟨lw_p61, fun _ h => absurd h List.not_mem_nil⟩⟩⟩⟩⟩⟩⟩⟩⟩⟩⟩⟩⟩⟩
def lw_privs : List (MethodName × Nat) := lw_privs_1 ++ (lw_privs_2 ++ (lw_privs_3 ++ (lw_privs_4)))
def lw_tbl : List Cond := k2_sels lw_privs ++ tables_1
theorem lw_privs_ok : ∀ q ∈ lw_privs, lw_okq q := by
  show ∀ q ∈ lw_privs_1 ++ (lw_privs_2 ++ (lw_privs_3 ++ (lw_privs_4))), lw_okq q
  exact List.forall_mem_append.mpr ⟨lw_r1, List.forall_mem_append.mpr ⟨lw_r2, List.forall_mem_append.mpr ⟨lw_r3, lw_r4⟩⟩⟩

/-! ===== BEGIN words of one list among another's, by their places ===== -/
theorem goodIn_r {big : List Cond} (ws : List Cond) (ps : List Nat) (hp : ws = ps.filterMap (fun i => big[i]?)) (h : ws.all goodWord = true) : GoodIn big ws := by
  intro w hw
  have h1 := List.all_eq_true.mp h w hw
  rw [hp] at hw
  obtain ⟨i, -, hi⟩ := List.mem_filterMap.mp hw
  have hm : w ∈ big := by first | exact List.mem_of_getElem? hi | exact List.getElem?_mem hi
  exact ⟨hm, good_of_word h1⟩
theorem goodIn_app {big a b : List Cond} (ha : GoodIn big a) (hb : GoodIn big b) : GoodIn big (a ++ b) := fun w h => (List.mem_append.mp h).elim (ha w) (hb w)
theorem goodIn_ca {big a b : List Cond} {c : Cond} (ha : GoodIn big (c :: a)) (hb : GoodIn big b) : GoodIn big (c :: (a ++ b)) := fun w h => (List.mem_cons.mp h).elim (fun e => ha w (List.mem_cons.mpr (Or.inl e))) (fun h => (List.mem_append.mp h).elim (fun h => ha w (List.mem_cons.mpr (Or.inr h))) (hb w))
theorem goodIn_sub {big ws : List Cond} (hm : ∀ w ∈ ws, w ∈ big) (h : ws.all goodWord = true) : GoodIn big ws := fun w hw => ⟨hm w hw, good_of_word (List.all_eq_true.mp h w hw)⟩
/-! ===== END ===== -/

/-! ===== BEGIN printed: names, fields, word lists, decode rows ===== -/
def RX0 : String := "TideIsland$Cells"
def TX0 : u_T := fun k => match k with
  | _ => ("", "", "", false)
def tyX0 : Nat → FieldType := fun k => match k with
  | _ => .int
abbrev wsX00 : List Cond := u_ws RX0 TX0 0
theorem nmX0 : ∀ a, a < 0 → ∀ b, b < 0 → a ≠ b → (TX0 a).2.1 ≠ (TX0 b).2.1 := by decide +kernel
theorem tyX0_ok : ∀ k, k < 0 → parseFieldDescriptor (TX0 k).2.2.1 = some (tyX0 k) := by decide +kernel
abbrev cX0_has : ByteArray := prog_2_method_2_code
def yX0_has : MethodName := ⟨RX0, "has", "(II)Z"⟩
abbrev cX0_spread : ByteArray := prog_2_method_3_code
def yX0_spread : MethodName := ⟨RX0, "spread", "(I)I"⟩
abbrev cX0_partAround : ByteArray := prog_2_method_4_code
def yX0_partAround : MethodName := ⟨RX0, "partAround", "(II)I"⟩
abbrev cX0_partsOf : ByteArray := prog_2_method_5_code
def yX0_partsOf : MethodName := ⟨RX0, "partsOf", "(I)I"⟩
abbrev cX0_beside : ByteArray := prog_2_method_6_code
def yX0_beside : MethodName := ⟨RX0, "beside", "(II)I"⟩
abbrev cX0_firstBeside : ByteArray := prog_2_method_7_code
def yX0_firstBeside : MethodName := ⟨RX0, "firstBeside", "(II)I"⟩
def RX1 : String := "TideIsland$Island"
def TX1 : u_T := fun k => match k with
  | 0 => ("TideIsland$Island", "kinds", "[I", true)
  | 1 => ("TideIsland$Island", "heights", "[I", true)
  | 2 => ("TideIsland$Island", "corn", "[I", true)
  | 3 => ("TideIsland$Island", "owners", "[I", true)
  | 4 => ("TideIsland$Island", "water", "[I", true)
  | 5 => ("TideIsland$Island", "many", "[I", true)
  | 6 => ("TideIsland$Island", "places", "[I", true)
  | 7 => ("TideIsland$Island", "houses", "I", false)
  | 8 => ("TideIsland$Island", "hour", "I", false)
  | 9 => ("TideIsland$Island", "lost", "I", false)
  | 10 => ("TideIsland$Island", "z", "I", false)
  | 11 => ("TideIsland$Island", "texts", "I", false)
  | _ => ("TideIsland$Island", "laws", "LTideIsland$Laws;", true)
def tyX1 : Nat → FieldType := fun k => match k with
  | 0 => .array .int
  | 1 => .array .int
  | 2 => .array .int
  | 3 => .array .int
  | 4 => .array .int
  | 5 => .array .int
  | 6 => .array .int
  | 7 => .int
  | 8 => .int
  | 9 => .int
  | 10 => .int
  | 11 => .int
  | _ => .object "TideIsland$Laws"
abbrev wsX10 : List Cond := u_ws RX1 TX1 13
theorem nmX1 : ∀ a, a < 13 → ∀ b, b < 13 → a ≠ b → (TX1 a).2.1 ≠ (TX1 b).2.1 := by decide +kernel
theorem tyX1_ok : ∀ k, k < 13 → parseFieldDescriptor (TX1 k).2.2.1 = some (tyX1 k) := by decide +kernel
abbrev cX1_init : ByteArray := prog_3_method_1_code
def yX1_init : MethodName := ⟨RX1, "<init>", "(LTideIsland$Laws;)V"⟩
abbrev cX1_becomeLike : ByteArray := prog_3_method_2_code
def yX1_becomeLike : MethodName := ⟨RX1, "becomeLike", "(LTideIsland$Island;)V"⟩
abbrev cX1_changeKind : ByteArray := prog_3_method_3_code
def yX1_changeKind : MethodName := ⟨RX1, "changeKind", "(II)I"⟩
abbrev cX1_draw : ByteArray := prog_3_method_4_code
def yX1_draw : MethodName := ⟨RX1, "draw", "()I"⟩
abbrev cX1_drawIsland : ByteArray := prog_3_method_5_code
def yX1_drawIsland : MethodName := ⟨RX1, "drawIsland", "()V"⟩
abbrev cX1_topOf : ByteArray := prog_3_method_6_code
def yX1_topOf : MethodName := ⟨RX1, "topOf", "(I)I"⟩
abbrev cX1_roomOf : ByteArray := prog_3_method_7_code
def yX1_roomOf : MethodName := ⟨RX1, "roomOf", "(I)I"⟩
abbrev cX1_growthOf : ByteArray := prog_3_method_8_code
def yX1_growthOf : MethodName := ⟨RX1, "growthOf", "(I)I"⟩
abbrev cX1_levelAt : ByteArray := prog_3_method_9_code
def yX1_levelAt : MethodName := ⟨RX1, "levelAt", "(I)I"⟩
abbrev cX1_plainLevelAt : ByteArray := prog_3_method_10_code
def yX1_plainLevelAt : MethodName := ⟨RX1, "plainLevelAt", "(I)I"⟩
abbrev cX1_dryCells : ByteArray := prog_3_method_11_code
def yX1_dryCells : MethodName := ⟨RX1, "dryCells", "(I)I"⟩
abbrev cX1_sizeAt : ByteArray := prog_3_method_12_code
def yX1_sizeAt : MethodName := ⟨RX1, "sizeAt", "(I)I"⟩
abbrev cX1_worstOf : ByteArray := prog_3_method_13_code
def yX1_worstOf : MethodName := ⟨RX1, "worstOf", "(I)I"⟩
abbrev cX1_dryHours : ByteArray := prog_3_method_14_code
def yX1_dryHours : MethodName := ⟨RX1, "dryHours", "(I)I"⟩
abbrev cX1_windowOf : ByteArray := prog_3_method_15_code
def yX1_windowOf : MethodName := ⟨RX1, "windowOf", "(II)I"⟩
abbrev cX1_ownedDry : ByteArray := prog_3_method_16_code
def yX1_ownedDry : MethodName := ⟨RX1, "ownedDry", "(II)I"⟩
abbrev cX1_ownedInDay : ByteArray := prog_3_method_17_code
def yX1_ownedInDay : MethodName := ⟨RX1, "ownedInDay", "(I)I"⟩
abbrev cX1_richestOwner : ByteArray := prog_3_method_18_code
def yX1_richestOwner : MethodName := ⟨RX1, "richestOwner", "()I"⟩
abbrev cX1_addHouse : ByteArray := prog_3_method_19_code
def yX1_addHouse : MethodName := ⟨RX1, "addHouse", "(I)I"⟩
abbrev cX1_peak : ByteArray := prog_3_method_20_code
def yX1_peak : MethodName := ⟨RX1, "peak", "()I"⟩
abbrev cX1_cutHouses : ByteArray := prog_3_method_21_code
def yX1_cutHouses : MethodName := ⟨RX1, "cutHouses", "(I)I"⟩
abbrev cX1_lackAt : ByteArray := prog_3_method_22_code
def yX1_lackAt : MethodName := ⟨RX1, "lackAt", "(I)I"⟩
abbrev cX1_hoursBetween : ByteArray := prog_3_method_23_code
def yX1_hoursBetween : MethodName := ⟨RX1, "hoursBetween", "(II)I"⟩
abbrev cX1_passHour : ByteArray := prog_3_method_24_code
def yX1_passHour : MethodName := ⟨RX1, "passHour", "()V"⟩
abbrev cX1_growCorn : ByteArray := prog_3_method_25_code
def yX1_growCorn : MethodName := ⟨RX1, "growCorn", "(I)V"⟩
abbrev cX1_moveHouses : ByteArray := prog_3_method_26_code
def yX1_moveHouses : MethodName := ⟨RX1, "moveHouses", "(I)V"⟩
abbrev cX1_drawStorm : ByteArray := prog_3_method_27_code
def yX1_drawStorm : MethodName := ⟨RX1, "drawStorm", "()V"⟩
abbrev cX1_allCorn : ByteArray := prog_3_method_28_code
def yX1_allCorn : MethodName := ⟨RX1, "allCorn", "()I"⟩
abbrev cX1_pourInto : ByteArray := prog_3_method_29_code
def yX1_pourInto : MethodName := ⟨RX1, "pourInto", "(ILTideIsland$Sheet;)I"⟩
abbrev cX1_firstNotLevel : ByteArray := prog_3_method_30_code
def yX1_firstNotLevel : MethodName := ⟨RX1, "firstNotLevel", "(LTideIsland$Sheet;)I"⟩
def RX2 : String := "TideIsland$Kinds"
def TX2 : u_T := fun k => match k with
  | _ => ("", "", "", false)
def tyX2 : Nat → FieldType := fun k => match k with
  | _ => .int
abbrev wsX20 : List Cond := u_ws RX2 TX2 0
theorem nmX2 : ∀ a, a < 0 → ∀ b, b < 0 → a ≠ b → (TX2 a).2.1 ≠ (TX2 b).2.1 := by decide +kernel
theorem tyX2_ok : ∀ k, k < 0 → parseFieldDescriptor (TX2 k).2.2.1 = some (tyX2 k) := by decide +kernel
abbrev cX2_above : ByteArray := prog_4_method_2_code
def yX2_above : MethodName := ⟨RX2, "above", "(I)I"⟩
abbrev cX2_isUnder : ByteArray := prog_4_method_3_code
def yX2_isUnder : MethodName := ⟨RX2, "isUnder", "(II)Z"⟩
abbrev cX2_topOf : ByteArray := prog_4_method_4_code
def yX2_topOf : MethodName := ⟨RX2, "topOf", "(III)I"⟩
abbrev cX2_roomOf : ByteArray := prog_4_method_5_code
def yX2_roomOf : MethodName := ⟨RX2, "roomOf", "(III)I"⟩
abbrev cX2_worthOf : ByteArray := prog_4_method_6_code
def yX2_worthOf : MethodName := ⟨RX2, "worthOf", "(II)I"⟩
def RX3 : String := "TideIsland$Laws"
def TX3 : u_T := fun k => match k with
  | 0 => ("TideIsland$Laws", "keys", "[I", true)
  | 1 => ("TideIsland$Laws", "operands", "[I", true)
  | 2 => ("TideIsland$Laws", "sizes", "[I", true)
  | 3 => ("TideIsland$Laws", "rows", "[[I", true)
  | 4 => ("TideIsland$Laws", "stack", "[I", true)
  | _ => ("TideIsland$Laws", "high", "I", false)
def tyX3 : Nat → FieldType := fun k => match k with
  | 0 => .array .int
  | 1 => .array .int
  | 2 => .array .int
  | 3 => .array (.array .int)
  | 4 => .array .int
  | _ => .int
abbrev wsX30 : List Cond := u_ws RX3 TX3 6
theorem nmX3 : ∀ a, a < 6 → ∀ b, b < 6 → a ≠ b → (TX3 a).2.1 ≠ (TX3 b).2.1 := by decide +kernel
theorem tyX3_ok : ∀ k, k < 6 → parseFieldDescriptor (TX3 k).2.2.1 = some (tyX3 k) := by decide +kernel
abbrev cX3_init : ByteArray := prog_5_method_1_code
def yX3_init : MethodName := ⟨RX3, "<init>", "()V"⟩
abbrev cX3_put : ByteArray := prog_5_method_2_code
def yX3_put : MethodName := ⟨RX3, "put", "(ILTideIsland$Reader;)V"⟩
abbrev cX3_lastOf : ByteArray := prog_5_method_3_code
def yX3_lastOf : MethodName := ⟨RX3, "lastOf", "(II)I"⟩
abbrev cX3_workOut : ByteArray := prog_5_method_4_code
def yX3_workOut : MethodName := ⟨RX3, "workOut", "(IIII)I"⟩
abbrev cX3_join : ByteArray := prog_5_method_5_code
def yX3_join : MethodName := ⟨RX3, "join", "(III)I"⟩
abbrev cX3_push : ByteArray := prog_5_method_6_code
def yX3_push : MethodName := ⟨RX3, "push", "(I)V"⟩
abbrev cX3_pop : ByteArray := prog_5_method_7_code
def yX3_pop : MethodName := ⟨RX3, "pop", "()I"⟩
def RX4 : String := "TideIsland$Reader"
def TX4 : u_T := fun k => match k with
  | 0 => ("TideIsland$Reader", "key", "I", false)
  | 1 => ("TideIsland$Reader", "operands", "I", false)
  | 2 => ("TideIsland$Reader", "row", "[I", true)
  | 3 => ("TideIsland$Reader", "size", "I", false)
  | 4 => ("TideIsland$Reader", "tape", "LTideIsland$Tape;", true)
  | 5 => ("TideIsland$Reader", "start", "I", false)
  | 6 => ("TideIsland$Reader", "end", "I", false)
  | 7 => ("TideIsland$Reader", "pending", "[I", true)
  | 8 => ("TideIsland$Reader", "pendings", "I", false)
  | 9 => ("TideIsland$Reader", "openBrackets", "I", false)
  | 10 => ("TideIsland$Reader", "openNots", "I", false)
  | _ => ("TideIsland$Reader", "pieceDue", "Z", false)
def tyX4 : Nat → FieldType := fun k => match k with
  | 0 => .int
  | 1 => .int
  | 2 => .array .int
  | 3 => .int
  | 4 => .object "TideIsland$Tape"
  | 5 => .int
  | 6 => .int
  | 7 => .array .int
  | 8 => .int
  | 9 => .int
  | 10 => .int
  | _ => .boolean
abbrev wsX40 : List Cond := u_ws RX4 TX4 12
theorem nmX4 : ∀ a, a < 12 → ∀ b, b < 12 → a ≠ b → (TX4 a).2.1 ≠ (TX4 b).2.1 := by decide +kernel
theorem tyX4_ok : ∀ k, k < 12 → parseFieldDescriptor (TX4 k).2.2.1 = some (tyX4 k) := by decide +kernel
abbrev cX4_init : ByteArray := prog_6_method_1_code
def yX4_init : MethodName := ⟨RX4, "<init>", "(LTideIsland$Tape;)V"⟩
abbrev cX4_findFault : ByteArray := prog_6_method_2_code
def yX4_findFault : MethodName := ⟨RX4, "findFault", "()I"⟩
abbrev cX4_begin : ByteArray := prog_6_method_3_code
def yX4_begin : MethodName := ⟨RX4, "begin", "()V"⟩
abbrev cX4_goOn : ByteArray := prog_6_method_4_code
def yX4_goOn : MethodName := ⟨RX4, "goOn", "()V"⟩
abbrev cX4_keyHere : ByteArray := prog_6_method_5_code
def yX4_keyHere : MethodName := ⟨RX4, "keyHere", "()I"⟩
abbrev cX4_spells : ByteArray := prog_6_method_6_code
def yX4_spells : MethodName := ⟨RX4, "spells", "(Ljava/lang/String;)Z"⟩
abbrev cX4_takePiece : ByteArray := prog_6_method_7_code
def yX4_takePiece : MethodName := ⟨RX4, "takePiece", "()Z"⟩
abbrev cX4_operandHere : ByteArray := prog_6_method_8_code
def yX4_operandHere : MethodName := ⟨RX4, "operandHere", "()I"⟩
abbrev cX4_followsWord : ByteArray := prog_6_method_9_code
def yX4_followsWord : MethodName := ⟨RX4, "followsWord", "()Z"⟩
abbrev cX4_numberHere : ByteArray := prog_6_method_10_code
def yX4_numberHere : MethodName := ⟨RX4, "numberHere", "()I"⟩
abbrev cX4_nameHere : ByteArray := prog_6_method_11_code
def yX4_nameHere : MethodName := ⟨RX4, "nameHere", "()I"⟩
abbrev cX4_namesOfKey : ByteArray := prog_6_method_12_code
def yX4_namesOfKey : MethodName := ⟨RX4, "namesOfKey", "()Ljava/lang/String;"⟩
abbrev cX4_endPiece : ByteArray := prog_6_method_13_code
def yX4_endPiece : MethodName := ⟨RX4, "endPiece", "()V"⟩
abbrev cX4_takeSign : ByteArray := prog_6_method_14_code
def yX4_takeSign : MethodName := ⟨RX4, "takeSign", "()Z"⟩
abbrev cX4_closeBracket : ByteArray := prog_6_method_15_code
def yX4_closeBracket : MethodName := ⟨RX4, "closeBracket", "()Z"⟩
abbrev cX4_putPending : ByteArray := prog_6_method_16_code
def yX4_putPending : MethodName := ⟨RX4, "putPending", "(I)V"⟩
abbrev cX4_rankOf : ByteArray := prog_6_method_17_code
def yX4_rankOf : MethodName := ⟨RX4, "rankOf", "(I)I"⟩
abbrev cX4_topSign : ByteArray := prog_6_method_18_code
def yX4_topSign : MethodName := ⟨RX4, "topSign", "()I"⟩
abbrev cX4_push : ByteArray := prog_6_method_19_code
def yX4_push : MethodName := ⟨RX4, "push", "(I)V"⟩
abbrev cX4_put : ByteArray := prog_6_method_20_code
def yX4_put : MethodName := ⟨RX4, "put", "(I)V"⟩
def RX5 : String := "TideIsland$Sheet"
def TX5 : u_T := fun k => match k with
  | 0 => ("TideIsland$Sheet", "sort", "I", false)
  | 1 => ("TideIsland$Sheet", "size", "I", false)
  | _ => ("TideIsland$Sheet", "values", "[I", true)
def tyX5 : Nat → FieldType := fun k => match k with
  | 0 => .int
  | 1 => .int
  | _ => .array .int
abbrev wsX50 : List Cond := u_ws RX5 TX5 3
theorem nmX5 : ∀ a, a < 3 → ∀ b, b < 3 → a ≠ b → (TX5 a).2.1 ≠ (TX5 b).2.1 := by decide +kernel
theorem tyX5_ok : ∀ k, k < 3 → parseFieldDescriptor (TX5 k).2.2.1 = some (tyX5 k) := by decide +kernel
abbrev cX5_init : ByteArray := prog_7_method_1_code
def yX5_init : MethodName := ⟨RX5, "<init>", "()V"⟩
abbrev cX5_become : ByteArray := prog_7_method_2_code
def yX5_become : MethodName := ⟨RX5, "become", "(II)V"⟩
abbrev cX5_becomeLike : ByteArray := prog_7_method_3_code
def yX5_becomeLike : MethodName := ⟨RX5, "becomeLike", "(LTideIsland$Sheet;)V"⟩
abbrev cX5_hasPlace : ByteArray := prog_7_method_4_code
def yX5_hasPlace : MethodName := ⟨RX5, "hasPlace", "(I)Z"⟩
abbrev cX5_hasPlaces : ByteArray := prog_7_method_5_code
def yX5_hasPlaces : MethodName := ⟨RX5, "hasPlaces", "(II)Z"⟩
def RX6 : String := "TideIsland$Slot"
def TX6 : u_T := fun k => match k with
  | 0 => ("TideIsland$Slot", "thing", "I", false)
  | 1 => ("TideIsland$Slot", "kind", "I", false)
  | 2 => ("TideIsland$Slot", "height", "I", false)
  | 3 => ("TideIsland$Slot", "number", "I", false)
  | _ => ("TideIsland$Slot", "row", "LTideIsland$Sheet;", true)
def tyX6 : Nat → FieldType := fun k => match k with
  | 0 => .int
  | 1 => .int
  | 2 => .int
  | 3 => .int
  | _ => .object "TideIsland$Sheet"
abbrev wsX60 : List Cond := u_ws RX6 TX6 5
theorem nmX6 : ∀ a, a < 5 → ∀ b, b < 5 → a ≠ b → (TX6 a).2.1 ≠ (TX6 b).2.1 := by decide +kernel
theorem tyX6_ok : ∀ k, k < 5 → parseFieldDescriptor (TX6 k).2.2.1 = some (tyX6 k) := by decide +kernel
abbrev cX6_init : ByteArray := prog_8_method_1_code
def yX6_init : MethodName := ⟨RX6, "<init>", "()V"⟩
abbrev cX6_findingFor : ByteArray := prog_8_method_2_code
def yX6_findingFor : MethodName := ⟨RX6, "findingFor", "(I)I"⟩
def RX7 : String := "TideIsland$Tape"
def TX7 : u_T := fun k => match k with
  | 0 => ("TideIsland$Tape", "length", "I", false)
  | _ => ("TideIsland$Tape", "bytes", "[I", true)
def tyX7 : Nat → FieldType := fun k => match k with
  | 0 => .int
  | _ => .array .int
abbrev wsX70 : List Cond := u_ws RX7 TX7 2
theorem nmX7 : ∀ a, a < 2 → ∀ b, b < 2 → a ≠ b → (TX7 a).2.1 ≠ (TX7 b).2.1 := by decide +kernel
theorem tyX7_ok : ∀ k, k < 2 → parseFieldDescriptor (TX7 k).2.2.1 = some (tyX7 k) := by decide +kernel
abbrev cX7_init : ByteArray := prog_9_method_1_code
def yX7_init : MethodName := ⟨RX7, "<init>", "()V"⟩
abbrev cX7_addNumber : ByteArray := prog_9_method_2_code
def yX7_addNumber : MethodName := ⟨RX7, "addNumber", "(I)V"⟩
abbrev cX7_byteAt : ByteArray := prog_9_method_3_code
def yX7_byteAt : MethodName := ⟨RX7, "byteAt", "(I)I"⟩
abbrev cX7_sortAt : ByteArray := prog_9_method_4_code
def yX7_sortAt : MethodName := ⟨RX7, "sortAt", "(I)I"⟩
def RX8 : String := "TideIsland"
def TX8 : u_T := fun k => match k with
  | 0 => ("TideIsland", "laws", "LTideIsland$Laws;", true)
  | 1 => ("TideIsland", "now", "LTideIsland$Island;", true)
  | 2 => ("TideIsland", "image", "LTideIsland$Island;", true)
  | 3 => ("TideIsland", "trial", "LTideIsland$Island;", true)
  | 4 => ("TideIsland", "tape", "LTideIsland$Tape;", true)
  | 5 => ("TideIsland", "reader", "LTideIsland$Reader;", true)
  | 6 => ("TideIsland", "sheets", "[LTideIsland$Sheet;", true)
  | 7 => ("TideIsland", "slots", "[LTideIsland$Slot;", true)
  | 8 => ("TideIsland", "waiting", "[I", true)
  | 9 => ("TideIsland", "waits", "I", false)
  | _ => ("TideIsland", "kept", "Z", false)
def tyX8 : Nat → FieldType := fun k => match k with
  | 0 => .object "TideIsland$Laws"
  | 1 => .object "TideIsland$Island"
  | 2 => .object "TideIsland$Island"
  | 3 => .object "TideIsland$Island"
  | 4 => .object "TideIsland$Tape"
  | 5 => .object "TideIsland$Reader"
  | 6 => .array (.object "TideIsland$Sheet")
  | 7 => .array (.object "TideIsland$Slot")
  | 8 => .array .int
  | 9 => .int
  | _ => .boolean
abbrev wsX80 : List Cond := u_ws RX8 TX8 11
theorem nmX8 : ∀ a, a < 11 → ∀ b, b < 11 → a ≠ b → (TX8 a).2.1 ≠ (TX8 b).2.1 := by decide +kernel
theorem tyX8_ok : ∀ k, k < 11 → parseFieldDescriptor (TX8 k).2.2.1 = some (tyX8 k) := by decide +kernel
abbrev cX8_init : ByteArray := prog_1_method_1_code
def yX8_init : MethodName := ⟨RX8, "<init>", "()V"⟩
abbrev cX8_land : ByteArray := prog_1_method_2_code
def yX8_land : MethodName := ⟨RX8, "land", "(III)I"⟩
abbrev cX8_told : ByteArray := prog_1_method_3_code
def yX8_told : MethodName := ⟨RX8, "told", "(II)I"⟩
abbrev cX8_as : ByteArray := prog_1_method_4_code
def yX8_as : MethodName := ⟨RX8, "as", "(II)I"⟩
abbrev cX8_turns : ByteArray := prog_1_method_5_code
def yX8_turns : MethodName := ⟨RX8, "turns", "(II)I"⟩
abbrev cX8_set : ByteArray := prog_1_method_6_code
def yX8_set : MethodName := ⟨RX8, "set", "(III)I"⟩
abbrev cX8_sea : ByteArray := prog_1_method_7_code
def yX8_sea : MethodName := ⟨RX8, "sea", "(II)I"⟩
abbrev cX8_deal : ByteArray := prog_1_method_8_code
def yX8_deal : MethodName := ⟨RX8, "deal", "()I"⟩
abbrev cX8_seed : ByteArray := prog_1_method_9_code
def yX8_seed : MethodName := ⟨RX8, "seed", "(I)I"⟩
abbrev cX8_sky : ByteArray := prog_1_method_10_code
def yX8_sky : MethodName := ⟨RX8, "sky", "(II)I"⟩
abbrev cX8_worst : ByteArray := prog_1_method_11_code
def yX8_worst : MethodName := ⟨RX8, "worst", "(II)I"⟩
abbrev cX8_dryFor : ByteArray := prog_1_method_12_code
def yX8_dryFor : MethodName := ⟨RX8, "dryFor", "(I)I"⟩
abbrev cX8_window : ByteArray := prog_1_method_13_code
def yX8_window : MethodName := ⟨RX8, "window", "(II)I"⟩
abbrev cX8_owns : ByteArray := prog_1_method_14_code
def yX8_owns : MethodName := ⟨RX8, "owns", "(II)I"⟩
abbrev cX8_richest : ByteArray := prog_1_method_15_code
def yX8_richest : MethodName := ⟨RX8, "richest", "(I)I"⟩
abbrev cX8_house : ByteArray := prog_1_method_16_code
def yX8_house : MethodName := ⟨RX8, "house", "(I)I"⟩
abbrev cX8_houseTold : ByteArray := prog_1_method_17_code
def yX8_houseTold : MethodName := ⟨RX8, "houseTold", "(II)I"⟩
abbrev cX8_settle : ByteArray := prog_1_method_18_code
def yX8_settle : MethodName := ⟨RX8, "settle", "(II)I"⟩
abbrev cX8_cut : ByteArray := prog_1_method_19_code
def yX8_cut : MethodName := ⟨RX8, "cut", "(I)I"⟩
abbrev cX8_lack : ByteArray := prog_1_method_20_code
def yX8_lack : MethodName := ⟨RX8, "lack", "(I)I"⟩
abbrev cX8_going : ByteArray := prog_1_method_21_code
def yX8_going : MethodName := ⟨RX8, "going", "(II)I"⟩
abbrev cX8_run : ByteArray := prog_1_method_22_code
def yX8_run : MethodName := ⟨RX8, "run", "(I)I"⟩
abbrev cX8_feed : ByteArray := prog_1_method_23_code
def yX8_feed : MethodName := ⟨RX8, "feed", "(III)I"⟩
abbrev cX8_trim : ByteArray := prog_1_method_24_code
def yX8_trim : MethodName := ⟨RX8, "trim", "(I)I"⟩
abbrev cX8_text : ByteArray := prog_1_method_25_code
def yX8_text : MethodName := ⟨RX8, "text", "()I"⟩
abbrev cX8_textTold : ByteArray := prog_1_method_26_code
def yX8_textTold : MethodName := ⟨RX8, "textTold", "(II)I"⟩
abbrev cX8_why : ByteArray := prog_1_method_27_code
def yX8_why : MethodName := ⟨RX8, "why", "(I)I"⟩
abbrev cX8_sheet : ByteArray := prog_1_method_28_code
def yX8_sheet : MethodName := ⟨RX8, "sheet", "(III)I"⟩
abbrev cX8_mark : ByteArray := prog_1_method_29_code
def yX8_mark : MethodName := ⟨RX8, "mark", "(III)I"⟩
abbrev cX8_pour : ByteArray := prog_1_method_30_code
def yX8_pour : MethodName := ⟨RX8, "pour", "(II)I"⟩
abbrev cX8_reads : ByteArray := prog_1_method_31_code
def yX8_reads : MethodName := ⟨RX8, "reads", "(I)I"⟩
abbrev cX8_copy : ByteArray := prog_1_method_32_code
def yX8_copy : MethodName := ⟨RX8, "copy", "(IIIII)I"⟩
abbrev cX8_lay : ByteArray := prog_1_method_33_code
def yX8_lay : MethodName := ⟨RX8, "lay", "(III)I"⟩
abbrev cX8_ask : ByteArray := prog_1_method_34_code
def yX8_ask : MethodName := ⟨RX8, "ask", "(II)I"⟩
abbrev cX8_item : ByteArray := prog_1_method_35_code
def yX8_item : MethodName := ⟨RX8, "item", "(II)I"⟩
abbrev cX8_rest : ByteArray := prog_1_method_36_code
def yX8_rest : MethodName := ⟨RX8, "rest", "(II)I"⟩
abbrev cX8_tell : ByteArray := prog_1_method_37_code
def yX8_tell : MethodName := ⟨RX8, "tell", "(I)I"⟩
abbrev cX8_check : ByteArray := prog_1_method_38_code
def yX8_check : MethodName := ⟨RX8, "check", "(I)I"⟩
abbrev cX8_keep : ByteArray := prog_1_method_39_code
def yX8_keep : MethodName := ⟨RX8, "keep", "()I"⟩
abbrev cX8_back : ByteArray := prog_1_method_40_code
def yX8_back : MethodName := ⟨RX8, "back", "()I"⟩
abbrev cX8_count : ByteArray := prog_1_method_41_code
def yX8_count : MethodName := ⟨RX8, "count", "(I)I"⟩
abbrev cX8_firstWrong : ByteArray := prog_1_method_42_code
def yX8_firstWrong : MethodName := ⟨RX8, "firstWrong", "(II)I"⟩
abbrev cX8_isHouse : ByteArray := prog_1_method_43_code
def yX8_isHouse : MethodName := ⟨RX8, "isHouse", "(I)Z"⟩
abbrev cX8_isCell : ByteArray := prog_1_method_44_code
def yX8_isCell : MethodName := ⟨RX8, "isCell", "(I)Z"⟩
abbrev cX8_isKind : ByteArray := prog_1_method_45_code
def yX8_isKind : MethodName := ⟨RX8, "isKind", "(I)Z"⟩
abbrev cX8_isOwner : ByteArray := prog_1_method_46_code
def yX8_isOwner : MethodName := ⟨RX8, "isOwner", "(I)Z"⟩
abbrev cX8_areHoursOn : ByteArray := prog_1_method_47_code
def yX8_areHoursOn : MethodName := ⟨RX8, "areHoursOn", "(I)Z"⟩
abbrev cX8_isSheet : ByteArray := prog_1_method_48_code
def yX8_isSheet : MethodName := ⟨RX8, "isSheet", "(I)Z"⟩
abbrev cX8_isSlot : ByteArray := prog_1_method_49_code
def yX8_isSlot : MethodName := ⟨RX8, "isSlot", "(I)Z"⟩
abbrev cX8_within : ByteArray := prog_1_method_50_code
def yX8_within : MethodName := ⟨RX8, "within", "(III)Z"⟩
abbrev cX8_hold : ByteArray := prog_1_method_51_code
def yX8_hold : MethodName := ⟨RX8, "hold", "(III)I"⟩
def RX9 : String := "TideIslandModel"
def TX9 : u_T := fun k => match k with
  | 0 => ("TideIslandModel", "s", "[I", true)
  | 1 => ("TideIslandModel", "image", "[I", true)
  | 2 => ("TideIslandModel", "aside", "[I", true)
  | 3 => ("TideIslandModel", "hasImage", "Z", false)
  | 4 => ("TideIslandModel", "tSort", "[I", true)
  | 5 => ("TideIslandModel", "tSize", "[I", true)
  | 6 => ("TideIslandModel", "tNumber", "[I", true)
  | 7 => ("TideIslandModel", "held", "[I", true)
  | 8 => ("TideIslandModel", "heldNumber", "[I", true)
  | 9 => ("TideIslandModel", "heldWorth", "[I", true)
  | 10 => ("TideIslandModel", "heldSize", "[I", true)
  | 11 => ("TideIslandModel", "heldRow", "[I", true)
  | 12 => ("TideIslandModel", "hasOf", "[I", true)
  | 13 => ("TideIslandModel", "tape", "[I", true)
  | 14 => ("TideIslandModel", "taped", "I", false)
  | 15 => ("TideIslandModel", "begin", "I", false)
  | 16 => ("TideIslandModel", "behind", "I", false)
  | 17 => ("TideIslandModel", "token", "I", false)
  | 18 => ("TideIslandModel", "number", "I", false)
  | 19 => ("TideIslandModel", "letter", "I", false)
  | 20 => ("TideIslandModel", "deep", "I", false)
  | 21 => ("TideIslandModel", "turned", "I", false)
  | 22 => ("TideIslandModel", "laid", "I", false)
  | 23 => ("TideIslandModel", "laidAt", "I", false)
  | 24 => ("TideIslandModel", "said", "I", false)
  | 25 => ("TideIslandModel", "named", "[I", true)
  | 26 => ("TideIslandModel", "pile", "[I", true)
  | 27 => ("TideIslandModel", "carried", "[I", true)
  | 28 => ("TideIslandModel", "waits", "[I", true)
  | 29 => ("TideIslandModel", "waiting", "I", false)
  | _ => ("TideIslandModel", "rowDue", "[I", true)
def tyX9 : Nat → FieldType := fun k => match k with
  | 0 => .array .int
  | 1 => .array .int
  | 2 => .array .int
  | 3 => .boolean
  | 4 => .array .int
  | 5 => .array .int
  | 6 => .array .int
  | 7 => .array .int
  | 8 => .array .int
  | 9 => .array .int
  | 10 => .array .int
  | 11 => .array .int
  | 12 => .array .int
  | 13 => .array .int
  | 14 => .int
  | 15 => .int
  | 16 => .int
  | 17 => .int
  | 18 => .int
  | 19 => .int
  | 20 => .int
  | 21 => .int
  | 22 => .int
  | 23 => .int
  | 24 => .int
  | 25 => .array .int
  | 26 => .array .int
  | 27 => .array .int
  | 28 => .array .int
  | 29 => .int
  | _ => .array .int
abbrev wsX90 : List Cond := u_ws RX9 TX9 31
theorem nmX9 : ∀ a, a < 31 → ∀ b, b < 31 → a ≠ b → (TX9 a).2.1 ≠ (TX9 b).2.1 := by decide +kernel
theorem tyX9_ok : ∀ k, k < 31 → parseFieldDescriptor (TX9 k).2.2.1 = some (tyX9 k) := by decide +kernel
abbrev cX9_init : ByteArray := prog_11_method_1_code
def yX9_init : MethodName := ⟨RX9, "<init>", "()V"⟩
abbrev cX9_isIn : ByteArray := prog_11_method_2_code
def yX9_isIn : MethodName := ⟨RX9, "isIn", "(JJJ)Z"⟩
abbrev cX9_orNone : ByteArray := prog_11_method_3_code
def yX9_orNone : MethodName := ⟨RX9, "orNone", "(I)I"⟩
abbrev cX9_within : ByteArray := prog_11_method_4_code
def yX9_within : MethodName := ⟨RX9, "within", "(II)I"⟩
abbrev cX9_becomes : ByteArray := prog_11_method_5_code
def yX9_becomes : MethodName := ⟨RX9, "becomes", "(II)I"⟩
abbrev cX9_textAt : ByteArray := prog_11_method_6_code
def yX9_textAt : MethodName := ⟨RX9, "textAt", "(I)I"⟩
abbrev cX9_of : ByteArray := prog_11_method_7_code
def yX9_of : MethodName := ⟨RX9, "of", "(II)I"⟩
abbrev cX9_sets : ByteArray := prog_11_method_8_code
def yX9_sets : MethodName := ⟨RX9, "sets", "(III)V"⟩
abbrev cX9_isCell : ByteArray := prog_11_method_9_code
def yX9_isCell : MethodName := ⟨RX9, "isCell", "(I)Z"⟩
abbrev cX9_isHouse : ByteArray := prog_11_method_10_code
def yX9_isHouse : MethodName := ⟨RX9, "isHouse", "(I)Z"⟩
abbrev cX9_isText : ByteArray := prog_11_method_11_code
def yX9_isText : MethodName := ⟨RX9, "isText", "(I)Z"⟩
abbrev cX9_drawn : ByteArray := prog_11_method_12_code
def yX9_drawn : MethodName := ⟨RX9, "drawn", "()I"⟩
abbrev cX9_ones : ByteArray := prog_11_method_13_code
def yX9_ones : MethodName := ⟨RX9, "ones", "(I)I"⟩
abbrev cX9_top : ByteArray := prog_11_method_14_code
def yX9_top : MethodName := ⟨RX9, "top", "(I)I"⟩
abbrev cX9_room : ByteArray := prog_11_method_15_code
def yX9_room : MethodName := ⟨RX9, "room", "(I)I"⟩
abbrev cX9_worth : ByteArray := prog_11_method_16_code
def yX9_worth : MethodName := ⟨RX9, "worth", "(I)I"⟩
abbrev cX9_level : ByteArray := prog_11_method_17_code
def yX9_level : MethodName := ⟨RX9, "level", "(I)I"⟩
abbrev cX9_dry : ByteArray := prog_11_method_18_code
def yX9_dry : MethodName := ⟨RX9, "dry", "(I)I"⟩
abbrev cX9_land : ByteArray := prog_11_method_19_code
def yX9_land : MethodName := ⟨RX9, "land", "(III)I"⟩
abbrev cX9_told : ByteArray := prog_11_method_20_code
def yX9_told : MethodName := ⟨RX9, "told", "(II)I"⟩
abbrev cX9_isOf : ByteArray := prog_11_method_21_code
def yX9_isOf : MethodName := ⟨RX9, "isOf", "(II)Z"⟩
abbrev cX9_as : ByteArray := prog_11_method_22_code
def yX9_as : MethodName := ⟨RX9, "as", "(II)I"⟩
abbrev cX9_turns : ByteArray := prog_11_method_23_code
def yX9_turns : MethodName := ⟨RX9, "turns", "(II)I"⟩
abbrev cX9_set : ByteArray := prog_11_method_24_code
def yX9_set : MethodName := ⟨RX9, "set", "(III)I"⟩
abbrev cX9_mostOf : ByteArray := prog_11_method_25_code
def yX9_mostOf : MethodName := ⟨RX9, "mostOf", "(I)I"⟩
abbrev cX9_sea : ByteArray := prog_11_method_26_code
def yX9_sea : MethodName := ⟨RX9, "sea", "(II)I"⟩
abbrev cX9_deal : ByteArray := prog_11_method_27_code
def yX9_deal : MethodName := ⟨RX9, "deal", "()I"⟩
abbrev cX9_seed : ByteArray := prog_11_method_28_code
def yX9_seed : MethodName := ⟨RX9, "seed", "(I)I"⟩
abbrev cX9_beside : ByteArray := prog_11_method_29_code
def yX9_beside : MethodName := ⟨RX9, "beside", "(II)I"⟩
abbrev cX9_spread : ByteArray := prog_11_method_30_code
def yX9_spread : MethodName := ⟨RX9, "spread", "(I)I"⟩
abbrev cX9_partOf : ByteArray := prog_11_method_31_code
def yX9_partOf : MethodName := ⟨RX9, "partOf", "(II)I"⟩
abbrev cX9_partsOf : ByteArray := prog_11_method_32_code
def yX9_partsOf : MethodName := ⟨RX9, "partsOf", "(I)I"⟩
abbrev cX9_isAhead : ByteArray := prog_11_method_33_code
def yX9_isAhead : MethodName := ⟨RX9, "isAhead", "(I)Z"⟩
abbrev cX9_sky : ByteArray := prog_11_method_34_code
def yX9_sky : MethodName := ⟨RX9, "sky", "(II)I"⟩
abbrev cX9_worst : ByteArray := prog_11_method_35_code
def yX9_worst : MethodName := ⟨RX9, "worst", "(II)I"⟩
abbrev cX9_isDry : ByteArray := prog_11_method_36_code
def yX9_isDry : MethodName := ⟨RX9, "isDry", "(II)Z"⟩
abbrev cX9_dryFor : ByteArray := prog_11_method_37_code
def yX9_dryFor : MethodName := ⟨RX9, "dryFor", "(I)I"⟩
abbrev cX9_window : ByteArray := prog_11_method_38_code
def yX9_window : MethodName := ⟨RX9, "window", "(II)I"⟩
abbrev cX9_ownsAt : ByteArray := prog_11_method_39_code
def yX9_ownsAt : MethodName := ⟨RX9, "ownsAt", "(II)I"⟩
abbrev cX9_owns : ByteArray := prog_11_method_40_code
def yX9_owns : MethodName := ⟨RX9, "owns", "(II)I"⟩
abbrev cX9_richest : ByteArray := prog_11_method_41_code
def yX9_richest : MethodName := ⟨RX9, "richest", "(I)I"⟩
abbrev cX9_house : ByteArray := prog_11_method_42_code
def yX9_house : MethodName := ⟨RX9, "house", "(I)I"⟩
abbrev cX9_many : ByteArray := prog_11_method_43_code
def yX9_many : MethodName := ⟨RX9, "many", "(I)I"⟩
abbrev cX9_where : ByteArray := prog_11_method_44_code
def yX9_where : MethodName := ⟨RX9, "where", "(I)I"⟩
abbrev cX9_houseTold : ByteArray := prog_11_method_45_code
def yX9_houseTold : MethodName := ⟨RX9, "houseTold", "(II)I"⟩
abbrev cX9_settle : ByteArray := prog_11_method_46_code
def yX9_settle : MethodName := ⟨RX9, "settle", "(II)I"⟩
abbrev cX9_peak : ByteArray := prog_11_method_47_code
def yX9_peak : MethodName := ⟨RX9, "peak", "()I"⟩
abbrev cX9_cut : ByteArray := prog_11_method_48_code
def yX9_cut : MethodName := ⟨RX9, "cut", "(I)I"⟩
abbrev cX9_lack : ByteArray := prog_11_method_49_code
def yX9_lack : MethodName := ⟨RX9, "lack", "(I)I"⟩
abbrev cX9_going : ByteArray := prog_11_method_50_code
def yX9_going : MethodName := ⟨RX9, "going", "(II)I"⟩
abbrev cX9_grows : ByteArray := prog_11_method_51_code
def yX9_grows : MethodName := ⟨RX9, "grows", "(I)I"⟩
abbrev cX9_goesOn : ByteArray := prog_11_method_52_code
def yX9_goesOn : MethodName := ⟨RX9, "goesOn", "()V"⟩
abbrev cX9_run : ByteArray := prog_11_method_53_code
def yX9_run : MethodName := ⟨RX9, "run", "(I)I"⟩
abbrev cX9_allCorn : ByteArray := prog_11_method_54_code
def yX9_allCorn : MethodName := ⟨RX9, "allCorn", "()I"⟩
abbrev cX9_feed : ByteArray := prog_11_method_55_code
def yX9_feed : MethodName := ⟨RX9, "feed", "(III)I"⟩
abbrev cX9_trim : ByteArray := prog_11_method_56_code
def yX9_trim : MethodName := ⟨RX9, "trim", "(I)I"⟩
abbrev cX9_isLetter : ByteArray := prog_11_method_57_code
def yX9_isLetter : MethodName := ⟨RX9, "isLetter", "(I)Z"⟩
abbrev cX9_isDigit : ByteArray := prog_11_method_58_code
def yX9_isDigit : MethodName := ⟨RX9, "isDigit", "(I)Z"⟩
abbrev cX9_nextToken : ByteArray := prog_11_method_59_code
def yX9_nextToken : MethodName := ⟨RX9, "nextToken", "()V"⟩
abbrev cX9_isSign : ByteArray := prog_11_method_60_code
def yX9_isSign : MethodName := ⟨RX9, "isSign", "(I)Z"⟩
abbrev cX9_isWordAt : ByteArray := prog_11_method_61_code
def yX9_isWordAt : MethodName := ⟨RX9, "isWordAt", "(IIII)Z"⟩
abbrev cX9_key : ByteArray := prog_11_method_62_code
def yX9_key : MethodName := ⟨RX9, "key", "()I"⟩
abbrev cX9_isName : ByteArray := prog_11_method_63_code
def yX9_isName : MethodName := ⟨RX9, "isName", "(II)Z"⟩
abbrev cX9_step : ByteArray := prog_11_method_64_code
def yX9_step : MethodName := ⟨RX9, "step", "(II)V"⟩
abbrev cX9_either : ByteArray := prog_11_method_65_code
def yX9_either : MethodName := ⟨RX9, "either", "(I)Z"⟩
abbrev cX9_both : ByteArray := prog_11_method_66_code
def yX9_both : MethodName := ⟨RX9, "both", "(I)Z"⟩
abbrev cX9_test : ByteArray := prog_11_method_67_code
def yX9_test : MethodName := ⟨RX9, "test", "(I)Z"⟩
abbrev cX9_sum : ByteArray := prog_11_method_68_code
def yX9_sum : MethodName := ⟨RX9, "sum", "(I)Z"⟩
abbrev cX9_term : ByteArray := prog_11_method_69_code
def yX9_term : MethodName := ⟨RX9, "term", "(I)Z"⟩
abbrev cX9_part0 : ByteArray := prog_11_method_70_code
def yX9_part0 : MethodName := ⟨RX9, "part0", "(I)Z"⟩
abbrev cX9_parse : ByteArray := prog_11_method_71_code
def yX9_parse : MethodName := ⟨RX9, "parse", "()I"⟩
abbrev cX9_text : ByteArray := prog_11_method_72_code
def yX9_text : MethodName := ⟨RX9, "text", "()I"⟩
abbrev cX9_textTold : ByteArray := prog_11_method_73_code
def yX9_textTold : MethodName := ⟨RX9, "textTold", "(II)I"⟩
abbrev cX9_counts : ByteArray := prog_11_method_74_code
def yX9_counts : MethodName := ⟨RX9, "counts", "(I)I"⟩
abbrev cX9_why : ByteArray := prog_11_method_75_code
def yX9_why : MethodName := ⟨RX9, "why", "(I)I"⟩
abbrev cX9_joined : ByteArray := prog_11_method_76_code
def yX9_joined : MethodName := ⟨RX9, "joined", "(III)I"⟩
abbrev cX9_worked : ByteArray := prog_11_method_77_code
def yX9_worked : MethodName := ⟨RX9, "worked", "(I)I"⟩
abbrev cX9_isSheet : ByteArray := prog_11_method_78_code
def yX9_isSheet : MethodName := ⟨RX9, "isSheet", "(I)Z"⟩
abbrev cX9_sheet : ByteArray := prog_11_method_79_code
def yX9_sheet : MethodName := ⟨RX9, "sheet", "(III)I"⟩
abbrev cX9_mark : ByteArray := prog_11_method_80_code
def yX9_mark : MethodName := ⟨RX9, "mark", "(III)I"⟩
abbrev cX9_pour : ByteArray := prog_11_method_81_code
def yX9_pour : MethodName := ⟨RX9, "pour", "(II)I"⟩
abbrev cX9_reads : ByteArray := prog_11_method_82_code
def yX9_reads : MethodName := ⟨RX9, "reads", "(I)I"⟩
abbrev cX9_copy : ByteArray := prog_11_method_83_code
def yX9_copy : MethodName := ⟨RX9, "copy", "(IIIII)I"⟩
abbrev cX9_isSlot : ByteArray := prog_11_method_84_code
def yX9_isSlot : MethodName := ⟨RX9, "isSlot", "(I)Z"⟩
abbrev cX9_lay : ByteArray := prog_11_method_85_code
def yX9_lay : MethodName := ⟨RX9, "lay", "(III)I"⟩
abbrev cX9_ask : ByteArray := prog_11_method_86_code
def yX9_ask : MethodName := ⟨RX9, "ask", "(II)I"⟩
abbrev cX9_item : ByteArray := prog_11_method_87_code
def yX9_item : MethodName := ⟨RX9, "item", "(II)I"⟩
abbrev cX9_rest : ByteArray := prog_11_method_88_code
def yX9_rest : MethodName := ⟨RX9, "rest", "(II)I"⟩
abbrev cX9_tell : ByteArray := prog_11_method_89_code
def yX9_tell : MethodName := ⟨RX9, "tell", "(I)I"⟩
abbrev cX9_setAside : ByteArray := prog_11_method_90_code
def yX9_setAside : MethodName := ⟨RX9, "setAside", "([I[I)V"⟩
abbrev cX9_check : ByteArray := prog_11_method_91_code
def yX9_check : MethodName := ⟨RX9, "check", "(I)I"⟩
abbrev cX9_keep : ByteArray := prog_11_method_92_code
def yX9_keep : MethodName := ⟨RX9, "keep", "()I"⟩
abbrev cX9_back : ByteArray := prog_11_method_93_code
def yX9_back : MethodName := ⟨RX9, "back", "()I"⟩
abbrev cX9_count : ByteArray := prog_11_method_94_code
def yX9_count : MethodName := ⟨RX9, "count", "(I)I"⟩
def RJx145de : String := "java/io/Serializable"
def TJx145de : u_T := fun k => match k with
  | _ => ("", "", "", false)
def tyJx145de : Nat → FieldType := fun k => match k with
  | _ => .int
abbrev wsJx145de0 : List Cond := u_ws RJx145de TJx145de 0
theorem nmJx145de : ∀ a, a < 0 → ∀ b, b < 0 → a ≠ b → (TJx145de a).2.1 ≠ (TJx145de b).2.1 := by decide +kernel
theorem tyJx145de_ok : ∀ k, k < 0 → parseFieldDescriptor (TJx145de k).2.2.1 = some (tyJx145de k) := by decide +kernel
def RJx9f9b0 : String := "java/lang/CharSequence"
def TJx9f9b0 : u_T := fun k => match k with
  | _ => ("", "", "", false)
def tyJx9f9b0 : Nat → FieldType := fun k => match k with
  | _ => .int
abbrev wsJx9f9b00 : List Cond := u_ws RJx9f9b0 TJx9f9b0 0
theorem nmJx9f9b0 : ∀ a, a < 0 → ∀ b, b < 0 → a ≠ b → (TJx9f9b0 a).2.1 ≠ (TJx9f9b0 b).2.1 := by decide +kernel
theorem tyJx9f9b0_ok : ∀ k, k < 0 → parseFieldDescriptor (TJx9f9b0 k).2.2.1 = some (tyJx9f9b0 k) := by decide +kernel
def RJ11 : String := "java/lang/Character"
def TJ11 : u_T := fun k => match k with
  | _ => ("", "", "", false)
def tyJ11 : Nat → FieldType := fun k => match k with
  | _ => .int
abbrev wsJ110 : List Cond := u_ws RJ11 TJ11 0
theorem nmJ11 : ∀ a, a < 0 → ∀ b, b < 0 → a ≠ b → (TJ11 a).2.1 ≠ (TJ11 b).2.1 := by decide +kernel
theorem tyJ11_ok : ∀ k, k < 0 → parseFieldDescriptor (TJ11 k).2.2.1 = some (tyJ11 k) := by decide +kernel
abbrev cJ11_isValidCodePoint_9a6ad : ByteArray := prog_12_method_11_code
def yJ11_isValidCodePoint_9a6ad : MethodName := ⟨RJ11, "isValidCodePoint", "(I)Z"⟩
abbrev cJ11_highSurrogate_5068e : ByteArray := prog_12_method_28_code
def yJ11_highSurrogate_5068e : MethodName := ⟨RJ11, "highSurrogate", "(I)C"⟩
abbrev cJ11_lowSurrogate_5068e : ByteArray := prog_12_method_29_code
def yJ11_lowSurrogate_5068e : MethodName := ⟨RJ11, "lowSurrogate", "(I)C"⟩
def RJxb160c : String := "java/lang/Comparable"
def TJxb160c : u_T := fun k => match k with
  | _ => ("", "", "", false)
def tyJxb160c : Nat → FieldType := fun k => match k with
  | _ => .int
abbrev wsJxb160c0 : List Cond := u_ws RJxb160c TJxb160c 0
theorem nmJxb160c : ∀ a, a < 0 → ∀ b, b < 0 → a ≠ b → (TJxb160c a).2.1 ≠ (TJxb160c b).2.1 := by decide +kernel
theorem tyJxb160c_ok : ∀ k, k < 0 → parseFieldDescriptor (TJxb160c k).2.2.1 = some (tyJxb160c k) := by decide +kernel
def RJ6 : String := "java/lang/Integer"
def TJ6 : u_T := fun k => match k with
  | _ => ("", "", "", false)
def tyJ6 : Nat → FieldType := fun k => match k with
  | _ => .int
abbrev wsJ60 : List Cond := u_ws RJ6 TJ6 0
theorem nmJ6 : ∀ a, a < 0 → ∀ b, b < 0 → a ≠ b → (TJ6 a).2.1 ≠ (TJ6 b).2.1 := by decide +kernel
theorem tyJ6_ok : ∀ k, k < 0 → parseFieldDescriptor (TJ6 k).2.2.1 = some (tyJ6 k) := by decide +kernel
abbrev cJ6_bitCount_0f7a4 : ByteArray := prog_13_method_49_code
def yJ6_bitCount_0f7a4 : MethodName := ⟨RJ6, "bitCount", "(I)I"⟩
def RJ9 : String := "java/lang/Math"
def TJ9 : u_T := fun k => match k with
  | _ => ("", "", "", false)
def tyJ9 : Nat → FieldType := fun k => match k with
  | _ => .int
abbrev wsJ90 : List Cond := u_ws RJ9 TJ9 0
theorem nmJ9 : ∀ a, a < 0 → ∀ b, b < 0 → a ≠ b → (TJ9 a).2.1 ≠ (TJ9 b).2.1 := by decide +kernel
theorem tyJ9_ok : ∀ k, k < 0 → parseFieldDescriptor (TJ9 k).2.2.1 = some (tyJ9 k) := by decide +kernel
abbrev cJ9_max_7cf53 : ByteArray := prog_14_method_65_code
def yJ9_max_7cf53 : MethodName := ⟨RJ9, "max", "(II)I"⟩
abbrev cJ9_min_7cf53 : ByteArray := prog_14_method_69_code
def yJ9_min_7cf53 : MethodName := ⟨RJ9, "min", "(II)I"⟩
def RJ0 : String := "java/lang/String"
def TJ0 : u_T := fun k => match k with
  | _ => ("", "", "", false)
def tyJ0 : Nat → FieldType := fun k => match k with
  | _ => .int
abbrev wsJ00 : List Cond := u_ws RJ0 TJ0 0
theorem nmJ0 : ∀ a, a < 0 → ∀ b, b < 0 → a ≠ b → (TJ0 a).2.1 ≠ (TJ0 b).2.1 := by decide +kernel
theorem tyJ0_ok : ∀ k, k < 0 → parseFieldDescriptor (TJ0 k).2.2.1 = some (tyJ0 k) := by decide +kernel
abbrev cJ0_length_8abf5 : ByteArray := prog_15_method_54_code
def yJ0_length_8abf5 : MethodName := ⟨RJ0, "length", "()I"⟩
abbrev cJ0_charAt_5068e : ByteArray := prog_15_method_56_code
def yJ0_charAt_5068e : MethodName := ⟨RJ0, "charAt", "(I)C"⟩
abbrev cJ0_indexOf_0f7a4 : ByteArray := prog_15_method_79_code
def yJ0_indexOf_0f7a4 : MethodName := ⟨RJ0, "indexOf", "(I)I"⟩
abbrev cJ0_indexOf_7cf53 : ByteArray := prog_15_method_80_code
def yJ0_indexOf_7cf53 : MethodName := ⟨RJ0, "indexOf", "(II)I"⟩
abbrev cJ0_coder_7d493 : ByteArray := prog_15_method_152_code
def yJ0_coder_7d493 : MethodName := ⟨RJ0, "coder", "()B"⟩
abbrev cJ0_isLatin1_aae02 : ByteArray := prog_15_method_154_code
def yJ0_isLatin1_aae02 : MethodName := ⟨RJ0, "isLatin1", "()Z"⟩
abbrev cJ0_checkIndex_df160 : ByteArray := prog_15_method_155_code
def yJ0_checkIndex_df160 : MethodName := ⟨RJ0, "checkIndex", "(II)V"⟩
abbrev cJ0_checkBoundsBeginEnd_23922 : ByteArray := prog_15_method_158_code
def yJ0_checkBoundsBeginEnd_23922 : MethodName := ⟨RJ0, "checkBoundsBeginEnd", "(III)V"⟩
def RJ1 : String := "java/lang/StringLatin1"
def TJ1 : u_T := fun k => match k with
  | _ => ("", "", "", false)
def tyJ1 : Nat → FieldType := fun k => match k with
  | _ => .int
abbrev wsJ10 : List Cond := u_ws RJ1 TJ1 0
theorem nmJ1 : ∀ a, a < 0 → ∀ b, b < 0 → a ≠ b → (TJ1 a).2.1 ≠ (TJ1 b).2.1 := by decide +kernel
theorem tyJ1_ok : ∀ k, k < 0 → parseFieldDescriptor (TJ1 k).2.2.1 = some (tyJ1 k) := by decide +kernel
abbrev cJ1_charAt_3b067 : ByteArray := prog_16_method_2_code
def yJ1_charAt_3b067 : MethodName := ⟨RJ1, "charAt", "([BI)C"⟩
abbrev cJ1_canEncode_9a6ad : ByteArray := prog_16_method_4_code
def yJ1_canEncode_9a6ad : MethodName := ⟨RJ1, "canEncode", "(I)Z"⟩
abbrev cJ1_indexOf_4cfef : ByteArray := prog_16_method_22_code
def yJ1_indexOf_4cfef : MethodName := ⟨RJ1, "indexOf", "([BIII)I"⟩
abbrev cJ1_indexOfChar_4cfef : ByteArray := prog_16_method_23_code
def yJ1_indexOfChar_4cfef : MethodName := ⟨RJ1, "indexOfChar", "([BIII)I"⟩
def RJ2 : String := "java/lang/StringUTF16"
def TJ2 : u_T := fun k => match k with
  | _ => ("", "", "", false)
def tyJ2 : Nat → FieldType := fun k => match k with
  | _ => .int
abbrev wsJ20 : List Cond := u_ws RJ2 TJ2 0
theorem nmJ2 : ∀ a, a < 0 → ∀ b, b < 0 → a ≠ b → (TJ2 a).2.1 ≠ (TJ2 b).2.1 := by decide +kernel
theorem tyJ2_ok : ∀ k, k < 0 → parseFieldDescriptor (TJ2 k).2.2.1 = some (tyJ2 k) := by decide +kernel
abbrev cJ2_getChar_3b067 : ByteArray := prog_17_method_5_code
def yJ2_getChar_3b067 : MethodName := ⟨RJ2, "getChar", "([BI)C"⟩
abbrev cJ2_length_9d52b : ByteArray := prog_17_method_6_code
def yJ2_length_9d52b : MethodName := ⟨RJ2, "length", "([B)I"⟩
abbrev cJ2_indexOf_4cfef : ByteArray := prog_17_method_40_code
def yJ2_indexOf_4cfef : MethodName := ⟨RJ2, "indexOf", "([BIII)I"⟩
abbrev cJ2_indexOfChar_4cfef : ByteArray := prog_17_method_47_code
def yJ2_indexOfChar_4cfef : MethodName := ⟨RJ2, "indexOfChar", "([BIII)I"⟩
abbrev cJ2_indexOfCharUnsafe_4cfef : ByteArray := prog_17_method_48_code
def yJ2_indexOfCharUnsafe_4cfef : MethodName := ⟨RJ2, "indexOfCharUnsafe", "([BIII)I"⟩
abbrev cJ2_indexOfSupplementary_4cfef : ByteArray := prog_17_method_49_code
def yJ2_indexOfSupplementary_4cfef : MethodName := ⟨RJ2, "indexOfSupplementary", "([BIII)I"⟩
abbrev cJ2_charAt_3b067 : ByteArray := prog_17_method_83_code
def yJ2_charAt_3b067 : MethodName := ⟨RJ2, "charAt", "([BI)C"⟩
abbrev cJ2_checkIndex_2214a : ByteArray := prog_17_method_91_code
def yJ2_checkIndex_2214a : MethodName := ⟨RJ2, "checkIndex", "(I[B)V"⟩
abbrev cJ2_checkBoundsBeginEnd_d044e : ByteArray := prog_17_method_93_code
def yJ2_checkBoundsBeginEnd_d044e : MethodName := ⟨RJ2, "checkBoundsBeginEnd", "(II[B)V"⟩
def RJ10 : String := "java/lang/System"
def TJ10 : u_T := fun k => match k with
  | _ => ("", "", "", false)
def tyJ10 : Nat → FieldType := fun k => match k with
  | _ => .int
abbrev wsJ100 : List Cond := u_ws RJ10 TJ10 0
theorem nmJ10 : ∀ a, a < 0 → ∀ b, b < 0 → a ≠ b → (TJ10 a).2.1 ≠ (TJ10 b).2.1 := by decide +kernel
theorem tyJ10_ok : ∀ k, k < 0 → parseFieldDescriptor (TJ10 k).2.2.1 = some (tyJ10 k) := by decide +kernel
def RJxfd54e : String := "java/lang/constant/Constable"
def TJxfd54e : u_T := fun k => match k with
  | _ => ("", "", "", false)
def tyJxfd54e : Nat → FieldType := fun k => match k with
  | _ => .int
abbrev wsJxfd54e0 : List Cond := u_ws RJxfd54e TJxfd54e 0
theorem nmJxfd54e : ∀ a, a < 0 → ∀ b, b < 0 → a ≠ b → (TJxfd54e a).2.1 ≠ (TJxfd54e b).2.1 := by decide +kernel
theorem tyJxfd54e_ok : ∀ k, k < 0 → parseFieldDescriptor (TJxfd54e k).2.2.1 = some (tyJxfd54e k) := by decide +kernel
def RJx3cf43 : String := "java/lang/constant/ConstantDesc"
def TJx3cf43 : u_T := fun k => match k with
  | _ => ("", "", "", false)
def tyJx3cf43 : Nat → FieldType := fun k => match k with
  | _ => .int
abbrev wsJx3cf430 : List Cond := u_ws RJx3cf43 TJx3cf43 0
theorem nmJx3cf43 : ∀ a, a < 0 → ∀ b, b < 0 → a ≠ b → (TJx3cf43 a).2.1 ≠ (TJx3cf43 b).2.1 := by decide +kernel
theorem tyJx3cf43_ok : ∀ k, k < 0 → parseFieldDescriptor (TJx3cf43 k).2.2.1 = some (tyJx3cf43 k) := by decide +kernel
def RJ7 : String := "java/util/Arrays"
def TJ7 : u_T := fun k => match k with
  | _ => ("", "", "", false)
def tyJ7 : Nat → FieldType := fun k => match k with
  | _ => .int
abbrev wsJ70 : List Cond := u_ws RJ7 TJ7 0
theorem nmJ7 : ∀ a, a < 0 → ∀ b, b < 0 → a ≠ b → (TJ7 a).2.1 ≠ (TJ7 b).2.1 := by decide +kernel
theorem tyJ7_ok : ∀ k, k < 0 → parseFieldDescriptor (TJ7 k).2.2.1 = some (tyJ7 k) := by decide +kernel
abbrev cJ7_fill_53178 : ByteArray := prog_19_method_103_code
def yJ7_fill_53178 : MethodName := ⟨RJ7, "fill", "([II)V"⟩
def RJ3 : String := "jdk/internal/util/Preconditions"
def TJ3 : u_T := fun k => match k with
  | _ => ("", "", "", false)
def tyJ3 : Nat → FieldType := fun k => match k with
  | _ => .int
abbrev wsJ30 : List Cond := u_ws RJ3 TJ3 0
theorem nmJ3 : ∀ a, a < 0 → ∀ b, b < 0 → a ≠ b → (TJ3 a).2.1 ≠ (TJ3 b).2.1 := by decide +kernel
theorem tyJ3_ok : ∀ k, k < 0 → parseFieldDescriptor (TJ3 k).2.2.1 = some (tyJ3 k) := by decide +kernel
abbrev cJ3_checkIndex_8e157 : ByteArray := prog_20_method_11_code
def yJ3_checkIndex_8e157 : MethodName := ⟨RJ3, "checkIndex", "(IILjava/util/function/BiFunction;)I"⟩
abbrev cJ3_checkFromToIndex_8c36e : ByteArray := prog_20_method_12_code
def yJ3_checkFromToIndex_8c36e : MethodName := ⟨RJ3, "checkFromToIndex", "(IIILjava/util/function/BiFunction;)I"⟩
def RL : String := "TideIslandLaw"
abbrev cL_law : ByteArray := code
def yL_law : MethodName := ⟨RL, "law", "([I)Z"⟩
end
section
theorem dX0_has_0 : decode cX0_has 0 = .ok (.iload_n 0, 1) := by decide +kernel
theorem dX0_has_1 : decode cX0_has 1 = .ok (.iload_n 1, 1) := by decide +kernel
theorem dX0_has_2 : decode cX0_has 2 = .ok (.iushr, 1) := by decide +kernel
theorem dX0_has_3 : decode cX0_has 3 = .ok (.iconst 1, 1) := by decide +kernel
theorem dX0_has_4 : decode cX0_has 4 = .ok (.iand, 1) := by decide +kernel
theorem dX0_has_5 : decode cX0_has 5 = .ok (.ifCond .eq 7, 3) := by decide +kernel
theorem dX0_has_8 : decode cX0_has 8 = .ok (.iconst 1, 1) := by decide +kernel
theorem dX0_has_9 : decode cX0_has 9 = .ok (.goto 4, 3) := by decide +kernel
theorem dX0_has_12 : decode cX0_has 12 = .ok (.iconst 0, 1) := by decide +kernel
theorem dX0_has_13 : decode cX0_has 13 = .ok (.ireturn, 1) := by decide +kernel
theorem dX0_spread_0 : decode cX0_spread 0 = .ok (.iload_n 0, 1) := by decide +kernel
theorem dX0_spread_1 : decode cX0_spread 1 = .ok (.bipush 6, 2) := by decide +kernel
theorem dX0_spread_3 : decode cX0_spread 3 = .ok (.ishl, 1) := by decide +kernel
theorem dX0_spread_4 : decode cX0_spread 4 = .ok (.iload_n 0, 1) := by decide +kernel
theorem dX0_spread_5 : decode cX0_spread 5 = .ok (.bipush 6, 2) := by decide +kernel
theorem dX0_spread_7 : decode cX0_spread 7 = .ok (.iushr, 1) := by decide +kernel
theorem dX0_spread_8 : decode cX0_spread 8 = .ok (.ior, 1) := by decide +kernel
theorem dX0_spread_9 : decode cX0_spread 9 = .ok (.istore_n 1, 1) := by decide +kernel
theorem dX0_spread_10 : decode cX0_spread 10 = .ok (.iload_n 0, 1) := by decide +kernel
theorem dX0_spread_11 : decode cX0_spread 11 = .ok (.ldc 11, 2) := by decide +kernel
theorem dX0_spread_13 : decode cX0_spread 13 = .ok (.iand, 1) := by decide +kernel
theorem dX0_spread_14 : decode cX0_spread 14 = .ok (.iconst 1, 1) := by decide +kernel
theorem dX0_spread_15 : decode cX0_spread 15 = .ok (.ishl, 1) := by decide +kernel
theorem dX0_spread_16 : decode cX0_spread 16 = .ok (.iload_n 0, 1) := by decide +kernel
theorem dX0_spread_17 : decode cX0_spread 17 = .ok (.ldc 12, 2) := by decide +kernel
theorem dX0_spread_19 : decode cX0_spread 19 = .ok (.iand, 1) := by decide +kernel
theorem dX0_spread_20 : decode cX0_spread 20 = .ok (.iconst 1, 1) := by decide +kernel
theorem dX0_spread_21 : decode cX0_spread 21 = .ok (.iushr, 1) := by decide +kernel
theorem dX0_spread_22 : decode cX0_spread 22 = .ok (.ior, 1) := by decide +kernel
theorem dX0_spread_23 : decode cX0_spread 23 = .ok (.istore_n 2, 1) := by decide +kernel
theorem dX0_spread_24 : decode cX0_spread 24 = .ok (.iload_n 0, 1) := by decide +kernel
theorem dX0_spread_25 : decode cX0_spread 25 = .ok (.iload_n 1, 1) := by decide +kernel
theorem dX0_spread_26 : decode cX0_spread 26 = .ok (.ior, 1) := by decide +kernel
theorem dX0_spread_27 : decode cX0_spread 27 = .ok (.iload_n 2, 1) := by decide +kernel
theorem dX0_spread_28 : decode cX0_spread 28 = .ok (.ior, 1) := by decide +kernel
theorem dX0_spread_29 : decode cX0_spread 29 = .ok (.ldc 13, 2) := by decide +kernel
theorem dX0_spread_31 : decode cX0_spread 31 = .ok (.iand, 1) := by decide +kernel
theorem dX0_spread_32 : decode cX0_spread 32 = .ok (.ireturn, 1) := by decide +kernel
theorem dX0_partAround_0 : decode cX0_partAround 0 = .ok (.iload_n 0, 1) := by decide +kernel
theorem dX0_partAround_1 : decode cX0_partAround 1 = .ok (.iload_n 1, 1) := by decide +kernel
theorem dX0_partAround_2 : decode cX0_partAround 2 = .ok (.iand, 1) := by decide +kernel
theorem dX0_partAround_3 : decode cX0_partAround 3 = .ok (.istore_n 2, 1) := by decide +kernel
theorem dX0_partAround_4 : decode cX0_partAround 4 = .ok (.iconst 0, 1) := by decide +kernel
theorem dX0_partAround_5 : decode cX0_partAround 5 = .ok (.istore_n 3, 1) := by decide +kernel
theorem dX0_partAround_6 : decode cX0_partAround 6 = .ok (.iload_n 3, 1) := by decide +kernel
theorem dX0_partAround_7 : decode cX0_partAround 7 = .ok (.bipush 30, 2) := by decide +kernel
theorem dX0_partAround_9 : decode cX0_partAround 9 = .ok (.if_icmp .ge 16, 3) := by decide +kernel
theorem dX0_partAround_12 : decode cX0_partAround 12 = .ok (.iload_n 2, 1) := by decide +kernel
theorem dX0_partAround_13 : decode cX0_partAround 13 = .ok (.invokestatic 14, 3) := by decide +kernel
theorem dX0_partAround_16 : decode cX0_partAround 16 = .ok (.iload_n 1, 1) := by decide +kernel
theorem dX0_partAround_17 : decode cX0_partAround 17 = .ok (.iand, 1) := by decide +kernel
theorem dX0_partAround_18 : decode cX0_partAround 18 = .ok (.istore_n 2, 1) := by decide +kernel
theorem dX0_partAround_19 : decode cX0_partAround 19 = .ok (.iinc 3 1, 3) := by decide +kernel
theorem dX0_partAround_22 : decode cX0_partAround 22 = .ok (.goto (-16), 3) := by decide +kernel
theorem dX0_partAround_25 : decode cX0_partAround 25 = .ok (.iload_n 2, 1) := by decide +kernel
theorem dX0_partAround_26 : decode cX0_partAround 26 = .ok (.ireturn, 1) := by decide +kernel
theorem dX0_partsOf_0 : decode cX0_partsOf 0 = .ok (.iconst 0, 1) := by decide +kernel
theorem dX0_partsOf_1 : decode cX0_partsOf 1 = .ok (.istore_n 1, 1) := by decide +kernel
theorem dX0_partsOf_2 : decode cX0_partsOf 2 = .ok (.iload_n 0, 1) := by decide +kernel
theorem dX0_partsOf_3 : decode cX0_partsOf 3 = .ok (.istore_n 2, 1) := by decide +kernel
theorem dX0_partsOf_4 : decode cX0_partsOf 4 = .ok (.iconst 0, 1) := by decide +kernel
theorem dX0_partsOf_5 : decode cX0_partsOf 5 = .ok (.istore_n 3, 1) := by decide +kernel
theorem dX0_partsOf_6 : decode cX0_partsOf 6 = .ok (.iload_n 3, 1) := by decide +kernel
theorem dX0_partsOf_7 : decode cX0_partsOf 7 = .ok (.bipush 30, 2) := by decide +kernel
theorem dX0_partsOf_9 : decode cX0_partsOf 9 = .ok (.if_icmp .ge 29, 3) := by decide +kernel
theorem dX0_partsOf_12 : decode cX0_partsOf 12 = .ok (.iload_n 2, 1) := by decide +kernel
theorem dX0_partsOf_13 : decode cX0_partsOf 13 = .ok (.ifCond .eq 25, 3) := by decide +kernel
theorem dX0_partsOf_16 : decode cX0_partsOf 16 = .ok (.iload_n 2, 1) := by decide +kernel
theorem dX0_partsOf_17 : decode cX0_partsOf 17 = .ok (.iload_n 2, 1) := by decide +kernel
theorem dX0_partsOf_18 : decode cX0_partsOf 18 = .ok (.iload_n 2, 1) := by decide +kernel
theorem dX0_partsOf_19 : decode cX0_partsOf 19 = .ok (.ineg, 1) := by decide +kernel
theorem dX0_partsOf_20 : decode cX0_partsOf 20 = .ok (.iand, 1) := by decide +kernel
theorem dX0_partsOf_21 : decode cX0_partsOf 21 = .ok (.iload_n 2, 1) := by decide +kernel
theorem dX0_partsOf_22 : decode cX0_partsOf 22 = .ok (.invokestatic 18, 3) := by decide +kernel
theorem dX0_partsOf_25 : decode cX0_partsOf 25 = .ok (.iconst (-1), 1) := by decide +kernel
theorem dX0_partsOf_26 : decode cX0_partsOf 26 = .ok (.ixor, 1) := by decide +kernel
theorem dX0_partsOf_27 : decode cX0_partsOf 27 = .ok (.iand, 1) := by decide +kernel
theorem dX0_partsOf_28 : decode cX0_partsOf 28 = .ok (.istore_n 2, 1) := by decide +kernel
theorem dX0_partsOf_29 : decode cX0_partsOf 29 = .ok (.iinc 1 1, 3) := by decide +kernel
theorem dX0_partsOf_32 : decode cX0_partsOf 32 = .ok (.iinc 3 1, 3) := by decide +kernel
theorem dX0_partsOf_35 : decode cX0_partsOf 35 = .ok (.goto (-29), 3) := by decide +kernel
theorem dX0_partsOf_38 : decode cX0_partsOf 38 = .ok (.iload_n 1, 1) := by decide +kernel
theorem dX0_partsOf_39 : decode cX0_partsOf 39 = .ok (.ireturn, 1) := by decide +kernel
theorem dX0_beside_0 : decode cX0_beside 0 = .ok (.iload_n 0, 1) := by decide +kernel
theorem dX0_beside_1 : decode cX0_beside 1 = .ok (.bipush 6, 2) := by decide +kernel
theorem dX0_beside_3 : decode cX0_beside 3 = .ok (.irem, 1) := by decide +kernel
theorem dX0_beside_4 : decode cX0_beside 4 = .ok (.istore_n 2, 1) := by decide +kernel
theorem dX0_beside_5 : decode cX0_beside 5 = .ok (.iload_n 1, 1) := by decide +kernel
theorem dX0_beside_6 : decode cX0_beside 6 = .ok (.tableswitch 92 0 3 #[30, 49, 63, 79], 30) := by decide +kernel
theorem dX0_beside_36 : decode cX0_beside 36 = .ok (.iload_n 0, 1) := by decide +kernel
theorem dX0_beside_37 : decode cX0_beside 37 = .ok (.bipush 6, 2) := by decide +kernel
theorem dX0_beside_39 : decode cX0_beside 39 = .ok (.iadd, 1) := by decide +kernel
theorem dX0_beside_40 : decode cX0_beside 40 = .ok (.bipush 30, 2) := by decide +kernel
theorem dX0_beside_42 : decode cX0_beside 42 = .ok (.if_icmp .ge 10, 3) := by decide +kernel
theorem dX0_beside_45 : decode cX0_beside 45 = .ok (.iload_n 0, 1) := by decide +kernel
theorem dX0_beside_46 : decode cX0_beside 46 = .ok (.bipush 6, 2) := by decide +kernel
theorem dX0_beside_48 : decode cX0_beside 48 = .ok (.iadd, 1) := by decide +kernel
theorem dX0_beside_49 : decode cX0_beside 49 = .ok (.goto 5, 3) := by decide +kernel
theorem dX0_beside_52 : decode cX0_beside 52 = .ok (.ldc 22, 2) := by decide +kernel
theorem dX0_beside_54 : decode cX0_beside 54 = .ok (.ireturn, 1) := by decide +kernel
theorem dX0_beside_55 : decode cX0_beside 55 = .ok (.iload_n 2, 1) := by decide +kernel
theorem dX0_beside_56 : decode cX0_beside 56 = .ok (.iconst 5, 1) := by decide +kernel
theorem dX0_beside_57 : decode cX0_beside 57 = .ok (.if_icmp .ge 9, 3) := by decide +kernel
theorem dX0_beside_60 : decode cX0_beside 60 = .ok (.iload_n 0, 1) := by decide +kernel
theorem dX0_beside_61 : decode cX0_beside 61 = .ok (.iconst 1, 1) := by decide +kernel
theorem dX0_beside_62 : decode cX0_beside 62 = .ok (.iadd, 1) := by decide +kernel
theorem dX0_beside_63 : decode cX0_beside 63 = .ok (.goto 5, 3) := by decide +kernel
theorem dX0_beside_66 : decode cX0_beside 66 = .ok (.ldc 22, 2) := by decide +kernel
theorem dX0_beside_68 : decode cX0_beside 68 = .ok (.ireturn, 1) := by decide +kernel
theorem dX0_beside_69 : decode cX0_beside 69 = .ok (.iload_n 0, 1) := by decide +kernel
theorem dX0_beside_70 : decode cX0_beside 70 = .ok (.bipush 6, 2) := by decide +kernel
theorem dX0_beside_72 : decode cX0_beside 72 = .ok (.if_icmp .lt 10, 3) := by decide +kernel
theorem dX0_beside_75 : decode cX0_beside 75 = .ok (.iload_n 0, 1) := by decide +kernel
theorem dX0_beside_76 : decode cX0_beside 76 = .ok (.bipush 6, 2) := by decide +kernel
theorem dX0_beside_78 : decode cX0_beside 78 = .ok (.isub, 1) := by decide +kernel
theorem dX0_beside_79 : decode cX0_beside 79 = .ok (.goto 5, 3) := by decide +kernel
theorem dX0_beside_82 : decode cX0_beside 82 = .ok (.ldc 22, 2) := by decide +kernel
theorem dX0_beside_84 : decode cX0_beside 84 = .ok (.ireturn, 1) := by decide +kernel
theorem dX0_beside_85 : decode cX0_beside 85 = .ok (.iload_n 2, 1) := by decide +kernel
theorem dX0_beside_86 : decode cX0_beside 86 = .ok (.ifCond .le 9, 3) := by decide +kernel
theorem dX0_beside_89 : decode cX0_beside 89 = .ok (.iload_n 0, 1) := by decide +kernel
theorem dX0_beside_90 : decode cX0_beside 90 = .ok (.iconst 1, 1) := by decide +kernel
theorem dX0_beside_91 : decode cX0_beside 91 = .ok (.isub, 1) := by decide +kernel
theorem dX0_beside_92 : decode cX0_beside 92 = .ok (.goto 5, 3) := by decide +kernel
theorem dX0_beside_95 : decode cX0_beside 95 = .ok (.ldc 22, 2) := by decide +kernel
theorem dX0_beside_97 : decode cX0_beside 97 = .ok (.ireturn, 1) := by decide +kernel
theorem dX0_beside_98 : decode cX0_beside 98 = .ok (.ldc 22, 2) := by decide +kernel
theorem dX0_beside_100 : decode cX0_beside 100 = .ok (.ireturn, 1) := by decide +kernel
theorem dX0_firstBeside_0 : decode cX0_firstBeside 0 = .ok (.iconst 0, 1) := by decide +kernel
theorem dX0_firstBeside_1 : decode cX0_firstBeside 1 = .ok (.istore_n 2, 1) := by decide +kernel
theorem dX0_firstBeside_2 : decode cX0_firstBeside 2 = .ok (.iload_n 2, 1) := by decide +kernel
theorem dX0_firstBeside_3 : decode cX0_firstBeside 3 = .ok (.iconst 4, 1) := by decide +kernel
theorem dX0_firstBeside_4 : decode cX0_firstBeside 4 = .ok (.if_icmp .ge 31, 3) := by decide +kernel
theorem dX0_firstBeside_7 : decode cX0_firstBeside 7 = .ok (.iload_n 0, 1) := by decide +kernel
theorem dX0_firstBeside_8 : decode cX0_firstBeside 8 = .ok (.iload_n 2, 1) := by decide +kernel
theorem dX0_firstBeside_9 : decode cX0_firstBeside 9 = .ok (.invokestatic 23, 3) := by decide +kernel
theorem dX0_firstBeside_12 : decode cX0_firstBeside 12 = .ok (.istore_n 3, 1) := by decide +kernel
theorem dX0_firstBeside_13 : decode cX0_firstBeside 13 = .ok (.iload_n 3, 1) := by decide +kernel
theorem dX0_firstBeside_14 : decode cX0_firstBeside 14 = .ok (.ldc 22, 2) := by decide +kernel
theorem dX0_firstBeside_16 : decode cX0_firstBeside 16 = .ok (.if_icmp .eq 13, 3) := by decide +kernel
theorem dX0_firstBeside_19 : decode cX0_firstBeside 19 = .ok (.iload_n 1, 1) := by decide +kernel
theorem dX0_firstBeside_20 : decode cX0_firstBeside 20 = .ok (.iload_n 3, 1) := by decide +kernel
theorem dX0_firstBeside_21 : decode cX0_firstBeside 21 = .ok (.invokestatic 26, 3) := by decide +kernel
theorem dX0_firstBeside_24 : decode cX0_firstBeside 24 = .ok (.ifCond .eq 5, 3) := by decide +kernel
theorem dX0_firstBeside_27 : decode cX0_firstBeside 27 = .ok (.iload_n 3, 1) := by decide +kernel
theorem dX0_firstBeside_28 : decode cX0_firstBeside 28 = .ok (.ireturn, 1) := by decide +kernel
theorem dX0_firstBeside_29 : decode cX0_firstBeside 29 = .ok (.iinc 2 1, 3) := by decide +kernel
theorem dX0_firstBeside_32 : decode cX0_firstBeside 32 = .ok (.goto (-30), 3) := by decide +kernel
theorem dX0_firstBeside_35 : decode cX0_firstBeside 35 = .ok (.ldc 22, 2) := by decide +kernel
theorem dX0_firstBeside_37 : decode cX0_firstBeside 37 = .ok (.ireturn, 1) := by decide +kernel
theorem dX1_init_0 : decode cX1_init 0 = .ok (.aload_n 0, 1) := by decide +kernel
theorem dX1_init_1 : decode cX1_init 1 = .ok (.invokespecial 3, 3) := by decide +kernel
theorem dX1_init_4 : decode cX1_init 4 = .ok (.aload_n 0, 1) := by decide +kernel
theorem dX1_init_5 : decode cX1_init 5 = .ok (.bipush 30, 2) := by decide +kernel
theorem dX1_init_7 : decode cX1_init 7 = .ok (.newarray .int, 2) := by decide +kernel
theorem dX1_init_9 : decode cX1_init 9 = .ok (.putfield 9, 3) := by decide +kernel
theorem dX1_init_12 : decode cX1_init 12 = .ok (.aload_n 0, 1) := by decide +kernel
theorem dX1_init_13 : decode cX1_init 13 = .ok (.bipush 30, 2) := by decide +kernel
theorem dX1_init_15 : decode cX1_init 15 = .ok (.newarray .int, 2) := by decide +kernel
theorem dX1_init_17 : decode cX1_init 17 = .ok (.putfield 15, 3) := by decide +kernel
theorem dX1_init_20 : decode cX1_init 20 = .ok (.aload_n 0, 1) := by decide +kernel
theorem dX1_init_21 : decode cX1_init 21 = .ok (.bipush 30, 2) := by decide +kernel
theorem dX1_init_23 : decode cX1_init 23 = .ok (.newarray .int, 2) := by decide +kernel
theorem dX1_init_25 : decode cX1_init 25 = .ok (.putfield 18, 3) := by decide +kernel
theorem dX1_init_28 : decode cX1_init 28 = .ok (.aload_n 0, 1) := by decide +kernel
theorem dX1_init_29 : decode cX1_init 29 = .ok (.bipush 30, 2) := by decide +kernel
theorem dX1_init_31 : decode cX1_init 31 = .ok (.newarray .int, 2) := by decide +kernel
theorem dX1_init_33 : decode cX1_init 33 = .ok (.putfield 21, 3) := by decide +kernel
theorem dX1_init_36 : decode cX1_init 36 = .ok (.aload_n 0, 1) := by decide +kernel
theorem dX1_init_37 : decode cX1_init 37 = .ok (.bipush 6, 2) := by decide +kernel
theorem dX1_init_39 : decode cX1_init 39 = .ok (.newarray .int, 2) := by decide +kernel
theorem dX1_init_41 : decode cX1_init 41 = .ok (.dup, 1) := by decide +kernel
theorem dX1_init_42 : decode cX1_init 42 = .ok (.iconst 0, 1) := by decide +kernel
theorem dX1_init_43 : decode cX1_init 43 = .ok (.iconst 2, 1) := by decide +kernel
theorem dX1_init_44 : decode cX1_init 44 = .ok (.iastore, 1) := by decide +kernel
theorem dX1_init_45 : decode cX1_init 45 = .ok (.dup, 1) := by decide +kernel
theorem dX1_init_46 : decode cX1_init 46 = .ok (.iconst 1, 1) := by decide +kernel
theorem dX1_init_47 : decode cX1_init 47 = .ok (.bipush 8, 2) := by decide +kernel
theorem dX1_init_49 : decode cX1_init 49 = .ok (.iastore, 1) := by decide +kernel
theorem dX1_init_50 : decode cX1_init 50 = .ok (.dup, 1) := by decide +kernel
theorem dX1_init_51 : decode cX1_init 51 = .ok (.iconst 2, 1) := by decide +kernel
theorem dX1_init_52 : decode cX1_init 52 = .ok (.iconst 3, 1) := by decide +kernel
theorem dX1_init_53 : decode cX1_init 53 = .ok (.iastore, 1) := by decide +kernel
theorem dX1_init_54 : decode cX1_init 54 = .ok (.dup, 1) := by decide +kernel
theorem dX1_init_55 : decode cX1_init 55 = .ok (.iconst 3, 1) := by decide +kernel
theorem dX1_init_56 : decode cX1_init 56 = .ok (.iconst 0, 1) := by decide +kernel
theorem dX1_init_57 : decode cX1_init 57 = .ok (.iastore, 1) := by decide +kernel
theorem dX1_init_58 : decode cX1_init 58 = .ok (.dup, 1) := by decide +kernel
theorem dX1_init_59 : decode cX1_init 59 = .ok (.iconst 4, 1) := by decide +kernel
theorem dX1_init_60 : decode cX1_init 60 = .ok (.bipush 20, 2) := by decide +kernel
theorem dX1_init_62 : decode cX1_init 62 = .ok (.iastore, 1) := by decide +kernel
theorem dX1_init_63 : decode cX1_init 63 = .ok (.dup, 1) := by decide +kernel
theorem dX1_init_64 : decode cX1_init 64 = .ok (.iconst 5, 1) := by decide +kernel
theorem dX1_init_65 : decode cX1_init 65 = .ok (.iconst 1, 1) := by decide +kernel
theorem dX1_init_66 : decode cX1_init 66 = .ok (.iastore, 1) := by decide +kernel
theorem dX1_init_67 : decode cX1_init 67 = .ok (.putfield 24, 3) := by decide +kernel
theorem dX1_init_70 : decode cX1_init 70 = .ok (.aload_n 0, 1) := by decide +kernel
theorem dX1_init_71 : decode cX1_init 71 = .ok (.bipush 8, 2) := by decide +kernel
theorem dX1_init_73 : decode cX1_init 73 = .ok (.newarray .int, 2) := by decide +kernel
theorem dX1_init_75 : decode cX1_init 75 = .ok (.putfield 27, 3) := by decide +kernel
theorem dX1_init_78 : decode cX1_init 78 = .ok (.aload_n 0, 1) := by decide +kernel
theorem dX1_init_79 : decode cX1_init 79 = .ok (.bipush 8, 2) := by decide +kernel
theorem dX1_init_81 : decode cX1_init 81 = .ok (.newarray .int, 2) := by decide +kernel
theorem dX1_init_83 : decode cX1_init 83 = .ok (.putfield 30, 3) := by decide +kernel
theorem dX1_init_86 : decode cX1_init 86 = .ok (.aload_n 0, 1) := by decide +kernel
theorem dX1_init_87 : decode cX1_init 87 = .ok (.iconst 1, 1) := by decide +kernel
theorem dX1_init_88 : decode cX1_init 88 = .ok (.putfield 33, 3) := by decide +kernel
theorem dX1_init_91 : decode cX1_init 91 = .ok (.aload_n 0, 1) := by decide +kernel
theorem dX1_init_92 : decode cX1_init 92 = .ok (.aload_n 1, 1) := by decide +kernel
theorem dX1_init_93 : decode cX1_init 93 = .ok (.putfield 37, 3) := by decide +kernel
theorem dX1_init_96 : decode cX1_init 96 = .ok (.aload_n 0, 1) := by decide +kernel
theorem dX1_init_97 : decode cX1_init 97 = .ok (.getfield 21, 3) := by decide +kernel
theorem dX1_init_100 : decode cX1_init 100 = .ok (.ldc 41, 2) := by decide +kernel
theorem dX1_init_102 : decode cX1_init 102 = .ok (.invokestatic 42, 3) := by decide +kernel
theorem dX1_init_105 : decode cX1_init 105 = .ok (.return_, 1) := by decide +kernel
theorem dX1_becomeLike_0 : decode cX1_becomeLike 0 = .ok (.aload_n 1, 1) := by decide +kernel
theorem dX1_becomeLike_1 : decode cX1_becomeLike 1 = .ok (.getfield 9, 3) := by decide +kernel
theorem dX1_becomeLike_4 : decode cX1_becomeLike 4 = .ok (.iconst 0, 1) := by decide +kernel
theorem dX1_becomeLike_5 : decode cX1_becomeLike 5 = .ok (.aload_n 0, 1) := by decide +kernel
theorem dX1_becomeLike_6 : decode cX1_becomeLike 6 = .ok (.getfield 9, 3) := by decide +kernel
theorem dX1_becomeLike_9 : decode cX1_becomeLike 9 = .ok (.iconst 0, 1) := by decide +kernel
theorem dX1_becomeLike_10 : decode cX1_becomeLike 10 = .ok (.bipush 30, 2) := by decide +kernel
theorem dX1_becomeLike_12 : decode cX1_becomeLike 12 = .ok (.invokestatic 48, 3) := by decide +kernel
theorem dX1_becomeLike_15 : decode cX1_becomeLike 15 = .ok (.aload_n 1, 1) := by decide +kernel
theorem dX1_becomeLike_16 : decode cX1_becomeLike 16 = .ok (.getfield 15, 3) := by decide +kernel
theorem dX1_becomeLike_19 : decode cX1_becomeLike 19 = .ok (.iconst 0, 1) := by decide +kernel
theorem dX1_becomeLike_20 : decode cX1_becomeLike 20 = .ok (.aload_n 0, 1) := by decide +kernel
theorem dX1_becomeLike_21 : decode cX1_becomeLike 21 = .ok (.getfield 15, 3) := by decide +kernel
theorem dX1_becomeLike_24 : decode cX1_becomeLike 24 = .ok (.iconst 0, 1) := by decide +kernel
theorem dX1_becomeLike_25 : decode cX1_becomeLike 25 = .ok (.bipush 30, 2) := by decide +kernel
theorem dX1_becomeLike_27 : decode cX1_becomeLike 27 = .ok (.invokestatic 48, 3) := by decide +kernel
theorem dX1_becomeLike_30 : decode cX1_becomeLike 30 = .ok (.aload_n 1, 1) := by decide +kernel
theorem dX1_becomeLike_31 : decode cX1_becomeLike 31 = .ok (.getfield 18, 3) := by decide +kernel
theorem dX1_becomeLike_34 : decode cX1_becomeLike 34 = .ok (.iconst 0, 1) := by decide +kernel
theorem dX1_becomeLike_35 : decode cX1_becomeLike 35 = .ok (.aload_n 0, 1) := by decide +kernel
theorem dX1_becomeLike_36 : decode cX1_becomeLike 36 = .ok (.getfield 18, 3) := by decide +kernel
theorem dX1_becomeLike_39 : decode cX1_becomeLike 39 = .ok (.iconst 0, 1) := by decide +kernel
theorem dX1_becomeLike_40 : decode cX1_becomeLike 40 = .ok (.bipush 30, 2) := by decide +kernel
theorem dX1_becomeLike_42 : decode cX1_becomeLike 42 = .ok (.invokestatic 48, 3) := by decide +kernel
theorem dX1_becomeLike_45 : decode cX1_becomeLike 45 = .ok (.aload_n 1, 1) := by decide +kernel
theorem dX1_becomeLike_46 : decode cX1_becomeLike 46 = .ok (.getfield 21, 3) := by decide +kernel
theorem dX1_becomeLike_49 : decode cX1_becomeLike 49 = .ok (.iconst 0, 1) := by decide +kernel
theorem dX1_becomeLike_50 : decode cX1_becomeLike 50 = .ok (.aload_n 0, 1) := by decide +kernel
theorem dX1_becomeLike_51 : decode cX1_becomeLike 51 = .ok (.getfield 21, 3) := by decide +kernel
theorem dX1_becomeLike_54 : decode cX1_becomeLike 54 = .ok (.iconst 0, 1) := by decide +kernel
theorem dX1_becomeLike_55 : decode cX1_becomeLike 55 = .ok (.bipush 30, 2) := by decide +kernel
theorem dX1_becomeLike_57 : decode cX1_becomeLike 57 = .ok (.invokestatic 48, 3) := by decide +kernel
theorem dX1_becomeLike_60 : decode cX1_becomeLike 60 = .ok (.aload_n 1, 1) := by decide +kernel
theorem dX1_becomeLike_61 : decode cX1_becomeLike 61 = .ok (.getfield 24, 3) := by decide +kernel
theorem dX1_becomeLike_64 : decode cX1_becomeLike 64 = .ok (.iconst 0, 1) := by decide +kernel
theorem dX1_becomeLike_65 : decode cX1_becomeLike 65 = .ok (.aload_n 0, 1) := by decide +kernel
theorem dX1_becomeLike_66 : decode cX1_becomeLike 66 = .ok (.getfield 24, 3) := by decide +kernel
theorem dX1_becomeLike_69 : decode cX1_becomeLike 69 = .ok (.iconst 0, 1) := by decide +kernel
theorem dX1_becomeLike_70 : decode cX1_becomeLike 70 = .ok (.aload_n 0, 1) := by decide +kernel
theorem dX1_becomeLike_71 : decode cX1_becomeLike 71 = .ok (.getfield 24, 3) := by decide +kernel
theorem dX1_becomeLike_74 : decode cX1_becomeLike 74 = .ok (.arraylength, 1) := by decide +kernel
theorem dX1_becomeLike_75 : decode cX1_becomeLike 75 = .ok (.invokestatic 48, 3) := by decide +kernel
theorem dX1_becomeLike_78 : decode cX1_becomeLike 78 = .ok (.aload_n 1, 1) := by decide +kernel
theorem dX1_becomeLike_79 : decode cX1_becomeLike 79 = .ok (.getfield 27, 3) := by decide +kernel
theorem dX1_becomeLike_82 : decode cX1_becomeLike 82 = .ok (.iconst 0, 1) := by decide +kernel
theorem dX1_becomeLike_83 : decode cX1_becomeLike 83 = .ok (.aload_n 0, 1) := by decide +kernel
theorem dX1_becomeLike_84 : decode cX1_becomeLike 84 = .ok (.getfield 27, 3) := by decide +kernel
theorem dX1_becomeLike_87 : decode cX1_becomeLike 87 = .ok (.iconst 0, 1) := by decide +kernel
theorem dX1_becomeLike_88 : decode cX1_becomeLike 88 = .ok (.bipush 8, 2) := by decide +kernel
theorem dX1_becomeLike_90 : decode cX1_becomeLike 90 = .ok (.invokestatic 48, 3) := by decide +kernel
theorem dX1_becomeLike_93 : decode cX1_becomeLike 93 = .ok (.aload_n 1, 1) := by decide +kernel
theorem dX1_becomeLike_94 : decode cX1_becomeLike 94 = .ok (.getfield 30, 3) := by decide +kernel
theorem dX1_becomeLike_97 : decode cX1_becomeLike 97 = .ok (.iconst 0, 1) := by decide +kernel
theorem dX1_becomeLike_98 : decode cX1_becomeLike 98 = .ok (.aload_n 0, 1) := by decide +kernel
theorem dX1_becomeLike_99 : decode cX1_becomeLike 99 = .ok (.getfield 30, 3) := by decide +kernel
theorem dX1_becomeLike_102 : decode cX1_becomeLike 102 = .ok (.iconst 0, 1) := by decide +kernel
theorem dX1_becomeLike_103 : decode cX1_becomeLike 103 = .ok (.bipush 8, 2) := by decide +kernel
theorem dX1_becomeLike_105 : decode cX1_becomeLike 105 = .ok (.invokestatic 48, 3) := by decide +kernel
theorem dX1_becomeLike_108 : decode cX1_becomeLike 108 = .ok (.aload_n 0, 1) := by decide +kernel
theorem dX1_becomeLike_109 : decode cX1_becomeLike 109 = .ok (.aload_n 1, 1) := by decide +kernel
theorem dX1_becomeLike_110 : decode cX1_becomeLike 110 = .ok (.getfield 54, 3) := by decide +kernel
theorem dX1_becomeLike_113 : decode cX1_becomeLike 113 = .ok (.putfield 54, 3) := by decide +kernel
theorem dX1_becomeLike_116 : decode cX1_becomeLike 116 = .ok (.aload_n 0, 1) := by decide +kernel
theorem dX1_becomeLike_117 : decode cX1_becomeLike 117 = .ok (.aload_n 1, 1) := by decide +kernel
theorem dX1_becomeLike_118 : decode cX1_becomeLike 118 = .ok (.getfield 57, 3) := by decide +kernel
theorem dX1_becomeLike_121 : decode cX1_becomeLike 121 = .ok (.putfield 57, 3) := by decide +kernel
theorem dX1_becomeLike_124 : decode cX1_becomeLike 124 = .ok (.aload_n 0, 1) := by decide +kernel
theorem dX1_becomeLike_125 : decode cX1_becomeLike 125 = .ok (.aload_n 1, 1) := by decide +kernel
theorem dX1_becomeLike_126 : decode cX1_becomeLike 126 = .ok (.getfield 60, 3) := by decide +kernel
theorem dX1_becomeLike_129 : decode cX1_becomeLike 129 = .ok (.putfield 60, 3) := by decide +kernel
theorem dX1_becomeLike_132 : decode cX1_becomeLike 132 = .ok (.aload_n 0, 1) := by decide +kernel
theorem dX1_becomeLike_133 : decode cX1_becomeLike 133 = .ok (.aload_n 1, 1) := by decide +kernel
theorem dX1_becomeLike_134 : decode cX1_becomeLike 134 = .ok (.getfield 33, 3) := by decide +kernel
theorem dX1_becomeLike_137 : decode cX1_becomeLike 137 = .ok (.putfield 33, 3) := by decide +kernel
theorem dX1_becomeLike_140 : decode cX1_becomeLike 140 = .ok (.aload_n 0, 1) := by decide +kernel
theorem dX1_becomeLike_141 : decode cX1_becomeLike 141 = .ok (.aload_n 1, 1) := by decide +kernel
theorem dX1_becomeLike_142 : decode cX1_becomeLike 142 = .ok (.getfield 63, 3) := by decide +kernel
theorem dX1_becomeLike_145 : decode cX1_becomeLike 145 = .ok (.putfield 63, 3) := by decide +kernel
theorem dX1_becomeLike_148 : decode cX1_becomeLike 148 = .ok (.return_, 1) := by decide +kernel
theorem dX1_changeKind_0 : decode cX1_changeKind 0 = .ok (.aload_n 0, 1) := by decide +kernel
theorem dX1_changeKind_1 : decode cX1_changeKind 1 = .ok (.getfield 9, 3) := by decide +kernel
theorem dX1_changeKind_4 : decode cX1_changeKind 4 = .ok (.iload_n 1, 1) := by decide +kernel
theorem dX1_changeKind_5 : decode cX1_changeKind 5 = .ok (.iaload, 1) := by decide +kernel
theorem dX1_changeKind_6 : decode cX1_changeKind 6 = .ok (.istore_n 3, 1) := by decide +kernel
theorem dX1_changeKind_7 : decode cX1_changeKind 7 = .ok (.aload_n 0, 1) := by decide +kernel
theorem dX1_changeKind_8 : decode cX1_changeKind 8 = .ok (.getfield 9, 3) := by decide +kernel
theorem dX1_changeKind_11 : decode cX1_changeKind 11 = .ok (.iload_n 1, 1) := by decide +kernel
theorem dX1_changeKind_12 : decode cX1_changeKind 12 = .ok (.iload_n 2, 1) := by decide +kernel
theorem dX1_changeKind_13 : decode cX1_changeKind 13 = .ok (.iastore, 1) := by decide +kernel
theorem dX1_changeKind_14 : decode cX1_changeKind 14 = .ok (.iload_n 3, 1) := by decide +kernel
theorem dX1_changeKind_15 : decode cX1_changeKind 15 = .ok (.ireturn, 1) := by decide +kernel
theorem dX1_draw_0 : decode cX1_draw 0 = .ok (.aload_n 0, 1) := by decide +kernel
theorem dX1_draw_1 : decode cX1_draw 1 = .ok (.aload_n 0, 1) := by decide +kernel
theorem dX1_draw_2 : decode cX1_draw 2 = .ok (.getfield 33, 3) := by decide +kernel
theorem dX1_draw_5 : decode cX1_draw 5 = .ok (.ldc 66, 2) := by decide +kernel
theorem dX1_draw_7 : decode cX1_draw 7 = .ok (.imul, 1) := by decide +kernel
theorem dX1_draw_8 : decode cX1_draw 8 = .ok (.sipush 12345, 3) := by decide +kernel
theorem dX1_draw_11 : decode cX1_draw 11 = .ok (.iadd, 1) := by decide +kernel
theorem dX1_draw_12 : decode cX1_draw 12 = .ok (.putfield 33, 3) := by decide +kernel
theorem dX1_draw_15 : decode cX1_draw 15 = .ok (.aload_n 0, 1) := by decide +kernel
theorem dX1_draw_16 : decode cX1_draw 16 = .ok (.getfield 33, 3) := by decide +kernel
theorem dX1_draw_19 : decode cX1_draw 19 = .ok (.bipush 8, 2) := by decide +kernel
theorem dX1_draw_21 : decode cX1_draw 21 = .ok (.iushr, 1) := by decide +kernel
theorem dX1_draw_22 : decode cX1_draw 22 = .ok (.ireturn, 1) := by decide +kernel
theorem dX1_drawIsland_0 : decode cX1_drawIsland 0 = .ok (.iconst 0, 1) := by decide +kernel
theorem dX1_drawIsland_1 : decode cX1_drawIsland 1 = .ok (.istore_n 1, 1) := by decide +kernel
theorem dX1_drawIsland_2 : decode cX1_drawIsland 2 = .ok (.iload_n 1, 1) := by decide +kernel
theorem dX1_drawIsland_3 : decode cX1_drawIsland 3 = .ok (.bipush 30, 2) := by decide +kernel
theorem dX1_drawIsland_5 : decode cX1_drawIsland 5 = .ok (.if_icmp .ge 68, 3) := by decide +kernel
theorem dX1_drawIsland_8 : decode cX1_drawIsland 8 = .ok (.aload_n 0, 1) := by decide +kernel
theorem dX1_drawIsland_9 : decode cX1_drawIsland 9 = .ok (.getfield 9, 3) := by decide +kernel
theorem dX1_drawIsland_12 : decode cX1_drawIsland 12 = .ok (.iload_n 1, 1) := by decide +kernel
theorem dX1_drawIsland_13 : decode cX1_drawIsland 13 = .ok (.aload_n 0, 1) := by decide +kernel
theorem dX1_drawIsland_14 : decode cX1_drawIsland 14 = .ok (.invokevirtual 67, 3) := by decide +kernel
theorem dX1_drawIsland_17 : decode cX1_drawIsland 17 = .ok (.bipush 6, 2) := by decide +kernel
theorem dX1_drawIsland_19 : decode cX1_drawIsland 19 = .ok (.irem, 1) := by decide +kernel
theorem dX1_drawIsland_20 : decode cX1_drawIsland 20 = .ok (.iastore, 1) := by decide +kernel
theorem dX1_drawIsland_21 : decode cX1_drawIsland 21 = .ok (.aload_n 0, 1) := by decide +kernel
theorem dX1_drawIsland_22 : decode cX1_drawIsland 22 = .ok (.getfield 15, 3) := by decide +kernel
theorem dX1_drawIsland_25 : decode cX1_drawIsland 25 = .ok (.iload_n 1, 1) := by decide +kernel
theorem dX1_drawIsland_26 : decode cX1_drawIsland 26 = .ok (.aload_n 0, 1) := by decide +kernel
theorem dX1_drawIsland_27 : decode cX1_drawIsland 27 = .ok (.invokevirtual 67, 3) := by decide +kernel
theorem dX1_drawIsland_30 : decode cX1_drawIsland 30 = .ok (.bipush 21, 2) := by decide +kernel
theorem dX1_drawIsland_32 : decode cX1_drawIsland 32 = .ok (.irem, 1) := by decide +kernel
theorem dX1_drawIsland_33 : decode cX1_drawIsland 33 = .ok (.iastore, 1) := by decide +kernel
theorem dX1_drawIsland_34 : decode cX1_drawIsland 34 = .ok (.aload_n 0, 1) := by decide +kernel
theorem dX1_drawIsland_35 : decode cX1_drawIsland 35 = .ok (.invokevirtual 67, 3) := by decide +kernel
theorem dX1_drawIsland_38 : decode cX1_drawIsland 38 = .ok (.bipush 9, 2) := by decide +kernel
theorem dX1_drawIsland_40 : decode cX1_drawIsland 40 = .ok (.irem, 1) := by decide +kernel
theorem dX1_drawIsland_41 : decode cX1_drawIsland 41 = .ok (.istore_n 2, 1) := by decide +kernel
theorem dX1_drawIsland_42 : decode cX1_drawIsland 42 = .ok (.aload_n 0, 1) := by decide +kernel
theorem dX1_drawIsland_43 : decode cX1_drawIsland 43 = .ok (.getfield 21, 3) := by decide +kernel
theorem dX1_drawIsland_46 : decode cX1_drawIsland 46 = .ok (.iload_n 1, 1) := by decide +kernel
theorem dX1_drawIsland_47 : decode cX1_drawIsland 47 = .ok (.iload_n 2, 1) := by decide +kernel
theorem dX1_drawIsland_48 : decode cX1_drawIsland 48 = .ok (.bipush 8, 2) := by decide +kernel
theorem dX1_drawIsland_50 : decode cX1_drawIsland 50 = .ok (.if_icmp .ne 8, 3) := by decide +kernel
theorem dX1_drawIsland_53 : decode cX1_drawIsland 53 = .ok (.ldc 41, 2) := by decide +kernel
theorem dX1_drawIsland_55 : decode cX1_drawIsland 55 = .ok (.goto 4, 3) := by decide +kernel
theorem dX1_drawIsland_58 : decode cX1_drawIsland 58 = .ok (.iload_n 2, 1) := by decide +kernel
theorem dX1_drawIsland_59 : decode cX1_drawIsland 59 = .ok (.iastore, 1) := by decide +kernel
theorem dX1_drawIsland_60 : decode cX1_drawIsland 60 = .ok (.aload_n 0, 1) := by decide +kernel
theorem dX1_drawIsland_61 : decode cX1_drawIsland 61 = .ok (.getfield 18, 3) := by decide +kernel
theorem dX1_drawIsland_64 : decode cX1_drawIsland 64 = .ok (.iload_n 1, 1) := by decide +kernel
theorem dX1_drawIsland_65 : decode cX1_drawIsland 65 = .ok (.iconst 0, 1) := by decide +kernel
theorem dX1_drawIsland_66 : decode cX1_drawIsland 66 = .ok (.iastore, 1) := by decide +kernel
theorem dX1_drawIsland_67 : decode cX1_drawIsland 67 = .ok (.iinc 1 1, 3) := by decide +kernel
theorem dX1_drawIsland_70 : decode cX1_drawIsland 70 = .ok (.goto (-68), 3) := by decide +kernel
theorem dX1_drawIsland_73 : decode cX1_drawIsland 73 = .ok (.return_, 1) := by decide +kernel
theorem dX1_topOf_0 : decode cX1_topOf 0 = .ok (.aload_n 0, 1) := by decide +kernel
theorem dX1_topOf_1 : decode cX1_topOf 1 = .ok (.getfield 9, 3) := by decide +kernel
theorem dX1_topOf_4 : decode cX1_topOf 4 = .ok (.iload_n 1, 1) := by decide +kernel
theorem dX1_topOf_5 : decode cX1_topOf 5 = .ok (.iaload, 1) := by decide +kernel
theorem dX1_topOf_6 : decode cX1_topOf 6 = .ok (.aload_n 0, 1) := by decide +kernel
theorem dX1_topOf_7 : decode cX1_topOf 7 = .ok (.getfield 15, 3) := by decide +kernel
theorem dX1_topOf_10 : decode cX1_topOf 10 = .ok (.iload_n 1, 1) := by decide +kernel
theorem dX1_topOf_11 : decode cX1_topOf 11 = .ok (.iaload, 1) := by decide +kernel
theorem dX1_topOf_12 : decode cX1_topOf 12 = .ok (.aload_n 0, 1) := by decide +kernel
theorem dX1_topOf_13 : decode cX1_topOf 13 = .ok (.getfield 24, 3) := by decide +kernel
theorem dX1_topOf_16 : decode cX1_topOf 16 = .ok (.iconst 5, 1) := by decide +kernel
theorem dX1_topOf_17 : decode cX1_topOf 17 = .ok (.iaload, 1) := by decide +kernel
theorem dX1_topOf_18 : decode cX1_topOf 18 = .ok (.invokestatic 71, 3) := by decide +kernel
theorem dX1_topOf_21 : decode cX1_topOf 21 = .ok (.ireturn, 1) := by decide +kernel
theorem dX1_roomOf_0 : decode cX1_roomOf 0 = .ok (.aload_n 0, 1) := by decide +kernel
theorem dX1_roomOf_1 : decode cX1_roomOf 1 = .ok (.getfield 37, 3) := by decide +kernel
theorem dX1_roomOf_4 : decode cX1_roomOf 4 = .ok (.iconst 2, 1) := by decide +kernel
theorem dX1_roomOf_5 : decode cX1_roomOf 5 = .ok (.aload_n 0, 1) := by decide +kernel
theorem dX1_roomOf_6 : decode cX1_roomOf 6 = .ok (.getfield 63, 3) := by decide +kernel
theorem dX1_roomOf_9 : decode cX1_roomOf 9 = .ok (.invokevirtual 77, 3) := by decide +kernel
theorem dX1_roomOf_12 : decode cX1_roomOf 12 = .ok (.istore_n 2, 1) := by decide +kernel
theorem dX1_roomOf_13 : decode cX1_roomOf 13 = .ok (.iload_n 2, 1) := by decide +kernel
theorem dX1_roomOf_14 : decode cX1_roomOf 14 = .ok (.ldc 41, 2) := by decide +kernel
theorem dX1_roomOf_16 : decode cX1_roomOf 16 = .ok (.if_icmp .ne 8, 3) := by decide +kernel
theorem dX1_roomOf_19 : decode cX1_roomOf 19 = .ok (.bipush 10, 2) := by decide +kernel
theorem dX1_roomOf_21 : decode cX1_roomOf 21 = .ok (.goto 29, 3) := by decide +kernel
theorem dX1_roomOf_24 : decode cX1_roomOf 24 = .ok (.aload_n 0, 1) := by decide +kernel
theorem dX1_roomOf_25 : decode cX1_roomOf 25 = .ok (.getfield 37, 3) := by decide +kernel
theorem dX1_roomOf_28 : decode cX1_roomOf 28 = .ok (.iload_n 2, 1) := by decide +kernel
theorem dX1_roomOf_29 : decode cX1_roomOf 29 = .ok (.aload_n 0, 1) := by decide +kernel
theorem dX1_roomOf_30 : decode cX1_roomOf 30 = .ok (.iload_n 1, 1) := by decide +kernel
theorem dX1_roomOf_31 : decode cX1_roomOf 31 = .ok (.invokevirtual 83, 3) := by decide +kernel
theorem dX1_roomOf_34 : decode cX1_roomOf 34 = .ok (.aload_n 0, 1) := by decide +kernel
theorem dX1_roomOf_35 : decode cX1_roomOf 35 = .ok (.getfield 15, 3) := by decide +kernel
theorem dX1_roomOf_38 : decode cX1_roomOf 38 = .ok (.iload_n 1, 1) := by decide +kernel
theorem dX1_roomOf_39 : decode cX1_roomOf 39 = .ok (.iaload, 1) := by decide +kernel
theorem dX1_roomOf_40 : decode cX1_roomOf 40 = .ok (.iconst 0, 1) := by decide +kernel
theorem dX1_roomOf_41 : decode cX1_roomOf 41 = .ok (.invokevirtual 86, 3) := by decide +kernel
theorem dX1_roomOf_44 : decode cX1_roomOf 44 = .ok (.iconst 0, 1) := by decide +kernel
theorem dX1_roomOf_45 : decode cX1_roomOf 45 = .ok (.bipush 99, 2) := by decide +kernel
theorem dX1_roomOf_47 : decode cX1_roomOf 47 = .ok (.invokestatic 90, 3) := by decide +kernel
theorem dX1_roomOf_50 : decode cX1_roomOf 50 = .ok (.istore_n 3, 1) := by decide +kernel
theorem dX1_roomOf_51 : decode cX1_roomOf 51 = .ok (.aload_n 0, 1) := by decide +kernel
theorem dX1_roomOf_52 : decode cX1_roomOf 52 = .ok (.getfield 9, 3) := by decide +kernel
theorem dX1_roomOf_55 : decode cX1_roomOf 55 = .ok (.iload_n 1, 1) := by decide +kernel
theorem dX1_roomOf_56 : decode cX1_roomOf 56 = .ok (.iaload, 1) := by decide +kernel
theorem dX1_roomOf_57 : decode cX1_roomOf 57 = .ok (.iload_n 3, 1) := by decide +kernel
theorem dX1_roomOf_58 : decode cX1_roomOf 58 = .ok (.aload_n 0, 1) := by decide +kernel
theorem dX1_roomOf_59 : decode cX1_roomOf 59 = .ok (.getfield 18, 3) := by decide +kernel
theorem dX1_roomOf_62 : decode cX1_roomOf 62 = .ok (.iload_n 1, 1) := by decide +kernel
theorem dX1_roomOf_63 : decode cX1_roomOf 63 = .ok (.iaload, 1) := by decide +kernel
theorem dX1_roomOf_64 : decode cX1_roomOf 64 = .ok (.invokestatic 93, 3) := by decide +kernel
theorem dX1_roomOf_67 : decode cX1_roomOf 67 = .ok (.ireturn, 1) := by decide +kernel
theorem dX1_growthOf_0 : decode cX1_growthOf 0 = .ok (.aload_n 0, 1) := by decide +kernel
theorem dX1_growthOf_1 : decode cX1_growthOf 1 = .ok (.getfield 37, 3) := by decide +kernel
theorem dX1_growthOf_4 : decode cX1_growthOf 4 = .ok (.iconst 1, 1) := by decide +kernel
theorem dX1_growthOf_5 : decode cX1_growthOf 5 = .ok (.aload_n 0, 1) := by decide +kernel
theorem dX1_growthOf_6 : decode cX1_growthOf 6 = .ok (.getfield 63, 3) := by decide +kernel
theorem dX1_growthOf_9 : decode cX1_growthOf 9 = .ok (.invokevirtual 77, 3) := by decide +kernel
theorem dX1_growthOf_12 : decode cX1_growthOf 12 = .ok (.istore_n 2, 1) := by decide +kernel
theorem dX1_growthOf_13 : decode cX1_growthOf 13 = .ok (.iload_n 2, 1) := by decide +kernel
theorem dX1_growthOf_14 : decode cX1_growthOf 14 = .ok (.ldc 41, 2) := by decide +kernel
theorem dX1_growthOf_16 : decode cX1_growthOf 16 = .ok (.if_icmp .ne 7, 3) := by decide +kernel
theorem dX1_growthOf_19 : decode cX1_growthOf 19 = .ok (.iconst 1, 1) := by decide +kernel
theorem dX1_growthOf_20 : decode cX1_growthOf 20 = .ok (.goto 30, 3) := by decide +kernel
theorem dX1_growthOf_23 : decode cX1_growthOf 23 = .ok (.aload_n 0, 1) := by decide +kernel
theorem dX1_growthOf_24 : decode cX1_growthOf 24 = .ok (.getfield 37, 3) := by decide +kernel
theorem dX1_growthOf_27 : decode cX1_growthOf 27 = .ok (.iload_n 2, 1) := by decide +kernel
theorem dX1_growthOf_28 : decode cX1_growthOf 28 = .ok (.aload_n 0, 1) := by decide +kernel
theorem dX1_growthOf_29 : decode cX1_growthOf 29 = .ok (.getfield 18, 3) := by decide +kernel
theorem dX1_growthOf_32 : decode cX1_growthOf 32 = .ok (.iload_n 1, 1) := by decide +kernel
theorem dX1_growthOf_33 : decode cX1_growthOf 33 = .ok (.iaload, 1) := by decide +kernel
theorem dX1_growthOf_34 : decode cX1_growthOf 34 = .ok (.aload_n 0, 1) := by decide +kernel
theorem dX1_growthOf_35 : decode cX1_growthOf 35 = .ok (.getfield 15, 3) := by decide +kernel
theorem dX1_growthOf_38 : decode cX1_growthOf 38 = .ok (.iload_n 1, 1) := by decide +kernel
theorem dX1_growthOf_39 : decode cX1_growthOf 39 = .ok (.iaload, 1) := by decide +kernel
theorem dX1_growthOf_40 : decode cX1_growthOf 40 = .ok (.iconst 0, 1) := by decide +kernel
theorem dX1_growthOf_41 : decode cX1_growthOf 41 = .ok (.invokevirtual 86, 3) := by decide +kernel
theorem dX1_growthOf_44 : decode cX1_growthOf 44 = .ok (.iconst 0, 1) := by decide +kernel
theorem dX1_growthOf_45 : decode cX1_growthOf 45 = .ok (.bipush 9, 2) := by decide +kernel
theorem dX1_growthOf_47 : decode cX1_growthOf 47 = .ok (.invokestatic 90, 3) := by decide +kernel
theorem dX1_growthOf_50 : decode cX1_growthOf 50 = .ok (.ireturn, 1) := by decide +kernel
theorem dX1_levelAt_0 : decode cX1_levelAt 0 = .ok (.aload_n 0, 1) := by decide +kernel
theorem dX1_levelAt_1 : decode cX1_levelAt 1 = .ok (.getfield 57, 3) := by decide +kernel
theorem dX1_levelAt_4 : decode cX1_levelAt 4 = .ok (.iload_n 1, 1) := by decide +kernel
theorem dX1_levelAt_5 : decode cX1_levelAt 5 = .ok (.iadd, 1) := by decide +kernel
theorem dX1_levelAt_6 : decode cX1_levelAt 6 = .ok (.istore_n 2, 1) := by decide +kernel
theorem dX1_levelAt_7 : decode cX1_levelAt 7 = .ok (.aload_n 0, 1) := by decide +kernel
theorem dX1_levelAt_8 : decode cX1_levelAt 8 = .ok (.getfield 37, 3) := by decide +kernel
theorem dX1_levelAt_11 : decode cX1_levelAt 11 = .ok (.iconst 0, 1) := by decide +kernel
theorem dX1_levelAt_12 : decode cX1_levelAt 12 = .ok (.aload_n 0, 1) := by decide +kernel
theorem dX1_levelAt_13 : decode cX1_levelAt 13 = .ok (.getfield 63, 3) := by decide +kernel
theorem dX1_levelAt_16 : decode cX1_levelAt 16 = .ok (.invokevirtual 77, 3) := by decide +kernel
theorem dX1_levelAt_19 : decode cX1_levelAt 19 = .ok (.istore_n 3, 1) := by decide +kernel
theorem dX1_levelAt_20 : decode cX1_levelAt 20 = .ok (.iload_n 3, 1) := by decide +kernel
theorem dX1_levelAt_21 : decode cX1_levelAt 21 = .ok (.ldc 41, 2) := by decide +kernel
theorem dX1_levelAt_23 : decode cX1_levelAt 23 = .ok (.if_icmp .ne 9, 3) := by decide +kernel
theorem dX1_levelAt_26 : decode cX1_levelAt 26 = .ok (.aload_n 0, 1) := by decide +kernel
theorem dX1_levelAt_27 : decode cX1_levelAt 27 = .ok (.iload_n 2, 1) := by decide +kernel
theorem dX1_levelAt_28 : decode cX1_levelAt 28 = .ok (.invokevirtual 96, 3) := by decide +kernel
theorem dX1_levelAt_31 : decode cX1_levelAt 31 = .ok (.ireturn, 1) := by decide +kernel
theorem dX1_levelAt_32 : decode cX1_levelAt 32 = .ok (.aload_n 0, 1) := by decide +kernel
theorem dX1_levelAt_33 : decode cX1_levelAt 33 = .ok (.getfield 37, 3) := by decide +kernel
theorem dX1_levelAt_36 : decode cX1_levelAt 36 = .ok (.iload_n 3, 1) := by decide +kernel
theorem dX1_levelAt_37 : decode cX1_levelAt 37 = .ok (.iload_n 2, 1) := by decide +kernel
theorem dX1_levelAt_38 : decode cX1_levelAt 38 = .ok (.bipush 24, 2) := by decide +kernel
theorem dX1_levelAt_40 : decode cX1_levelAt 40 = .ok (.irem, 1) := by decide +kernel
theorem dX1_levelAt_41 : decode cX1_levelAt 41 = .ok (.iload_n 2, 1) := by decide +kernel
theorem dX1_levelAt_42 : decode cX1_levelAt 42 = .ok (.bipush 24, 2) := by decide +kernel
theorem dX1_levelAt_44 : decode cX1_levelAt 44 = .ok (.idiv, 1) := by decide +kernel
theorem dX1_levelAt_45 : decode cX1_levelAt 45 = .ok (.aload_n 0, 1) := by decide +kernel
theorem dX1_levelAt_46 : decode cX1_levelAt 46 = .ok (.getfield 24, 3) := by decide +kernel
theorem dX1_levelAt_49 : decode cX1_levelAt 49 = .ok (.iconst 3, 1) := by decide +kernel
theorem dX1_levelAt_50 : decode cX1_levelAt 50 = .ok (.iaload, 1) := by decide +kernel
theorem dX1_levelAt_51 : decode cX1_levelAt 51 = .ok (.invokevirtual 86, 3) := by decide +kernel
theorem dX1_levelAt_54 : decode cX1_levelAt 54 = .ok (.iconst 0, 1) := by decide +kernel
theorem dX1_levelAt_55 : decode cX1_levelAt 55 = .ok (.bipush 40, 2) := by decide +kernel
theorem dX1_levelAt_57 : decode cX1_levelAt 57 = .ok (.invokestatic 90, 3) := by decide +kernel
theorem dX1_levelAt_60 : decode cX1_levelAt 60 = .ok (.ireturn, 1) := by decide +kernel
theorem dX1_plainLevelAt_0 : decode cX1_plainLevelAt 0 = .ok (.iload_n 1, 1) := by decide +kernel
theorem dX1_plainLevelAt_1 : decode cX1_plainLevelAt 1 = .ok (.bipush 12, 2) := by decide +kernel
theorem dX1_plainLevelAt_3 : decode cX1_plainLevelAt 3 = .ok (.irem, 1) := by decide +kernel
theorem dX1_plainLevelAt_4 : decode cX1_plainLevelAt 4 = .ok (.istore_n 2, 1) := by decide +kernel
theorem dX1_plainLevelAt_5 : decode cX1_plainLevelAt 5 = .ok (.iload_n 2, 1) := by decide +kernel
theorem dX1_plainLevelAt_6 : decode cX1_plainLevelAt 6 = .ok (.bipush 6, 2) := by decide +kernel
theorem dX1_plainLevelAt_8 : decode cX1_plainLevelAt 8 = .ok (.if_icmp .le 10, 3) := by decide +kernel
theorem dX1_plainLevelAt_11 : decode cX1_plainLevelAt 11 = .ok (.bipush 12, 2) := by decide +kernel
theorem dX1_plainLevelAt_13 : decode cX1_plainLevelAt 13 = .ok (.iload_n 2, 1) := by decide +kernel
theorem dX1_plainLevelAt_14 : decode cX1_plainLevelAt 14 = .ok (.isub, 1) := by decide +kernel
theorem dX1_plainLevelAt_15 : decode cX1_plainLevelAt 15 = .ok (.goto 4, 3) := by decide +kernel
theorem dX1_plainLevelAt_18 : decode cX1_plainLevelAt 18 = .ok (.iload_n 2, 1) := by decide +kernel
theorem dX1_plainLevelAt_19 : decode cX1_plainLevelAt 19 = .ok (.istore_n 3, 1) := by decide +kernel
theorem dX1_plainLevelAt_20 : decode cX1_plainLevelAt 20 = .ok (.aload_n 0, 1) := by decide +kernel
theorem dX1_plainLevelAt_21 : decode cX1_plainLevelAt 21 = .ok (.getfield 24, 3) := by decide +kernel
theorem dX1_plainLevelAt_24 : decode cX1_plainLevelAt 24 = .ok (.iconst 0, 1) := by decide +kernel
theorem dX1_plainLevelAt_25 : decode cX1_plainLevelAt 25 = .ok (.iaload, 1) := by decide +kernel
theorem dX1_plainLevelAt_26 : decode cX1_plainLevelAt 26 = .ok (.bipush 6, 2) := by decide +kernel
theorem dX1_plainLevelAt_28 : decode cX1_plainLevelAt 28 = .ok (.iload_n 3, 1) := by decide +kernel
theorem dX1_plainLevelAt_29 : decode cX1_plainLevelAt 29 = .ok (.isub, 1) := by decide +kernel
theorem dX1_plainLevelAt_30 : decode cX1_plainLevelAt 30 = .ok (.imul, 1) := by decide +kernel
theorem dX1_plainLevelAt_31 : decode cX1_plainLevelAt 31 = .ok (.aload_n 0, 1) := by decide +kernel
theorem dX1_plainLevelAt_32 : decode cX1_plainLevelAt 32 = .ok (.getfield 24, 3) := by decide +kernel
theorem dX1_plainLevelAt_35 : decode cX1_plainLevelAt 35 = .ok (.iconst 1, 1) := by decide +kernel
theorem dX1_plainLevelAt_36 : decode cX1_plainLevelAt 36 = .ok (.iaload, 1) := by decide +kernel
theorem dX1_plainLevelAt_37 : decode cX1_plainLevelAt 37 = .ok (.iload_n 3, 1) := by decide +kernel
theorem dX1_plainLevelAt_38 : decode cX1_plainLevelAt 38 = .ok (.imul, 1) := by decide +kernel
theorem dX1_plainLevelAt_39 : decode cX1_plainLevelAt 39 = .ok (.iadd, 1) := by decide +kernel
theorem dX1_plainLevelAt_40 : decode cX1_plainLevelAt 40 = .ok (.bipush 6, 2) := by decide +kernel
theorem dX1_plainLevelAt_42 : decode cX1_plainLevelAt 42 = .ok (.idiv, 1) := by decide +kernel
theorem dX1_plainLevelAt_43 : decode cX1_plainLevelAt 43 = .ok (.istore 4, 2) := by decide +kernel
theorem dX1_plainLevelAt_45 : decode cX1_plainLevelAt 45 = .ok (.iload_n 1, 1) := by decide +kernel
theorem dX1_plainLevelAt_46 : decode cX1_plainLevelAt 46 = .ok (.bipush 24, 2) := by decide +kernel
theorem dX1_plainLevelAt_48 : decode cX1_plainLevelAt 48 = .ok (.idiv, 1) := by decide +kernel
theorem dX1_plainLevelAt_49 : decode cX1_plainLevelAt 49 = .ok (.bipush 15, 2) := by decide +kernel
theorem dX1_plainLevelAt_51 : decode cX1_plainLevelAt 51 = .ok (.irem, 1) := by decide +kernel
theorem dX1_plainLevelAt_52 : decode cX1_plainLevelAt 52 = .ok (.ifCond .ne 12, 3) := by decide +kernel
theorem dX1_plainLevelAt_55 : decode cX1_plainLevelAt 55 = .ok (.aload_n 0, 1) := by decide +kernel
theorem dX1_plainLevelAt_56 : decode cX1_plainLevelAt 56 = .ok (.getfield 24, 3) := by decide +kernel
theorem dX1_plainLevelAt_59 : decode cX1_plainLevelAt 59 = .ok (.iconst 2, 1) := by decide +kernel
theorem dX1_plainLevelAt_60 : decode cX1_plainLevelAt 60 = .ok (.iaload, 1) := by decide +kernel
theorem dX1_plainLevelAt_61 : decode cX1_plainLevelAt 61 = .ok (.goto 4, 3) := by decide +kernel
theorem dX1_plainLevelAt_64 : decode cX1_plainLevelAt 64 = .ok (.iconst 0, 1) := by decide +kernel
theorem dX1_plainLevelAt_65 : decode cX1_plainLevelAt 65 = .ok (.istore 5, 2) := by decide +kernel
theorem dX1_plainLevelAt_67 : decode cX1_plainLevelAt 67 = .ok (.iload 4, 2) := by decide +kernel
theorem dX1_plainLevelAt_69 : decode cX1_plainLevelAt 69 = .ok (.iload 5, 2) := by decide +kernel
theorem dX1_plainLevelAt_71 : decode cX1_plainLevelAt 71 = .ok (.iadd, 1) := by decide +kernel
theorem dX1_plainLevelAt_72 : decode cX1_plainLevelAt 72 = .ok (.aload_n 0, 1) := by decide +kernel
theorem dX1_plainLevelAt_73 : decode cX1_plainLevelAt 73 = .ok (.getfield 24, 3) := by decide +kernel
theorem dX1_plainLevelAt_76 : decode cX1_plainLevelAt 76 = .ok (.iconst 3, 1) := by decide +kernel
theorem dX1_plainLevelAt_77 : decode cX1_plainLevelAt 77 = .ok (.iaload, 1) := by decide +kernel
theorem dX1_plainLevelAt_78 : decode cX1_plainLevelAt 78 = .ok (.iadd, 1) := by decide +kernel
theorem dX1_plainLevelAt_79 : decode cX1_plainLevelAt 79 = .ok (.ireturn, 1) := by decide +kernel
theorem dX1_dryCells_0 : decode cX1_dryCells 0 = .ok (.aload_n 0, 1) := by decide +kernel
theorem dX1_dryCells_1 : decode cX1_dryCells 1 = .ok (.iload_n 1, 1) := by decide +kernel
theorem dX1_dryCells_2 : decode cX1_dryCells 2 = .ok (.invokevirtual 99, 3) := by decide +kernel
theorem dX1_dryCells_5 : decode cX1_dryCells 5 = .ok (.istore_n 2, 1) := by decide +kernel
theorem dX1_dryCells_6 : decode cX1_dryCells 6 = .ok (.iconst 0, 1) := by decide +kernel
theorem dX1_dryCells_7 : decode cX1_dryCells 7 = .ok (.istore_n 3, 1) := by decide +kernel
theorem dX1_dryCells_8 : decode cX1_dryCells 8 = .ok (.iconst 0, 1) := by decide +kernel
theorem dX1_dryCells_9 : decode cX1_dryCells 9 = .ok (.istore 4, 2) := by decide +kernel
theorem dX1_dryCells_11 : decode cX1_dryCells 11 = .ok (.iload 4, 2) := by decide +kernel
theorem dX1_dryCells_13 : decode cX1_dryCells 13 = .ok (.bipush 30, 2) := by decide +kernel
theorem dX1_dryCells_15 : decode cX1_dryCells 15 = .ok (.if_icmp .ge 26, 3) := by decide +kernel
theorem dX1_dryCells_18 : decode cX1_dryCells 18 = .ok (.aload_n 0, 1) := by decide +kernel
theorem dX1_dryCells_19 : decode cX1_dryCells 19 = .ok (.iload 4, 2) := by decide +kernel
theorem dX1_dryCells_21 : decode cX1_dryCells 21 = .ok (.invokevirtual 83, 3) := by decide +kernel
theorem dX1_dryCells_24 : decode cX1_dryCells 24 = .ok (.iload_n 2, 1) := by decide +kernel
theorem dX1_dryCells_25 : decode cX1_dryCells 25 = .ok (.if_icmp .le 10, 3) := by decide +kernel
theorem dX1_dryCells_28 : decode cX1_dryCells 28 = .ok (.iload_n 3, 1) := by decide +kernel
theorem dX1_dryCells_29 : decode cX1_dryCells 29 = .ok (.iconst 1, 1) := by decide +kernel
theorem dX1_dryCells_30 : decode cX1_dryCells 30 = .ok (.iload 4, 2) := by decide +kernel
theorem dX1_dryCells_32 : decode cX1_dryCells 32 = .ok (.ishl, 1) := by decide +kernel
theorem dX1_dryCells_33 : decode cX1_dryCells 33 = .ok (.ior, 1) := by decide +kernel
theorem dX1_dryCells_34 : decode cX1_dryCells 34 = .ok (.istore_n 3, 1) := by decide +kernel
theorem dX1_dryCells_35 : decode cX1_dryCells 35 = .ok (.iinc 4 1, 3) := by decide +kernel
theorem dX1_dryCells_38 : decode cX1_dryCells 38 = .ok (.goto (-27), 3) := by decide +kernel
theorem dX1_dryCells_41 : decode cX1_dryCells 41 = .ok (.iload_n 3, 1) := by decide +kernel
theorem dX1_dryCells_42 : decode cX1_dryCells 42 = .ok (.ireturn, 1) := by decide +kernel
theorem dX1_sizeAt_0 : decode cX1_sizeAt 0 = .ok (.aload_n 0, 1) := by decide +kernel
theorem dX1_sizeAt_1 : decode cX1_sizeAt 1 = .ok (.iload_n 1, 1) := by decide +kernel
theorem dX1_sizeAt_2 : decode cX1_sizeAt 2 = .ok (.invokevirtual 102, 3) := by decide +kernel
theorem dX1_sizeAt_5 : decode cX1_sizeAt 5 = .ok (.invokestatic 105, 3) := by decide +kernel
theorem dX1_sizeAt_8 : decode cX1_sizeAt 8 = .ok (.ireturn, 1) := by decide +kernel
theorem dX1_worstOf_0 : decode cX1_worstOf 0 = .ok (.iconst 0, 1) := by decide +kernel
theorem dX1_worstOf_1 : decode cX1_worstOf 1 = .ok (.istore_n 2, 1) := by decide +kernel
theorem dX1_worstOf_2 : decode cX1_worstOf 2 = .ok (.bipush 31, 2) := by decide +kernel
theorem dX1_worstOf_4 : decode cX1_worstOf 4 = .ok (.istore_n 3, 1) := by decide +kernel
theorem dX1_worstOf_5 : decode cX1_worstOf 5 = .ok (.iconst 0, 1) := by decide +kernel
theorem dX1_worstOf_6 : decode cX1_worstOf 6 = .ok (.istore 4, 2) := by decide +kernel
theorem dX1_worstOf_8 : decode cX1_worstOf 8 = .ok (.iload 4, 2) := by decide +kernel
theorem dX1_worstOf_10 : decode cX1_worstOf 10 = .ok (.iload_n 1, 1) := by decide +kernel
theorem dX1_worstOf_11 : decode cX1_worstOf 11 = .ok (.if_icmp .ge 29, 3) := by decide +kernel
theorem dX1_worstOf_14 : decode cX1_worstOf 14 = .ok (.aload_n 0, 1) := by decide +kernel
theorem dX1_worstOf_15 : decode cX1_worstOf 15 = .ok (.iload 4, 2) := by decide +kernel
theorem dX1_worstOf_17 : decode cX1_worstOf 17 = .ok (.invokevirtual 110, 3) := by decide +kernel
theorem dX1_worstOf_20 : decode cX1_worstOf 20 = .ok (.istore 5, 2) := by decide +kernel
theorem dX1_worstOf_22 : decode cX1_worstOf 22 = .ok (.iload 5, 2) := by decide +kernel
theorem dX1_worstOf_24 : decode cX1_worstOf 24 = .ok (.iload_n 3, 1) := by decide +kernel
theorem dX1_worstOf_25 : decode cX1_worstOf 25 = .ok (.if_icmp .ge 9, 3) := by decide +kernel
theorem dX1_worstOf_28 : decode cX1_worstOf 28 = .ok (.iload 5, 2) := by decide +kernel
theorem dX1_worstOf_30 : decode cX1_worstOf 30 = .ok (.istore_n 3, 1) := by decide +kernel
theorem dX1_worstOf_31 : decode cX1_worstOf 31 = .ok (.iload 4, 2) := by decide +kernel
theorem dX1_worstOf_33 : decode cX1_worstOf 33 = .ok (.istore_n 2, 1) := by decide +kernel
theorem dX1_worstOf_34 : decode cX1_worstOf 34 = .ok (.iinc 4 1, 3) := by decide +kernel
theorem dX1_worstOf_37 : decode cX1_worstOf 37 = .ok (.goto (-29), 3) := by decide +kernel
theorem dX1_worstOf_40 : decode cX1_worstOf 40 = .ok (.iload_n 2, 1) := by decide +kernel
theorem dX1_worstOf_41 : decode cX1_worstOf 41 = .ok (.ireturn, 1) := by decide +kernel
theorem dX1_dryHours_0 : decode cX1_dryHours 0 = .ok (.aload_n 0, 1) := by decide +kernel
theorem dX1_dryHours_1 : decode cX1_dryHours 1 = .ok (.iload_n 1, 1) := by decide +kernel
theorem dX1_dryHours_2 : decode cX1_dryHours 2 = .ok (.invokevirtual 83, 3) := by decide +kernel
theorem dX1_dryHours_5 : decode cX1_dryHours 5 = .ok (.istore_n 2, 1) := by decide +kernel
theorem dX1_dryHours_6 : decode cX1_dryHours 6 = .ok (.iconst 0, 1) := by decide +kernel
theorem dX1_dryHours_7 : decode cX1_dryHours 7 = .ok (.istore_n 3, 1) := by decide +kernel
theorem dX1_dryHours_8 : decode cX1_dryHours 8 = .ok (.iload_n 3, 1) := by decide +kernel
theorem dX1_dryHours_9 : decode cX1_dryHours 9 = .ok (.bipush 48, 2) := by decide +kernel
theorem dX1_dryHours_11 : decode cX1_dryHours 11 = .ok (.if_icmp .ge 18, 3) := by decide +kernel
theorem dX1_dryHours_14 : decode cX1_dryHours 14 = .ok (.iload_n 2, 1) := by decide +kernel
theorem dX1_dryHours_15 : decode cX1_dryHours 15 = .ok (.aload_n 0, 1) := by decide +kernel
theorem dX1_dryHours_16 : decode cX1_dryHours 16 = .ok (.iload_n 3, 1) := by decide +kernel
theorem dX1_dryHours_17 : decode cX1_dryHours 17 = .ok (.invokevirtual 99, 3) := by decide +kernel
theorem dX1_dryHours_20 : decode cX1_dryHours 20 = .ok (.if_icmp .le 9, 3) := by decide +kernel
theorem dX1_dryHours_23 : decode cX1_dryHours 23 = .ok (.iinc 3 1, 3) := by decide +kernel
theorem dX1_dryHours_26 : decode cX1_dryHours 26 = .ok (.goto (-18), 3) := by decide +kernel
theorem dX1_dryHours_29 : decode cX1_dryHours 29 = .ok (.iload_n 3, 1) := by decide +kernel
theorem dX1_dryHours_30 : decode cX1_dryHours 30 = .ok (.ireturn, 1) := by decide +kernel
theorem dX1_windowOf_0 : decode cX1_windowOf 0 = .ok (.aload_n 0, 1) := by decide +kernel
theorem dX1_windowOf_1 : decode cX1_windowOf 1 = .ok (.iload_n 1, 1) := by decide +kernel
theorem dX1_windowOf_2 : decode cX1_windowOf 2 = .ok (.invokevirtual 83, 3) := by decide +kernel
theorem dX1_windowOf_5 : decode cX1_windowOf 5 = .ok (.istore_n 3, 1) := by decide +kernel
theorem dX1_windowOf_6 : decode cX1_windowOf 6 = .ok (.iconst 0, 1) := by decide +kernel
theorem dX1_windowOf_7 : decode cX1_windowOf 7 = .ok (.istore 4, 2) := by decide +kernel
theorem dX1_windowOf_9 : decode cX1_windowOf 9 = .ok (.iconst 0, 1) := by decide +kernel
theorem dX1_windowOf_10 : decode cX1_windowOf 10 = .ok (.istore 5, 2) := by decide +kernel
theorem dX1_windowOf_12 : decode cX1_windowOf 12 = .ok (.iload 5, 2) := by decide +kernel
theorem dX1_windowOf_14 : decode cX1_windowOf 14 = .ok (.bipush 99, 2) := by decide +kernel
theorem dX1_windowOf_16 : decode cX1_windowOf 16 = .ok (.iload_n 2, 1) := by decide +kernel
theorem dX1_windowOf_17 : decode cX1_windowOf 17 = .ok (.iadd, 1) := by decide +kernel
theorem dX1_windowOf_18 : decode cX1_windowOf 18 = .ok (.if_icmp .ge 42, 3) := by decide +kernel
theorem dX1_windowOf_21 : decode cX1_windowOf 21 = .ok (.iload_n 3, 1) := by decide +kernel
theorem dX1_windowOf_22 : decode cX1_windowOf 22 = .ok (.aload_n 0, 1) := by decide +kernel
theorem dX1_windowOf_23 : decode cX1_windowOf 23 = .ok (.iload 5, 2) := by decide +kernel
theorem dX1_windowOf_25 : decode cX1_windowOf 25 = .ok (.invokevirtual 99, 3) := by decide +kernel
theorem dX1_windowOf_28 : decode cX1_windowOf 28 = .ok (.if_icmp .le 10, 3) := by decide +kernel
theorem dX1_windowOf_31 : decode cX1_windowOf 31 = .ok (.iload 4, 2) := by decide +kernel
theorem dX1_windowOf_33 : decode cX1_windowOf 33 = .ok (.iconst 1, 1) := by decide +kernel
theorem dX1_windowOf_34 : decode cX1_windowOf 34 = .ok (.iadd, 1) := by decide +kernel
theorem dX1_windowOf_35 : decode cX1_windowOf 35 = .ok (.goto 4, 3) := by decide +kernel
theorem dX1_windowOf_38 : decode cX1_windowOf 38 = .ok (.iconst 0, 1) := by decide +kernel
theorem dX1_windowOf_39 : decode cX1_windowOf 39 = .ok (.istore 4, 2) := by decide +kernel
theorem dX1_windowOf_41 : decode cX1_windowOf 41 = .ok (.iload 4, 2) := by decide +kernel
theorem dX1_windowOf_43 : decode cX1_windowOf 43 = .ok (.iload_n 2, 1) := by decide +kernel
theorem dX1_windowOf_44 : decode cX1_windowOf 44 = .ok (.if_icmp .ne 10, 3) := by decide +kernel
theorem dX1_windowOf_47 : decode cX1_windowOf 47 = .ok (.iload 5, 2) := by decide +kernel
theorem dX1_windowOf_49 : decode cX1_windowOf 49 = .ok (.iload_n 2, 1) := by decide +kernel
theorem dX1_windowOf_50 : decode cX1_windowOf 50 = .ok (.isub, 1) := by decide +kernel
theorem dX1_windowOf_51 : decode cX1_windowOf 51 = .ok (.iconst 1, 1) := by decide +kernel
theorem dX1_windowOf_52 : decode cX1_windowOf 52 = .ok (.iadd, 1) := by decide +kernel
theorem dX1_windowOf_53 : decode cX1_windowOf 53 = .ok (.ireturn, 1) := by decide +kernel
theorem dX1_windowOf_54 : decode cX1_windowOf 54 = .ok (.iinc 5 1, 3) := by decide +kernel
theorem dX1_windowOf_57 : decode cX1_windowOf 57 = .ok (.goto (-45), 3) := by decide +kernel
theorem dX1_windowOf_60 : decode cX1_windowOf 60 = .ok (.ldc 41, 2) := by decide +kernel
theorem dX1_windowOf_62 : decode cX1_windowOf 62 = .ok (.ireturn, 1) := by decide +kernel
theorem dX1_ownedDry_0 : decode cX1_ownedDry 0 = .ok (.aload_n 0, 1) := by decide +kernel
theorem dX1_ownedDry_1 : decode cX1_ownedDry 1 = .ok (.iload_n 2, 1) := by decide +kernel
theorem dX1_ownedDry_2 : decode cX1_ownedDry 2 = .ok (.invokevirtual 99, 3) := by decide +kernel
theorem dX1_ownedDry_5 : decode cX1_ownedDry 5 = .ok (.istore_n 3, 1) := by decide +kernel
theorem dX1_ownedDry_6 : decode cX1_ownedDry 6 = .ok (.iconst 0, 1) := by decide +kernel
theorem dX1_ownedDry_7 : decode cX1_ownedDry 7 = .ok (.istore 4, 2) := by decide +kernel
theorem dX1_ownedDry_9 : decode cX1_ownedDry 9 = .ok (.iconst 0, 1) := by decide +kernel
theorem dX1_ownedDry_10 : decode cX1_ownedDry 10 = .ok (.istore 5, 2) := by decide +kernel
theorem dX1_ownedDry_12 : decode cX1_ownedDry 12 = .ok (.iload 5, 2) := by decide +kernel
theorem dX1_ownedDry_14 : decode cX1_ownedDry 14 = .ok (.bipush 30, 2) := by decide +kernel
theorem dX1_ownedDry_16 : decode cX1_ownedDry 16 = .ok (.if_icmp .ge 33, 3) := by decide +kernel
theorem dX1_ownedDry_19 : decode cX1_ownedDry 19 = .ok (.aload_n 0, 1) := by decide +kernel
theorem dX1_ownedDry_20 : decode cX1_ownedDry 20 = .ok (.getfield 21, 3) := by decide +kernel
theorem dX1_ownedDry_23 : decode cX1_ownedDry 23 = .ok (.iload 5, 2) := by decide +kernel
theorem dX1_ownedDry_25 : decode cX1_ownedDry 25 = .ok (.iaload, 1) := by decide +kernel
theorem dX1_ownedDry_26 : decode cX1_ownedDry 26 = .ok (.iload_n 1, 1) := by decide +kernel
theorem dX1_ownedDry_27 : decode cX1_ownedDry 27 = .ok (.if_icmp .ne 16, 3) := by decide +kernel
theorem dX1_ownedDry_30 : decode cX1_ownedDry 30 = .ok (.aload_n 0, 1) := by decide +kernel
theorem dX1_ownedDry_31 : decode cX1_ownedDry 31 = .ok (.iload 5, 2) := by decide +kernel
theorem dX1_ownedDry_33 : decode cX1_ownedDry 33 = .ok (.invokevirtual 83, 3) := by decide +kernel
theorem dX1_ownedDry_36 : decode cX1_ownedDry 36 = .ok (.iload_n 3, 1) := by decide +kernel
theorem dX1_ownedDry_37 : decode cX1_ownedDry 37 = .ok (.if_icmp .le 6, 3) := by decide +kernel
theorem dX1_ownedDry_40 : decode cX1_ownedDry 40 = .ok (.iinc 4 1, 3) := by decide +kernel
theorem dX1_ownedDry_43 : decode cX1_ownedDry 43 = .ok (.iinc 5 1, 3) := by decide +kernel
theorem dX1_ownedDry_46 : decode cX1_ownedDry 46 = .ok (.goto (-34), 3) := by decide +kernel
theorem dX1_ownedDry_49 : decode cX1_ownedDry 49 = .ok (.iload 4, 2) := by decide +kernel
theorem dX1_ownedDry_51 : decode cX1_ownedDry 51 = .ok (.ireturn, 1) := by decide +kernel
theorem dX1_ownedInDay_0 : decode cX1_ownedInDay 0 = .ok (.iconst 0, 1) := by decide +kernel
theorem dX1_ownedInDay_1 : decode cX1_ownedInDay 1 = .ok (.istore_n 2, 1) := by decide +kernel
theorem dX1_ownedInDay_2 : decode cX1_ownedInDay 2 = .ok (.iconst 0, 1) := by decide +kernel
theorem dX1_ownedInDay_3 : decode cX1_ownedInDay 3 = .ok (.istore_n 3, 1) := by decide +kernel
theorem dX1_ownedInDay_4 : decode cX1_ownedInDay 4 = .ok (.iload_n 3, 1) := by decide +kernel
theorem dX1_ownedInDay_5 : decode cX1_ownedInDay 5 = .ok (.bipush 24, 2) := by decide +kernel
theorem dX1_ownedInDay_7 : decode cX1_ownedInDay 7 = .ok (.if_icmp .ge 18, 3) := by decide +kernel
theorem dX1_ownedInDay_10 : decode cX1_ownedInDay 10 = .ok (.iload_n 2, 1) := by decide +kernel
theorem dX1_ownedInDay_11 : decode cX1_ownedInDay 11 = .ok (.aload_n 0, 1) := by decide +kernel
theorem dX1_ownedInDay_12 : decode cX1_ownedInDay 12 = .ok (.iload_n 1, 1) := by decide +kernel
theorem dX1_ownedInDay_13 : decode cX1_ownedInDay 13 = .ok (.iload_n 3, 1) := by decide +kernel
theorem dX1_ownedInDay_14 : decode cX1_ownedInDay 14 = .ok (.invokevirtual 113, 3) := by decide +kernel
theorem dX1_ownedInDay_17 : decode cX1_ownedInDay 17 = .ok (.iadd, 1) := by decide +kernel
theorem dX1_ownedInDay_18 : decode cX1_ownedInDay 18 = .ok (.istore_n 2, 1) := by decide +kernel
theorem dX1_ownedInDay_19 : decode cX1_ownedInDay 19 = .ok (.iinc 3 1, 3) := by decide +kernel
theorem dX1_ownedInDay_22 : decode cX1_ownedInDay 22 = .ok (.goto (-18), 3) := by decide +kernel
theorem dX1_ownedInDay_25 : decode cX1_ownedInDay 25 = .ok (.iload_n 2, 1) := by decide +kernel
theorem dX1_ownedInDay_26 : decode cX1_ownedInDay 26 = .ok (.ireturn, 1) := by decide +kernel
theorem dX1_richestOwner_0 : decode cX1_richestOwner 0 = .ok (.iconst 0, 1) := by decide +kernel
theorem dX1_richestOwner_1 : decode cX1_richestOwner 1 = .ok (.istore_n 1, 1) := by decide +kernel
theorem dX1_richestOwner_2 : decode cX1_richestOwner 2 = .ok (.iconst (-1), 1) := by decide +kernel
theorem dX1_richestOwner_3 : decode cX1_richestOwner 3 = .ok (.istore_n 2, 1) := by decide +kernel
theorem dX1_richestOwner_4 : decode cX1_richestOwner 4 = .ok (.iconst 0, 1) := by decide +kernel
theorem dX1_richestOwner_5 : decode cX1_richestOwner 5 = .ok (.istore_n 3, 1) := by decide +kernel
theorem dX1_richestOwner_6 : decode cX1_richestOwner 6 = .ok (.iload_n 3, 1) := by decide +kernel
theorem dX1_richestOwner_7 : decode cX1_richestOwner 7 = .ok (.bipush 8, 2) := by decide +kernel
theorem dX1_richestOwner_9 : decode cX1_richestOwner 9 = .ok (.if_icmp .ge 27, 3) := by decide +kernel
theorem dX1_richestOwner_12 : decode cX1_richestOwner 12 = .ok (.aload_n 0, 1) := by decide +kernel
theorem dX1_richestOwner_13 : decode cX1_richestOwner 13 = .ok (.iload_n 3, 1) := by decide +kernel
theorem dX1_richestOwner_14 : decode cX1_richestOwner 14 = .ok (.invokevirtual 116, 3) := by decide +kernel
theorem dX1_richestOwner_17 : decode cX1_richestOwner 17 = .ok (.istore 4, 2) := by decide +kernel
theorem dX1_richestOwner_19 : decode cX1_richestOwner 19 = .ok (.iload 4, 2) := by decide +kernel
theorem dX1_richestOwner_21 : decode cX1_richestOwner 21 = .ok (.iload_n 2, 1) := by decide +kernel
theorem dX1_richestOwner_22 : decode cX1_richestOwner 22 = .ok (.if_icmp .le 8, 3) := by decide +kernel
theorem dX1_richestOwner_25 : decode cX1_richestOwner 25 = .ok (.iload 4, 2) := by decide +kernel
theorem dX1_richestOwner_27 : decode cX1_richestOwner 27 = .ok (.istore_n 2, 1) := by decide +kernel
theorem dX1_richestOwner_28 : decode cX1_richestOwner 28 = .ok (.iload_n 3, 1) := by decide +kernel
theorem dX1_richestOwner_29 : decode cX1_richestOwner 29 = .ok (.istore_n 1, 1) := by decide +kernel
theorem dX1_richestOwner_30 : decode cX1_richestOwner 30 = .ok (.iinc 3 1, 3) := by decide +kernel
theorem dX1_richestOwner_33 : decode cX1_richestOwner 33 = .ok (.goto (-27), 3) := by decide +kernel
theorem dX1_richestOwner_36 : decode cX1_richestOwner 36 = .ok (.iload_n 1, 1) := by decide +kernel
theorem dX1_richestOwner_37 : decode cX1_richestOwner 37 = .ok (.ireturn, 1) := by decide +kernel
theorem dX1_addHouse_0 : decode cX1_addHouse 0 = .ok (.aload_n 0, 1) := by decide +kernel
theorem dX1_addHouse_1 : decode cX1_addHouse 1 = .ok (.getfield 54, 3) := by decide +kernel
theorem dX1_addHouse_4 : decode cX1_addHouse 4 = .ok (.istore_n 2, 1) := by decide +kernel
theorem dX1_addHouse_5 : decode cX1_addHouse 5 = .ok (.aload_n 0, 1) := by decide +kernel
theorem dX1_addHouse_6 : decode cX1_addHouse 6 = .ok (.getfield 27, 3) := by decide +kernel
theorem dX1_addHouse_9 : decode cX1_addHouse 9 = .ok (.iload_n 2, 1) := by decide +kernel
theorem dX1_addHouse_10 : decode cX1_addHouse 10 = .ok (.iload_n 1, 1) := by decide +kernel
theorem dX1_addHouse_11 : decode cX1_addHouse 11 = .ok (.iastore, 1) := by decide +kernel
theorem dX1_addHouse_12 : decode cX1_addHouse 12 = .ok (.aload_n 0, 1) := by decide +kernel
theorem dX1_addHouse_13 : decode cX1_addHouse 13 = .ok (.getfield 30, 3) := by decide +kernel
theorem dX1_addHouse_16 : decode cX1_addHouse 16 = .ok (.iload_n 2, 1) := by decide +kernel
theorem dX1_addHouse_17 : decode cX1_addHouse 17 = .ok (.ldc 41, 2) := by decide +kernel
theorem dX1_addHouse_19 : decode cX1_addHouse 19 = .ok (.iastore, 1) := by decide +kernel
theorem dX1_addHouse_20 : decode cX1_addHouse 20 = .ok (.aload_n 0, 1) := by decide +kernel
theorem dX1_addHouse_21 : decode cX1_addHouse 21 = .ok (.iload_n 2, 1) := by decide +kernel
theorem dX1_addHouse_22 : decode cX1_addHouse 22 = .ok (.iconst 1, 1) := by decide +kernel
theorem dX1_addHouse_23 : decode cX1_addHouse 23 = .ok (.iadd, 1) := by decide +kernel
theorem dX1_addHouse_24 : decode cX1_addHouse 24 = .ok (.putfield 54, 3) := by decide +kernel
theorem dX1_addHouse_27 : decode cX1_addHouse 27 = .ok (.iload_n 2, 1) := by decide +kernel
theorem dX1_addHouse_28 : decode cX1_addHouse 28 = .ok (.ireturn, 1) := by decide +kernel
theorem dX1_peak_0 : decode cX1_peak 0 = .ok (.iconst 0, 1) := by decide +kernel
theorem dX1_peak_1 : decode cX1_peak 1 = .ok (.istore_n 1, 1) := by decide +kernel
theorem dX1_peak_2 : decode cX1_peak 2 = .ok (.iconst 1, 1) := by decide +kernel
theorem dX1_peak_3 : decode cX1_peak 3 = .ok (.istore_n 2, 1) := by decide +kernel
theorem dX1_peak_4 : decode cX1_peak 4 = .ok (.iload_n 2, 1) := by decide +kernel
theorem dX1_peak_5 : decode cX1_peak 5 = .ok (.bipush 30, 2) := by decide +kernel
theorem dX1_peak_7 : decode cX1_peak 7 = .ok (.if_icmp .ge 24, 3) := by decide +kernel
theorem dX1_peak_10 : decode cX1_peak 10 = .ok (.aload_n 0, 1) := by decide +kernel
theorem dX1_peak_11 : decode cX1_peak 11 = .ok (.iload_n 2, 1) := by decide +kernel
theorem dX1_peak_12 : decode cX1_peak 12 = .ok (.invokevirtual 83, 3) := by decide +kernel
theorem dX1_peak_15 : decode cX1_peak 15 = .ok (.aload_n 0, 1) := by decide +kernel
theorem dX1_peak_16 : decode cX1_peak 16 = .ok (.iload_n 1, 1) := by decide +kernel
theorem dX1_peak_17 : decode cX1_peak 17 = .ok (.invokevirtual 83, 3) := by decide +kernel
theorem dX1_peak_20 : decode cX1_peak 20 = .ok (.if_icmp .le 5, 3) := by decide +kernel
theorem dX1_peak_23 : decode cX1_peak 23 = .ok (.iload_n 2, 1) := by decide +kernel
theorem dX1_peak_24 : decode cX1_peak 24 = .ok (.istore_n 1, 1) := by decide +kernel
theorem dX1_peak_25 : decode cX1_peak 25 = .ok (.iinc 2 1, 3) := by decide +kernel
theorem dX1_peak_28 : decode cX1_peak 28 = .ok (.goto (-24), 3) := by decide +kernel
theorem dX1_peak_31 : decode cX1_peak 31 = .ok (.iload_n 1, 1) := by decide +kernel
theorem dX1_peak_32 : decode cX1_peak 32 = .ok (.ireturn, 1) := by decide +kernel
theorem dX1_cutHouses_0 : decode cX1_cutHouses 0 = .ok (.aload_n 0, 1) := by decide +kernel
theorem dX1_cutHouses_1 : decode cX1_cutHouses 1 = .ok (.iload_n 1, 1) := by decide +kernel
theorem dX1_cutHouses_2 : decode cX1_cutHouses 2 = .ok (.invokevirtual 102, 3) := by decide +kernel
theorem dX1_cutHouses_5 : decode cX1_cutHouses 5 = .ok (.istore_n 2, 1) := by decide +kernel
theorem dX1_cutHouses_6 : decode cX1_cutHouses 6 = .ok (.iload_n 2, 1) := by decide +kernel
theorem dX1_cutHouses_7 : decode cX1_cutHouses 7 = .ok (.iconst 1, 1) := by decide +kernel
theorem dX1_cutHouses_8 : decode cX1_cutHouses 8 = .ok (.aload_n 0, 1) := by decide +kernel
theorem dX1_cutHouses_9 : decode cX1_cutHouses 9 = .ok (.invokevirtual 119, 3) := by decide +kernel
theorem dX1_cutHouses_12 : decode cX1_cutHouses 12 = .ok (.ishl, 1) := by decide +kernel
theorem dX1_cutHouses_13 : decode cX1_cutHouses 13 = .ok (.iload_n 2, 1) := by decide +kernel
theorem dX1_cutHouses_14 : decode cX1_cutHouses 14 = .ok (.invokestatic 122, 3) := by decide +kernel
theorem dX1_cutHouses_17 : decode cX1_cutHouses 17 = .ok (.iconst (-1), 1) := by decide +kernel
theorem dX1_cutHouses_18 : decode cX1_cutHouses 18 = .ok (.ixor, 1) := by decide +kernel
theorem dX1_cutHouses_19 : decode cX1_cutHouses 19 = .ok (.iand, 1) := by decide +kernel
theorem dX1_cutHouses_20 : decode cX1_cutHouses 20 = .ok (.istore_n 3, 1) := by decide +kernel
theorem dX1_cutHouses_21 : decode cX1_cutHouses 21 = .ok (.iconst 0, 1) := by decide +kernel
theorem dX1_cutHouses_22 : decode cX1_cutHouses 22 = .ok (.istore 4, 2) := by decide +kernel
theorem dX1_cutHouses_24 : decode cX1_cutHouses 24 = .ok (.iconst 0, 1) := by decide +kernel
theorem dX1_cutHouses_25 : decode cX1_cutHouses 25 = .ok (.istore 5, 2) := by decide +kernel
theorem dX1_cutHouses_27 : decode cX1_cutHouses 27 = .ok (.iload 5, 2) := by decide +kernel
theorem dX1_cutHouses_29 : decode cX1_cutHouses 29 = .ok (.aload_n 0, 1) := by decide +kernel
theorem dX1_cutHouses_30 : decode cX1_cutHouses 30 = .ok (.getfield 54, 3) := by decide +kernel
theorem dX1_cutHouses_33 : decode cX1_cutHouses 33 = .ok (.if_icmp .ge 44, 3) := by decide +kernel
theorem dX1_cutHouses_36 : decode cX1_cutHouses 36 = .ok (.aload_n 0, 1) := by decide +kernel
theorem dX1_cutHouses_37 : decode cX1_cutHouses 37 = .ok (.getfield 30, 3) := by decide +kernel
theorem dX1_cutHouses_40 : decode cX1_cutHouses 40 = .ok (.iload 5, 2) := by decide +kernel
theorem dX1_cutHouses_42 : decode cX1_cutHouses 42 = .ok (.iaload, 1) := by decide +kernel
theorem dX1_cutHouses_43 : decode cX1_cutHouses 43 = .ok (.ldc 41, 2) := by decide +kernel
theorem dX1_cutHouses_45 : decode cX1_cutHouses 45 = .ok (.if_icmp .eq 26, 3) := by decide +kernel
theorem dX1_cutHouses_48 : decode cX1_cutHouses 48 = .ok (.iload_n 3, 1) := by decide +kernel
theorem dX1_cutHouses_49 : decode cX1_cutHouses 49 = .ok (.aload_n 0, 1) := by decide +kernel
theorem dX1_cutHouses_50 : decode cX1_cutHouses 50 = .ok (.getfield 30, 3) := by decide +kernel
theorem dX1_cutHouses_53 : decode cX1_cutHouses 53 = .ok (.iload 5, 2) := by decide +kernel
theorem dX1_cutHouses_55 : decode cX1_cutHouses 55 = .ok (.iaload, 1) := by decide +kernel
theorem dX1_cutHouses_56 : decode cX1_cutHouses 56 = .ok (.invokestatic 127, 3) := by decide +kernel
theorem dX1_cutHouses_59 : decode cX1_cutHouses 59 = .ok (.ifCond .eq 12, 3) := by decide +kernel
theorem dX1_cutHouses_62 : decode cX1_cutHouses 62 = .ok (.iload 4, 2) := by decide +kernel
theorem dX1_cutHouses_64 : decode cX1_cutHouses 64 = .ok (.iconst 1, 1) := by decide +kernel
theorem dX1_cutHouses_65 : decode cX1_cutHouses 65 = .ok (.iload 5, 2) := by decide +kernel
theorem dX1_cutHouses_67 : decode cX1_cutHouses 67 = .ok (.ishl, 1) := by decide +kernel
theorem dX1_cutHouses_68 : decode cX1_cutHouses 68 = .ok (.ior, 1) := by decide +kernel
theorem dX1_cutHouses_69 : decode cX1_cutHouses 69 = .ok (.istore 4, 2) := by decide +kernel
theorem dX1_cutHouses_71 : decode cX1_cutHouses 71 = .ok (.iinc 5 1, 3) := by decide +kernel
theorem dX1_cutHouses_74 : decode cX1_cutHouses 74 = .ok (.goto (-47), 3) := by decide +kernel
theorem dX1_cutHouses_77 : decode cX1_cutHouses 77 = .ok (.iload 4, 2) := by decide +kernel
theorem dX1_cutHouses_79 : decode cX1_cutHouses 79 = .ok (.ireturn, 1) := by decide +kernel
theorem dX1_lackAt_0 : decode cX1_lackAt 0 = .ok (.iconst 0, 1) := by decide +kernel
theorem dX1_lackAt_1 : decode cX1_lackAt 1 = .ok (.istore_n 2, 1) := by decide +kernel
theorem dX1_lackAt_2 : decode cX1_lackAt 2 = .ok (.iconst 0, 1) := by decide +kernel
theorem dX1_lackAt_3 : decode cX1_lackAt 3 = .ok (.istore_n 3, 1) := by decide +kernel
theorem dX1_lackAt_4 : decode cX1_lackAt 4 = .ok (.iload_n 3, 1) := by decide +kernel
theorem dX1_lackAt_5 : decode cX1_lackAt 5 = .ok (.aload_n 0, 1) := by decide +kernel
theorem dX1_lackAt_6 : decode cX1_lackAt 6 = .ok (.getfield 54, 3) := by decide +kernel
theorem dX1_lackAt_9 : decode cX1_lackAt 9 = .ok (.if_icmp .ge 18, 3) := by decide +kernel
theorem dX1_lackAt_12 : decode cX1_lackAt 12 = .ok (.iload_n 2, 1) := by decide +kernel
theorem dX1_lackAt_13 : decode cX1_lackAt 13 = .ok (.aload_n 0, 1) := by decide +kernel
theorem dX1_lackAt_14 : decode cX1_lackAt 14 = .ok (.getfield 27, 3) := by decide +kernel
theorem dX1_lackAt_17 : decode cX1_lackAt 17 = .ok (.iload_n 3, 1) := by decide +kernel
theorem dX1_lackAt_18 : decode cX1_lackAt 18 = .ok (.iaload, 1) := by decide +kernel
theorem dX1_lackAt_19 : decode cX1_lackAt 19 = .ok (.iadd, 1) := by decide +kernel
theorem dX1_lackAt_20 : decode cX1_lackAt 20 = .ok (.istore_n 2, 1) := by decide +kernel
theorem dX1_lackAt_21 : decode cX1_lackAt 21 = .ok (.iinc 3 1, 3) := by decide +kernel
theorem dX1_lackAt_24 : decode cX1_lackAt 24 = .ok (.goto (-20), 3) := by decide +kernel
theorem dX1_lackAt_27 : decode cX1_lackAt 27 = .ok (.aload_n 0, 1) := by decide +kernel
theorem dX1_lackAt_28 : decode cX1_lackAt 28 = .ok (.iload_n 1, 1) := by decide +kernel
theorem dX1_lackAt_29 : decode cX1_lackAt 29 = .ok (.invokevirtual 102, 3) := by decide +kernel
theorem dX1_lackAt_32 : decode cX1_lackAt 32 = .ok (.istore_n 3, 1) := by decide +kernel
theorem dX1_lackAt_33 : decode cX1_lackAt 33 = .ok (.iconst 0, 1) := by decide +kernel
theorem dX1_lackAt_34 : decode cX1_lackAt 34 = .ok (.istore 4, 2) := by decide +kernel
theorem dX1_lackAt_36 : decode cX1_lackAt 36 = .ok (.iload 4, 2) := by decide +kernel
theorem dX1_lackAt_38 : decode cX1_lackAt 38 = .ok (.bipush 30, 2) := by decide +kernel
theorem dX1_lackAt_40 : decode cX1_lackAt 40 = .ok (.if_icmp .ge 27, 3) := by decide +kernel
theorem dX1_lackAt_43 : decode cX1_lackAt 43 = .ok (.iload_n 3, 1) := by decide +kernel
theorem dX1_lackAt_44 : decode cX1_lackAt 44 = .ok (.iload 4, 2) := by decide +kernel
theorem dX1_lackAt_46 : decode cX1_lackAt 46 = .ok (.invokestatic 127, 3) := by decide +kernel
theorem dX1_lackAt_49 : decode cX1_lackAt 49 = .ok (.ifCond .eq 12, 3) := by decide +kernel
theorem dX1_lackAt_52 : decode cX1_lackAt 52 = .ok (.iload_n 2, 1) := by decide +kernel
theorem dX1_lackAt_53 : decode cX1_lackAt 53 = .ok (.aload_n 0, 1) := by decide +kernel
theorem dX1_lackAt_54 : decode cX1_lackAt 54 = .ok (.iload 4, 2) := by decide +kernel
theorem dX1_lackAt_56 : decode cX1_lackAt 56 = .ok (.invokevirtual 131, 3) := by decide +kernel
theorem dX1_lackAt_59 : decode cX1_lackAt 59 = .ok (.isub, 1) := by decide +kernel
theorem dX1_lackAt_60 : decode cX1_lackAt 60 = .ok (.istore_n 2, 1) := by decide +kernel
theorem dX1_lackAt_61 : decode cX1_lackAt 61 = .ok (.iinc 4 1, 3) := by decide +kernel
theorem dX1_lackAt_64 : decode cX1_lackAt 64 = .ok (.goto (-28), 3) := by decide +kernel
theorem dX1_lackAt_67 : decode cX1_lackAt 67 = .ok (.iconst 0, 1) := by decide +kernel
theorem dX1_lackAt_68 : decode cX1_lackAt 68 = .ok (.iload_n 2, 1) := by decide +kernel
theorem dX1_lackAt_69 : decode cX1_lackAt 69 = .ok (.invokestatic 133, 3) := by decide +kernel
theorem dX1_lackAt_72 : decode cX1_lackAt 72 = .ok (.ireturn, 1) := by decide +kernel
theorem dX1_hoursBetween_0 : decode cX1_hoursBetween 0 = .ok (.iconst 1, 1) := by decide +kernel
theorem dX1_hoursBetween_1 : decode cX1_hoursBetween 1 = .ok (.iload_n 1, 1) := by decide +kernel
theorem dX1_hoursBetween_2 : decode cX1_hoursBetween 2 = .ok (.ishl, 1) := by decide +kernel
theorem dX1_hoursBetween_3 : decode cX1_hoursBetween 3 = .ok (.istore_n 3, 1) := by decide +kernel
theorem dX1_hoursBetween_4 : decode cX1_hoursBetween 4 = .ok (.iconst 0, 1) := by decide +kernel
theorem dX1_hoursBetween_5 : decode cX1_hoursBetween 5 = .ok (.istore 4, 2) := by decide +kernel
theorem dX1_hoursBetween_7 : decode cX1_hoursBetween 7 = .ok (.iload 4, 2) := by decide +kernel
theorem dX1_hoursBetween_9 : decode cX1_hoursBetween 9 = .ok (.bipush 48, 2) := by decide +kernel
theorem dX1_hoursBetween_11 : decode cX1_hoursBetween 11 = .ok (.if_icmp .gt 34, 3) := by decide +kernel
theorem dX1_hoursBetween_14 : decode cX1_hoursBetween 14 = .ok (.iload_n 3, 1) := by decide +kernel
theorem dX1_hoursBetween_15 : decode cX1_hoursBetween 15 = .ok (.aload_n 0, 1) := by decide +kernel
theorem dX1_hoursBetween_16 : decode cX1_hoursBetween 16 = .ok (.iload 4, 2) := by decide +kernel
theorem dX1_hoursBetween_18 : decode cX1_hoursBetween 18 = .ok (.invokevirtual 102, 3) := by decide +kernel
theorem dX1_hoursBetween_21 : decode cX1_hoursBetween 21 = .ok (.iand, 1) := by decide +kernel
theorem dX1_hoursBetween_22 : decode cX1_hoursBetween 22 = .ok (.istore_n 3, 1) := by decide +kernel
theorem dX1_hoursBetween_23 : decode cX1_hoursBetween 23 = .ok (.iload_n 3, 1) := by decide +kernel
theorem dX1_hoursBetween_24 : decode cX1_hoursBetween 24 = .ok (.iload_n 2, 1) := by decide +kernel
theorem dX1_hoursBetween_25 : decode cX1_hoursBetween 25 = .ok (.invokestatic 127, 3) := by decide +kernel
theorem dX1_hoursBetween_28 : decode cX1_hoursBetween 28 = .ok (.ifCond .eq 6, 3) := by decide +kernel
theorem dX1_hoursBetween_31 : decode cX1_hoursBetween 31 = .ok (.iload 4, 2) := by decide +kernel
theorem dX1_hoursBetween_33 : decode cX1_hoursBetween 33 = .ok (.ireturn, 1) := by decide +kernel
theorem dX1_hoursBetween_34 : decode cX1_hoursBetween 34 = .ok (.iload_n 3, 1) := by decide +kernel
theorem dX1_hoursBetween_35 : decode cX1_hoursBetween 35 = .ok (.invokestatic 138, 3) := by decide +kernel
theorem dX1_hoursBetween_38 : decode cX1_hoursBetween 38 = .ok (.istore_n 3, 1) := by decide +kernel
theorem dX1_hoursBetween_39 : decode cX1_hoursBetween 39 = .ok (.iinc 4 1, 3) := by decide +kernel
theorem dX1_hoursBetween_42 : decode cX1_hoursBetween 42 = .ok (.goto (-35), 3) := by decide +kernel
theorem dX1_hoursBetween_45 : decode cX1_hoursBetween 45 = .ok (.ldc 41, 2) := by decide +kernel
theorem dX1_hoursBetween_47 : decode cX1_hoursBetween 47 = .ok (.ireturn, 1) := by decide +kernel
theorem dX1_passHour_0 : decode cX1_passHour 0 = .ok (.aload_n 0, 1) := by decide +kernel
theorem dX1_passHour_1 : decode cX1_passHour 1 = .ok (.iconst 0, 1) := by decide +kernel
theorem dX1_passHour_2 : decode cX1_passHour 2 = .ok (.invokevirtual 102, 3) := by decide +kernel
theorem dX1_passHour_5 : decode cX1_passHour 5 = .ok (.istore_n 1, 1) := by decide +kernel
theorem dX1_passHour_6 : decode cX1_passHour 6 = .ok (.aload_n 0, 1) := by decide +kernel
theorem dX1_passHour_7 : decode cX1_passHour 7 = .ok (.iload_n 1, 1) := by decide +kernel
theorem dX1_passHour_8 : decode cX1_passHour 8 = .ok (.invokevirtual 141, 3) := by decide +kernel
theorem dX1_passHour_11 : decode cX1_passHour 11 = .ok (.aload_n 0, 1) := by decide +kernel
theorem dX1_passHour_12 : decode cX1_passHour 12 = .ok (.iload_n 1, 1) := by decide +kernel
theorem dX1_passHour_13 : decode cX1_passHour 13 = .ok (.invokevirtual 145, 3) := by decide +kernel
theorem dX1_passHour_16 : decode cX1_passHour 16 = .ok (.aload_n 0, 1) := by decide +kernel
theorem dX1_passHour_17 : decode cX1_passHour 17 = .ok (.getfield 57, 3) := by decide +kernel
theorem dX1_passHour_20 : decode cX1_passHour 20 = .ok (.bipush 12, 2) := by decide +kernel
theorem dX1_passHour_22 : decode cX1_passHour 22 = .ok (.irem, 1) := by decide +kernel
theorem dX1_passHour_23 : decode cX1_passHour 23 = .ok (.ifCond .ne 7, 3) := by decide +kernel
theorem dX1_passHour_26 : decode cX1_passHour 26 = .ok (.aload_n 0, 1) := by decide +kernel
theorem dX1_passHour_27 : decode cX1_passHour 27 = .ok (.invokevirtual 148, 3) := by decide +kernel
theorem dX1_passHour_30 : decode cX1_passHour 30 = .ok (.aload_n 0, 1) := by decide +kernel
theorem dX1_passHour_31 : decode cX1_passHour 31 = .ok (.dup, 1) := by decide +kernel
theorem dX1_passHour_32 : decode cX1_passHour 32 = .ok (.getfield 57, 3) := by decide +kernel
theorem dX1_passHour_35 : decode cX1_passHour 35 = .ok (.iconst 1, 1) := by decide +kernel
theorem dX1_passHour_36 : decode cX1_passHour 36 = .ok (.iadd, 1) := by decide +kernel
theorem dX1_passHour_37 : decode cX1_passHour 37 = .ok (.putfield 57, 3) := by decide +kernel
theorem dX1_passHour_40 : decode cX1_passHour 40 = .ok (.return_, 1) := by decide +kernel
theorem dX1_growCorn_0 : decode cX1_growCorn 0 = .ok (.iconst 0, 1) := by decide +kernel
theorem dX1_growCorn_1 : decode cX1_growCorn 1 = .ok (.istore_n 2, 1) := by decide +kernel
theorem dX1_growCorn_2 : decode cX1_growCorn 2 = .ok (.iload_n 2, 1) := by decide +kernel
theorem dX1_growCorn_3 : decode cX1_growCorn 3 = .ok (.bipush 30, 2) := by decide +kernel
theorem dX1_growCorn_5 : decode cX1_growCorn 5 = .ok (.if_icmp .ge 57, 3) := by decide +kernel
theorem dX1_growCorn_8 : decode cX1_growCorn 8 = .ok (.aload_n 0, 1) := by decide +kernel
theorem dX1_growCorn_9 : decode cX1_growCorn 9 = .ok (.getfield 9, 3) := by decide +kernel
theorem dX1_growCorn_12 : decode cX1_growCorn 12 = .ok (.iload_n 2, 1) := by decide +kernel
theorem dX1_growCorn_13 : decode cX1_growCorn 13 = .ok (.iaload, 1) := by decide +kernel
theorem dX1_growCorn_14 : decode cX1_growCorn 14 = .ok (.iconst 1, 1) := by decide +kernel
theorem dX1_growCorn_15 : decode cX1_growCorn 15 = .ok (.invokestatic 151, 3) := by decide +kernel
theorem dX1_growCorn_18 : decode cX1_growCorn 18 = .ok (.ifCond .eq 38, 3) := by decide +kernel
theorem dX1_growCorn_21 : decode cX1_growCorn 21 = .ok (.aload_n 0, 1) := by decide +kernel
theorem dX1_growCorn_22 : decode cX1_growCorn 22 = .ok (.getfield 18, 3) := by decide +kernel
theorem dX1_growCorn_25 : decode cX1_growCorn 25 = .ok (.iload_n 2, 1) := by decide +kernel
theorem dX1_growCorn_26 : decode cX1_growCorn 26 = .ok (.iload_n 1, 1) := by decide +kernel
theorem dX1_growCorn_27 : decode cX1_growCorn 27 = .ok (.iload_n 2, 1) := by decide +kernel
theorem dX1_growCorn_28 : decode cX1_growCorn 28 = .ok (.invokestatic 127, 3) := by decide +kernel
theorem dX1_growCorn_31 : decode cX1_growCorn 31 = .ok (.ifCond .eq 23, 3) := by decide +kernel
theorem dX1_growCorn_34 : decode cX1_growCorn 34 = .ok (.bipush 99, 2) := by decide +kernel
theorem dX1_growCorn_36 : decode cX1_growCorn 36 = .ok (.aload_n 0, 1) := by decide +kernel
theorem dX1_growCorn_37 : decode cX1_growCorn 37 = .ok (.getfield 18, 3) := by decide +kernel
theorem dX1_growCorn_40 : decode cX1_growCorn 40 = .ok (.iload_n 2, 1) := by decide +kernel
theorem dX1_growCorn_41 : decode cX1_growCorn 41 = .ok (.iaload, 1) := by decide +kernel
theorem dX1_growCorn_42 : decode cX1_growCorn 42 = .ok (.aload_n 0, 1) := by decide +kernel
theorem dX1_growCorn_43 : decode cX1_growCorn 43 = .ok (.iload_n 2, 1) := by decide +kernel
theorem dX1_growCorn_44 : decode cX1_growCorn 44 = .ok (.invokevirtual 154, 3) := by decide +kernel
theorem dX1_growCorn_47 : decode cX1_growCorn 47 = .ok (.iadd, 1) := by decide +kernel
theorem dX1_growCorn_48 : decode cX1_growCorn 48 = .ok (.invokestatic 157, 3) := by decide +kernel
theorem dX1_growCorn_51 : decode cX1_growCorn 51 = .ok (.goto 4, 3) := by decide +kernel
theorem dX1_growCorn_54 : decode cX1_growCorn 54 = .ok (.iconst 0, 1) := by decide +kernel
theorem dX1_growCorn_55 : decode cX1_growCorn 55 = .ok (.iastore, 1) := by decide +kernel
theorem dX1_growCorn_56 : decode cX1_growCorn 56 = .ok (.iinc 2 1, 3) := by decide +kernel
theorem dX1_growCorn_59 : decode cX1_growCorn 59 = .ok (.goto (-57), 3) := by decide +kernel
theorem dX1_growCorn_62 : decode cX1_growCorn 62 = .ok (.return_, 1) := by decide +kernel
theorem dX1_moveHouses_0 : decode cX1_moveHouses 0 = .ok (.iconst 0, 1) := by decide +kernel
theorem dX1_moveHouses_1 : decode cX1_moveHouses 1 = .ok (.istore_n 2, 1) := by decide +kernel
theorem dX1_moveHouses_2 : decode cX1_moveHouses 2 = .ok (.iload_n 2, 1) := by decide +kernel
theorem dX1_moveHouses_3 : decode cX1_moveHouses 3 = .ok (.aload_n 0, 1) := by decide +kernel
theorem dX1_moveHouses_4 : decode cX1_moveHouses 4 = .ok (.getfield 54, 3) := by decide +kernel
theorem dX1_moveHouses_7 : decode cX1_moveHouses 7 = .ok (.if_icmp .ge 67, 3) := by decide +kernel
theorem dX1_moveHouses_10 : decode cX1_moveHouses 10 = .ok (.aload_n 0, 1) := by decide +kernel
theorem dX1_moveHouses_11 : decode cX1_moveHouses 11 = .ok (.getfield 30, 3) := by decide +kernel
theorem dX1_moveHouses_14 : decode cX1_moveHouses 14 = .ok (.iload_n 2, 1) := by decide +kernel
theorem dX1_moveHouses_15 : decode cX1_moveHouses 15 = .ok (.iaload, 1) := by decide +kernel
theorem dX1_moveHouses_16 : decode cX1_moveHouses 16 = .ok (.istore_n 3, 1) := by decide +kernel
theorem dX1_moveHouses_17 : decode cX1_moveHouses 17 = .ok (.iload_n 3, 1) := by decide +kernel
theorem dX1_moveHouses_18 : decode cX1_moveHouses 18 = .ok (.ldc 41, 2) := by decide +kernel
theorem dX1_moveHouses_20 : decode cX1_moveHouses 20 = .ok (.if_icmp .eq 48, 3) := by decide +kernel
theorem dX1_moveHouses_23 : decode cX1_moveHouses 23 = .ok (.iload_n 1, 1) := by decide +kernel
theorem dX1_moveHouses_24 : decode cX1_moveHouses 24 = .ok (.iload_n 3, 1) := by decide +kernel
theorem dX1_moveHouses_25 : decode cX1_moveHouses 25 = .ok (.invokestatic 127, 3) := by decide +kernel
theorem dX1_moveHouses_28 : decode cX1_moveHouses 28 = .ok (.ifCond .ne 40, 3) := by decide +kernel
theorem dX1_moveHouses_31 : decode cX1_moveHouses 31 = .ok (.aload_n 0, 1) := by decide +kernel
theorem dX1_moveHouses_32 : decode cX1_moveHouses 32 = .ok (.getfield 30, 3) := by decide +kernel
theorem dX1_moveHouses_35 : decode cX1_moveHouses 35 = .ok (.iload_n 2, 1) := by decide +kernel
theorem dX1_moveHouses_36 : decode cX1_moveHouses 36 = .ok (.iload_n 3, 1) := by decide +kernel
theorem dX1_moveHouses_37 : decode cX1_moveHouses 37 = .ok (.iload_n 1, 1) := by decide +kernel
theorem dX1_moveHouses_38 : decode cX1_moveHouses 38 = .ok (.invokestatic 160, 3) := by decide +kernel
theorem dX1_moveHouses_41 : decode cX1_moveHouses 41 = .ok (.iastore, 1) := by decide +kernel
theorem dX1_moveHouses_42 : decode cX1_moveHouses 42 = .ok (.aload_n 0, 1) := by decide +kernel
theorem dX1_moveHouses_43 : decode cX1_moveHouses 43 = .ok (.getfield 30, 3) := by decide +kernel
theorem dX1_moveHouses_46 : decode cX1_moveHouses 46 = .ok (.iload_n 2, 1) := by decide +kernel
theorem dX1_moveHouses_47 : decode cX1_moveHouses 47 = .ok (.iaload, 1) := by decide +kernel
theorem dX1_moveHouses_48 : decode cX1_moveHouses 48 = .ok (.ldc 41, 2) := by decide +kernel
theorem dX1_moveHouses_50 : decode cX1_moveHouses 50 = .ok (.if_icmp .ne 18, 3) := by decide +kernel
theorem dX1_moveHouses_53 : decode cX1_moveHouses 53 = .ok (.aload_n 0, 1) := by decide +kernel
theorem dX1_moveHouses_54 : decode cX1_moveHouses 54 = .ok (.dup, 1) := by decide +kernel
theorem dX1_moveHouses_55 : decode cX1_moveHouses 55 = .ok (.getfield 60, 3) := by decide +kernel
theorem dX1_moveHouses_58 : decode cX1_moveHouses 58 = .ok (.aload_n 0, 1) := by decide +kernel
theorem dX1_moveHouses_59 : decode cX1_moveHouses 59 = .ok (.getfield 27, 3) := by decide +kernel
theorem dX1_moveHouses_62 : decode cX1_moveHouses 62 = .ok (.iload_n 2, 1) := by decide +kernel
theorem dX1_moveHouses_63 : decode cX1_moveHouses 63 = .ok (.iaload, 1) := by decide +kernel
theorem dX1_moveHouses_64 : decode cX1_moveHouses 64 = .ok (.iadd, 1) := by decide +kernel
theorem dX1_moveHouses_65 : decode cX1_moveHouses 65 = .ok (.putfield 60, 3) := by decide +kernel
theorem dX1_moveHouses_68 : decode cX1_moveHouses 68 = .ok (.iinc 2 1, 3) := by decide +kernel
theorem dX1_moveHouses_71 : decode cX1_moveHouses 71 = .ok (.goto (-69), 3) := by decide +kernel
theorem dX1_moveHouses_74 : decode cX1_moveHouses 74 = .ok (.return_, 1) := by decide +kernel
theorem dX1_drawStorm_0 : decode cX1_drawStorm 0 = .ok (.aload_n 0, 1) := by decide +kernel
theorem dX1_drawStorm_1 : decode cX1_drawStorm 1 = .ok (.invokevirtual 67, 3) := by decide +kernel
theorem dX1_drawStorm_4 : decode cX1_drawStorm 4 = .ok (.bipush 100, 2) := by decide +kernel
theorem dX1_drawStorm_6 : decode cX1_drawStorm 6 = .ok (.irem, 1) := by decide +kernel
theorem dX1_drawStorm_7 : decode cX1_drawStorm 7 = .ok (.aload_n 0, 1) := by decide +kernel
theorem dX1_drawStorm_8 : decode cX1_drawStorm 8 = .ok (.getfield 24, 3) := by decide +kernel
theorem dX1_drawStorm_11 : decode cX1_drawStorm 11 = .ok (.iconst 4, 1) := by decide +kernel
theorem dX1_drawStorm_12 : decode cX1_drawStorm 12 = .ok (.iaload, 1) := by decide +kernel
theorem dX1_drawStorm_13 : decode cX1_drawStorm 13 = .ok (.if_icmp .ge 7, 3) := by decide +kernel
theorem dX1_drawStorm_16 : decode cX1_drawStorm 16 = .ok (.iconst 1, 1) := by decide +kernel
theorem dX1_drawStorm_17 : decode cX1_drawStorm 17 = .ok (.goto 4, 3) := by decide +kernel
theorem dX1_drawStorm_20 : decode cX1_drawStorm 20 = .ok (.iconst (-1), 1) := by decide +kernel
theorem dX1_drawStorm_21 : decode cX1_drawStorm 21 = .ok (.istore_n 1, 1) := by decide +kernel
theorem dX1_drawStorm_22 : decode cX1_drawStorm 22 = .ok (.aload_n 0, 1) := by decide +kernel
theorem dX1_drawStorm_23 : decode cX1_drawStorm 23 = .ok (.getfield 24, 3) := by decide +kernel
theorem dX1_drawStorm_26 : decode cX1_drawStorm 26 = .ok (.iconst 3, 1) := by decide +kernel
theorem dX1_drawStorm_27 : decode cX1_drawStorm 27 = .ok (.aload_n 0, 1) := by decide +kernel
theorem dX1_drawStorm_28 : decode cX1_drawStorm 28 = .ok (.getfield 24, 3) := by decide +kernel
theorem dX1_drawStorm_31 : decode cX1_drawStorm 31 = .ok (.iconst 3, 1) := by decide +kernel
theorem dX1_drawStorm_32 : decode cX1_drawStorm 32 = .ok (.iaload, 1) := by decide +kernel
theorem dX1_drawStorm_33 : decode cX1_drawStorm 33 = .ok (.iload_n 1, 1) := by decide +kernel
theorem dX1_drawStorm_34 : decode cX1_drawStorm 34 = .ok (.iadd, 1) := by decide +kernel
theorem dX1_drawStorm_35 : decode cX1_drawStorm 35 = .ok (.iconst 0, 1) := by decide +kernel
theorem dX1_drawStorm_36 : decode cX1_drawStorm 36 = .ok (.bipush 9, 2) := by decide +kernel
theorem dX1_drawStorm_38 : decode cX1_drawStorm 38 = .ok (.invokestatic 90, 3) := by decide +kernel
theorem dX1_drawStorm_41 : decode cX1_drawStorm 41 = .ok (.iastore, 1) := by decide +kernel
theorem dX1_drawStorm_42 : decode cX1_drawStorm 42 = .ok (.return_, 1) := by decide +kernel
theorem dX1_allCorn_0 : decode cX1_allCorn 0 = .ok (.iconst 0, 1) := by decide +kernel
theorem dX1_allCorn_1 : decode cX1_allCorn 1 = .ok (.istore_n 1, 1) := by decide +kernel
theorem dX1_allCorn_2 : decode cX1_allCorn 2 = .ok (.iconst 0, 1) := by decide +kernel
theorem dX1_allCorn_3 : decode cX1_allCorn 3 = .ok (.istore_n 2, 1) := by decide +kernel
theorem dX1_allCorn_4 : decode cX1_allCorn 4 = .ok (.iload_n 2, 1) := by decide +kernel
theorem dX1_allCorn_5 : decode cX1_allCorn 5 = .ok (.bipush 30, 2) := by decide +kernel
theorem dX1_allCorn_7 : decode cX1_allCorn 7 = .ok (.if_icmp .ge 18, 3) := by decide +kernel
theorem dX1_allCorn_10 : decode cX1_allCorn 10 = .ok (.iload_n 1, 1) := by decide +kernel
theorem dX1_allCorn_11 : decode cX1_allCorn 11 = .ok (.aload_n 0, 1) := by decide +kernel
theorem dX1_allCorn_12 : decode cX1_allCorn 12 = .ok (.getfield 18, 3) := by decide +kernel
theorem dX1_allCorn_15 : decode cX1_allCorn 15 = .ok (.iload_n 2, 1) := by decide +kernel
theorem dX1_allCorn_16 : decode cX1_allCorn 16 = .ok (.iaload, 1) := by decide +kernel
theorem dX1_allCorn_17 : decode cX1_allCorn 17 = .ok (.iadd, 1) := by decide +kernel
theorem dX1_allCorn_18 : decode cX1_allCorn 18 = .ok (.istore_n 1, 1) := by decide +kernel
theorem dX1_allCorn_19 : decode cX1_allCorn 19 = .ok (.iinc 2 1, 3) := by decide +kernel
theorem dX1_allCorn_22 : decode cX1_allCorn 22 = .ok (.goto (-18), 3) := by decide +kernel
theorem dX1_allCorn_25 : decode cX1_allCorn 25 = .ok (.iload_n 1, 1) := by decide +kernel
theorem dX1_allCorn_26 : decode cX1_allCorn 26 = .ok (.ireturn, 1) := by decide +kernel
theorem dX1_pourInto_0 : decode cX1_pourInto 0 = .ok (.iconst 0, 1) := by decide +kernel
theorem dX1_pourInto_1 : decode cX1_pourInto 1 = .ok (.istore_n 3, 1) := by decide +kernel
theorem dX1_pourInto_2 : decode cX1_pourInto 2 = .ok (.iconst 0, 1) := by decide +kernel
theorem dX1_pourInto_3 : decode cX1_pourInto 3 = .ok (.istore 4, 2) := by decide +kernel
theorem dX1_pourInto_5 : decode cX1_pourInto 5 = .ok (.iload 4, 2) := by decide +kernel
theorem dX1_pourInto_7 : decode cX1_pourInto 7 = .ok (.bipush 6, 2) := by decide +kernel
theorem dX1_pourInto_9 : decode cX1_pourInto 9 = .ok (.if_icmp .ge 87, 3) := by decide +kernel
theorem dX1_pourInto_12 : decode cX1_pourInto 12 = .ok (.iload 4, 2) := by decide +kernel
theorem dX1_pourInto_14 : decode cX1_pourInto 14 = .ok (.aload_n 2, 1) := by decide +kernel
theorem dX1_pourInto_15 : decode cX1_pourInto 15 = .ok (.getfield 163, 3) := by decide +kernel
theorem dX1_pourInto_18 : decode cX1_pourInto 18 = .ok (.if_icmp .ge 78, 3) := by decide +kernel
theorem dX1_pourInto_21 : decode cX1_pourInto 21 = .ok (.bipush 6, 2) := by decide +kernel
theorem dX1_pourInto_23 : decode cX1_pourInto 23 = .ok (.iload_n 1, 1) := by decide +kernel
theorem dX1_pourInto_24 : decode cX1_pourInto 24 = .ok (.imul, 1) := by decide +kernel
theorem dX1_pourInto_25 : decode cX1_pourInto 25 = .ok (.iload 4, 2) := by decide +kernel
theorem dX1_pourInto_27 : decode cX1_pourInto 27 = .ok (.iadd, 1) := by decide +kernel
theorem dX1_pourInto_28 : decode cX1_pourInto 28 = .ok (.istore 5, 2) := by decide +kernel
theorem dX1_pourInto_30 : decode cX1_pourInto 30 = .ok (.aload_n 2, 1) := by decide +kernel
theorem dX1_pourInto_31 : decode cX1_pourInto 31 = .ok (.getfield 168, 3) := by decide +kernel
theorem dX1_pourInto_34 : decode cX1_pourInto 34 = .ok (.iload 4, 2) := by decide +kernel
theorem dX1_pourInto_36 : decode cX1_pourInto 36 = .ok (.iaload, 1) := by decide +kernel
theorem dX1_pourInto_37 : decode cX1_pourInto 37 = .ok (.istore 6, 2) := by decide +kernel
theorem dX1_pourInto_39 : decode cX1_pourInto 39 = .ok (.iload 6, 2) := by decide +kernel
theorem dX1_pourInto_41 : decode cX1_pourInto 41 = .ok (.ldc 41, 2) := by decide +kernel
theorem dX1_pourInto_43 : decode cX1_pourInto 43 = .ok (.if_icmp .ne 13, 3) := by decide +kernel
theorem dX1_pourInto_46 : decode cX1_pourInto 46 = .ok (.aload_n 0, 1) := by decide +kernel
theorem dX1_pourInto_47 : decode cX1_pourInto 47 = .ok (.getfield 18, 3) := by decide +kernel
theorem dX1_pourInto_50 : decode cX1_pourInto 50 = .ok (.iload 5, 2) := by decide +kernel
theorem dX1_pourInto_52 : decode cX1_pourInto 52 = .ok (.iaload, 1) := by decide +kernel
theorem dX1_pourInto_53 : decode cX1_pourInto 53 = .ok (.goto 11, 3) := by decide +kernel
theorem dX1_pourInto_56 : decode cX1_pourInto 56 = .ok (.iload 6, 2) := by decide +kernel
theorem dX1_pourInto_58 : decode cX1_pourInto 58 = .ok (.iconst 0, 1) := by decide +kernel
theorem dX1_pourInto_59 : decode cX1_pourInto 59 = .ok (.bipush 99, 2) := by decide +kernel
theorem dX1_pourInto_61 : decode cX1_pourInto 61 = .ok (.invokestatic 90, 3) := by decide +kernel
theorem dX1_pourInto_64 : decode cX1_pourInto 64 = .ok (.istore 7, 2) := by decide +kernel
theorem dX1_pourInto_66 : decode cX1_pourInto 66 = .ok (.iload 7, 2) := by decide +kernel
theorem dX1_pourInto_68 : decode cX1_pourInto 68 = .ok (.aload_n 0, 1) := by decide +kernel
theorem dX1_pourInto_69 : decode cX1_pourInto 69 = .ok (.getfield 18, 3) := by decide +kernel
theorem dX1_pourInto_72 : decode cX1_pourInto 72 = .ok (.iload 5, 2) := by decide +kernel
theorem dX1_pourInto_74 : decode cX1_pourInto 74 = .ok (.iaload, 1) := by decide +kernel
theorem dX1_pourInto_75 : decode cX1_pourInto 75 = .ok (.if_icmp .eq 15, 3) := by decide +kernel
theorem dX1_pourInto_78 : decode cX1_pourInto 78 = .ok (.aload_n 0, 1) := by decide +kernel
theorem dX1_pourInto_79 : decode cX1_pourInto 79 = .ok (.getfield 18, 3) := by decide +kernel
theorem dX1_pourInto_82 : decode cX1_pourInto 82 = .ok (.iload 5, 2) := by decide +kernel
theorem dX1_pourInto_84 : decode cX1_pourInto 84 = .ok (.iload 7, 2) := by decide +kernel
theorem dX1_pourInto_86 : decode cX1_pourInto 86 = .ok (.iastore, 1) := by decide +kernel
theorem dX1_pourInto_87 : decode cX1_pourInto 87 = .ok (.iinc 3 1, 3) := by decide +kernel
theorem dX1_pourInto_90 : decode cX1_pourInto 90 = .ok (.iinc 4 1, 3) := by decide +kernel
theorem dX1_pourInto_93 : decode cX1_pourInto 93 = .ok (.goto (-88), 3) := by decide +kernel
theorem dX1_pourInto_96 : decode cX1_pourInto 96 = .ok (.iload_n 3, 1) := by decide +kernel
theorem dX1_pourInto_97 : decode cX1_pourInto 97 = .ok (.ireturn, 1) := by decide +kernel
theorem dX1_firstNotLevel_0 : decode cX1_firstNotLevel 0 = .ok (.iconst 0, 1) := by decide +kernel
theorem dX1_firstNotLevel_1 : decode cX1_firstNotLevel 1 = .ok (.istore_n 2, 1) := by decide +kernel
theorem dX1_firstNotLevel_2 : decode cX1_firstNotLevel 2 = .ok (.iload_n 2, 1) := by decide +kernel
theorem dX1_firstNotLevel_3 : decode cX1_firstNotLevel 3 = .ok (.aload_n 1, 1) := by decide +kernel
theorem dX1_firstNotLevel_4 : decode cX1_firstNotLevel 4 = .ok (.getfield 163, 3) := by decide +kernel
theorem dX1_firstNotLevel_7 : decode cX1_firstNotLevel 7 = .ok (.if_icmp .ge 33, 3) := by decide +kernel
theorem dX1_firstNotLevel_10 : decode cX1_firstNotLevel 10 = .ok (.aload_n 1, 1) := by decide +kernel
theorem dX1_firstNotLevel_11 : decode cX1_firstNotLevel 11 = .ok (.getfield 168, 3) := by decide +kernel
theorem dX1_firstNotLevel_14 : decode cX1_firstNotLevel 14 = .ok (.iload_n 2, 1) := by decide +kernel
theorem dX1_firstNotLevel_15 : decode cX1_firstNotLevel 15 = .ok (.iaload, 1) := by decide +kernel
theorem dX1_firstNotLevel_16 : decode cX1_firstNotLevel 16 = .ok (.istore_n 3, 1) := by decide +kernel
theorem dX1_firstNotLevel_17 : decode cX1_firstNotLevel 17 = .ok (.iload_n 3, 1) := by decide +kernel
theorem dX1_firstNotLevel_18 : decode cX1_firstNotLevel 18 = .ok (.ldc 41, 2) := by decide +kernel
theorem dX1_firstNotLevel_20 : decode cX1_firstNotLevel 20 = .ok (.if_icmp .eq 14, 3) := by decide +kernel
theorem dX1_firstNotLevel_23 : decode cX1_firstNotLevel 23 = .ok (.iload_n 3, 1) := by decide +kernel
theorem dX1_firstNotLevel_24 : decode cX1_firstNotLevel 24 = .ok (.aload_n 0, 1) := by decide +kernel
theorem dX1_firstNotLevel_25 : decode cX1_firstNotLevel 25 = .ok (.iload_n 2, 1) := by decide +kernel
theorem dX1_firstNotLevel_26 : decode cX1_firstNotLevel 26 = .ok (.invokevirtual 99, 3) := by decide +kernel
theorem dX1_firstNotLevel_29 : decode cX1_firstNotLevel 29 = .ok (.if_icmp .eq 5, 3) := by decide +kernel
theorem dX1_firstNotLevel_32 : decode cX1_firstNotLevel 32 = .ok (.iload_n 2, 1) := by decide +kernel
theorem dX1_firstNotLevel_33 : decode cX1_firstNotLevel 33 = .ok (.ireturn, 1) := by decide +kernel
theorem dX1_firstNotLevel_34 : decode cX1_firstNotLevel 34 = .ok (.iinc 2 1, 3) := by decide +kernel
theorem dX1_firstNotLevel_37 : decode cX1_firstNotLevel 37 = .ok (.goto (-35), 3) := by decide +kernel
theorem dX1_firstNotLevel_40 : decode cX1_firstNotLevel 40 = .ok (.ldc 41, 2) := by decide +kernel
theorem dX1_firstNotLevel_42 : decode cX1_firstNotLevel 42 = .ok (.ireturn, 1) := by decide +kernel
theorem dX2_above_0 : decode cX2_above 0 = .ok (.iload_n 0, 1) := by decide +kernel
theorem dX2_above_1 : decode cX2_above 1 = .ok (.tableswitch 41 1 5 #[35, 35, 37, 39, 35], 35) := by decide +kernel
theorem dX2_above_36 : decode cX2_above 36 = .ok (.iconst 0, 1) := by decide +kernel
theorem dX2_above_37 : decode cX2_above 37 = .ok (.ireturn, 1) := by decide +kernel
theorem dX2_above_38 : decode cX2_above 38 = .ok (.iconst 1, 1) := by decide +kernel
theorem dX2_above_39 : decode cX2_above 39 = .ok (.ireturn, 1) := by decide +kernel
theorem dX2_above_40 : decode cX2_above 40 = .ok (.iconst 2, 1) := by decide +kernel
theorem dX2_above_41 : decode cX2_above 41 = .ok (.ireturn, 1) := by decide +kernel
theorem dX2_above_42 : decode cX2_above 42 = .ok (.ldc 9, 2) := by decide +kernel
theorem dX2_above_44 : decode cX2_above 44 = .ok (.ireturn, 1) := by decide +kernel
theorem dX2_isUnder_0 : decode cX2_isUnder 0 = .ok (.iload_n 0, 1) := by decide +kernel
theorem dX2_isUnder_1 : decode cX2_isUnder 1 = .ok (.istore_n 2, 1) := by decide +kernel
theorem dX2_isUnder_2 : decode cX2_isUnder 2 = .ok (.iconst 0, 1) := by decide +kernel
theorem dX2_isUnder_3 : decode cX2_isUnder 3 = .ok (.istore_n 3, 1) := by decide +kernel
theorem dX2_isUnder_4 : decode cX2_isUnder 4 = .ok (.iload_n 3, 1) := by decide +kernel
theorem dX2_isUnder_5 : decode cX2_isUnder 5 = .ok (.iconst 5, 1) := by decide +kernel
theorem dX2_isUnder_6 : decode cX2_isUnder 6 = .ok (.if_icmp .gt 27, 3) := by decide +kernel
theorem dX2_isUnder_9 : decode cX2_isUnder 9 = .ok (.iload_n 2, 1) := by decide +kernel
theorem dX2_isUnder_10 : decode cX2_isUnder 10 = .ok (.ldc 9, 2) := by decide +kernel
theorem dX2_isUnder_12 : decode cX2_isUnder 12 = .ok (.if_icmp .eq 21, 3) := by decide +kernel
theorem dX2_isUnder_15 : decode cX2_isUnder 15 = .ok (.iload_n 2, 1) := by decide +kernel
theorem dX2_isUnder_16 : decode cX2_isUnder 16 = .ok (.iload_n 1, 1) := by decide +kernel
theorem dX2_isUnder_17 : decode cX2_isUnder 17 = .ok (.if_icmp .ne 5, 3) := by decide +kernel
theorem dX2_isUnder_20 : decode cX2_isUnder 20 = .ok (.iconst 1, 1) := by decide +kernel
theorem dX2_isUnder_21 : decode cX2_isUnder 21 = .ok (.ireturn, 1) := by decide +kernel
theorem dX2_isUnder_22 : decode cX2_isUnder 22 = .ok (.iload_n 2, 1) := by decide +kernel
theorem dX2_isUnder_23 : decode cX2_isUnder 23 = .ok (.invokestatic 10, 3) := by decide +kernel
theorem dX2_isUnder_26 : decode cX2_isUnder 26 = .ok (.istore_n 2, 1) := by decide +kernel
theorem dX2_isUnder_27 : decode cX2_isUnder 27 = .ok (.iinc 3 1, 3) := by decide +kernel
theorem dX2_isUnder_30 : decode cX2_isUnder 30 = .ok (.goto (-26), 3) := by decide +kernel
theorem dX2_isUnder_33 : decode cX2_isUnder 33 = .ok (.iconst 0, 1) := by decide +kernel
theorem dX2_isUnder_34 : decode cX2_isUnder 34 = .ok (.ireturn, 1) := by decide +kernel
theorem dX2_topOf_0 : decode cX2_topOf 0 = .ok (.iload_n 0, 1) := by decide +kernel
theorem dX2_topOf_1 : decode cX2_topOf 1 = .ok (.tableswitch 47 2 5 #[35, 31, 39, 43], 31) := by decide +kernel
theorem dX2_topOf_32 : decode cX2_topOf 32 = .ok (.iload_n 1, 1) := by decide +kernel
theorem dX2_topOf_33 : decode cX2_topOf 33 = .ok (.iconst 1, 1) := by decide +kernel
theorem dX2_topOf_34 : decode cX2_topOf 34 = .ok (.iadd, 1) := by decide +kernel
theorem dX2_topOf_35 : decode cX2_topOf 35 = .ok (.ireturn, 1) := by decide +kernel
theorem dX2_topOf_36 : decode cX2_topOf 36 = .ok (.iload_n 1, 1) := by decide +kernel
theorem dX2_topOf_37 : decode cX2_topOf 37 = .ok (.iconst 2, 1) := by decide +kernel
theorem dX2_topOf_38 : decode cX2_topOf 38 = .ok (.iadd, 1) := by decide +kernel
theorem dX2_topOf_39 : decode cX2_topOf 39 = .ok (.ireturn, 1) := by decide +kernel
theorem dX2_topOf_40 : decode cX2_topOf 40 = .ok (.iload_n 1, 1) := by decide +kernel
theorem dX2_topOf_41 : decode cX2_topOf 41 = .ok (.iconst 3, 1) := by decide +kernel
theorem dX2_topOf_42 : decode cX2_topOf 42 = .ok (.iadd, 1) := by decide +kernel
theorem dX2_topOf_43 : decode cX2_topOf 43 = .ok (.ireturn, 1) := by decide +kernel
theorem dX2_topOf_44 : decode cX2_topOf 44 = .ok (.iload_n 1, 1) := by decide +kernel
theorem dX2_topOf_45 : decode cX2_topOf 45 = .ok (.iload_n 2, 1) := by decide +kernel
theorem dX2_topOf_46 : decode cX2_topOf 46 = .ok (.iadd, 1) := by decide +kernel
theorem dX2_topOf_47 : decode cX2_topOf 47 = .ok (.ireturn, 1) := by decide +kernel
theorem dX2_topOf_48 : decode cX2_topOf 48 = .ok (.iload_n 1, 1) := by decide +kernel
theorem dX2_topOf_49 : decode cX2_topOf 49 = .ok (.ireturn, 1) := by decide +kernel
theorem dX2_roomOf_0 : decode cX2_roomOf 0 = .ok (.iconst 0, 1) := by decide +kernel
theorem dX2_roomOf_1 : decode cX2_roomOf 1 = .ok (.iload_n 1, 1) := by decide +kernel
theorem dX2_roomOf_2 : decode cX2_roomOf 2 = .ok (.iload_n 2, 1) := by decide +kernel
theorem dX2_roomOf_3 : decode cX2_roomOf 3 = .ok (.bipush 10, 2) := by decide +kernel
theorem dX2_roomOf_5 : decode cX2_roomOf 5 = .ok (.idiv, 1) := by decide +kernel
theorem dX2_roomOf_6 : decode cX2_roomOf 6 = .ok (.isub, 1) := by decide +kernel
theorem dX2_roomOf_7 : decode cX2_roomOf 7 = .ok (.invokestatic 16, 3) := by decide +kernel
theorem dX2_roomOf_10 : decode cX2_roomOf 10 = .ok (.istore_n 3, 1) := by decide +kernel
theorem dX2_roomOf_11 : decode cX2_roomOf 11 = .ok (.iload_n 0, 1) := by decide +kernel
theorem dX2_roomOf_12 : decode cX2_roomOf 12 = .ok (.tableswitch 52 1 5 #[36, 42, 38, 42, 50], 36) := by decide +kernel
theorem dX2_roomOf_48 : decode cX2_roomOf 48 = .ok (.iload_n 3, 1) := by decide +kernel
theorem dX2_roomOf_49 : decode cX2_roomOf 49 = .ok (.ireturn, 1) := by decide +kernel
theorem dX2_roomOf_50 : decode cX2_roomOf 50 = .ok (.iload_n 3, 1) := by decide +kernel
theorem dX2_roomOf_51 : decode cX2_roomOf 51 = .ok (.iconst 2, 1) := by decide +kernel
theorem dX2_roomOf_52 : decode cX2_roomOf 52 = .ok (.idiv, 1) := by decide +kernel
theorem dX2_roomOf_53 : decode cX2_roomOf 53 = .ok (.ireturn, 1) := by decide +kernel
theorem dX2_roomOf_54 : decode cX2_roomOf 54 = .ok (.iconst 0, 1) := by decide +kernel
theorem dX2_roomOf_55 : decode cX2_roomOf 55 = .ok (.iload_n 1, 1) := by decide +kernel
theorem dX2_roomOf_56 : decode cX2_roomOf 56 = .ok (.iconst 4, 1) := by decide +kernel
theorem dX2_roomOf_57 : decode cX2_roomOf 57 = .ok (.isub, 1) := by decide +kernel
theorem dX2_roomOf_58 : decode cX2_roomOf 58 = .ok (.invokestatic 16, 3) := by decide +kernel
theorem dX2_roomOf_61 : decode cX2_roomOf 61 = .ok (.ireturn, 1) := by decide +kernel
theorem dX2_roomOf_62 : decode cX2_roomOf 62 = .ok (.iconst 1, 1) := by decide +kernel
theorem dX2_roomOf_63 : decode cX2_roomOf 63 = .ok (.ireturn, 1) := by decide +kernel
theorem dX2_roomOf_64 : decode cX2_roomOf 64 = .ok (.iload_n 1, 1) := by decide +kernel
theorem dX2_roomOf_65 : decode cX2_roomOf 65 = .ok (.ireturn, 1) := by decide +kernel
theorem dX2_worthOf_0 : decode cX2_worthOf 0 = .ok (.iload_n 0, 1) := by decide +kernel
theorem dX2_worthOf_1 : decode cX2_worthOf 1 = .ok (.tableswitch 61 1 5 #[35, 45, 39, 50, 58], 35) := by decide +kernel
theorem dX2_worthOf_36 : decode cX2_worthOf 36 = .ok (.iload_n 1, 1) := by decide +kernel
theorem dX2_worthOf_37 : decode cX2_worthOf 37 = .ok (.iconst 3, 1) := by decide +kernel
theorem dX2_worthOf_38 : decode cX2_worthOf 38 = .ok (.iadd, 1) := by decide +kernel
theorem dX2_worthOf_39 : decode cX2_worthOf 39 = .ok (.ireturn, 1) := by decide +kernel
theorem dX2_worthOf_40 : decode cX2_worthOf 40 = .ok (.iconst 2, 1) := by decide +kernel
theorem dX2_worthOf_41 : decode cX2_worthOf 41 = .ok (.iload_n 1, 1) := by decide +kernel
theorem dX2_worthOf_42 : decode cX2_worthOf 42 = .ok (.iconst 3, 1) := by decide +kernel
theorem dX2_worthOf_43 : decode cX2_worthOf 43 = .ok (.iadd, 1) := by decide +kernel
theorem dX2_worthOf_44 : decode cX2_worthOf 44 = .ok (.imul, 1) := by decide +kernel
theorem dX2_worthOf_45 : decode cX2_worthOf 45 = .ok (.ireturn, 1) := by decide +kernel
theorem dX2_worthOf_46 : decode cX2_worthOf 46 = .ok (.bipush 20, 2) := by decide +kernel
theorem dX2_worthOf_48 : decode cX2_worthOf 48 = .ok (.iload_n 1, 1) := by decide +kernel
theorem dX2_worthOf_49 : decode cX2_worthOf 49 = .ok (.isub, 1) := by decide +kernel
theorem dX2_worthOf_50 : decode cX2_worthOf 50 = .ok (.ireturn, 1) := by decide +kernel
theorem dX2_worthOf_51 : decode cX2_worthOf 51 = .ok (.bipush 20, 2) := by decide +kernel
theorem dX2_worthOf_53 : decode cX2_worthOf 53 = .ok (.iload_n 1, 1) := by decide +kernel
theorem dX2_worthOf_54 : decode cX2_worthOf 54 = .ok (.isub, 1) := by decide +kernel
theorem dX2_worthOf_55 : decode cX2_worthOf 55 = .ok (.bipush 9, 2) := by decide +kernel
theorem dX2_worthOf_57 : decode cX2_worthOf 57 = .ok (.iadd, 1) := by decide +kernel
theorem dX2_worthOf_58 : decode cX2_worthOf 58 = .ok (.ireturn, 1) := by decide +kernel
theorem dX2_worthOf_59 : decode cX2_worthOf 59 = .ok (.bipush 50, 2) := by decide +kernel
theorem dX2_worthOf_61 : decode cX2_worthOf 61 = .ok (.ireturn, 1) := by decide +kernel
theorem dX2_worthOf_62 : decode cX2_worthOf 62 = .ok (.iload_n 1, 1) := by decide +kernel
theorem dX2_worthOf_63 : decode cX2_worthOf 63 = .ok (.ireturn, 1) := by decide +kernel
theorem dX3_init_0 : decode cX3_init 0 = .ok (.aload_n 0, 1) := by decide +kernel
theorem dX3_init_1 : decode cX3_init 1 = .ok (.invokespecial 3, 3) := by decide +kernel
theorem dX3_init_4 : decode cX3_init 4 = .ok (.aload_n 0, 1) := by decide +kernel
theorem dX3_init_5 : decode cX3_init 5 = .ok (.bipush 14, 2) := by decide +kernel
theorem dX3_init_7 : decode cX3_init 7 = .ok (.newarray .int, 2) := by decide +kernel
theorem dX3_init_9 : decode cX3_init 9 = .ok (.putfield 9, 3) := by decide +kernel
theorem dX3_init_12 : decode cX3_init 12 = .ok (.aload_n 0, 1) := by decide +kernel
theorem dX3_init_13 : decode cX3_init 13 = .ok (.bipush 14, 2) := by decide +kernel
theorem dX3_init_15 : decode cX3_init 15 = .ok (.newarray .int, 2) := by decide +kernel
theorem dX3_init_17 : decode cX3_init 17 = .ok (.putfield 15, 3) := by decide +kernel
theorem dX3_init_20 : decode cX3_init 20 = .ok (.aload_n 0, 1) := by decide +kernel
theorem dX3_init_21 : decode cX3_init 21 = .ok (.bipush 14, 2) := by decide +kernel
theorem dX3_init_23 : decode cX3_init 23 = .ok (.newarray .int, 2) := by decide +kernel
theorem dX3_init_25 : decode cX3_init 25 = .ok (.putfield 18, 3) := by decide +kernel
theorem dX3_init_28 : decode cX3_init 28 = .ok (.aload_n 0, 1) := by decide +kernel
theorem dX3_init_29 : decode cX3_init 29 = .ok (.bipush 14, 2) := by decide +kernel
theorem dX3_init_31 : decode cX3_init 31 = .ok (.bipush 96, 2) := by decide +kernel
theorem dX3_init_33 : decode cX3_init 33 = .ok (.multianewarray 21 2, 4) := by decide +kernel
theorem dX3_init_37 : decode cX3_init 37 = .ok (.putfield 23, 3) := by decide +kernel
theorem dX3_init_40 : decode cX3_init 40 = .ok (.aload_n 0, 1) := by decide +kernel
theorem dX3_init_41 : decode cX3_init 41 = .ok (.bipush 96, 2) := by decide +kernel
theorem dX3_init_43 : decode cX3_init 43 = .ok (.newarray .int, 2) := by decide +kernel
theorem dX3_init_45 : decode cX3_init 45 = .ok (.putfield 26, 3) := by decide +kernel
theorem dX3_init_48 : decode cX3_init 48 = .ok (.return_, 1) := by decide +kernel
theorem dX3_put_0 : decode cX3_put 0 = .ok (.aload_n 0, 1) := by decide +kernel
theorem dX3_put_1 : decode cX3_put 1 = .ok (.getfield 9, 3) := by decide +kernel
theorem dX3_put_4 : decode cX3_put 4 = .ok (.iload_n 1, 1) := by decide +kernel
theorem dX3_put_5 : decode cX3_put 5 = .ok (.aload_n 2, 1) := by decide +kernel
theorem dX3_put_6 : decode cX3_put 6 = .ok (.getfield 29, 3) := by decide +kernel
theorem dX3_put_9 : decode cX3_put 9 = .ok (.iastore, 1) := by decide +kernel
theorem dX3_put_10 : decode cX3_put 10 = .ok (.aload_n 0, 1) := by decide +kernel
theorem dX3_put_11 : decode cX3_put 11 = .ok (.getfield 15, 3) := by decide +kernel
theorem dX3_put_14 : decode cX3_put 14 = .ok (.iload_n 1, 1) := by decide +kernel
theorem dX3_put_15 : decode cX3_put 15 = .ok (.aload_n 2, 1) := by decide +kernel
theorem dX3_put_16 : decode cX3_put 16 = .ok (.getfield 35, 3) := by decide +kernel
theorem dX3_put_19 : decode cX3_put 19 = .ok (.iastore, 1) := by decide +kernel
theorem dX3_put_20 : decode cX3_put 20 = .ok (.aload_n 0, 1) := by decide +kernel
theorem dX3_put_21 : decode cX3_put 21 = .ok (.getfield 18, 3) := by decide +kernel
theorem dX3_put_24 : decode cX3_put 24 = .ok (.iload_n 1, 1) := by decide +kernel
theorem dX3_put_25 : decode cX3_put 25 = .ok (.aload_n 2, 1) := by decide +kernel
theorem dX3_put_26 : decode cX3_put 26 = .ok (.getfield 37, 3) := by decide +kernel
theorem dX3_put_29 : decode cX3_put 29 = .ok (.iastore, 1) := by decide +kernel
theorem dX3_put_30 : decode cX3_put 30 = .ok (.aload_n 2, 1) := by decide +kernel
theorem dX3_put_31 : decode cX3_put 31 = .ok (.getfield 40, 3) := by decide +kernel
theorem dX3_put_34 : decode cX3_put 34 = .ok (.iconst 0, 1) := by decide +kernel
theorem dX3_put_35 : decode cX3_put 35 = .ok (.aload_n 0, 1) := by decide +kernel
theorem dX3_put_36 : decode cX3_put 36 = .ok (.getfield 23, 3) := by decide +kernel
theorem dX3_put_39 : decode cX3_put 39 = .ok (.iload_n 1, 1) := by decide +kernel
theorem dX3_put_40 : decode cX3_put 40 = .ok (.aaload, 1) := by decide +kernel
theorem dX3_put_41 : decode cX3_put 41 = .ok (.iconst 0, 1) := by decide +kernel
theorem dX3_put_42 : decode cX3_put 42 = .ok (.aload_n 2, 1) := by decide +kernel
theorem dX3_put_43 : decode cX3_put 43 = .ok (.getfield 37, 3) := by decide +kernel
theorem dX3_put_46 : decode cX3_put 46 = .ok (.invokestatic 43, 3) := by decide +kernel
theorem dX3_put_49 : decode cX3_put 49 = .ok (.return_, 1) := by decide +kernel
theorem dX3_lastOf_0 : decode cX3_lastOf 0 = .ok (.iload_n 2, 1) := by decide +kernel
theorem dX3_lastOf_1 : decode cX3_lastOf 1 = .ok (.iconst 1, 1) := by decide +kernel
theorem dX3_lastOf_2 : decode cX3_lastOf 2 = .ok (.isub, 1) := by decide +kernel
theorem dX3_lastOf_3 : decode cX3_lastOf 3 = .ok (.istore_n 3, 1) := by decide +kernel
theorem dX3_lastOf_4 : decode cX3_lastOf 4 = .ok (.iload_n 3, 1) := by decide +kernel
theorem dX3_lastOf_5 : decode cX3_lastOf 5 = .ok (.ifCond .lt 21, 3) := by decide +kernel
theorem dX3_lastOf_8 : decode cX3_lastOf 8 = .ok (.aload_n 0, 1) := by decide +kernel
theorem dX3_lastOf_9 : decode cX3_lastOf 9 = .ok (.getfield 9, 3) := by decide +kernel
theorem dX3_lastOf_12 : decode cX3_lastOf 12 = .ok (.iload_n 3, 1) := by decide +kernel
theorem dX3_lastOf_13 : decode cX3_lastOf 13 = .ok (.iaload, 1) := by decide +kernel
theorem dX3_lastOf_14 : decode cX3_lastOf 14 = .ok (.iload_n 1, 1) := by decide +kernel
theorem dX3_lastOf_15 : decode cX3_lastOf 15 = .ok (.if_icmp .ne 5, 3) := by decide +kernel
theorem dX3_lastOf_18 : decode cX3_lastOf 18 = .ok (.iload_n 3, 1) := by decide +kernel
theorem dX3_lastOf_19 : decode cX3_lastOf 19 = .ok (.ireturn, 1) := by decide +kernel
theorem dX3_lastOf_20 : decode cX3_lastOf 20 = .ok (.iinc 3 (-1), 3) := by decide +kernel
theorem dX3_lastOf_23 : decode cX3_lastOf 23 = .ok (.goto (-19), 3) := by decide +kernel
theorem dX3_lastOf_26 : decode cX3_lastOf 26 = .ok (.ldc 49, 2) := by decide +kernel
theorem dX3_lastOf_28 : decode cX3_lastOf 28 = .ok (.ireturn, 1) := by decide +kernel
theorem dX3_workOut_0 : decode cX3_workOut 0 = .ok (.aload_n 0, 1) := by decide +kernel
theorem dX3_workOut_1 : decode cX3_workOut 1 = .ok (.iconst 0, 1) := by decide +kernel
theorem dX3_workOut_2 : decode cX3_workOut 2 = .ok (.putfield 50, 3) := by decide +kernel
theorem dX3_workOut_5 : decode cX3_workOut 5 = .ok (.iconst 0, 1) := by decide +kernel
theorem dX3_workOut_6 : decode cX3_workOut 6 = .ok (.istore 5, 2) := by decide +kernel
theorem dX3_workOut_8 : decode cX3_workOut 8 = .ok (.iload 5, 2) := by decide +kernel
theorem dX3_workOut_10 : decode cX3_workOut 10 = .ok (.aload_n 0, 1) := by decide +kernel
theorem dX3_workOut_11 : decode cX3_workOut 11 = .ok (.getfield 18, 3) := by decide +kernel
theorem dX3_workOut_14 : decode cX3_workOut 14 = .ok (.iload_n 1, 1) := by decide +kernel
theorem dX3_workOut_15 : decode cX3_workOut 15 = .ok (.iaload, 1) := by decide +kernel
theorem dX3_workOut_16 : decode cX3_workOut 16 = .ok (.if_icmp .ge 131, 3) := by decide +kernel
theorem dX3_workOut_19 : decode cX3_workOut 19 = .ok (.aload_n 0, 1) := by decide +kernel
theorem dX3_workOut_20 : decode cX3_workOut 20 = .ok (.getfield 23, 3) := by decide +kernel
theorem dX3_workOut_23 : decode cX3_workOut 23 = .ok (.iload_n 1, 1) := by decide +kernel
theorem dX3_workOut_24 : decode cX3_workOut 24 = .ok (.aaload, 1) := by decide +kernel
theorem dX3_workOut_25 : decode cX3_workOut 25 = .ok (.iload 5, 2) := by decide +kernel
theorem dX3_workOut_27 : decode cX3_workOut 27 = .ok (.iaload, 1) := by decide +kernel
theorem dX3_workOut_28 : decode cX3_workOut 28 = .ok (.istore 6, 2) := by decide +kernel
theorem dX3_workOut_30 : decode cX3_workOut 30 = .ok (.iload 6, 2) := by decide +kernel
theorem dX3_workOut_32 : decode cX3_workOut 32 = .ok (.ifCond .lt 12, 3) := by decide +kernel
theorem dX3_workOut_35 : decode cX3_workOut 35 = .ok (.aload_n 0, 1) := by decide +kernel
theorem dX3_workOut_36 : decode cX3_workOut 36 = .ok (.iload 6, 2) := by decide +kernel
theorem dX3_workOut_38 : decode cX3_workOut 38 = .ok (.invokevirtual 53, 3) := by decide +kernel
theorem dX3_workOut_41 : decode cX3_workOut 41 = .ok (.goto 100, 3) := by decide +kernel
theorem dX3_workOut_44 : decode cX3_workOut 44 = .ok (.iload 6, 2) := by decide +kernel
theorem dX3_workOut_46 : decode cX3_workOut 46 = .ok (.iconst (-1), 1) := by decide +kernel
theorem dX3_workOut_47 : decode cX3_workOut 47 = .ok (.if_icmp .ne 11, 3) := by decide +kernel
theorem dX3_workOut_50 : decode cX3_workOut 50 = .ok (.aload_n 0, 1) := by decide +kernel
theorem dX3_workOut_51 : decode cX3_workOut 51 = .ok (.iload_n 2, 1) := by decide +kernel
theorem dX3_workOut_52 : decode cX3_workOut 52 = .ok (.invokevirtual 53, 3) := by decide +kernel
theorem dX3_workOut_55 : decode cX3_workOut 55 = .ok (.goto 86, 3) := by decide +kernel
theorem dX3_workOut_58 : decode cX3_workOut 58 = .ok (.iload 6, 2) := by decide +kernel
theorem dX3_workOut_60 : decode cX3_workOut 60 = .ok (.bipush (-2), 2) := by decide +kernel
theorem dX3_workOut_62 : decode cX3_workOut 62 = .ok (.if_icmp .ne 11, 3) := by decide +kernel
theorem dX3_workOut_65 : decode cX3_workOut 65 = .ok (.aload_n 0, 1) := by decide +kernel
theorem dX3_workOut_66 : decode cX3_workOut 66 = .ok (.iload_n 3, 1) := by decide +kernel
theorem dX3_workOut_67 : decode cX3_workOut 67 = .ok (.invokevirtual 53, 3) := by decide +kernel
theorem dX3_workOut_70 : decode cX3_workOut 70 = .ok (.goto 71, 3) := by decide +kernel
theorem dX3_workOut_73 : decode cX3_workOut 73 = .ok (.iload 6, 2) := by decide +kernel
theorem dX3_workOut_75 : decode cX3_workOut 75 = .ok (.bipush (-3), 2) := by decide +kernel
theorem dX3_workOut_77 : decode cX3_workOut 77 = .ok (.if_icmp .ne 12, 3) := by decide +kernel
theorem dX3_workOut_80 : decode cX3_workOut 80 = .ok (.aload_n 0, 1) := by decide +kernel
theorem dX3_workOut_81 : decode cX3_workOut 81 = .ok (.iload 4, 2) := by decide +kernel
theorem dX3_workOut_83 : decode cX3_workOut 83 = .ok (.invokevirtual 53, 3) := by decide +kernel
theorem dX3_workOut_86 : decode cX3_workOut 86 = .ok (.goto 55, 3) := by decide +kernel
theorem dX3_workOut_89 : decode cX3_workOut 89 = .ok (.iload 6, 2) := by decide +kernel
theorem dX3_workOut_91 : decode cX3_workOut 91 = .ok (.bipush (-33), 2) := by decide +kernel
theorem dX3_workOut_93 : decode cX3_workOut 93 = .ok (.if_icmp .ne 22, 3) := by decide +kernel
theorem dX3_workOut_96 : decode cX3_workOut 96 = .ok (.aload_n 0, 1) := by decide +kernel
theorem dX3_workOut_97 : decode cX3_workOut 97 = .ok (.aload_n 0, 1) := by decide +kernel
theorem dX3_workOut_98 : decode cX3_workOut 98 = .ok (.invokevirtual 57, 3) := by decide +kernel
theorem dX3_workOut_101 : decode cX3_workOut 101 = .ok (.ifCond .ne 7, 3) := by decide +kernel
theorem dX3_workOut_104 : decode cX3_workOut 104 = .ok (.iconst 1, 1) := by decide +kernel
theorem dX3_workOut_105 : decode cX3_workOut 105 = .ok (.goto 4, 3) := by decide +kernel
theorem dX3_workOut_108 : decode cX3_workOut 108 = .ok (.iconst 0, 1) := by decide +kernel
theorem dX3_workOut_109 : decode cX3_workOut 109 = .ok (.invokevirtual 53, 3) := by decide +kernel
theorem dX3_workOut_112 : decode cX3_workOut 112 = .ok (.goto 29, 3) := by decide +kernel
theorem dX3_workOut_115 : decode cX3_workOut 115 = .ok (.aload_n 0, 1) := by decide +kernel
theorem dX3_workOut_116 : decode cX3_workOut 116 = .ok (.invokevirtual 57, 3) := by decide +kernel
theorem dX3_workOut_119 : decode cX3_workOut 119 = .ok (.istore 7, 2) := by decide +kernel
theorem dX3_workOut_121 : decode cX3_workOut 121 = .ok (.aload_n 0, 1) := by decide +kernel
theorem dX3_workOut_122 : decode cX3_workOut 122 = .ok (.invokevirtual 57, 3) := by decide +kernel
theorem dX3_workOut_125 : decode cX3_workOut 125 = .ok (.istore 8, 2) := by decide +kernel
theorem dX3_workOut_127 : decode cX3_workOut 127 = .ok (.aload_n 0, 1) := by decide +kernel
theorem dX3_workOut_128 : decode cX3_workOut 128 = .ok (.iload 6, 2) := by decide +kernel
theorem dX3_workOut_130 : decode cX3_workOut 130 = .ok (.ineg, 1) := by decide +kernel
theorem dX3_workOut_131 : decode cX3_workOut 131 = .ok (.iload 8, 2) := by decide +kernel
theorem dX3_workOut_133 : decode cX3_workOut 133 = .ok (.iload 7, 2) := by decide +kernel
theorem dX3_workOut_135 : decode cX3_workOut 135 = .ok (.invokestatic 61, 3) := by decide +kernel
theorem dX3_workOut_138 : decode cX3_workOut 138 = .ok (.invokevirtual 53, 3) := by decide +kernel
theorem dX3_workOut_141 : decode cX3_workOut 141 = .ok (.iinc 5 1, 3) := by decide +kernel
theorem dX3_workOut_144 : decode cX3_workOut 144 = .ok (.goto (-136), 3) := by decide +kernel
theorem dX3_workOut_147 : decode cX3_workOut 147 = .ok (.aload_n 0, 1) := by decide +kernel
theorem dX3_workOut_148 : decode cX3_workOut 148 = .ok (.invokevirtual 57, 3) := by decide +kernel
theorem dX3_workOut_151 : decode cX3_workOut 151 = .ok (.ireturn, 1) := by decide +kernel
theorem dX3_join_0 : decode cX3_join 0 = .ok (.iload_n 0, 1) := by decide +kernel
theorem dX3_join_1 : decode cX3_join 1 = .ok (.lookupswitch 168 #[(38, 97), (42, 152), (43, 144), (45, 148), (47, 156), (60, 111), (61, 122), (62, 133), (124, 83)], 83) := by decide +kernel
theorem dX3_join_84 : decode cX3_join 84 = .ok (.iload_n 1, 1) := by decide +kernel
theorem dX3_join_85 : decode cX3_join 85 = .ok (.ifCond .ne 7, 3) := by decide +kernel
theorem dX3_join_88 : decode cX3_join 88 = .ok (.iload_n 2, 1) := by decide +kernel
theorem dX3_join_89 : decode cX3_join 89 = .ok (.ifCond .eq 7, 3) := by decide +kernel
theorem dX3_join_92 : decode cX3_join 92 = .ok (.iconst 1, 1) := by decide +kernel
theorem dX3_join_93 : decode cX3_join 93 = .ok (.goto 4, 3) := by decide +kernel
theorem dX3_join_96 : decode cX3_join 96 = .ok (.iconst 0, 1) := by decide +kernel
theorem dX3_join_97 : decode cX3_join 97 = .ok (.ireturn, 1) := by decide +kernel
theorem dX3_join_98 : decode cX3_join 98 = .ok (.iload_n 1, 1) := by decide +kernel
theorem dX3_join_99 : decode cX3_join 99 = .ok (.ifCond .eq 11, 3) := by decide +kernel
theorem dX3_join_102 : decode cX3_join 102 = .ok (.iload_n 2, 1) := by decide +kernel
theorem dX3_join_103 : decode cX3_join 103 = .ok (.ifCond .eq 7, 3) := by decide +kernel
theorem dX3_join_106 : decode cX3_join 106 = .ok (.iconst 1, 1) := by decide +kernel
theorem dX3_join_107 : decode cX3_join 107 = .ok (.goto 4, 3) := by decide +kernel
theorem dX3_join_110 : decode cX3_join 110 = .ok (.iconst 0, 1) := by decide +kernel
theorem dX3_join_111 : decode cX3_join 111 = .ok (.ireturn, 1) := by decide +kernel
theorem dX3_join_112 : decode cX3_join 112 = .ok (.iload_n 1, 1) := by decide +kernel
theorem dX3_join_113 : decode cX3_join 113 = .ok (.iload_n 2, 1) := by decide +kernel
theorem dX3_join_114 : decode cX3_join 114 = .ok (.if_icmp .ge 7, 3) := by decide +kernel
theorem dX3_join_117 : decode cX3_join 117 = .ok (.iconst 1, 1) := by decide +kernel
theorem dX3_join_118 : decode cX3_join 118 = .ok (.goto 4, 3) := by decide +kernel
theorem dX3_join_121 : decode cX3_join 121 = .ok (.iconst 0, 1) := by decide +kernel
theorem dX3_join_122 : decode cX3_join 122 = .ok (.ireturn, 1) := by decide +kernel
theorem dX3_join_123 : decode cX3_join 123 = .ok (.iload_n 1, 1) := by decide +kernel
theorem dX3_join_124 : decode cX3_join 124 = .ok (.iload_n 2, 1) := by decide +kernel
theorem dX3_join_125 : decode cX3_join 125 = .ok (.if_icmp .ne 7, 3) := by decide +kernel
theorem dX3_join_128 : decode cX3_join 128 = .ok (.iconst 1, 1) := by decide +kernel
theorem dX3_join_129 : decode cX3_join 129 = .ok (.goto 4, 3) := by decide +kernel
theorem dX3_join_132 : decode cX3_join 132 = .ok (.iconst 0, 1) := by decide +kernel
theorem dX3_join_133 : decode cX3_join 133 = .ok (.ireturn, 1) := by decide +kernel
theorem dX3_join_134 : decode cX3_join 134 = .ok (.iload_n 1, 1) := by decide +kernel
theorem dX3_join_135 : decode cX3_join 135 = .ok (.iload_n 2, 1) := by decide +kernel
theorem dX3_join_136 : decode cX3_join 136 = .ok (.if_icmp .le 7, 3) := by decide +kernel
theorem dX3_join_139 : decode cX3_join 139 = .ok (.iconst 1, 1) := by decide +kernel
theorem dX3_join_140 : decode cX3_join 140 = .ok (.goto 4, 3) := by decide +kernel
theorem dX3_join_143 : decode cX3_join 143 = .ok (.iconst 0, 1) := by decide +kernel
theorem dX3_join_144 : decode cX3_join 144 = .ok (.ireturn, 1) := by decide +kernel
theorem dX3_join_145 : decode cX3_join 145 = .ok (.iload_n 1, 1) := by decide +kernel
theorem dX3_join_146 : decode cX3_join 146 = .ok (.iload_n 2, 1) := by decide +kernel
theorem dX3_join_147 : decode cX3_join 147 = .ok (.iadd, 1) := by decide +kernel
theorem dX3_join_148 : decode cX3_join 148 = .ok (.ireturn, 1) := by decide +kernel
theorem dX3_join_149 : decode cX3_join 149 = .ok (.iload_n 1, 1) := by decide +kernel
theorem dX3_join_150 : decode cX3_join 150 = .ok (.iload_n 2, 1) := by decide +kernel
theorem dX3_join_151 : decode cX3_join 151 = .ok (.isub, 1) := by decide +kernel
theorem dX3_join_152 : decode cX3_join 152 = .ok (.ireturn, 1) := by decide +kernel
theorem dX3_join_153 : decode cX3_join 153 = .ok (.iload_n 1, 1) := by decide +kernel
theorem dX3_join_154 : decode cX3_join 154 = .ok (.iload_n 2, 1) := by decide +kernel
theorem dX3_join_155 : decode cX3_join 155 = .ok (.imul, 1) := by decide +kernel
theorem dX3_join_156 : decode cX3_join 156 = .ok (.ireturn, 1) := by decide +kernel
theorem dX3_join_157 : decode cX3_join 157 = .ok (.iload_n 2, 1) := by decide +kernel
theorem dX3_join_158 : decode cX3_join 158 = .ok (.ifCond .ne 7, 3) := by decide +kernel
theorem dX3_join_161 : decode cX3_join 161 = .ok (.iconst 0, 1) := by decide +kernel
theorem dX3_join_162 : decode cX3_join 162 = .ok (.goto 6, 3) := by decide +kernel
theorem dX3_join_165 : decode cX3_join 165 = .ok (.iload_n 1, 1) := by decide +kernel
theorem dX3_join_166 : decode cX3_join 166 = .ok (.iload_n 2, 1) := by decide +kernel
theorem dX3_join_167 : decode cX3_join 167 = .ok (.idiv, 1) := by decide +kernel
theorem dX3_join_168 : decode cX3_join 168 = .ok (.ireturn, 1) := by decide +kernel
theorem dX3_join_169 : decode cX3_join 169 = .ok (.iconst 0, 1) := by decide +kernel
theorem dX3_join_170 : decode cX3_join 170 = .ok (.ireturn, 1) := by decide +kernel
theorem dX3_push_0 : decode cX3_push 0 = .ok (.aload_n 0, 1) := by decide +kernel
theorem dX3_push_1 : decode cX3_push 1 = .ok (.getfield 50, 3) := by decide +kernel
theorem dX3_push_4 : decode cX3_push 4 = .ok (.bipush 96, 2) := by decide +kernel
theorem dX3_push_6 : decode cX3_push 6 = .ok (.if_icmp .ge 23, 3) := by decide +kernel
theorem dX3_push_9 : decode cX3_push 9 = .ok (.aload_n 0, 1) := by decide +kernel
theorem dX3_push_10 : decode cX3_push 10 = .ok (.getfield 26, 3) := by decide +kernel
theorem dX3_push_13 : decode cX3_push 13 = .ok (.aload_n 0, 1) := by decide +kernel
theorem dX3_push_14 : decode cX3_push 14 = .ok (.getfield 50, 3) := by decide +kernel
theorem dX3_push_17 : decode cX3_push 17 = .ok (.iload_n 1, 1) := by decide +kernel
theorem dX3_push_18 : decode cX3_push 18 = .ok (.iastore, 1) := by decide +kernel
theorem dX3_push_19 : decode cX3_push 19 = .ok (.aload_n 0, 1) := by decide +kernel
theorem dX3_push_20 : decode cX3_push 20 = .ok (.dup, 1) := by decide +kernel
theorem dX3_push_21 : decode cX3_push 21 = .ok (.getfield 50, 3) := by decide +kernel
theorem dX3_push_24 : decode cX3_push 24 = .ok (.iconst 1, 1) := by decide +kernel
theorem dX3_push_25 : decode cX3_push 25 = .ok (.iadd, 1) := by decide +kernel
theorem dX3_push_26 : decode cX3_push 26 = .ok (.putfield 50, 3) := by decide +kernel
theorem dX3_push_29 : decode cX3_push 29 = .ok (.return_, 1) := by decide +kernel
theorem dX3_pop_0 : decode cX3_pop 0 = .ok (.aload_n 0, 1) := by decide +kernel
theorem dX3_pop_1 : decode cX3_pop 1 = .ok (.getfield 50, 3) := by decide +kernel
theorem dX3_pop_4 : decode cX3_pop 4 = .ok (.ifCond .ne 5, 3) := by decide +kernel
theorem dX3_pop_7 : decode cX3_pop 7 = .ok (.iconst 0, 1) := by decide +kernel
theorem dX3_pop_8 : decode cX3_pop 8 = .ok (.ireturn, 1) := by decide +kernel
theorem dX3_pop_9 : decode cX3_pop 9 = .ok (.aload_n 0, 1) := by decide +kernel
theorem dX3_pop_10 : decode cX3_pop 10 = .ok (.dup, 1) := by decide +kernel
theorem dX3_pop_11 : decode cX3_pop 11 = .ok (.getfield 50, 3) := by decide +kernel
theorem dX3_pop_14 : decode cX3_pop 14 = .ok (.iconst 1, 1) := by decide +kernel
theorem dX3_pop_15 : decode cX3_pop 15 = .ok (.isub, 1) := by decide +kernel
theorem dX3_pop_16 : decode cX3_pop 16 = .ok (.putfield 50, 3) := by decide +kernel
theorem dX3_pop_19 : decode cX3_pop 19 = .ok (.aload_n 0, 1) := by decide +kernel
theorem dX3_pop_20 : decode cX3_pop 20 = .ok (.getfield 26, 3) := by decide +kernel
theorem dX3_pop_23 : decode cX3_pop 23 = .ok (.aload_n 0, 1) := by decide +kernel
theorem dX3_pop_24 : decode cX3_pop 24 = .ok (.getfield 50, 3) := by decide +kernel
theorem dX3_pop_27 : decode cX3_pop 27 = .ok (.iaload, 1) := by decide +kernel
theorem dX3_pop_28 : decode cX3_pop 28 = .ok (.ireturn, 1) := by decide +kernel
theorem dX4_init_0 : decode cX4_init 0 = .ok (.aload_n 0, 1) := by decide +kernel
theorem dX4_init_1 : decode cX4_init 1 = .ok (.invokespecial 3, 3) := by decide +kernel
theorem dX4_init_4 : decode cX4_init 4 = .ok (.aload_n 0, 1) := by decide +kernel
theorem dX4_init_5 : decode cX4_init 5 = .ok (.bipush 96, 2) := by decide +kernel
theorem dX4_init_7 : decode cX4_init 7 = .ok (.newarray .int, 2) := by decide +kernel
theorem dX4_init_9 : decode cX4_init 9 = .ok (.putfield 9, 3) := by decide +kernel
theorem dX4_init_12 : decode cX4_init 12 = .ok (.aload_n 0, 1) := by decide +kernel
theorem dX4_init_13 : decode cX4_init 13 = .ok (.bipush 96, 2) := by decide +kernel
theorem dX4_init_15 : decode cX4_init 15 = .ok (.newarray .int, 2) := by decide +kernel
theorem dX4_init_17 : decode cX4_init 17 = .ok (.putfield 15, 3) := by decide +kernel
theorem dX4_init_20 : decode cX4_init 20 = .ok (.aload_n 0, 1) := by decide +kernel
theorem dX4_init_21 : decode cX4_init 21 = .ok (.aload_n 1, 1) := by decide +kernel
theorem dX4_init_22 : decode cX4_init 22 = .ok (.putfield 18, 3) := by decide +kernel
theorem dX4_init_25 : decode cX4_init 25 = .ok (.return_, 1) := by decide +kernel
theorem dX4_findFault_0 : decode cX4_findFault 0 = .ok (.aload_n 0, 1) := by decide +kernel
theorem dX4_findFault_1 : decode cX4_findFault 1 = .ok (.invokevirtual 22, 3) := by decide +kernel
theorem dX4_findFault_4 : decode cX4_findFault 4 = .ok (.aload_n 0, 1) := by decide +kernel
theorem dX4_findFault_5 : decode cX4_findFault 5 = .ok (.aload_n 0, 1) := by decide +kernel
theorem dX4_findFault_6 : decode cX4_findFault 6 = .ok (.invokevirtual 25, 3) := by decide +kernel
theorem dX4_findFault_9 : decode cX4_findFault 9 = .ok (.putfield 29, 3) := by decide +kernel
theorem dX4_findFault_12 : decode cX4_findFault 12 = .ok (.aload_n 0, 1) := by decide +kernel
theorem dX4_findFault_13 : decode cX4_findFault 13 = .ok (.getfield 29, 3) := by decide +kernel
theorem dX4_findFault_16 : decode cX4_findFault 16 = .ok (.ldc 33, 2) := by decide +kernel
theorem dX4_findFault_18 : decode cX4_findFault 18 = .ok (.if_icmp .ne 8, 3) := by decide +kernel
theorem dX4_findFault_21 : decode cX4_findFault 21 = .ok (.aload_n 0, 1) := by decide +kernel
theorem dX4_findFault_22 : decode cX4_findFault 22 = .ok (.getfield 34, 3) := by decide +kernel
theorem dX4_findFault_25 : decode cX4_findFault 25 = .ok (.ireturn, 1) := by decide +kernel
theorem dX4_findFault_26 : decode cX4_findFault 26 = .ok (.aload_n 0, 1) := by decide +kernel
theorem dX4_findFault_27 : decode cX4_findFault 27 = .ok (.invokevirtual 37, 3) := by decide +kernel
theorem dX4_findFault_30 : decode cX4_findFault 30 = .ok (.iconst 0, 1) := by decide +kernel
theorem dX4_findFault_31 : decode cX4_findFault 31 = .ok (.istore_n 1, 1) := by decide +kernel
theorem dX4_findFault_32 : decode cX4_findFault 32 = .ok (.iload_n 1, 1) := by decide +kernel
theorem dX4_findFault_33 : decode cX4_findFault 33 = .ok (.bipush 96, 2) := by decide +kernel
theorem dX4_findFault_35 : decode cX4_findFault 35 = .ok (.if_icmp .ge 55, 3) := by decide +kernel
theorem dX4_findFault_38 : decode cX4_findFault 38 = .ok (.aload_n 0, 1) := by decide +kernel
theorem dX4_findFault_39 : decode cX4_findFault 39 = .ok (.getfield 34, 3) := by decide +kernel
theorem dX4_findFault_42 : decode cX4_findFault 42 = .ok (.aload_n 0, 1) := by decide +kernel
theorem dX4_findFault_43 : decode cX4_findFault 43 = .ok (.getfield 18, 3) := by decide +kernel
theorem dX4_findFault_46 : decode cX4_findFault 46 = .ok (.getfield 40, 3) := by decide +kernel
theorem dX4_findFault_49 : decode cX4_findFault 49 = .ok (.if_icmp .ge 41, 3) := by decide +kernel
theorem dX4_findFault_52 : decode cX4_findFault 52 = .ok (.aload_n 0, 1) := by decide +kernel
theorem dX4_findFault_53 : decode cX4_findFault 53 = .ok (.getfield 45, 3) := by decide +kernel
theorem dX4_findFault_56 : decode cX4_findFault 56 = .ok (.ifCond .eq 10, 3) := by decide +kernel
theorem dX4_findFault_59 : decode cX4_findFault 59 = .ok (.aload_n 0, 1) := by decide +kernel
theorem dX4_findFault_60 : decode cX4_findFault 60 = .ok (.invokevirtual 49, 3) := by decide +kernel
theorem dX4_findFault_63 : decode cX4_findFault 63 = .ok (.goto 7, 3) := by decide +kernel
theorem dX4_findFault_66 : decode cX4_findFault 66 = .ok (.aload_n 0, 1) := by decide +kernel
theorem dX4_findFault_67 : decode cX4_findFault 67 = .ok (.invokevirtual 53, 3) := by decide +kernel
theorem dX4_findFault_70 : decode cX4_findFault 70 = .ok (.istore_n 2, 1) := by decide +kernel
theorem dX4_findFault_71 : decode cX4_findFault 71 = .ok (.iload_n 2, 1) := by decide +kernel
theorem dX4_findFault_72 : decode cX4_findFault 72 = .ok (.ifCond .ne 8, 3) := by decide +kernel
theorem dX4_findFault_75 : decode cX4_findFault 75 = .ok (.aload_n 0, 1) := by decide +kernel
theorem dX4_findFault_76 : decode cX4_findFault 76 = .ok (.getfield 34, 3) := by decide +kernel
theorem dX4_findFault_79 : decode cX4_findFault 79 = .ok (.ireturn, 1) := by decide +kernel
theorem dX4_findFault_80 : decode cX4_findFault 80 = .ok (.aload_n 0, 1) := by decide +kernel
theorem dX4_findFault_81 : decode cX4_findFault 81 = .ok (.invokevirtual 37, 3) := by decide +kernel
theorem dX4_findFault_84 : decode cX4_findFault 84 = .ok (.iinc 1 1, 3) := by decide +kernel
theorem dX4_findFault_87 : decode cX4_findFault 87 = .ok (.goto (-55), 3) := by decide +kernel
theorem dX4_findFault_90 : decode cX4_findFault 90 = .ok (.aload_n 0, 1) := by decide +kernel
theorem dX4_findFault_91 : decode cX4_findFault 91 = .ok (.getfield 45, 3) := by decide +kernel
theorem dX4_findFault_94 : decode cX4_findFault 94 = .ok (.ifCond .ne 10, 3) := by decide +kernel
theorem dX4_findFault_97 : decode cX4_findFault 97 = .ok (.aload_n 0, 1) := by decide +kernel
theorem dX4_findFault_98 : decode cX4_findFault 98 = .ok (.getfield 56, 3) := by decide +kernel
theorem dX4_findFault_101 : decode cX4_findFault 101 = .ok (.ifCond .le 8, 3) := by decide +kernel
theorem dX4_findFault_104 : decode cX4_findFault 104 = .ok (.aload_n 0, 1) := by decide +kernel
theorem dX4_findFault_105 : decode cX4_findFault 105 = .ok (.getfield 34, 3) := by decide +kernel
theorem dX4_findFault_108 : decode cX4_findFault 108 = .ok (.ireturn, 1) := by decide +kernel
theorem dX4_findFault_109 : decode cX4_findFault 109 = .ok (.aload_n 0, 1) := by decide +kernel
theorem dX4_findFault_110 : decode cX4_findFault 110 = .ok (.iconst 1, 1) := by decide +kernel
theorem dX4_findFault_111 : decode cX4_findFault 111 = .ok (.invokevirtual 59, 3) := by decide +kernel
theorem dX4_findFault_114 : decode cX4_findFault 114 = .ok (.ldc 33, 2) := by decide +kernel
theorem dX4_findFault_116 : decode cX4_findFault 116 = .ok (.ireturn, 1) := by decide +kernel
theorem dX4_begin_0 : decode cX4_begin 0 = .ok (.aload_n 0, 1) := by decide +kernel
theorem dX4_begin_1 : decode cX4_begin 1 = .ok (.iconst 0, 1) := by decide +kernel
theorem dX4_begin_2 : decode cX4_begin 2 = .ok (.putfield 63, 3) := by decide +kernel
theorem dX4_begin_5 : decode cX4_begin 5 = .ok (.aload_n 0, 1) := by decide +kernel
theorem dX4_begin_6 : decode cX4_begin 6 = .ok (.iconst 0, 1) := by decide +kernel
theorem dX4_begin_7 : decode cX4_begin 7 = .ok (.putfield 66, 3) := by decide +kernel
theorem dX4_begin_10 : decode cX4_begin 10 = .ok (.aload_n 0, 1) := by decide +kernel
theorem dX4_begin_11 : decode cX4_begin 11 = .ok (.iconst 0, 1) := by decide +kernel
theorem dX4_begin_12 : decode cX4_begin 12 = .ok (.putfield 69, 3) := by decide +kernel
theorem dX4_begin_15 : decode cX4_begin 15 = .ok (.aload_n 0, 1) := by decide +kernel
theorem dX4_begin_16 : decode cX4_begin 16 = .ok (.iconst 0, 1) := by decide +kernel
theorem dX4_begin_17 : decode cX4_begin 17 = .ok (.putfield 56, 3) := by decide +kernel
theorem dX4_begin_20 : decode cX4_begin 20 = .ok (.aload_n 0, 1) := by decide +kernel
theorem dX4_begin_21 : decode cX4_begin 21 = .ok (.iconst 0, 1) := by decide +kernel
theorem dX4_begin_22 : decode cX4_begin 22 = .ok (.putfield 72, 3) := by decide +kernel
theorem dX4_begin_25 : decode cX4_begin 25 = .ok (.aload_n 0, 1) := by decide +kernel
theorem dX4_begin_26 : decode cX4_begin 26 = .ok (.iconst 1, 1) := by decide +kernel
theorem dX4_begin_27 : decode cX4_begin 27 = .ok (.putfield 45, 3) := by decide +kernel
theorem dX4_begin_30 : decode cX4_begin 30 = .ok (.aload_n 0, 1) := by decide +kernel
theorem dX4_begin_31 : decode cX4_begin 31 = .ok (.iconst 0, 1) := by decide +kernel
theorem dX4_begin_32 : decode cX4_begin 32 = .ok (.putfield 75, 3) := by decide +kernel
theorem dX4_begin_35 : decode cX4_begin 35 = .ok (.aload_n 0, 1) := by decide +kernel
theorem dX4_begin_36 : decode cX4_begin 36 = .ok (.invokevirtual 37, 3) := by decide +kernel
theorem dX4_begin_39 : decode cX4_begin 39 = .ok (.return_, 1) := by decide +kernel
theorem dX4_goOn_0 : decode cX4_goOn 0 = .ok (.aload_n 0, 1) := by decide +kernel
theorem dX4_goOn_1 : decode cX4_goOn 1 = .ok (.aload_n 0, 1) := by decide +kernel
theorem dX4_goOn_2 : decode cX4_goOn 2 = .ok (.getfield 75, 3) := by decide +kernel
theorem dX4_goOn_5 : decode cX4_goOn 5 = .ok (.putfield 34, 3) := by decide +kernel
theorem dX4_goOn_8 : decode cX4_goOn 8 = .ok (.aload_n 0, 1) := by decide +kernel
theorem dX4_goOn_9 : decode cX4_goOn 9 = .ok (.getfield 34, 3) := by decide +kernel
theorem dX4_goOn_12 : decode cX4_goOn 12 = .ok (.aload_n 0, 1) := by decide +kernel
theorem dX4_goOn_13 : decode cX4_goOn 13 = .ok (.getfield 18, 3) := by decide +kernel
theorem dX4_goOn_16 : decode cX4_goOn 16 = .ok (.getfield 40, 3) := by decide +kernel
theorem dX4_goOn_19 : decode cX4_goOn 19 = .ok (.if_icmp .ge 31, 3) := by decide +kernel
theorem dX4_goOn_22 : decode cX4_goOn 22 = .ok (.aload_n 0, 1) := by decide +kernel
theorem dX4_goOn_23 : decode cX4_goOn 23 = .ok (.getfield 18, 3) := by decide +kernel
theorem dX4_goOn_26 : decode cX4_goOn 26 = .ok (.aload_n 0, 1) := by decide +kernel
theorem dX4_goOn_27 : decode cX4_goOn 27 = .ok (.getfield 34, 3) := by decide +kernel
theorem dX4_goOn_30 : decode cX4_goOn 30 = .ok (.invokevirtual 78, 3) := by decide +kernel
theorem dX4_goOn_33 : decode cX4_goOn 33 = .ok (.iconst 1, 1) := by decide +kernel
theorem dX4_goOn_34 : decode cX4_goOn 34 = .ok (.if_icmp .ne 16, 3) := by decide +kernel
theorem dX4_goOn_37 : decode cX4_goOn 37 = .ok (.aload_n 0, 1) := by decide +kernel
theorem dX4_goOn_38 : decode cX4_goOn 38 = .ok (.dup, 1) := by decide +kernel
theorem dX4_goOn_39 : decode cX4_goOn 39 = .ok (.getfield 34, 3) := by decide +kernel
theorem dX4_goOn_42 : decode cX4_goOn 42 = .ok (.iconst 1, 1) := by decide +kernel
theorem dX4_goOn_43 : decode cX4_goOn 43 = .ok (.iadd, 1) := by decide +kernel
theorem dX4_goOn_44 : decode cX4_goOn 44 = .ok (.putfield 34, 3) := by decide +kernel
theorem dX4_goOn_47 : decode cX4_goOn 47 = .ok (.goto (-39), 3) := by decide +kernel
theorem dX4_goOn_50 : decode cX4_goOn 50 = .ok (.aload_n 0, 1) := by decide +kernel
theorem dX4_goOn_51 : decode cX4_goOn 51 = .ok (.aload_n 0, 1) := by decide +kernel
theorem dX4_goOn_52 : decode cX4_goOn 52 = .ok (.getfield 34, 3) := by decide +kernel
theorem dX4_goOn_55 : decode cX4_goOn 55 = .ok (.putfield 75, 3) := by decide +kernel
theorem dX4_goOn_58 : decode cX4_goOn 58 = .ok (.aload_n 0, 1) := by decide +kernel
theorem dX4_goOn_59 : decode cX4_goOn 59 = .ok (.getfield 18, 3) := by decide +kernel
theorem dX4_goOn_62 : decode cX4_goOn 62 = .ok (.aload_n 0, 1) := by decide +kernel
theorem dX4_goOn_63 : decode cX4_goOn 63 = .ok (.getfield 34, 3) := by decide +kernel
theorem dX4_goOn_66 : decode cX4_goOn 66 = .ok (.invokevirtual 78, 3) := by decide +kernel
theorem dX4_goOn_69 : decode cX4_goOn 69 = .ok (.istore_n 1, 1) := by decide +kernel
theorem dX4_goOn_70 : decode cX4_goOn 70 = .ok (.aload_n 0, 1) := by decide +kernel
theorem dX4_goOn_71 : decode cX4_goOn 71 = .ok (.getfield 75, 3) := by decide +kernel
theorem dX4_goOn_74 : decode cX4_goOn 74 = .ok (.aload_n 0, 1) := by decide +kernel
theorem dX4_goOn_75 : decode cX4_goOn 75 = .ok (.getfield 18, 3) := by decide +kernel
theorem dX4_goOn_78 : decode cX4_goOn 78 = .ok (.getfield 40, 3) := by decide +kernel
theorem dX4_goOn_81 : decode cX4_goOn 81 = .ok (.if_icmp .ge 47, 3) := by decide +kernel
theorem dX4_goOn_84 : decode cX4_goOn 84 = .ok (.aload_n 0, 1) := by decide +kernel
theorem dX4_goOn_85 : decode cX4_goOn 85 = .ok (.getfield 18, 3) := by decide +kernel
theorem dX4_goOn_88 : decode cX4_goOn 88 = .ok (.aload_n 0, 1) := by decide +kernel
theorem dX4_goOn_89 : decode cX4_goOn 89 = .ok (.getfield 75, 3) := by decide +kernel
theorem dX4_goOn_92 : decode cX4_goOn 92 = .ok (.invokevirtual 78, 3) := by decide +kernel
theorem dX4_goOn_95 : decode cX4_goOn 95 = .ok (.iload_n 1, 1) := by decide +kernel
theorem dX4_goOn_96 : decode cX4_goOn 96 = .ok (.if_icmp .ne 32, 3) := by decide +kernel
theorem dX4_goOn_99 : decode cX4_goOn 99 = .ok (.iload_n 1, 1) := by decide +kernel
theorem dX4_goOn_100 : decode cX4_goOn 100 = .ok (.iconst 4, 1) := by decide +kernel
theorem dX4_goOn_101 : decode cX4_goOn 101 = .ok (.if_icmp .ne 14, 3) := by decide +kernel
theorem dX4_goOn_104 : decode cX4_goOn 104 = .ok (.aload_n 0, 1) := by decide +kernel
theorem dX4_goOn_105 : decode cX4_goOn 105 = .ok (.getfield 75, 3) := by decide +kernel
theorem dX4_goOn_108 : decode cX4_goOn 108 = .ok (.aload_n 0, 1) := by decide +kernel
theorem dX4_goOn_109 : decode cX4_goOn 109 = .ok (.getfield 34, 3) := by decide +kernel
theorem dX4_goOn_112 : decode cX4_goOn 112 = .ok (.if_icmp .ne 16, 3) := by decide +kernel
theorem dX4_goOn_115 : decode cX4_goOn 115 = .ok (.aload_n 0, 1) := by decide +kernel
theorem dX4_goOn_116 : decode cX4_goOn 116 = .ok (.dup, 1) := by decide +kernel
theorem dX4_goOn_117 : decode cX4_goOn 117 = .ok (.getfield 75, 3) := by decide +kernel
theorem dX4_goOn_120 : decode cX4_goOn 120 = .ok (.iconst 1, 1) := by decide +kernel
theorem dX4_goOn_121 : decode cX4_goOn 121 = .ok (.iadd, 1) := by decide +kernel
theorem dX4_goOn_122 : decode cX4_goOn 122 = .ok (.putfield 75, 3) := by decide +kernel
theorem dX4_goOn_125 : decode cX4_goOn 125 = .ok (.goto (-55), 3) := by decide +kernel
theorem dX4_goOn_128 : decode cX4_goOn 128 = .ok (.return_, 1) := by decide +kernel
theorem dX4_keyHere_0 : decode cX4_keyHere 0 = .ok (.aload_n 0, 1) := by decide +kernel
theorem dX4_keyHere_1 : decode cX4_keyHere 1 = .ok (.ldc 82, 2) := by decide +kernel
theorem dX4_keyHere_3 : decode cX4_keyHere 3 = .ok (.invokevirtual 84, 3) := by decide +kernel
theorem dX4_keyHere_6 : decode cX4_keyHere 6 = .ok (.ifCond .eq 5, 3) := by decide +kernel
theorem dX4_keyHere_9 : decode cX4_keyHere 9 = .ok (.iconst 0, 1) := by decide +kernel
theorem dX4_keyHere_10 : decode cX4_keyHere 10 = .ok (.ireturn, 1) := by decide +kernel
theorem dX4_keyHere_11 : decode cX4_keyHere 11 = .ok (.aload_n 0, 1) := by decide +kernel
theorem dX4_keyHere_12 : decode cX4_keyHere 12 = .ok (.ldc 88, 2) := by decide +kernel
theorem dX4_keyHere_14 : decode cX4_keyHere 14 = .ok (.invokevirtual 84, 3) := by decide +kernel
theorem dX4_keyHere_17 : decode cX4_keyHere 17 = .ok (.ifCond .eq 5, 3) := by decide +kernel
theorem dX4_keyHere_20 : decode cX4_keyHere 20 = .ok (.iconst 1, 1) := by decide +kernel
theorem dX4_keyHere_21 : decode cX4_keyHere 21 = .ok (.ireturn, 1) := by decide +kernel
theorem dX4_keyHere_22 : decode cX4_keyHere 22 = .ok (.aload_n 0, 1) := by decide +kernel
theorem dX4_keyHere_23 : decode cX4_keyHere 23 = .ok (.ldc 90, 2) := by decide +kernel
theorem dX4_keyHere_25 : decode cX4_keyHere 25 = .ok (.invokevirtual 84, 3) := by decide +kernel
theorem dX4_keyHere_28 : decode cX4_keyHere 28 = .ok (.ifCond .eq 7, 3) := by decide +kernel
theorem dX4_keyHere_31 : decode cX4_keyHere 31 = .ok (.iconst 2, 1) := by decide +kernel
theorem dX4_keyHere_32 : decode cX4_keyHere 32 = .ok (.goto 5, 3) := by decide +kernel
theorem dX4_keyHere_35 : decode cX4_keyHere 35 = .ok (.ldc 33, 2) := by decide +kernel
theorem dX4_keyHere_37 : decode cX4_keyHere 37 = .ok (.ireturn, 1) := by decide +kernel
theorem dX4_spells_0 : decode cX4_spells 0 = .ok (.aload_n 0, 1) := by decide +kernel
theorem dX4_spells_1 : decode cX4_spells 1 = .ok (.getfield 75, 3) := by decide +kernel
theorem dX4_spells_4 : decode cX4_spells 4 = .ok (.aload_n 0, 1) := by decide +kernel
theorem dX4_spells_5 : decode cX4_spells 5 = .ok (.getfield 34, 3) := by decide +kernel
theorem dX4_spells_8 : decode cX4_spells 8 = .ok (.isub, 1) := by decide +kernel
theorem dX4_spells_9 : decode cX4_spells 9 = .ok (.aload_n 1, 1) := by decide +kernel
theorem dX4_spells_10 : decode cX4_spells 10 = .ok (.invokevirtual 92, 3) := by decide +kernel
theorem dX4_spells_13 : decode cX4_spells 13 = .ok (.if_icmp .eq 5, 3) := by decide +kernel
theorem dX4_spells_16 : decode cX4_spells 16 = .ok (.iconst 0, 1) := by decide +kernel
theorem dX4_spells_17 : decode cX4_spells 17 = .ok (.ireturn, 1) := by decide +kernel
theorem dX4_spells_18 : decode cX4_spells 18 = .ok (.iconst 0, 1) := by decide +kernel
theorem dX4_spells_19 : decode cX4_spells 19 = .ok (.istore_n 2, 1) := by decide +kernel
theorem dX4_spells_20 : decode cX4_spells 20 = .ok (.iload_n 2, 1) := by decide +kernel
theorem dX4_spells_21 : decode cX4_spells 21 = .ok (.aload_n 1, 1) := by decide +kernel
theorem dX4_spells_22 : decode cX4_spells 22 = .ok (.invokevirtual 92, 3) := by decide +kernel
theorem dX4_spells_25 : decode cX4_spells 25 = .ok (.if_icmp .ge 32, 3) := by decide +kernel
theorem dX4_spells_28 : decode cX4_spells 28 = .ok (.aload_n 0, 1) := by decide +kernel
theorem dX4_spells_29 : decode cX4_spells 29 = .ok (.getfield 18, 3) := by decide +kernel
theorem dX4_spells_32 : decode cX4_spells 32 = .ok (.aload_n 0, 1) := by decide +kernel
theorem dX4_spells_33 : decode cX4_spells 33 = .ok (.getfield 34, 3) := by decide +kernel
theorem dX4_spells_36 : decode cX4_spells 36 = .ok (.iload_n 2, 1) := by decide +kernel
theorem dX4_spells_37 : decode cX4_spells 37 = .ok (.iadd, 1) := by decide +kernel
theorem dX4_spells_38 : decode cX4_spells 38 = .ok (.invokevirtual 96, 3) := by decide +kernel
theorem dX4_spells_41 : decode cX4_spells 41 = .ok (.aload_n 1, 1) := by decide +kernel
theorem dX4_spells_42 : decode cX4_spells 42 = .ok (.iload_n 2, 1) := by decide +kernel
theorem dX4_spells_43 : decode cX4_spells 43 = .ok (.invokevirtual 99, 3) := by decide +kernel
theorem dX4_spells_46 : decode cX4_spells 46 = .ok (.if_icmp .eq 5, 3) := by decide +kernel
theorem dX4_spells_49 : decode cX4_spells 49 = .ok (.iconst 0, 1) := by decide +kernel
theorem dX4_spells_50 : decode cX4_spells 50 = .ok (.ireturn, 1) := by decide +kernel
theorem dX4_spells_51 : decode cX4_spells 51 = .ok (.iinc 2 1, 3) := by decide +kernel
theorem dX4_spells_54 : decode cX4_spells 54 = .ok (.goto (-34), 3) := by decide +kernel
theorem dX4_spells_57 : decode cX4_spells 57 = .ok (.iconst 1, 1) := by decide +kernel
theorem dX4_spells_58 : decode cX4_spells 58 = .ok (.ireturn, 1) := by decide +kernel
theorem dX4_takePiece_0 : decode cX4_takePiece 0 = .ok (.aload_n 0, 1) := by decide +kernel
theorem dX4_takePiece_1 : decode cX4_takePiece 1 = .ok (.getfield 18, 3) := by decide +kernel
theorem dX4_takePiece_4 : decode cX4_takePiece 4 = .ok (.aload_n 0, 1) := by decide +kernel
theorem dX4_takePiece_5 : decode cX4_takePiece 5 = .ok (.getfield 34, 3) := by decide +kernel
theorem dX4_takePiece_8 : decode cX4_takePiece 8 = .ok (.invokevirtual 96, 3) := by decide +kernel
theorem dX4_takePiece_11 : decode cX4_takePiece 11 = .ok (.istore_n 1, 1) := by decide +kernel
theorem dX4_takePiece_12 : decode cX4_takePiece 12 = .ok (.iload_n 1, 1) := by decide +kernel
theorem dX4_takePiece_13 : decode cX4_takePiece 13 = .ok (.bipush 40, 2) := by decide +kernel
theorem dX4_takePiece_15 : decode cX4_takePiece 15 = .ok (.if_icmp .ne 33, 3) := by decide +kernel
theorem dX4_takePiece_18 : decode cX4_takePiece 18 = .ok (.aload_n 0, 1) := by decide +kernel
theorem dX4_takePiece_19 : decode cX4_takePiece 19 = .ok (.dup, 1) := by decide +kernel
theorem dX4_takePiece_20 : decode cX4_takePiece 20 = .ok (.getfield 56, 3) := by decide +kernel
theorem dX4_takePiece_23 : decode cX4_takePiece 23 = .ok (.iconst 1, 1) := by decide +kernel
theorem dX4_takePiece_24 : decode cX4_takePiece 24 = .ok (.iadd, 1) := by decide +kernel
theorem dX4_takePiece_25 : decode cX4_takePiece 25 = .ok (.putfield 56, 3) := by decide +kernel
theorem dX4_takePiece_28 : decode cX4_takePiece 28 = .ok (.aload_n 0, 1) := by decide +kernel
theorem dX4_takePiece_29 : decode cX4_takePiece 29 = .ok (.iload_n 1, 1) := by decide +kernel
theorem dX4_takePiece_30 : decode cX4_takePiece 30 = .ok (.invokevirtual 103, 3) := by decide +kernel
theorem dX4_takePiece_33 : decode cX4_takePiece 33 = .ok (.aload_n 0, 1) := by decide +kernel
theorem dX4_takePiece_34 : decode cX4_takePiece 34 = .ok (.getfield 56, 3) := by decide +kernel
theorem dX4_takePiece_37 : decode cX4_takePiece 37 = .ok (.bipush 8, 2) := by decide +kernel
theorem dX4_takePiece_39 : decode cX4_takePiece 39 = .ok (.if_icmp .gt 7, 3) := by decide +kernel
theorem dX4_takePiece_42 : decode cX4_takePiece 42 = .ok (.iconst 1, 1) := by decide +kernel
theorem dX4_takePiece_43 : decode cX4_takePiece 43 = .ok (.goto 4, 3) := by decide +kernel
theorem dX4_takePiece_46 : decode cX4_takePiece 46 = .ok (.iconst 0, 1) := by decide +kernel
theorem dX4_takePiece_47 : decode cX4_takePiece 47 = .ok (.ireturn, 1) := by decide +kernel
theorem dX4_takePiece_48 : decode cX4_takePiece 48 = .ok (.iload_n 1, 1) := by decide +kernel
theorem dX4_takePiece_49 : decode cX4_takePiece 49 = .ok (.bipush 33, 2) := by decide +kernel
theorem dX4_takePiece_51 : decode cX4_takePiece 51 = .ok (.if_icmp .ne 33, 3) := by decide +kernel
theorem dX4_takePiece_54 : decode cX4_takePiece 54 = .ok (.aload_n 0, 1) := by decide +kernel
theorem dX4_takePiece_55 : decode cX4_takePiece 55 = .ok (.dup, 1) := by decide +kernel
theorem dX4_takePiece_56 : decode cX4_takePiece 56 = .ok (.getfield 72, 3) := by decide +kernel
theorem dX4_takePiece_59 : decode cX4_takePiece 59 = .ok (.iconst 1, 1) := by decide +kernel
theorem dX4_takePiece_60 : decode cX4_takePiece 60 = .ok (.iadd, 1) := by decide +kernel
theorem dX4_takePiece_61 : decode cX4_takePiece 61 = .ok (.putfield 72, 3) := by decide +kernel
theorem dX4_takePiece_64 : decode cX4_takePiece 64 = .ok (.aload_n 0, 1) := by decide +kernel
theorem dX4_takePiece_65 : decode cX4_takePiece 65 = .ok (.iload_n 1, 1) := by decide +kernel
theorem dX4_takePiece_66 : decode cX4_takePiece 66 = .ok (.invokevirtual 103, 3) := by decide +kernel
theorem dX4_takePiece_69 : decode cX4_takePiece 69 = .ok (.aload_n 0, 1) := by decide +kernel
theorem dX4_takePiece_70 : decode cX4_takePiece 70 = .ok (.getfield 72, 3) := by decide +kernel
theorem dX4_takePiece_73 : decode cX4_takePiece 73 = .ok (.bipush 8, 2) := by decide +kernel
theorem dX4_takePiece_75 : decode cX4_takePiece 75 = .ok (.if_icmp .gt 7, 3) := by decide +kernel
theorem dX4_takePiece_78 : decode cX4_takePiece 78 = .ok (.iconst 1, 1) := by decide +kernel
theorem dX4_takePiece_79 : decode cX4_takePiece 79 = .ok (.goto 4, 3) := by decide +kernel
theorem dX4_takePiece_82 : decode cX4_takePiece 82 = .ok (.iconst 0, 1) := by decide +kernel
theorem dX4_takePiece_83 : decode cX4_takePiece 83 = .ok (.ireturn, 1) := by decide +kernel
theorem dX4_takePiece_84 : decode cX4_takePiece 84 = .ok (.aload_n 0, 1) := by decide +kernel
theorem dX4_takePiece_85 : decode cX4_takePiece 85 = .ok (.invokevirtual 106, 3) := by decide +kernel
theorem dX4_takePiece_88 : decode cX4_takePiece 88 = .ok (.istore_n 2, 1) := by decide +kernel
theorem dX4_takePiece_89 : decode cX4_takePiece 89 = .ok (.iload_n 2, 1) := by decide +kernel
theorem dX4_takePiece_90 : decode cX4_takePiece 90 = .ok (.ldc 33, 2) := by decide +kernel
theorem dX4_takePiece_92 : decode cX4_takePiece 92 = .ok (.if_icmp .ne 5, 3) := by decide +kernel
theorem dX4_takePiece_95 : decode cX4_takePiece 95 = .ok (.iconst 0, 1) := by decide +kernel
theorem dX4_takePiece_96 : decode cX4_takePiece 96 = .ok (.ireturn, 1) := by decide +kernel
theorem dX4_takePiece_97 : decode cX4_takePiece 97 = .ok (.aload_n 0, 1) := by decide +kernel
theorem dX4_takePiece_98 : decode cX4_takePiece 98 = .ok (.iload_n 2, 1) := by decide +kernel
theorem dX4_takePiece_99 : decode cX4_takePiece 99 = .ok (.invokevirtual 109, 3) := by decide +kernel
theorem dX4_takePiece_102 : decode cX4_takePiece 102 = .ok (.aload_n 0, 1) := by decide +kernel
theorem dX4_takePiece_103 : decode cX4_takePiece 103 = .ok (.dup, 1) := by decide +kernel
theorem dX4_takePiece_104 : decode cX4_takePiece 104 = .ok (.getfield 63, 3) := by decide +kernel
theorem dX4_takePiece_107 : decode cX4_takePiece 107 = .ok (.iconst 1, 1) := by decide +kernel
theorem dX4_takePiece_108 : decode cX4_takePiece 108 = .ok (.iadd, 1) := by decide +kernel
theorem dX4_takePiece_109 : decode cX4_takePiece 109 = .ok (.putfield 63, 3) := by decide +kernel
theorem dX4_takePiece_112 : decode cX4_takePiece 112 = .ok (.aload_n 0, 1) := by decide +kernel
theorem dX4_takePiece_113 : decode cX4_takePiece 113 = .ok (.invokevirtual 112, 3) := by decide +kernel
theorem dX4_takePiece_116 : decode cX4_takePiece 116 = .ok (.iconst 1, 1) := by decide +kernel
theorem dX4_takePiece_117 : decode cX4_takePiece 117 = .ok (.ireturn, 1) := by decide +kernel
theorem dX4_operandHere_0 : decode cX4_operandHere 0 = .ok (.aload_n 0, 1) := by decide +kernel
theorem dX4_operandHere_1 : decode cX4_operandHere 1 = .ok (.invokevirtual 115, 3) := by decide +kernel
theorem dX4_operandHere_4 : decode cX4_operandHere 4 = .ok (.ifCond .eq 6, 3) := by decide +kernel
theorem dX4_operandHere_7 : decode cX4_operandHere 7 = .ok (.ldc 33, 2) := by decide +kernel
theorem dX4_operandHere_9 : decode cX4_operandHere 9 = .ok (.ireturn, 1) := by decide +kernel
theorem dX4_operandHere_10 : decode cX4_operandHere 10 = .ok (.aload_n 0, 1) := by decide +kernel
theorem dX4_operandHere_11 : decode cX4_operandHere 11 = .ok (.getfield 18, 3) := by decide +kernel
theorem dX4_operandHere_14 : decode cX4_operandHere 14 = .ok (.aload_n 0, 1) := by decide +kernel
theorem dX4_operandHere_15 : decode cX4_operandHere 15 = .ok (.getfield 34, 3) := by decide +kernel
theorem dX4_operandHere_18 : decode cX4_operandHere 18 = .ok (.invokevirtual 78, 3) := by decide +kernel
theorem dX4_operandHere_21 : decode cX4_operandHere 21 = .ok (.lookupswitch 37 #[(2, 32), (3, 27)], 27) := by decide +kernel
theorem dX4_operandHere_48 : decode cX4_operandHere 48 = .ok (.aload_n 0, 1) := by decide +kernel
theorem dX4_operandHere_49 : decode cX4_operandHere 49 = .ok (.invokevirtual 118, 3) := by decide +kernel
theorem dX4_operandHere_52 : decode cX4_operandHere 52 = .ok (.ireturn, 1) := by decide +kernel
theorem dX4_operandHere_53 : decode cX4_operandHere 53 = .ok (.aload_n 0, 1) := by decide +kernel
theorem dX4_operandHere_54 : decode cX4_operandHere 54 = .ok (.invokevirtual 121, 3) := by decide +kernel
theorem dX4_operandHere_57 : decode cX4_operandHere 57 = .ok (.ireturn, 1) := by decide +kernel
theorem dX4_operandHere_58 : decode cX4_operandHere 58 = .ok (.ldc 33, 2) := by decide +kernel
theorem dX4_operandHere_60 : decode cX4_operandHere 60 = .ok (.ireturn, 1) := by decide +kernel
theorem dX4_followsWord_0 : decode cX4_followsWord 0 = .ok (.aload_n 0, 1) := by decide +kernel
theorem dX4_followsWord_1 : decode cX4_followsWord 1 = .ok (.getfield 18, 3) := by decide +kernel
theorem dX4_followsWord_4 : decode cX4_followsWord 4 = .ok (.aload_n 0, 1) := by decide +kernel
theorem dX4_followsWord_5 : decode cX4_followsWord 5 = .ok (.getfield 34, 3) := by decide +kernel
theorem dX4_followsWord_8 : decode cX4_followsWord 8 = .ok (.iconst 1, 1) := by decide +kernel
theorem dX4_followsWord_9 : decode cX4_followsWord 9 = .ok (.isub, 1) := by decide +kernel
theorem dX4_followsWord_10 : decode cX4_followsWord 10 = .ok (.invokevirtual 78, 3) := by decide +kernel
theorem dX4_followsWord_13 : decode cX4_followsWord 13 = .ok (.istore_n 1, 1) := by decide +kernel
theorem dX4_followsWord_14 : decode cX4_followsWord 14 = .ok (.iload_n 1, 1) := by decide +kernel
theorem dX4_followsWord_15 : decode cX4_followsWord 15 = .ok (.iconst 2, 1) := by decide +kernel
theorem dX4_followsWord_16 : decode cX4_followsWord 16 = .ok (.if_icmp .eq 8, 3) := by decide +kernel
theorem dX4_followsWord_19 : decode cX4_followsWord 19 = .ok (.iload_n 1, 1) := by decide +kernel
theorem dX4_followsWord_20 : decode cX4_followsWord 20 = .ok (.iconst 3, 1) := by decide +kernel
theorem dX4_followsWord_21 : decode cX4_followsWord 21 = .ok (.if_icmp .ne 7, 3) := by decide +kernel
theorem dX4_followsWord_24 : decode cX4_followsWord 24 = .ok (.iconst 1, 1) := by decide +kernel
theorem dX4_followsWord_25 : decode cX4_followsWord 25 = .ok (.goto 4, 3) := by decide +kernel
theorem dX4_followsWord_28 : decode cX4_followsWord 28 = .ok (.iconst 0, 1) := by decide +kernel
theorem dX4_followsWord_29 : decode cX4_followsWord 29 = .ok (.ireturn, 1) := by decide +kernel
theorem dX4_numberHere_0 : decode cX4_numberHere 0 = .ok (.aload_n 0, 1) := by decide +kernel
theorem dX4_numberHere_1 : decode cX4_numberHere 1 = .ok (.getfield 75, 3) := by decide +kernel
theorem dX4_numberHere_4 : decode cX4_numberHere 4 = .ok (.aload_n 0, 1) := by decide +kernel
theorem dX4_numberHere_5 : decode cX4_numberHere 5 = .ok (.getfield 34, 3) := by decide +kernel
theorem dX4_numberHere_8 : decode cX4_numberHere 8 = .ok (.isub, 1) := by decide +kernel
theorem dX4_numberHere_9 : decode cX4_numberHere 9 = .ok (.iconst 4, 1) := by decide +kernel
theorem dX4_numberHere_10 : decode cX4_numberHere 10 = .ok (.if_icmp .le 6, 3) := by decide +kernel
theorem dX4_numberHere_13 : decode cX4_numberHere 13 = .ok (.ldc 33, 2) := by decide +kernel
theorem dX4_numberHere_15 : decode cX4_numberHere 15 = .ok (.ireturn, 1) := by decide +kernel
theorem dX4_numberHere_16 : decode cX4_numberHere 16 = .ok (.iconst 0, 1) := by decide +kernel
theorem dX4_numberHere_17 : decode cX4_numberHere 17 = .ok (.istore_n 1, 1) := by decide +kernel
theorem dX4_numberHere_18 : decode cX4_numberHere 18 = .ok (.aload_n 0, 1) := by decide +kernel
theorem dX4_numberHere_19 : decode cX4_numberHere 19 = .ok (.getfield 34, 3) := by decide +kernel
theorem dX4_numberHere_22 : decode cX4_numberHere 22 = .ok (.istore_n 2, 1) := by decide +kernel
theorem dX4_numberHere_23 : decode cX4_numberHere 23 = .ok (.iload_n 2, 1) := by decide +kernel
theorem dX4_numberHere_24 : decode cX4_numberHere 24 = .ok (.aload_n 0, 1) := by decide +kernel
theorem dX4_numberHere_25 : decode cX4_numberHere 25 = .ok (.getfield 75, 3) := by decide +kernel
theorem dX4_numberHere_28 : decode cX4_numberHere 28 = .ok (.if_icmp .ge 26, 3) := by decide +kernel
theorem dX4_numberHere_31 : decode cX4_numberHere 31 = .ok (.iload_n 1, 1) := by decide +kernel
theorem dX4_numberHere_32 : decode cX4_numberHere 32 = .ok (.bipush 10, 2) := by decide +kernel
theorem dX4_numberHere_34 : decode cX4_numberHere 34 = .ok (.imul, 1) := by decide +kernel
theorem dX4_numberHere_35 : decode cX4_numberHere 35 = .ok (.aload_n 0, 1) := by decide +kernel
theorem dX4_numberHere_36 : decode cX4_numberHere 36 = .ok (.getfield 18, 3) := by decide +kernel
theorem dX4_numberHere_39 : decode cX4_numberHere 39 = .ok (.iload_n 2, 1) := by decide +kernel
theorem dX4_numberHere_40 : decode cX4_numberHere 40 = .ok (.invokevirtual 96, 3) := by decide +kernel
theorem dX4_numberHere_43 : decode cX4_numberHere 43 = .ok (.iadd, 1) := by decide +kernel
theorem dX4_numberHere_44 : decode cX4_numberHere 44 = .ok (.bipush 48, 2) := by decide +kernel
theorem dX4_numberHere_46 : decode cX4_numberHere 46 = .ok (.isub, 1) := by decide +kernel
theorem dX4_numberHere_47 : decode cX4_numberHere 47 = .ok (.istore_n 1, 1) := by decide +kernel
theorem dX4_numberHere_48 : decode cX4_numberHere 48 = .ok (.iinc 2 1, 3) := by decide +kernel
theorem dX4_numberHere_51 : decode cX4_numberHere 51 = .ok (.goto (-28), 3) := by decide +kernel
theorem dX4_numberHere_54 : decode cX4_numberHere 54 = .ok (.iload_n 1, 1) := by decide +kernel
theorem dX4_numberHere_55 : decode cX4_numberHere 55 = .ok (.ireturn, 1) := by decide +kernel
theorem dX4_nameHere_0 : decode cX4_nameHere 0 = .ok (.aload_n 0, 1) := by decide +kernel
theorem dX4_nameHere_1 : decode cX4_nameHere 1 = .ok (.invokevirtual 124, 3) := by decide +kernel
theorem dX4_nameHere_4 : decode cX4_nameHere 4 = .ok (.aload_n 0, 1) := by decide +kernel
theorem dX4_nameHere_5 : decode cX4_nameHere 5 = .ok (.getfield 18, 3) := by decide +kernel
theorem dX4_nameHere_8 : decode cX4_nameHere 8 = .ok (.aload_n 0, 1) := by decide +kernel
theorem dX4_nameHere_9 : decode cX4_nameHere 9 = .ok (.getfield 34, 3) := by decide +kernel
theorem dX4_nameHere_12 : decode cX4_nameHere 12 = .ok (.invokevirtual 96, 3) := by decide +kernel
theorem dX4_nameHere_15 : decode cX4_nameHere 15 = .ok (.i2c, 1) := by decide +kernel
theorem dX4_nameHere_16 : decode cX4_nameHere 16 = .ok (.invokevirtual 128, 3) := by decide +kernel
theorem dX4_nameHere_19 : decode cX4_nameHere 19 = .ok (.istore_n 1, 1) := by decide +kernel
theorem dX4_nameHere_20 : decode cX4_nameHere 20 = .ok (.aload_n 0, 1) := by decide +kernel
theorem dX4_nameHere_21 : decode cX4_nameHere 21 = .ok (.getfield 75, 3) := by decide +kernel
theorem dX4_nameHere_24 : decode cX4_nameHere 24 = .ok (.aload_n 0, 1) := by decide +kernel
theorem dX4_nameHere_25 : decode cX4_nameHere 25 = .ok (.getfield 34, 3) := by decide +kernel
theorem dX4_nameHere_28 : decode cX4_nameHere 28 = .ok (.isub, 1) := by decide +kernel
theorem dX4_nameHere_29 : decode cX4_nameHere 29 = .ok (.iconst 1, 1) := by decide +kernel
theorem dX4_nameHere_30 : decode cX4_nameHere 30 = .ok (.if_icmp .ne 13, 3) := by decide +kernel
theorem dX4_nameHere_33 : decode cX4_nameHere 33 = .ok (.iload_n 1, 1) := by decide +kernel
theorem dX4_nameHere_34 : decode cX4_nameHere 34 = .ok (.ifCond .lt 9, 3) := by decide +kernel
theorem dX4_nameHere_37 : decode cX4_nameHere 37 = .ok (.iconst (-1), 1) := by decide +kernel
theorem dX4_nameHere_38 : decode cX4_nameHere 38 = .ok (.iload_n 1, 1) := by decide +kernel
theorem dX4_nameHere_39 : decode cX4_nameHere 39 = .ok (.isub, 1) := by decide +kernel
theorem dX4_nameHere_40 : decode cX4_nameHere 40 = .ok (.goto 5, 3) := by decide +kernel
theorem dX4_nameHere_43 : decode cX4_nameHere 43 = .ok (.ldc 33, 2) := by decide +kernel
theorem dX4_nameHere_45 : decode cX4_nameHere 45 = .ok (.ireturn, 1) := by decide +kernel
theorem dX4_namesOfKey_0 : decode cX4_namesOfKey 0 = .ok (.aload_n 0, 1) := by decide +kernel
theorem dX4_namesOfKey_1 : decode cX4_namesOfKey 1 = .ok (.getfield 29, 3) := by decide +kernel
theorem dX4_namesOfKey_4 : decode cX4_namesOfKey 4 = .ok (.lookupswitch 34 #[(0, 28), (1, 31)], 28) := by decide +kernel
theorem dX4_namesOfKey_32 : decode cX4_namesOfKey 32 = .ok (.ldc 131, 2) := by decide +kernel
theorem dX4_namesOfKey_34 : decode cX4_namesOfKey 34 = .ok (.areturn, 1) := by decide +kernel
theorem dX4_namesOfKey_35 : decode cX4_namesOfKey 35 = .ok (.ldc 133, 2) := by decide +kernel
theorem dX4_namesOfKey_37 : decode cX4_namesOfKey 37 = .ok (.areturn, 1) := by decide +kernel
theorem dX4_namesOfKey_38 : decode cX4_namesOfKey 38 = .ok (.ldc 135, 2) := by decide +kernel
theorem dX4_namesOfKey_40 : decode cX4_namesOfKey 40 = .ok (.areturn, 1) := by decide +kernel
theorem dX4_endPiece_0 : decode cX4_endPiece 0 = .ok (.iconst 0, 1) := by decide +kernel
theorem dX4_endPiece_1 : decode cX4_endPiece 1 = .ok (.istore_n 1, 1) := by decide +kernel
theorem dX4_endPiece_2 : decode cX4_endPiece 2 = .ok (.iload_n 1, 1) := by decide +kernel
theorem dX4_endPiece_3 : decode cX4_endPiece 3 = .ok (.bipush 8, 2) := by decide +kernel
theorem dX4_endPiece_5 : decode cX4_endPiece 5 = .ok (.if_icmp .ge 47, 3) := by decide +kernel
theorem dX4_endPiece_8 : decode cX4_endPiece 8 = .ok (.aload_n 0, 1) := by decide +kernel
theorem dX4_endPiece_9 : decode cX4_endPiece 9 = .ok (.invokevirtual 137, 3) := by decide +kernel
theorem dX4_endPiece_12 : decode cX4_endPiece 12 = .ok (.bipush 33, 2) := by decide +kernel
theorem dX4_endPiece_14 : decode cX4_endPiece 14 = .ok (.if_icmp .ne 38, 3) := by decide +kernel
theorem dX4_endPiece_17 : decode cX4_endPiece 17 = .ok (.aload_n 0, 1) := by decide +kernel
theorem dX4_endPiece_18 : decode cX4_endPiece 18 = .ok (.aload_n 0, 1) := by decide +kernel
theorem dX4_endPiece_19 : decode cX4_endPiece 19 = .ok (.invokevirtual 137, 3) := by decide +kernel
theorem dX4_endPiece_22 : decode cX4_endPiece 22 = .ok (.ineg, 1) := by decide +kernel
theorem dX4_endPiece_23 : decode cX4_endPiece 23 = .ok (.invokevirtual 109, 3) := by decide +kernel
theorem dX4_endPiece_26 : decode cX4_endPiece 26 = .ok (.aload_n 0, 1) := by decide +kernel
theorem dX4_endPiece_27 : decode cX4_endPiece 27 = .ok (.dup, 1) := by decide +kernel
theorem dX4_endPiece_28 : decode cX4_endPiece 28 = .ok (.getfield 69, 3) := by decide +kernel
theorem dX4_endPiece_31 : decode cX4_endPiece 31 = .ok (.iconst 1, 1) := by decide +kernel
theorem dX4_endPiece_32 : decode cX4_endPiece 32 = .ok (.isub, 1) := by decide +kernel
theorem dX4_endPiece_33 : decode cX4_endPiece 33 = .ok (.putfield 69, 3) := by decide +kernel
theorem dX4_endPiece_36 : decode cX4_endPiece 36 = .ok (.aload_n 0, 1) := by decide +kernel
theorem dX4_endPiece_37 : decode cX4_endPiece 37 = .ok (.dup, 1) := by decide +kernel
theorem dX4_endPiece_38 : decode cX4_endPiece 38 = .ok (.getfield 72, 3) := by decide +kernel
theorem dX4_endPiece_41 : decode cX4_endPiece 41 = .ok (.iconst 1, 1) := by decide +kernel
theorem dX4_endPiece_42 : decode cX4_endPiece 42 = .ok (.isub, 1) := by decide +kernel
theorem dX4_endPiece_43 : decode cX4_endPiece 43 = .ok (.putfield 72, 3) := by decide +kernel
theorem dX4_endPiece_46 : decode cX4_endPiece 46 = .ok (.iinc 1 1, 3) := by decide +kernel
theorem dX4_endPiece_49 : decode cX4_endPiece 49 = .ok (.goto (-47), 3) := by decide +kernel
theorem dX4_endPiece_52 : decode cX4_endPiece 52 = .ok (.aload_n 0, 1) := by decide +kernel
theorem dX4_endPiece_53 : decode cX4_endPiece 53 = .ok (.iconst 0, 1) := by decide +kernel
theorem dX4_endPiece_54 : decode cX4_endPiece 54 = .ok (.putfield 45, 3) := by decide +kernel
theorem dX4_endPiece_57 : decode cX4_endPiece 57 = .ok (.return_, 1) := by decide +kernel
theorem dX4_takeSign_0 : decode cX4_takeSign 0 = .ok (.aload_n 0, 1) := by decide +kernel
theorem dX4_takeSign_1 : decode cX4_takeSign 1 = .ok (.getfield 18, 3) := by decide +kernel
theorem dX4_takeSign_4 : decode cX4_takeSign 4 = .ok (.aload_n 0, 1) := by decide +kernel
theorem dX4_takeSign_5 : decode cX4_takeSign 5 = .ok (.getfield 34, 3) := by decide +kernel
theorem dX4_takeSign_8 : decode cX4_takeSign 8 = .ok (.invokevirtual 96, 3) := by decide +kernel
theorem dX4_takeSign_11 : decode cX4_takeSign 11 = .ok (.istore_n 1, 1) := by decide +kernel
theorem dX4_takeSign_12 : decode cX4_takeSign 12 = .ok (.iload_n 1, 1) := by decide +kernel
theorem dX4_takeSign_13 : decode cX4_takeSign 13 = .ok (.bipush 41, 2) := by decide +kernel
theorem dX4_takeSign_15 : decode cX4_takeSign 15 = .ok (.if_icmp .ne 8, 3) := by decide +kernel
theorem dX4_takeSign_18 : decode cX4_takeSign 18 = .ok (.aload_n 0, 1) := by decide +kernel
theorem dX4_takeSign_19 : decode cX4_takeSign 19 = .ok (.invokevirtual 140, 3) := by decide +kernel
theorem dX4_takeSign_22 : decode cX4_takeSign 22 = .ok (.ireturn, 1) := by decide +kernel
theorem dX4_takeSign_23 : decode cX4_takeSign 23 = .ok (.iload_n 1, 1) := by decide +kernel
theorem dX4_takeSign_24 : decode cX4_takeSign 24 = .ok (.invokestatic 143, 3) := by decide +kernel
theorem dX4_takeSign_27 : decode cX4_takeSign 27 = .ok (.istore_n 2, 1) := by decide +kernel
theorem dX4_takeSign_28 : decode cX4_takeSign 28 = .ok (.iload_n 2, 1) := by decide +kernel
theorem dX4_takeSign_29 : decode cX4_takeSign 29 = .ok (.ifCond .ne 5, 3) := by decide +kernel
theorem dX4_takeSign_32 : decode cX4_takeSign 32 = .ok (.iconst 0, 1) := by decide +kernel
theorem dX4_takeSign_33 : decode cX4_takeSign 33 = .ok (.ireturn, 1) := by decide +kernel
theorem dX4_takeSign_34 : decode cX4_takeSign 34 = .ok (.iload_n 2, 1) := by decide +kernel
theorem dX4_takeSign_35 : decode cX4_takeSign 35 = .ok (.iconst 3, 1) := by decide +kernel
theorem dX4_takeSign_36 : decode cX4_takeSign 36 = .ok (.if_icmp .ne 21, 3) := by decide +kernel
theorem dX4_takeSign_39 : decode cX4_takeSign 39 = .ok (.aload_n 0, 1) := by decide +kernel
theorem dX4_takeSign_40 : decode cX4_takeSign 40 = .ok (.iconst 4, 1) := by decide +kernel
theorem dX4_takeSign_41 : decode cX4_takeSign 41 = .ok (.invokevirtual 59, 3) := by decide +kernel
theorem dX4_takeSign_44 : decode cX4_takeSign 44 = .ok (.aload_n 0, 1) := by decide +kernel
theorem dX4_takeSign_45 : decode cX4_takeSign 45 = .ok (.invokevirtual 137, 3) := by decide +kernel
theorem dX4_takeSign_48 : decode cX4_takeSign 48 = .ok (.invokestatic 143, 3) := by decide +kernel
theorem dX4_takeSign_51 : decode cX4_takeSign 51 = .ok (.iconst 3, 1) := by decide +kernel
theorem dX4_takeSign_52 : decode cX4_takeSign 52 = .ok (.if_icmp .ne 10, 3) := by decide +kernel
theorem dX4_takeSign_55 : decode cX4_takeSign 55 = .ok (.iconst 0, 1) := by decide +kernel
theorem dX4_takeSign_56 : decode cX4_takeSign 56 = .ok (.ireturn, 1) := by decide +kernel
theorem dX4_takeSign_57 : decode cX4_takeSign 57 = .ok (.aload_n 0, 1) := by decide +kernel
theorem dX4_takeSign_58 : decode cX4_takeSign 58 = .ok (.iload_n 2, 1) := by decide +kernel
theorem dX4_takeSign_59 : decode cX4_takeSign 59 = .ok (.invokevirtual 59, 3) := by decide +kernel
theorem dX4_takeSign_62 : decode cX4_takeSign 62 = .ok (.aload_n 0, 1) := by decide +kernel
theorem dX4_takeSign_63 : decode cX4_takeSign 63 = .ok (.iload_n 1, 1) := by decide +kernel
theorem dX4_takeSign_64 : decode cX4_takeSign 64 = .ok (.invokevirtual 103, 3) := by decide +kernel
theorem dX4_takeSign_67 : decode cX4_takeSign 67 = .ok (.aload_n 0, 1) := by decide +kernel
theorem dX4_takeSign_68 : decode cX4_takeSign 68 = .ok (.iconst 1, 1) := by decide +kernel
theorem dX4_takeSign_69 : decode cX4_takeSign 69 = .ok (.putfield 45, 3) := by decide +kernel
theorem dX4_takeSign_72 : decode cX4_takeSign 72 = .ok (.iconst 1, 1) := by decide +kernel
theorem dX4_takeSign_73 : decode cX4_takeSign 73 = .ok (.ireturn, 1) := by decide +kernel
theorem dX4_closeBracket_0 : decode cX4_closeBracket 0 = .ok (.aload_n 0, 1) := by decide +kernel
theorem dX4_closeBracket_1 : decode cX4_closeBracket 1 = .ok (.getfield 56, 3) := by decide +kernel
theorem dX4_closeBracket_4 : decode cX4_closeBracket 4 = .ok (.ifCond .ne 5, 3) := by decide +kernel
theorem dX4_closeBracket_7 : decode cX4_closeBracket 7 = .ok (.iconst 0, 1) := by decide +kernel
theorem dX4_closeBracket_8 : decode cX4_closeBracket 8 = .ok (.ireturn, 1) := by decide +kernel
theorem dX4_closeBracket_9 : decode cX4_closeBracket 9 = .ok (.aload_n 0, 1) := by decide +kernel
theorem dX4_closeBracket_10 : decode cX4_closeBracket 10 = .ok (.iconst 1, 1) := by decide +kernel
theorem dX4_closeBracket_11 : decode cX4_closeBracket 11 = .ok (.invokevirtual 59, 3) := by decide +kernel
theorem dX4_closeBracket_14 : decode cX4_closeBracket 14 = .ok (.aload_n 0, 1) := by decide +kernel
theorem dX4_closeBracket_15 : decode cX4_closeBracket 15 = .ok (.dup, 1) := by decide +kernel
theorem dX4_closeBracket_16 : decode cX4_closeBracket 16 = .ok (.getfield 69, 3) := by decide +kernel
theorem dX4_closeBracket_19 : decode cX4_closeBracket 19 = .ok (.iconst 1, 1) := by decide +kernel
theorem dX4_closeBracket_20 : decode cX4_closeBracket 20 = .ok (.isub, 1) := by decide +kernel
theorem dX4_closeBracket_21 : decode cX4_closeBracket 21 = .ok (.putfield 69, 3) := by decide +kernel
theorem dX4_closeBracket_24 : decode cX4_closeBracket 24 = .ok (.aload_n 0, 1) := by decide +kernel
theorem dX4_closeBracket_25 : decode cX4_closeBracket 25 = .ok (.dup, 1) := by decide +kernel
theorem dX4_closeBracket_26 : decode cX4_closeBracket 26 = .ok (.getfield 56, 3) := by decide +kernel
theorem dX4_closeBracket_29 : decode cX4_closeBracket 29 = .ok (.iconst 1, 1) := by decide +kernel
theorem dX4_closeBracket_30 : decode cX4_closeBracket 30 = .ok (.isub, 1) := by decide +kernel
theorem dX4_closeBracket_31 : decode cX4_closeBracket 31 = .ok (.putfield 56, 3) := by decide +kernel
theorem dX4_closeBracket_34 : decode cX4_closeBracket 34 = .ok (.aload_n 0, 1) := by decide +kernel
theorem dX4_closeBracket_35 : decode cX4_closeBracket 35 = .ok (.invokevirtual 112, 3) := by decide +kernel
theorem dX4_closeBracket_38 : decode cX4_closeBracket 38 = .ok (.iconst 1, 1) := by decide +kernel
theorem dX4_closeBracket_39 : decode cX4_closeBracket 39 = .ok (.ireturn, 1) := by decide +kernel
theorem dX4_putPending_0 : decode cX4_putPending 0 = .ok (.iconst 0, 1) := by decide +kernel
theorem dX4_putPending_1 : decode cX4_putPending 1 = .ok (.istore_n 2, 1) := by decide +kernel
theorem dX4_putPending_2 : decode cX4_putPending 2 = .ok (.iload_n 2, 1) := by decide +kernel
theorem dX4_putPending_3 : decode cX4_putPending 3 = .ok (.bipush 96, 2) := by decide +kernel
theorem dX4_putPending_5 : decode cX4_putPending 5 = .ok (.if_icmp .ge 39, 3) := by decide +kernel
theorem dX4_putPending_8 : decode cX4_putPending 8 = .ok (.aload_n 0, 1) := by decide +kernel
theorem dX4_putPending_9 : decode cX4_putPending 9 = .ok (.invokevirtual 137, 3) := by decide +kernel
theorem dX4_putPending_12 : decode cX4_putPending 12 = .ok (.invokestatic 143, 3) := by decide +kernel
theorem dX4_putPending_15 : decode cX4_putPending 15 = .ok (.iload_n 1, 1) := by decide +kernel
theorem dX4_putPending_16 : decode cX4_putPending 16 = .ok (.if_icmp .lt 28, 3) := by decide +kernel
theorem dX4_putPending_19 : decode cX4_putPending 19 = .ok (.aload_n 0, 1) := by decide +kernel
theorem dX4_putPending_20 : decode cX4_putPending 20 = .ok (.aload_n 0, 1) := by decide +kernel
theorem dX4_putPending_21 : decode cX4_putPending 21 = .ok (.invokevirtual 137, 3) := by decide +kernel
theorem dX4_putPending_24 : decode cX4_putPending 24 = .ok (.ineg, 1) := by decide +kernel
theorem dX4_putPending_25 : decode cX4_putPending 25 = .ok (.invokevirtual 109, 3) := by decide +kernel
theorem dX4_putPending_28 : decode cX4_putPending 28 = .ok (.aload_n 0, 1) := by decide +kernel
theorem dX4_putPending_29 : decode cX4_putPending 29 = .ok (.dup, 1) := by decide +kernel
theorem dX4_putPending_30 : decode cX4_putPending 30 = .ok (.getfield 69, 3) := by decide +kernel
theorem dX4_putPending_33 : decode cX4_putPending 33 = .ok (.iconst 1, 1) := by decide +kernel
theorem dX4_putPending_34 : decode cX4_putPending 34 = .ok (.isub, 1) := by decide +kernel
theorem dX4_putPending_35 : decode cX4_putPending 35 = .ok (.putfield 69, 3) := by decide +kernel
theorem dX4_putPending_38 : decode cX4_putPending 38 = .ok (.iinc 2 1, 3) := by decide +kernel
theorem dX4_putPending_41 : decode cX4_putPending 41 = .ok (.goto (-39), 3) := by decide +kernel
theorem dX4_putPending_44 : decode cX4_putPending 44 = .ok (.return_, 1) := by decide +kernel
theorem dX4_rankOf_0 : decode cX4_rankOf 0 = .ok (.iload_n 0, 1) := by decide +kernel
theorem dX4_rankOf_1 : decode cX4_rankOf 1 = .ok (.lookupswitch 93 #[(38, 85), (42, 91), (43, 89), (45, 89), (47, 91), (60, 87), (61, 87), (62, 87), (124, 83)], 83) := by decide +kernel
theorem dX4_rankOf_84 : decode cX4_rankOf 84 = .ok (.iconst 1, 1) := by decide +kernel
theorem dX4_rankOf_85 : decode cX4_rankOf 85 = .ok (.ireturn, 1) := by decide +kernel
theorem dX4_rankOf_86 : decode cX4_rankOf 86 = .ok (.iconst 2, 1) := by decide +kernel
theorem dX4_rankOf_87 : decode cX4_rankOf 87 = .ok (.ireturn, 1) := by decide +kernel
theorem dX4_rankOf_88 : decode cX4_rankOf 88 = .ok (.iconst 3, 1) := by decide +kernel
theorem dX4_rankOf_89 : decode cX4_rankOf 89 = .ok (.ireturn, 1) := by decide +kernel
theorem dX4_rankOf_90 : decode cX4_rankOf 90 = .ok (.iconst 4, 1) := by decide +kernel
theorem dX4_rankOf_91 : decode cX4_rankOf 91 = .ok (.ireturn, 1) := by decide +kernel
theorem dX4_rankOf_92 : decode cX4_rankOf 92 = .ok (.iconst 5, 1) := by decide +kernel
theorem dX4_rankOf_93 : decode cX4_rankOf 93 = .ok (.ireturn, 1) := by decide +kernel
theorem dX4_rankOf_94 : decode cX4_rankOf 94 = .ok (.iconst 0, 1) := by decide +kernel
theorem dX4_rankOf_95 : decode cX4_rankOf 95 = .ok (.ireturn, 1) := by decide +kernel
theorem dX4_topSign_0 : decode cX4_topSign 0 = .ok (.aload_n 0, 1) := by decide +kernel
theorem dX4_topSign_1 : decode cX4_topSign 1 = .ok (.getfield 69, 3) := by decide +kernel
theorem dX4_topSign_4 : decode cX4_topSign 4 = .ok (.ifCond .le 17, 3) := by decide +kernel
theorem dX4_topSign_7 : decode cX4_topSign 7 = .ok (.aload_n 0, 1) := by decide +kernel
theorem dX4_topSign_8 : decode cX4_topSign 8 = .ok (.getfield 15, 3) := by decide +kernel
theorem dX4_topSign_11 : decode cX4_topSign 11 = .ok (.aload_n 0, 1) := by decide +kernel
theorem dX4_topSign_12 : decode cX4_topSign 12 = .ok (.getfield 69, 3) := by decide +kernel
theorem dX4_topSign_15 : decode cX4_topSign 15 = .ok (.iconst 1, 1) := by decide +kernel
theorem dX4_topSign_16 : decode cX4_topSign 16 = .ok (.isub, 1) := by decide +kernel
theorem dX4_topSign_17 : decode cX4_topSign 17 = .ok (.iaload, 1) := by decide +kernel
theorem dX4_topSign_18 : decode cX4_topSign 18 = .ok (.goto 4, 3) := by decide +kernel
theorem dX4_topSign_21 : decode cX4_topSign 21 = .ok (.iconst 0, 1) := by decide +kernel
theorem dX4_topSign_22 : decode cX4_topSign 22 = .ok (.ireturn, 1) := by decide +kernel
theorem dX4_push_0 : decode cX4_push 0 = .ok (.aload_n 0, 1) := by decide +kernel
theorem dX4_push_1 : decode cX4_push 1 = .ok (.getfield 69, 3) := by decide +kernel
theorem dX4_push_4 : decode cX4_push 4 = .ok (.bipush 96, 2) := by decide +kernel
theorem dX4_push_6 : decode cX4_push 6 = .ok (.if_icmp .ge 23, 3) := by decide +kernel
theorem dX4_push_9 : decode cX4_push 9 = .ok (.aload_n 0, 1) := by decide +kernel
theorem dX4_push_10 : decode cX4_push 10 = .ok (.getfield 15, 3) := by decide +kernel
theorem dX4_push_13 : decode cX4_push 13 = .ok (.aload_n 0, 1) := by decide +kernel
theorem dX4_push_14 : decode cX4_push 14 = .ok (.getfield 69, 3) := by decide +kernel
theorem dX4_push_17 : decode cX4_push 17 = .ok (.iload_n 1, 1) := by decide +kernel
theorem dX4_push_18 : decode cX4_push 18 = .ok (.iastore, 1) := by decide +kernel
theorem dX4_push_19 : decode cX4_push 19 = .ok (.aload_n 0, 1) := by decide +kernel
theorem dX4_push_20 : decode cX4_push 20 = .ok (.dup, 1) := by decide +kernel
theorem dX4_push_21 : decode cX4_push 21 = .ok (.getfield 69, 3) := by decide +kernel
theorem dX4_push_24 : decode cX4_push 24 = .ok (.iconst 1, 1) := by decide +kernel
theorem dX4_push_25 : decode cX4_push 25 = .ok (.iadd, 1) := by decide +kernel
theorem dX4_push_26 : decode cX4_push 26 = .ok (.putfield 69, 3) := by decide +kernel
theorem dX4_push_29 : decode cX4_push 29 = .ok (.return_, 1) := by decide +kernel
theorem dX4_put_0 : decode cX4_put 0 = .ok (.aload_n 0, 1) := by decide +kernel
theorem dX4_put_1 : decode cX4_put 1 = .ok (.getfield 66, 3) := by decide +kernel
theorem dX4_put_4 : decode cX4_put 4 = .ok (.bipush 96, 2) := by decide +kernel
theorem dX4_put_6 : decode cX4_put 6 = .ok (.if_icmp .ge 23, 3) := by decide +kernel
theorem dX4_put_9 : decode cX4_put 9 = .ok (.aload_n 0, 1) := by decide +kernel
theorem dX4_put_10 : decode cX4_put 10 = .ok (.getfield 9, 3) := by decide +kernel
theorem dX4_put_13 : decode cX4_put 13 = .ok (.aload_n 0, 1) := by decide +kernel
theorem dX4_put_14 : decode cX4_put 14 = .ok (.getfield 66, 3) := by decide +kernel
theorem dX4_put_17 : decode cX4_put 17 = .ok (.iload_n 1, 1) := by decide +kernel
theorem dX4_put_18 : decode cX4_put 18 = .ok (.iastore, 1) := by decide +kernel
theorem dX4_put_19 : decode cX4_put 19 = .ok (.aload_n 0, 1) := by decide +kernel
theorem dX4_put_20 : decode cX4_put 20 = .ok (.dup, 1) := by decide +kernel
theorem dX4_put_21 : decode cX4_put 21 = .ok (.getfield 66, 3) := by decide +kernel
theorem dX4_put_24 : decode cX4_put 24 = .ok (.iconst 1, 1) := by decide +kernel
theorem dX4_put_25 : decode cX4_put 25 = .ok (.iadd, 1) := by decide +kernel
theorem dX4_put_26 : decode cX4_put 26 = .ok (.putfield 66, 3) := by decide +kernel
theorem dX4_put_29 : decode cX4_put 29 = .ok (.return_, 1) := by decide +kernel
theorem dX5_init_0 : decode cX5_init 0 = .ok (.aload_n 0, 1) := by decide +kernel
theorem dX5_init_1 : decode cX5_init 1 = .ok (.invokespecial 3, 3) := by decide +kernel
theorem dX5_init_4 : decode cX5_init 4 = .ok (.aload_n 0, 1) := by decide +kernel
theorem dX5_init_5 : decode cX5_init 5 = .ok (.iconst (-1), 1) := by decide +kernel
theorem dX5_init_6 : decode cX5_init 6 = .ok (.putfield 9, 3) := by decide +kernel
theorem dX5_init_9 : decode cX5_init 9 = .ok (.aload_n 0, 1) := by decide +kernel
theorem dX5_init_10 : decode cX5_init 10 = .ok (.bipush 24, 2) := by decide +kernel
theorem dX5_init_12 : decode cX5_init 12 = .ok (.newarray .int, 2) := by decide +kernel
theorem dX5_init_14 : decode cX5_init 14 = .ok (.putfield 15, 3) := by decide +kernel
theorem dX5_init_17 : decode cX5_init 17 = .ok (.return_, 1) := by decide +kernel
theorem dX5_become_0 : decode cX5_become 0 = .ok (.aload_n 0, 1) := by decide +kernel
theorem dX5_become_1 : decode cX5_become 1 = .ok (.iload_n 1, 1) := by decide +kernel
theorem dX5_become_2 : decode cX5_become 2 = .ok (.putfield 9, 3) := by decide +kernel
theorem dX5_become_5 : decode cX5_become 5 = .ok (.aload_n 0, 1) := by decide +kernel
theorem dX5_become_6 : decode cX5_become 6 = .ok (.iload_n 2, 1) := by decide +kernel
theorem dX5_become_7 : decode cX5_become 7 = .ok (.putfield 19, 3) := by decide +kernel
theorem dX5_become_10 : decode cX5_become 10 = .ok (.aload_n 0, 1) := by decide +kernel
theorem dX5_become_11 : decode cX5_become 11 = .ok (.getfield 15, 3) := by decide +kernel
theorem dX5_become_14 : decode cX5_become 14 = .ok (.iconst 0, 1) := by decide +kernel
theorem dX5_become_15 : decode cX5_become 15 = .ok (.invokestatic 22, 3) := by decide +kernel
theorem dX5_become_18 : decode cX5_become 18 = .ok (.return_, 1) := by decide +kernel
theorem dX5_becomeLike_0 : decode cX5_becomeLike 0 = .ok (.aload_n 0, 1) := by decide +kernel
theorem dX5_becomeLike_1 : decode cX5_becomeLike 1 = .ok (.aload_n 1, 1) := by decide +kernel
theorem dX5_becomeLike_2 : decode cX5_becomeLike 2 = .ok (.getfield 9, 3) := by decide +kernel
theorem dX5_becomeLike_5 : decode cX5_becomeLike 5 = .ok (.putfield 9, 3) := by decide +kernel
theorem dX5_becomeLike_8 : decode cX5_becomeLike 8 = .ok (.aload_n 0, 1) := by decide +kernel
theorem dX5_becomeLike_9 : decode cX5_becomeLike 9 = .ok (.aload_n 1, 1) := by decide +kernel
theorem dX5_becomeLike_10 : decode cX5_becomeLike 10 = .ok (.getfield 19, 3) := by decide +kernel
theorem dX5_becomeLike_13 : decode cX5_becomeLike 13 = .ok (.putfield 19, 3) := by decide +kernel
theorem dX5_becomeLike_16 : decode cX5_becomeLike 16 = .ok (.aload_n 1, 1) := by decide +kernel
theorem dX5_becomeLike_17 : decode cX5_becomeLike 17 = .ok (.getfield 15, 3) := by decide +kernel
theorem dX5_becomeLike_20 : decode cX5_becomeLike 20 = .ok (.iconst 0, 1) := by decide +kernel
theorem dX5_becomeLike_21 : decode cX5_becomeLike 21 = .ok (.aload_n 0, 1) := by decide +kernel
theorem dX5_becomeLike_22 : decode cX5_becomeLike 22 = .ok (.getfield 15, 3) := by decide +kernel
theorem dX5_becomeLike_25 : decode cX5_becomeLike 25 = .ok (.iconst 0, 1) := by decide +kernel
theorem dX5_becomeLike_26 : decode cX5_becomeLike 26 = .ok (.bipush 24, 2) := by decide +kernel
theorem dX5_becomeLike_28 : decode cX5_becomeLike 28 = .ok (.invokestatic 28, 3) := by decide +kernel
theorem dX5_becomeLike_31 : decode cX5_becomeLike 31 = .ok (.return_, 1) := by decide +kernel
theorem dX5_hasPlace_0 : decode cX5_hasPlace 0 = .ok (.iload_n 1, 1) := by decide +kernel
theorem dX5_hasPlace_1 : decode cX5_hasPlace 1 = .ok (.ifCond .lt 15, 3) := by decide +kernel
theorem dX5_hasPlace_4 : decode cX5_hasPlace 4 = .ok (.iload_n 1, 1) := by decide +kernel
theorem dX5_hasPlace_5 : decode cX5_hasPlace 5 = .ok (.aload_n 0, 1) := by decide +kernel
theorem dX5_hasPlace_6 : decode cX5_hasPlace 6 = .ok (.getfield 19, 3) := by decide +kernel
theorem dX5_hasPlace_9 : decode cX5_hasPlace 9 = .ok (.if_icmp .ge 7, 3) := by decide +kernel
theorem dX5_hasPlace_12 : decode cX5_hasPlace 12 = .ok (.iconst 1, 1) := by decide +kernel
theorem dX5_hasPlace_13 : decode cX5_hasPlace 13 = .ok (.goto 4, 3) := by decide +kernel
theorem dX5_hasPlace_16 : decode cX5_hasPlace 16 = .ok (.iconst 0, 1) := by decide +kernel
theorem dX5_hasPlace_17 : decode cX5_hasPlace 17 = .ok (.ireturn, 1) := by decide +kernel
theorem dX5_hasPlaces_0 : decode cX5_hasPlaces 0 = .ok (.iload_n 1, 1) := by decide +kernel
theorem dX5_hasPlaces_1 : decode cX5_hasPlaces 1 = .ok (.ifCond .lt 29, 3) := by decide +kernel
theorem dX5_hasPlaces_4 : decode cX5_hasPlaces 4 = .ok (.iload_n 2, 1) := by decide +kernel
theorem dX5_hasPlaces_5 : decode cX5_hasPlaces 5 = .ok (.ifCond .lt 25, 3) := by decide +kernel
theorem dX5_hasPlaces_8 : decode cX5_hasPlaces 8 = .ok (.iload_n 1, 1) := by decide +kernel
theorem dX5_hasPlaces_9 : decode cX5_hasPlaces 9 = .ok (.aload_n 0, 1) := by decide +kernel
theorem dX5_hasPlaces_10 : decode cX5_hasPlaces 10 = .ok (.getfield 19, 3) := by decide +kernel
theorem dX5_hasPlaces_13 : decode cX5_hasPlaces 13 = .ok (.if_icmp .gt 17, 3) := by decide +kernel
theorem dX5_hasPlaces_16 : decode cX5_hasPlaces 16 = .ok (.iload_n 2, 1) := by decide +kernel
theorem dX5_hasPlaces_17 : decode cX5_hasPlaces 17 = .ok (.aload_n 0, 1) := by decide +kernel
theorem dX5_hasPlaces_18 : decode cX5_hasPlaces 18 = .ok (.getfield 19, 3) := by decide +kernel
theorem dX5_hasPlaces_21 : decode cX5_hasPlaces 21 = .ok (.iload_n 1, 1) := by decide +kernel
theorem dX5_hasPlaces_22 : decode cX5_hasPlaces 22 = .ok (.isub, 1) := by decide +kernel
theorem dX5_hasPlaces_23 : decode cX5_hasPlaces 23 = .ok (.if_icmp .gt 7, 3) := by decide +kernel
theorem dX5_hasPlaces_26 : decode cX5_hasPlaces 26 = .ok (.iconst 1, 1) := by decide +kernel
theorem dX5_hasPlaces_27 : decode cX5_hasPlaces 27 = .ok (.goto 4, 3) := by decide +kernel
theorem dX5_hasPlaces_30 : decode cX5_hasPlaces 30 = .ok (.iconst 0, 1) := by decide +kernel
theorem dX5_hasPlaces_31 : decode cX5_hasPlaces 31 = .ok (.ireturn, 1) := by decide +kernel
theorem dX6_init_0 : decode cX6_init 0 = .ok (.aload_n 0, 1) := by decide +kernel
theorem dX6_init_1 : decode cX6_init 1 = .ok (.invokespecial 3, 3) := by decide +kernel
theorem dX6_init_4 : decode cX6_init 4 = .ok (.aload_n 0, 1) := by decide +kernel
theorem dX6_init_5 : decode cX6_init 5 = .ok (.iconst 0, 1) := by decide +kernel
theorem dX6_init_6 : decode cX6_init 6 = .ok (.putfield 9, 3) := by decide +kernel
theorem dX6_init_9 : decode cX6_init 9 = .ok (.aload_n 0, 1) := by decide +kernel
theorem dX6_init_10 : decode cX6_init 10 = .ok (.new 15, 3) := by decide +kernel
theorem dX6_init_13 : decode cX6_init 13 = .ok (.dup, 1) := by decide +kernel
theorem dX6_init_14 : decode cX6_init 14 = .ok (.invokespecial 17, 3) := by decide +kernel
theorem dX6_init_17 : decode cX6_init 17 = .ok (.putfield 18, 3) := by decide +kernel
theorem dX6_init_20 : decode cX6_init 20 = .ok (.return_, 1) := by decide +kernel
theorem dX6_findingFor_0 : decode cX6_findingFor 0 = .ok (.aload_n 0, 1) := by decide +kernel
theorem dX6_findingFor_1 : decode cX6_findingFor 1 = .ok (.getfield 9, 3) := by decide +kernel
theorem dX6_findingFor_4 : decode cX6_findingFor 4 = .ok (.ifCond .ne 6, 3) := by decide +kernel
theorem dX6_findingFor_7 : decode cX6_findingFor 7 = .ok (.ldc 22, 2) := by decide +kernel
theorem dX6_findingFor_9 : decode cX6_findingFor 9 = .ok (.ireturn, 1) := by decide +kernel
theorem dX6_findingFor_10 : decode cX6_findingFor 10 = .ok (.aload_n 0, 1) := by decide +kernel
theorem dX6_findingFor_11 : decode cX6_findingFor 11 = .ok (.getfield 9, 3) := by decide +kernel
theorem dX6_findingFor_14 : decode cX6_findingFor 14 = .ok (.iload_n 1, 1) := by decide +kernel
theorem dX6_findingFor_15 : decode cX6_findingFor 15 = .ok (.if_icmp .ne 8, 3) := by decide +kernel
theorem dX6_findingFor_18 : decode cX6_findingFor 18 = .ok (.ldc 23, 2) := by decide +kernel
theorem dX6_findingFor_20 : decode cX6_findingFor 20 = .ok (.goto 5, 3) := by decide +kernel
theorem dX6_findingFor_23 : decode cX6_findingFor 23 = .ok (.ldc 24, 2) := by decide +kernel
theorem dX6_findingFor_25 : decode cX6_findingFor 25 = .ok (.ireturn, 1) := by decide +kernel
theorem dX7_init_0 : decode cX7_init 0 = .ok (.aload_n 0, 1) := by decide +kernel
theorem dX7_init_1 : decode cX7_init 1 = .ok (.invokespecial 3, 3) := by decide +kernel
theorem dX7_init_4 : decode cX7_init 4 = .ok (.aload_n 0, 1) := by decide +kernel
theorem dX7_init_5 : decode cX7_init 5 = .ok (.bipush 96, 2) := by decide +kernel
theorem dX7_init_7 : decode cX7_init 7 = .ok (.newarray .int, 2) := by decide +kernel
theorem dX7_init_9 : decode cX7_init 9 = .ok (.putfield 9, 3) := by decide +kernel
theorem dX7_init_12 : decode cX7_init 12 = .ok (.return_, 1) := by decide +kernel
theorem dX7_addNumber_0 : decode cX7_addNumber 0 = .ok (.bipush 24, 2) := by decide +kernel
theorem dX7_addNumber_2 : decode cX7_addNumber 2 = .ok (.istore_n 2, 1) := by decide +kernel
theorem dX7_addNumber_3 : decode cX7_addNumber 3 = .ok (.iload_n 2, 1) := by decide +kernel
theorem dX7_addNumber_4 : decode cX7_addNumber 4 = .ok (.ifCond .lt 44, 3) := by decide +kernel
theorem dX7_addNumber_7 : decode cX7_addNumber 7 = .ok (.aload_n 0, 1) := by decide +kernel
theorem dX7_addNumber_8 : decode cX7_addNumber 8 = .ok (.getfield 15, 3) := by decide +kernel
theorem dX7_addNumber_11 : decode cX7_addNumber 11 = .ok (.bipush 96, 2) := by decide +kernel
theorem dX7_addNumber_13 : decode cX7_addNumber 13 = .ok (.if_icmp .ge 35, 3) := by decide +kernel
theorem dX7_addNumber_16 : decode cX7_addNumber 16 = .ok (.aload_n 0, 1) := by decide +kernel
theorem dX7_addNumber_17 : decode cX7_addNumber 17 = .ok (.getfield 9, 3) := by decide +kernel
theorem dX7_addNumber_20 : decode cX7_addNumber 20 = .ok (.aload_n 0, 1) := by decide +kernel
theorem dX7_addNumber_21 : decode cX7_addNumber 21 = .ok (.getfield 15, 3) := by decide +kernel
theorem dX7_addNumber_24 : decode cX7_addNumber 24 = .ok (.iload_n 1, 1) := by decide +kernel
theorem dX7_addNumber_25 : decode cX7_addNumber 25 = .ok (.iload_n 2, 1) := by decide +kernel
theorem dX7_addNumber_26 : decode cX7_addNumber 26 = .ok (.iushr, 1) := by decide +kernel
theorem dX7_addNumber_27 : decode cX7_addNumber 27 = .ok (.sipush 255, 3) := by decide +kernel
theorem dX7_addNumber_30 : decode cX7_addNumber 30 = .ok (.iand, 1) := by decide +kernel
theorem dX7_addNumber_31 : decode cX7_addNumber 31 = .ok (.iastore, 1) := by decide +kernel
theorem dX7_addNumber_32 : decode cX7_addNumber 32 = .ok (.aload_n 0, 1) := by decide +kernel
theorem dX7_addNumber_33 : decode cX7_addNumber 33 = .ok (.dup, 1) := by decide +kernel
theorem dX7_addNumber_34 : decode cX7_addNumber 34 = .ok (.getfield 15, 3) := by decide +kernel
theorem dX7_addNumber_37 : decode cX7_addNumber 37 = .ok (.iconst 1, 1) := by decide +kernel
theorem dX7_addNumber_38 : decode cX7_addNumber 38 = .ok (.iadd, 1) := by decide +kernel
theorem dX7_addNumber_39 : decode cX7_addNumber 39 = .ok (.putfield 15, 3) := by decide +kernel
theorem dX7_addNumber_42 : decode cX7_addNumber 42 = .ok (.iinc 2 (-8), 3) := by decide +kernel
theorem dX7_addNumber_45 : decode cX7_addNumber 45 = .ok (.goto (-42), 3) := by decide +kernel
theorem dX7_addNumber_48 : decode cX7_addNumber 48 = .ok (.return_, 1) := by decide +kernel
theorem dX7_byteAt_0 : decode cX7_byteAt 0 = .ok (.iload_n 1, 1) := by decide +kernel
theorem dX7_byteAt_1 : decode cX7_byteAt 1 = .ok (.ifCond .lt 20, 3) := by decide +kernel
theorem dX7_byteAt_4 : decode cX7_byteAt 4 = .ok (.iload_n 1, 1) := by decide +kernel
theorem dX7_byteAt_5 : decode cX7_byteAt 5 = .ok (.aload_n 0, 1) := by decide +kernel
theorem dX7_byteAt_6 : decode cX7_byteAt 6 = .ok (.getfield 15, 3) := by decide +kernel
theorem dX7_byteAt_9 : decode cX7_byteAt 9 = .ok (.if_icmp .ge 12, 3) := by decide +kernel
theorem dX7_byteAt_12 : decode cX7_byteAt 12 = .ok (.aload_n 0, 1) := by decide +kernel
theorem dX7_byteAt_13 : decode cX7_byteAt 13 = .ok (.getfield 9, 3) := by decide +kernel
theorem dX7_byteAt_16 : decode cX7_byteAt 16 = .ok (.iload_n 1, 1) := by decide +kernel
theorem dX7_byteAt_17 : decode cX7_byteAt 17 = .ok (.iaload, 1) := by decide +kernel
theorem dX7_byteAt_18 : decode cX7_byteAt 18 = .ok (.goto 4, 3) := by decide +kernel
theorem dX7_byteAt_21 : decode cX7_byteAt 21 = .ok (.iconst 0, 1) := by decide +kernel
theorem dX7_byteAt_22 : decode cX7_byteAt 22 = .ok (.ireturn, 1) := by decide +kernel
theorem dX7_sortAt_0 : decode cX7_sortAt 0 = .ok (.iload_n 1, 1) := by decide +kernel
theorem dX7_sortAt_1 : decode cX7_sortAt 1 = .ok (.ifCond .lt 11, 3) := by decide +kernel
theorem dX7_sortAt_4 : decode cX7_sortAt 4 = .ok (.iload_n 1, 1) := by decide +kernel
theorem dX7_sortAt_5 : decode cX7_sortAt 5 = .ok (.aload_n 0, 1) := by decide +kernel
theorem dX7_sortAt_6 : decode cX7_sortAt 6 = .ok (.getfield 15, 3) := by decide +kernel
theorem dX7_sortAt_9 : decode cX7_sortAt 9 = .ok (.if_icmp .lt 5, 3) := by decide +kernel
theorem dX7_sortAt_12 : decode cX7_sortAt 12 = .ok (.iconst 0, 1) := by decide +kernel
theorem dX7_sortAt_13 : decode cX7_sortAt 13 = .ok (.ireturn, 1) := by decide +kernel
theorem dX7_sortAt_14 : decode cX7_sortAt 14 = .ok (.aload_n 0, 1) := by decide +kernel
theorem dX7_sortAt_15 : decode cX7_sortAt 15 = .ok (.getfield 9, 3) := by decide +kernel
theorem dX7_sortAt_18 : decode cX7_sortAt 18 = .ok (.iload_n 1, 1) := by decide +kernel
theorem dX7_sortAt_19 : decode cX7_sortAt 19 = .ok (.iaload, 1) := by decide +kernel
theorem dX7_sortAt_20 : decode cX7_sortAt 20 = .ok (.istore_n 2, 1) := by decide +kernel
theorem dX7_sortAt_21 : decode cX7_sortAt 21 = .ok (.iload_n 2, 1) := by decide +kernel
theorem dX7_sortAt_22 : decode cX7_sortAt 22 = .ok (.bipush 32, 2) := by decide +kernel
theorem dX7_sortAt_24 : decode cX7_sortAt 24 = .ok (.if_icmp .ne 5, 3) := by decide +kernel
theorem dX7_sortAt_27 : decode cX7_sortAt 27 = .ok (.iconst 1, 1) := by decide +kernel
theorem dX7_sortAt_28 : decode cX7_sortAt 28 = .ok (.ireturn, 1) := by decide +kernel
theorem dX7_sortAt_29 : decode cX7_sortAt 29 = .ok (.iload_n 2, 1) := by decide +kernel
theorem dX7_sortAt_30 : decode cX7_sortAt 30 = .ok (.bipush 97, 2) := by decide +kernel
theorem dX7_sortAt_32 : decode cX7_sortAt 32 = .ok (.if_icmp .lt 11, 3) := by decide +kernel
theorem dX7_sortAt_35 : decode cX7_sortAt 35 = .ok (.iload_n 2, 1) := by decide +kernel
theorem dX7_sortAt_36 : decode cX7_sortAt 36 = .ok (.bipush 122, 2) := by decide +kernel
theorem dX7_sortAt_38 : decode cX7_sortAt 38 = .ok (.if_icmp .gt 5, 3) := by decide +kernel
theorem dX7_sortAt_41 : decode cX7_sortAt 41 = .ok (.iconst 2, 1) := by decide +kernel
theorem dX7_sortAt_42 : decode cX7_sortAt 42 = .ok (.ireturn, 1) := by decide +kernel
theorem dX7_sortAt_43 : decode cX7_sortAt 43 = .ok (.iload_n 2, 1) := by decide +kernel
theorem dX7_sortAt_44 : decode cX7_sortAt 44 = .ok (.bipush 48, 2) := by decide +kernel
theorem dX7_sortAt_46 : decode cX7_sortAt 46 = .ok (.if_icmp .lt 13, 3) := by decide +kernel
theorem dX7_sortAt_49 : decode cX7_sortAt 49 = .ok (.iload_n 2, 1) := by decide +kernel
theorem dX7_sortAt_50 : decode cX7_sortAt 50 = .ok (.bipush 57, 2) := by decide +kernel
theorem dX7_sortAt_52 : decode cX7_sortAt 52 = .ok (.if_icmp .gt 7, 3) := by decide +kernel
theorem dX7_sortAt_55 : decode cX7_sortAt 55 = .ok (.iconst 3, 1) := by decide +kernel
theorem dX7_sortAt_56 : decode cX7_sortAt 56 = .ok (.goto 4, 3) := by decide +kernel
theorem dX7_sortAt_59 : decode cX7_sortAt 59 = .ok (.iconst 4, 1) := by decide +kernel
theorem dX7_sortAt_60 : decode cX7_sortAt 60 = .ok (.ireturn, 1) := by decide +kernel
theorem dX8_init_0 : decode cX8_init 0 = .ok (.aload_n 0, 1) := by decide +kernel
theorem dX8_init_1 : decode cX8_init 1 = .ok (.invokespecial 1, 3) := by decide +kernel
theorem dX8_init_4 : decode cX8_init 4 = .ok (.aload_n 0, 1) := by decide +kernel
theorem dX8_init_5 : decode cX8_init 5 = .ok (.new 7, 3) := by decide +kernel
theorem dX8_init_8 : decode cX8_init 8 = .ok (.dup, 1) := by decide +kernel
theorem dX8_init_9 : decode cX8_init 9 = .ok (.invokespecial 9, 3) := by decide +kernel
theorem dX8_init_12 : decode cX8_init 12 = .ok (.putfield 10, 3) := by decide +kernel
theorem dX8_init_15 : decode cX8_init 15 = .ok (.aload_n 0, 1) := by decide +kernel
theorem dX8_init_16 : decode cX8_init 16 = .ok (.new 16, 3) := by decide +kernel
theorem dX8_init_19 : decode cX8_init 19 = .ok (.dup, 1) := by decide +kernel
theorem dX8_init_20 : decode cX8_init 20 = .ok (.aload_n 0, 1) := by decide +kernel
theorem dX8_init_21 : decode cX8_init 21 = .ok (.getfield 10, 3) := by decide +kernel
theorem dX8_init_24 : decode cX8_init 24 = .ok (.invokespecial 18, 3) := by decide +kernel
theorem dX8_init_27 : decode cX8_init 27 = .ok (.putfield 21, 3) := by decide +kernel
theorem dX8_init_30 : decode cX8_init 30 = .ok (.aload_n 0, 1) := by decide +kernel
theorem dX8_init_31 : decode cX8_init 31 = .ok (.new 16, 3) := by decide +kernel
theorem dX8_init_34 : decode cX8_init 34 = .ok (.dup, 1) := by decide +kernel
theorem dX8_init_35 : decode cX8_init 35 = .ok (.aload_n 0, 1) := by decide +kernel
theorem dX8_init_36 : decode cX8_init 36 = .ok (.getfield 10, 3) := by decide +kernel
theorem dX8_init_39 : decode cX8_init 39 = .ok (.invokespecial 18, 3) := by decide +kernel
theorem dX8_init_42 : decode cX8_init 42 = .ok (.putfield 25, 3) := by decide +kernel
theorem dX8_init_45 : decode cX8_init 45 = .ok (.aload_n 0, 1) := by decide +kernel
theorem dX8_init_46 : decode cX8_init 46 = .ok (.new 16, 3) := by decide +kernel
theorem dX8_init_49 : decode cX8_init 49 = .ok (.dup, 1) := by decide +kernel
theorem dX8_init_50 : decode cX8_init 50 = .ok (.aload_n 0, 1) := by decide +kernel
theorem dX8_init_51 : decode cX8_init 51 = .ok (.getfield 10, 3) := by decide +kernel
theorem dX8_init_54 : decode cX8_init 54 = .ok (.invokespecial 18, 3) := by decide +kernel
theorem dX8_init_57 : decode cX8_init 57 = .ok (.putfield 28, 3) := by decide +kernel
theorem dX8_init_60 : decode cX8_init 60 = .ok (.aload_n 0, 1) := by decide +kernel
theorem dX8_init_61 : decode cX8_init 61 = .ok (.new 31, 3) := by decide +kernel
theorem dX8_init_64 : decode cX8_init 64 = .ok (.dup, 1) := by decide +kernel
theorem dX8_init_65 : decode cX8_init 65 = .ok (.invokespecial 33, 3) := by decide +kernel
theorem dX8_init_68 : decode cX8_init 68 = .ok (.putfield 34, 3) := by decide +kernel
theorem dX8_init_71 : decode cX8_init 71 = .ok (.aload_n 0, 1) := by decide +kernel
theorem dX8_init_72 : decode cX8_init 72 = .ok (.new 38, 3) := by decide +kernel
theorem dX8_init_75 : decode cX8_init 75 = .ok (.dup, 1) := by decide +kernel
theorem dX8_init_76 : decode cX8_init 76 = .ok (.aload_n 0, 1) := by decide +kernel
theorem dX8_init_77 : decode cX8_init 77 = .ok (.getfield 34, 3) := by decide +kernel
theorem dX8_init_80 : decode cX8_init 80 = .ok (.invokespecial 40, 3) := by decide +kernel
theorem dX8_init_83 : decode cX8_init 83 = .ok (.putfield 43, 3) := by decide +kernel
theorem dX8_init_86 : decode cX8_init 86 = .ok (.aload_n 0, 1) := by decide +kernel
theorem dX8_init_87 : decode cX8_init 87 = .ok (.iconst 4, 1) := by decide +kernel
theorem dX8_init_88 : decode cX8_init 88 = .ok (.anewarray 47, 3) := by decide +kernel
theorem dX8_init_91 : decode cX8_init 91 = .ok (.putfield 49, 3) := by decide +kernel
theorem dX8_init_94 : decode cX8_init 94 = .ok (.aload_n 0, 1) := by decide +kernel
theorem dX8_init_95 : decode cX8_init 95 = .ok (.iconst 5, 1) := by decide +kernel
theorem dX8_init_96 : decode cX8_init 96 = .ok (.anewarray 53, 3) := by decide +kernel
theorem dX8_init_99 : decode cX8_init 99 = .ok (.putfield 55, 3) := by decide +kernel
theorem dX8_init_102 : decode cX8_init 102 = .ok (.aload_n 0, 1) := by decide +kernel
theorem dX8_init_103 : decode cX8_init 103 = .ok (.bipush 60, 2) := by decide +kernel
theorem dX8_init_105 : decode cX8_init 105 = .ok (.newarray .int, 2) := by decide +kernel
theorem dX8_init_107 : decode cX8_init 107 = .ok (.putfield 59, 3) := by decide +kernel
theorem dX8_init_110 : decode cX8_init 110 = .ok (.iconst 0, 1) := by decide +kernel
theorem dX8_init_111 : decode cX8_init 111 = .ok (.istore_n 1, 1) := by decide +kernel
theorem dX8_init_112 : decode cX8_init 112 = .ok (.iload_n 1, 1) := by decide +kernel
theorem dX8_init_113 : decode cX8_init 113 = .ok (.iconst 4, 1) := by decide +kernel
theorem dX8_init_114 : decode cX8_init 114 = .ok (.if_icmp .ge 22, 3) := by decide +kernel
theorem dX8_init_117 : decode cX8_init 117 = .ok (.aload_n 0, 1) := by decide +kernel
theorem dX8_init_118 : decode cX8_init 118 = .ok (.getfield 49, 3) := by decide +kernel
theorem dX8_init_121 : decode cX8_init 121 = .ok (.iload_n 1, 1) := by decide +kernel
theorem dX8_init_122 : decode cX8_init 122 = .ok (.new 47, 3) := by decide +kernel
theorem dX8_init_125 : decode cX8_init 125 = .ok (.dup, 1) := by decide +kernel
theorem dX8_init_126 : decode cX8_init 126 = .ok (.invokespecial 63, 3) := by decide +kernel
theorem dX8_init_129 : decode cX8_init 129 = .ok (.aastore, 1) := by decide +kernel
theorem dX8_init_130 : decode cX8_init 130 = .ok (.iinc 1 1, 3) := by decide +kernel
theorem dX8_init_133 : decode cX8_init 133 = .ok (.goto (-21), 3) := by decide +kernel
theorem dX8_init_136 : decode cX8_init 136 = .ok (.iconst 0, 1) := by decide +kernel
theorem dX8_init_137 : decode cX8_init 137 = .ok (.istore_n 1, 1) := by decide +kernel
theorem dX8_init_138 : decode cX8_init 138 = .ok (.iload_n 1, 1) := by decide +kernel
theorem dX8_init_139 : decode cX8_init 139 = .ok (.iconst 5, 1) := by decide +kernel
theorem dX8_init_140 : decode cX8_init 140 = .ok (.if_icmp .ge 22, 3) := by decide +kernel
theorem dX8_init_143 : decode cX8_init 143 = .ok (.aload_n 0, 1) := by decide +kernel
theorem dX8_init_144 : decode cX8_init 144 = .ok (.getfield 55, 3) := by decide +kernel
theorem dX8_init_147 : decode cX8_init 147 = .ok (.iload_n 1, 1) := by decide +kernel
theorem dX8_init_148 : decode cX8_init 148 = .ok (.new 53, 3) := by decide +kernel
theorem dX8_init_151 : decode cX8_init 151 = .ok (.dup, 1) := by decide +kernel
theorem dX8_init_152 : decode cX8_init 152 = .ok (.invokespecial 64, 3) := by decide +kernel
theorem dX8_init_155 : decode cX8_init 155 = .ok (.aastore, 1) := by decide +kernel
theorem dX8_init_156 : decode cX8_init 156 = .ok (.iinc 1 1, 3) := by decide +kernel
theorem dX8_init_159 : decode cX8_init 159 = .ok (.goto (-21), 3) := by decide +kernel
theorem dX8_init_162 : decode cX8_init 162 = .ok (.return_, 1) := by decide +kernel
theorem dX8_land_0 : decode cX8_land 0 = .ok (.iload_n 1, 1) := by decide +kernel
theorem dX8_land_1 : decode cX8_land 1 = .ok (.invokestatic 65, 3) := by decide +kernel
theorem dX8_land_4 : decode cX8_land 4 = .ok (.ifCond .eq 20, 3) := by decide +kernel
theorem dX8_land_7 : decode cX8_land 7 = .ok (.iload_n 2, 1) := by decide +kernel
theorem dX8_land_8 : decode cX8_land 8 = .ok (.invokestatic 69, 3) := by decide +kernel
theorem dX8_land_11 : decode cX8_land 11 = .ok (.ifCond .eq 13, 3) := by decide +kernel
theorem dX8_land_14 : decode cX8_land 14 = .ok (.iload_n 3, 1) := by decide +kernel
theorem dX8_land_15 : decode cX8_land 15 = .ok (.iconst 0, 1) := by decide +kernel
theorem dX8_land_16 : decode cX8_land 16 = .ok (.bipush 20, 2) := by decide +kernel
theorem dX8_land_18 : decode cX8_land 18 = .ok (.invokestatic 72, 3) := by decide +kernel
theorem dX8_land_21 : decode cX8_land 21 = .ok (.ifCond .ne 6, 3) := by decide +kernel
theorem dX8_land_24 : decode cX8_land 24 = .ok (.ldc 76, 2) := by decide +kernel
theorem dX8_land_26 : decode cX8_land 26 = .ok (.ireturn, 1) := by decide +kernel
theorem dX8_land_27 : decode cX8_land 27 = .ok (.aload_n 0, 1) := by decide +kernel
theorem dX8_land_28 : decode cX8_land 28 = .ok (.getfield 21, 3) := by decide +kernel
theorem dX8_land_31 : decode cX8_land 31 = .ok (.getfield 77, 3) := by decide +kernel
theorem dX8_land_34 : decode cX8_land 34 = .ok (.iload_n 1, 1) := by decide +kernel
theorem dX8_land_35 : decode cX8_land 35 = .ok (.iload_n 3, 1) := by decide +kernel
theorem dX8_land_36 : decode cX8_land 36 = .ok (.iastore, 1) := by decide +kernel
theorem dX8_land_37 : decode cX8_land 37 = .ok (.aload_n 0, 1) := by decide +kernel
theorem dX8_land_38 : decode cX8_land 38 = .ok (.getfield 21, 3) := by decide +kernel
theorem dX8_land_41 : decode cX8_land 41 = .ok (.iload_n 1, 1) := by decide +kernel
theorem dX8_land_42 : decode cX8_land 42 = .ok (.iload_n 2, 1) := by decide +kernel
theorem dX8_land_43 : decode cX8_land 43 = .ok (.invokevirtual 80, 3) := by decide +kernel
theorem dX8_land_46 : decode cX8_land 46 = .ok (.ireturn, 1) := by decide +kernel
theorem dX8_told_0 : decode cX8_told 0 = .ok (.iload_n 1, 1) := by decide +kernel
theorem dX8_told_1 : decode cX8_told 1 = .ok (.invokestatic 65, 3) := by decide +kernel
theorem dX8_told_4 : decode cX8_told 4 = .ok (.ifCond .ne 6, 3) := by decide +kernel
theorem dX8_told_7 : decode cX8_told 7 = .ok (.ldc 76, 2) := by decide +kernel
theorem dX8_told_9 : decode cX8_told 9 = .ok (.ireturn, 1) := by decide +kernel
theorem dX8_told_10 : decode cX8_told 10 = .ok (.iload_n 2, 1) := by decide +kernel
theorem dX8_told_11 : decode cX8_told 11 = .ok (.tableswitch 146 0 7 #[45, 55, 65, 74, 83, 105, 115, 125], 45) := by decide +kernel
theorem dX8_told_56 : decode cX8_told 56 = .ok (.aload_n 0, 1) := by decide +kernel
theorem dX8_told_57 : decode cX8_told 57 = .ok (.getfield 21, 3) := by decide +kernel
theorem dX8_told_60 : decode cX8_told 60 = .ok (.getfield 84, 3) := by decide +kernel
theorem dX8_told_63 : decode cX8_told 63 = .ok (.iload_n 1, 1) := by decide +kernel
theorem dX8_told_64 : decode cX8_told 64 = .ok (.iaload, 1) := by decide +kernel
theorem dX8_told_65 : decode cX8_told 65 = .ok (.ireturn, 1) := by decide +kernel
theorem dX8_told_66 : decode cX8_told 66 = .ok (.aload_n 0, 1) := by decide +kernel
theorem dX8_told_67 : decode cX8_told 67 = .ok (.getfield 21, 3) := by decide +kernel
theorem dX8_told_70 : decode cX8_told 70 = .ok (.getfield 77, 3) := by decide +kernel
theorem dX8_told_73 : decode cX8_told 73 = .ok (.iload_n 1, 1) := by decide +kernel
theorem dX8_told_74 : decode cX8_told 74 = .ok (.iaload, 1) := by decide +kernel
theorem dX8_told_75 : decode cX8_told 75 = .ok (.ireturn, 1) := by decide +kernel
theorem dX8_told_76 : decode cX8_told 76 = .ok (.aload_n 0, 1) := by decide +kernel
theorem dX8_told_77 : decode cX8_told 77 = .ok (.getfield 21, 3) := by decide +kernel
theorem dX8_told_80 : decode cX8_told 80 = .ok (.iload_n 1, 1) := by decide +kernel
theorem dX8_told_81 : decode cX8_told 81 = .ok (.invokevirtual 87, 3) := by decide +kernel
theorem dX8_told_84 : decode cX8_told 84 = .ok (.ireturn, 1) := by decide +kernel
theorem dX8_told_85 : decode cX8_told 85 = .ok (.aload_n 0, 1) := by decide +kernel
theorem dX8_told_86 : decode cX8_told 86 = .ok (.getfield 21, 3) := by decide +kernel
theorem dX8_told_89 : decode cX8_told 89 = .ok (.iload_n 1, 1) := by decide +kernel
theorem dX8_told_90 : decode cX8_told 90 = .ok (.invokevirtual 91, 3) := by decide +kernel
theorem dX8_told_93 : decode cX8_told 93 = .ok (.ireturn, 1) := by decide +kernel
theorem dX8_told_94 : decode cX8_told 94 = .ok (.aload_n 0, 1) := by decide +kernel
theorem dX8_told_95 : decode cX8_told 95 = .ok (.getfield 21, 3) := by decide +kernel
theorem dX8_told_98 : decode cX8_told 98 = .ok (.getfield 84, 3) := by decide +kernel
theorem dX8_told_101 : decode cX8_told 101 = .ok (.iload_n 1, 1) := by decide +kernel
theorem dX8_told_102 : decode cX8_told 102 = .ok (.iaload, 1) := by decide +kernel
theorem dX8_told_103 : decode cX8_told 103 = .ok (.aload_n 0, 1) := by decide +kernel
theorem dX8_told_104 : decode cX8_told 104 = .ok (.getfield 21, 3) := by decide +kernel
theorem dX8_told_107 : decode cX8_told 107 = .ok (.getfield 77, 3) := by decide +kernel
theorem dX8_told_110 : decode cX8_told 110 = .ok (.iload_n 1, 1) := by decide +kernel
theorem dX8_told_111 : decode cX8_told 111 = .ok (.iaload, 1) := by decide +kernel
theorem dX8_told_112 : decode cX8_told 112 = .ok (.invokestatic 94, 3) := by decide +kernel
theorem dX8_told_115 : decode cX8_told 115 = .ok (.ireturn, 1) := by decide +kernel
theorem dX8_told_116 : decode cX8_told 116 = .ok (.aload_n 0, 1) := by decide +kernel
theorem dX8_told_117 : decode cX8_told 117 = .ok (.getfield 21, 3) := by decide +kernel
theorem dX8_told_120 : decode cX8_told 120 = .ok (.getfield 99, 3) := by decide +kernel
theorem dX8_told_123 : decode cX8_told 123 = .ok (.iload_n 1, 1) := by decide +kernel
theorem dX8_told_124 : decode cX8_told 124 = .ok (.iaload, 1) := by decide +kernel
theorem dX8_told_125 : decode cX8_told 125 = .ok (.ireturn, 1) := by decide +kernel
theorem dX8_told_126 : decode cX8_told 126 = .ok (.aload_n 0, 1) := by decide +kernel
theorem dX8_told_127 : decode cX8_told 127 = .ok (.getfield 21, 3) := by decide +kernel
theorem dX8_told_130 : decode cX8_told 130 = .ok (.getfield 102, 3) := by decide +kernel
theorem dX8_told_133 : decode cX8_told 133 = .ok (.iload_n 1, 1) := by decide +kernel
theorem dX8_told_134 : decode cX8_told 134 = .ok (.iaload, 1) := by decide +kernel
theorem dX8_told_135 : decode cX8_told 135 = .ok (.ireturn, 1) := by decide +kernel
theorem dX8_told_136 : decode cX8_told 136 = .ok (.aload_n 0, 1) := by decide +kernel
theorem dX8_told_137 : decode cX8_told 137 = .ok (.getfield 21, 3) := by decide +kernel
theorem dX8_told_140 : decode cX8_told 140 = .ok (.iconst 0, 1) := by decide +kernel
theorem dX8_told_141 : decode cX8_told 141 = .ok (.invokevirtual 105, 3) := by decide +kernel
theorem dX8_told_144 : decode cX8_told 144 = .ok (.iload_n 1, 1) := by decide +kernel
theorem dX8_told_145 : decode cX8_told 145 = .ok (.invokestatic 108, 3) := by decide +kernel
theorem dX8_told_148 : decode cX8_told 148 = .ok (.ifCond .eq 7, 3) := by decide +kernel
theorem dX8_told_151 : decode cX8_told 151 = .ok (.iconst 1, 1) := by decide +kernel
theorem dX8_told_152 : decode cX8_told 152 = .ok (.goto 4, 3) := by decide +kernel
theorem dX8_told_155 : decode cX8_told 155 = .ok (.iconst 0, 1) := by decide +kernel
theorem dX8_told_156 : decode cX8_told 156 = .ok (.ireturn, 1) := by decide +kernel
theorem dX8_told_157 : decode cX8_told 157 = .ok (.ldc 76, 2) := by decide +kernel
theorem dX8_told_159 : decode cX8_told 159 = .ok (.ireturn, 1) := by decide +kernel
theorem dX8_as_0 : decode cX8_as 0 = .ok (.iload_n 1, 1) := by decide +kernel
theorem dX8_as_1 : decode cX8_as 1 = .ok (.invokestatic 65, 3) := by decide +kernel
theorem dX8_as_4 : decode cX8_as 4 = .ok (.ifCond .eq 10, 3) := by decide +kernel
theorem dX8_as_7 : decode cX8_as 7 = .ok (.iload_n 2, 1) := by decide +kernel
theorem dX8_as_8 : decode cX8_as 8 = .ok (.invokestatic 69, 3) := by decide +kernel
theorem dX8_as_11 : decode cX8_as 11 = .ok (.ifCond .ne 6, 3) := by decide +kernel
theorem dX8_as_14 : decode cX8_as 14 = .ok (.ldc 76, 2) := by decide +kernel
theorem dX8_as_16 : decode cX8_as 16 = .ok (.ireturn, 1) := by decide +kernel
theorem dX8_as_17 : decode cX8_as 17 = .ok (.aload_n 0, 1) := by decide +kernel
theorem dX8_as_18 : decode cX8_as 18 = .ok (.getfield 21, 3) := by decide +kernel
theorem dX8_as_21 : decode cX8_as 21 = .ok (.getfield 84, 3) := by decide +kernel
theorem dX8_as_24 : decode cX8_as 24 = .ok (.iload_n 1, 1) := by decide +kernel
theorem dX8_as_25 : decode cX8_as 25 = .ok (.iaload, 1) := by decide +kernel
theorem dX8_as_26 : decode cX8_as 26 = .ok (.iload_n 2, 1) := by decide +kernel
theorem dX8_as_27 : decode cX8_as 27 = .ok (.invokestatic 114, 3) := by decide +kernel
theorem dX8_as_30 : decode cX8_as 30 = .ok (.ifCond .eq 15, 3) := by decide +kernel
theorem dX8_as_33 : decode cX8_as 33 = .ok (.aload_n 0, 1) := by decide +kernel
theorem dX8_as_34 : decode cX8_as 34 = .ok (.getfield 21, 3) := by decide +kernel
theorem dX8_as_37 : decode cX8_as 37 = .ok (.getfield 77, 3) := by decide +kernel
theorem dX8_as_40 : decode cX8_as 40 = .ok (.iload_n 1, 1) := by decide +kernel
theorem dX8_as_41 : decode cX8_as 41 = .ok (.iaload, 1) := by decide +kernel
theorem dX8_as_42 : decode cX8_as 42 = .ok (.goto 5, 3) := by decide +kernel
theorem dX8_as_45 : decode cX8_as 45 = .ok (.ldc 117, 2) := by decide +kernel
theorem dX8_as_47 : decode cX8_as 47 = .ok (.ireturn, 1) := by decide +kernel
theorem dX8_turns_0 : decode cX8_turns 0 = .ok (.iload_n 1, 1) := by decide +kernel
theorem dX8_turns_1 : decode cX8_turns 1 = .ok (.invokestatic 65, 3) := by decide +kernel
theorem dX8_turns_4 : decode cX8_turns 4 = .ok (.ifCond .eq 10, 3) := by decide +kernel
theorem dX8_turns_7 : decode cX8_turns 7 = .ok (.iload_n 2, 1) := by decide +kernel
theorem dX8_turns_8 : decode cX8_turns 8 = .ok (.invokestatic 69, 3) := by decide +kernel
theorem dX8_turns_11 : decode cX8_turns 11 = .ok (.ifCond .ne 6, 3) := by decide +kernel
theorem dX8_turns_14 : decode cX8_turns 14 = .ok (.ldc 76, 2) := by decide +kernel
theorem dX8_turns_16 : decode cX8_turns 16 = .ok (.ireturn, 1) := by decide +kernel
theorem dX8_turns_17 : decode cX8_turns 17 = .ok (.aload_n 0, 1) := by decide +kernel
theorem dX8_turns_18 : decode cX8_turns 18 = .ok (.getfield 21, 3) := by decide +kernel
theorem dX8_turns_21 : decode cX8_turns 21 = .ok (.iload_n 1, 1) := by decide +kernel
theorem dX8_turns_22 : decode cX8_turns 22 = .ok (.iload_n 2, 1) := by decide +kernel
theorem dX8_turns_23 : decode cX8_turns 23 = .ok (.invokevirtual 80, 3) := by decide +kernel
theorem dX8_turns_26 : decode cX8_turns 26 = .ok (.ireturn, 1) := by decide +kernel
theorem dX8_set_0 : decode cX8_set 0 = .ok (.iload_n 1, 1) := by decide +kernel
theorem dX8_set_1 : decode cX8_set 1 = .ok (.invokestatic 65, 3) := by decide +kernel
theorem dX8_set_4 : decode cX8_set 4 = .ok (.ifCond .ne 6, 3) := by decide +kernel
theorem dX8_set_7 : decode cX8_set 7 = .ok (.ldc 76, 2) := by decide +kernel
theorem dX8_set_9 : decode cX8_set 9 = .ok (.ireturn, 1) := by decide +kernel
theorem dX8_set_10 : decode cX8_set 10 = .ok (.iload_n 2, 1) := by decide +kernel
theorem dX8_set_11 : decode cX8_set 11 = .ok (.ifCond .ne 37, 3) := by decide +kernel
theorem dX8_set_14 : decode cX8_set 14 = .ok (.iload_n 3, 1) := by decide +kernel
theorem dX8_set_15 : decode cX8_set 15 = .ok (.iconst 0, 1) := by decide +kernel
theorem dX8_set_16 : decode cX8_set 16 = .ok (.bipush 99, 2) := by decide +kernel
theorem dX8_set_18 : decode cX8_set 18 = .ok (.invokestatic 72, 3) := by decide +kernel
theorem dX8_set_21 : decode cX8_set 21 = .ok (.ifCond .eq 27, 3) := by decide +kernel
theorem dX8_set_24 : decode cX8_set 24 = .ok (.aload_n 0, 1) := by decide +kernel
theorem dX8_set_25 : decode cX8_set 25 = .ok (.getfield 21, 3) := by decide +kernel
theorem dX8_set_28 : decode cX8_set 28 = .ok (.getfield 99, 3) := by decide +kernel
theorem dX8_set_31 : decode cX8_set 31 = .ok (.iload_n 1, 1) := by decide +kernel
theorem dX8_set_32 : decode cX8_set 32 = .ok (.iaload, 1) := by decide +kernel
theorem dX8_set_33 : decode cX8_set 33 = .ok (.istore 4, 2) := by decide +kernel
theorem dX8_set_35 : decode cX8_set 35 = .ok (.aload_n 0, 1) := by decide +kernel
theorem dX8_set_36 : decode cX8_set 36 = .ok (.getfield 21, 3) := by decide +kernel
theorem dX8_set_39 : decode cX8_set 39 = .ok (.getfield 99, 3) := by decide +kernel
theorem dX8_set_42 : decode cX8_set 42 = .ok (.iload_n 1, 1) := by decide +kernel
theorem dX8_set_43 : decode cX8_set 43 = .ok (.iload_n 3, 1) := by decide +kernel
theorem dX8_set_44 : decode cX8_set 44 = .ok (.iastore, 1) := by decide +kernel
theorem dX8_set_45 : decode cX8_set 45 = .ok (.iload 4, 2) := by decide +kernel
theorem dX8_set_47 : decode cX8_set 47 = .ok (.ireturn, 1) := by decide +kernel
theorem dX8_set_48 : decode cX8_set 48 = .ok (.iload_n 2, 1) := by decide +kernel
theorem dX8_set_49 : decode cX8_set 49 = .ok (.iconst 1, 1) := by decide +kernel
theorem dX8_set_50 : decode cX8_set 50 = .ok (.if_icmp .ne 40, 3) := by decide +kernel
theorem dX8_set_53 : decode cX8_set 53 = .ok (.iload_n 3, 1) := by decide +kernel
theorem dX8_set_54 : decode cX8_set 54 = .ok (.ldc 118, 2) := by decide +kernel
theorem dX8_set_56 : decode cX8_set 56 = .ok (.if_icmp .eq 10, 3) := by decide +kernel
theorem dX8_set_59 : decode cX8_set 59 = .ok (.iload_n 3, 1) := by decide +kernel
theorem dX8_set_60 : decode cX8_set 60 = .ok (.invokestatic 119, 3) := by decide +kernel
theorem dX8_set_63 : decode cX8_set 63 = .ok (.ifCond .eq 27, 3) := by decide +kernel
theorem dX8_set_66 : decode cX8_set 66 = .ok (.aload_n 0, 1) := by decide +kernel
theorem dX8_set_67 : decode cX8_set 67 = .ok (.getfield 21, 3) := by decide +kernel
theorem dX8_set_70 : decode cX8_set 70 = .ok (.getfield 102, 3) := by decide +kernel
theorem dX8_set_73 : decode cX8_set 73 = .ok (.iload_n 1, 1) := by decide +kernel
theorem dX8_set_74 : decode cX8_set 74 = .ok (.iaload, 1) := by decide +kernel
theorem dX8_set_75 : decode cX8_set 75 = .ok (.istore 4, 2) := by decide +kernel
theorem dX8_set_77 : decode cX8_set 77 = .ok (.aload_n 0, 1) := by decide +kernel
theorem dX8_set_78 : decode cX8_set 78 = .ok (.getfield 21, 3) := by decide +kernel
theorem dX8_set_81 : decode cX8_set 81 = .ok (.getfield 102, 3) := by decide +kernel
theorem dX8_set_84 : decode cX8_set 84 = .ok (.iload_n 1, 1) := by decide +kernel
theorem dX8_set_85 : decode cX8_set 85 = .ok (.iload_n 3, 1) := by decide +kernel
theorem dX8_set_86 : decode cX8_set 86 = .ok (.iastore, 1) := by decide +kernel
theorem dX8_set_87 : decode cX8_set 87 = .ok (.iload 4, 2) := by decide +kernel
theorem dX8_set_89 : decode cX8_set 89 = .ok (.ireturn, 1) := by decide +kernel
theorem dX8_set_90 : decode cX8_set 90 = .ok (.ldc 76, 2) := by decide +kernel
theorem dX8_set_92 : decode cX8_set 92 = .ok (.ireturn, 1) := by decide +kernel
theorem dX8_sea_0 : decode cX8_sea 0 = .ok (.iload_n 1, 1) := by decide +kernel
theorem dX8_sea_1 : decode cX8_sea 1 = .ok (.ifCond .lt 24, 3) := by decide +kernel
theorem dX8_sea_4 : decode cX8_sea 4 = .ok (.iload_n 1, 1) := by decide +kernel
theorem dX8_sea_5 : decode cX8_sea 5 = .ok (.getstatic 122, 3) := by decide +kernel
theorem dX8_sea_8 : decode cX8_sea 8 = .ok (.arraylength, 1) := by decide +kernel
theorem dX8_sea_9 : decode cX8_sea 9 = .ok (.if_icmp .ge 16, 3) := by decide +kernel
theorem dX8_sea_12 : decode cX8_sea 12 = .ok (.iload_n 2, 1) := by decide +kernel
theorem dX8_sea_13 : decode cX8_sea 13 = .ok (.iconst 0, 1) := by decide +kernel
theorem dX8_sea_14 : decode cX8_sea 14 = .ok (.getstatic 122, 3) := by decide +kernel
theorem dX8_sea_17 : decode cX8_sea 17 = .ok (.iload_n 1, 1) := by decide +kernel
theorem dX8_sea_18 : decode cX8_sea 18 = .ok (.iaload, 1) := by decide +kernel
theorem dX8_sea_19 : decode cX8_sea 19 = .ok (.invokestatic 72, 3) := by decide +kernel
theorem dX8_sea_22 : decode cX8_sea 22 = .ok (.ifCond .ne 6, 3) := by decide +kernel
theorem dX8_sea_25 : decode cX8_sea 25 = .ok (.ldc 76, 2) := by decide +kernel
theorem dX8_sea_27 : decode cX8_sea 27 = .ok (.ireturn, 1) := by decide +kernel
theorem dX8_sea_28 : decode cX8_sea 28 = .ok (.aload_n 0, 1) := by decide +kernel
theorem dX8_sea_29 : decode cX8_sea 29 = .ok (.getfield 21, 3) := by decide +kernel
theorem dX8_sea_32 : decode cX8_sea 32 = .ok (.getfield 125, 3) := by decide +kernel
theorem dX8_sea_35 : decode cX8_sea 35 = .ok (.iload_n 1, 1) := by decide +kernel
theorem dX8_sea_36 : decode cX8_sea 36 = .ok (.iaload, 1) := by decide +kernel
theorem dX8_sea_37 : decode cX8_sea 37 = .ok (.istore_n 3, 1) := by decide +kernel
theorem dX8_sea_38 : decode cX8_sea 38 = .ok (.aload_n 0, 1) := by decide +kernel
theorem dX8_sea_39 : decode cX8_sea 39 = .ok (.getfield 21, 3) := by decide +kernel
theorem dX8_sea_42 : decode cX8_sea 42 = .ok (.getfield 125, 3) := by decide +kernel
theorem dX8_sea_45 : decode cX8_sea 45 = .ok (.iload_n 1, 1) := by decide +kernel
theorem dX8_sea_46 : decode cX8_sea 46 = .ok (.iload_n 2, 1) := by decide +kernel
theorem dX8_sea_47 : decode cX8_sea 47 = .ok (.iastore, 1) := by decide +kernel
theorem dX8_sea_48 : decode cX8_sea 48 = .ok (.iload_n 3, 1) := by decide +kernel
theorem dX8_sea_49 : decode cX8_sea 49 = .ok (.ireturn, 1) := by decide +kernel
theorem dX8_deal_0 : decode cX8_deal 0 = .ok (.aload_n 0, 1) := by decide +kernel
theorem dX8_deal_1 : decode cX8_deal 1 = .ok (.getfield 21, 3) := by decide +kernel
theorem dX8_deal_4 : decode cX8_deal 4 = .ok (.invokevirtual 128, 3) := by decide +kernel
theorem dX8_deal_7 : decode cX8_deal 7 = .ok (.aload_n 0, 1) := by decide +kernel
theorem dX8_deal_8 : decode cX8_deal 8 = .ok (.getfield 21, 3) := by decide +kernel
theorem dX8_deal_11 : decode cX8_deal 11 = .ok (.iconst 0, 1) := by decide +kernel
theorem dX8_deal_12 : decode cX8_deal 12 = .ok (.invokevirtual 131, 3) := by decide +kernel
theorem dX8_deal_15 : decode cX8_deal 15 = .ok (.ireturn, 1) := by decide +kernel
theorem dX8_seed_0 : decode cX8_seed 0 = .ok (.aload_n 0, 1) := by decide +kernel
theorem dX8_seed_1 : decode cX8_seed 1 = .ok (.getfield 21, 3) := by decide +kernel
theorem dX8_seed_4 : decode cX8_seed 4 = .ok (.getfield 134, 3) := by decide +kernel
theorem dX8_seed_7 : decode cX8_seed 7 = .ok (.istore_n 2, 1) := by decide +kernel
theorem dX8_seed_8 : decode cX8_seed 8 = .ok (.aload_n 0, 1) := by decide +kernel
theorem dX8_seed_9 : decode cX8_seed 9 = .ok (.getfield 21, 3) := by decide +kernel
theorem dX8_seed_12 : decode cX8_seed 12 = .ok (.iload_n 1, 1) := by decide +kernel
theorem dX8_seed_13 : decode cX8_seed 13 = .ok (.putfield 134, 3) := by decide +kernel
theorem dX8_seed_16 : decode cX8_seed 16 = .ok (.iload_n 2, 1) := by decide +kernel
theorem dX8_seed_17 : decode cX8_seed 17 = .ok (.ireturn, 1) := by decide +kernel
theorem dX8_sky_0 : decode cX8_sky 0 = .ok (.iload_n 1, 1) := by decide +kernel
theorem dX8_sky_1 : decode cX8_sky 1 = .ok (.invokestatic 138, 3) := by decide +kernel
theorem dX8_sky_4 : decode cX8_sky 4 = .ok (.ifCond .ne 6, 3) := by decide +kernel
theorem dX8_sky_7 : decode cX8_sky 7 = .ok (.ldc 76, 2) := by decide +kernel
theorem dX8_sky_9 : decode cX8_sky 9 = .ok (.ireturn, 1) := by decide +kernel
theorem dX8_sky_10 : decode cX8_sky 10 = .ok (.iload_n 2, 1) := by decide +kernel
theorem dX8_sky_11 : decode cX8_sky 11 = .ok (.tableswitch 55 0 2 #[25, 34, 43], 25) := by decide +kernel
theorem dX8_sky_36 : decode cX8_sky 36 = .ok (.aload_n 0, 1) := by decide +kernel
theorem dX8_sky_37 : decode cX8_sky 37 = .ok (.getfield 21, 3) := by decide +kernel
theorem dX8_sky_40 : decode cX8_sky 40 = .ok (.iload_n 1, 1) := by decide +kernel
theorem dX8_sky_41 : decode cX8_sky 41 = .ok (.invokevirtual 141, 3) := by decide +kernel
theorem dX8_sky_44 : decode cX8_sky 44 = .ok (.ireturn, 1) := by decide +kernel
theorem dX8_sky_45 : decode cX8_sky 45 = .ok (.aload_n 0, 1) := by decide +kernel
theorem dX8_sky_46 : decode cX8_sky 46 = .ok (.getfield 21, 3) := by decide +kernel
theorem dX8_sky_49 : decode cX8_sky 49 = .ok (.iload_n 1, 1) := by decide +kernel
theorem dX8_sky_50 : decode cX8_sky 50 = .ok (.invokevirtual 131, 3) := by decide +kernel
theorem dX8_sky_53 : decode cX8_sky 53 = .ok (.ireturn, 1) := by decide +kernel
theorem dX8_sky_54 : decode cX8_sky 54 = .ok (.aload_n 0, 1) := by decide +kernel
theorem dX8_sky_55 : decode cX8_sky 55 = .ok (.getfield 21, 3) := by decide +kernel
theorem dX8_sky_58 : decode cX8_sky 58 = .ok (.iload_n 1, 1) := by decide +kernel
theorem dX8_sky_59 : decode cX8_sky 59 = .ok (.invokevirtual 105, 3) := by decide +kernel
theorem dX8_sky_62 : decode cX8_sky 62 = .ok (.invokestatic 144, 3) := by decide +kernel
theorem dX8_sky_65 : decode cX8_sky 65 = .ok (.ireturn, 1) := by decide +kernel
theorem dX8_sky_66 : decode cX8_sky 66 = .ok (.ldc 76, 2) := by decide +kernel
theorem dX8_sky_68 : decode cX8_sky 68 = .ok (.ireturn, 1) := by decide +kernel
theorem dX8_worst_0 : decode cX8_worst 0 = .ok (.iload_n 1, 1) := by decide +kernel
theorem dX8_worst_1 : decode cX8_worst 1 = .ok (.iconst 1, 1) := by decide +kernel
theorem dX8_worst_2 : decode cX8_worst 2 = .ok (.bipush 99, 2) := by decide +kernel
theorem dX8_worst_4 : decode cX8_worst 4 = .ok (.invokestatic 72, 3) := by decide +kernel
theorem dX8_worst_7 : decode cX8_worst 7 = .ok (.ifCond .eq 12, 3) := by decide +kernel
theorem dX8_worst_10 : decode cX8_worst 10 = .ok (.iload_n 2, 1) := by decide +kernel
theorem dX8_worst_11 : decode cX8_worst 11 = .ok (.iconst 0, 1) := by decide +kernel
theorem dX8_worst_12 : decode cX8_worst 12 = .ok (.iconst 1, 1) := by decide +kernel
theorem dX8_worst_13 : decode cX8_worst 13 = .ok (.invokestatic 72, 3) := by decide +kernel
theorem dX8_worst_16 : decode cX8_worst 16 = .ok (.ifCond .ne 6, 3) := by decide +kernel
theorem dX8_worst_19 : decode cX8_worst 19 = .ok (.ldc 76, 2) := by decide +kernel
theorem dX8_worst_21 : decode cX8_worst 21 = .ok (.ireturn, 1) := by decide +kernel
theorem dX8_worst_22 : decode cX8_worst 22 = .ok (.aload_n 0, 1) := by decide +kernel
theorem dX8_worst_23 : decode cX8_worst 23 = .ok (.getfield 21, 3) := by decide +kernel
theorem dX8_worst_26 : decode cX8_worst 26 = .ok (.iload_n 1, 1) := by decide +kernel
theorem dX8_worst_27 : decode cX8_worst 27 = .ok (.invokevirtual 147, 3) := by decide +kernel
theorem dX8_worst_30 : decode cX8_worst 30 = .ok (.istore_n 3, 1) := by decide +kernel
theorem dX8_worst_31 : decode cX8_worst 31 = .ok (.iload_n 2, 1) := by decide +kernel
theorem dX8_worst_32 : decode cX8_worst 32 = .ok (.ifCond .ne 7, 3) := by decide +kernel
theorem dX8_worst_35 : decode cX8_worst 35 = .ok (.iload_n 3, 1) := by decide +kernel
theorem dX8_worst_36 : decode cX8_worst 36 = .ok (.goto 11, 3) := by decide +kernel
theorem dX8_worst_39 : decode cX8_worst 39 = .ok (.aload_n 0, 1) := by decide +kernel
theorem dX8_worst_40 : decode cX8_worst 40 = .ok (.getfield 21, 3) := by decide +kernel
theorem dX8_worst_43 : decode cX8_worst 43 = .ok (.iload_n 3, 1) := by decide +kernel
theorem dX8_worst_44 : decode cX8_worst 44 = .ok (.invokevirtual 131, 3) := by decide +kernel
theorem dX8_worst_47 : decode cX8_worst 47 = .ok (.ireturn, 1) := by decide +kernel
theorem dX8_dryFor_0 : decode cX8_dryFor 0 = .ok (.iload_n 1, 1) := by decide +kernel
theorem dX8_dryFor_1 : decode cX8_dryFor 1 = .ok (.invokestatic 65, 3) := by decide +kernel
theorem dX8_dryFor_4 : decode cX8_dryFor 4 = .ok (.ifCond .eq 14, 3) := by decide +kernel
theorem dX8_dryFor_7 : decode cX8_dryFor 7 = .ok (.aload_n 0, 1) := by decide +kernel
theorem dX8_dryFor_8 : decode cX8_dryFor 8 = .ok (.getfield 21, 3) := by decide +kernel
theorem dX8_dryFor_11 : decode cX8_dryFor 11 = .ok (.iload_n 1, 1) := by decide +kernel
theorem dX8_dryFor_12 : decode cX8_dryFor 12 = .ok (.invokevirtual 150, 3) := by decide +kernel
theorem dX8_dryFor_15 : decode cX8_dryFor 15 = .ok (.goto 5, 3) := by decide +kernel
theorem dX8_dryFor_18 : decode cX8_dryFor 18 = .ok (.ldc 76, 2) := by decide +kernel
theorem dX8_dryFor_20 : decode cX8_dryFor 20 = .ok (.ireturn, 1) := by decide +kernel
theorem dX8_window_0 : decode cX8_window 0 = .ok (.iload_n 1, 1) := by decide +kernel
theorem dX8_window_1 : decode cX8_window 1 = .ok (.invokestatic 65, 3) := by decide +kernel
theorem dX8_window_4 : decode cX8_window 4 = .ok (.ifCond .eq 13, 3) := by decide +kernel
theorem dX8_window_7 : decode cX8_window 7 = .ok (.iload_n 2, 1) := by decide +kernel
theorem dX8_window_8 : decode cX8_window 8 = .ok (.iconst 1, 1) := by decide +kernel
theorem dX8_window_9 : decode cX8_window 9 = .ok (.bipush 24, 2) := by decide +kernel
theorem dX8_window_11 : decode cX8_window 11 = .ok (.invokestatic 72, 3) := by decide +kernel
theorem dX8_window_14 : decode cX8_window 14 = .ok (.ifCond .ne 6, 3) := by decide +kernel
theorem dX8_window_17 : decode cX8_window 17 = .ok (.ldc 76, 2) := by decide +kernel
theorem dX8_window_19 : decode cX8_window 19 = .ok (.ireturn, 1) := by decide +kernel
theorem dX8_window_20 : decode cX8_window 20 = .ok (.aload_n 0, 1) := by decide +kernel
theorem dX8_window_21 : decode cX8_window 21 = .ok (.getfield 21, 3) := by decide +kernel
theorem dX8_window_24 : decode cX8_window 24 = .ok (.iload_n 1, 1) := by decide +kernel
theorem dX8_window_25 : decode cX8_window 25 = .ok (.iload_n 2, 1) := by decide +kernel
theorem dX8_window_26 : decode cX8_window 26 = .ok (.invokevirtual 153, 3) := by decide +kernel
theorem dX8_window_29 : decode cX8_window 29 = .ok (.ireturn, 1) := by decide +kernel
theorem dX8_owns_0 : decode cX8_owns 0 = .ok (.iload_n 1, 1) := by decide +kernel
theorem dX8_owns_1 : decode cX8_owns 1 = .ok (.invokestatic 119, 3) := by decide +kernel
theorem dX8_owns_4 : decode cX8_owns 4 = .ok (.ifCond .eq 10, 3) := by decide +kernel
theorem dX8_owns_7 : decode cX8_owns 7 = .ok (.iload_n 2, 1) := by decide +kernel
theorem dX8_owns_8 : decode cX8_owns 8 = .ok (.invokestatic 138, 3) := by decide +kernel
theorem dX8_owns_11 : decode cX8_owns 11 = .ok (.ifCond .ne 6, 3) := by decide +kernel
theorem dX8_owns_14 : decode cX8_owns 14 = .ok (.ldc 76, 2) := by decide +kernel
theorem dX8_owns_16 : decode cX8_owns 16 = .ok (.ireturn, 1) := by decide +kernel
theorem dX8_owns_17 : decode cX8_owns 17 = .ok (.aload_n 0, 1) := by decide +kernel
theorem dX8_owns_18 : decode cX8_owns 18 = .ok (.getfield 21, 3) := by decide +kernel
theorem dX8_owns_21 : decode cX8_owns 21 = .ok (.iload_n 1, 1) := by decide +kernel
theorem dX8_owns_22 : decode cX8_owns 22 = .ok (.iload_n 2, 1) := by decide +kernel
theorem dX8_owns_23 : decode cX8_owns 23 = .ok (.invokevirtual 156, 3) := by decide +kernel
theorem dX8_owns_26 : decode cX8_owns 26 = .ok (.ireturn, 1) := by decide +kernel
theorem dX8_richest_0 : decode cX8_richest 0 = .ok (.iload_n 1, 1) := by decide +kernel
theorem dX8_richest_1 : decode cX8_richest 1 = .ok (.iconst 0, 1) := by decide +kernel
theorem dX8_richest_2 : decode cX8_richest 2 = .ok (.iconst 1, 1) := by decide +kernel
theorem dX8_richest_3 : decode cX8_richest 3 = .ok (.invokestatic 72, 3) := by decide +kernel
theorem dX8_richest_6 : decode cX8_richest 6 = .ok (.ifCond .ne 6, 3) := by decide +kernel
theorem dX8_richest_9 : decode cX8_richest 9 = .ok (.ldc 76, 2) := by decide +kernel
theorem dX8_richest_11 : decode cX8_richest 11 = .ok (.ireturn, 1) := by decide +kernel
theorem dX8_richest_12 : decode cX8_richest 12 = .ok (.aload_n 0, 1) := by decide +kernel
theorem dX8_richest_13 : decode cX8_richest 13 = .ok (.getfield 21, 3) := by decide +kernel
theorem dX8_richest_16 : decode cX8_richest 16 = .ok (.invokevirtual 159, 3) := by decide +kernel
theorem dX8_richest_19 : decode cX8_richest 19 = .ok (.istore_n 2, 1) := by decide +kernel
theorem dX8_richest_20 : decode cX8_richest 20 = .ok (.iload_n 1, 1) := by decide +kernel
theorem dX8_richest_21 : decode cX8_richest 21 = .ok (.ifCond .ne 7, 3) := by decide +kernel
theorem dX8_richest_24 : decode cX8_richest 24 = .ok (.iload_n 2, 1) := by decide +kernel
theorem dX8_richest_25 : decode cX8_richest 25 = .ok (.goto 11, 3) := by decide +kernel
theorem dX8_richest_28 : decode cX8_richest 28 = .ok (.aload_n 0, 1) := by decide +kernel
theorem dX8_richest_29 : decode cX8_richest 29 = .ok (.getfield 21, 3) := by decide +kernel
theorem dX8_richest_32 : decode cX8_richest 32 = .ok (.iload_n 2, 1) := by decide +kernel
theorem dX8_richest_33 : decode cX8_richest 33 = .ok (.invokevirtual 163, 3) := by decide +kernel
theorem dX8_richest_36 : decode cX8_richest 36 = .ok (.ireturn, 1) := by decide +kernel
theorem dX8_house_0 : decode cX8_house 0 = .ok (.iload_n 1, 1) := by decide +kernel
theorem dX8_house_1 : decode cX8_house 1 = .ok (.iconst 1, 1) := by decide +kernel
theorem dX8_house_2 : decode cX8_house 2 = .ok (.bipush 99, 2) := by decide +kernel
theorem dX8_house_4 : decode cX8_house 4 = .ok (.invokestatic 72, 3) := by decide +kernel
theorem dX8_house_7 : decode cX8_house 7 = .ok (.ifCond .ne 6, 3) := by decide +kernel
theorem dX8_house_10 : decode cX8_house 10 = .ok (.ldc 76, 2) := by decide +kernel
theorem dX8_house_12 : decode cX8_house 12 = .ok (.ireturn, 1) := by decide +kernel
theorem dX8_house_13 : decode cX8_house 13 = .ok (.aload_n 0, 1) := by decide +kernel
theorem dX8_house_14 : decode cX8_house 14 = .ok (.getfield 21, 3) := by decide +kernel
theorem dX8_house_17 : decode cX8_house 17 = .ok (.getfield 166, 3) := by decide +kernel
theorem dX8_house_20 : decode cX8_house 20 = .ok (.bipush 8, 2) := by decide +kernel
theorem dX8_house_22 : decode cX8_house 22 = .ok (.if_icmp .ge 14, 3) := by decide +kernel
theorem dX8_house_25 : decode cX8_house 25 = .ok (.aload_n 0, 1) := by decide +kernel
theorem dX8_house_26 : decode cX8_house 26 = .ok (.getfield 21, 3) := by decide +kernel
theorem dX8_house_29 : decode cX8_house 29 = .ok (.iload_n 1, 1) := by decide +kernel
theorem dX8_house_30 : decode cX8_house 30 = .ok (.invokevirtual 169, 3) := by decide +kernel
theorem dX8_house_33 : decode cX8_house 33 = .ok (.goto 5, 3) := by decide +kernel
theorem dX8_house_36 : decode cX8_house 36 = .ok (.ldc 172, 2) := by decide +kernel
theorem dX8_house_38 : decode cX8_house 38 = .ok (.ireturn, 1) := by decide +kernel
theorem dX8_houseTold_0 : decode cX8_houseTold 0 = .ok (.aload_n 0, 1) := by decide +kernel
theorem dX8_houseTold_1 : decode cX8_houseTold 1 = .ok (.iload_n 1, 1) := by decide +kernel
theorem dX8_houseTold_2 : decode cX8_houseTold 2 = .ok (.invokevirtual 173, 3) := by decide +kernel
theorem dX8_houseTold_5 : decode cX8_houseTold 5 = .ok (.ifCond .ne 6, 3) := by decide +kernel
theorem dX8_houseTold_8 : decode cX8_houseTold 8 = .ok (.ldc 76, 2) := by decide +kernel
theorem dX8_houseTold_10 : decode cX8_houseTold 10 = .ok (.ireturn, 1) := by decide +kernel
theorem dX8_houseTold_11 : decode cX8_houseTold 11 = .ok (.iload_n 2, 1) := by decide +kernel
theorem dX8_houseTold_12 : decode cX8_houseTold 12 = .ok (.lookupswitch 48 #[(0, 28), (1, 38)], 28) := by decide +kernel
theorem dX8_houseTold_40 : decode cX8_houseTold 40 = .ok (.aload_n 0, 1) := by decide +kernel
theorem dX8_houseTold_41 : decode cX8_houseTold 41 = .ok (.getfield 21, 3) := by decide +kernel
theorem dX8_houseTold_44 : decode cX8_houseTold 44 = .ok (.getfield 176, 3) := by decide +kernel
theorem dX8_houseTold_47 : decode cX8_houseTold 47 = .ok (.iload_n 1, 1) := by decide +kernel
theorem dX8_houseTold_48 : decode cX8_houseTold 48 = .ok (.iaload, 1) := by decide +kernel
theorem dX8_houseTold_49 : decode cX8_houseTold 49 = .ok (.ireturn, 1) := by decide +kernel
theorem dX8_houseTold_50 : decode cX8_houseTold 50 = .ok (.aload_n 0, 1) := by decide +kernel
theorem dX8_houseTold_51 : decode cX8_houseTold 51 = .ok (.getfield 21, 3) := by decide +kernel
theorem dX8_houseTold_54 : decode cX8_houseTold 54 = .ok (.getfield 179, 3) := by decide +kernel
theorem dX8_houseTold_57 : decode cX8_houseTold 57 = .ok (.iload_n 1, 1) := by decide +kernel
theorem dX8_houseTold_58 : decode cX8_houseTold 58 = .ok (.iaload, 1) := by decide +kernel
theorem dX8_houseTold_59 : decode cX8_houseTold 59 = .ok (.ireturn, 1) := by decide +kernel
theorem dX8_houseTold_60 : decode cX8_houseTold 60 = .ok (.ldc 76, 2) := by decide +kernel
theorem dX8_houseTold_62 : decode cX8_houseTold 62 = .ok (.ireturn, 1) := by decide +kernel
theorem dX8_settle_0 : decode cX8_settle 0 = .ok (.aload_n 0, 1) := by decide +kernel
theorem dX8_settle_1 : decode cX8_settle 1 = .ok (.iload_n 1, 1) := by decide +kernel
theorem dX8_settle_2 : decode cX8_settle 2 = .ok (.invokevirtual 173, 3) := by decide +kernel
theorem dX8_settle_5 : decode cX8_settle 5 = .ok (.ifCond .eq 16, 3) := by decide +kernel
theorem dX8_settle_8 : decode cX8_settle 8 = .ok (.iload_n 2, 1) := by decide +kernel
theorem dX8_settle_9 : decode cX8_settle 9 = .ok (.ldc 118, 2) := by decide +kernel
theorem dX8_settle_11 : decode cX8_settle 11 = .ok (.if_icmp .eq 13, 3) := by decide +kernel
theorem dX8_settle_14 : decode cX8_settle 14 = .ok (.iload_n 2, 1) := by decide +kernel
theorem dX8_settle_15 : decode cX8_settle 15 = .ok (.invokestatic 65, 3) := by decide +kernel
theorem dX8_settle_18 : decode cX8_settle 18 = .ok (.ifCond .ne 6, 3) := by decide +kernel
theorem dX8_settle_21 : decode cX8_settle 21 = .ok (.ldc 76, 2) := by decide +kernel
theorem dX8_settle_23 : decode cX8_settle 23 = .ok (.ireturn, 1) := by decide +kernel
theorem dX8_settle_24 : decode cX8_settle 24 = .ok (.aload_n 0, 1) := by decide +kernel
theorem dX8_settle_25 : decode cX8_settle 25 = .ok (.getfield 21, 3) := by decide +kernel
theorem dX8_settle_28 : decode cX8_settle 28 = .ok (.getfield 179, 3) := by decide +kernel
theorem dX8_settle_31 : decode cX8_settle 31 = .ok (.iload_n 1, 1) := by decide +kernel
theorem dX8_settle_32 : decode cX8_settle 32 = .ok (.iaload, 1) := by decide +kernel
theorem dX8_settle_33 : decode cX8_settle 33 = .ok (.istore_n 3, 1) := by decide +kernel
theorem dX8_settle_34 : decode cX8_settle 34 = .ok (.aload_n 0, 1) := by decide +kernel
theorem dX8_settle_35 : decode cX8_settle 35 = .ok (.getfield 21, 3) := by decide +kernel
theorem dX8_settle_38 : decode cX8_settle 38 = .ok (.getfield 179, 3) := by decide +kernel
theorem dX8_settle_41 : decode cX8_settle 41 = .ok (.iload_n 1, 1) := by decide +kernel
theorem dX8_settle_42 : decode cX8_settle 42 = .ok (.iload_n 2, 1) := by decide +kernel
theorem dX8_settle_43 : decode cX8_settle 43 = .ok (.iastore, 1) := by decide +kernel
theorem dX8_settle_44 : decode cX8_settle 44 = .ok (.iload_n 3, 1) := by decide +kernel
theorem dX8_settle_45 : decode cX8_settle 45 = .ok (.ireturn, 1) := by decide +kernel
theorem dX8_cut_0 : decode cX8_cut 0 = .ok (.iload_n 1, 1) := by decide +kernel
theorem dX8_cut_1 : decode cX8_cut 1 = .ok (.invokestatic 138, 3) := by decide +kernel
theorem dX8_cut_4 : decode cX8_cut 4 = .ok (.ifCond .eq 14, 3) := by decide +kernel
theorem dX8_cut_7 : decode cX8_cut 7 = .ok (.aload_n 0, 1) := by decide +kernel
theorem dX8_cut_8 : decode cX8_cut 8 = .ok (.getfield 21, 3) := by decide +kernel
theorem dX8_cut_11 : decode cX8_cut 11 = .ok (.iload_n 1, 1) := by decide +kernel
theorem dX8_cut_12 : decode cX8_cut 12 = .ok (.invokevirtual 182, 3) := by decide +kernel
theorem dX8_cut_15 : decode cX8_cut 15 = .ok (.goto 5, 3) := by decide +kernel
theorem dX8_cut_18 : decode cX8_cut 18 = .ok (.ldc 76, 2) := by decide +kernel
theorem dX8_cut_20 : decode cX8_cut 20 = .ok (.ireturn, 1) := by decide +kernel
theorem dX8_lack_0 : decode cX8_lack 0 = .ok (.iload_n 1, 1) := by decide +kernel
theorem dX8_lack_1 : decode cX8_lack 1 = .ok (.invokestatic 138, 3) := by decide +kernel
theorem dX8_lack_4 : decode cX8_lack 4 = .ok (.ifCond .eq 14, 3) := by decide +kernel
theorem dX8_lack_7 : decode cX8_lack 7 = .ok (.aload_n 0, 1) := by decide +kernel
theorem dX8_lack_8 : decode cX8_lack 8 = .ok (.getfield 21, 3) := by decide +kernel
theorem dX8_lack_11 : decode cX8_lack 11 = .ok (.iload_n 1, 1) := by decide +kernel
theorem dX8_lack_12 : decode cX8_lack 12 = .ok (.invokevirtual 185, 3) := by decide +kernel
theorem dX8_lack_15 : decode cX8_lack 15 = .ok (.goto 5, 3) := by decide +kernel
theorem dX8_lack_18 : decode cX8_lack 18 = .ok (.ldc 76, 2) := by decide +kernel
theorem dX8_lack_20 : decode cX8_lack 20 = .ok (.ireturn, 1) := by decide +kernel
theorem dX8_going_0 : decode cX8_going 0 = .ok (.aload_n 0, 1) := by decide +kernel
theorem dX8_going_1 : decode cX8_going 1 = .ok (.iload_n 1, 1) := by decide +kernel
theorem dX8_going_2 : decode cX8_going 2 = .ok (.invokevirtual 173, 3) := by decide +kernel
theorem dX8_going_5 : decode cX8_going 5 = .ok (.ifCond .eq 10, 3) := by decide +kernel
theorem dX8_going_8 : decode cX8_going 8 = .ok (.iload_n 2, 1) := by decide +kernel
theorem dX8_going_9 : decode cX8_going 9 = .ok (.invokestatic 65, 3) := by decide +kernel
theorem dX8_going_12 : decode cX8_going 12 = .ok (.ifCond .ne 6, 3) := by decide +kernel
theorem dX8_going_15 : decode cX8_going 15 = .ok (.ldc 76, 2) := by decide +kernel
theorem dX8_going_17 : decode cX8_going 17 = .ok (.ireturn, 1) := by decide +kernel
theorem dX8_going_18 : decode cX8_going 18 = .ok (.aload_n 0, 1) := by decide +kernel
theorem dX8_going_19 : decode cX8_going 19 = .ok (.getfield 21, 3) := by decide +kernel
theorem dX8_going_22 : decode cX8_going 22 = .ok (.getfield 179, 3) := by decide +kernel
theorem dX8_going_25 : decode cX8_going 25 = .ok (.iload_n 1, 1) := by decide +kernel
theorem dX8_going_26 : decode cX8_going 26 = .ok (.iaload, 1) := by decide +kernel
theorem dX8_going_27 : decode cX8_going 27 = .ok (.istore_n 3, 1) := by decide +kernel
theorem dX8_going_28 : decode cX8_going 28 = .ok (.iload_n 3, 1) := by decide +kernel
theorem dX8_going_29 : decode cX8_going 29 = .ok (.invokestatic 65, 3) := by decide +kernel
theorem dX8_going_32 : decode cX8_going 32 = .ok (.ifCond .eq 15, 3) := by decide +kernel
theorem dX8_going_35 : decode cX8_going 35 = .ok (.aload_n 0, 1) := by decide +kernel
theorem dX8_going_36 : decode cX8_going 36 = .ok (.getfield 21, 3) := by decide +kernel
theorem dX8_going_39 : decode cX8_going 39 = .ok (.iload_n 3, 1) := by decide +kernel
theorem dX8_going_40 : decode cX8_going 40 = .ok (.iload_n 2, 1) := by decide +kernel
theorem dX8_going_41 : decode cX8_going 41 = .ok (.invokevirtual 188, 3) := by decide +kernel
theorem dX8_going_44 : decode cX8_going 44 = .ok (.goto 5, 3) := by decide +kernel
theorem dX8_going_47 : decode cX8_going 47 = .ok (.ldc 191, 2) := by decide +kernel
theorem dX8_going_49 : decode cX8_going 49 = .ok (.ireturn, 1) := by decide +kernel
theorem dX8_run_0 : decode cX8_run 0 = .ok (.iload_n 1, 1) := by decide +kernel
theorem dX8_run_1 : decode cX8_run 1 = .ok (.iconst 1, 1) := by decide +kernel
theorem dX8_run_2 : decode cX8_run 2 = .ok (.bipush 99, 2) := by decide +kernel
theorem dX8_run_4 : decode cX8_run 4 = .ok (.invokestatic 72, 3) := by decide +kernel
theorem dX8_run_7 : decode cX8_run 7 = .ok (.ifCond .ne 6, 3) := by decide +kernel
theorem dX8_run_10 : decode cX8_run 10 = .ok (.ldc 76, 2) := by decide +kernel
theorem dX8_run_12 : decode cX8_run 12 = .ok (.ireturn, 1) := by decide +kernel
theorem dX8_run_13 : decode cX8_run 13 = .ok (.iconst 0, 1) := by decide +kernel
theorem dX8_run_14 : decode cX8_run 14 = .ok (.istore_n 2, 1) := by decide +kernel
theorem dX8_run_15 : decode cX8_run 15 = .ok (.iload_n 2, 1) := by decide +kernel
theorem dX8_run_16 : decode cX8_run 16 = .ok (.iload_n 1, 1) := by decide +kernel
theorem dX8_run_17 : decode cX8_run 17 = .ok (.if_icmp .ge 29, 3) := by decide +kernel
theorem dX8_run_20 : decode cX8_run 20 = .ok (.aload_n 0, 1) := by decide +kernel
theorem dX8_run_21 : decode cX8_run 21 = .ok (.getfield 21, 3) := by decide +kernel
theorem dX8_run_24 : decode cX8_run 24 = .ok (.getfield 192, 3) := by decide +kernel
theorem dX8_run_27 : decode cX8_run 27 = .ok (.sipush 9999, 3) := by decide +kernel
theorem dX8_run_30 : decode cX8_run 30 = .ok (.if_icmp .ge 16, 3) := by decide +kernel
theorem dX8_run_33 : decode cX8_run 33 = .ok (.aload_n 0, 1) := by decide +kernel
theorem dX8_run_34 : decode cX8_run 34 = .ok (.getfield 21, 3) := by decide +kernel
theorem dX8_run_37 : decode cX8_run 37 = .ok (.invokevirtual 195, 3) := by decide +kernel
theorem dX8_run_40 : decode cX8_run 40 = .ok (.iinc 2 1, 3) := by decide +kernel
theorem dX8_run_43 : decode cX8_run 43 = .ok (.goto (-28), 3) := by decide +kernel
theorem dX8_run_46 : decode cX8_run 46 = .ok (.aload_n 0, 1) := by decide +kernel
theorem dX8_run_47 : decode cX8_run 47 = .ok (.getfield 21, 3) := by decide +kernel
theorem dX8_run_50 : decode cX8_run 50 = .ok (.getfield 198, 3) := by decide +kernel
theorem dX8_run_53 : decode cX8_run 53 = .ok (.ireturn, 1) := by decide +kernel
theorem dX8_feed_0 : decode cX8_feed 0 = .ok (.aload_n 0, 1) := by decide +kernel
theorem dX8_feed_1 : decode cX8_feed 1 = .ok (.getfield 34, 3) := by decide +kernel
theorem dX8_feed_4 : decode cX8_feed 4 = .ok (.getfield 201, 3) := by decide +kernel
theorem dX8_feed_7 : decode cX8_feed 7 = .ok (.bipush 12, 2) := by decide +kernel
theorem dX8_feed_9 : decode cX8_feed 9 = .ok (.iadd, 1) := by decide +kernel
theorem dX8_feed_10 : decode cX8_feed 10 = .ok (.bipush 96, 2) := by decide +kernel
theorem dX8_feed_12 : decode cX8_feed 12 = .ok (.if_icmp .le 6, 3) := by decide +kernel
theorem dX8_feed_15 : decode cX8_feed 15 = .ok (.ldc 172, 2) := by decide +kernel
theorem dX8_feed_17 : decode cX8_feed 17 = .ok (.ireturn, 1) := by decide +kernel
theorem dX8_feed_18 : decode cX8_feed 18 = .ok (.aload_n 0, 1) := by decide +kernel
theorem dX8_feed_19 : decode cX8_feed 19 = .ok (.getfield 34, 3) := by decide +kernel
theorem dX8_feed_22 : decode cX8_feed 22 = .ok (.iload_n 1, 1) := by decide +kernel
theorem dX8_feed_23 : decode cX8_feed 23 = .ok (.invokevirtual 204, 3) := by decide +kernel
theorem dX8_feed_26 : decode cX8_feed 26 = .ok (.aload_n 0, 1) := by decide +kernel
theorem dX8_feed_27 : decode cX8_feed 27 = .ok (.getfield 34, 3) := by decide +kernel
theorem dX8_feed_30 : decode cX8_feed 30 = .ok (.iload_n 2, 1) := by decide +kernel
theorem dX8_feed_31 : decode cX8_feed 31 = .ok (.invokevirtual 204, 3) := by decide +kernel
theorem dX8_feed_34 : decode cX8_feed 34 = .ok (.aload_n 0, 1) := by decide +kernel
theorem dX8_feed_35 : decode cX8_feed 35 = .ok (.getfield 34, 3) := by decide +kernel
theorem dX8_feed_38 : decode cX8_feed 38 = .ok (.iload_n 3, 1) := by decide +kernel
theorem dX8_feed_39 : decode cX8_feed 39 = .ok (.invokevirtual 204, 3) := by decide +kernel
theorem dX8_feed_42 : decode cX8_feed 42 = .ok (.aload_n 0, 1) := by decide +kernel
theorem dX8_feed_43 : decode cX8_feed 43 = .ok (.getfield 34, 3) := by decide +kernel
theorem dX8_feed_46 : decode cX8_feed 46 = .ok (.getfield 201, 3) := by decide +kernel
theorem dX8_feed_49 : decode cX8_feed 49 = .ok (.ireturn, 1) := by decide +kernel
theorem dX8_trim_0 : decode cX8_trim 0 = .ok (.iload_n 1, 1) := by decide +kernel
theorem dX8_trim_1 : decode cX8_trim 1 = .ok (.iconst 0, 1) := by decide +kernel
theorem dX8_trim_2 : decode cX8_trim 2 = .ok (.aload_n 0, 1) := by decide +kernel
theorem dX8_trim_3 : decode cX8_trim 3 = .ok (.getfield 34, 3) := by decide +kernel
theorem dX8_trim_6 : decode cX8_trim 6 = .ok (.getfield 201, 3) := by decide +kernel
theorem dX8_trim_9 : decode cX8_trim 9 = .ok (.invokestatic 72, 3) := by decide +kernel
theorem dX8_trim_12 : decode cX8_trim 12 = .ok (.ifCond .ne 6, 3) := by decide +kernel
theorem dX8_trim_15 : decode cX8_trim 15 = .ok (.ldc 76, 2) := by decide +kernel
theorem dX8_trim_17 : decode cX8_trim 17 = .ok (.ireturn, 1) := by decide +kernel
theorem dX8_trim_18 : decode cX8_trim 18 = .ok (.aload_n 0, 1) := by decide +kernel
theorem dX8_trim_19 : decode cX8_trim 19 = .ok (.getfield 34, 3) := by decide +kernel
theorem dX8_trim_22 : decode cX8_trim 22 = .ok (.iload_n 1, 1) := by decide +kernel
theorem dX8_trim_23 : decode cX8_trim 23 = .ok (.putfield 201, 3) := by decide +kernel
theorem dX8_trim_26 : decode cX8_trim 26 = .ok (.iload_n 1, 1) := by decide +kernel
theorem dX8_trim_27 : decode cX8_trim 27 = .ok (.ireturn, 1) := by decide +kernel
theorem dX8_text_0 : decode cX8_text 0 = .ok (.aload_n 0, 1) := by decide +kernel
theorem dX8_text_1 : decode cX8_text 1 = .ok (.getfield 43, 3) := by decide +kernel
theorem dX8_text_4 : decode cX8_text 4 = .ok (.invokevirtual 208, 3) := by decide +kernel
theorem dX8_text_7 : decode cX8_text 7 = .ok (.istore_n 1, 1) := by decide +kernel
theorem dX8_text_8 : decode cX8_text 8 = .ok (.aload_n 0, 1) := by decide +kernel
theorem dX8_text_9 : decode cX8_text 9 = .ok (.getfield 34, 3) := by decide +kernel
theorem dX8_text_12 : decode cX8_text 12 = .ok (.iconst 0, 1) := by decide +kernel
theorem dX8_text_13 : decode cX8_text 13 = .ok (.putfield 201, 3) := by decide +kernel
theorem dX8_text_16 : decode cX8_text 16 = .ok (.iload_n 1, 1) := by decide +kernel
theorem dX8_text_17 : decode cX8_text 17 = .ok (.ldc 118, 2) := by decide +kernel
theorem dX8_text_19 : decode cX8_text 19 = .ok (.if_icmp .eq 8, 3) := by decide +kernel
theorem dX8_text_22 : decode cX8_text 22 = .ok (.bipush (-100), 2) := by decide +kernel
theorem dX8_text_24 : decode cX8_text 24 = .ok (.iload_n 1, 1) := by decide +kernel
theorem dX8_text_25 : decode cX8_text 25 = .ok (.isub, 1) := by decide +kernel
theorem dX8_text_26 : decode cX8_text 26 = .ok (.ireturn, 1) := by decide +kernel
theorem dX8_text_27 : decode cX8_text 27 = .ok (.aload_n 0, 1) := by decide +kernel
theorem dX8_text_28 : decode cX8_text 28 = .ok (.getfield 21, 3) := by decide +kernel
theorem dX8_text_31 : decode cX8_text 31 = .ok (.getfield 211, 3) := by decide +kernel
theorem dX8_text_34 : decode cX8_text 34 = .ok (.bipush 14, 2) := by decide +kernel
theorem dX8_text_36 : decode cX8_text 36 = .ok (.if_icmp .lt 6, 3) := by decide +kernel
theorem dX8_text_39 : decode cX8_text 39 = .ok (.ldc 172, 2) := by decide +kernel
theorem dX8_text_41 : decode cX8_text 41 = .ok (.ireturn, 1) := by decide +kernel
theorem dX8_text_42 : decode cX8_text 42 = .ok (.aload_n 0, 1) := by decide +kernel
theorem dX8_text_43 : decode cX8_text 43 = .ok (.getfield 21, 3) := by decide +kernel
theorem dX8_text_46 : decode cX8_text 46 = .ok (.getfield 211, 3) := by decide +kernel
theorem dX8_text_49 : decode cX8_text 49 = .ok (.istore_n 2, 1) := by decide +kernel
theorem dX8_text_50 : decode cX8_text 50 = .ok (.aload_n 0, 1) := by decide +kernel
theorem dX8_text_51 : decode cX8_text 51 = .ok (.getfield 10, 3) := by decide +kernel
theorem dX8_text_54 : decode cX8_text 54 = .ok (.iload_n 2, 1) := by decide +kernel
theorem dX8_text_55 : decode cX8_text 55 = .ok (.aload_n 0, 1) := by decide +kernel
theorem dX8_text_56 : decode cX8_text 56 = .ok (.getfield 43, 3) := by decide +kernel
theorem dX8_text_59 : decode cX8_text 59 = .ok (.invokevirtual 214, 3) := by decide +kernel
theorem dX8_text_62 : decode cX8_text 62 = .ok (.aload_n 0, 1) := by decide +kernel
theorem dX8_text_63 : decode cX8_text 63 = .ok (.getfield 21, 3) := by decide +kernel
theorem dX8_text_66 : decode cX8_text 66 = .ok (.iload_n 2, 1) := by decide +kernel
theorem dX8_text_67 : decode cX8_text 67 = .ok (.iconst 1, 1) := by decide +kernel
theorem dX8_text_68 : decode cX8_text 68 = .ok (.iadd, 1) := by decide +kernel
theorem dX8_text_69 : decode cX8_text 69 = .ok (.putfield 211, 3) := by decide +kernel
theorem dX8_text_72 : decode cX8_text 72 = .ok (.iload_n 2, 1) := by decide +kernel
theorem dX8_text_73 : decode cX8_text 73 = .ok (.ireturn, 1) := by decide +kernel
theorem dX8_textTold_0 : decode cX8_textTold 0 = .ok (.iload_n 1, 1) := by decide +kernel
theorem dX8_textTold_1 : decode cX8_textTold 1 = .ok (.iconst 0, 1) := by decide +kernel
theorem dX8_textTold_2 : decode cX8_textTold 2 = .ok (.aload_n 0, 1) := by decide +kernel
theorem dX8_textTold_3 : decode cX8_textTold 3 = .ok (.getfield 21, 3) := by decide +kernel
theorem dX8_textTold_6 : decode cX8_textTold 6 = .ok (.getfield 211, 3) := by decide +kernel
theorem dX8_textTold_9 : decode cX8_textTold 9 = .ok (.iconst 1, 1) := by decide +kernel
theorem dX8_textTold_10 : decode cX8_textTold 10 = .ok (.isub, 1) := by decide +kernel
theorem dX8_textTold_11 : decode cX8_textTold 11 = .ok (.invokestatic 72, 3) := by decide +kernel
theorem dX8_textTold_14 : decode cX8_textTold 14 = .ok (.ifCond .ne 6, 3) := by decide +kernel
theorem dX8_textTold_17 : decode cX8_textTold 17 = .ok (.ldc 76, 2) := by decide +kernel
theorem dX8_textTold_19 : decode cX8_textTold 19 = .ok (.ireturn, 1) := by decide +kernel
theorem dX8_textTold_20 : decode cX8_textTold 20 = .ok (.iload_n 2, 1) := by decide +kernel
theorem dX8_textTold_21 : decode cX8_textTold 21 = .ok (.lookupswitch 47 #[(0, 27), (1, 37)], 27) := by decide +kernel
theorem dX8_textTold_48 : decode cX8_textTold 48 = .ok (.aload_n 0, 1) := by decide +kernel
theorem dX8_textTold_49 : decode cX8_textTold 49 = .ok (.getfield 10, 3) := by decide +kernel
theorem dX8_textTold_52 : decode cX8_textTold 52 = .ok (.getfield 218, 3) := by decide +kernel
theorem dX8_textTold_55 : decode cX8_textTold 55 = .ok (.iload_n 1, 1) := by decide +kernel
theorem dX8_textTold_56 : decode cX8_textTold 56 = .ok (.iaload, 1) := by decide +kernel
theorem dX8_textTold_57 : decode cX8_textTold 57 = .ok (.ireturn, 1) := by decide +kernel
theorem dX8_textTold_58 : decode cX8_textTold 58 = .ok (.aload_n 0, 1) := by decide +kernel
theorem dX8_textTold_59 : decode cX8_textTold 59 = .ok (.getfield 10, 3) := by decide +kernel
theorem dX8_textTold_62 : decode cX8_textTold 62 = .ok (.getfield 221, 3) := by decide +kernel
theorem dX8_textTold_65 : decode cX8_textTold 65 = .ok (.iload_n 1, 1) := by decide +kernel
theorem dX8_textTold_66 : decode cX8_textTold 66 = .ok (.iaload, 1) := by decide +kernel
theorem dX8_textTold_67 : decode cX8_textTold 67 = .ok (.ireturn, 1) := by decide +kernel
theorem dX8_textTold_68 : decode cX8_textTold 68 = .ok (.ldc 76, 2) := by decide +kernel
theorem dX8_textTold_70 : decode cX8_textTold 70 = .ok (.ireturn, 1) := by decide +kernel
theorem dX8_why_0 : decode cX8_why 0 = .ok (.iload_n 1, 1) := by decide +kernel
theorem dX8_why_1 : decode cX8_why 1 = .ok (.iconst 0, 1) := by decide +kernel
theorem dX8_why_2 : decode cX8_why 2 = .ok (.iconst 2, 1) := by decide +kernel
theorem dX8_why_3 : decode cX8_why 3 = .ok (.invokestatic 72, 3) := by decide +kernel
theorem dX8_why_6 : decode cX8_why 6 = .ok (.ifCond .eq 21, 3) := by decide +kernel
theorem dX8_why_9 : decode cX8_why 9 = .ok (.aload_n 0, 1) := by decide +kernel
theorem dX8_why_10 : decode cX8_why 10 = .ok (.getfield 10, 3) := by decide +kernel
theorem dX8_why_13 : decode cX8_why 13 = .ok (.iload_n 1, 1) := by decide +kernel
theorem dX8_why_14 : decode cX8_why 14 = .ok (.aload_n 0, 1) := by decide +kernel
theorem dX8_why_15 : decode cX8_why 15 = .ok (.getfield 21, 3) := by decide +kernel
theorem dX8_why_18 : decode cX8_why 18 = .ok (.getfield 211, 3) := by decide +kernel
theorem dX8_why_21 : decode cX8_why 21 = .ok (.invokevirtual 224, 3) := by decide +kernel
theorem dX8_why_24 : decode cX8_why 24 = .ok (.goto 5, 3) := by decide +kernel
theorem dX8_why_27 : decode cX8_why 27 = .ok (.ldc 76, 2) := by decide +kernel
theorem dX8_why_29 : decode cX8_why 29 = .ok (.ireturn, 1) := by decide +kernel
theorem dX8_sheet_0 : decode cX8_sheet 0 = .ok (.iload_n 1, 1) := by decide +kernel
theorem dX8_sheet_1 : decode cX8_sheet 1 = .ok (.invokestatic 227, 3) := by decide +kernel
theorem dX8_sheet_4 : decode cX8_sheet 4 = .ok (.ifCond .eq 12, 3) := by decide +kernel
theorem dX8_sheet_7 : decode cX8_sheet 7 = .ok (.iload_n 2, 1) := by decide +kernel
theorem dX8_sheet_8 : decode cX8_sheet 8 = .ok (.iconst (-1), 1) := by decide +kernel
theorem dX8_sheet_9 : decode cX8_sheet 9 = .ok (.iconst 1, 1) := by decide +kernel
theorem dX8_sheet_10 : decode cX8_sheet 10 = .ok (.invokestatic 72, 3) := by decide +kernel
theorem dX8_sheet_13 : decode cX8_sheet 13 = .ok (.ifCond .ne 6, 3) := by decide +kernel
theorem dX8_sheet_16 : decode cX8_sheet 16 = .ok (.ldc 76, 2) := by decide +kernel
theorem dX8_sheet_18 : decode cX8_sheet 18 = .ok (.ireturn, 1) := by decide +kernel
theorem dX8_sheet_19 : decode cX8_sheet 19 = .ok (.iload_n 2, 1) := by decide +kernel
theorem dX8_sheet_20 : decode cX8_sheet 20 = .ok (.iconst (-1), 1) := by decide +kernel
theorem dX8_sheet_21 : decode cX8_sheet 21 = .ok (.if_icmp .ne 16, 3) := by decide +kernel
theorem dX8_sheet_24 : decode cX8_sheet 24 = .ok (.aload_n 0, 1) := by decide +kernel
theorem dX8_sheet_25 : decode cX8_sheet 25 = .ok (.getfield 49, 3) := by decide +kernel
theorem dX8_sheet_28 : decode cX8_sheet 28 = .ok (.iload_n 1, 1) := by decide +kernel
theorem dX8_sheet_29 : decode cX8_sheet 29 = .ok (.aaload, 1) := by decide +kernel
theorem dX8_sheet_30 : decode cX8_sheet 30 = .ok (.iconst (-1), 1) := by decide +kernel
theorem dX8_sheet_31 : decode cX8_sheet 31 = .ok (.iconst 0, 1) := by decide +kernel
theorem dX8_sheet_32 : decode cX8_sheet 32 = .ok (.invokevirtual 230, 3) := by decide +kernel
theorem dX8_sheet_35 : decode cX8_sheet 35 = .ok (.iconst 0, 1) := by decide +kernel
theorem dX8_sheet_36 : decode cX8_sheet 36 = .ok (.ireturn, 1) := by decide +kernel
theorem dX8_sheet_37 : decode cX8_sheet 37 = .ok (.iload_n 3, 1) := by decide +kernel
theorem dX8_sheet_38 : decode cX8_sheet 38 = .ok (.bipush 24, 2) := by decide +kernel
theorem dX8_sheet_40 : decode cX8_sheet 40 = .ok (.if_icmp .le 6, 3) := by decide +kernel
theorem dX8_sheet_43 : decode cX8_sheet 43 = .ok (.ldc 76, 2) := by decide +kernel
theorem dX8_sheet_45 : decode cX8_sheet 45 = .ok (.ireturn, 1) := by decide +kernel
theorem dX8_sheet_46 : decode cX8_sheet 46 = .ok (.iload_n 3, 1) := by decide +kernel
theorem dX8_sheet_47 : decode cX8_sheet 47 = .ok (.ifCond .ge 6, 3) := by decide +kernel
theorem dX8_sheet_50 : decode cX8_sheet 50 = .ok (.ldc 234, 2) := by decide +kernel
theorem dX8_sheet_52 : decode cX8_sheet 52 = .ok (.ireturn, 1) := by decide +kernel
theorem dX8_sheet_53 : decode cX8_sheet 53 = .ok (.aload_n 0, 1) := by decide +kernel
theorem dX8_sheet_54 : decode cX8_sheet 54 = .ok (.getfield 49, 3) := by decide +kernel
theorem dX8_sheet_57 : decode cX8_sheet 57 = .ok (.iload_n 1, 1) := by decide +kernel
theorem dX8_sheet_58 : decode cX8_sheet 58 = .ok (.aaload, 1) := by decide +kernel
theorem dX8_sheet_59 : decode cX8_sheet 59 = .ok (.iload_n 2, 1) := by decide +kernel
theorem dX8_sheet_60 : decode cX8_sheet 60 = .ok (.iload_n 3, 1) := by decide +kernel
theorem dX8_sheet_61 : decode cX8_sheet 61 = .ok (.invokevirtual 230, 3) := by decide +kernel
theorem dX8_sheet_64 : decode cX8_sheet 64 = .ok (.iload_n 3, 1) := by decide +kernel
theorem dX8_sheet_65 : decode cX8_sheet 65 = .ok (.ireturn, 1) := by decide +kernel
theorem dX8_mark_0 : decode cX8_mark 0 = .ok (.iload_n 1, 1) := by decide +kernel
theorem dX8_mark_1 : decode cX8_mark 1 = .ok (.invokestatic 227, 3) := by decide +kernel
theorem dX8_mark_4 : decode cX8_mark 4 = .ok (.ifCond .ne 6, 3) := by decide +kernel
theorem dX8_mark_7 : decode cX8_mark 7 = .ok (.ldc 76, 2) := by decide +kernel
theorem dX8_mark_9 : decode cX8_mark 9 = .ok (.ireturn, 1) := by decide +kernel
theorem dX8_mark_10 : decode cX8_mark 10 = .ok (.aload_n 0, 1) := by decide +kernel
theorem dX8_mark_11 : decode cX8_mark 11 = .ok (.getfield 49, 3) := by decide +kernel
theorem dX8_mark_14 : decode cX8_mark 14 = .ok (.iload_n 1, 1) := by decide +kernel
theorem dX8_mark_15 : decode cX8_mark 15 = .ok (.aaload, 1) := by decide +kernel
theorem dX8_mark_16 : decode cX8_mark 16 = .ok (.astore 4, 2) := by decide +kernel
theorem dX8_mark_18 : decode cX8_mark 18 = .ok (.aload 4, 2) := by decide +kernel
theorem dX8_mark_20 : decode cX8_mark 20 = .ok (.getfield 235, 3) := by decide +kernel
theorem dX8_mark_23 : decode cX8_mark 23 = .ok (.iconst (-1), 1) := by decide +kernel
theorem dX8_mark_24 : decode cX8_mark 24 = .ok (.if_icmp .ne 6, 3) := by decide +kernel
theorem dX8_mark_27 : decode cX8_mark 27 = .ok (.ldc 238, 2) := by decide +kernel
theorem dX8_mark_29 : decode cX8_mark 29 = .ok (.ireturn, 1) := by decide +kernel
theorem dX8_mark_30 : decode cX8_mark 30 = .ok (.aload 4, 2) := by decide +kernel
theorem dX8_mark_32 : decode cX8_mark 32 = .ok (.iload_n 2, 1) := by decide +kernel
theorem dX8_mark_33 : decode cX8_mark 33 = .ok (.invokevirtual 239, 3) := by decide +kernel
theorem dX8_mark_36 : decode cX8_mark 36 = .ok (.ifCond .ne 6, 3) := by decide +kernel
theorem dX8_mark_39 : decode cX8_mark 39 = .ok (.ldc 242, 2) := by decide +kernel
theorem dX8_mark_41 : decode cX8_mark 41 = .ok (.ireturn, 1) := by decide +kernel
theorem dX8_mark_42 : decode cX8_mark 42 = .ok (.aload 4, 2) := by decide +kernel
theorem dX8_mark_44 : decode cX8_mark 44 = .ok (.getfield 235, 3) := by decide +kernel
theorem dX8_mark_47 : decode cX8_mark 47 = .ok (.ifCond .ne 23, 3) := by decide +kernel
theorem dX8_mark_50 : decode cX8_mark 50 = .ok (.iload_n 3, 1) := by decide +kernel
theorem dX8_mark_51 : decode cX8_mark 51 = .ok (.ldc 118, 2) := by decide +kernel
theorem dX8_mark_53 : decode cX8_mark 53 = .ok (.if_icmp .ne 6, 3) := by decide +kernel
theorem dX8_mark_56 : decode cX8_mark 56 = .ok (.ldc 117, 2) := by decide +kernel
theorem dX8_mark_58 : decode cX8_mark 58 = .ok (.ireturn, 1) := by decide +kernel
theorem dX8_mark_59 : decode cX8_mark 59 = .ok (.aload 4, 2) := by decide +kernel
theorem dX8_mark_61 : decode cX8_mark 61 = .ok (.getfield 243, 3) := by decide +kernel
theorem dX8_mark_64 : decode cX8_mark 64 = .ok (.iload_n 2, 1) := by decide +kernel
theorem dX8_mark_65 : decode cX8_mark 65 = .ok (.iload_n 3, 1) := by decide +kernel
theorem dX8_mark_66 : decode cX8_mark 66 = .ok (.i2s, 1) := by decide +kernel
theorem dX8_mark_67 : decode cX8_mark 67 = .ok (.iastore, 1) := by decide +kernel
theorem dX8_mark_68 : decode cX8_mark 68 = .ok (.iconst 1, 1) := by decide +kernel
theorem dX8_mark_69 : decode cX8_mark 69 = .ok (.ireturn, 1) := by decide +kernel
theorem dX8_mark_70 : decode cX8_mark 70 = .ok (.iload_n 3, 1) := by decide +kernel
theorem dX8_mark_71 : decode cX8_mark 71 = .ok (.ldc 118, 2) := by decide +kernel
theorem dX8_mark_73 : decode cX8_mark 73 = .ok (.if_icmp .eq 17, 3) := by decide +kernel
theorem dX8_mark_76 : decode cX8_mark 76 = .ok (.iload_n 3, 1) := by decide +kernel
theorem dX8_mark_77 : decode cX8_mark 77 = .ok (.ldc 246, 2) := by decide +kernel
theorem dX8_mark_79 : decode cX8_mark 79 = .ok (.ldc 247, 2) := by decide +kernel
theorem dX8_mark_81 : decode cX8_mark 81 = .ok (.invokestatic 72, 3) := by decide +kernel
theorem dX8_mark_84 : decode cX8_mark 84 = .ok (.ifCond .ne 6, 3) := by decide +kernel
theorem dX8_mark_87 : decode cX8_mark 87 = .ok (.ldc 76, 2) := by decide +kernel
theorem dX8_mark_89 : decode cX8_mark 89 = .ok (.ireturn, 1) := by decide +kernel
theorem dX8_mark_90 : decode cX8_mark 90 = .ok (.aload 4, 2) := by decide +kernel
theorem dX8_mark_92 : decode cX8_mark 92 = .ok (.getfield 243, 3) := by decide +kernel
theorem dX8_mark_95 : decode cX8_mark 95 = .ok (.iload_n 2, 1) := by decide +kernel
theorem dX8_mark_96 : decode cX8_mark 96 = .ok (.iload_n 3, 1) := by decide +kernel
theorem dX8_mark_97 : decode cX8_mark 97 = .ok (.iastore, 1) := by decide +kernel
theorem dX8_mark_98 : decode cX8_mark 98 = .ok (.iconst 1, 1) := by decide +kernel
theorem dX8_mark_99 : decode cX8_mark 99 = .ok (.ireturn, 1) := by decide +kernel
theorem dX8_pour_0 : decode cX8_pour 0 = .ok (.iload_n 1, 1) := by decide +kernel
theorem dX8_pour_1 : decode cX8_pour 1 = .ok (.invokestatic 227, 3) := by decide +kernel
theorem dX8_pour_4 : decode cX8_pour 4 = .ok (.ifCond .eq 12, 3) := by decide +kernel
theorem dX8_pour_7 : decode cX8_pour 7 = .ok (.iload_n 2, 1) := by decide +kernel
theorem dX8_pour_8 : decode cX8_pour 8 = .ok (.iconst 0, 1) := by decide +kernel
theorem dX8_pour_9 : decode cX8_pour 9 = .ok (.iconst 4, 1) := by decide +kernel
theorem dX8_pour_10 : decode cX8_pour 10 = .ok (.invokestatic 72, 3) := by decide +kernel
theorem dX8_pour_13 : decode cX8_pour 13 = .ok (.ifCond .ne 6, 3) := by decide +kernel
theorem dX8_pour_16 : decode cX8_pour 16 = .ok (.ldc 76, 2) := by decide +kernel
theorem dX8_pour_18 : decode cX8_pour 18 = .ok (.ireturn, 1) := by decide +kernel
theorem dX8_pour_19 : decode cX8_pour 19 = .ok (.aload_n 0, 1) := by decide +kernel
theorem dX8_pour_20 : decode cX8_pour 20 = .ok (.getfield 49, 3) := by decide +kernel
theorem dX8_pour_23 : decode cX8_pour 23 = .ok (.iload_n 1, 1) := by decide +kernel
theorem dX8_pour_24 : decode cX8_pour 24 = .ok (.aaload, 1) := by decide +kernel
theorem dX8_pour_25 : decode cX8_pour 25 = .ok (.astore_n 3, 1) := by decide +kernel
theorem dX8_pour_26 : decode cX8_pour 26 = .ok (.aload_n 3, 1) := by decide +kernel
theorem dX8_pour_27 : decode cX8_pour 27 = .ok (.getfield 235, 3) := by decide +kernel
theorem dX8_pour_30 : decode cX8_pour 30 = .ok (.iconst (-1), 1) := by decide +kernel
theorem dX8_pour_31 : decode cX8_pour 31 = .ok (.if_icmp .ne 8, 3) := by decide +kernel
theorem dX8_pour_34 : decode cX8_pour 34 = .ok (.ldc 238, 2) := by decide +kernel
theorem dX8_pour_36 : decode cX8_pour 36 = .ok (.goto 12, 3) := by decide +kernel
theorem dX8_pour_39 : decode cX8_pour 39 = .ok (.aload_n 0, 1) := by decide +kernel
theorem dX8_pour_40 : decode cX8_pour 40 = .ok (.getfield 21, 3) := by decide +kernel
theorem dX8_pour_43 : decode cX8_pour 43 = .ok (.iload_n 2, 1) := by decide +kernel
theorem dX8_pour_44 : decode cX8_pour 44 = .ok (.aload_n 3, 1) := by decide +kernel
theorem dX8_pour_45 : decode cX8_pour 45 = .ok (.invokevirtual 248, 3) := by decide +kernel
theorem dX8_pour_48 : decode cX8_pour 48 = .ok (.ireturn, 1) := by decide +kernel
theorem dX8_reads_0 : decode cX8_reads 0 = .ok (.iload_n 1, 1) := by decide +kernel
theorem dX8_reads_1 : decode cX8_reads 1 = .ok (.invokestatic 227, 3) := by decide +kernel
theorem dX8_reads_4 : decode cX8_reads 4 = .ok (.ifCond .ne 6, 3) := by decide +kernel
theorem dX8_reads_7 : decode cX8_reads 7 = .ok (.ldc 76, 2) := by decide +kernel
theorem dX8_reads_9 : decode cX8_reads 9 = .ok (.ireturn, 1) := by decide +kernel
theorem dX8_reads_10 : decode cX8_reads 10 = .ok (.aload_n 0, 1) := by decide +kernel
theorem dX8_reads_11 : decode cX8_reads 11 = .ok (.getfield 49, 3) := by decide +kernel
theorem dX8_reads_14 : decode cX8_reads 14 = .ok (.iload_n 1, 1) := by decide +kernel
theorem dX8_reads_15 : decode cX8_reads 15 = .ok (.aaload, 1) := by decide +kernel
theorem dX8_reads_16 : decode cX8_reads 16 = .ok (.astore_n 2, 1) := by decide +kernel
theorem dX8_reads_17 : decode cX8_reads 17 = .ok (.aload_n 2, 1) := by decide +kernel
theorem dX8_reads_18 : decode cX8_reads 18 = .ok (.getfield 235, 3) := by decide +kernel
theorem dX8_reads_21 : decode cX8_reads 21 = .ok (.iconst (-1), 1) := by decide +kernel
theorem dX8_reads_22 : decode cX8_reads 22 = .ok (.if_icmp .ne 8, 3) := by decide +kernel
theorem dX8_reads_25 : decode cX8_reads 25 = .ok (.ldc 238, 2) := by decide +kernel
theorem dX8_reads_27 : decode cX8_reads 27 = .ok (.goto 11, 3) := by decide +kernel
theorem dX8_reads_30 : decode cX8_reads 30 = .ok (.aload_n 0, 1) := by decide +kernel
theorem dX8_reads_31 : decode cX8_reads 31 = .ok (.getfield 21, 3) := by decide +kernel
theorem dX8_reads_34 : decode cX8_reads 34 = .ok (.aload_n 2, 1) := by decide +kernel
theorem dX8_reads_35 : decode cX8_reads 35 = .ok (.invokevirtual 252, 3) := by decide +kernel
theorem dX8_reads_38 : decode cX8_reads 38 = .ok (.ireturn, 1) := by decide +kernel
theorem dX8_copy_0 : decode cX8_copy 0 = .ok (.iload_n 1, 1) := by decide +kernel
theorem dX8_copy_1 : decode cX8_copy 1 = .ok (.invokestatic 227, 3) := by decide +kernel
theorem dX8_copy_4 : decode cX8_copy 4 = .ok (.ifCond .eq 10, 3) := by decide +kernel
theorem dX8_copy_7 : decode cX8_copy 7 = .ok (.iload_n 3, 1) := by decide +kernel
theorem dX8_copy_8 : decode cX8_copy 8 = .ok (.invokestatic 227, 3) := by decide +kernel
theorem dX8_copy_11 : decode cX8_copy 11 = .ok (.ifCond .ne 6, 3) := by decide +kernel
theorem dX8_copy_14 : decode cX8_copy 14 = .ok (.ldc 76, 2) := by decide +kernel
theorem dX8_copy_16 : decode cX8_copy 16 = .ok (.ireturn, 1) := by decide +kernel
theorem dX8_copy_17 : decode cX8_copy 17 = .ok (.aload_n 0, 1) := by decide +kernel
theorem dX8_copy_18 : decode cX8_copy 18 = .ok (.getfield 49, 3) := by decide +kernel
theorem dX8_copy_21 : decode cX8_copy 21 = .ok (.iload_n 1, 1) := by decide +kernel
theorem dX8_copy_22 : decode cX8_copy 22 = .ok (.aaload, 1) := by decide +kernel
theorem dX8_copy_23 : decode cX8_copy 23 = .ok (.astore 6, 2) := by decide +kernel
theorem dX8_copy_25 : decode cX8_copy 25 = .ok (.aload_n 0, 1) := by decide +kernel
theorem dX8_copy_26 : decode cX8_copy 26 = .ok (.getfield 49, 3) := by decide +kernel
theorem dX8_copy_29 : decode cX8_copy 29 = .ok (.iload_n 3, 1) := by decide +kernel
theorem dX8_copy_30 : decode cX8_copy 30 = .ok (.aaload, 1) := by decide +kernel
theorem dX8_copy_31 : decode cX8_copy 31 = .ok (.astore 7, 2) := by decide +kernel
theorem dX8_copy_33 : decode cX8_copy 33 = .ok (.aload 6, 2) := by decide +kernel
theorem dX8_copy_35 : decode cX8_copy 35 = .ok (.getfield 235, 3) := by decide +kernel
theorem dX8_copy_38 : decode cX8_copy 38 = .ok (.iconst (-1), 1) := by decide +kernel
theorem dX8_copy_39 : decode cX8_copy 39 = .ok (.if_icmp .eq 12, 3) := by decide +kernel
theorem dX8_copy_42 : decode cX8_copy 42 = .ok (.aload 7, 2) := by decide +kernel
theorem dX8_copy_44 : decode cX8_copy 44 = .ok (.getfield 235, 3) := by decide +kernel
theorem dX8_copy_47 : decode cX8_copy 47 = .ok (.iconst (-1), 1) := by decide +kernel
theorem dX8_copy_48 : decode cX8_copy 48 = .ok (.if_icmp .ne 6, 3) := by decide +kernel
theorem dX8_copy_51 : decode cX8_copy 51 = .ok (.ldc 238, 2) := by decide +kernel
theorem dX8_copy_53 : decode cX8_copy 53 = .ok (.ireturn, 1) := by decide +kernel
theorem dX8_copy_54 : decode cX8_copy 54 = .ok (.aload 6, 2) := by decide +kernel
theorem dX8_copy_56 : decode cX8_copy 56 = .ok (.getfield 235, 3) := by decide +kernel
theorem dX8_copy_59 : decode cX8_copy 59 = .ok (.aload 7, 2) := by decide +kernel
theorem dX8_copy_61 : decode cX8_copy 61 = .ok (.getfield 235, 3) := by decide +kernel
theorem dX8_copy_64 : decode cX8_copy 64 = .ok (.if_icmp .eq 6, 3) := by decide +kernel
theorem dX8_copy_67 : decode cX8_copy 67 = .ok (.ldc 117, 2) := by decide +kernel
theorem dX8_copy_69 : decode cX8_copy 69 = .ok (.ireturn, 1) := by decide +kernel
theorem dX8_copy_70 : decode cX8_copy 70 = .ok (.aload 6, 2) := by decide +kernel
theorem dX8_copy_72 : decode cX8_copy 72 = .ok (.iload_n 2, 1) := by decide +kernel
theorem dX8_copy_73 : decode cX8_copy 73 = .ok (.iload 5, 2) := by decide +kernel
theorem dX8_copy_75 : decode cX8_copy 75 = .ok (.invokevirtual 256, 3) := by decide +kernel
theorem dX8_copy_78 : decode cX8_copy 78 = .ok (.ifCond .eq 15, 3) := by decide +kernel
theorem dX8_copy_81 : decode cX8_copy 81 = .ok (.aload 7, 2) := by decide +kernel
theorem dX8_copy_83 : decode cX8_copy 83 = .ok (.iload 4, 2) := by decide +kernel
theorem dX8_copy_85 : decode cX8_copy 85 = .ok (.iload 5, 2) := by decide +kernel
theorem dX8_copy_87 : decode cX8_copy 87 = .ok (.invokevirtual 256, 3) := by decide +kernel
theorem dX8_copy_90 : decode cX8_copy 90 = .ok (.ifCond .ne 6, 3) := by decide +kernel
theorem dX8_copy_93 : decode cX8_copy 93 = .ok (.ldc 242, 2) := by decide +kernel
theorem dX8_copy_95 : decode cX8_copy 95 = .ok (.ireturn, 1) := by decide +kernel
theorem dX8_copy_96 : decode cX8_copy 96 = .ok (.aload 6, 2) := by decide +kernel
theorem dX8_copy_98 : decode cX8_copy 98 = .ok (.getfield 243, 3) := by decide +kernel
theorem dX8_copy_101 : decode cX8_copy 101 = .ok (.iload_n 2, 1) := by decide +kernel
theorem dX8_copy_102 : decode cX8_copy 102 = .ok (.aload 7, 2) := by decide +kernel
theorem dX8_copy_104 : decode cX8_copy 104 = .ok (.getfield 243, 3) := by decide +kernel
theorem dX8_copy_107 : decode cX8_copy 107 = .ok (.iload 4, 2) := by decide +kernel
theorem dX8_copy_109 : decode cX8_copy 109 = .ok (.iload 5, 2) := by decide +kernel
theorem dX8_copy_111 : decode cX8_copy 111 = .ok (.invokestatic 259, 3) := by decide +kernel
theorem dX8_copy_114 : decode cX8_copy 114 = .ok (.iload 5, 2) := by decide +kernel
theorem dX8_copy_116 : decode cX8_copy 116 = .ok (.ireturn, 1) := by decide +kernel
theorem dX8_lay_0 : decode cX8_lay 0 = .ok (.iload_n 1, 1) := by decide +kernel
theorem dX8_lay_1 : decode cX8_lay 1 = .ok (.invokestatic 265, 3) := by decide +kernel
theorem dX8_lay_4 : decode cX8_lay 4 = .ok (.ifCond .eq 12, 3) := by decide +kernel
theorem dX8_lay_7 : decode cX8_lay 7 = .ok (.iload_n 2, 1) := by decide +kernel
theorem dX8_lay_8 : decode cX8_lay 8 = .ok (.iconst 0, 1) := by decide +kernel
theorem dX8_lay_9 : decode cX8_lay 9 = .ok (.iconst 3, 1) := by decide +kernel
theorem dX8_lay_10 : decode cX8_lay 10 = .ok (.invokestatic 72, 3) := by decide +kernel
theorem dX8_lay_13 : decode cX8_lay 13 = .ok (.ifCond .ne 6, 3) := by decide +kernel
theorem dX8_lay_16 : decode cX8_lay 16 = .ok (.ldc 76, 2) := by decide +kernel
theorem dX8_lay_18 : decode cX8_lay 18 = .ok (.ireturn, 1) := by decide +kernel
theorem dX8_lay_19 : decode cX8_lay 19 = .ok (.iload_n 2, 1) := by decide +kernel
theorem dX8_lay_20 : decode cX8_lay 20 = .ok (.iconst 1, 1) := by decide +kernel
theorem dX8_lay_21 : decode cX8_lay 21 = .ok (.if_icmp .ne 10, 3) := by decide +kernel
theorem dX8_lay_24 : decode cX8_lay 24 = .ok (.iload_n 3, 1) := by decide +kernel
theorem dX8_lay_25 : decode cX8_lay 25 = .ok (.invokestatic 65, 3) := by decide +kernel
theorem dX8_lay_28 : decode cX8_lay 28 = .ok (.ifCond .eq 15, 3) := by decide +kernel
theorem dX8_lay_31 : decode cX8_lay 31 = .ok (.iload_n 2, 1) := by decide +kernel
theorem dX8_lay_32 : decode cX8_lay 32 = .ok (.iconst 2, 1) := by decide +kernel
theorem dX8_lay_33 : decode cX8_lay 33 = .ok (.if_icmp .ne 13, 3) := by decide +kernel
theorem dX8_lay_36 : decode cX8_lay 36 = .ok (.iload_n 3, 1) := by decide +kernel
theorem dX8_lay_37 : decode cX8_lay 37 = .ok (.invokestatic 227, 3) := by decide +kernel
theorem dX8_lay_40 : decode cX8_lay 40 = .ok (.ifCond .ne 6, 3) := by decide +kernel
theorem dX8_lay_43 : decode cX8_lay 43 = .ok (.ldc 76, 2) := by decide +kernel
theorem dX8_lay_45 : decode cX8_lay 45 = .ok (.ireturn, 1) := by decide +kernel
theorem dX8_lay_46 : decode cX8_lay 46 = .ok (.iload_n 2, 1) := by decide +kernel
theorem dX8_lay_47 : decode cX8_lay 47 = .ok (.iconst 2, 1) := by decide +kernel
theorem dX8_lay_48 : decode cX8_lay 48 = .ok (.if_icmp .ne 19, 3) := by decide +kernel
theorem dX8_lay_51 : decode cX8_lay 51 = .ok (.aload_n 0, 1) := by decide +kernel
theorem dX8_lay_52 : decode cX8_lay 52 = .ok (.getfield 49, 3) := by decide +kernel
theorem dX8_lay_55 : decode cX8_lay 55 = .ok (.iload_n 3, 1) := by decide +kernel
theorem dX8_lay_56 : decode cX8_lay 56 = .ok (.aaload, 1) := by decide +kernel
theorem dX8_lay_57 : decode cX8_lay 57 = .ok (.getfield 235, 3) := by decide +kernel
theorem dX8_lay_60 : decode cX8_lay 60 = .ok (.iconst (-1), 1) := by decide +kernel
theorem dX8_lay_61 : decode cX8_lay 61 = .ok (.if_icmp .ne 6, 3) := by decide +kernel
theorem dX8_lay_64 : decode cX8_lay 64 = .ok (.ldc 238, 2) := by decide +kernel
theorem dX8_lay_66 : decode cX8_lay 66 = .ok (.ireturn, 1) := by decide +kernel
theorem dX8_lay_67 : decode cX8_lay 67 = .ok (.aload_n 0, 1) := by decide +kernel
theorem dX8_lay_68 : decode cX8_lay 68 = .ok (.getfield 55, 3) := by decide +kernel
theorem dX8_lay_71 : decode cX8_lay 71 = .ok (.iload_n 1, 1) := by decide +kernel
theorem dX8_lay_72 : decode cX8_lay 72 = .ok (.aaload, 1) := by decide +kernel
theorem dX8_lay_73 : decode cX8_lay 73 = .ok (.astore 4, 2) := by decide +kernel
theorem dX8_lay_75 : decode cX8_lay 75 = .ok (.aload 4, 2) := by decide +kernel
theorem dX8_lay_77 : decode cX8_lay 77 = .ok (.getfield 268, 3) := by decide +kernel
theorem dX8_lay_80 : decode cX8_lay 80 = .ok (.istore 5, 2) := by decide +kernel
theorem dX8_lay_82 : decode cX8_lay 82 = .ok (.aload 4, 2) := by decide +kernel
theorem dX8_lay_84 : decode cX8_lay 84 = .ok (.iload_n 2, 1) := by decide +kernel
theorem dX8_lay_85 : decode cX8_lay 85 = .ok (.putfield 268, 3) := by decide +kernel
theorem dX8_lay_88 : decode cX8_lay 88 = .ok (.iload_n 2, 1) := by decide +kernel
theorem dX8_lay_89 : decode cX8_lay 89 = .ok (.iconst 1, 1) := by decide +kernel
theorem dX8_lay_90 : decode cX8_lay 90 = .ok (.if_icmp .ne 34, 3) := by decide +kernel
theorem dX8_lay_93 : decode cX8_lay 93 = .ok (.aload 4, 2) := by decide +kernel
theorem dX8_lay_95 : decode cX8_lay 95 = .ok (.aload_n 0, 1) := by decide +kernel
theorem dX8_lay_96 : decode cX8_lay 96 = .ok (.getfield 21, 3) := by decide +kernel
theorem dX8_lay_99 : decode cX8_lay 99 = .ok (.getfield 84, 3) := by decide +kernel
theorem dX8_lay_102 : decode cX8_lay 102 = .ok (.iload_n 3, 1) := by decide +kernel
theorem dX8_lay_103 : decode cX8_lay 103 = .ok (.iaload, 1) := by decide +kernel
theorem dX8_lay_104 : decode cX8_lay 104 = .ok (.putfield 271, 3) := by decide +kernel
theorem dX8_lay_107 : decode cX8_lay 107 = .ok (.aload 4, 2) := by decide +kernel
theorem dX8_lay_109 : decode cX8_lay 109 = .ok (.aload_n 0, 1) := by decide +kernel
theorem dX8_lay_110 : decode cX8_lay 110 = .ok (.getfield 21, 3) := by decide +kernel
theorem dX8_lay_113 : decode cX8_lay 113 = .ok (.getfield 77, 3) := by decide +kernel
theorem dX8_lay_116 : decode cX8_lay 116 = .ok (.iload_n 3, 1) := by decide +kernel
theorem dX8_lay_117 : decode cX8_lay 117 = .ok (.iaload, 1) := by decide +kernel
theorem dX8_lay_118 : decode cX8_lay 118 = .ok (.putfield 274, 3) := by decide +kernel
theorem dX8_lay_121 : decode cX8_lay 121 = .ok (.goto 36, 3) := by decide +kernel
theorem dX8_lay_124 : decode cX8_lay 124 = .ok (.iload_n 2, 1) := by decide +kernel
theorem dX8_lay_125 : decode cX8_lay 125 = .ok (.iconst 2, 1) := by decide +kernel
theorem dX8_lay_126 : decode cX8_lay 126 = .ok (.if_icmp .ne 20, 3) := by decide +kernel
theorem dX8_lay_129 : decode cX8_lay 129 = .ok (.aload 4, 2) := by decide +kernel
theorem dX8_lay_131 : decode cX8_lay 131 = .ok (.getfield 277, 3) := by decide +kernel
theorem dX8_lay_134 : decode cX8_lay 134 = .ok (.aload_n 0, 1) := by decide +kernel
theorem dX8_lay_135 : decode cX8_lay 135 = .ok (.getfield 49, 3) := by decide +kernel
theorem dX8_lay_138 : decode cX8_lay 138 = .ok (.iload_n 3, 1) := by decide +kernel
theorem dX8_lay_139 : decode cX8_lay 139 = .ok (.aaload, 1) := by decide +kernel
theorem dX8_lay_140 : decode cX8_lay 140 = .ok (.invokevirtual 281, 3) := by decide +kernel
theorem dX8_lay_143 : decode cX8_lay 143 = .ok (.goto 14, 3) := by decide +kernel
theorem dX8_lay_146 : decode cX8_lay 146 = .ok (.iload_n 2, 1) := by decide +kernel
theorem dX8_lay_147 : decode cX8_lay 147 = .ok (.iconst 3, 1) := by decide +kernel
theorem dX8_lay_148 : decode cX8_lay 148 = .ok (.if_icmp .ne 9, 3) := by decide +kernel
theorem dX8_lay_151 : decode cX8_lay 151 = .ok (.aload 4, 2) := by decide +kernel
theorem dX8_lay_153 : decode cX8_lay 153 = .ok (.iload_n 3, 1) := by decide +kernel
theorem dX8_lay_154 : decode cX8_lay 154 = .ok (.putfield 285, 3) := by decide +kernel
theorem dX8_lay_157 : decode cX8_lay 157 = .ok (.iload 5, 2) := by decide +kernel
theorem dX8_lay_159 : decode cX8_lay 159 = .ok (.ireturn, 1) := by decide +kernel
theorem dX8_ask_0 : decode cX8_ask 0 = .ok (.iload_n 1, 1) := by decide +kernel
theorem dX8_ask_1 : decode cX8_ask 1 = .ok (.invokestatic 265, 3) := by decide +kernel
theorem dX8_ask_4 : decode cX8_ask 4 = .ok (.ifCond .eq 10, 3) := by decide +kernel
theorem dX8_ask_7 : decode cX8_ask 7 = .ok (.iload_n 2, 1) := by decide +kernel
theorem dX8_ask_8 : decode cX8_ask 8 = .ok (.invokestatic 69, 3) := by decide +kernel
theorem dX8_ask_11 : decode cX8_ask 11 = .ok (.ifCond .ne 6, 3) := by decide +kernel
theorem dX8_ask_14 : decode cX8_ask 14 = .ok (.ldc 76, 2) := by decide +kernel
theorem dX8_ask_16 : decode cX8_ask 16 = .ok (.ireturn, 1) := by decide +kernel
theorem dX8_ask_17 : decode cX8_ask 17 = .ok (.aload_n 0, 1) := by decide +kernel
theorem dX8_ask_18 : decode cX8_ask 18 = .ok (.getfield 55, 3) := by decide +kernel
theorem dX8_ask_21 : decode cX8_ask 21 = .ok (.iload_n 1, 1) := by decide +kernel
theorem dX8_ask_22 : decode cX8_ask 22 = .ok (.aaload, 1) := by decide +kernel
theorem dX8_ask_23 : decode cX8_ask 23 = .ok (.astore_n 3, 1) := by decide +kernel
theorem dX8_ask_24 : decode cX8_ask 24 = .ok (.aload_n 3, 1) := by decide +kernel
theorem dX8_ask_25 : decode cX8_ask 25 = .ok (.iconst 1, 1) := by decide +kernel
theorem dX8_ask_26 : decode cX8_ask 26 = .ok (.invokevirtual 288, 3) := by decide +kernel
theorem dX8_ask_29 : decode cX8_ask 29 = .ok (.istore 4, 2) := by decide +kernel
theorem dX8_ask_31 : decode cX8_ask 31 = .ok (.iload 4, 2) := by decide +kernel
theorem dX8_ask_33 : decode cX8_ask 33 = .ok (.ldc 118, 2) := by decide +kernel
theorem dX8_ask_35 : decode cX8_ask 35 = .ok (.if_icmp .eq 6, 3) := by decide +kernel
theorem dX8_ask_38 : decode cX8_ask 38 = .ok (.iload 4, 2) := by decide +kernel
theorem dX8_ask_40 : decode cX8_ask 40 = .ok (.ireturn, 1) := by decide +kernel
theorem dX8_ask_41 : decode cX8_ask 41 = .ok (.aload_n 3, 1) := by decide +kernel
theorem dX8_ask_42 : decode cX8_ask 42 = .ok (.getfield 271, 3) := by decide +kernel
theorem dX8_ask_45 : decode cX8_ask 45 = .ok (.iload_n 2, 1) := by decide +kernel
theorem dX8_ask_46 : decode cX8_ask 46 = .ok (.invokestatic 114, 3) := by decide +kernel
theorem dX8_ask_49 : decode cX8_ask 49 = .ok (.ifCond .eq 17, 3) := by decide +kernel
theorem dX8_ask_52 : decode cX8_ask 52 = .ok (.aload_n 3, 1) := by decide +kernel
theorem dX8_ask_53 : decode cX8_ask 53 = .ok (.getfield 271, 3) := by decide +kernel
theorem dX8_ask_56 : decode cX8_ask 56 = .ok (.aload_n 3, 1) := by decide +kernel
theorem dX8_ask_57 : decode cX8_ask 57 = .ok (.getfield 274, 3) := by decide +kernel
theorem dX8_ask_60 : decode cX8_ask 60 = .ok (.invokestatic 94, 3) := by decide +kernel
theorem dX8_ask_63 : decode cX8_ask 63 = .ok (.goto 5, 3) := by decide +kernel
theorem dX8_ask_66 : decode cX8_ask 66 = .ok (.ldc 117, 2) := by decide +kernel
theorem dX8_ask_68 : decode cX8_ask 68 = .ok (.ireturn, 1) := by decide +kernel
theorem dX8_item_0 : decode cX8_item 0 = .ok (.iload_n 1, 1) := by decide +kernel
theorem dX8_item_1 : decode cX8_item 1 = .ok (.invokestatic 265, 3) := by decide +kernel
theorem dX8_item_4 : decode cX8_item 4 = .ok (.ifCond .ne 6, 3) := by decide +kernel
theorem dX8_item_7 : decode cX8_item 7 = .ok (.ldc 76, 2) := by decide +kernel
theorem dX8_item_9 : decode cX8_item 9 = .ok (.ireturn, 1) := by decide +kernel
theorem dX8_item_10 : decode cX8_item 10 = .ok (.aload_n 0, 1) := by decide +kernel
theorem dX8_item_11 : decode cX8_item 11 = .ok (.getfield 55, 3) := by decide +kernel
theorem dX8_item_14 : decode cX8_item 14 = .ok (.iload_n 1, 1) := by decide +kernel
theorem dX8_item_15 : decode cX8_item 15 = .ok (.aaload, 1) := by decide +kernel
theorem dX8_item_16 : decode cX8_item 16 = .ok (.astore_n 3, 1) := by decide +kernel
theorem dX8_item_17 : decode cX8_item 17 = .ok (.aload_n 3, 1) := by decide +kernel
theorem dX8_item_18 : decode cX8_item 18 = .ok (.iconst 2, 1) := by decide +kernel
theorem dX8_item_19 : decode cX8_item 19 = .ok (.invokevirtual 288, 3) := by decide +kernel
theorem dX8_item_22 : decode cX8_item 22 = .ok (.istore 4, 2) := by decide +kernel
theorem dX8_item_24 : decode cX8_item 24 = .ok (.iload 4, 2) := by decide +kernel
theorem dX8_item_26 : decode cX8_item 26 = .ok (.ldc 118, 2) := by decide +kernel
theorem dX8_item_28 : decode cX8_item 28 = .ok (.if_icmp .eq 6, 3) := by decide +kernel
theorem dX8_item_31 : decode cX8_item 31 = .ok (.iload 4, 2) := by decide +kernel
theorem dX8_item_33 : decode cX8_item 33 = .ok (.ireturn, 1) := by decide +kernel
theorem dX8_item_34 : decode cX8_item 34 = .ok (.aload_n 3, 1) := by decide +kernel
theorem dX8_item_35 : decode cX8_item 35 = .ok (.getfield 277, 3) := by decide +kernel
theorem dX8_item_38 : decode cX8_item 38 = .ok (.iload_n 2, 1) := by decide +kernel
theorem dX8_item_39 : decode cX8_item 39 = .ok (.invokevirtual 239, 3) := by decide +kernel
theorem dX8_item_42 : decode cX8_item 42 = .ok (.ifCond .ne 6, 3) := by decide +kernel
theorem dX8_item_45 : decode cX8_item 45 = .ok (.ldc 242, 2) := by decide +kernel
theorem dX8_item_47 : decode cX8_item 47 = .ok (.ireturn, 1) := by decide +kernel
theorem dX8_item_48 : decode cX8_item 48 = .ok (.aload_n 3, 1) := by decide +kernel
theorem dX8_item_49 : decode cX8_item 49 = .ok (.getfield 277, 3) := by decide +kernel
theorem dX8_item_52 : decode cX8_item 52 = .ok (.getfield 243, 3) := by decide +kernel
theorem dX8_item_55 : decode cX8_item 55 = .ok (.iload_n 2, 1) := by decide +kernel
theorem dX8_item_56 : decode cX8_item 56 = .ok (.iaload, 1) := by decide +kernel
theorem dX8_item_57 : decode cX8_item 57 = .ok (.istore 5, 2) := by decide +kernel
theorem dX8_item_59 : decode cX8_item 59 = .ok (.iload 5, 2) := by decide +kernel
theorem dX8_item_61 : decode cX8_item 61 = .ok (.ldc 118, 2) := by decide +kernel
theorem dX8_item_63 : decode cX8_item 63 = .ok (.if_icmp .ne 8, 3) := by decide +kernel
theorem dX8_item_66 : decode cX8_item 66 = .ok (.ldc 117, 2) := by decide +kernel
theorem dX8_item_68 : decode cX8_item 68 = .ok (.goto 5, 3) := by decide +kernel
theorem dX8_item_71 : decode cX8_item 71 = .ok (.iload 5, 2) := by decide +kernel
theorem dX8_item_73 : decode cX8_item 73 = .ok (.ireturn, 1) := by decide +kernel
theorem dX8_rest_0 : decode cX8_rest 0 = .ok (.iload_n 1, 1) := by decide +kernel
theorem dX8_rest_1 : decode cX8_rest 1 = .ok (.invokestatic 265, 3) := by decide +kernel
theorem dX8_rest_4 : decode cX8_rest 4 = .ok (.ifCond .ne 6, 3) := by decide +kernel
theorem dX8_rest_7 : decode cX8_rest 7 = .ok (.ldc 76, 2) := by decide +kernel
theorem dX8_rest_9 : decode cX8_rest 9 = .ok (.ireturn, 1) := by decide +kernel
theorem dX8_rest_10 : decode cX8_rest 10 = .ok (.aload_n 0, 1) := by decide +kernel
theorem dX8_rest_11 : decode cX8_rest 11 = .ok (.getfield 55, 3) := by decide +kernel
theorem dX8_rest_14 : decode cX8_rest 14 = .ok (.iload_n 1, 1) := by decide +kernel
theorem dX8_rest_15 : decode cX8_rest 15 = .ok (.aaload, 1) := by decide +kernel
theorem dX8_rest_16 : decode cX8_rest 16 = .ok (.astore_n 3, 1) := by decide +kernel
theorem dX8_rest_17 : decode cX8_rest 17 = .ok (.aload_n 3, 1) := by decide +kernel
theorem dX8_rest_18 : decode cX8_rest 18 = .ok (.iconst 3, 1) := by decide +kernel
theorem dX8_rest_19 : decode cX8_rest 19 = .ok (.invokevirtual 288, 3) := by decide +kernel
theorem dX8_rest_22 : decode cX8_rest 22 = .ok (.istore 4, 2) := by decide +kernel
theorem dX8_rest_24 : decode cX8_rest 24 = .ok (.iload 4, 2) := by decide +kernel
theorem dX8_rest_26 : decode cX8_rest 26 = .ok (.ldc 118, 2) := by decide +kernel
theorem dX8_rest_28 : decode cX8_rest 28 = .ok (.if_icmp .eq 6, 3) := by decide +kernel
theorem dX8_rest_31 : decode cX8_rest 31 = .ok (.iload 4, 2) := by decide +kernel
theorem dX8_rest_33 : decode cX8_rest 33 = .ok (.ireturn, 1) := by decide +kernel
theorem dX8_rest_34 : decode cX8_rest 34 = .ok (.iload_n 2, 1) := by decide +kernel
theorem dX8_rest_35 : decode cX8_rest 35 = .ok (.ifCond .ne 8, 3) := by decide +kernel
theorem dX8_rest_38 : decode cX8_rest 38 = .ok (.ldc 191, 2) := by decide +kernel
theorem dX8_rest_40 : decode cX8_rest 40 = .ok (.goto 9, 3) := by decide +kernel
theorem dX8_rest_43 : decode cX8_rest 43 = .ok (.aload_n 3, 1) := by decide +kernel
theorem dX8_rest_44 : decode cX8_rest 44 = .ok (.getfield 285, 3) := by decide +kernel
theorem dX8_rest_47 : decode cX8_rest 47 = .ok (.iload_n 2, 1) := by decide +kernel
theorem dX8_rest_48 : decode cX8_rest 48 = .ok (.irem, 1) := by decide +kernel
theorem dX8_rest_49 : decode cX8_rest 49 = .ok (.ireturn, 1) := by decide +kernel
theorem dX8_tell_0 : decode cX8_tell 0 = .ok (.aload_n 0, 1) := by decide +kernel
theorem dX8_tell_1 : decode cX8_tell 1 = .ok (.getfield 291, 3) := by decide +kernel
theorem dX8_tell_4 : decode cX8_tell 4 = .ok (.bipush 60, 2) := by decide +kernel
theorem dX8_tell_6 : decode cX8_tell 6 = .ok (.if_icmp .lt 6, 3) := by decide +kernel
theorem dX8_tell_9 : decode cX8_tell 9 = .ok (.ldc 172, 2) := by decide +kernel
theorem dX8_tell_11 : decode cX8_tell 11 = .ok (.ireturn, 1) := by decide +kernel
theorem dX8_tell_12 : decode cX8_tell 12 = .ok (.aload_n 0, 1) := by decide +kernel
theorem dX8_tell_13 : decode cX8_tell 13 = .ok (.getfield 59, 3) := by decide +kernel
theorem dX8_tell_16 : decode cX8_tell 16 = .ok (.aload_n 0, 1) := by decide +kernel
theorem dX8_tell_17 : decode cX8_tell 17 = .ok (.getfield 291, 3) := by decide +kernel
theorem dX8_tell_20 : decode cX8_tell 20 = .ok (.iload_n 1, 1) := by decide +kernel
theorem dX8_tell_21 : decode cX8_tell 21 = .ok (.iastore, 1) := by decide +kernel
theorem dX8_tell_22 : decode cX8_tell 22 = .ok (.aload_n 0, 1) := by decide +kernel
theorem dX8_tell_23 : decode cX8_tell 23 = .ok (.dup, 1) := by decide +kernel
theorem dX8_tell_24 : decode cX8_tell 24 = .ok (.getfield 291, 3) := by decide +kernel
theorem dX8_tell_27 : decode cX8_tell 27 = .ok (.iconst 1, 1) := by decide +kernel
theorem dX8_tell_28 : decode cX8_tell 28 = .ok (.iadd, 1) := by decide +kernel
theorem dX8_tell_29 : decode cX8_tell 29 = .ok (.putfield 291, 3) := by decide +kernel
theorem dX8_tell_32 : decode cX8_tell 32 = .ok (.aload_n 0, 1) := by decide +kernel
theorem dX8_tell_33 : decode cX8_tell 33 = .ok (.getfield 291, 3) := by decide +kernel
theorem dX8_tell_36 : decode cX8_tell 36 = .ok (.ireturn, 1) := by decide +kernel
theorem dX8_check_0 : decode cX8_check 0 = .ok (.aload_n 0, 1) := by decide +kernel
theorem dX8_check_1 : decode cX8_check 1 = .ok (.getfield 291, 3) := by decide +kernel
theorem dX8_check_4 : decode cX8_check 4 = .ok (.istore_n 2, 1) := by decide +kernel
theorem dX8_check_5 : decode cX8_check 5 = .ok (.aload_n 0, 1) := by decide +kernel
theorem dX8_check_6 : decode cX8_check 6 = .ok (.iconst 0, 1) := by decide +kernel
theorem dX8_check_7 : decode cX8_check 7 = .ok (.putfield 291, 3) := by decide +kernel
theorem dX8_check_10 : decode cX8_check 10 = .ok (.iload_n 1, 1) := by decide +kernel
theorem dX8_check_11 : decode cX8_check 11 = .ok (.iconst 1, 1) := by decide +kernel
theorem dX8_check_12 : decode cX8_check 12 = .ok (.bipush 30, 2) := by decide +kernel
theorem dX8_check_14 : decode cX8_check 14 = .ok (.invokestatic 72, 3) := by decide +kernel
theorem dX8_check_17 : decode cX8_check 17 = .ok (.ifCond .ne 6, 3) := by decide +kernel
theorem dX8_check_20 : decode cX8_check 20 = .ok (.ldc 76, 2) := by decide +kernel
theorem dX8_check_22 : decode cX8_check 22 = .ok (.ireturn, 1) := by decide +kernel
theorem dX8_check_23 : decode cX8_check 23 = .ok (.aload_n 0, 1) := by decide +kernel
theorem dX8_check_24 : decode cX8_check 24 = .ok (.getfield 294, 3) := by decide +kernel
theorem dX8_check_27 : decode cX8_check 27 = .ok (.ifCond .ne 6, 3) := by decide +kernel
theorem dX8_check_30 : decode cX8_check 30 = .ok (.ldc 191, 2) := by decide +kernel
theorem dX8_check_32 : decode cX8_check 32 = .ok (.ireturn, 1) := by decide +kernel
theorem dX8_check_33 : decode cX8_check 33 = .ok (.aload_n 0, 1) := by decide +kernel
theorem dX8_check_34 : decode cX8_check 34 = .ok (.getfield 28, 3) := by decide +kernel
theorem dX8_check_37 : decode cX8_check 37 = .ok (.aload_n 0, 1) := by decide +kernel
theorem dX8_check_38 : decode cX8_check 38 = .ok (.getfield 25, 3) := by decide +kernel
theorem dX8_check_41 : decode cX8_check 41 = .ok (.invokevirtual 298, 3) := by decide +kernel
theorem dX8_check_44 : decode cX8_check 44 = .ok (.aload_n 0, 1) := by decide +kernel
theorem dX8_check_45 : decode cX8_check 45 = .ok (.iload_n 1, 1) := by decide +kernel
theorem dX8_check_46 : decode cX8_check 46 = .ok (.iload_n 2, 1) := by decide +kernel
theorem dX8_check_47 : decode cX8_check 47 = .ok (.invokevirtual 301, 3) := by decide +kernel
theorem dX8_check_50 : decode cX8_check 50 = .ok (.ireturn, 1) := by decide +kernel
theorem dX8_keep_0 : decode cX8_keep 0 = .ok (.aload_n 0, 1) := by decide +kernel
theorem dX8_keep_1 : decode cX8_keep 1 = .ok (.getfield 25, 3) := by decide +kernel
theorem dX8_keep_4 : decode cX8_keep 4 = .ok (.aload_n 0, 1) := by decide +kernel
theorem dX8_keep_5 : decode cX8_keep 5 = .ok (.getfield 21, 3) := by decide +kernel
theorem dX8_keep_8 : decode cX8_keep 8 = .ok (.invokevirtual 298, 3) := by decide +kernel
theorem dX8_keep_11 : decode cX8_keep 11 = .ok (.aload_n 0, 1) := by decide +kernel
theorem dX8_keep_12 : decode cX8_keep 12 = .ok (.iconst 1, 1) := by decide +kernel
theorem dX8_keep_13 : decode cX8_keep 13 = .ok (.putfield 294, 3) := by decide +kernel
theorem dX8_keep_16 : decode cX8_keep 16 = .ok (.aload_n 0, 1) := by decide +kernel
theorem dX8_keep_17 : decode cX8_keep 17 = .ok (.getfield 21, 3) := by decide +kernel
theorem dX8_keep_20 : decode cX8_keep 20 = .ok (.getfield 166, 3) := by decide +kernel
theorem dX8_keep_23 : decode cX8_keep 23 = .ok (.ireturn, 1) := by decide +kernel
theorem dX8_back_0 : decode cX8_back 0 = .ok (.aload_n 0, 1) := by decide +kernel
theorem dX8_back_1 : decode cX8_back 1 = .ok (.getfield 294, 3) := by decide +kernel
theorem dX8_back_4 : decode cX8_back 4 = .ok (.ifCond .ne 6, 3) := by decide +kernel
theorem dX8_back_7 : decode cX8_back 7 = .ok (.ldc 191, 2) := by decide +kernel
theorem dX8_back_9 : decode cX8_back 9 = .ok (.ireturn, 1) := by decide +kernel
theorem dX8_back_10 : decode cX8_back 10 = .ok (.aload_n 0, 1) := by decide +kernel
theorem dX8_back_11 : decode cX8_back 11 = .ok (.getfield 21, 3) := by decide +kernel
theorem dX8_back_14 : decode cX8_back 14 = .ok (.aload_n 0, 1) := by decide +kernel
theorem dX8_back_15 : decode cX8_back 15 = .ok (.getfield 25, 3) := by decide +kernel
theorem dX8_back_18 : decode cX8_back 18 = .ok (.invokevirtual 298, 3) := by decide +kernel
theorem dX8_back_21 : decode cX8_back 21 = .ok (.aload_n 0, 1) := by decide +kernel
theorem dX8_back_22 : decode cX8_back 22 = .ok (.getfield 21, 3) := by decide +kernel
theorem dX8_back_25 : decode cX8_back 25 = .ok (.getfield 166, 3) := by decide +kernel
theorem dX8_back_28 : decode cX8_back 28 = .ok (.ireturn, 1) := by decide +kernel
theorem dX8_count_0 : decode cX8_count 0 = .ok (.iload_n 1, 1) := by decide +kernel
theorem dX8_count_1 : decode cX8_count 1 = .ok (.tableswitch 134 0 9 #[55, 63, 71, 79, 87, 97, 105, 113, 118, 126], 55) := by decide +kernel
theorem dX8_count_56 : decode cX8_count 56 = .ok (.aload_n 0, 1) := by decide +kernel
theorem dX8_count_57 : decode cX8_count 57 = .ok (.getfield 21, 3) := by decide +kernel
theorem dX8_count_60 : decode cX8_count 60 = .ok (.getfield 192, 3) := by decide +kernel
theorem dX8_count_63 : decode cX8_count 63 = .ok (.ireturn, 1) := by decide +kernel
theorem dX8_count_64 : decode cX8_count 64 = .ok (.aload_n 0, 1) := by decide +kernel
theorem dX8_count_65 : decode cX8_count 65 = .ok (.getfield 21, 3) := by decide +kernel
theorem dX8_count_68 : decode cX8_count 68 = .ok (.getfield 166, 3) := by decide +kernel
theorem dX8_count_71 : decode cX8_count 71 = .ok (.ireturn, 1) := by decide +kernel
theorem dX8_count_72 : decode cX8_count 72 = .ok (.aload_n 0, 1) := by decide +kernel
theorem dX8_count_73 : decode cX8_count 73 = .ok (.getfield 21, 3) := by decide +kernel
theorem dX8_count_76 : decode cX8_count 76 = .ok (.invokevirtual 304, 3) := by decide +kernel
theorem dX8_count_79 : decode cX8_count 79 = .ok (.ireturn, 1) := by decide +kernel
theorem dX8_count_80 : decode cX8_count 80 = .ok (.aload_n 0, 1) := by decide +kernel
theorem dX8_count_81 : decode cX8_count 81 = .ok (.getfield 21, 3) := by decide +kernel
theorem dX8_count_84 : decode cX8_count 84 = .ok (.getfield 198, 3) := by decide +kernel
theorem dX8_count_87 : decode cX8_count 87 = .ok (.ireturn, 1) := by decide +kernel
theorem dX8_count_88 : decode cX8_count 88 = .ok (.aload_n 0, 1) := by decide +kernel
theorem dX8_count_89 : decode cX8_count 89 = .ok (.getfield 21, 3) := by decide +kernel
theorem dX8_count_92 : decode cX8_count 92 = .ok (.getfield 125, 3) := by decide +kernel
theorem dX8_count_95 : decode cX8_count 95 = .ok (.iconst 3, 1) := by decide +kernel
theorem dX8_count_96 : decode cX8_count 96 = .ok (.iaload, 1) := by decide +kernel
theorem dX8_count_97 : decode cX8_count 97 = .ok (.ireturn, 1) := by decide +kernel
theorem dX8_count_98 : decode cX8_count 98 = .ok (.aload_n 0, 1) := by decide +kernel
theorem dX8_count_99 : decode cX8_count 99 = .ok (.getfield 21, 3) := by decide +kernel
theorem dX8_count_102 : decode cX8_count 102 = .ok (.invokevirtual 307, 3) := by decide +kernel
theorem dX8_count_105 : decode cX8_count 105 = .ok (.ireturn, 1) := by decide +kernel
theorem dX8_count_106 : decode cX8_count 106 = .ok (.aload_n 0, 1) := by decide +kernel
theorem dX8_count_107 : decode cX8_count 107 = .ok (.getfield 21, 3) := by decide +kernel
theorem dX8_count_110 : decode cX8_count 110 = .ok (.getfield 211, 3) := by decide +kernel
theorem dX8_count_113 : decode cX8_count 113 = .ok (.ireturn, 1) := by decide +kernel
theorem dX8_count_114 : decode cX8_count 114 = .ok (.aload_n 0, 1) := by decide +kernel
theorem dX8_count_115 : decode cX8_count 115 = .ok (.getfield 291, 3) := by decide +kernel
theorem dX8_count_118 : decode cX8_count 118 = .ok (.ireturn, 1) := by decide +kernel
theorem dX8_count_119 : decode cX8_count 119 = .ok (.aload_n 0, 1) := by decide +kernel
theorem dX8_count_120 : decode cX8_count 120 = .ok (.getfield 34, 3) := by decide +kernel
theorem dX8_count_123 : decode cX8_count 123 = .ok (.getfield 201, 3) := by decide +kernel
theorem dX8_count_126 : decode cX8_count 126 = .ok (.ireturn, 1) := by decide +kernel
theorem dX8_count_127 : decode cX8_count 127 = .ok (.aload_n 0, 1) := by decide +kernel
theorem dX8_count_128 : decode cX8_count 128 = .ok (.getfield 21, 3) := by decide +kernel
theorem dX8_count_131 : decode cX8_count 131 = .ok (.getfield 134, 3) := by decide +kernel
theorem dX8_count_134 : decode cX8_count 134 = .ok (.ireturn, 1) := by decide +kernel
theorem dX8_count_135 : decode cX8_count 135 = .ok (.ldc 76, 2) := by decide +kernel
theorem dX8_count_137 : decode cX8_count 137 = .ok (.ireturn, 1) := by decide +kernel
theorem dX8_firstWrong_0 : decode cX8_firstWrong 0 = .ok (.iconst 0, 1) := by decide +kernel
theorem dX8_firstWrong_1 : decode cX8_firstWrong 1 = .ok (.istore_n 3, 1) := by decide +kernel
theorem dX8_firstWrong_2 : decode cX8_firstWrong 2 = .ok (.iconst 0, 1) := by decide +kernel
theorem dX8_firstWrong_3 : decode cX8_firstWrong 3 = .ok (.istore 4, 2) := by decide +kernel
theorem dX8_firstWrong_5 : decode cX8_firstWrong 5 = .ok (.iload 4, 2) := by decide +kernel
theorem dX8_firstWrong_7 : decode cX8_firstWrong 7 = .ok (.iload_n 1, 1) := by decide +kernel
theorem dX8_firstWrong_8 : decode cX8_firstWrong 8 = .ok (.if_icmp .ge 86, 3) := by decide +kernel
theorem dX8_firstWrong_11 : decode cX8_firstWrong 11 = .ok (.aload_n 0, 1) := by decide +kernel
theorem dX8_firstWrong_12 : decode cX8_firstWrong 12 = .ok (.getfield 28, 3) := by decide +kernel
theorem dX8_firstWrong_15 : decode cX8_firstWrong 15 = .ok (.getfield 192, 3) := by decide +kernel
theorem dX8_firstWrong_18 : decode cX8_firstWrong 18 = .ok (.sipush 9999, 3) := by decide +kernel
theorem dX8_firstWrong_21 : decode cX8_firstWrong 21 = .ok (.if_icmp .ge 73, 3) := by decide +kernel
theorem dX8_firstWrong_24 : decode cX8_firstWrong 24 = .ok (.iload_n 3, 1) := by decide +kernel
theorem dX8_firstWrong_25 : decode cX8_firstWrong 25 = .ok (.iload_n 2, 1) := by decide +kernel
theorem dX8_firstWrong_26 : decode cX8_firstWrong 26 = .ok (.if_icmp .ge 20, 3) := by decide +kernel
theorem dX8_firstWrong_29 : decode cX8_firstWrong 29 = .ok (.aload_n 0, 1) := by decide +kernel
theorem dX8_firstWrong_30 : decode cX8_firstWrong 30 = .ok (.getfield 59, 3) := by decide +kernel
theorem dX8_firstWrong_33 : decode cX8_firstWrong 33 = .ok (.iload_n 3, 1) := by decide +kernel
theorem dX8_firstWrong_34 : decode cX8_firstWrong 34 = .ok (.iaload, 1) := by decide +kernel
theorem dX8_firstWrong_35 : decode cX8_firstWrong 35 = .ok (.aload_n 0, 1) := by decide +kernel
theorem dX8_firstWrong_36 : decode cX8_firstWrong 36 = .ok (.getfield 28, 3) := by decide +kernel
theorem dX8_firstWrong_39 : decode cX8_firstWrong 39 = .ok (.iconst 0, 1) := by decide +kernel
theorem dX8_firstWrong_40 : decode cX8_firstWrong 40 = .ok (.invokevirtual 131, 3) := by decide +kernel
theorem dX8_firstWrong_43 : decode cX8_firstWrong 43 = .ok (.if_icmp .eq 7, 3) := by decide +kernel
theorem dX8_firstWrong_46 : decode cX8_firstWrong 46 = .ok (.iload_n 3, 1) := by decide +kernel
theorem dX8_firstWrong_47 : decode cX8_firstWrong 47 = .ok (.iconst 1, 1) := by decide +kernel
theorem dX8_firstWrong_48 : decode cX8_firstWrong 48 = .ok (.iadd, 1) := by decide +kernel
theorem dX8_firstWrong_49 : decode cX8_firstWrong 49 = .ok (.ireturn, 1) := by decide +kernel
theorem dX8_firstWrong_50 : decode cX8_firstWrong 50 = .ok (.iinc 3 1, 3) := by decide +kernel
theorem dX8_firstWrong_53 : decode cX8_firstWrong 53 = .ok (.aload_n 0, 1) := by decide +kernel
theorem dX8_firstWrong_54 : decode cX8_firstWrong 54 = .ok (.getfield 28, 3) := by decide +kernel
theorem dX8_firstWrong_57 : decode cX8_firstWrong 57 = .ok (.invokevirtual 195, 3) := by decide +kernel
theorem dX8_firstWrong_60 : decode cX8_firstWrong 60 = .ok (.iload_n 3, 1) := by decide +kernel
theorem dX8_firstWrong_61 : decode cX8_firstWrong 61 = .ok (.iload_n 2, 1) := by decide +kernel
theorem dX8_firstWrong_62 : decode cX8_firstWrong 62 = .ok (.if_icmp .ge 19, 3) := by decide +kernel
theorem dX8_firstWrong_65 : decode cX8_firstWrong 65 = .ok (.aload_n 0, 1) := by decide +kernel
theorem dX8_firstWrong_66 : decode cX8_firstWrong 66 = .ok (.getfield 59, 3) := by decide +kernel
theorem dX8_firstWrong_69 : decode cX8_firstWrong 69 = .ok (.iload_n 3, 1) := by decide +kernel
theorem dX8_firstWrong_70 : decode cX8_firstWrong 70 = .ok (.iaload, 1) := by decide +kernel
theorem dX8_firstWrong_71 : decode cX8_firstWrong 71 = .ok (.aload_n 0, 1) := by decide +kernel
theorem dX8_firstWrong_72 : decode cX8_firstWrong 72 = .ok (.getfield 28, 3) := by decide +kernel
theorem dX8_firstWrong_75 : decode cX8_firstWrong 75 = .ok (.invokevirtual 304, 3) := by decide +kernel
theorem dX8_firstWrong_78 : decode cX8_firstWrong 78 = .ok (.if_icmp .eq 7, 3) := by decide +kernel
theorem dX8_firstWrong_81 : decode cX8_firstWrong 81 = .ok (.iload_n 3, 1) := by decide +kernel
theorem dX8_firstWrong_82 : decode cX8_firstWrong 82 = .ok (.iconst 1, 1) := by decide +kernel
theorem dX8_firstWrong_83 : decode cX8_firstWrong 83 = .ok (.iadd, 1) := by decide +kernel
theorem dX8_firstWrong_84 : decode cX8_firstWrong 84 = .ok (.ireturn, 1) := by decide +kernel
theorem dX8_firstWrong_85 : decode cX8_firstWrong 85 = .ok (.iinc 3 1, 3) := by decide +kernel
theorem dX8_firstWrong_88 : decode cX8_firstWrong 88 = .ok (.iinc 4 1, 3) := by decide +kernel
theorem dX8_firstWrong_91 : decode cX8_firstWrong 91 = .ok (.goto (-86), 3) := by decide +kernel
theorem dX8_firstWrong_94 : decode cX8_firstWrong 94 = .ok (.iload_n 3, 1) := by decide +kernel
theorem dX8_firstWrong_95 : decode cX8_firstWrong 95 = .ok (.iload_n 2, 1) := by decide +kernel
theorem dX8_firstWrong_96 : decode cX8_firstWrong 96 = .ok (.if_icmp .ge 9, 3) := by decide +kernel
theorem dX8_firstWrong_99 : decode cX8_firstWrong 99 = .ok (.iload_n 3, 1) := by decide +kernel
theorem dX8_firstWrong_100 : decode cX8_firstWrong 100 = .ok (.iconst 1, 1) := by decide +kernel
theorem dX8_firstWrong_101 : decode cX8_firstWrong 101 = .ok (.iadd, 1) := by decide +kernel
theorem dX8_firstWrong_102 : decode cX8_firstWrong 102 = .ok (.goto 4, 3) := by decide +kernel
theorem dX8_firstWrong_105 : decode cX8_firstWrong 105 = .ok (.iconst 0, 1) := by decide +kernel
theorem dX8_firstWrong_106 : decode cX8_firstWrong 106 = .ok (.ireturn, 1) := by decide +kernel
theorem dX8_isHouse_0 : decode cX8_isHouse 0 = .ok (.iload_n 1, 1) := by decide +kernel
theorem dX8_isHouse_1 : decode cX8_isHouse 1 = .ok (.iconst 0, 1) := by decide +kernel
theorem dX8_isHouse_2 : decode cX8_isHouse 2 = .ok (.aload_n 0, 1) := by decide +kernel
theorem dX8_isHouse_3 : decode cX8_isHouse 3 = .ok (.getfield 21, 3) := by decide +kernel
theorem dX8_isHouse_6 : decode cX8_isHouse 6 = .ok (.getfield 166, 3) := by decide +kernel
theorem dX8_isHouse_9 : decode cX8_isHouse 9 = .ok (.iconst 1, 1) := by decide +kernel
theorem dX8_isHouse_10 : decode cX8_isHouse 10 = .ok (.isub, 1) := by decide +kernel
theorem dX8_isHouse_11 : decode cX8_isHouse 11 = .ok (.invokestatic 72, 3) := by decide +kernel
theorem dX8_isHouse_14 : decode cX8_isHouse 14 = .ok (.ireturn, 1) := by decide +kernel
theorem dX8_isCell_0 : decode cX8_isCell 0 = .ok (.iload_n 0, 1) := by decide +kernel
theorem dX8_isCell_1 : decode cX8_isCell 1 = .ok (.iconst 0, 1) := by decide +kernel
theorem dX8_isCell_2 : decode cX8_isCell 2 = .ok (.bipush 29, 2) := by decide +kernel
theorem dX8_isCell_4 : decode cX8_isCell 4 = .ok (.invokestatic 72, 3) := by decide +kernel
theorem dX8_isCell_7 : decode cX8_isCell 7 = .ok (.ireturn, 1) := by decide +kernel
theorem dX8_isKind_0 : decode cX8_isKind 0 = .ok (.iload_n 0, 1) := by decide +kernel
theorem dX8_isKind_1 : decode cX8_isKind 1 = .ok (.iconst 0, 1) := by decide +kernel
theorem dX8_isKind_2 : decode cX8_isKind 2 = .ok (.iconst 5, 1) := by decide +kernel
theorem dX8_isKind_3 : decode cX8_isKind 3 = .ok (.invokestatic 72, 3) := by decide +kernel
theorem dX8_isKind_6 : decode cX8_isKind 6 = .ok (.ireturn, 1) := by decide +kernel
theorem dX8_isOwner_0 : decode cX8_isOwner 0 = .ok (.iload_n 0, 1) := by decide +kernel
theorem dX8_isOwner_1 : decode cX8_isOwner 1 = .ok (.iconst 0, 1) := by decide +kernel
theorem dX8_isOwner_2 : decode cX8_isOwner 2 = .ok (.bipush 7, 2) := by decide +kernel
theorem dX8_isOwner_4 : decode cX8_isOwner 4 = .ok (.invokestatic 72, 3) := by decide +kernel
theorem dX8_isOwner_7 : decode cX8_isOwner 7 = .ok (.ireturn, 1) := by decide +kernel
theorem dX8_areHoursOn_0 : decode cX8_areHoursOn 0 = .ok (.iload_n 0, 1) := by decide +kernel
theorem dX8_areHoursOn_1 : decode cX8_areHoursOn 1 = .ok (.iconst 0, 1) := by decide +kernel
theorem dX8_areHoursOn_2 : decode cX8_areHoursOn 2 = .ok (.sipush 199, 3) := by decide +kernel
theorem dX8_areHoursOn_5 : decode cX8_areHoursOn 5 = .ok (.invokestatic 72, 3) := by decide +kernel
theorem dX8_areHoursOn_8 : decode cX8_areHoursOn 8 = .ok (.ireturn, 1) := by decide +kernel
theorem dX8_isSheet_0 : decode cX8_isSheet 0 = .ok (.iload_n 0, 1) := by decide +kernel
theorem dX8_isSheet_1 : decode cX8_isSheet 1 = .ok (.iconst 0, 1) := by decide +kernel
theorem dX8_isSheet_2 : decode cX8_isSheet 2 = .ok (.iconst 3, 1) := by decide +kernel
theorem dX8_isSheet_3 : decode cX8_isSheet 3 = .ok (.invokestatic 72, 3) := by decide +kernel
theorem dX8_isSheet_6 : decode cX8_isSheet 6 = .ok (.ireturn, 1) := by decide +kernel
theorem dX8_isSlot_0 : decode cX8_isSlot 0 = .ok (.iload_n 0, 1) := by decide +kernel
theorem dX8_isSlot_1 : decode cX8_isSlot 1 = .ok (.iconst 0, 1) := by decide +kernel
theorem dX8_isSlot_2 : decode cX8_isSlot 2 = .ok (.iconst 4, 1) := by decide +kernel
theorem dX8_isSlot_3 : decode cX8_isSlot 3 = .ok (.invokestatic 72, 3) := by decide +kernel
theorem dX8_isSlot_6 : decode cX8_isSlot 6 = .ok (.ireturn, 1) := by decide +kernel
theorem dX8_within_0 : decode cX8_within 0 = .ok (.iload_n 0, 1) := by decide +kernel
theorem dX8_within_1 : decode cX8_within 1 = .ok (.iload_n 1, 1) := by decide +kernel
theorem dX8_within_2 : decode cX8_within 2 = .ok (.if_icmp .lt 12, 3) := by decide +kernel
theorem dX8_within_5 : decode cX8_within 5 = .ok (.iload_n 0, 1) := by decide +kernel
theorem dX8_within_6 : decode cX8_within 6 = .ok (.iload_n 2, 1) := by decide +kernel
theorem dX8_within_7 : decode cX8_within 7 = .ok (.if_icmp .gt 7, 3) := by decide +kernel
theorem dX8_within_10 : decode cX8_within 10 = .ok (.iconst 1, 1) := by decide +kernel
theorem dX8_within_11 : decode cX8_within 11 = .ok (.goto 4, 3) := by decide +kernel
theorem dX8_within_14 : decode cX8_within 14 = .ok (.iconst 0, 1) := by decide +kernel
theorem dX8_within_15 : decode cX8_within 15 = .ok (.ireturn, 1) := by decide +kernel
theorem dX8_hold_0 : decode cX8_hold 0 = .ok (.iload_n 1, 1) := by decide +kernel
theorem dX8_hold_1 : decode cX8_hold 1 = .ok (.iload_n 2, 1) := by decide +kernel
theorem dX8_hold_2 : decode cX8_hold 2 = .ok (.iload_n 0, 1) := by decide +kernel
theorem dX8_hold_3 : decode cX8_hold 3 = .ok (.invokestatic 310, 3) := by decide +kernel
theorem dX8_hold_6 : decode cX8_hold 6 = .ok (.invokestatic 315, 3) := by decide +kernel
theorem dX8_hold_9 : decode cX8_hold 9 = .ok (.ireturn, 1) := by decide +kernel
theorem dJ6_bitCount_0f7a4_0 : decode cJ6_bitCount_0f7a4 0 = .ok (.iload_n 0, 1) := by decide +kernel
theorem dJ6_bitCount_0f7a4_1 : decode cJ6_bitCount_0f7a4 1 = .ok (.iload_n 0, 1) := by decide +kernel
theorem dJ6_bitCount_0f7a4_2 : decode cJ6_bitCount_0f7a4 2 = .ok (.iconst 1, 1) := by decide +kernel
theorem dJ6_bitCount_0f7a4_3 : decode cJ6_bitCount_0f7a4 3 = .ok (.iushr, 1) := by decide +kernel
theorem dJ6_bitCount_0f7a4_4 : decode cJ6_bitCount_0f7a4 4 = .ok (.ldc_w 265, 3) := by decide +kernel
theorem dJ6_bitCount_0f7a4_7 : decode cJ6_bitCount_0f7a4 7 = .ok (.iand, 1) := by decide +kernel
theorem dJ6_bitCount_0f7a4_8 : decode cJ6_bitCount_0f7a4 8 = .ok (.isub, 1) := by decide +kernel
theorem dJ6_bitCount_0f7a4_9 : decode cJ6_bitCount_0f7a4 9 = .ok (.istore_n 0, 1) := by decide +kernel
theorem dJ6_bitCount_0f7a4_10 : decode cJ6_bitCount_0f7a4 10 = .ok (.iload_n 0, 1) := by decide +kernel
theorem dJ6_bitCount_0f7a4_11 : decode cJ6_bitCount_0f7a4 11 = .ok (.ldc_w 266, 3) := by decide +kernel
theorem dJ6_bitCount_0f7a4_14 : decode cJ6_bitCount_0f7a4 14 = .ok (.iand, 1) := by decide +kernel
theorem dJ6_bitCount_0f7a4_15 : decode cJ6_bitCount_0f7a4 15 = .ok (.iload_n 0, 1) := by decide +kernel
theorem dJ6_bitCount_0f7a4_16 : decode cJ6_bitCount_0f7a4 16 = .ok (.iconst 2, 1) := by decide +kernel
theorem dJ6_bitCount_0f7a4_17 : decode cJ6_bitCount_0f7a4 17 = .ok (.iushr, 1) := by decide +kernel
theorem dJ6_bitCount_0f7a4_18 : decode cJ6_bitCount_0f7a4 18 = .ok (.ldc_w 266, 3) := by decide +kernel
theorem dJ6_bitCount_0f7a4_21 : decode cJ6_bitCount_0f7a4 21 = .ok (.iand, 1) := by decide +kernel
theorem dJ6_bitCount_0f7a4_22 : decode cJ6_bitCount_0f7a4 22 = .ok (.iadd, 1) := by decide +kernel
theorem dJ6_bitCount_0f7a4_23 : decode cJ6_bitCount_0f7a4 23 = .ok (.istore_n 0, 1) := by decide +kernel
theorem dJ6_bitCount_0f7a4_24 : decode cJ6_bitCount_0f7a4 24 = .ok (.iload_n 0, 1) := by decide +kernel
theorem dJ6_bitCount_0f7a4_25 : decode cJ6_bitCount_0f7a4 25 = .ok (.iload_n 0, 1) := by decide +kernel
theorem dJ6_bitCount_0f7a4_26 : decode cJ6_bitCount_0f7a4 26 = .ok (.iconst 4, 1) := by decide +kernel
theorem dJ6_bitCount_0f7a4_27 : decode cJ6_bitCount_0f7a4 27 = .ok (.iushr, 1) := by decide +kernel
theorem dJ6_bitCount_0f7a4_28 : decode cJ6_bitCount_0f7a4 28 = .ok (.iadd, 1) := by decide +kernel
theorem dJ6_bitCount_0f7a4_29 : decode cJ6_bitCount_0f7a4 29 = .ok (.ldc_w 267, 3) := by decide +kernel
theorem dJ6_bitCount_0f7a4_32 : decode cJ6_bitCount_0f7a4 32 = .ok (.iand, 1) := by decide +kernel
theorem dJ6_bitCount_0f7a4_33 : decode cJ6_bitCount_0f7a4 33 = .ok (.istore_n 0, 1) := by decide +kernel
theorem dJ6_bitCount_0f7a4_34 : decode cJ6_bitCount_0f7a4 34 = .ok (.iload_n 0, 1) := by decide +kernel
theorem dJ6_bitCount_0f7a4_35 : decode cJ6_bitCount_0f7a4 35 = .ok (.iload_n 0, 1) := by decide +kernel
theorem dJ6_bitCount_0f7a4_36 : decode cJ6_bitCount_0f7a4 36 = .ok (.bipush 8, 2) := by decide +kernel
theorem dJ6_bitCount_0f7a4_38 : decode cJ6_bitCount_0f7a4 38 = .ok (.iushr, 1) := by decide +kernel
theorem dJ6_bitCount_0f7a4_39 : decode cJ6_bitCount_0f7a4 39 = .ok (.iadd, 1) := by decide +kernel
theorem dJ6_bitCount_0f7a4_40 : decode cJ6_bitCount_0f7a4 40 = .ok (.istore_n 0, 1) := by decide +kernel
theorem dJ6_bitCount_0f7a4_41 : decode cJ6_bitCount_0f7a4 41 = .ok (.iload_n 0, 1) := by decide +kernel
theorem dJ6_bitCount_0f7a4_42 : decode cJ6_bitCount_0f7a4 42 = .ok (.iload_n 0, 1) := by decide +kernel
theorem dJ6_bitCount_0f7a4_43 : decode cJ6_bitCount_0f7a4 43 = .ok (.bipush 16, 2) := by decide +kernel
theorem dJ6_bitCount_0f7a4_45 : decode cJ6_bitCount_0f7a4 45 = .ok (.iushr, 1) := by decide +kernel
theorem dJ6_bitCount_0f7a4_46 : decode cJ6_bitCount_0f7a4 46 = .ok (.iadd, 1) := by decide +kernel
theorem dJ6_bitCount_0f7a4_47 : decode cJ6_bitCount_0f7a4 47 = .ok (.istore_n 0, 1) := by decide +kernel
theorem dJ6_bitCount_0f7a4_48 : decode cJ6_bitCount_0f7a4 48 = .ok (.iload_n 0, 1) := by decide +kernel
theorem dJ6_bitCount_0f7a4_49 : decode cJ6_bitCount_0f7a4 49 = .ok (.bipush 63, 2) := by decide +kernel
theorem dJ6_bitCount_0f7a4_51 : decode cJ6_bitCount_0f7a4 51 = .ok (.iand, 1) := by decide +kernel
theorem dJ6_bitCount_0f7a4_52 : decode cJ6_bitCount_0f7a4 52 = .ok (.ireturn, 1) := by decide +kernel
theorem dJ9_max_7cf53_0 : decode cJ9_max_7cf53 0 = .ok (.iload_n 0, 1) := by decide +kernel
theorem dJ9_max_7cf53_1 : decode cJ9_max_7cf53 1 = .ok (.iload_n 1, 1) := by decide +kernel
theorem dJ9_max_7cf53_2 : decode cJ9_max_7cf53 2 = .ok (.if_icmp .lt 7, 3) := by decide +kernel
theorem dJ9_max_7cf53_5 : decode cJ9_max_7cf53 5 = .ok (.iload_n 0, 1) := by decide +kernel
theorem dJ9_max_7cf53_6 : decode cJ9_max_7cf53 6 = .ok (.goto 4, 3) := by decide +kernel
theorem dJ9_max_7cf53_9 : decode cJ9_max_7cf53 9 = .ok (.iload_n 1, 1) := by decide +kernel
theorem dJ9_max_7cf53_10 : decode cJ9_max_7cf53 10 = .ok (.ireturn, 1) := by decide +kernel
theorem dJ9_min_7cf53_0 : decode cJ9_min_7cf53 0 = .ok (.iload_n 0, 1) := by decide +kernel
theorem dJ9_min_7cf53_1 : decode cJ9_min_7cf53 1 = .ok (.iload_n 1, 1) := by decide +kernel
theorem dJ9_min_7cf53_2 : decode cJ9_min_7cf53 2 = .ok (.if_icmp .gt 7, 3) := by decide +kernel
theorem dJ9_min_7cf53_5 : decode cJ9_min_7cf53 5 = .ok (.iload_n 0, 1) := by decide +kernel
theorem dJ9_min_7cf53_6 : decode cJ9_min_7cf53 6 = .ok (.goto 4, 3) := by decide +kernel
theorem dJ9_min_7cf53_9 : decode cJ9_min_7cf53 9 = .ok (.iload_n 1, 1) := by decide +kernel
theorem dJ9_min_7cf53_10 : decode cJ9_min_7cf53 10 = .ok (.ireturn, 1) := by decide +kernel
theorem dJ0_length_8abf5_0 : decode cJ0_length_8abf5 0 = .ok (.aload_n 0, 1) := by decide +kernel
theorem dJ0_length_8abf5_1 : decode cJ0_length_8abf5 1 = .ok (.getfield 9, 3) := by decide +kernel
theorem dJ0_length_8abf5_4 : decode cJ0_length_8abf5 4 = .ok (.arraylength, 1) := by decide +kernel
theorem dJ0_length_8abf5_5 : decode cJ0_length_8abf5 5 = .ok (.aload_n 0, 1) := by decide +kernel
theorem dJ0_length_8abf5_6 : decode cJ0_length_8abf5 6 = .ok (.invokevirtual 335, 3) := by decide +kernel
theorem dJ0_length_8abf5_9 : decode cJ0_length_8abf5 9 = .ok (.ishr, 1) := by decide +kernel
theorem dJ0_length_8abf5_10 : decode cJ0_length_8abf5 10 = .ok (.ireturn, 1) := by decide +kernel
theorem dJ0_charAt_5068e_0 : decode cJ0_charAt_5068e 0 = .ok (.aload_n 0, 1) := by decide +kernel
theorem dJ0_charAt_5068e_1 : decode cJ0_charAt_5068e 1 = .ok (.invokevirtual 492, 3) := by decide +kernel
theorem dJ0_charAt_5068e_4 : decode cJ0_charAt_5068e 4 = .ok (.ifCond .eq 12, 3) := by decide +kernel
theorem dJ0_charAt_5068e_7 : decode cJ0_charAt_5068e 7 = .ok (.aload_n 0, 1) := by decide +kernel
theorem dJ0_charAt_5068e_8 : decode cJ0_charAt_5068e 8 = .ok (.getfield 9, 3) := by decide +kernel
theorem dJ0_charAt_5068e_11 : decode cJ0_charAt_5068e 11 = .ok (.iload_n 1, 1) := by decide +kernel
theorem dJ0_charAt_5068e_12 : decode cJ0_charAt_5068e 12 = .ok (.invokestatic 495, 3) := by decide +kernel
theorem dJ0_charAt_5068e_15 : decode cJ0_charAt_5068e 15 = .ok (.ireturn, 1) := by decide +kernel
theorem dJ0_charAt_5068e_16 : decode cJ0_charAt_5068e 16 = .ok (.aload_n 0, 1) := by decide +kernel
theorem dJ0_charAt_5068e_17 : decode cJ0_charAt_5068e 17 = .ok (.getfield 9, 3) := by decide +kernel
theorem dJ0_charAt_5068e_20 : decode cJ0_charAt_5068e 20 = .ok (.iload_n 1, 1) := by decide +kernel
theorem dJ0_charAt_5068e_21 : decode cJ0_charAt_5068e 21 = .ok (.invokestatic 498, 3) := by decide +kernel
theorem dJ0_charAt_5068e_24 : decode cJ0_charAt_5068e 24 = .ok (.ireturn, 1) := by decide +kernel
theorem dJ0_indexOf_0f7a4_0 : decode cJ0_indexOf_0f7a4 0 = .ok (.aload_n 0, 1) := by decide +kernel
theorem dJ0_indexOf_0f7a4_1 : decode cJ0_indexOf_0f7a4 1 = .ok (.iload_n 1, 1) := by decide +kernel
theorem dJ0_indexOf_0f7a4_2 : decode cJ0_indexOf_0f7a4 2 = .ok (.iconst 0, 1) := by decide +kernel
theorem dJ0_indexOf_0f7a4_3 : decode cJ0_indexOf_0f7a4 3 = .ok (.invokevirtual 633, 3) := by decide +kernel
theorem dJ0_indexOf_0f7a4_6 : decode cJ0_indexOf_0f7a4 6 = .ok (.ireturn, 1) := by decide +kernel
theorem dJ0_indexOf_7cf53_0 : decode cJ0_indexOf_7cf53 0 = .ok (.aload_n 0, 1) := by decide +kernel
theorem dJ0_indexOf_7cf53_1 : decode cJ0_indexOf_7cf53 1 = .ok (.invokevirtual 492, 3) := by decide +kernel
theorem dJ0_indexOf_7cf53_4 : decode cJ0_indexOf_7cf53 4 = .ok (.ifCond .eq 19, 3) := by decide +kernel
theorem dJ0_indexOf_7cf53_7 : decode cJ0_indexOf_7cf53 7 = .ok (.aload_n 0, 1) := by decide +kernel
theorem dJ0_indexOf_7cf53_8 : decode cJ0_indexOf_7cf53 8 = .ok (.getfield 9, 3) := by decide +kernel
theorem dJ0_indexOf_7cf53_11 : decode cJ0_indexOf_7cf53 11 = .ok (.iload_n 1, 1) := by decide +kernel
theorem dJ0_indexOf_7cf53_12 : decode cJ0_indexOf_7cf53 12 = .ok (.iload_n 2, 1) := by decide +kernel
theorem dJ0_indexOf_7cf53_13 : decode cJ0_indexOf_7cf53 13 = .ok (.aload_n 0, 1) := by decide +kernel
theorem dJ0_indexOf_7cf53_14 : decode cJ0_indexOf_7cf53 14 = .ok (.invokevirtual 505, 3) := by decide +kernel
theorem dJ0_indexOf_7cf53_17 : decode cJ0_indexOf_7cf53 17 = .ok (.invokestatic 637, 3) := by decide +kernel
theorem dJ0_indexOf_7cf53_20 : decode cJ0_indexOf_7cf53 20 = .ok (.goto 16, 3) := by decide +kernel
theorem dJ0_indexOf_7cf53_23 : decode cJ0_indexOf_7cf53 23 = .ok (.aload_n 0, 1) := by decide +kernel
theorem dJ0_indexOf_7cf53_24 : decode cJ0_indexOf_7cf53 24 = .ok (.getfield 9, 3) := by decide +kernel
theorem dJ0_indexOf_7cf53_27 : decode cJ0_indexOf_7cf53 27 = .ok (.iload_n 1, 1) := by decide +kernel
theorem dJ0_indexOf_7cf53_28 : decode cJ0_indexOf_7cf53 28 = .ok (.iload_n 2, 1) := by decide +kernel
theorem dJ0_indexOf_7cf53_29 : decode cJ0_indexOf_7cf53 29 = .ok (.aload_n 0, 1) := by decide +kernel
theorem dJ0_indexOf_7cf53_30 : decode cJ0_indexOf_7cf53 30 = .ok (.invokevirtual 505, 3) := by decide +kernel
theorem dJ0_indexOf_7cf53_33 : decode cJ0_indexOf_7cf53 33 = .ok (.invokestatic 640, 3) := by decide +kernel
theorem dJ0_indexOf_7cf53_36 : decode cJ0_indexOf_7cf53 36 = .ok (.ireturn, 1) := by decide +kernel
theorem dJ0_coder_7d493_0 : decode cJ0_coder_7d493 0 = .ok (.getstatic 38, 3) := by decide +kernel
theorem dJ0_coder_7d493_3 : decode cJ0_coder_7d493 3 = .ok (.ifCond .eq 10, 3) := by decide +kernel
theorem dJ0_coder_7d493_6 : decode cJ0_coder_7d493 6 = .ok (.aload_n 0, 1) := by decide +kernel
theorem dJ0_coder_7d493_7 : decode cJ0_coder_7d493 7 = .ok (.getfield 15, 3) := by decide +kernel
theorem dJ0_coder_7d493_10 : decode cJ0_coder_7d493 10 = .ok (.goto 4, 3) := by decide +kernel
theorem dJ0_coder_7d493_13 : decode cJ0_coder_7d493 13 = .ok (.iconst 1, 1) := by decide +kernel
theorem dJ0_coder_7d493_14 : decode cJ0_coder_7d493 14 = .ok (.ireturn, 1) := by decide +kernel
theorem dJ0_isLatin1_aae02_0 : decode cJ0_isLatin1_aae02 0 = .ok (.getstatic 38, 3) := by decide +kernel
theorem dJ0_isLatin1_aae02_3 : decode cJ0_isLatin1_aae02 3 = .ok (.ifCond .eq 14, 3) := by decide +kernel
theorem dJ0_isLatin1_aae02_6 : decode cJ0_isLatin1_aae02 6 = .ok (.aload_n 0, 1) := by decide +kernel
theorem dJ0_isLatin1_aae02_7 : decode cJ0_isLatin1_aae02 7 = .ok (.getfield 15, 3) := by decide +kernel
theorem dJ0_isLatin1_aae02_10 : decode cJ0_isLatin1_aae02 10 = .ok (.ifCond .ne 7, 3) := by decide +kernel
theorem dJ0_isLatin1_aae02_13 : decode cJ0_isLatin1_aae02 13 = .ok (.iconst 1, 1) := by decide +kernel
theorem dJ0_isLatin1_aae02_14 : decode cJ0_isLatin1_aae02 14 = .ok (.goto 4, 3) := by decide +kernel
theorem dJ0_isLatin1_aae02_17 : decode cJ0_isLatin1_aae02 17 = .ok (.iconst 0, 1) := by decide +kernel
theorem dJ0_isLatin1_aae02_18 : decode cJ0_isLatin1_aae02 18 = .ok (.ireturn, 1) := by decide +kernel
theorem dJ0_checkIndex_df160_0 : decode cJ0_checkIndex_df160 0 = .ok (.iload_n 0, 1) := by decide +kernel
theorem dJ0_checkIndex_df160_1 : decode cJ0_checkIndex_df160 1 = .ok (.iload_n 1, 1) := by decide +kernel
theorem dJ0_checkIndex_df160_2 : decode cJ0_checkIndex_df160 2 = .ok (.getstatic 1053, 3) := by decide +kernel
theorem dJ0_checkIndex_df160_5 : decode cJ0_checkIndex_df160 5 = .ok (.invokestatic 1059, 3) := by decide +kernel
theorem dJ0_checkIndex_df160_8 : decode cJ0_checkIndex_df160 8 = .ok (.pop, 1) := by decide +kernel
theorem dJ0_checkIndex_df160_9 : decode cJ0_checkIndex_df160 9 = .ok (.return_, 1) := by decide +kernel
theorem dJ1_charAt_3b067_0 : decode cJ1_charAt_3b067 0 = .ok (.iload_n 1, 1) := by decide +kernel
theorem dJ1_charAt_3b067_1 : decode cJ1_charAt_3b067 1 = .ok (.aload_n 0, 1) := by decide +kernel
theorem dJ1_charAt_3b067_2 : decode cJ1_charAt_3b067 2 = .ok (.arraylength, 1) := by decide +kernel
theorem dJ1_charAt_3b067_3 : decode cJ1_charAt_3b067 3 = .ok (.invokestatic 9, 3) := by decide +kernel
theorem dJ1_charAt_3b067_6 : decode cJ1_charAt_3b067 6 = .ok (.aload_n 0, 1) := by decide +kernel
theorem dJ1_charAt_3b067_7 : decode cJ1_charAt_3b067 7 = .ok (.iload_n 1, 1) := by decide +kernel
theorem dJ1_charAt_3b067_8 : decode cJ1_charAt_3b067 8 = .ok (.baload, 1) := by decide +kernel
theorem dJ1_charAt_3b067_9 : decode cJ1_charAt_3b067 9 = .ok (.sipush 255, 3) := by decide +kernel
theorem dJ1_charAt_3b067_12 : decode cJ1_charAt_3b067 12 = .ok (.iand, 1) := by decide +kernel
theorem dJ1_charAt_3b067_13 : decode cJ1_charAt_3b067 13 = .ok (.i2c, 1) := by decide +kernel
theorem dJ1_charAt_3b067_14 : decode cJ1_charAt_3b067 14 = .ok (.ireturn, 1) := by decide +kernel
theorem dJ1_canEncode_9a6ad_0 : decode cJ1_canEncode_9a6ad 0 = .ok (.iload_n 0, 1) := by decide +kernel
theorem dJ1_canEncode_9a6ad_1 : decode cJ1_canEncode_9a6ad 1 = .ok (.ifCond .lt 14, 3) := by decide +kernel
theorem dJ1_canEncode_9a6ad_4 : decode cJ1_canEncode_9a6ad 4 = .ok (.iload_n 0, 1) := by decide +kernel
theorem dJ1_canEncode_9a6ad_5 : decode cJ1_canEncode_9a6ad 5 = .ok (.sipush 255, 3) := by decide +kernel
theorem dJ1_canEncode_9a6ad_8 : decode cJ1_canEncode_9a6ad 8 = .ok (.if_icmp .gt 7, 3) := by decide +kernel
theorem dJ1_canEncode_9a6ad_11 : decode cJ1_canEncode_9a6ad 11 = .ok (.iconst 1, 1) := by decide +kernel
theorem dJ1_canEncode_9a6ad_12 : decode cJ1_canEncode_9a6ad 12 = .ok (.goto 4, 3) := by decide +kernel
theorem dJ1_canEncode_9a6ad_15 : decode cJ1_canEncode_9a6ad 15 = .ok (.iconst 0, 1) := by decide +kernel
theorem dJ1_canEncode_9a6ad_16 : decode cJ1_canEncode_9a6ad 16 = .ok (.ireturn, 1) := by decide +kernel
theorem dJ1_indexOf_4cfef_0 : decode cJ1_indexOf_4cfef 0 = .ok (.iload_n 1, 1) := by decide +kernel
theorem dJ1_indexOf_4cfef_1 : decode cJ1_indexOf_4cfef 1 = .ok (.invokestatic 88, 3) := by decide +kernel
theorem dJ1_indexOf_4cfef_4 : decode cJ1_indexOf_4cfef 4 = .ok (.ifCond .ne 5, 3) := by decide +kernel
theorem dJ1_indexOf_4cfef_7 : decode cJ1_indexOf_4cfef 7 = .ok (.iconst (-1), 1) := by decide +kernel
theorem dJ1_indexOf_4cfef_8 : decode cJ1_indexOf_4cfef 8 = .ok (.ireturn, 1) := by decide +kernel
theorem dJ1_indexOf_4cfef_9 : decode cJ1_indexOf_4cfef 9 = .ok (.iload_n 2, 1) := by decide +kernel
theorem dJ1_indexOf_4cfef_10 : decode cJ1_indexOf_4cfef 10 = .ok (.iconst 0, 1) := by decide +kernel
theorem dJ1_indexOf_4cfef_11 : decode cJ1_indexOf_4cfef 11 = .ok (.invokestatic 92, 3) := by decide +kernel
theorem dJ1_indexOf_4cfef_14 : decode cJ1_indexOf_4cfef 14 = .ok (.istore_n 2, 1) := by decide +kernel
theorem dJ1_indexOf_4cfef_15 : decode cJ1_indexOf_4cfef 15 = .ok (.iload_n 3, 1) := by decide +kernel
theorem dJ1_indexOf_4cfef_16 : decode cJ1_indexOf_4cfef 16 = .ok (.aload_n 0, 1) := by decide +kernel
theorem dJ1_indexOf_4cfef_17 : decode cJ1_indexOf_4cfef 17 = .ok (.arraylength, 1) := by decide +kernel
theorem dJ1_indexOf_4cfef_18 : decode cJ1_indexOf_4cfef 18 = .ok (.invokestatic 38, 3) := by decide +kernel
theorem dJ1_indexOf_4cfef_21 : decode cJ1_indexOf_4cfef 21 = .ok (.istore_n 3, 1) := by decide +kernel
theorem dJ1_indexOf_4cfef_22 : decode cJ1_indexOf_4cfef 22 = .ok (.iload_n 2, 1) := by decide +kernel
theorem dJ1_indexOf_4cfef_23 : decode cJ1_indexOf_4cfef 23 = .ok (.iload_n 3, 1) := by decide +kernel
theorem dJ1_indexOf_4cfef_24 : decode cJ1_indexOf_4cfef 24 = .ok (.if_icmp .lt 5, 3) := by decide +kernel
theorem dJ1_indexOf_4cfef_27 : decode cJ1_indexOf_4cfef 27 = .ok (.iconst (-1), 1) := by decide +kernel
theorem dJ1_indexOf_4cfef_28 : decode cJ1_indexOf_4cfef 28 = .ok (.ireturn, 1) := by decide +kernel
theorem dJ1_indexOf_4cfef_29 : decode cJ1_indexOf_4cfef 29 = .ok (.aload_n 0, 1) := by decide +kernel
theorem dJ1_indexOf_4cfef_30 : decode cJ1_indexOf_4cfef 30 = .ok (.iload_n 1, 1) := by decide +kernel
theorem dJ1_indexOf_4cfef_31 : decode cJ1_indexOf_4cfef 31 = .ok (.iload_n 2, 1) := by decide +kernel
theorem dJ1_indexOf_4cfef_32 : decode cJ1_indexOf_4cfef 32 = .ok (.iload_n 3, 1) := by decide +kernel
theorem dJ1_indexOf_4cfef_33 : decode cJ1_indexOf_4cfef 33 = .ok (.invokestatic 95, 3) := by decide +kernel
theorem dJ1_indexOf_4cfef_36 : decode cJ1_indexOf_4cfef 36 = .ok (.ireturn, 1) := by decide +kernel
theorem dJ1_indexOfChar_4cfef_0 : decode cJ1_indexOfChar_4cfef 0 = .ok (.iload_n 1, 1) := by decide +kernel
theorem dJ1_indexOfChar_4cfef_1 : decode cJ1_indexOfChar_4cfef 1 = .ok (.i2b, 1) := by decide +kernel
theorem dJ1_indexOfChar_4cfef_2 : decode cJ1_indexOfChar_4cfef 2 = .ok (.istore 4, 2) := by decide +kernel
theorem dJ1_indexOfChar_4cfef_4 : decode cJ1_indexOfChar_4cfef 4 = .ok (.iload_n 2, 1) := by decide +kernel
theorem dJ1_indexOfChar_4cfef_5 : decode cJ1_indexOfChar_4cfef 5 = .ok (.istore 5, 2) := by decide +kernel
theorem dJ1_indexOfChar_4cfef_7 : decode cJ1_indexOfChar_4cfef 7 = .ok (.iload 5, 2) := by decide +kernel
theorem dJ1_indexOfChar_4cfef_9 : decode cJ1_indexOfChar_4cfef 9 = .ok (.iload_n 3, 1) := by decide +kernel
theorem dJ1_indexOfChar_4cfef_10 : decode cJ1_indexOfChar_4cfef 10 = .ok (.if_icmp .ge 21, 3) := by decide +kernel
theorem dJ1_indexOfChar_4cfef_13 : decode cJ1_indexOfChar_4cfef 13 = .ok (.aload_n 0, 1) := by decide +kernel
theorem dJ1_indexOfChar_4cfef_14 : decode cJ1_indexOfChar_4cfef 14 = .ok (.iload 5, 2) := by decide +kernel
theorem dJ1_indexOfChar_4cfef_16 : decode cJ1_indexOfChar_4cfef 16 = .ok (.baload, 1) := by decide +kernel
theorem dJ1_indexOfChar_4cfef_17 : decode cJ1_indexOfChar_4cfef 17 = .ok (.iload 4, 2) := by decide +kernel
theorem dJ1_indexOfChar_4cfef_19 : decode cJ1_indexOfChar_4cfef 19 = .ok (.if_icmp .ne 6, 3) := by decide +kernel
theorem dJ1_indexOfChar_4cfef_22 : decode cJ1_indexOfChar_4cfef 22 = .ok (.iload 5, 2) := by decide +kernel
theorem dJ1_indexOfChar_4cfef_24 : decode cJ1_indexOfChar_4cfef 24 = .ok (.ireturn, 1) := by decide +kernel
theorem dJ1_indexOfChar_4cfef_25 : decode cJ1_indexOfChar_4cfef 25 = .ok (.iinc 5 1, 3) := by decide +kernel
theorem dJ1_indexOfChar_4cfef_28 : decode cJ1_indexOfChar_4cfef 28 = .ok (.goto (-21), 3) := by decide +kernel
theorem dJ1_indexOfChar_4cfef_31 : decode cJ1_indexOfChar_4cfef 31 = .ok (.iconst (-1), 1) := by decide +kernel
theorem dJ1_indexOfChar_4cfef_32 : decode cJ1_indexOfChar_4cfef 32 = .ok (.ireturn, 1) := by decide +kernel
theorem dJ7_fill_53178_0 : decode cJ7_fill_53178 0 = .ok (.iconst 0, 1) := by decide +kernel
theorem dJ7_fill_53178_1 : decode cJ7_fill_53178 1 = .ok (.istore_n 2, 1) := by decide +kernel
theorem dJ7_fill_53178_2 : decode cJ7_fill_53178 2 = .ok (.aload_n 0, 1) := by decide +kernel
theorem dJ7_fill_53178_3 : decode cJ7_fill_53178 3 = .ok (.arraylength, 1) := by decide +kernel
theorem dJ7_fill_53178_4 : decode cJ7_fill_53178 4 = .ok (.istore_n 3, 1) := by decide +kernel
theorem dJ7_fill_53178_5 : decode cJ7_fill_53178 5 = .ok (.iload_n 2, 1) := by decide +kernel
theorem dJ7_fill_53178_6 : decode cJ7_fill_53178 6 = .ok (.iload_n 3, 1) := by decide +kernel
theorem dJ7_fill_53178_7 : decode cJ7_fill_53178 7 = .ok (.if_icmp .ge 13, 3) := by decide +kernel
theorem dJ7_fill_53178_10 : decode cJ7_fill_53178 10 = .ok (.aload_n 0, 1) := by decide +kernel
theorem dJ7_fill_53178_11 : decode cJ7_fill_53178 11 = .ok (.iload_n 2, 1) := by decide +kernel
theorem dJ7_fill_53178_12 : decode cJ7_fill_53178 12 = .ok (.iload_n 1, 1) := by decide +kernel
theorem dJ7_fill_53178_13 : decode cJ7_fill_53178 13 = .ok (.iastore, 1) := by decide +kernel
theorem dJ7_fill_53178_14 : decode cJ7_fill_53178 14 = .ok (.iinc 2 1, 3) := by decide +kernel
theorem dJ7_fill_53178_17 : decode cJ7_fill_53178 17 = .ok (.goto (-12), 3) := by decide +kernel
theorem dJ7_fill_53178_20 : decode cJ7_fill_53178 20 = .ok (.return_, 1) := by decide +kernel
theorem dJ3_checkIndex_8e157_0 : decode cJ3_checkIndex_8e157 0 = .ok (.iload_n 0, 1) := by decide +kernel
theorem dJ3_checkIndex_8e157_1 : decode cJ3_checkIndex_8e157 1 = .ok (.ifCond .lt 8, 3) := by decide +kernel
theorem dJ3_checkIndex_8e157_4 : decode cJ3_checkIndex_8e157 4 = .ok (.iload_n 0, 1) := by decide +kernel
theorem dJ3_checkIndex_8e157_5 : decode cJ3_checkIndex_8e157 5 = .ok (.iload_n 1, 1) := by decide +kernel
theorem dJ3_checkIndex_8e157_6 : decode cJ3_checkIndex_8e157 6 = .ok (.if_icmp .lt 10, 3) := by decide +kernel
theorem dJ3_checkIndex_8e157_9 : decode cJ3_checkIndex_8e157 9 = .ok (.aload_n 2, 1) := by decide +kernel
theorem dJ3_checkIndex_8e157_10 : decode cJ3_checkIndex_8e157 10 = .ok (.iload_n 0, 1) := by decide +kernel
theorem dJ3_checkIndex_8e157_11 : decode cJ3_checkIndex_8e157 11 = .ok (.iload_n 1, 1) := by decide +kernel
theorem dJ3_checkIndex_8e157_12 : decode cJ3_checkIndex_8e157 12 = .ok (.invokestatic 95, 3) := by decide +kernel
theorem dJ3_checkIndex_8e157_15 : decode cJ3_checkIndex_8e157 15 = .ok (.athrow, 1) := by decide +kernel
theorem dJ3_checkIndex_8e157_16 : decode cJ3_checkIndex_8e157 16 = .ok (.iload_n 0, 1) := by decide +kernel
theorem dJ3_checkIndex_8e157_17 : decode cJ3_checkIndex_8e157 17 = .ok (.ireturn, 1) := by decide +kernel
end
section
theorem dX9_init_0 : decode cX9_init 0 = .ok (.aload_n 0, 1) := by decide +kernel
theorem dX9_init_1 : decode cX9_init 1 = .ok (.invokespecial 1, 3) := by decide +kernel
theorem dX9_init_4 : decode cX9_init 4 = .ok (.aload_n 0, 1) := by decide +kernel
theorem dX9_init_5 : decode cX9_init 5 = .ok (.sipush 3147, 3) := by decide +kernel
theorem dX9_init_8 : decode cX9_init 8 = .ok (.newarray .int, 2) := by decide +kernel
theorem dX9_init_10 : decode cX9_init 10 = .ok (.putfield 7, 3) := by decide +kernel
theorem dX9_init_13 : decode cX9_init 13 = .ok (.aload_n 0, 1) := by decide +kernel
theorem dX9_init_14 : decode cX9_init 14 = .ok (.sipush 3147, 3) := by decide +kernel
theorem dX9_init_17 : decode cX9_init 17 = .ok (.newarray .int, 2) := by decide +kernel
theorem dX9_init_19 : decode cX9_init 19 = .ok (.putfield 13, 3) := by decide +kernel
theorem dX9_init_22 : decode cX9_init 22 = .ok (.aload_n 0, 1) := by decide +kernel
theorem dX9_init_23 : decode cX9_init 23 = .ok (.sipush 3147, 3) := by decide +kernel
theorem dX9_init_26 : decode cX9_init 26 = .ok (.newarray .int, 2) := by decide +kernel
theorem dX9_init_28 : decode cX9_init 28 = .ok (.putfield 16, 3) := by decide +kernel
theorem dX9_init_31 : decode cX9_init 31 = .ok (.aload_n 0, 1) := by decide +kernel
theorem dX9_init_32 : decode cX9_init 32 = .ok (.iconst 4, 1) := by decide +kernel
theorem dX9_init_33 : decode cX9_init 33 = .ok (.newarray .int, 2) := by decide +kernel
theorem dX9_init_35 : decode cX9_init 35 = .ok (.putfield 19, 3) := by decide +kernel
theorem dX9_init_38 : decode cX9_init 38 = .ok (.aload_n 0, 1) := by decide +kernel
theorem dX9_init_39 : decode cX9_init 39 = .ok (.iconst 4, 1) := by decide +kernel
theorem dX9_init_40 : decode cX9_init 40 = .ok (.newarray .int, 2) := by decide +kernel
theorem dX9_init_42 : decode cX9_init 42 = .ok (.putfield 22, 3) := by decide +kernel
theorem dX9_init_45 : decode cX9_init 45 = .ok (.aload_n 0, 1) := by decide +kernel
theorem dX9_init_46 : decode cX9_init 46 = .ok (.bipush 96, 2) := by decide +kernel
theorem dX9_init_48 : decode cX9_init 48 = .ok (.newarray .int, 2) := by decide +kernel
theorem dX9_init_50 : decode cX9_init 50 = .ok (.putfield 25, 3) := by decide +kernel
theorem dX9_init_53 : decode cX9_init 53 = .ok (.aload_n 0, 1) := by decide +kernel
theorem dX9_init_54 : decode cX9_init 54 = .ok (.iconst 5, 1) := by decide +kernel
theorem dX9_init_55 : decode cX9_init 55 = .ok (.newarray .int, 2) := by decide +kernel
theorem dX9_init_57 : decode cX9_init 57 = .ok (.putfield 28, 3) := by decide +kernel
theorem dX9_init_60 : decode cX9_init 60 = .ok (.aload_n 0, 1) := by decide +kernel
theorem dX9_init_61 : decode cX9_init 61 = .ok (.iconst 5, 1) := by decide +kernel
theorem dX9_init_62 : decode cX9_init 62 = .ok (.newarray .int, 2) := by decide +kernel
theorem dX9_init_64 : decode cX9_init 64 = .ok (.putfield 31, 3) := by decide +kernel
theorem dX9_init_67 : decode cX9_init 67 = .ok (.aload_n 0, 1) := by decide +kernel
theorem dX9_init_68 : decode cX9_init 68 = .ok (.iconst 5, 1) := by decide +kernel
theorem dX9_init_69 : decode cX9_init 69 = .ok (.newarray .int, 2) := by decide +kernel
theorem dX9_init_71 : decode cX9_init 71 = .ok (.putfield 34, 3) := by decide +kernel
theorem dX9_init_74 : decode cX9_init 74 = .ok (.aload_n 0, 1) := by decide +kernel
theorem dX9_init_75 : decode cX9_init 75 = .ok (.iconst 5, 1) := by decide +kernel
theorem dX9_init_76 : decode cX9_init 76 = .ok (.newarray .int, 2) := by decide +kernel
theorem dX9_init_78 : decode cX9_init 78 = .ok (.putfield 37, 3) := by decide +kernel
theorem dX9_init_81 : decode cX9_init 81 = .ok (.aload_n 0, 1) := by decide +kernel
theorem dX9_init_82 : decode cX9_init 82 = .ok (.bipush 120, 2) := by decide +kernel
theorem dX9_init_84 : decode cX9_init 84 = .ok (.newarray .int, 2) := by decide +kernel
theorem dX9_init_86 : decode cX9_init 86 = .ok (.putfield 40, 3) := by decide +kernel
theorem dX9_init_89 : decode cX9_init 89 = .ok (.aload_n 0, 1) := by decide +kernel
theorem dX9_init_90 : decode cX9_init 90 = .ok (.bipush 8, 2) := by decide +kernel
theorem dX9_init_92 : decode cX9_init 92 = .ok (.newarray .int, 2) := by decide +kernel
theorem dX9_init_94 : decode cX9_init 94 = .ok (.putfield 43, 3) := by decide +kernel
theorem dX9_init_97 : decode cX9_init 97 = .ok (.aload_n 0, 1) := by decide +kernel
theorem dX9_init_98 : decode cX9_init 98 = .ok (.bipush 96, 2) := by decide +kernel
theorem dX9_init_100 : decode cX9_init 100 = .ok (.newarray .int, 2) := by decide +kernel
theorem dX9_init_102 : decode cX9_init 102 = .ok (.putfield 46, 3) := by decide +kernel
theorem dX9_init_105 : decode cX9_init 105 = .ok (.aload_n 0, 1) := by decide +kernel
theorem dX9_init_106 : decode cX9_init 106 = .ok (.sipush 128, 3) := by decide +kernel
theorem dX9_init_109 : decode cX9_init 109 = .ok (.newarray .int, 2) := by decide +kernel
theorem dX9_init_111 : decode cX9_init 111 = .ok (.putfield 49, 3) := by decide +kernel
theorem dX9_init_114 : decode cX9_init 114 = .ok (.aload_n 0, 1) := by decide +kernel
theorem dX9_init_115 : decode cX9_init 115 = .ok (.bipush 100, 2) := by decide +kernel
theorem dX9_init_117 : decode cX9_init 117 = .ok (.newarray .int, 2) := by decide +kernel
theorem dX9_init_119 : decode cX9_init 119 = .ok (.putfield 52, 3) := by decide +kernel
theorem dX9_init_122 : decode cX9_init 122 = .ok (.aload_n 0, 1) := by decide +kernel
theorem dX9_init_123 : decode cX9_init 123 = .ok (.bipush 24, 2) := by decide +kernel
theorem dX9_init_125 : decode cX9_init 125 = .ok (.newarray .int, 2) := by decide +kernel
theorem dX9_init_127 : decode cX9_init 127 = .ok (.putfield 55, 3) := by decide +kernel
theorem dX9_init_130 : decode cX9_init 130 = .ok (.aload_n 0, 1) := by decide +kernel
theorem dX9_init_131 : decode cX9_init 131 = .ok (.bipush 60, 2) := by decide +kernel
theorem dX9_init_133 : decode cX9_init 133 = .ok (.newarray .int, 2) := by decide +kernel
theorem dX9_init_135 : decode cX9_init 135 = .ok (.putfield 58, 3) := by decide +kernel
theorem dX9_init_138 : decode cX9_init 138 = .ok (.aload_n 0, 1) := by decide +kernel
theorem dX9_init_139 : decode cX9_init 139 = .ok (.bipush 60, 2) := by decide +kernel
theorem dX9_init_141 : decode cX9_init 141 = .ok (.newarray .int, 2) := by decide +kernel
theorem dX9_init_143 : decode cX9_init 143 = .ok (.putfield 61, 3) := by decide +kernel
theorem dX9_init_146 : decode cX9_init 146 = .ok (.aload_n 0, 1) := by decide +kernel
theorem dX9_init_147 : decode cX9_init 147 = .ok (.getfield 7, 3) := by decide +kernel
theorem dX9_init_150 : decode cX9_init 150 = .ok (.iconst 4, 1) := by decide +kernel
theorem dX9_init_151 : decode cX9_init 151 = .ok (.iconst 1, 1) := by decide +kernel
theorem dX9_init_152 : decode cX9_init 152 = .ok (.iastore, 1) := by decide +kernel
theorem dX9_init_153 : decode cX9_init 153 = .ok (.aload_n 0, 1) := by decide +kernel
theorem dX9_init_154 : decode cX9_init 154 = .ok (.getfield 7, 3) := by decide +kernel
theorem dX9_init_157 : decode cX9_init 157 = .ok (.iconst 5, 1) := by decide +kernel
theorem dX9_init_158 : decode cX9_init 158 = .ok (.iconst 2, 1) := by decide +kernel
theorem dX9_init_159 : decode cX9_init 159 = .ok (.iastore, 1) := by decide +kernel
theorem dX9_init_160 : decode cX9_init 160 = .ok (.aload_n 0, 1) := by decide +kernel
theorem dX9_init_161 : decode cX9_init 161 = .ok (.getfield 7, 3) := by decide +kernel
theorem dX9_init_164 : decode cX9_init 164 = .ok (.bipush 6, 2) := by decide +kernel
theorem dX9_init_166 : decode cX9_init 166 = .ok (.bipush 8, 2) := by decide +kernel
theorem dX9_init_168 : decode cX9_init 168 = .ok (.iastore, 1) := by decide +kernel
theorem dX9_init_169 : decode cX9_init 169 = .ok (.aload_n 0, 1) := by decide +kernel
theorem dX9_init_170 : decode cX9_init 170 = .ok (.getfield 7, 3) := by decide +kernel
theorem dX9_init_173 : decode cX9_init 173 = .ok (.bipush 7, 2) := by decide +kernel
theorem dX9_init_175 : decode cX9_init 175 = .ok (.iconst 3, 1) := by decide +kernel
theorem dX9_init_176 : decode cX9_init 176 = .ok (.iastore, 1) := by decide +kernel
theorem dX9_init_177 : decode cX9_init 177 = .ok (.aload_n 0, 1) := by decide +kernel
theorem dX9_init_178 : decode cX9_init 178 = .ok (.getfield 7, 3) := by decide +kernel
theorem dX9_init_181 : decode cX9_init 181 = .ok (.bipush 9, 2) := by decide +kernel
theorem dX9_init_183 : decode cX9_init 183 = .ok (.bipush 20, 2) := by decide +kernel
theorem dX9_init_185 : decode cX9_init 185 = .ok (.iastore, 1) := by decide +kernel
theorem dX9_init_186 : decode cX9_init 186 = .ok (.aload_n 0, 1) := by decide +kernel
theorem dX9_init_187 : decode cX9_init 187 = .ok (.getfield 7, 3) := by decide +kernel
theorem dX9_init_190 : decode cX9_init 190 = .ok (.bipush 10, 2) := by decide +kernel
theorem dX9_init_192 : decode cX9_init 192 = .ok (.iconst 1, 1) := by decide +kernel
theorem dX9_init_193 : decode cX9_init 193 = .ok (.iastore, 1) := by decide +kernel
theorem dX9_init_194 : decode cX9_init 194 = .ok (.iconst 0, 1) := by decide +kernel
theorem dX9_init_195 : decode cX9_init 195 = .ok (.istore_n 1, 1) := by decide +kernel
theorem dX9_init_196 : decode cX9_init 196 = .ok (.iload_n 1, 1) := by decide +kernel
theorem dX9_init_197 : decode cX9_init 197 = .ok (.bipush 30, 2) := by decide +kernel
theorem dX9_init_199 : decode cX9_init 199 = .ok (.if_icmp .ge 23, 3) := by decide +kernel
theorem dX9_init_202 : decode cX9_init 202 = .ok (.aload_n 0, 1) := by decide +kernel
theorem dX9_init_203 : decode cX9_init 203 = .ok (.getfield 7, 3) := by decide +kernel
theorem dX9_init_206 : decode cX9_init 206 = .ok (.bipush 11, 2) := by decide +kernel
theorem dX9_init_208 : decode cX9_init 208 = .ok (.iconst 4, 1) := by decide +kernel
theorem dX9_init_209 : decode cX9_init 209 = .ok (.iload_n 1, 1) := by decide +kernel
theorem dX9_init_210 : decode cX9_init 210 = .ok (.imul, 1) := by decide +kernel
theorem dX9_init_211 : decode cX9_init 211 = .ok (.iadd, 1) := by decide +kernel
theorem dX9_init_212 : decode cX9_init 212 = .ok (.iconst 3, 1) := by decide +kernel
theorem dX9_init_213 : decode cX9_init 213 = .ok (.iadd, 1) := by decide +kernel
theorem dX9_init_214 : decode cX9_init 214 = .ok (.iconst (-1), 1) := by decide +kernel
theorem dX9_init_215 : decode cX9_init 215 = .ok (.iastore, 1) := by decide +kernel
theorem dX9_init_216 : decode cX9_init 216 = .ok (.iinc 1 1, 3) := by decide +kernel
theorem dX9_init_219 : decode cX9_init 219 = .ok (.goto (-23), 3) := by decide +kernel
theorem dX9_init_222 : decode cX9_init 222 = .ok (.iconst 0, 1) := by decide +kernel
theorem dX9_init_223 : decode cX9_init 223 = .ok (.istore_n 1, 1) := by decide +kernel
theorem dX9_init_224 : decode cX9_init 224 = .ok (.iload_n 1, 1) := by decide +kernel
theorem dX9_init_225 : decode cX9_init 225 = .ok (.iconst 4, 1) := by decide +kernel
theorem dX9_init_226 : decode cX9_init 226 = .ok (.if_icmp .ge 16, 3) := by decide +kernel
theorem dX9_init_229 : decode cX9_init 229 = .ok (.aload_n 0, 1) := by decide +kernel
theorem dX9_init_230 : decode cX9_init 230 = .ok (.getfield 19, 3) := by decide +kernel
theorem dX9_init_233 : decode cX9_init 233 = .ok (.iload_n 1, 1) := by decide +kernel
theorem dX9_init_234 : decode cX9_init 234 = .ok (.iconst (-1), 1) := by decide +kernel
theorem dX9_init_235 : decode cX9_init 235 = .ok (.iastore, 1) := by decide +kernel
theorem dX9_init_236 : decode cX9_init 236 = .ok (.iinc 1 1, 3) := by decide +kernel
theorem dX9_init_239 : decode cX9_init 239 = .ok (.goto (-15), 3) := by decide +kernel
theorem dX9_init_242 : decode cX9_init 242 = .ok (.return_, 1) := by decide +kernel
theorem dX9_isIn_0 : decode cX9_isIn 0 = .ok (.lload_n 0, 1) := by decide +kernel
theorem dX9_isIn_1 : decode cX9_isIn 1 = .ok (.lload_n 2, 1) := by decide +kernel
theorem dX9_isIn_2 : decode cX9_isIn 2 = .ok (.lcmp, 1) := by decide +kernel
theorem dX9_isIn_3 : decode cX9_isIn 3 = .ok (.ifCond .lt 14, 3) := by decide +kernel
theorem dX9_isIn_6 : decode cX9_isIn 6 = .ok (.lload_n 0, 1) := by decide +kernel
theorem dX9_isIn_7 : decode cX9_isIn 7 = .ok (.lload 4, 2) := by decide +kernel
theorem dX9_isIn_9 : decode cX9_isIn 9 = .ok (.lcmp, 1) := by decide +kernel
theorem dX9_isIn_10 : decode cX9_isIn 10 = .ok (.ifCond .gt 7, 3) := by decide +kernel
theorem dX9_isIn_13 : decode cX9_isIn 13 = .ok (.iconst 1, 1) := by decide +kernel
theorem dX9_isIn_14 : decode cX9_isIn 14 = .ok (.goto 4, 3) := by decide +kernel
theorem dX9_isIn_17 : decode cX9_isIn 17 = .ok (.iconst 0, 1) := by decide +kernel
theorem dX9_isIn_18 : decode cX9_isIn 18 = .ok (.ireturn, 1) := by decide +kernel
theorem dX9_orNone_0 : decode cX9_orNone 0 = .ok (.iload_n 0, 1) := by decide +kernel
theorem dX9_orNone_1 : decode cX9_orNone 1 = .ok (.ifCond .ge 8, 3) := by decide +kernel
theorem dX9_orNone_4 : decode cX9_orNone 4 = .ok (.ldc 64, 2) := by decide +kernel
theorem dX9_orNone_6 : decode cX9_orNone 6 = .ok (.goto 4, 3) := by decide +kernel
theorem dX9_orNone_9 : decode cX9_orNone 9 = .ok (.iload_n 0, 1) := by decide +kernel
theorem dX9_orNone_10 : decode cX9_orNone 10 = .ok (.ireturn, 1) := by decide +kernel
theorem dX9_within_0 : decode cX9_within 0 = .ok (.iload_n 0, 1) := by decide +kernel
theorem dX9_within_1 : decode cX9_within 1 = .ok (.ifCond .ge 7, 3) := by decide +kernel
theorem dX9_within_4 : decode cX9_within 4 = .ok (.iconst 0, 1) := by decide +kernel
theorem dX9_within_5 : decode cX9_within 5 = .ok (.goto 13, 3) := by decide +kernel
theorem dX9_within_8 : decode cX9_within 8 = .ok (.iload_n 0, 1) := by decide +kernel
theorem dX9_within_9 : decode cX9_within 9 = .ok (.iload_n 1, 1) := by decide +kernel
theorem dX9_within_10 : decode cX9_within 10 = .ok (.if_icmp .le 7, 3) := by decide +kernel
theorem dX9_within_13 : decode cX9_within 13 = .ok (.iload_n 1, 1) := by decide +kernel
theorem dX9_within_14 : decode cX9_within 14 = .ok (.goto 4, 3) := by decide +kernel
theorem dX9_within_17 : decode cX9_within 17 = .ok (.iload_n 0, 1) := by decide +kernel
theorem dX9_within_18 : decode cX9_within 18 = .ok (.ireturn, 1) := by decide +kernel
theorem dX9_becomes_0 : decode cX9_becomes 0 = .ok (.aload_n 0, 1) := by decide +kernel
theorem dX9_becomes_1 : decode cX9_becomes 1 = .ok (.getfield 7, 3) := by decide +kernel
theorem dX9_becomes_4 : decode cX9_becomes 4 = .ok (.iload_n 1, 1) := by decide +kernel
theorem dX9_becomes_5 : decode cX9_becomes 5 = .ok (.iaload, 1) := by decide +kernel
theorem dX9_becomes_6 : decode cX9_becomes 6 = .ok (.istore_n 3, 1) := by decide +kernel
theorem dX9_becomes_7 : decode cX9_becomes 7 = .ok (.aload_n 0, 1) := by decide +kernel
theorem dX9_becomes_8 : decode cX9_becomes 8 = .ok (.getfield 7, 3) := by decide +kernel
theorem dX9_becomes_11 : decode cX9_becomes 11 = .ok (.iload_n 1, 1) := by decide +kernel
theorem dX9_becomes_12 : decode cX9_becomes 12 = .ok (.iload_n 2, 1) := by decide +kernel
theorem dX9_becomes_13 : decode cX9_becomes 13 = .ok (.iastore, 1) := by decide +kernel
theorem dX9_becomes_14 : decode cX9_becomes 14 = .ok (.iload_n 3, 1) := by decide +kernel
theorem dX9_becomes_15 : decode cX9_becomes 15 = .ok (.ireturn, 1) := by decide +kernel
theorem dX9_textAt_0 : decode cX9_textAt 0 = .ok (.sipush 147, 3) := by decide +kernel
theorem dX9_textAt_3 : decode cX9_textAt 3 = .ok (.sipush 200, 3) := by decide +kernel
theorem dX9_textAt_6 : decode cX9_textAt 6 = .ok (.iload_n 1, 1) := by decide +kernel
theorem dX9_textAt_7 : decode cX9_textAt 7 = .ok (.imul, 1) := by decide +kernel
theorem dX9_textAt_8 : decode cX9_textAt 8 = .ok (.iadd, 1) := by decide +kernel
theorem dX9_textAt_9 : decode cX9_textAt 9 = .ok (.ireturn, 1) := by decide +kernel
theorem dX9_of_0 : decode cX9_of 0 = .ok (.aload_n 0, 1) := by decide +kernel
theorem dX9_of_1 : decode cX9_of 1 = .ok (.getfield 7, 3) := by decide +kernel
theorem dX9_of_4 : decode cX9_of 4 = .ok (.bipush 11, 2) := by decide +kernel
theorem dX9_of_6 : decode cX9_of 6 = .ok (.iconst 4, 1) := by decide +kernel
theorem dX9_of_7 : decode cX9_of 7 = .ok (.iload_n 1, 1) := by decide +kernel
theorem dX9_of_8 : decode cX9_of 8 = .ok (.imul, 1) := by decide +kernel
theorem dX9_of_9 : decode cX9_of 9 = .ok (.iadd, 1) := by decide +kernel
theorem dX9_of_10 : decode cX9_of 10 = .ok (.iload_n 2, 1) := by decide +kernel
theorem dX9_of_11 : decode cX9_of 11 = .ok (.iadd, 1) := by decide +kernel
theorem dX9_of_12 : decode cX9_of 12 = .ok (.iaload, 1) := by decide +kernel
theorem dX9_of_13 : decode cX9_of 13 = .ok (.ireturn, 1) := by decide +kernel
theorem dX9_sets_0 : decode cX9_sets 0 = .ok (.aload_n 0, 1) := by decide +kernel
theorem dX9_sets_1 : decode cX9_sets 1 = .ok (.getfield 7, 3) := by decide +kernel
theorem dX9_sets_4 : decode cX9_sets 4 = .ok (.bipush 11, 2) := by decide +kernel
theorem dX9_sets_6 : decode cX9_sets 6 = .ok (.iconst 4, 1) := by decide +kernel
theorem dX9_sets_7 : decode cX9_sets 7 = .ok (.iload_n 1, 1) := by decide +kernel
theorem dX9_sets_8 : decode cX9_sets 8 = .ok (.imul, 1) := by decide +kernel
theorem dX9_sets_9 : decode cX9_sets 9 = .ok (.iadd, 1) := by decide +kernel
theorem dX9_sets_10 : decode cX9_sets 10 = .ok (.iload_n 2, 1) := by decide +kernel
theorem dX9_sets_11 : decode cX9_sets 11 = .ok (.iadd, 1) := by decide +kernel
theorem dX9_sets_12 : decode cX9_sets 12 = .ok (.iload_n 3, 1) := by decide +kernel
theorem dX9_sets_13 : decode cX9_sets 13 = .ok (.iastore, 1) := by decide +kernel
theorem dX9_sets_14 : decode cX9_sets 14 = .ok (.return_, 1) := by decide +kernel
theorem dX9_isCell_0 : decode cX9_isCell 0 = .ok (.iload_n 0, 1) := by decide +kernel
theorem dX9_isCell_1 : decode cX9_isCell 1 = .ok (.ifCond .lt 13, 3) := by decide +kernel
theorem dX9_isCell_4 : decode cX9_isCell 4 = .ok (.iload_n 0, 1) := by decide +kernel
theorem dX9_isCell_5 : decode cX9_isCell 5 = .ok (.bipush 30, 2) := by decide +kernel
theorem dX9_isCell_7 : decode cX9_isCell 7 = .ok (.if_icmp .ge 7, 3) := by decide +kernel
theorem dX9_isCell_10 : decode cX9_isCell 10 = .ok (.iconst 1, 1) := by decide +kernel
theorem dX9_isCell_11 : decode cX9_isCell 11 = .ok (.goto 4, 3) := by decide +kernel
theorem dX9_isCell_14 : decode cX9_isCell 14 = .ok (.iconst 0, 1) := by decide +kernel
theorem dX9_isCell_15 : decode cX9_isCell 15 = .ok (.ireturn, 1) := by decide +kernel
theorem dX9_isHouse_0 : decode cX9_isHouse 0 = .ok (.iload_n 1, 1) := by decide +kernel
theorem dX9_isHouse_1 : decode cX9_isHouse 1 = .ok (.i2l, 1) := by decide +kernel
theorem dX9_isHouse_2 : decode cX9_isHouse 2 = .ok (.lconst 0, 1) := by decide +kernel
theorem dX9_isHouse_3 : decode cX9_isHouse 3 = .ok (.aload_n 0, 1) := by decide +kernel
theorem dX9_isHouse_4 : decode cX9_isHouse 4 = .ok (.getfield 7, 3) := by decide +kernel
theorem dX9_isHouse_7 : decode cX9_isHouse 7 = .ok (.iconst 0, 1) := by decide +kernel
theorem dX9_isHouse_8 : decode cX9_isHouse 8 = .ok (.iaload, 1) := by decide +kernel
theorem dX9_isHouse_9 : decode cX9_isHouse 9 = .ok (.iconst 1, 1) := by decide +kernel
theorem dX9_isHouse_10 : decode cX9_isHouse 10 = .ok (.isub, 1) := by decide +kernel
theorem dX9_isHouse_11 : decode cX9_isHouse 11 = .ok (.i2l, 1) := by decide +kernel
theorem dX9_isHouse_12 : decode cX9_isHouse 12 = .ok (.invokestatic 65, 3) := by decide +kernel
theorem dX9_isHouse_15 : decode cX9_isHouse 15 = .ok (.ireturn, 1) := by decide +kernel
theorem dX9_isText_0 : decode cX9_isText 0 = .ok (.iload_n 1, 1) := by decide +kernel
theorem dX9_isText_1 : decode cX9_isText 1 = .ok (.i2l, 1) := by decide +kernel
theorem dX9_isText_2 : decode cX9_isText 2 = .ok (.lconst 0, 1) := by decide +kernel
theorem dX9_isText_3 : decode cX9_isText 3 = .ok (.aload_n 0, 1) := by decide +kernel
theorem dX9_isText_4 : decode cX9_isText 4 = .ok (.getfield 7, 3) := by decide +kernel
theorem dX9_isText_7 : decode cX9_isText 7 = .ok (.iconst 1, 1) := by decide +kernel
theorem dX9_isText_8 : decode cX9_isText 8 = .ok (.iaload, 1) := by decide +kernel
theorem dX9_isText_9 : decode cX9_isText 9 = .ok (.iconst 1, 1) := by decide +kernel
theorem dX9_isText_10 : decode cX9_isText 10 = .ok (.isub, 1) := by decide +kernel
theorem dX9_isText_11 : decode cX9_isText 11 = .ok (.i2l, 1) := by decide +kernel
theorem dX9_isText_12 : decode cX9_isText 12 = .ok (.invokestatic 65, 3) := by decide +kernel
theorem dX9_isText_15 : decode cX9_isText 15 = .ok (.ireturn, 1) := by decide +kernel
theorem dX9_drawn_0 : decode cX9_drawn 0 = .ok (.aload_n 0, 1) := by decide +kernel
theorem dX9_drawn_1 : decode cX9_drawn 1 = .ok (.getfield 7, 3) := by decide +kernel
theorem dX9_drawn_4 : decode cX9_drawn 4 = .ok (.iconst 4, 1) := by decide +kernel
theorem dX9_drawn_5 : decode cX9_drawn 5 = .ok (.aload_n 0, 1) := by decide +kernel
theorem dX9_drawn_6 : decode cX9_drawn 6 = .ok (.getfield 7, 3) := by decide +kernel
theorem dX9_drawn_9 : decode cX9_drawn 9 = .ok (.iconst 4, 1) := by decide +kernel
theorem dX9_drawn_10 : decode cX9_drawn 10 = .ok (.iaload, 1) := by decide +kernel
theorem dX9_drawn_11 : decode cX9_drawn 11 = .ok (.ldc 69, 2) := by decide +kernel
theorem dX9_drawn_13 : decode cX9_drawn 13 = .ok (.imul, 1) := by decide +kernel
theorem dX9_drawn_14 : decode cX9_drawn 14 = .ok (.sipush 12345, 3) := by decide +kernel
theorem dX9_drawn_17 : decode cX9_drawn 17 = .ok (.iadd, 1) := by decide +kernel
theorem dX9_drawn_18 : decode cX9_drawn 18 = .ok (.iastore, 1) := by decide +kernel
theorem dX9_drawn_19 : decode cX9_drawn 19 = .ok (.aload_n 0, 1) := by decide +kernel
theorem dX9_drawn_20 : decode cX9_drawn 20 = .ok (.getfield 7, 3) := by decide +kernel
theorem dX9_drawn_23 : decode cX9_drawn 23 = .ok (.iconst 4, 1) := by decide +kernel
theorem dX9_drawn_24 : decode cX9_drawn 24 = .ok (.iaload, 1) := by decide +kernel
theorem dX9_drawn_25 : decode cX9_drawn 25 = .ok (.bipush 8, 2) := by decide +kernel
theorem dX9_drawn_27 : decode cX9_drawn 27 = .ok (.iushr, 1) := by decide +kernel
theorem dX9_drawn_28 : decode cX9_drawn 28 = .ok (.ireturn, 1) := by decide +kernel
theorem dX9_ones_0 : decode cX9_ones 0 = .ok (.iconst 0, 1) := by decide +kernel
theorem dX9_ones_1 : decode cX9_ones 1 = .ok (.istore_n 1, 1) := by decide +kernel
theorem dX9_ones_2 : decode cX9_ones 2 = .ok (.iconst 0, 1) := by decide +kernel
theorem dX9_ones_3 : decode cX9_ones 3 = .ok (.istore_n 2, 1) := by decide +kernel
theorem dX9_ones_4 : decode cX9_ones 4 = .ok (.iload_n 2, 1) := by decide +kernel
theorem dX9_ones_5 : decode cX9_ones 5 = .ok (.bipush 30, 2) := by decide +kernel
theorem dX9_ones_7 : decode cX9_ones 7 = .ok (.if_icmp .ge 17, 3) := by decide +kernel
theorem dX9_ones_10 : decode cX9_ones 10 = .ok (.iload_n 1, 1) := by decide +kernel
theorem dX9_ones_11 : decode cX9_ones 11 = .ok (.iload_n 0, 1) := by decide +kernel
theorem dX9_ones_12 : decode cX9_ones 12 = .ok (.iload_n 2, 1) := by decide +kernel
theorem dX9_ones_13 : decode cX9_ones 13 = .ok (.ishr, 1) := by decide +kernel
theorem dX9_ones_14 : decode cX9_ones 14 = .ok (.iconst 1, 1) := by decide +kernel
theorem dX9_ones_15 : decode cX9_ones 15 = .ok (.iand, 1) := by decide +kernel
theorem dX9_ones_16 : decode cX9_ones 16 = .ok (.iadd, 1) := by decide +kernel
theorem dX9_ones_17 : decode cX9_ones 17 = .ok (.istore_n 1, 1) := by decide +kernel
theorem dX9_ones_18 : decode cX9_ones 18 = .ok (.iinc 2 1, 3) := by decide +kernel
theorem dX9_ones_21 : decode cX9_ones 21 = .ok (.goto (-17), 3) := by decide +kernel
theorem dX9_ones_24 : decode cX9_ones 24 = .ok (.iload_n 1, 1) := by decide +kernel
theorem dX9_ones_25 : decode cX9_ones 25 = .ok (.ireturn, 1) := by decide +kernel
theorem dX9_top_0 : decode cX9_top 0 = .ok (.aload_n 0, 1) := by decide +kernel
theorem dX9_top_1 : decode cX9_top 1 = .ok (.iload_n 1, 1) := by decide +kernel
theorem dX9_top_2 : decode cX9_top 2 = .ok (.iconst 1, 1) := by decide +kernel
theorem dX9_top_3 : decode cX9_top 3 = .ok (.invokevirtual 70, 3) := by decide +kernel
theorem dX9_top_6 : decode cX9_top 6 = .ok (.istore_n 2, 1) := by decide +kernel
theorem dX9_top_7 : decode cX9_top 7 = .ok (.aload_n 0, 1) := by decide +kernel
theorem dX9_top_8 : decode cX9_top 8 = .ok (.iload_n 1, 1) := by decide +kernel
theorem dX9_top_9 : decode cX9_top 9 = .ok (.iconst 0, 1) := by decide +kernel
theorem dX9_top_10 : decode cX9_top 10 = .ok (.invokevirtual 70, 3) := by decide +kernel
theorem dX9_top_13 : decode cX9_top 13 = .ok (.tableswitch 53 2 5 #[31, 35, 39, 43], 31) := by decide +kernel
theorem dX9_top_44 : decode cX9_top 44 = .ok (.iload_n 2, 1) := by decide +kernel
theorem dX9_top_45 : decode cX9_top 45 = .ok (.iconst 2, 1) := by decide +kernel
theorem dX9_top_46 : decode cX9_top 46 = .ok (.iadd, 1) := by decide +kernel
theorem dX9_top_47 : decode cX9_top 47 = .ok (.ireturn, 1) := by decide +kernel
theorem dX9_top_48 : decode cX9_top 48 = .ok (.iload_n 2, 1) := by decide +kernel
theorem dX9_top_49 : decode cX9_top 49 = .ok (.iconst 1, 1) := by decide +kernel
theorem dX9_top_50 : decode cX9_top 50 = .ok (.iadd, 1) := by decide +kernel
theorem dX9_top_51 : decode cX9_top 51 = .ok (.ireturn, 1) := by decide +kernel
theorem dX9_top_52 : decode cX9_top 52 = .ok (.iload_n 2, 1) := by decide +kernel
theorem dX9_top_53 : decode cX9_top 53 = .ok (.iconst 3, 1) := by decide +kernel
theorem dX9_top_54 : decode cX9_top 54 = .ok (.iadd, 1) := by decide +kernel
theorem dX9_top_55 : decode cX9_top 55 = .ok (.ireturn, 1) := by decide +kernel
theorem dX9_top_56 : decode cX9_top 56 = .ok (.iload_n 2, 1) := by decide +kernel
theorem dX9_top_57 : decode cX9_top 57 = .ok (.aload_n 0, 1) := by decide +kernel
theorem dX9_top_58 : decode cX9_top 58 = .ok (.getfield 7, 3) := by decide +kernel
theorem dX9_top_61 : decode cX9_top 61 = .ok (.bipush 10, 2) := by decide +kernel
theorem dX9_top_63 : decode cX9_top 63 = .ok (.iaload, 1) := by decide +kernel
theorem dX9_top_64 : decode cX9_top 64 = .ok (.iadd, 1) := by decide +kernel
theorem dX9_top_65 : decode cX9_top 65 = .ok (.ireturn, 1) := by decide +kernel
theorem dX9_top_66 : decode cX9_top 66 = .ok (.iload_n 2, 1) := by decide +kernel
theorem dX9_top_67 : decode cX9_top 67 = .ok (.ireturn, 1) := by decide +kernel
theorem dX9_room_0 : decode cX9_room 0 = .ok (.bipush 10, 2) := by decide +kernel
theorem dX9_room_2 : decode cX9_room 2 = .ok (.istore_n 2, 1) := by decide +kernel
theorem dX9_room_3 : decode cX9_room 3 = .ok (.aload_n 0, 1) := by decide +kernel
theorem dX9_room_4 : decode cX9_room 4 = .ok (.iconst 2, 1) := by decide +kernel
theorem dX9_room_5 : decode cX9_room 5 = .ok (.invokevirtual 74, 3) := by decide +kernel
theorem dX9_room_8 : decode cX9_room 8 = .ok (.istore_n 3, 1) := by decide +kernel
theorem dX9_room_9 : decode cX9_room 9 = .ok (.iload_n 3, 1) := by decide +kernel
theorem dX9_room_10 : decode cX9_room 10 = .ok (.ifCond .lt 39, 3) := by decide +kernel
theorem dX9_room_13 : decode cX9_room 13 = .ok (.aload_n 0, 1) := by decide +kernel
theorem dX9_room_14 : decode cX9_room 14 = .ok (.getfield 49, 3) := by decide +kernel
theorem dX9_room_17 : decode cX9_room 17 = .ok (.bipush 116, 2) := by decide +kernel
theorem dX9_room_19 : decode cX9_room 19 = .ok (.aload_n 0, 1) := by decide +kernel
theorem dX9_room_20 : decode cX9_room 20 = .ok (.iload_n 1, 1) := by decide +kernel
theorem dX9_room_21 : decode cX9_room 21 = .ok (.invokevirtual 78, 3) := by decide +kernel
theorem dX9_room_24 : decode cX9_room 24 = .ok (.iastore, 1) := by decide +kernel
theorem dX9_room_25 : decode cX9_room 25 = .ok (.aload_n 0, 1) := by decide +kernel
theorem dX9_room_26 : decode cX9_room 26 = .ok (.getfield 49, 3) := by decide +kernel
theorem dX9_room_29 : decode cX9_room 29 = .ok (.bipush 104, 2) := by decide +kernel
theorem dX9_room_31 : decode cX9_room 31 = .ok (.aload_n 0, 1) := by decide +kernel
theorem dX9_room_32 : decode cX9_room 32 = .ok (.iload_n 1, 1) := by decide +kernel
theorem dX9_room_33 : decode cX9_room 33 = .ok (.iconst 1, 1) := by decide +kernel
theorem dX9_room_34 : decode cX9_room 34 = .ok (.invokevirtual 70, 3) := by decide +kernel
theorem dX9_room_37 : decode cX9_room 37 = .ok (.iastore, 1) := by decide +kernel
theorem dX9_room_38 : decode cX9_room 38 = .ok (.aload_n 0, 1) := by decide +kernel
theorem dX9_room_39 : decode cX9_room 39 = .ok (.iload_n 3, 1) := by decide +kernel
theorem dX9_room_40 : decode cX9_room 40 = .ok (.invokevirtual 81, 3) := by decide +kernel
theorem dX9_room_43 : decode cX9_room 43 = .ok (.bipush 99, 2) := by decide +kernel
theorem dX9_room_45 : decode cX9_room 45 = .ok (.invokestatic 84, 3) := by decide +kernel
theorem dX9_room_48 : decode cX9_room 48 = .ok (.istore_n 2, 1) := by decide +kernel
theorem dX9_room_49 : decode cX9_room 49 = .ok (.iload_n 2, 1) := by decide +kernel
theorem dX9_room_50 : decode cX9_room 50 = .ok (.aload_n 0, 1) := by decide +kernel
theorem dX9_room_51 : decode cX9_room 51 = .ok (.iload_n 1, 1) := by decide +kernel
theorem dX9_room_52 : decode cX9_room 52 = .ok (.iconst 2, 1) := by decide +kernel
theorem dX9_room_53 : decode cX9_room 53 = .ok (.invokevirtual 70, 3) := by decide +kernel
theorem dX9_room_56 : decode cX9_room 56 = .ok (.bipush 10, 2) := by decide +kernel
theorem dX9_room_58 : decode cX9_room 58 = .ok (.idiv, 1) := by decide +kernel
theorem dX9_room_59 : decode cX9_room 59 = .ok (.isub, 1) := by decide +kernel
theorem dX9_room_60 : decode cX9_room 60 = .ok (.bipush 99, 2) := by decide +kernel
theorem dX9_room_62 : decode cX9_room 62 = .ok (.invokestatic 84, 3) := by decide +kernel
theorem dX9_room_65 : decode cX9_room 65 = .ok (.istore 4, 2) := by decide +kernel
theorem dX9_room_67 : decode cX9_room 67 = .ok (.aload_n 0, 1) := by decide +kernel
theorem dX9_room_68 : decode cX9_room 68 = .ok (.iload_n 1, 1) := by decide +kernel
theorem dX9_room_69 : decode cX9_room 69 = .ok (.iconst 0, 1) := by decide +kernel
theorem dX9_room_70 : decode cX9_room 70 = .ok (.invokevirtual 70, 3) := by decide +kernel
theorem dX9_room_73 : decode cX9_room 73 = .ok (.tableswitch 54 1 5 #[35, 43, 38, 43, 52], 35) := by decide +kernel
theorem dX9_room_108 : decode cX9_room 108 = .ok (.iload 4, 2) := by decide +kernel
theorem dX9_room_110 : decode cX9_room 110 = .ok (.ireturn, 1) := by decide +kernel
theorem dX9_room_111 : decode cX9_room 111 = .ok (.iload 4, 2) := by decide +kernel
theorem dX9_room_113 : decode cX9_room 113 = .ok (.iconst 2, 1) := by decide +kernel
theorem dX9_room_114 : decode cX9_room 114 = .ok (.idiv, 1) := by decide +kernel
theorem dX9_room_115 : decode cX9_room 115 = .ok (.ireturn, 1) := by decide +kernel
theorem dX9_room_116 : decode cX9_room 116 = .ok (.iload_n 2, 1) := by decide +kernel
theorem dX9_room_117 : decode cX9_room 117 = .ok (.iconst 4, 1) := by decide +kernel
theorem dX9_room_118 : decode cX9_room 118 = .ok (.isub, 1) := by decide +kernel
theorem dX9_room_119 : decode cX9_room 119 = .ok (.bipush 99, 2) := by decide +kernel
theorem dX9_room_121 : decode cX9_room 121 = .ok (.invokestatic 84, 3) := by decide +kernel
theorem dX9_room_124 : decode cX9_room 124 = .ok (.ireturn, 1) := by decide +kernel
theorem dX9_room_125 : decode cX9_room 125 = .ok (.iconst 1, 1) := by decide +kernel
theorem dX9_room_126 : decode cX9_room 126 = .ok (.ireturn, 1) := by decide +kernel
theorem dX9_room_127 : decode cX9_room 127 = .ok (.iload_n 2, 1) := by decide +kernel
theorem dX9_room_128 : decode cX9_room 128 = .ok (.ireturn, 1) := by decide +kernel
theorem dX9_worth_0 : decode cX9_worth 0 = .ok (.aload_n 0, 1) := by decide +kernel
theorem dX9_worth_1 : decode cX9_worth 1 = .ok (.iload_n 1, 1) := by decide +kernel
theorem dX9_worth_2 : decode cX9_worth 2 = .ok (.iconst 1, 1) := by decide +kernel
theorem dX9_worth_3 : decode cX9_worth 3 = .ok (.invokevirtual 70, 3) := by decide +kernel
theorem dX9_worth_6 : decode cX9_worth 6 = .ok (.istore_n 2, 1) := by decide +kernel
theorem dX9_worth_7 : decode cX9_worth 7 = .ok (.aload_n 0, 1) := by decide +kernel
theorem dX9_worth_8 : decode cX9_worth 8 = .ok (.iload_n 1, 1) := by decide +kernel
theorem dX9_worth_9 : decode cX9_worth 9 = .ok (.iconst 0, 1) := by decide +kernel
theorem dX9_worth_10 : decode cX9_worth 10 = .ok (.invokevirtual 70, 3) := by decide +kernel
theorem dX9_worth_13 : decode cX9_worth 13 = .ok (.tableswitch 58 1 5 #[35, 39, 44, 50, 55], 35) := by decide +kernel
theorem dX9_worth_48 : decode cX9_worth 48 = .ok (.iload_n 2, 1) := by decide +kernel
theorem dX9_worth_49 : decode cX9_worth 49 = .ok (.iconst 3, 1) := by decide +kernel
theorem dX9_worth_50 : decode cX9_worth 50 = .ok (.iadd, 1) := by decide +kernel
theorem dX9_worth_51 : decode cX9_worth 51 = .ok (.ireturn, 1) := by decide +kernel
theorem dX9_worth_52 : decode cX9_worth 52 = .ok (.bipush 20, 2) := by decide +kernel
theorem dX9_worth_54 : decode cX9_worth 54 = .ok (.iload_n 2, 1) := by decide +kernel
theorem dX9_worth_55 : decode cX9_worth 55 = .ok (.isub, 1) := by decide +kernel
theorem dX9_worth_56 : decode cX9_worth 56 = .ok (.ireturn, 1) := by decide +kernel
theorem dX9_worth_57 : decode cX9_worth 57 = .ok (.iconst 2, 1) := by decide +kernel
theorem dX9_worth_58 : decode cX9_worth 58 = .ok (.iload_n 2, 1) := by decide +kernel
theorem dX9_worth_59 : decode cX9_worth 59 = .ok (.iconst 3, 1) := by decide +kernel
theorem dX9_worth_60 : decode cX9_worth 60 = .ok (.iadd, 1) := by decide +kernel
theorem dX9_worth_61 : decode cX9_worth 61 = .ok (.imul, 1) := by decide +kernel
theorem dX9_worth_62 : decode cX9_worth 62 = .ok (.ireturn, 1) := by decide +kernel
theorem dX9_worth_63 : decode cX9_worth 63 = .ok (.bipush 29, 2) := by decide +kernel
theorem dX9_worth_65 : decode cX9_worth 65 = .ok (.iload_n 2, 1) := by decide +kernel
theorem dX9_worth_66 : decode cX9_worth 66 = .ok (.isub, 1) := by decide +kernel
theorem dX9_worth_67 : decode cX9_worth 67 = .ok (.ireturn, 1) := by decide +kernel
theorem dX9_worth_68 : decode cX9_worth 68 = .ok (.bipush 50, 2) := by decide +kernel
theorem dX9_worth_70 : decode cX9_worth 70 = .ok (.ireturn, 1) := by decide +kernel
theorem dX9_worth_71 : decode cX9_worth 71 = .ok (.iload_n 2, 1) := by decide +kernel
theorem dX9_worth_72 : decode cX9_worth 72 = .ok (.ireturn, 1) := by decide +kernel
theorem dX9_level_0 : decode cX9_level 0 = .ok (.aload_n 0, 1) := by decide +kernel
theorem dX9_level_1 : decode cX9_level 1 = .ok (.getfield 7, 3) := by decide +kernel
theorem dX9_level_4 : decode cX9_level 4 = .ok (.iconst 2, 1) := by decide +kernel
theorem dX9_level_5 : decode cX9_level 5 = .ok (.iaload, 1) := by decide +kernel
theorem dX9_level_6 : decode cX9_level 6 = .ok (.iload_n 1, 1) := by decide +kernel
theorem dX9_level_7 : decode cX9_level 7 = .ok (.iadd, 1) := by decide +kernel
theorem dX9_level_8 : decode cX9_level 8 = .ok (.istore_n 2, 1) := by decide +kernel
theorem dX9_level_9 : decode cX9_level 9 = .ok (.aload_n 0, 1) := by decide +kernel
theorem dX9_level_10 : decode cX9_level 10 = .ok (.iconst 0, 1) := by decide +kernel
theorem dX9_level_11 : decode cX9_level 11 = .ok (.invokevirtual 74, 3) := by decide +kernel
theorem dX9_level_14 : decode cX9_level 14 = .ok (.istore_n 3, 1) := by decide +kernel
theorem dX9_level_15 : decode cX9_level 15 = .ok (.iload_n 3, 1) := by decide +kernel
theorem dX9_level_16 : decode cX9_level 16 = .ok (.ifCond .lt 50, 3) := by decide +kernel
theorem dX9_level_19 : decode cX9_level 19 = .ok (.aload_n 0, 1) := by decide +kernel
theorem dX9_level_20 : decode cX9_level 20 = .ok (.getfield 49, 3) := by decide +kernel
theorem dX9_level_23 : decode cX9_level 23 = .ok (.bipush 104, 2) := by decide +kernel
theorem dX9_level_25 : decode cX9_level 25 = .ok (.iload_n 2, 1) := by decide +kernel
theorem dX9_level_26 : decode cX9_level 26 = .ok (.bipush 24, 2) := by decide +kernel
theorem dX9_level_28 : decode cX9_level 28 = .ok (.irem, 1) := by decide +kernel
theorem dX9_level_29 : decode cX9_level 29 = .ok (.iastore, 1) := by decide +kernel
theorem dX9_level_30 : decode cX9_level 30 = .ok (.aload_n 0, 1) := by decide +kernel
theorem dX9_level_31 : decode cX9_level 31 = .ok (.getfield 49, 3) := by decide +kernel
theorem dX9_level_34 : decode cX9_level 34 = .ok (.bipush 100, 2) := by decide +kernel
theorem dX9_level_36 : decode cX9_level 36 = .ok (.iload_n 2, 1) := by decide +kernel
theorem dX9_level_37 : decode cX9_level 37 = .ok (.bipush 24, 2) := by decide +kernel
theorem dX9_level_39 : decode cX9_level 39 = .ok (.idiv, 1) := by decide +kernel
theorem dX9_level_40 : decode cX9_level 40 = .ok (.iastore, 1) := by decide +kernel
theorem dX9_level_41 : decode cX9_level 41 = .ok (.aload_n 0, 1) := by decide +kernel
theorem dX9_level_42 : decode cX9_level 42 = .ok (.getfield 49, 3) := by decide +kernel
theorem dX9_level_45 : decode cX9_level 45 = .ok (.bipush 115, 2) := by decide +kernel
theorem dX9_level_47 : decode cX9_level 47 = .ok (.aload_n 0, 1) := by decide +kernel
theorem dX9_level_48 : decode cX9_level 48 = .ok (.getfield 7, 3) := by decide +kernel
theorem dX9_level_51 : decode cX9_level 51 = .ok (.bipush 8, 2) := by decide +kernel
theorem dX9_level_53 : decode cX9_level 53 = .ok (.iaload, 1) := by decide +kernel
theorem dX9_level_54 : decode cX9_level 54 = .ok (.iastore, 1) := by decide +kernel
theorem dX9_level_55 : decode cX9_level 55 = .ok (.aload_n 0, 1) := by decide +kernel
theorem dX9_level_56 : decode cX9_level 56 = .ok (.iload_n 3, 1) := by decide +kernel
theorem dX9_level_57 : decode cX9_level 57 = .ok (.invokevirtual 81, 3) := by decide +kernel
theorem dX9_level_60 : decode cX9_level 60 = .ok (.bipush 40, 2) := by decide +kernel
theorem dX9_level_62 : decode cX9_level 62 = .ok (.invokestatic 84, 3) := by decide +kernel
theorem dX9_level_65 : decode cX9_level 65 = .ok (.ireturn, 1) := by decide +kernel
theorem dX9_level_66 : decode cX9_level 66 = .ok (.iload_n 2, 1) := by decide +kernel
theorem dX9_level_67 : decode cX9_level 67 = .ok (.bipush 12, 2) := by decide +kernel
theorem dX9_level_69 : decode cX9_level 69 = .ok (.irem, 1) := by decide +kernel
theorem dX9_level_70 : decode cX9_level 70 = .ok (.bipush 6, 2) := by decide +kernel
theorem dX9_level_72 : decode cX9_level 72 = .ok (.if_icmp .le 13, 3) := by decide +kernel
theorem dX9_level_75 : decode cX9_level 75 = .ok (.bipush 12, 2) := by decide +kernel
theorem dX9_level_77 : decode cX9_level 77 = .ok (.iload_n 2, 1) := by decide +kernel
theorem dX9_level_78 : decode cX9_level 78 = .ok (.bipush 12, 2) := by decide +kernel
theorem dX9_level_80 : decode cX9_level 80 = .ok (.irem, 1) := by decide +kernel
theorem dX9_level_81 : decode cX9_level 81 = .ok (.isub, 1) := by decide +kernel
theorem dX9_level_82 : decode cX9_level 82 = .ok (.goto 7, 3) := by decide +kernel
theorem dX9_level_85 : decode cX9_level 85 = .ok (.iload_n 2, 1) := by decide +kernel
theorem dX9_level_86 : decode cX9_level 86 = .ok (.bipush 12, 2) := by decide +kernel
theorem dX9_level_88 : decode cX9_level 88 = .ok (.irem, 1) := by decide +kernel
theorem dX9_level_89 : decode cX9_level 89 = .ok (.istore 4, 2) := by decide +kernel
theorem dX9_level_91 : decode cX9_level 91 = .ok (.iload_n 2, 1) := by decide +kernel
theorem dX9_level_92 : decode cX9_level 92 = .ok (.bipush 24, 2) := by decide +kernel
theorem dX9_level_94 : decode cX9_level 94 = .ok (.idiv, 1) := by decide +kernel
theorem dX9_level_95 : decode cX9_level 95 = .ok (.bipush 15, 2) := by decide +kernel
theorem dX9_level_97 : decode cX9_level 97 = .ok (.irem, 1) := by decide +kernel
theorem dX9_level_98 : decode cX9_level 98 = .ok (.ifCond .ne 13, 3) := by decide +kernel
theorem dX9_level_101 : decode cX9_level 101 = .ok (.aload_n 0, 1) := by decide +kernel
theorem dX9_level_102 : decode cX9_level 102 = .ok (.getfield 7, 3) := by decide +kernel
theorem dX9_level_105 : decode cX9_level 105 = .ok (.bipush 7, 2) := by decide +kernel
theorem dX9_level_107 : decode cX9_level 107 = .ok (.iaload, 1) := by decide +kernel
theorem dX9_level_108 : decode cX9_level 108 = .ok (.goto 4, 3) := by decide +kernel
theorem dX9_level_111 : decode cX9_level 111 = .ok (.iconst 0, 1) := by decide +kernel
theorem dX9_level_112 : decode cX9_level 112 = .ok (.istore 5, 2) := by decide +kernel
theorem dX9_level_114 : decode cX9_level 114 = .ok (.aload_n 0, 1) := by decide +kernel
theorem dX9_level_115 : decode cX9_level 115 = .ok (.getfield 7, 3) := by decide +kernel
theorem dX9_level_118 : decode cX9_level 118 = .ok (.iconst 5, 1) := by decide +kernel
theorem dX9_level_119 : decode cX9_level 119 = .ok (.iaload, 1) := by decide +kernel
theorem dX9_level_120 : decode cX9_level 120 = .ok (.bipush 6, 2) := by decide +kernel
theorem dX9_level_122 : decode cX9_level 122 = .ok (.iload 4, 2) := by decide +kernel
theorem dX9_level_124 : decode cX9_level 124 = .ok (.isub, 1) := by decide +kernel
theorem dX9_level_125 : decode cX9_level 125 = .ok (.imul, 1) := by decide +kernel
theorem dX9_level_126 : decode cX9_level 126 = .ok (.aload_n 0, 1) := by decide +kernel
theorem dX9_level_127 : decode cX9_level 127 = .ok (.getfield 7, 3) := by decide +kernel
theorem dX9_level_130 : decode cX9_level 130 = .ok (.bipush 6, 2) := by decide +kernel
theorem dX9_level_132 : decode cX9_level 132 = .ok (.iaload, 1) := by decide +kernel
theorem dX9_level_133 : decode cX9_level 133 = .ok (.iload 4, 2) := by decide +kernel
theorem dX9_level_135 : decode cX9_level 135 = .ok (.imul, 1) := by decide +kernel
theorem dX9_level_136 : decode cX9_level 136 = .ok (.iadd, 1) := by decide +kernel
theorem dX9_level_137 : decode cX9_level 137 = .ok (.bipush 6, 2) := by decide +kernel
theorem dX9_level_139 : decode cX9_level 139 = .ok (.idiv, 1) := by decide +kernel
theorem dX9_level_140 : decode cX9_level 140 = .ok (.iload 5, 2) := by decide +kernel
theorem dX9_level_142 : decode cX9_level 142 = .ok (.iadd, 1) := by decide +kernel
theorem dX9_level_143 : decode cX9_level 143 = .ok (.aload_n 0, 1) := by decide +kernel
theorem dX9_level_144 : decode cX9_level 144 = .ok (.getfield 7, 3) := by decide +kernel
theorem dX9_level_147 : decode cX9_level 147 = .ok (.bipush 8, 2) := by decide +kernel
theorem dX9_level_149 : decode cX9_level 149 = .ok (.iaload, 1) := by decide +kernel
theorem dX9_level_150 : decode cX9_level 150 = .ok (.iadd, 1) := by decide +kernel
theorem dX9_level_151 : decode cX9_level 151 = .ok (.ireturn, 1) := by decide +kernel
theorem dX9_dry_0 : decode cX9_dry 0 = .ok (.aload_n 0, 1) := by decide +kernel
theorem dX9_dry_1 : decode cX9_dry 1 = .ok (.iload_n 1, 1) := by decide +kernel
theorem dX9_dry_2 : decode cX9_dry 2 = .ok (.invokevirtual 87, 3) := by decide +kernel
theorem dX9_dry_5 : decode cX9_dry 5 = .ok (.istore_n 2, 1) := by decide +kernel
theorem dX9_dry_6 : decode cX9_dry 6 = .ok (.iconst 0, 1) := by decide +kernel
theorem dX9_dry_7 : decode cX9_dry 7 = .ok (.istore_n 3, 1) := by decide +kernel
theorem dX9_dry_8 : decode cX9_dry 8 = .ok (.iconst 0, 1) := by decide +kernel
theorem dX9_dry_9 : decode cX9_dry 9 = .ok (.istore 4, 2) := by decide +kernel
theorem dX9_dry_11 : decode cX9_dry 11 = .ok (.iload 4, 2) := by decide +kernel
theorem dX9_dry_13 : decode cX9_dry 13 = .ok (.bipush 30, 2) := by decide +kernel
theorem dX9_dry_15 : decode cX9_dry 15 = .ok (.if_icmp .ge 30, 3) := by decide +kernel
theorem dX9_dry_18 : decode cX9_dry 18 = .ok (.iload_n 3, 1) := by decide +kernel
theorem dX9_dry_19 : decode cX9_dry 19 = .ok (.aload_n 0, 1) := by decide +kernel
theorem dX9_dry_20 : decode cX9_dry 20 = .ok (.iload 4, 2) := by decide +kernel
theorem dX9_dry_22 : decode cX9_dry 22 = .ok (.invokevirtual 78, 3) := by decide +kernel
theorem dX9_dry_25 : decode cX9_dry 25 = .ok (.iload_n 2, 1) := by decide +kernel
theorem dX9_dry_26 : decode cX9_dry 26 = .ok (.if_icmp .le 10, 3) := by decide +kernel
theorem dX9_dry_29 : decode cX9_dry 29 = .ok (.iconst 1, 1) := by decide +kernel
theorem dX9_dry_30 : decode cX9_dry 30 = .ok (.iload 4, 2) := by decide +kernel
theorem dX9_dry_32 : decode cX9_dry 32 = .ok (.ishl, 1) := by decide +kernel
theorem dX9_dry_33 : decode cX9_dry 33 = .ok (.goto 4, 3) := by decide +kernel
theorem dX9_dry_36 : decode cX9_dry 36 = .ok (.iconst 0, 1) := by decide +kernel
theorem dX9_dry_37 : decode cX9_dry 37 = .ok (.ior, 1) := by decide +kernel
theorem dX9_dry_38 : decode cX9_dry 38 = .ok (.istore_n 3, 1) := by decide +kernel
theorem dX9_dry_39 : decode cX9_dry 39 = .ok (.iinc 4 1, 3) := by decide +kernel
theorem dX9_dry_42 : decode cX9_dry 42 = .ok (.goto (-31), 3) := by decide +kernel
theorem dX9_dry_45 : decode cX9_dry 45 = .ok (.iload_n 3, 1) := by decide +kernel
theorem dX9_dry_46 : decode cX9_dry 46 = .ok (.ireturn, 1) := by decide +kernel
theorem dX9_land_0 : decode cX9_land 0 = .ok (.iload_n 1, 1) := by decide +kernel
theorem dX9_land_1 : decode cX9_land 1 = .ok (.invokestatic 90, 3) := by decide +kernel
theorem dX9_land_4 : decode cX9_land 4 = .ok (.ifCond .eq 27, 3) := by decide +kernel
theorem dX9_land_7 : decode cX9_land 7 = .ok (.iload_n 2, 1) := by decide +kernel
theorem dX9_land_8 : decode cX9_land 8 = .ok (.i2l, 1) := by decide +kernel
theorem dX9_land_9 : decode cX9_land 9 = .ok (.lconst 0, 1) := by decide +kernel
theorem dX9_land_10 : decode cX9_land 10 = .ok (.ldc2_w 94, 3) := by decide +kernel
theorem dX9_land_13 : decode cX9_land 13 = .ok (.invokestatic 65, 3) := by decide +kernel
theorem dX9_land_16 : decode cX9_land 16 = .ok (.ifCond .eq 15, 3) := by decide +kernel
theorem dX9_land_19 : decode cX9_land 19 = .ok (.iload_n 3, 1) := by decide +kernel
theorem dX9_land_20 : decode cX9_land 20 = .ok (.i2l, 1) := by decide +kernel
theorem dX9_land_21 : decode cX9_land 21 = .ok (.lconst 0, 1) := by decide +kernel
theorem dX9_land_22 : decode cX9_land 22 = .ok (.ldc2_w 96, 3) := by decide +kernel
theorem dX9_land_25 : decode cX9_land 25 = .ok (.invokestatic 65, 3) := by decide +kernel
theorem dX9_land_28 : decode cX9_land 28 = .ok (.ifCond .ne 6, 3) := by decide +kernel
theorem dX9_land_31 : decode cX9_land 31 = .ok (.ldc 98, 2) := by decide +kernel
theorem dX9_land_33 : decode cX9_land 33 = .ok (.ireturn, 1) := by decide +kernel
theorem dX9_land_34 : decode cX9_land 34 = .ok (.aload_n 0, 1) := by decide +kernel
theorem dX9_land_35 : decode cX9_land 35 = .ok (.iload_n 1, 1) := by decide +kernel
theorem dX9_land_36 : decode cX9_land 36 = .ok (.iconst 1, 1) := by decide +kernel
theorem dX9_land_37 : decode cX9_land 37 = .ok (.iload_n 3, 1) := by decide +kernel
theorem dX9_land_38 : decode cX9_land 38 = .ok (.invokevirtual 99, 3) := by decide +kernel
theorem dX9_land_41 : decode cX9_land 41 = .ok (.aload_n 0, 1) := by decide +kernel
theorem dX9_land_42 : decode cX9_land 42 = .ok (.bipush 11, 2) := by decide +kernel
theorem dX9_land_44 : decode cX9_land 44 = .ok (.iconst 4, 1) := by decide +kernel
theorem dX9_land_45 : decode cX9_land 45 = .ok (.iload_n 1, 1) := by decide +kernel
theorem dX9_land_46 : decode cX9_land 46 = .ok (.imul, 1) := by decide +kernel
theorem dX9_land_47 : decode cX9_land 47 = .ok (.iadd, 1) := by decide +kernel
theorem dX9_land_48 : decode cX9_land 48 = .ok (.iload_n 2, 1) := by decide +kernel
theorem dX9_land_49 : decode cX9_land 49 = .ok (.invokevirtual 103, 3) := by decide +kernel
theorem dX9_land_52 : decode cX9_land 52 = .ok (.ireturn, 1) := by decide +kernel
theorem dX9_told_0 : decode cX9_told 0 = .ok (.iload_n 1, 1) := by decide +kernel
theorem dX9_told_1 : decode cX9_told 1 = .ok (.invokestatic 90, 3) := by decide +kernel
theorem dX9_told_4 : decode cX9_told 4 = .ok (.ifCond .ne 6, 3) := by decide +kernel
theorem dX9_told_7 : decode cX9_told 7 = .ok (.ldc 98, 2) := by decide +kernel
theorem dX9_told_9 : decode cX9_told 9 = .ok (.ireturn, 1) := by decide +kernel
theorem dX9_told_10 : decode cX9_told 10 = .ok (.iload_n 2, 1) := by decide +kernel
theorem dX9_told_11 : decode cX9_told 11 = .ok (.tableswitch 106 0 7 #[45, 45, 52, 58, 64, 70, 77, 87], 45) := by decide +kernel
theorem dX9_told_56 : decode cX9_told 56 = .ok (.aload_n 0, 1) := by decide +kernel
theorem dX9_told_57 : decode cX9_told 57 = .ok (.iload_n 1, 1) := by decide +kernel
theorem dX9_told_58 : decode cX9_told 58 = .ok (.iload_n 2, 1) := by decide +kernel
theorem dX9_told_59 : decode cX9_told 59 = .ok (.invokevirtual 70, 3) := by decide +kernel
theorem dX9_told_62 : decode cX9_told 62 = .ok (.ireturn, 1) := by decide +kernel
theorem dX9_told_63 : decode cX9_told 63 = .ok (.aload_n 0, 1) := by decide +kernel
theorem dX9_told_64 : decode cX9_told 64 = .ok (.iload_n 1, 1) := by decide +kernel
theorem dX9_told_65 : decode cX9_told 65 = .ok (.invokevirtual 78, 3) := by decide +kernel
theorem dX9_told_68 : decode cX9_told 68 = .ok (.ireturn, 1) := by decide +kernel
theorem dX9_told_69 : decode cX9_told 69 = .ok (.aload_n 0, 1) := by decide +kernel
theorem dX9_told_70 : decode cX9_told 70 = .ok (.iload_n 1, 1) := by decide +kernel
theorem dX9_told_71 : decode cX9_told 71 = .ok (.invokevirtual 106, 3) := by decide +kernel
theorem dX9_told_74 : decode cX9_told 74 = .ok (.ireturn, 1) := by decide +kernel
theorem dX9_told_75 : decode cX9_told 75 = .ok (.aload_n 0, 1) := by decide +kernel
theorem dX9_told_76 : decode cX9_told 76 = .ok (.iload_n 1, 1) := by decide +kernel
theorem dX9_told_77 : decode cX9_told 77 = .ok (.invokevirtual 109, 3) := by decide +kernel
theorem dX9_told_80 : decode cX9_told 80 = .ok (.ireturn, 1) := by decide +kernel
theorem dX9_told_81 : decode cX9_told 81 = .ok (.aload_n 0, 1) := by decide +kernel
theorem dX9_told_82 : decode cX9_told 82 = .ok (.iload_n 1, 1) := by decide +kernel
theorem dX9_told_83 : decode cX9_told 83 = .ok (.iconst 2, 1) := by decide +kernel
theorem dX9_told_84 : decode cX9_told 84 = .ok (.invokevirtual 70, 3) := by decide +kernel
theorem dX9_told_87 : decode cX9_told 87 = .ok (.ireturn, 1) := by decide +kernel
theorem dX9_told_88 : decode cX9_told 88 = .ok (.aload_n 0, 1) := by decide +kernel
theorem dX9_told_89 : decode cX9_told 89 = .ok (.iload_n 1, 1) := by decide +kernel
theorem dX9_told_90 : decode cX9_told 90 = .ok (.iconst 3, 1) := by decide +kernel
theorem dX9_told_91 : decode cX9_told 91 = .ok (.invokevirtual 70, 3) := by decide +kernel
theorem dX9_told_94 : decode cX9_told 94 = .ok (.invokestatic 112, 3) := by decide +kernel
theorem dX9_told_97 : decode cX9_told 97 = .ok (.ireturn, 1) := by decide +kernel
theorem dX9_told_98 : decode cX9_told 98 = .ok (.aload_n 0, 1) := by decide +kernel
theorem dX9_told_99 : decode cX9_told 99 = .ok (.iload_n 1, 1) := by decide +kernel
theorem dX9_told_100 : decode cX9_told 100 = .ok (.invokevirtual 78, 3) := by decide +kernel
theorem dX9_told_103 : decode cX9_told 103 = .ok (.aload_n 0, 1) := by decide +kernel
theorem dX9_told_104 : decode cX9_told 104 = .ok (.iconst 0, 1) := by decide +kernel
theorem dX9_told_105 : decode cX9_told 105 = .ok (.invokevirtual 87, 3) := by decide +kernel
theorem dX9_told_108 : decode cX9_told 108 = .ok (.if_icmp .le 7, 3) := by decide +kernel
theorem dX9_told_111 : decode cX9_told 111 = .ok (.iconst 1, 1) := by decide +kernel
theorem dX9_told_112 : decode cX9_told 112 = .ok (.goto 4, 3) := by decide +kernel
theorem dX9_told_115 : decode cX9_told 115 = .ok (.iconst 0, 1) := by decide +kernel
theorem dX9_told_116 : decode cX9_told 116 = .ok (.ireturn, 1) := by decide +kernel
theorem dX9_told_117 : decode cX9_told 117 = .ok (.ldc 98, 2) := by decide +kernel
theorem dX9_told_119 : decode cX9_told 119 = .ok (.ireturn, 1) := by decide +kernel
theorem dX9_isOf_0 : decode cX9_isOf 0 = .ok (.iload_n 0, 1) := by decide +kernel
theorem dX9_isOf_1 : decode cX9_isOf 1 = .ok (.iload_n 1, 1) := by decide +kernel
theorem dX9_isOf_2 : decode cX9_isOf 2 = .ok (.if_icmp .eq 27, 3) := by decide +kernel
theorem dX9_isOf_5 : decode cX9_isOf 5 = .ok (.iload_n 1, 1) := by decide +kernel
theorem dX9_isOf_6 : decode cX9_isOf 6 = .ok (.ifCond .eq 23, 3) := by decide +kernel
theorem dX9_isOf_9 : decode cX9_isOf 9 = .ok (.iload_n 1, 1) := by decide +kernel
theorem dX9_isOf_10 : decode cX9_isOf 10 = .ok (.iconst 1, 1) := by decide +kernel
theorem dX9_isOf_11 : decode cX9_isOf 11 = .ok (.if_icmp .ne 8, 3) := by decide +kernel
theorem dX9_isOf_14 : decode cX9_isOf 14 = .ok (.iload_n 0, 1) := by decide +kernel
theorem dX9_isOf_15 : decode cX9_isOf 15 = .ok (.iconst 3, 1) := by decide +kernel
theorem dX9_isOf_16 : decode cX9_isOf 16 = .ok (.if_icmp .eq 13, 3) := by decide +kernel
theorem dX9_isOf_19 : decode cX9_isOf 19 = .ok (.iload_n 1, 1) := by decide +kernel
theorem dX9_isOf_20 : decode cX9_isOf 20 = .ok (.iconst 2, 1) := by decide +kernel
theorem dX9_isOf_21 : decode cX9_isOf 21 = .ok (.if_icmp .ne 12, 3) := by decide +kernel
theorem dX9_isOf_24 : decode cX9_isOf 24 = .ok (.iload_n 0, 1) := by decide +kernel
theorem dX9_isOf_25 : decode cX9_isOf 25 = .ok (.iconst 4, 1) := by decide +kernel
theorem dX9_isOf_26 : decode cX9_isOf 26 = .ok (.if_icmp .ne 7, 3) := by decide +kernel
theorem dX9_isOf_29 : decode cX9_isOf 29 = .ok (.iconst 1, 1) := by decide +kernel
theorem dX9_isOf_30 : decode cX9_isOf 30 = .ok (.goto 4, 3) := by decide +kernel
theorem dX9_isOf_33 : decode cX9_isOf 33 = .ok (.iconst 0, 1) := by decide +kernel
theorem dX9_isOf_34 : decode cX9_isOf 34 = .ok (.ireturn, 1) := by decide +kernel
theorem dX9_as_0 : decode cX9_as 0 = .ok (.iload_n 1, 1) := by decide +kernel
theorem dX9_as_1 : decode cX9_as 1 = .ok (.invokestatic 90, 3) := by decide +kernel
theorem dX9_as_4 : decode cX9_as 4 = .ok (.ifCond .eq 15, 3) := by decide +kernel
theorem dX9_as_7 : decode cX9_as 7 = .ok (.iload_n 2, 1) := by decide +kernel
theorem dX9_as_8 : decode cX9_as 8 = .ok (.i2l, 1) := by decide +kernel
theorem dX9_as_9 : decode cX9_as 9 = .ok (.lconst 0, 1) := by decide +kernel
theorem dX9_as_10 : decode cX9_as 10 = .ok (.ldc2_w 94, 3) := by decide +kernel
theorem dX9_as_13 : decode cX9_as 13 = .ok (.invokestatic 65, 3) := by decide +kernel
theorem dX9_as_16 : decode cX9_as 16 = .ok (.ifCond .ne 6, 3) := by decide +kernel
theorem dX9_as_19 : decode cX9_as 19 = .ok (.ldc 98, 2) := by decide +kernel
theorem dX9_as_21 : decode cX9_as 21 = .ok (.ireturn, 1) := by decide +kernel
theorem dX9_as_22 : decode cX9_as 22 = .ok (.aload_n 0, 1) := by decide +kernel
theorem dX9_as_23 : decode cX9_as 23 = .ok (.iload_n 1, 1) := by decide +kernel
theorem dX9_as_24 : decode cX9_as 24 = .ok (.iconst 0, 1) := by decide +kernel
theorem dX9_as_25 : decode cX9_as 25 = .ok (.invokevirtual 70, 3) := by decide +kernel
theorem dX9_as_28 : decode cX9_as 28 = .ok (.iload_n 2, 1) := by decide +kernel
theorem dX9_as_29 : decode cX9_as 29 = .ok (.invokestatic 115, 3) := by decide +kernel
theorem dX9_as_32 : decode cX9_as 32 = .ok (.ifCond .eq 12, 3) := by decide +kernel
theorem dX9_as_35 : decode cX9_as 35 = .ok (.aload_n 0, 1) := by decide +kernel
theorem dX9_as_36 : decode cX9_as 36 = .ok (.iload_n 1, 1) := by decide +kernel
theorem dX9_as_37 : decode cX9_as 37 = .ok (.iconst 1, 1) := by decide +kernel
theorem dX9_as_38 : decode cX9_as 38 = .ok (.invokevirtual 70, 3) := by decide +kernel
theorem dX9_as_41 : decode cX9_as 41 = .ok (.goto 5, 3) := by decide +kernel
theorem dX9_as_44 : decode cX9_as 44 = .ok (.ldc 119, 2) := by decide +kernel
theorem dX9_as_46 : decode cX9_as 46 = .ok (.ireturn, 1) := by decide +kernel
theorem dX9_turns_0 : decode cX9_turns 0 = .ok (.iload_n 1, 1) := by decide +kernel
theorem dX9_turns_1 : decode cX9_turns 1 = .ok (.invokestatic 90, 3) := by decide +kernel
theorem dX9_turns_4 : decode cX9_turns 4 = .ok (.ifCond .eq 29, 3) := by decide +kernel
theorem dX9_turns_7 : decode cX9_turns 7 = .ok (.iload_n 2, 1) := by decide +kernel
theorem dX9_turns_8 : decode cX9_turns 8 = .ok (.i2l, 1) := by decide +kernel
theorem dX9_turns_9 : decode cX9_turns 9 = .ok (.lconst 0, 1) := by decide +kernel
theorem dX9_turns_10 : decode cX9_turns 10 = .ok (.ldc2_w 94, 3) := by decide +kernel
theorem dX9_turns_13 : decode cX9_turns 13 = .ok (.invokestatic 65, 3) := by decide +kernel
theorem dX9_turns_16 : decode cX9_turns 16 = .ok (.ifCond .eq 17, 3) := by decide +kernel
theorem dX9_turns_19 : decode cX9_turns 19 = .ok (.aload_n 0, 1) := by decide +kernel
theorem dX9_turns_20 : decode cX9_turns 20 = .ok (.bipush 11, 2) := by decide +kernel
theorem dX9_turns_22 : decode cX9_turns 22 = .ok (.iconst 4, 1) := by decide +kernel
theorem dX9_turns_23 : decode cX9_turns 23 = .ok (.iload_n 1, 1) := by decide +kernel
theorem dX9_turns_24 : decode cX9_turns 24 = .ok (.imul, 1) := by decide +kernel
theorem dX9_turns_25 : decode cX9_turns 25 = .ok (.iadd, 1) := by decide +kernel
theorem dX9_turns_26 : decode cX9_turns 26 = .ok (.iload_n 2, 1) := by decide +kernel
theorem dX9_turns_27 : decode cX9_turns 27 = .ok (.invokevirtual 103, 3) := by decide +kernel
theorem dX9_turns_30 : decode cX9_turns 30 = .ok (.goto 5, 3) := by decide +kernel
theorem dX9_turns_33 : decode cX9_turns 33 = .ok (.ldc 98, 2) := by decide +kernel
theorem dX9_turns_35 : decode cX9_turns 35 = .ok (.ireturn, 1) := by decide +kernel
theorem dX9_set_0 : decode cX9_set 0 = .ok (.iload_n 2, 1) := by decide +kernel
theorem dX9_set_1 : decode cX9_set 1 = .ok (.ifCond .ne 15, 3) := by decide +kernel
theorem dX9_set_4 : decode cX9_set 4 = .ok (.iload_n 3, 1) := by decide +kernel
theorem dX9_set_5 : decode cX9_set 5 = .ok (.i2l, 1) := by decide +kernel
theorem dX9_set_6 : decode cX9_set 6 = .ok (.lconst 0, 1) := by decide +kernel
theorem dX9_set_7 : decode cX9_set 7 = .ok (.ldc2_w 120, 3) := by decide +kernel
theorem dX9_set_10 : decode cX9_set 10 = .ok (.invokestatic 65, 3) := by decide +kernel
theorem dX9_set_13 : decode cX9_set 13 = .ok (.goto 31, 3) := by decide +kernel
theorem dX9_set_16 : decode cX9_set 16 = .ok (.iload_n 2, 1) := by decide +kernel
theorem dX9_set_17 : decode cX9_set 17 = .ok (.iconst 1, 1) := by decide +kernel
theorem dX9_set_18 : decode cX9_set 18 = .ok (.if_icmp .ne 25, 3) := by decide +kernel
theorem dX9_set_21 : decode cX9_set 21 = .ok (.iload_n 3, 1) := by decide +kernel
theorem dX9_set_22 : decode cX9_set 22 = .ok (.ldc 64, 2) := by decide +kernel
theorem dX9_set_24 : decode cX9_set 24 = .ok (.if_icmp .eq 15, 3) := by decide +kernel
theorem dX9_set_27 : decode cX9_set 27 = .ok (.iload_n 3, 1) := by decide +kernel
theorem dX9_set_28 : decode cX9_set 28 = .ok (.i2l, 1) := by decide +kernel
theorem dX9_set_29 : decode cX9_set 29 = .ok (.lconst 0, 1) := by decide +kernel
theorem dX9_set_30 : decode cX9_set 30 = .ok (.ldc2_w 122, 3) := by decide +kernel
theorem dX9_set_33 : decode cX9_set 33 = .ok (.invokestatic 65, 3) := by decide +kernel
theorem dX9_set_36 : decode cX9_set 36 = .ok (.ifCond .eq 7, 3) := by decide +kernel
theorem dX9_set_39 : decode cX9_set 39 = .ok (.iconst 1, 1) := by decide +kernel
theorem dX9_set_40 : decode cX9_set 40 = .ok (.goto 4, 3) := by decide +kernel
theorem dX9_set_43 : decode cX9_set 43 = .ok (.iconst 0, 1) := by decide +kernel
theorem dX9_set_44 : decode cX9_set 44 = .ok (.istore 4, 2) := by decide +kernel
theorem dX9_set_46 : decode cX9_set 46 = .ok (.iload_n 1, 1) := by decide +kernel
theorem dX9_set_47 : decode cX9_set 47 = .ok (.invokestatic 90, 3) := by decide +kernel
theorem dX9_set_50 : decode cX9_set 50 = .ok (.ifCond .eq 8, 3) := by decide +kernel
theorem dX9_set_53 : decode cX9_set 53 = .ok (.iload 4, 2) := by decide +kernel
theorem dX9_set_55 : decode cX9_set 55 = .ok (.ifCond .ne 6, 3) := by decide +kernel
theorem dX9_set_58 : decode cX9_set 58 = .ok (.ldc 98, 2) := by decide +kernel
theorem dX9_set_60 : decode cX9_set 60 = .ok (.ireturn, 1) := by decide +kernel
theorem dX9_set_61 : decode cX9_set 61 = .ok (.aload_n 0, 1) := by decide +kernel
theorem dX9_set_62 : decode cX9_set 62 = .ok (.bipush 11, 2) := by decide +kernel
theorem dX9_set_64 : decode cX9_set 64 = .ok (.iconst 4, 1) := by decide +kernel
theorem dX9_set_65 : decode cX9_set 65 = .ok (.iload_n 1, 1) := by decide +kernel
theorem dX9_set_66 : decode cX9_set 66 = .ok (.imul, 1) := by decide +kernel
theorem dX9_set_67 : decode cX9_set 67 = .ok (.iadd, 1) := by decide +kernel
theorem dX9_set_68 : decode cX9_set 68 = .ok (.iconst 2, 1) := by decide +kernel
theorem dX9_set_69 : decode cX9_set 69 = .ok (.iadd, 1) := by decide +kernel
theorem dX9_set_70 : decode cX9_set 70 = .ok (.iload_n 2, 1) := by decide +kernel
theorem dX9_set_71 : decode cX9_set 71 = .ok (.iadd, 1) := by decide +kernel
theorem dX9_set_72 : decode cX9_set 72 = .ok (.iload_n 3, 1) := by decide +kernel
theorem dX9_set_73 : decode cX9_set 73 = .ok (.ldc 64, 2) := by decide +kernel
theorem dX9_set_75 : decode cX9_set 75 = .ok (.if_icmp .ne 7, 3) := by decide +kernel
theorem dX9_set_78 : decode cX9_set 78 = .ok (.iconst (-1), 1) := by decide +kernel
theorem dX9_set_79 : decode cX9_set 79 = .ok (.goto 4, 3) := by decide +kernel
theorem dX9_set_82 : decode cX9_set 82 = .ok (.iload_n 3, 1) := by decide +kernel
theorem dX9_set_83 : decode cX9_set 83 = .ok (.invokevirtual 103, 3) := by decide +kernel
theorem dX9_set_86 : decode cX9_set 86 = .ok (.istore 5, 2) := by decide +kernel
theorem dX9_set_88 : decode cX9_set 88 = .ok (.iload 5, 2) := by decide +kernel
theorem dX9_set_90 : decode cX9_set 90 = .ok (.invokestatic 112, 3) := by decide +kernel
theorem dX9_set_93 : decode cX9_set 93 = .ok (.ireturn, 1) := by decide +kernel
theorem dX9_mostOf_0 : decode cX9_mostOf 0 = .ok (.iload_n 0, 1) := by decide +kernel
theorem dX9_mostOf_1 : decode cX9_mostOf 1 = .ok (.iconst 2, 1) := by decide +kernel
theorem dX9_mostOf_2 : decode cX9_mostOf 2 = .ok (.if_icmp .eq 8, 3) := by decide +kernel
theorem dX9_mostOf_5 : decode cX9_mostOf 5 = .ok (.iload_n 0, 1) := by decide +kernel
theorem dX9_mostOf_6 : decode cX9_mostOf 6 = .ok (.iconst 3, 1) := by decide +kernel
theorem dX9_mostOf_7 : decode cX9_mostOf 7 = .ok (.if_icmp .ne 8, 3) := by decide +kernel
theorem dX9_mostOf_10 : decode cX9_mostOf 10 = .ok (.bipush 9, 2) := by decide +kernel
theorem dX9_mostOf_12 : decode cX9_mostOf 12 = .ok (.goto 15, 3) := by decide +kernel
theorem dX9_mostOf_15 : decode cX9_mostOf 15 = .ok (.iload_n 0, 1) := by decide +kernel
theorem dX9_mostOf_16 : decode cX9_mostOf 16 = .ok (.iconst 4, 1) := by decide +kernel
theorem dX9_mostOf_17 : decode cX9_mostOf 17 = .ok (.if_icmp .ne 8, 3) := by decide +kernel
theorem dX9_mostOf_20 : decode cX9_mostOf 20 = .ok (.bipush 100, 2) := by decide +kernel
theorem dX9_mostOf_22 : decode cX9_mostOf 22 = .ok (.goto 5, 3) := by decide +kernel
theorem dX9_mostOf_25 : decode cX9_mostOf 25 = .ok (.bipush 20, 2) := by decide +kernel
theorem dX9_mostOf_27 : decode cX9_mostOf 27 = .ok (.ireturn, 1) := by decide +kernel
theorem dX9_sea_0 : decode cX9_sea 0 = .ok (.iload_n 1, 1) := by decide +kernel
theorem dX9_sea_1 : decode cX9_sea 1 = .ok (.i2l, 1) := by decide +kernel
theorem dX9_sea_2 : decode cX9_sea 2 = .ok (.lconst 0, 1) := by decide +kernel
theorem dX9_sea_3 : decode cX9_sea 3 = .ok (.ldc2_w 94, 3) := by decide +kernel
theorem dX9_sea_6 : decode cX9_sea 6 = .ok (.invokestatic 65, 3) := by decide +kernel
theorem dX9_sea_9 : decode cX9_sea 9 = .ok (.ifCond .eq 28, 3) := by decide +kernel
theorem dX9_sea_12 : decode cX9_sea 12 = .ok (.iload_n 2, 1) := by decide +kernel
theorem dX9_sea_13 : decode cX9_sea 13 = .ok (.i2l, 1) := by decide +kernel
theorem dX9_sea_14 : decode cX9_sea 14 = .ok (.lconst 0, 1) := by decide +kernel
theorem dX9_sea_15 : decode cX9_sea 15 = .ok (.iload_n 1, 1) := by decide +kernel
theorem dX9_sea_16 : decode cX9_sea 16 = .ok (.invokestatic 124, 3) := by decide +kernel
theorem dX9_sea_19 : decode cX9_sea 19 = .ok (.i2l, 1) := by decide +kernel
theorem dX9_sea_20 : decode cX9_sea 20 = .ok (.invokestatic 65, 3) := by decide +kernel
theorem dX9_sea_23 : decode cX9_sea 23 = .ok (.ifCond .eq 14, 3) := by decide +kernel
theorem dX9_sea_26 : decode cX9_sea 26 = .ok (.aload_n 0, 1) := by decide +kernel
theorem dX9_sea_27 : decode cX9_sea 27 = .ok (.iconst 5, 1) := by decide +kernel
theorem dX9_sea_28 : decode cX9_sea 28 = .ok (.iload_n 1, 1) := by decide +kernel
theorem dX9_sea_29 : decode cX9_sea 29 = .ok (.iadd, 1) := by decide +kernel
theorem dX9_sea_30 : decode cX9_sea 30 = .ok (.iload_n 2, 1) := by decide +kernel
theorem dX9_sea_31 : decode cX9_sea 31 = .ok (.invokevirtual 103, 3) := by decide +kernel
theorem dX9_sea_34 : decode cX9_sea 34 = .ok (.goto 5, 3) := by decide +kernel
theorem dX9_sea_37 : decode cX9_sea 37 = .ok (.ldc 98, 2) := by decide +kernel
theorem dX9_sea_39 : decode cX9_sea 39 = .ok (.ireturn, 1) := by decide +kernel
theorem dX9_deal_0 : decode cX9_deal 0 = .ok (.iconst 0, 1) := by decide +kernel
theorem dX9_deal_1 : decode cX9_deal 1 = .ok (.istore_n 1, 1) := by decide +kernel
theorem dX9_deal_2 : decode cX9_deal 2 = .ok (.iload_n 1, 1) := by decide +kernel
theorem dX9_deal_3 : decode cX9_deal 3 = .ok (.bipush 30, 2) := by decide +kernel
theorem dX9_deal_5 : decode cX9_deal 5 = .ok (.if_icmp .ge 67, 3) := by decide +kernel
theorem dX9_deal_8 : decode cX9_deal 8 = .ok (.aload_n 0, 1) := by decide +kernel
theorem dX9_deal_9 : decode cX9_deal 9 = .ok (.iload_n 1, 1) := by decide +kernel
theorem dX9_deal_10 : decode cX9_deal 10 = .ok (.iconst 0, 1) := by decide +kernel
theorem dX9_deal_11 : decode cX9_deal 11 = .ok (.aload_n 0, 1) := by decide +kernel
theorem dX9_deal_12 : decode cX9_deal 12 = .ok (.invokevirtual 127, 3) := by decide +kernel
theorem dX9_deal_15 : decode cX9_deal 15 = .ok (.bipush 6, 2) := by decide +kernel
theorem dX9_deal_17 : decode cX9_deal 17 = .ok (.irem, 1) := by decide +kernel
theorem dX9_deal_18 : decode cX9_deal 18 = .ok (.invokevirtual 99, 3) := by decide +kernel
theorem dX9_deal_21 : decode cX9_deal 21 = .ok (.aload_n 0, 1) := by decide +kernel
theorem dX9_deal_22 : decode cX9_deal 22 = .ok (.iload_n 1, 1) := by decide +kernel
theorem dX9_deal_23 : decode cX9_deal 23 = .ok (.iconst 1, 1) := by decide +kernel
theorem dX9_deal_24 : decode cX9_deal 24 = .ok (.aload_n 0, 1) := by decide +kernel
theorem dX9_deal_25 : decode cX9_deal 25 = .ok (.invokevirtual 127, 3) := by decide +kernel
theorem dX9_deal_28 : decode cX9_deal 28 = .ok (.bipush 21, 2) := by decide +kernel
theorem dX9_deal_30 : decode cX9_deal 30 = .ok (.irem, 1) := by decide +kernel
theorem dX9_deal_31 : decode cX9_deal 31 = .ok (.invokevirtual 99, 3) := by decide +kernel
theorem dX9_deal_34 : decode cX9_deal 34 = .ok (.aload_n 0, 1) := by decide +kernel
theorem dX9_deal_35 : decode cX9_deal 35 = .ok (.invokevirtual 127, 3) := by decide +kernel
theorem dX9_deal_38 : decode cX9_deal 38 = .ok (.bipush 9, 2) := by decide +kernel
theorem dX9_deal_40 : decode cX9_deal 40 = .ok (.irem, 1) := by decide +kernel
theorem dX9_deal_41 : decode cX9_deal 41 = .ok (.istore_n 2, 1) := by decide +kernel
theorem dX9_deal_42 : decode cX9_deal 42 = .ok (.aload_n 0, 1) := by decide +kernel
theorem dX9_deal_43 : decode cX9_deal 43 = .ok (.iload_n 1, 1) := by decide +kernel
theorem dX9_deal_44 : decode cX9_deal 44 = .ok (.iconst 3, 1) := by decide +kernel
theorem dX9_deal_45 : decode cX9_deal 45 = .ok (.iload_n 2, 1) := by decide +kernel
theorem dX9_deal_46 : decode cX9_deal 46 = .ok (.bipush 8, 2) := by decide +kernel
theorem dX9_deal_48 : decode cX9_deal 48 = .ok (.if_icmp .ne 7, 3) := by decide +kernel
theorem dX9_deal_51 : decode cX9_deal 51 = .ok (.iconst (-1), 1) := by decide +kernel
theorem dX9_deal_52 : decode cX9_deal 52 = .ok (.goto 4, 3) := by decide +kernel
theorem dX9_deal_55 : decode cX9_deal 55 = .ok (.iload_n 2, 1) := by decide +kernel
theorem dX9_deal_56 : decode cX9_deal 56 = .ok (.invokevirtual 99, 3) := by decide +kernel
theorem dX9_deal_59 : decode cX9_deal 59 = .ok (.aload_n 0, 1) := by decide +kernel
theorem dX9_deal_60 : decode cX9_deal 60 = .ok (.iload_n 1, 1) := by decide +kernel
theorem dX9_deal_61 : decode cX9_deal 61 = .ok (.iconst 2, 1) := by decide +kernel
theorem dX9_deal_62 : decode cX9_deal 62 = .ok (.iconst 0, 1) := by decide +kernel
theorem dX9_deal_63 : decode cX9_deal 63 = .ok (.invokevirtual 99, 3) := by decide +kernel
theorem dX9_deal_66 : decode cX9_deal 66 = .ok (.iinc 1 1, 3) := by decide +kernel
theorem dX9_deal_69 : decode cX9_deal 69 = .ok (.goto (-67), 3) := by decide +kernel
theorem dX9_deal_72 : decode cX9_deal 72 = .ok (.aload_n 0, 1) := by decide +kernel
theorem dX9_deal_73 : decode cX9_deal 73 = .ok (.iconst 0, 1) := by decide +kernel
theorem dX9_deal_74 : decode cX9_deal 74 = .ok (.invokevirtual 131, 3) := by decide +kernel
theorem dX9_deal_77 : decode cX9_deal 77 = .ok (.invokestatic 134, 3) := by decide +kernel
theorem dX9_deal_80 : decode cX9_deal 80 = .ok (.ireturn, 1) := by decide +kernel
theorem dX9_seed_0 : decode cX9_seed 0 = .ok (.aload_n 0, 1) := by decide +kernel
theorem dX9_seed_1 : decode cX9_seed 1 = .ok (.iconst 4, 1) := by decide +kernel
theorem dX9_seed_2 : decode cX9_seed 2 = .ok (.iload_n 1, 1) := by decide +kernel
theorem dX9_seed_3 : decode cX9_seed 3 = .ok (.invokevirtual 103, 3) := by decide +kernel
theorem dX9_seed_6 : decode cX9_seed 6 = .ok (.ireturn, 1) := by decide +kernel
theorem dX9_beside_0 : decode cX9_beside 0 = .ok (.iload_n 0, 1) := by decide +kernel
theorem dX9_beside_1 : decode cX9_beside 1 = .ok (.bipush 6, 2) := by decide +kernel
theorem dX9_beside_3 : decode cX9_beside 3 = .ok (.irem, 1) := by decide +kernel
theorem dX9_beside_4 : decode cX9_beside 4 = .ok (.istore_n 2, 1) := by decide +kernel
theorem dX9_beside_5 : decode cX9_beside 5 = .ok (.iload_n 1, 1) := by decide +kernel
theorem dX9_beside_6 : decode cX9_beside 6 = .ok (.ifCond .ne 10, 3) := by decide +kernel
theorem dX9_beside_9 : decode cX9_beside 9 = .ok (.iload_n 0, 1) := by decide +kernel
theorem dX9_beside_10 : decode cX9_beside 10 = .ok (.bipush 6, 2) := by decide +kernel
theorem dX9_beside_12 : decode cX9_beside 12 = .ok (.iadd, 1) := by decide +kernel
theorem dX9_beside_13 : decode cX9_beside 13 = .ok (.goto 46, 3) := by decide +kernel
theorem dX9_beside_16 : decode cX9_beside 16 = .ok (.iload_n 1, 1) := by decide +kernel
theorem dX9_beside_17 : decode cX9_beside 17 = .ok (.iconst 1, 1) := by decide +kernel
theorem dX9_beside_18 : decode cX9_beside 18 = .ok (.if_icmp .ne 18, 3) := by decide +kernel
theorem dX9_beside_21 : decode cX9_beside 21 = .ok (.iload_n 2, 1) := by decide +kernel
theorem dX9_beside_22 : decode cX9_beside 22 = .ok (.iconst 5, 1) := by decide +kernel
theorem dX9_beside_23 : decode cX9_beside 23 = .ok (.if_icmp .ne 7, 3) := by decide +kernel
theorem dX9_beside_26 : decode cX9_beside 26 = .ok (.iconst (-1), 1) := by decide +kernel
theorem dX9_beside_27 : decode cX9_beside 27 = .ok (.goto 32, 3) := by decide +kernel
theorem dX9_beside_30 : decode cX9_beside 30 = .ok (.iload_n 0, 1) := by decide +kernel
theorem dX9_beside_31 : decode cX9_beside 31 = .ok (.iconst 1, 1) := by decide +kernel
theorem dX9_beside_32 : decode cX9_beside 32 = .ok (.iadd, 1) := by decide +kernel
theorem dX9_beside_33 : decode cX9_beside 33 = .ok (.goto 26, 3) := by decide +kernel
theorem dX9_beside_36 : decode cX9_beside 36 = .ok (.iload_n 1, 1) := by decide +kernel
theorem dX9_beside_37 : decode cX9_beside 37 = .ok (.iconst 2, 1) := by decide +kernel
theorem dX9_beside_38 : decode cX9_beside 38 = .ok (.if_icmp .ne 10, 3) := by decide +kernel
theorem dX9_beside_41 : decode cX9_beside 41 = .ok (.iload_n 0, 1) := by decide +kernel
theorem dX9_beside_42 : decode cX9_beside 42 = .ok (.bipush 6, 2) := by decide +kernel
theorem dX9_beside_44 : decode cX9_beside 44 = .ok (.isub, 1) := by decide +kernel
theorem dX9_beside_45 : decode cX9_beside 45 = .ok (.goto 14, 3) := by decide +kernel
theorem dX9_beside_48 : decode cX9_beside 48 = .ok (.iload_n 2, 1) := by decide +kernel
theorem dX9_beside_49 : decode cX9_beside 49 = .ok (.ifCond .ne 7, 3) := by decide +kernel
theorem dX9_beside_52 : decode cX9_beside 52 = .ok (.iconst (-1), 1) := by decide +kernel
theorem dX9_beside_53 : decode cX9_beside 53 = .ok (.goto 6, 3) := by decide +kernel
theorem dX9_beside_56 : decode cX9_beside 56 = .ok (.iload_n 0, 1) := by decide +kernel
theorem dX9_beside_57 : decode cX9_beside 57 = .ok (.iconst 1, 1) := by decide +kernel
theorem dX9_beside_58 : decode cX9_beside 58 = .ok (.isub, 1) := by decide +kernel
theorem dX9_beside_59 : decode cX9_beside 59 = .ok (.istore_n 3, 1) := by decide +kernel
theorem dX9_beside_60 : decode cX9_beside 60 = .ok (.iload_n 3, 1) := by decide +kernel
theorem dX9_beside_61 : decode cX9_beside 61 = .ok (.invokestatic 90, 3) := by decide +kernel
theorem dX9_beside_64 : decode cX9_beside 64 = .ok (.ifCond .eq 7, 3) := by decide +kernel
theorem dX9_beside_67 : decode cX9_beside 67 = .ok (.iload_n 3, 1) := by decide +kernel
theorem dX9_beside_68 : decode cX9_beside 68 = .ok (.goto 4, 3) := by decide +kernel
theorem dX9_beside_71 : decode cX9_beside 71 = .ok (.iconst (-1), 1) := by decide +kernel
theorem dX9_beside_72 : decode cX9_beside 72 = .ok (.ireturn, 1) := by decide +kernel
theorem dX9_spread_0 : decode cX9_spread 0 = .ok (.iload_n 0, 1) := by decide +kernel
theorem dX9_spread_1 : decode cX9_spread 1 = .ok (.istore_n 1, 1) := by decide +kernel
theorem dX9_spread_2 : decode cX9_spread 2 = .ok (.iconst 0, 1) := by decide +kernel
theorem dX9_spread_3 : decode cX9_spread 3 = .ok (.istore_n 2, 1) := by decide +kernel
theorem dX9_spread_4 : decode cX9_spread 4 = .ok (.iload_n 2, 1) := by decide +kernel
theorem dX9_spread_5 : decode cX9_spread 5 = .ok (.bipush 30, 2) := by decide +kernel
theorem dX9_spread_7 : decode cX9_spread 7 = .ok (.if_icmp .ge 53, 3) := by decide +kernel
theorem dX9_spread_10 : decode cX9_spread 10 = .ok (.iconst 0, 1) := by decide +kernel
theorem dX9_spread_11 : decode cX9_spread 11 = .ok (.istore_n 3, 1) := by decide +kernel
theorem dX9_spread_12 : decode cX9_spread 12 = .ok (.iload_n 3, 1) := by decide +kernel
theorem dX9_spread_13 : decode cX9_spread 13 = .ok (.iconst 4, 1) := by decide +kernel
theorem dX9_spread_14 : decode cX9_spread 14 = .ok (.if_icmp .ge 40, 3) := by decide +kernel
theorem dX9_spread_17 : decode cX9_spread 17 = .ok (.iload_n 0, 1) := by decide +kernel
theorem dX9_spread_18 : decode cX9_spread 18 = .ok (.iload_n 2, 1) := by decide +kernel
theorem dX9_spread_19 : decode cX9_spread 19 = .ok (.ishr, 1) := by decide +kernel
theorem dX9_spread_20 : decode cX9_spread 20 = .ok (.iconst 1, 1) := by decide +kernel
theorem dX9_spread_21 : decode cX9_spread 21 = .ok (.iand, 1) := by decide +kernel
theorem dX9_spread_22 : decode cX9_spread 22 = .ok (.iconst 1, 1) := by decide +kernel
theorem dX9_spread_23 : decode cX9_spread 23 = .ok (.if_icmp .ne 31, 3) := by decide +kernel
theorem dX9_spread_26 : decode cX9_spread 26 = .ok (.iload_n 1, 1) := by decide +kernel
theorem dX9_spread_27 : decode cX9_spread 27 = .ok (.iload_n 2, 1) := by decide +kernel
theorem dX9_spread_28 : decode cX9_spread 28 = .ok (.iload_n 3, 1) := by decide +kernel
theorem dX9_spread_29 : decode cX9_spread 29 = .ok (.invokestatic 137, 3) := by decide +kernel
theorem dX9_spread_32 : decode cX9_spread 32 = .ok (.ifCond .ge 7, 3) := by decide +kernel
theorem dX9_spread_35 : decode cX9_spread 35 = .ok (.iconst 0, 1) := by decide +kernel
theorem dX9_spread_36 : decode cX9_spread 36 = .ok (.goto 10, 3) := by decide +kernel
theorem dX9_spread_39 : decode cX9_spread 39 = .ok (.iconst 1, 1) := by decide +kernel
theorem dX9_spread_40 : decode cX9_spread 40 = .ok (.iload_n 2, 1) := by decide +kernel
theorem dX9_spread_41 : decode cX9_spread 41 = .ok (.iload_n 3, 1) := by decide +kernel
theorem dX9_spread_42 : decode cX9_spread 42 = .ok (.invokestatic 137, 3) := by decide +kernel
theorem dX9_spread_45 : decode cX9_spread 45 = .ok (.ishl, 1) := by decide +kernel
theorem dX9_spread_46 : decode cX9_spread 46 = .ok (.ior, 1) := by decide +kernel
theorem dX9_spread_47 : decode cX9_spread 47 = .ok (.istore_n 1, 1) := by decide +kernel
theorem dX9_spread_48 : decode cX9_spread 48 = .ok (.iinc 3 1, 3) := by decide +kernel
theorem dX9_spread_51 : decode cX9_spread 51 = .ok (.goto (-39), 3) := by decide +kernel
theorem dX9_spread_54 : decode cX9_spread 54 = .ok (.iinc 2 1, 3) := by decide +kernel
theorem dX9_spread_57 : decode cX9_spread 57 = .ok (.goto (-53), 3) := by decide +kernel
theorem dX9_spread_60 : decode cX9_spread 60 = .ok (.iload_n 1, 1) := by decide +kernel
theorem dX9_spread_61 : decode cX9_spread 61 = .ok (.ireturn, 1) := by decide +kernel
theorem dX9_partOf_0 : decode cX9_partOf 0 = .ok (.iconst 1, 1) := by decide +kernel
theorem dX9_partOf_1 : decode cX9_partOf 1 = .ok (.iload_n 1, 1) := by decide +kernel
theorem dX9_partOf_2 : decode cX9_partOf 2 = .ok (.ishl, 1) := by decide +kernel
theorem dX9_partOf_3 : decode cX9_partOf 3 = .ok (.istore_n 2, 1) := by decide +kernel
theorem dX9_partOf_4 : decode cX9_partOf 4 = .ok (.iconst 0, 1) := by decide +kernel
theorem dX9_partOf_5 : decode cX9_partOf 5 = .ok (.istore_n 3, 1) := by decide +kernel
theorem dX9_partOf_6 : decode cX9_partOf 6 = .ok (.iload_n 2, 1) := by decide +kernel
theorem dX9_partOf_7 : decode cX9_partOf 7 = .ok (.iload_n 3, 1) := by decide +kernel
theorem dX9_partOf_8 : decode cX9_partOf 8 = .ok (.if_icmp .eq 15, 3) := by decide +kernel
theorem dX9_partOf_11 : decode cX9_partOf 11 = .ok (.iload_n 2, 1) := by decide +kernel
theorem dX9_partOf_12 : decode cX9_partOf 12 = .ok (.istore_n 3, 1) := by decide +kernel
theorem dX9_partOf_13 : decode cX9_partOf 13 = .ok (.iload_n 3, 1) := by decide +kernel
theorem dX9_partOf_14 : decode cX9_partOf 14 = .ok (.invokestatic 140, 3) := by decide +kernel
theorem dX9_partOf_17 : decode cX9_partOf 17 = .ok (.iload_n 0, 1) := by decide +kernel
theorem dX9_partOf_18 : decode cX9_partOf 18 = .ok (.iand, 1) := by decide +kernel
theorem dX9_partOf_19 : decode cX9_partOf 19 = .ok (.istore_n 2, 1) := by decide +kernel
theorem dX9_partOf_20 : decode cX9_partOf 20 = .ok (.goto (-14), 3) := by decide +kernel
theorem dX9_partOf_23 : decode cX9_partOf 23 = .ok (.iload_n 2, 1) := by decide +kernel
theorem dX9_partOf_24 : decode cX9_partOf 24 = .ok (.ireturn, 1) := by decide +kernel
theorem dX9_partsOf_0 : decode cX9_partsOf 0 = .ok (.iload_n 0, 1) := by decide +kernel
theorem dX9_partsOf_1 : decode cX9_partsOf 1 = .ok (.istore_n 1, 1) := by decide +kernel
theorem dX9_partsOf_2 : decode cX9_partsOf 2 = .ok (.iconst 0, 1) := by decide +kernel
theorem dX9_partsOf_3 : decode cX9_partsOf 3 = .ok (.istore_n 2, 1) := by decide +kernel
theorem dX9_partsOf_4 : decode cX9_partsOf 4 = .ok (.iconst 0, 1) := by decide +kernel
theorem dX9_partsOf_5 : decode cX9_partsOf 5 = .ok (.istore_n 3, 1) := by decide +kernel
theorem dX9_partsOf_6 : decode cX9_partsOf 6 = .ok (.iload_n 3, 1) := by decide +kernel
theorem dX9_partsOf_7 : decode cX9_partsOf 7 = .ok (.bipush 30, 2) := by decide +kernel
theorem dX9_partsOf_9 : decode cX9_partsOf 9 = .ok (.if_icmp .ge 31, 3) := by decide +kernel
theorem dX9_partsOf_12 : decode cX9_partsOf 12 = .ok (.iload_n 1, 1) := by decide +kernel
theorem dX9_partsOf_13 : decode cX9_partsOf 13 = .ok (.iload_n 3, 1) := by decide +kernel
theorem dX9_partsOf_14 : decode cX9_partsOf 14 = .ok (.ishr, 1) := by decide +kernel
theorem dX9_partsOf_15 : decode cX9_partsOf 15 = .ok (.iconst 1, 1) := by decide +kernel
theorem dX9_partsOf_16 : decode cX9_partsOf 16 = .ok (.iand, 1) := by decide +kernel
theorem dX9_partsOf_17 : decode cX9_partsOf 17 = .ok (.iconst 1, 1) := by decide +kernel
theorem dX9_partsOf_18 : decode cX9_partsOf 18 = .ok (.if_icmp .ne 16, 3) := by decide +kernel
theorem dX9_partsOf_21 : decode cX9_partsOf 21 = .ok (.iload_n 1, 1) := by decide +kernel
theorem dX9_partsOf_22 : decode cX9_partsOf 22 = .ok (.iload_n 0, 1) := by decide +kernel
theorem dX9_partsOf_23 : decode cX9_partsOf 23 = .ok (.iload_n 3, 1) := by decide +kernel
theorem dX9_partsOf_24 : decode cX9_partsOf 24 = .ok (.invokestatic 143, 3) := by decide +kernel
theorem dX9_partsOf_27 : decode cX9_partsOf 27 = .ok (.iconst (-1), 1) := by decide +kernel
theorem dX9_partsOf_28 : decode cX9_partsOf 28 = .ok (.ixor, 1) := by decide +kernel
theorem dX9_partsOf_29 : decode cX9_partsOf 29 = .ok (.iand, 1) := by decide +kernel
theorem dX9_partsOf_30 : decode cX9_partsOf 30 = .ok (.istore_n 1, 1) := by decide +kernel
theorem dX9_partsOf_31 : decode cX9_partsOf 31 = .ok (.iinc 2 1, 3) := by decide +kernel
theorem dX9_partsOf_34 : decode cX9_partsOf 34 = .ok (.iinc 3 1, 3) := by decide +kernel
theorem dX9_partsOf_37 : decode cX9_partsOf 37 = .ok (.goto (-31), 3) := by decide +kernel
theorem dX9_partsOf_40 : decode cX9_partsOf 40 = .ok (.iload_n 2, 1) := by decide +kernel
theorem dX9_partsOf_41 : decode cX9_partsOf 41 = .ok (.ireturn, 1) := by decide +kernel
theorem dX9_isAhead_0 : decode cX9_isAhead 0 = .ok (.iload_n 0, 1) := by decide +kernel
theorem dX9_isAhead_1 : decode cX9_isAhead 1 = .ok (.i2l, 1) := by decide +kernel
theorem dX9_isAhead_2 : decode cX9_isAhead 2 = .ok (.lconst 0, 1) := by decide +kernel
theorem dX9_isAhead_3 : decode cX9_isAhead 3 = .ok (.ldc2_w 146, 3) := by decide +kernel
theorem dX9_isAhead_6 : decode cX9_isAhead 6 = .ok (.invokestatic 65, 3) := by decide +kernel
theorem dX9_isAhead_9 : decode cX9_isAhead 9 = .ok (.ireturn, 1) := by decide +kernel
theorem dX9_sky_0 : decode cX9_sky 0 = .ok (.iload_n 1, 1) := by decide +kernel
theorem dX9_sky_1 : decode cX9_sky 1 = .ok (.invokestatic 148, 3) := by decide +kernel
theorem dX9_sky_4 : decode cX9_sky 4 = .ok (.ifCond .eq 15, 3) := by decide +kernel
theorem dX9_sky_7 : decode cX9_sky 7 = .ok (.iload_n 2, 1) := by decide +kernel
theorem dX9_sky_8 : decode cX9_sky 8 = .ok (.i2l, 1) := by decide +kernel
theorem dX9_sky_9 : decode cX9_sky 9 = .ok (.lconst 0, 1) := by decide +kernel
theorem dX9_sky_10 : decode cX9_sky 10 = .ok (.ldc2_w 151, 3) := by decide +kernel
theorem dX9_sky_13 : decode cX9_sky 13 = .ok (.invokestatic 65, 3) := by decide +kernel
theorem dX9_sky_16 : decode cX9_sky 16 = .ok (.ifCond .ne 6, 3) := by decide +kernel
theorem dX9_sky_19 : decode cX9_sky 19 = .ok (.ldc 98, 2) := by decide +kernel
theorem dX9_sky_21 : decode cX9_sky 21 = .ok (.ireturn, 1) := by decide +kernel
theorem dX9_sky_22 : decode cX9_sky 22 = .ok (.iload_n 2, 1) := by decide +kernel
theorem dX9_sky_23 : decode cX9_sky 23 = .ok (.ifCond .ne 11, 3) := by decide +kernel
theorem dX9_sky_26 : decode cX9_sky 26 = .ok (.aload_n 0, 1) := by decide +kernel
theorem dX9_sky_27 : decode cX9_sky 27 = .ok (.iload_n 1, 1) := by decide +kernel
theorem dX9_sky_28 : decode cX9_sky 28 = .ok (.invokevirtual 87, 3) := by decide +kernel
theorem dX9_sky_31 : decode cX9_sky 31 = .ok (.goto 27, 3) := by decide +kernel
theorem dX9_sky_34 : decode cX9_sky 34 = .ok (.iload_n 2, 1) := by decide +kernel
theorem dX9_sky_35 : decode cX9_sky 35 = .ok (.iconst 1, 1) := by decide +kernel
theorem dX9_sky_36 : decode cX9_sky 36 = .ok (.if_icmp .ne 14, 3) := by decide +kernel
theorem dX9_sky_39 : decode cX9_sky 39 = .ok (.aload_n 0, 1) := by decide +kernel
theorem dX9_sky_40 : decode cX9_sky 40 = .ok (.iload_n 1, 1) := by decide +kernel
theorem dX9_sky_41 : decode cX9_sky 41 = .ok (.invokevirtual 131, 3) := by decide +kernel
theorem dX9_sky_44 : decode cX9_sky 44 = .ok (.invokestatic 134, 3) := by decide +kernel
theorem dX9_sky_47 : decode cX9_sky 47 = .ok (.goto 11, 3) := by decide +kernel
theorem dX9_sky_50 : decode cX9_sky 50 = .ok (.aload_n 0, 1) := by decide +kernel
theorem dX9_sky_51 : decode cX9_sky 51 = .ok (.iload_n 1, 1) := by decide +kernel
theorem dX9_sky_52 : decode cX9_sky 52 = .ok (.invokevirtual 131, 3) := by decide +kernel
theorem dX9_sky_55 : decode cX9_sky 55 = .ok (.invokestatic 153, 3) := by decide +kernel
theorem dX9_sky_58 : decode cX9_sky 58 = .ok (.ireturn, 1) := by decide +kernel
theorem dX9_worst_0 : decode cX9_worst 0 = .ok (.iload_n 1, 1) := by decide +kernel
theorem dX9_worst_1 : decode cX9_worst 1 = .ok (.i2l, 1) := by decide +kernel
theorem dX9_worst_2 : decode cX9_worst 2 = .ok (.lconst 1, 1) := by decide +kernel
theorem dX9_worst_3 : decode cX9_worst 3 = .ok (.ldc2_w 120, 3) := by decide +kernel
theorem dX9_worst_6 : decode cX9_worst 6 = .ok (.invokestatic 65, 3) := by decide +kernel
theorem dX9_worst_9 : decode cX9_worst 9 = .ok (.ifCond .eq 13, 3) := by decide +kernel
theorem dX9_worst_12 : decode cX9_worst 12 = .ok (.iload_n 2, 1) := by decide +kernel
theorem dX9_worst_13 : decode cX9_worst 13 = .ok (.i2l, 1) := by decide +kernel
theorem dX9_worst_14 : decode cX9_worst 14 = .ok (.lconst 0, 1) := by decide +kernel
theorem dX9_worst_15 : decode cX9_worst 15 = .ok (.lconst 1, 1) := by decide +kernel
theorem dX9_worst_16 : decode cX9_worst 16 = .ok (.invokestatic 65, 3) := by decide +kernel
theorem dX9_worst_19 : decode cX9_worst 19 = .ok (.ifCond .ne 6, 3) := by decide +kernel
theorem dX9_worst_22 : decode cX9_worst 22 = .ok (.ldc 98, 2) := by decide +kernel
theorem dX9_worst_24 : decode cX9_worst 24 = .ok (.ireturn, 1) := by decide +kernel
theorem dX9_worst_25 : decode cX9_worst 25 = .ok (.iconst 0, 1) := by decide +kernel
theorem dX9_worst_26 : decode cX9_worst 26 = .ok (.istore_n 3, 1) := by decide +kernel
theorem dX9_worst_27 : decode cX9_worst 27 = .ok (.bipush 31, 2) := by decide +kernel
theorem dX9_worst_29 : decode cX9_worst 29 = .ok (.istore 4, 2) := by decide +kernel
theorem dX9_worst_31 : decode cX9_worst 31 = .ok (.iconst 0, 1) := by decide +kernel
theorem dX9_worst_32 : decode cX9_worst 32 = .ok (.istore 5, 2) := by decide +kernel
theorem dX9_worst_34 : decode cX9_worst 34 = .ok (.iload 5, 2) := by decide +kernel
theorem dX9_worst_36 : decode cX9_worst 36 = .ok (.iload_n 1, 1) := by decide +kernel
theorem dX9_worst_37 : decode cX9_worst 37 = .ok (.if_icmp .ge 50, 3) := by decide +kernel
theorem dX9_worst_40 : decode cX9_worst 40 = .ok (.aload_n 0, 1) := by decide +kernel
theorem dX9_worst_41 : decode cX9_worst 41 = .ok (.iload 5, 2) := by decide +kernel
theorem dX9_worst_43 : decode cX9_worst 43 = .ok (.invokevirtual 131, 3) := by decide +kernel
theorem dX9_worst_46 : decode cX9_worst 46 = .ok (.invokestatic 134, 3) := by decide +kernel
theorem dX9_worst_49 : decode cX9_worst 49 = .ok (.istore 6, 2) := by decide +kernel
theorem dX9_worst_51 : decode cX9_worst 51 = .ok (.iload 6, 2) := by decide +kernel
theorem dX9_worst_53 : decode cX9_worst 53 = .ok (.iload 4, 2) := by decide +kernel
theorem dX9_worst_55 : decode cX9_worst 55 = .ok (.if_icmp .ge 8, 3) := by decide +kernel
theorem dX9_worst_58 : decode cX9_worst 58 = .ok (.iload 5, 2) := by decide +kernel
theorem dX9_worst_60 : decode cX9_worst 60 = .ok (.goto 4, 3) := by decide +kernel
theorem dX9_worst_63 : decode cX9_worst 63 = .ok (.iload_n 3, 1) := by decide +kernel
theorem dX9_worst_64 : decode cX9_worst 64 = .ok (.istore_n 3, 1) := by decide +kernel
theorem dX9_worst_65 : decode cX9_worst 65 = .ok (.iload 6, 2) := by decide +kernel
theorem dX9_worst_67 : decode cX9_worst 67 = .ok (.iload 4, 2) := by decide +kernel
theorem dX9_worst_69 : decode cX9_worst 69 = .ok (.if_icmp .ge 8, 3) := by decide +kernel
theorem dX9_worst_72 : decode cX9_worst 72 = .ok (.iload 6, 2) := by decide +kernel
theorem dX9_worst_74 : decode cX9_worst 74 = .ok (.goto 5, 3) := by decide +kernel
theorem dX9_worst_77 : decode cX9_worst 77 = .ok (.iload 4, 2) := by decide +kernel
theorem dX9_worst_79 : decode cX9_worst 79 = .ok (.istore 4, 2) := by decide +kernel
theorem dX9_worst_81 : decode cX9_worst 81 = .ok (.iinc 5 1, 3) := by decide +kernel
theorem dX9_worst_84 : decode cX9_worst 84 = .ok (.goto (-50), 3) := by decide +kernel
theorem dX9_worst_87 : decode cX9_worst 87 = .ok (.iload_n 2, 1) := by decide +kernel
theorem dX9_worst_88 : decode cX9_worst 88 = .ok (.ifCond .ne 7, 3) := by decide +kernel
theorem dX9_worst_91 : decode cX9_worst 91 = .ok (.iload_n 3, 1) := by decide +kernel
theorem dX9_worst_92 : decode cX9_worst 92 = .ok (.goto 5, 3) := by decide +kernel
theorem dX9_worst_95 : decode cX9_worst 95 = .ok (.iload 4, 2) := by decide +kernel
theorem dX9_worst_97 : decode cX9_worst 97 = .ok (.ireturn, 1) := by decide +kernel
theorem dX9_isDry_0 : decode cX9_isDry 0 = .ok (.aload_n 0, 1) := by decide +kernel
theorem dX9_isDry_1 : decode cX9_isDry 1 = .ok (.iload_n 1, 1) := by decide +kernel
theorem dX9_isDry_2 : decode cX9_isDry 2 = .ok (.invokevirtual 78, 3) := by decide +kernel
theorem dX9_isDry_5 : decode cX9_isDry 5 = .ok (.aload_n 0, 1) := by decide +kernel
theorem dX9_isDry_6 : decode cX9_isDry 6 = .ok (.iload_n 2, 1) := by decide +kernel
theorem dX9_isDry_7 : decode cX9_isDry 7 = .ok (.invokevirtual 87, 3) := by decide +kernel
theorem dX9_isDry_10 : decode cX9_isDry 10 = .ok (.if_icmp .le 7, 3) := by decide +kernel
theorem dX9_isDry_13 : decode cX9_isDry 13 = .ok (.iconst 1, 1) := by decide +kernel
theorem dX9_isDry_14 : decode cX9_isDry 14 = .ok (.goto 4, 3) := by decide +kernel
theorem dX9_isDry_17 : decode cX9_isDry 17 = .ok (.iconst 0, 1) := by decide +kernel
theorem dX9_isDry_18 : decode cX9_isDry 18 = .ok (.ireturn, 1) := by decide +kernel
theorem dX9_dryFor_0 : decode cX9_dryFor 0 = .ok (.iload_n 1, 1) := by decide +kernel
theorem dX9_dryFor_1 : decode cX9_dryFor 1 = .ok (.invokestatic 90, 3) := by decide +kernel
theorem dX9_dryFor_4 : decode cX9_dryFor 4 = .ok (.ifCond .ne 6, 3) := by decide +kernel
theorem dX9_dryFor_7 : decode cX9_dryFor 7 = .ok (.ldc 98, 2) := by decide +kernel
theorem dX9_dryFor_9 : decode cX9_dryFor 9 = .ok (.ireturn, 1) := by decide +kernel
theorem dX9_dryFor_10 : decode cX9_dryFor 10 = .ok (.iconst 0, 1) := by decide +kernel
theorem dX9_dryFor_11 : decode cX9_dryFor 11 = .ok (.istore_n 2, 1) := by decide +kernel
theorem dX9_dryFor_12 : decode cX9_dryFor 12 = .ok (.iload_n 2, 1) := by decide +kernel
theorem dX9_dryFor_13 : decode cX9_dryFor 13 = .ok (.bipush 48, 2) := by decide +kernel
theorem dX9_dryFor_15 : decode cX9_dryFor 15 = .ok (.if_icmp .ge 18, 3) := by decide +kernel
theorem dX9_dryFor_18 : decode cX9_dryFor 18 = .ok (.aload_n 0, 1) := by decide +kernel
theorem dX9_dryFor_19 : decode cX9_dryFor 19 = .ok (.iload_n 1, 1) := by decide +kernel
theorem dX9_dryFor_20 : decode cX9_dryFor 20 = .ok (.iload_n 2, 1) := by decide +kernel
theorem dX9_dryFor_21 : decode cX9_dryFor 21 = .ok (.invokevirtual 156, 3) := by decide +kernel
theorem dX9_dryFor_24 : decode cX9_dryFor 24 = .ok (.ifCond .eq 9, 3) := by decide +kernel
theorem dX9_dryFor_27 : decode cX9_dryFor 27 = .ok (.iinc 2 1, 3) := by decide +kernel
theorem dX9_dryFor_30 : decode cX9_dryFor 30 = .ok (.goto (-18), 3) := by decide +kernel
theorem dX9_dryFor_33 : decode cX9_dryFor 33 = .ok (.iload_n 2, 1) := by decide +kernel
theorem dX9_dryFor_34 : decode cX9_dryFor 34 = .ok (.ireturn, 1) := by decide +kernel
theorem dX9_window_0 : decode cX9_window 0 = .ok (.iload_n 1, 1) := by decide +kernel
theorem dX9_window_1 : decode cX9_window 1 = .ok (.invokestatic 90, 3) := by decide +kernel
theorem dX9_window_4 : decode cX9_window 4 = .ok (.ifCond .eq 15, 3) := by decide +kernel
theorem dX9_window_7 : decode cX9_window 7 = .ok (.iload_n 2, 1) := by decide +kernel
theorem dX9_window_8 : decode cX9_window 8 = .ok (.i2l, 1) := by decide +kernel
theorem dX9_window_9 : decode cX9_window 9 = .ok (.lconst 1, 1) := by decide +kernel
theorem dX9_window_10 : decode cX9_window 10 = .ok (.ldc2_w 159, 3) := by decide +kernel
theorem dX9_window_13 : decode cX9_window 13 = .ok (.invokestatic 65, 3) := by decide +kernel
theorem dX9_window_16 : decode cX9_window 16 = .ok (.ifCond .ne 6, 3) := by decide +kernel
theorem dX9_window_19 : decode cX9_window 19 = .ok (.ldc 98, 2) := by decide +kernel
theorem dX9_window_21 : decode cX9_window 21 = .ok (.ireturn, 1) := by decide +kernel
theorem dX9_window_22 : decode cX9_window 22 = .ok (.iconst 0, 1) := by decide +kernel
theorem dX9_window_23 : decode cX9_window 23 = .ok (.istore_n 3, 1) := by decide +kernel
theorem dX9_window_24 : decode cX9_window 24 = .ok (.iconst 0, 1) := by decide +kernel
theorem dX9_window_25 : decode cX9_window 25 = .ok (.istore 4, 2) := by decide +kernel
theorem dX9_window_27 : decode cX9_window 27 = .ok (.iload 4, 2) := by decide +kernel
theorem dX9_window_29 : decode cX9_window 29 = .ok (.bipush 99, 2) := by decide +kernel
theorem dX9_window_31 : decode cX9_window 31 = .ok (.iload_n 2, 1) := by decide +kernel
theorem dX9_window_32 : decode cX9_window 32 = .ok (.iadd, 1) := by decide +kernel
theorem dX9_window_33 : decode cX9_window 33 = .ok (.if_icmp .ge 39, 3) := by decide +kernel
theorem dX9_window_36 : decode cX9_window 36 = .ok (.aload_n 0, 1) := by decide +kernel
theorem dX9_window_37 : decode cX9_window 37 = .ok (.iload_n 1, 1) := by decide +kernel
theorem dX9_window_38 : decode cX9_window 38 = .ok (.iload 4, 2) := by decide +kernel
theorem dX9_window_40 : decode cX9_window 40 = .ok (.invokevirtual 156, 3) := by decide +kernel
theorem dX9_window_43 : decode cX9_window 43 = .ok (.ifCond .eq 9, 3) := by decide +kernel
theorem dX9_window_46 : decode cX9_window 46 = .ok (.iload_n 3, 1) := by decide +kernel
theorem dX9_window_47 : decode cX9_window 47 = .ok (.iconst 1, 1) := by decide +kernel
theorem dX9_window_48 : decode cX9_window 48 = .ok (.iadd, 1) := by decide +kernel
theorem dX9_window_49 : decode cX9_window 49 = .ok (.goto 4, 3) := by decide +kernel
theorem dX9_window_52 : decode cX9_window 52 = .ok (.iconst 0, 1) := by decide +kernel
theorem dX9_window_53 : decode cX9_window 53 = .ok (.istore_n 3, 1) := by decide +kernel
theorem dX9_window_54 : decode cX9_window 54 = .ok (.iload_n 3, 1) := by decide +kernel
theorem dX9_window_55 : decode cX9_window 55 = .ok (.iload_n 2, 1) := by decide +kernel
theorem dX9_window_56 : decode cX9_window 56 = .ok (.if_icmp .lt 10, 3) := by decide +kernel
theorem dX9_window_59 : decode cX9_window 59 = .ok (.iload 4, 2) := by decide +kernel
theorem dX9_window_61 : decode cX9_window 61 = .ok (.iload_n 2, 1) := by decide +kernel
theorem dX9_window_62 : decode cX9_window 62 = .ok (.isub, 1) := by decide +kernel
theorem dX9_window_63 : decode cX9_window 63 = .ok (.iconst 1, 1) := by decide +kernel
theorem dX9_window_64 : decode cX9_window 64 = .ok (.iadd, 1) := by decide +kernel
theorem dX9_window_65 : decode cX9_window 65 = .ok (.ireturn, 1) := by decide +kernel
theorem dX9_window_66 : decode cX9_window 66 = .ok (.iinc 4 1, 3) := by decide +kernel
theorem dX9_window_69 : decode cX9_window 69 = .ok (.goto (-42), 3) := by decide +kernel
theorem dX9_window_72 : decode cX9_window 72 = .ok (.ldc 64, 2) := by decide +kernel
theorem dX9_window_74 : decode cX9_window 74 = .ok (.ireturn, 1) := by decide +kernel
theorem dX9_ownsAt_0 : decode cX9_ownsAt 0 = .ok (.aload_n 0, 1) := by decide +kernel
theorem dX9_ownsAt_1 : decode cX9_ownsAt 1 = .ok (.iload_n 2, 1) := by decide +kernel
theorem dX9_ownsAt_2 : decode cX9_ownsAt 2 = .ok (.invokevirtual 131, 3) := by decide +kernel
theorem dX9_ownsAt_5 : decode cX9_ownsAt 5 = .ok (.istore_n 3, 1) := by decide +kernel
theorem dX9_ownsAt_6 : decode cX9_ownsAt 6 = .ok (.iconst 0, 1) := by decide +kernel
theorem dX9_ownsAt_7 : decode cX9_ownsAt 7 = .ok (.istore 4, 2) := by decide +kernel
theorem dX9_ownsAt_9 : decode cX9_ownsAt 9 = .ok (.iconst 0, 1) := by decide +kernel
theorem dX9_ownsAt_10 : decode cX9_ownsAt 10 = .ok (.istore 5, 2) := by decide +kernel
theorem dX9_ownsAt_12 : decode cX9_ownsAt 12 = .ok (.iload 5, 2) := by decide +kernel
theorem dX9_ownsAt_14 : decode cX9_ownsAt 14 = .ok (.bipush 30, 2) := by decide +kernel
theorem dX9_ownsAt_16 : decode cX9_ownsAt 16 = .ok (.if_icmp .ge 35, 3) := by decide +kernel
theorem dX9_ownsAt_19 : decode cX9_ownsAt 19 = .ok (.iload 4, 2) := by decide +kernel
theorem dX9_ownsAt_21 : decode cX9_ownsAt 21 = .ok (.aload_n 0, 1) := by decide +kernel
theorem dX9_ownsAt_22 : decode cX9_ownsAt 22 = .ok (.iload 5, 2) := by decide +kernel
theorem dX9_ownsAt_24 : decode cX9_ownsAt 24 = .ok (.iconst 3, 1) := by decide +kernel
theorem dX9_ownsAt_25 : decode cX9_ownsAt 25 = .ok (.invokevirtual 70, 3) := by decide +kernel
theorem dX9_ownsAt_28 : decode cX9_ownsAt 28 = .ok (.iload_n 1, 1) := by decide +kernel
theorem dX9_ownsAt_29 : decode cX9_ownsAt 29 = .ok (.if_icmp .ne 12, 3) := by decide +kernel
theorem dX9_ownsAt_32 : decode cX9_ownsAt 32 = .ok (.iload_n 3, 1) := by decide +kernel
theorem dX9_ownsAt_33 : decode cX9_ownsAt 33 = .ok (.iload 5, 2) := by decide +kernel
theorem dX9_ownsAt_35 : decode cX9_ownsAt 35 = .ok (.ishr, 1) := by decide +kernel
theorem dX9_ownsAt_36 : decode cX9_ownsAt 36 = .ok (.iconst 1, 1) := by decide +kernel
theorem dX9_ownsAt_37 : decode cX9_ownsAt 37 = .ok (.iand, 1) := by decide +kernel
theorem dX9_ownsAt_38 : decode cX9_ownsAt 38 = .ok (.goto 4, 3) := by decide +kernel
theorem dX9_ownsAt_41 : decode cX9_ownsAt 41 = .ok (.iconst 0, 1) := by decide +kernel
theorem dX9_ownsAt_42 : decode cX9_ownsAt 42 = .ok (.iadd, 1) := by decide +kernel
theorem dX9_ownsAt_43 : decode cX9_ownsAt 43 = .ok (.istore 4, 2) := by decide +kernel
theorem dX9_ownsAt_45 : decode cX9_ownsAt 45 = .ok (.iinc 5 1, 3) := by decide +kernel
theorem dX9_ownsAt_48 : decode cX9_ownsAt 48 = .ok (.goto (-36), 3) := by decide +kernel
theorem dX9_ownsAt_51 : decode cX9_ownsAt 51 = .ok (.iload 4, 2) := by decide +kernel
theorem dX9_ownsAt_53 : decode cX9_ownsAt 53 = .ok (.ireturn, 1) := by decide +kernel
theorem dX9_owns_0 : decode cX9_owns 0 = .ok (.iload_n 1, 1) := by decide +kernel
theorem dX9_owns_1 : decode cX9_owns 1 = .ok (.i2l, 1) := by decide +kernel
theorem dX9_owns_2 : decode cX9_owns 2 = .ok (.lconst 0, 1) := by decide +kernel
theorem dX9_owns_3 : decode cX9_owns 3 = .ok (.ldc2_w 122, 3) := by decide +kernel
theorem dX9_owns_6 : decode cX9_owns 6 = .ok (.invokestatic 65, 3) := by decide +kernel
theorem dX9_owns_9 : decode cX9_owns 9 = .ok (.ifCond .eq 19, 3) := by decide +kernel
theorem dX9_owns_12 : decode cX9_owns 12 = .ok (.iload_n 2, 1) := by decide +kernel
theorem dX9_owns_13 : decode cX9_owns 13 = .ok (.invokestatic 148, 3) := by decide +kernel
theorem dX9_owns_16 : decode cX9_owns 16 = .ok (.ifCond .eq 12, 3) := by decide +kernel
theorem dX9_owns_19 : decode cX9_owns 19 = .ok (.aload_n 0, 1) := by decide +kernel
theorem dX9_owns_20 : decode cX9_owns 20 = .ok (.iload_n 1, 1) := by decide +kernel
theorem dX9_owns_21 : decode cX9_owns 21 = .ok (.iload_n 2, 1) := by decide +kernel
theorem dX9_owns_22 : decode cX9_owns 22 = .ok (.invokevirtual 161, 3) := by decide +kernel
theorem dX9_owns_25 : decode cX9_owns 25 = .ok (.goto 5, 3) := by decide +kernel
theorem dX9_owns_28 : decode cX9_owns 28 = .ok (.ldc 98, 2) := by decide +kernel
theorem dX9_owns_30 : decode cX9_owns 30 = .ok (.ireturn, 1) := by decide +kernel
theorem dX9_richest_0 : decode cX9_richest 0 = .ok (.iload_n 1, 1) := by decide +kernel
theorem dX9_richest_1 : decode cX9_richest 1 = .ok (.i2l, 1) := by decide +kernel
theorem dX9_richest_2 : decode cX9_richest 2 = .ok (.lconst 0, 1) := by decide +kernel
theorem dX9_richest_3 : decode cX9_richest 3 = .ok (.lconst 1, 1) := by decide +kernel
theorem dX9_richest_4 : decode cX9_richest 4 = .ok (.invokestatic 65, 3) := by decide +kernel
theorem dX9_richest_7 : decode cX9_richest 7 = .ok (.ifCond .ne 6, 3) := by decide +kernel
theorem dX9_richest_10 : decode cX9_richest 10 = .ok (.ldc 98, 2) := by decide +kernel
theorem dX9_richest_12 : decode cX9_richest 12 = .ok (.ireturn, 1) := by decide +kernel
theorem dX9_richest_13 : decode cX9_richest 13 = .ok (.iconst 0, 1) := by decide +kernel
theorem dX9_richest_14 : decode cX9_richest 14 = .ok (.istore_n 2, 1) := by decide +kernel
theorem dX9_richest_15 : decode cX9_richest 15 = .ok (.iload_n 2, 1) := by decide +kernel
theorem dX9_richest_16 : decode cX9_richest 16 = .ok (.bipush 8, 2) := by decide +kernel
theorem dX9_richest_18 : decode cX9_richest 18 = .ok (.if_icmp .ge 16, 3) := by decide +kernel
theorem dX9_richest_21 : decode cX9_richest 21 = .ok (.aload_n 0, 1) := by decide +kernel
theorem dX9_richest_22 : decode cX9_richest 22 = .ok (.getfield 43, 3) := by decide +kernel
theorem dX9_richest_25 : decode cX9_richest 25 = .ok (.iload_n 2, 1) := by decide +kernel
theorem dX9_richest_26 : decode cX9_richest 26 = .ok (.iconst 0, 1) := by decide +kernel
theorem dX9_richest_27 : decode cX9_richest 27 = .ok (.iastore, 1) := by decide +kernel
theorem dX9_richest_28 : decode cX9_richest 28 = .ok (.iinc 2 1, 3) := by decide +kernel
theorem dX9_richest_31 : decode cX9_richest 31 = .ok (.goto (-16), 3) := by decide +kernel
theorem dX9_richest_34 : decode cX9_richest 34 = .ok (.iconst 0, 1) := by decide +kernel
theorem dX9_richest_35 : decode cX9_richest 35 = .ok (.istore_n 2, 1) := by decide +kernel
theorem dX9_richest_36 : decode cX9_richest 36 = .ok (.iload_n 2, 1) := by decide +kernel
theorem dX9_richest_37 : decode cX9_richest 37 = .ok (.bipush 24, 2) := by decide +kernel
theorem dX9_richest_39 : decode cX9_richest 39 = .ok (.if_icmp .ge 62, 3) := by decide +kernel
theorem dX9_richest_42 : decode cX9_richest 42 = .ok (.aload_n 0, 1) := by decide +kernel
theorem dX9_richest_43 : decode cX9_richest 43 = .ok (.iload_n 2, 1) := by decide +kernel
theorem dX9_richest_44 : decode cX9_richest 44 = .ok (.invokevirtual 131, 3) := by decide +kernel
theorem dX9_richest_47 : decode cX9_richest 47 = .ok (.istore_n 3, 1) := by decide +kernel
theorem dX9_richest_48 : decode cX9_richest 48 = .ok (.iconst 0, 1) := by decide +kernel
theorem dX9_richest_49 : decode cX9_richest 49 = .ok (.istore 4, 2) := by decide +kernel
theorem dX9_richest_51 : decode cX9_richest 51 = .ok (.iload 4, 2) := by decide +kernel
theorem dX9_richest_53 : decode cX9_richest 53 = .ok (.bipush 30, 2) := by decide +kernel
theorem dX9_richest_55 : decode cX9_richest 55 = .ok (.if_icmp .ge 40, 3) := by decide +kernel
theorem dX9_richest_58 : decode cX9_richest 58 = .ok (.aload_n 0, 1) := by decide +kernel
theorem dX9_richest_59 : decode cX9_richest 59 = .ok (.iload 4, 2) := by decide +kernel
theorem dX9_richest_61 : decode cX9_richest 61 = .ok (.iconst 3, 1) := by decide +kernel
theorem dX9_richest_62 : decode cX9_richest 62 = .ok (.invokevirtual 70, 3) := by decide +kernel
theorem dX9_richest_65 : decode cX9_richest 65 = .ok (.ifCond .lt 24, 3) := by decide +kernel
theorem dX9_richest_68 : decode cX9_richest 68 = .ok (.aload_n 0, 1) := by decide +kernel
theorem dX9_richest_69 : decode cX9_richest 69 = .ok (.getfield 43, 3) := by decide +kernel
theorem dX9_richest_72 : decode cX9_richest 72 = .ok (.aload_n 0, 1) := by decide +kernel
theorem dX9_richest_73 : decode cX9_richest 73 = .ok (.iload 4, 2) := by decide +kernel
theorem dX9_richest_75 : decode cX9_richest 75 = .ok (.iconst 3, 1) := by decide +kernel
theorem dX9_richest_76 : decode cX9_richest 76 = .ok (.invokevirtual 70, 3) := by decide +kernel
theorem dX9_richest_79 : decode cX9_richest 79 = .ok (.dup2, 1) := by decide +kernel
theorem dX9_richest_80 : decode cX9_richest 80 = .ok (.iaload, 1) := by decide +kernel
theorem dX9_richest_81 : decode cX9_richest 81 = .ok (.iload_n 3, 1) := by decide +kernel
theorem dX9_richest_82 : decode cX9_richest 82 = .ok (.iload 4, 2) := by decide +kernel
theorem dX9_richest_84 : decode cX9_richest 84 = .ok (.ishr, 1) := by decide +kernel
theorem dX9_richest_85 : decode cX9_richest 85 = .ok (.iconst 1, 1) := by decide +kernel
theorem dX9_richest_86 : decode cX9_richest 86 = .ok (.iand, 1) := by decide +kernel
theorem dX9_richest_87 : decode cX9_richest 87 = .ok (.iadd, 1) := by decide +kernel
theorem dX9_richest_88 : decode cX9_richest 88 = .ok (.iastore, 1) := by decide +kernel
theorem dX9_richest_89 : decode cX9_richest 89 = .ok (.iinc 4 1, 3) := by decide +kernel
theorem dX9_richest_92 : decode cX9_richest 92 = .ok (.goto (-41), 3) := by decide +kernel
theorem dX9_richest_95 : decode cX9_richest 95 = .ok (.iinc 2 1, 3) := by decide +kernel
theorem dX9_richest_98 : decode cX9_richest 98 = .ok (.goto (-62), 3) := by decide +kernel
theorem dX9_richest_101 : decode cX9_richest 101 = .ok (.iconst 0, 1) := by decide +kernel
theorem dX9_richest_102 : decode cX9_richest 102 = .ok (.istore_n 2, 1) := by decide +kernel
theorem dX9_richest_103 : decode cX9_richest 103 = .ok (.iconst 1, 1) := by decide +kernel
theorem dX9_richest_104 : decode cX9_richest 104 = .ok (.istore_n 3, 1) := by decide +kernel
theorem dX9_richest_105 : decode cX9_richest 105 = .ok (.iload_n 3, 1) := by decide +kernel
theorem dX9_richest_106 : decode cX9_richest 106 = .ok (.bipush 8, 2) := by decide +kernel
theorem dX9_richest_108 : decode cX9_richest 108 = .ok (.if_icmp .ge 30, 3) := by decide +kernel
theorem dX9_richest_111 : decode cX9_richest 111 = .ok (.aload_n 0, 1) := by decide +kernel
theorem dX9_richest_112 : decode cX9_richest 112 = .ok (.getfield 43, 3) := by decide +kernel
theorem dX9_richest_115 : decode cX9_richest 115 = .ok (.iload_n 3, 1) := by decide +kernel
theorem dX9_richest_116 : decode cX9_richest 116 = .ok (.iaload, 1) := by decide +kernel
theorem dX9_richest_117 : decode cX9_richest 117 = .ok (.aload_n 0, 1) := by decide +kernel
theorem dX9_richest_118 : decode cX9_richest 118 = .ok (.getfield 43, 3) := by decide +kernel
theorem dX9_richest_121 : decode cX9_richest 121 = .ok (.iload_n 2, 1) := by decide +kernel
theorem dX9_richest_122 : decode cX9_richest 122 = .ok (.iaload, 1) := by decide +kernel
theorem dX9_richest_123 : decode cX9_richest 123 = .ok (.if_icmp .le 7, 3) := by decide +kernel
theorem dX9_richest_126 : decode cX9_richest 126 = .ok (.iload_n 3, 1) := by decide +kernel
theorem dX9_richest_127 : decode cX9_richest 127 = .ok (.goto 4, 3) := by decide +kernel
theorem dX9_richest_130 : decode cX9_richest 130 = .ok (.iload_n 2, 1) := by decide +kernel
theorem dX9_richest_131 : decode cX9_richest 131 = .ok (.istore_n 2, 1) := by decide +kernel
theorem dX9_richest_132 : decode cX9_richest 132 = .ok (.iinc 3 1, 3) := by decide +kernel
theorem dX9_richest_135 : decode cX9_richest 135 = .ok (.goto (-30), 3) := by decide +kernel
theorem dX9_richest_138 : decode cX9_richest 138 = .ok (.iload_n 1, 1) := by decide +kernel
theorem dX9_richest_139 : decode cX9_richest 139 = .ok (.ifCond .ne 7, 3) := by decide +kernel
theorem dX9_richest_142 : decode cX9_richest 142 = .ok (.iload_n 2, 1) := by decide +kernel
theorem dX9_richest_143 : decode cX9_richest 143 = .ok (.goto 9, 3) := by decide +kernel
theorem dX9_richest_146 : decode cX9_richest 146 = .ok (.aload_n 0, 1) := by decide +kernel
theorem dX9_richest_147 : decode cX9_richest 147 = .ok (.getfield 43, 3) := by decide +kernel
theorem dX9_richest_150 : decode cX9_richest 150 = .ok (.iload_n 2, 1) := by decide +kernel
theorem dX9_richest_151 : decode cX9_richest 151 = .ok (.iaload, 1) := by decide +kernel
theorem dX9_richest_152 : decode cX9_richest 152 = .ok (.ireturn, 1) := by decide +kernel
theorem dX9_house_0 : decode cX9_house 0 = .ok (.iload_n 1, 1) := by decide +kernel
theorem dX9_house_1 : decode cX9_house 1 = .ok (.i2l, 1) := by decide +kernel
theorem dX9_house_2 : decode cX9_house 2 = .ok (.lconst 1, 1) := by decide +kernel
theorem dX9_house_3 : decode cX9_house 3 = .ok (.ldc2_w 120, 3) := by decide +kernel
theorem dX9_house_6 : decode cX9_house 6 = .ok (.invokestatic 65, 3) := by decide +kernel
theorem dX9_house_9 : decode cX9_house 9 = .ok (.ifCond .ne 6, 3) := by decide +kernel
theorem dX9_house_12 : decode cX9_house 12 = .ok (.ldc 98, 2) := by decide +kernel
theorem dX9_house_14 : decode cX9_house 14 = .ok (.ireturn, 1) := by decide +kernel
theorem dX9_house_15 : decode cX9_house 15 = .ok (.aload_n 0, 1) := by decide +kernel
theorem dX9_house_16 : decode cX9_house 16 = .ok (.getfield 7, 3) := by decide +kernel
theorem dX9_house_19 : decode cX9_house 19 = .ok (.iconst 0, 1) := by decide +kernel
theorem dX9_house_20 : decode cX9_house 20 = .ok (.iaload, 1) := by decide +kernel
theorem dX9_house_21 : decode cX9_house 21 = .ok (.bipush 8, 2) := by decide +kernel
theorem dX9_house_23 : decode cX9_house 23 = .ok (.if_icmp .ne 6, 3) := by decide +kernel
theorem dX9_house_26 : decode cX9_house 26 = .ok (.ldc 164, 2) := by decide +kernel
theorem dX9_house_28 : decode cX9_house 28 = .ok (.ireturn, 1) := by decide +kernel
theorem dX9_house_29 : decode cX9_house 29 = .ok (.sipush 131, 3) := by decide +kernel
theorem dX9_house_32 : decode cX9_house 32 = .ok (.iconst 2, 1) := by decide +kernel
theorem dX9_house_33 : decode cX9_house 33 = .ok (.aload_n 0, 1) := by decide +kernel
theorem dX9_house_34 : decode cX9_house 34 = .ok (.getfield 7, 3) := by decide +kernel
theorem dX9_house_37 : decode cX9_house 37 = .ok (.iconst 0, 1) := by decide +kernel
theorem dX9_house_38 : decode cX9_house 38 = .ok (.iaload, 1) := by decide +kernel
theorem dX9_house_39 : decode cX9_house 39 = .ok (.imul, 1) := by decide +kernel
theorem dX9_house_40 : decode cX9_house 40 = .ok (.iadd, 1) := by decide +kernel
theorem dX9_house_41 : decode cX9_house 41 = .ok (.istore_n 2, 1) := by decide +kernel
theorem dX9_house_42 : decode cX9_house 42 = .ok (.aload_n 0, 1) := by decide +kernel
theorem dX9_house_43 : decode cX9_house 43 = .ok (.getfield 7, 3) := by decide +kernel
theorem dX9_house_46 : decode cX9_house 46 = .ok (.iload_n 2, 1) := by decide +kernel
theorem dX9_house_47 : decode cX9_house 47 = .ok (.iload_n 1, 1) := by decide +kernel
theorem dX9_house_48 : decode cX9_house 48 = .ok (.iastore, 1) := by decide +kernel
theorem dX9_house_49 : decode cX9_house 49 = .ok (.aload_n 0, 1) := by decide +kernel
theorem dX9_house_50 : decode cX9_house 50 = .ok (.getfield 7, 3) := by decide +kernel
theorem dX9_house_53 : decode cX9_house 53 = .ok (.iload_n 2, 1) := by decide +kernel
theorem dX9_house_54 : decode cX9_house 54 = .ok (.iconst 1, 1) := by decide +kernel
theorem dX9_house_55 : decode cX9_house 55 = .ok (.iadd, 1) := by decide +kernel
theorem dX9_house_56 : decode cX9_house 56 = .ok (.iconst (-1), 1) := by decide +kernel
theorem dX9_house_57 : decode cX9_house 57 = .ok (.iastore, 1) := by decide +kernel
theorem dX9_house_58 : decode cX9_house 58 = .ok (.aload_n 0, 1) := by decide +kernel
theorem dX9_house_59 : decode cX9_house 59 = .ok (.getfield 7, 3) := by decide +kernel
theorem dX9_house_62 : decode cX9_house 62 = .ok (.iconst 0, 1) := by decide +kernel
theorem dX9_house_63 : decode cX9_house 63 = .ok (.dup2, 1) := by decide +kernel
theorem dX9_house_64 : decode cX9_house 64 = .ok (.iaload, 1) := by decide +kernel
theorem dX9_house_65 : decode cX9_house 65 = .ok (.iconst 1, 1) := by decide +kernel
theorem dX9_house_66 : decode cX9_house 66 = .ok (.iadd, 1) := by decide +kernel
theorem dX9_house_67 : decode cX9_house 67 = .ok (.iastore, 1) := by decide +kernel
theorem dX9_house_68 : decode cX9_house 68 = .ok (.aload_n 0, 1) := by decide +kernel
theorem dX9_house_69 : decode cX9_house 69 = .ok (.getfield 7, 3) := by decide +kernel
theorem dX9_house_72 : decode cX9_house 72 = .ok (.iconst 0, 1) := by decide +kernel
theorem dX9_house_73 : decode cX9_house 73 = .ok (.iaload, 1) := by decide +kernel
theorem dX9_house_74 : decode cX9_house 74 = .ok (.iconst 1, 1) := by decide +kernel
theorem dX9_house_75 : decode cX9_house 75 = .ok (.isub, 1) := by decide +kernel
theorem dX9_house_76 : decode cX9_house 76 = .ok (.ireturn, 1) := by decide +kernel
theorem dX9_many_0 : decode cX9_many 0 = .ok (.aload_n 0, 1) := by decide +kernel
theorem dX9_many_1 : decode cX9_many 1 = .ok (.getfield 7, 3) := by decide +kernel
theorem dX9_many_4 : decode cX9_many 4 = .ok (.sipush 131, 3) := by decide +kernel
theorem dX9_many_7 : decode cX9_many 7 = .ok (.iconst 2, 1) := by decide +kernel
theorem dX9_many_8 : decode cX9_many 8 = .ok (.iload_n 1, 1) := by decide +kernel
theorem dX9_many_9 : decode cX9_many 9 = .ok (.imul, 1) := by decide +kernel
theorem dX9_many_10 : decode cX9_many 10 = .ok (.iadd, 1) := by decide +kernel
theorem dX9_many_11 : decode cX9_many 11 = .ok (.iaload, 1) := by decide +kernel
theorem dX9_many_12 : decode cX9_many 12 = .ok (.ireturn, 1) := by decide +kernel
theorem dX9_where_0 : decode cX9_where 0 = .ok (.aload_n 0, 1) := by decide +kernel
theorem dX9_where_1 : decode cX9_where 1 = .ok (.getfield 7, 3) := by decide +kernel
theorem dX9_where_4 : decode cX9_where 4 = .ok (.sipush 131, 3) := by decide +kernel
theorem dX9_where_7 : decode cX9_where 7 = .ok (.iconst 2, 1) := by decide +kernel
theorem dX9_where_8 : decode cX9_where 8 = .ok (.iload_n 1, 1) := by decide +kernel
theorem dX9_where_9 : decode cX9_where 9 = .ok (.imul, 1) := by decide +kernel
theorem dX9_where_10 : decode cX9_where 10 = .ok (.iadd, 1) := by decide +kernel
theorem dX9_where_11 : decode cX9_where 11 = .ok (.iconst 1, 1) := by decide +kernel
theorem dX9_where_12 : decode cX9_where 12 = .ok (.iadd, 1) := by decide +kernel
theorem dX9_where_13 : decode cX9_where 13 = .ok (.iaload, 1) := by decide +kernel
theorem dX9_where_14 : decode cX9_where 14 = .ok (.ireturn, 1) := by decide +kernel
theorem dX9_houseTold_0 : decode cX9_houseTold 0 = .ok (.aload_n 0, 1) := by decide +kernel
theorem dX9_houseTold_1 : decode cX9_houseTold 1 = .ok (.iload_n 1, 1) := by decide +kernel
theorem dX9_houseTold_2 : decode cX9_houseTold 2 = .ok (.invokevirtual 165, 3) := by decide +kernel
theorem dX9_houseTold_5 : decode cX9_houseTold 5 = .ok (.ifCond .eq 13, 3) := by decide +kernel
theorem dX9_houseTold_8 : decode cX9_houseTold 8 = .ok (.iload_n 2, 1) := by decide +kernel
theorem dX9_houseTold_9 : decode cX9_houseTold 9 = .ok (.i2l, 1) := by decide +kernel
theorem dX9_houseTold_10 : decode cX9_houseTold 10 = .ok (.lconst 0, 1) := by decide +kernel
theorem dX9_houseTold_11 : decode cX9_houseTold 11 = .ok (.lconst 1, 1) := by decide +kernel
theorem dX9_houseTold_12 : decode cX9_houseTold 12 = .ok (.invokestatic 65, 3) := by decide +kernel
theorem dX9_houseTold_15 : decode cX9_houseTold 15 = .ok (.ifCond .ne 6, 3) := by decide +kernel
theorem dX9_houseTold_18 : decode cX9_houseTold 18 = .ok (.ldc 98, 2) := by decide +kernel
theorem dX9_houseTold_20 : decode cX9_houseTold 20 = .ok (.ireturn, 1) := by decide +kernel
theorem dX9_houseTold_21 : decode cX9_houseTold 21 = .ok (.iload_n 2, 1) := by decide +kernel
theorem dX9_houseTold_22 : decode cX9_houseTold 22 = .ok (.ifCond .ne 11, 3) := by decide +kernel
theorem dX9_houseTold_25 : decode cX9_houseTold 25 = .ok (.aload_n 0, 1) := by decide +kernel
theorem dX9_houseTold_26 : decode cX9_houseTold 26 = .ok (.iload_n 1, 1) := by decide +kernel
theorem dX9_houseTold_27 : decode cX9_houseTold 27 = .ok (.invokevirtual 168, 3) := by decide +kernel
theorem dX9_houseTold_30 : decode cX9_houseTold 30 = .ok (.goto 11, 3) := by decide +kernel
theorem dX9_houseTold_33 : decode cX9_houseTold 33 = .ok (.aload_n 0, 1) := by decide +kernel
theorem dX9_houseTold_34 : decode cX9_houseTold 34 = .ok (.iload_n 1, 1) := by decide +kernel
theorem dX9_houseTold_35 : decode cX9_houseTold 35 = .ok (.invokevirtual 171, 3) := by decide +kernel
theorem dX9_houseTold_38 : decode cX9_houseTold 38 = .ok (.invokestatic 112, 3) := by decide +kernel
theorem dX9_houseTold_41 : decode cX9_houseTold 41 = .ok (.ireturn, 1) := by decide +kernel
theorem dX9_settle_0 : decode cX9_settle 0 = .ok (.aload_n 0, 1) := by decide +kernel
theorem dX9_settle_1 : decode cX9_settle 1 = .ok (.iload_n 1, 1) := by decide +kernel
theorem dX9_settle_2 : decode cX9_settle 2 = .ok (.invokevirtual 165, 3) := by decide +kernel
theorem dX9_settle_5 : decode cX9_settle 5 = .ok (.ifCond .eq 16, 3) := by decide +kernel
theorem dX9_settle_8 : decode cX9_settle 8 = .ok (.iload_n 2, 1) := by decide +kernel
theorem dX9_settle_9 : decode cX9_settle 9 = .ok (.ldc 64, 2) := by decide +kernel
theorem dX9_settle_11 : decode cX9_settle 11 = .ok (.if_icmp .eq 13, 3) := by decide +kernel
theorem dX9_settle_14 : decode cX9_settle 14 = .ok (.iload_n 2, 1) := by decide +kernel
theorem dX9_settle_15 : decode cX9_settle 15 = .ok (.invokestatic 90, 3) := by decide +kernel
theorem dX9_settle_18 : decode cX9_settle 18 = .ok (.ifCond .ne 6, 3) := by decide +kernel
theorem dX9_settle_21 : decode cX9_settle 21 = .ok (.ldc 98, 2) := by decide +kernel
theorem dX9_settle_23 : decode cX9_settle 23 = .ok (.ireturn, 1) := by decide +kernel
theorem dX9_settle_24 : decode cX9_settle 24 = .ok (.aload_n 0, 1) := by decide +kernel
theorem dX9_settle_25 : decode cX9_settle 25 = .ok (.sipush 131, 3) := by decide +kernel
theorem dX9_settle_28 : decode cX9_settle 28 = .ok (.iconst 2, 1) := by decide +kernel
theorem dX9_settle_29 : decode cX9_settle 29 = .ok (.iload_n 1, 1) := by decide +kernel
theorem dX9_settle_30 : decode cX9_settle 30 = .ok (.imul, 1) := by decide +kernel
theorem dX9_settle_31 : decode cX9_settle 31 = .ok (.iadd, 1) := by decide +kernel
theorem dX9_settle_32 : decode cX9_settle 32 = .ok (.iconst 1, 1) := by decide +kernel
theorem dX9_settle_33 : decode cX9_settle 33 = .ok (.iadd, 1) := by decide +kernel
theorem dX9_settle_34 : decode cX9_settle 34 = .ok (.iload_n 2, 1) := by decide +kernel
theorem dX9_settle_35 : decode cX9_settle 35 = .ok (.ldc 64, 2) := by decide +kernel
theorem dX9_settle_37 : decode cX9_settle 37 = .ok (.if_icmp .ne 7, 3) := by decide +kernel
theorem dX9_settle_40 : decode cX9_settle 40 = .ok (.iconst (-1), 1) := by decide +kernel
theorem dX9_settle_41 : decode cX9_settle 41 = .ok (.goto 4, 3) := by decide +kernel
theorem dX9_settle_44 : decode cX9_settle 44 = .ok (.iload_n 2, 1) := by decide +kernel
theorem dX9_settle_45 : decode cX9_settle 45 = .ok (.invokevirtual 103, 3) := by decide +kernel
theorem dX9_settle_48 : decode cX9_settle 48 = .ok (.invokestatic 112, 3) := by decide +kernel
theorem dX9_settle_51 : decode cX9_settle 51 = .ok (.ireturn, 1) := by decide +kernel
theorem dX9_peak_0 : decode cX9_peak 0 = .ok (.iconst 0, 1) := by decide +kernel
theorem dX9_peak_1 : decode cX9_peak 1 = .ok (.istore_n 1, 1) := by decide +kernel
theorem dX9_peak_2 : decode cX9_peak 2 = .ok (.iconst 1, 1) := by decide +kernel
theorem dX9_peak_3 : decode cX9_peak 3 = .ok (.istore_n 2, 1) := by decide +kernel
theorem dX9_peak_4 : decode cX9_peak 4 = .ok (.iload_n 2, 1) := by decide +kernel
theorem dX9_peak_5 : decode cX9_peak 5 = .ok (.bipush 30, 2) := by decide +kernel
theorem dX9_peak_7 : decode cX9_peak 7 = .ok (.if_icmp .ge 28, 3) := by decide +kernel
theorem dX9_peak_10 : decode cX9_peak 10 = .ok (.aload_n 0, 1) := by decide +kernel
theorem dX9_peak_11 : decode cX9_peak 11 = .ok (.iload_n 2, 1) := by decide +kernel
theorem dX9_peak_12 : decode cX9_peak 12 = .ok (.invokevirtual 78, 3) := by decide +kernel
theorem dX9_peak_15 : decode cX9_peak 15 = .ok (.aload_n 0, 1) := by decide +kernel
theorem dX9_peak_16 : decode cX9_peak 16 = .ok (.iload_n 1, 1) := by decide +kernel
theorem dX9_peak_17 : decode cX9_peak 17 = .ok (.invokevirtual 78, 3) := by decide +kernel
theorem dX9_peak_20 : decode cX9_peak 20 = .ok (.if_icmp .le 7, 3) := by decide +kernel
theorem dX9_peak_23 : decode cX9_peak 23 = .ok (.iload_n 2, 1) := by decide +kernel
theorem dX9_peak_24 : decode cX9_peak 24 = .ok (.goto 4, 3) := by decide +kernel
theorem dX9_peak_27 : decode cX9_peak 27 = .ok (.iload_n 1, 1) := by decide +kernel
theorem dX9_peak_28 : decode cX9_peak 28 = .ok (.istore_n 1, 1) := by decide +kernel
theorem dX9_peak_29 : decode cX9_peak 29 = .ok (.iinc 2 1, 3) := by decide +kernel
theorem dX9_peak_32 : decode cX9_peak 32 = .ok (.goto (-28), 3) := by decide +kernel
theorem dX9_peak_35 : decode cX9_peak 35 = .ok (.iload_n 1, 1) := by decide +kernel
theorem dX9_peak_36 : decode cX9_peak 36 = .ok (.ireturn, 1) := by decide +kernel
theorem dX9_cut_0 : decode cX9_cut 0 = .ok (.iload_n 1, 1) := by decide +kernel
theorem dX9_cut_1 : decode cX9_cut 1 = .ok (.invokestatic 148, 3) := by decide +kernel
theorem dX9_cut_4 : decode cX9_cut 4 = .ok (.ifCond .ne 6, 3) := by decide +kernel
theorem dX9_cut_7 : decode cX9_cut 7 = .ok (.ldc 98, 2) := by decide +kernel
theorem dX9_cut_9 : decode cX9_cut 9 = .ok (.ireturn, 1) := by decide +kernel
theorem dX9_cut_10 : decode cX9_cut 10 = .ok (.aload_n 0, 1) := by decide +kernel
theorem dX9_cut_11 : decode cX9_cut 11 = .ok (.iload_n 1, 1) := by decide +kernel
theorem dX9_cut_12 : decode cX9_cut 12 = .ok (.invokevirtual 131, 3) := by decide +kernel
theorem dX9_cut_15 : decode cX9_cut 15 = .ok (.istore_n 2, 1) := by decide +kernel
theorem dX9_cut_16 : decode cX9_cut 16 = .ok (.aload_n 0, 1) := by decide +kernel
theorem dX9_cut_17 : decode cX9_cut 17 = .ok (.invokevirtual 174, 3) := by decide +kernel
theorem dX9_cut_20 : decode cX9_cut 20 = .ok (.istore_n 3, 1) := by decide +kernel
theorem dX9_cut_21 : decode cX9_cut 21 = .ok (.iload_n 2, 1) := by decide +kernel
theorem dX9_cut_22 : decode cX9_cut 22 = .ok (.iload_n 3, 1) := by decide +kernel
theorem dX9_cut_23 : decode cX9_cut 23 = .ok (.ishr, 1) := by decide +kernel
theorem dX9_cut_24 : decode cX9_cut 24 = .ok (.iconst 1, 1) := by decide +kernel
theorem dX9_cut_25 : decode cX9_cut 25 = .ok (.iand, 1) := by decide +kernel
theorem dX9_cut_26 : decode cX9_cut 26 = .ok (.iconst 1, 1) := by decide +kernel
theorem dX9_cut_27 : decode cX9_cut 27 = .ok (.if_icmp .ne 15, 3) := by decide +kernel
theorem dX9_cut_30 : decode cX9_cut 30 = .ok (.iload_n 2, 1) := by decide +kernel
theorem dX9_cut_31 : decode cX9_cut 31 = .ok (.iload_n 2, 1) := by decide +kernel
theorem dX9_cut_32 : decode cX9_cut 32 = .ok (.iload_n 3, 1) := by decide +kernel
theorem dX9_cut_33 : decode cX9_cut 33 = .ok (.invokestatic 143, 3) := by decide +kernel
theorem dX9_cut_36 : decode cX9_cut 36 = .ok (.iconst (-1), 1) := by decide +kernel
theorem dX9_cut_37 : decode cX9_cut 37 = .ok (.ixor, 1) := by decide +kernel
theorem dX9_cut_38 : decode cX9_cut 38 = .ok (.iand, 1) := by decide +kernel
theorem dX9_cut_39 : decode cX9_cut 39 = .ok (.goto 4, 3) := by decide +kernel
theorem dX9_cut_42 : decode cX9_cut 42 = .ok (.iload_n 2, 1) := by decide +kernel
theorem dX9_cut_43 : decode cX9_cut 43 = .ok (.istore 4, 2) := by decide +kernel
theorem dX9_cut_45 : decode cX9_cut 45 = .ok (.iconst 0, 1) := by decide +kernel
theorem dX9_cut_46 : decode cX9_cut 46 = .ok (.istore 5, 2) := by decide +kernel
theorem dX9_cut_48 : decode cX9_cut 48 = .ok (.iconst 0, 1) := by decide +kernel
theorem dX9_cut_49 : decode cX9_cut 49 = .ok (.istore 6, 2) := by decide +kernel
theorem dX9_cut_51 : decode cX9_cut 51 = .ok (.iload 6, 2) := by decide +kernel
theorem dX9_cut_53 : decode cX9_cut 53 = .ok (.aload_n 0, 1) := by decide +kernel
theorem dX9_cut_54 : decode cX9_cut 54 = .ok (.getfield 7, 3) := by decide +kernel
theorem dX9_cut_57 : decode cX9_cut 57 = .ok (.iconst 0, 1) := by decide +kernel
theorem dX9_cut_58 : decode cX9_cut 58 = .ok (.iaload, 1) := by decide +kernel
theorem dX9_cut_59 : decode cX9_cut 59 = .ok (.if_icmp .ge 46, 3) := by decide +kernel
theorem dX9_cut_62 : decode cX9_cut 62 = .ok (.iload 5, 2) := by decide +kernel
theorem dX9_cut_64 : decode cX9_cut 64 = .ok (.aload_n 0, 1) := by decide +kernel
theorem dX9_cut_65 : decode cX9_cut 65 = .ok (.iload 6, 2) := by decide +kernel
theorem dX9_cut_67 : decode cX9_cut 67 = .ok (.invokevirtual 171, 3) := by decide +kernel
theorem dX9_cut_70 : decode cX9_cut 70 = .ok (.ifCond .lt 25, 3) := by decide +kernel
theorem dX9_cut_73 : decode cX9_cut 73 = .ok (.iload 4, 2) := by decide +kernel
theorem dX9_cut_75 : decode cX9_cut 75 = .ok (.aload_n 0, 1) := by decide +kernel
theorem dX9_cut_76 : decode cX9_cut 76 = .ok (.iload 6, 2) := by decide +kernel
theorem dX9_cut_78 : decode cX9_cut 78 = .ok (.invokevirtual 171, 3) := by decide +kernel
theorem dX9_cut_81 : decode cX9_cut 81 = .ok (.ishr, 1) := by decide +kernel
theorem dX9_cut_82 : decode cX9_cut 82 = .ok (.iconst 1, 1) := by decide +kernel
theorem dX9_cut_83 : decode cX9_cut 83 = .ok (.iand, 1) := by decide +kernel
theorem dX9_cut_84 : decode cX9_cut 84 = .ok (.iconst 1, 1) := by decide +kernel
theorem dX9_cut_85 : decode cX9_cut 85 = .ok (.if_icmp .ne 10, 3) := by decide +kernel
theorem dX9_cut_88 : decode cX9_cut 88 = .ok (.iconst 1, 1) := by decide +kernel
theorem dX9_cut_89 : decode cX9_cut 89 = .ok (.iload 6, 2) := by decide +kernel
theorem dX9_cut_91 : decode cX9_cut 91 = .ok (.ishl, 1) := by decide +kernel
theorem dX9_cut_92 : decode cX9_cut 92 = .ok (.goto 4, 3) := by decide +kernel
theorem dX9_cut_95 : decode cX9_cut 95 = .ok (.iconst 0, 1) := by decide +kernel
theorem dX9_cut_96 : decode cX9_cut 96 = .ok (.ior, 1) := by decide +kernel
theorem dX9_cut_97 : decode cX9_cut 97 = .ok (.istore 5, 2) := by decide +kernel
theorem dX9_cut_99 : decode cX9_cut 99 = .ok (.iinc 6 1, 3) := by decide +kernel
theorem dX9_cut_102 : decode cX9_cut 102 = .ok (.goto (-51), 3) := by decide +kernel
theorem dX9_cut_105 : decode cX9_cut 105 = .ok (.iload 5, 2) := by decide +kernel
theorem dX9_cut_107 : decode cX9_cut 107 = .ok (.ireturn, 1) := by decide +kernel
theorem dX9_lack_0 : decode cX9_lack 0 = .ok (.iload_n 1, 1) := by decide +kernel
theorem dX9_lack_1 : decode cX9_lack 1 = .ok (.invokestatic 148, 3) := by decide +kernel
theorem dX9_lack_4 : decode cX9_lack 4 = .ok (.ifCond .ne 6, 3) := by decide +kernel
theorem dX9_lack_7 : decode cX9_lack 7 = .ok (.ldc 98, 2) := by decide +kernel
theorem dX9_lack_9 : decode cX9_lack 9 = .ok (.ireturn, 1) := by decide +kernel
theorem dX9_lack_10 : decode cX9_lack 10 = .ok (.iconst 0, 1) := by decide +kernel
theorem dX9_lack_11 : decode cX9_lack 11 = .ok (.istore_n 2, 1) := by decide +kernel
theorem dX9_lack_12 : decode cX9_lack 12 = .ok (.iconst 0, 1) := by decide +kernel
theorem dX9_lack_13 : decode cX9_lack 13 = .ok (.istore_n 3, 1) := by decide +kernel
theorem dX9_lack_14 : decode cX9_lack 14 = .ok (.iload_n 3, 1) := by decide +kernel
theorem dX9_lack_15 : decode cX9_lack 15 = .ok (.aload_n 0, 1) := by decide +kernel
theorem dX9_lack_16 : decode cX9_lack 16 = .ok (.getfield 7, 3) := by decide +kernel
theorem dX9_lack_19 : decode cX9_lack 19 = .ok (.iconst 0, 1) := by decide +kernel
theorem dX9_lack_20 : decode cX9_lack 20 = .ok (.iaload, 1) := by decide +kernel
theorem dX9_lack_21 : decode cX9_lack 21 = .ok (.if_icmp .ge 17, 3) := by decide +kernel
theorem dX9_lack_24 : decode cX9_lack 24 = .ok (.iload_n 2, 1) := by decide +kernel
theorem dX9_lack_25 : decode cX9_lack 25 = .ok (.aload_n 0, 1) := by decide +kernel
theorem dX9_lack_26 : decode cX9_lack 26 = .ok (.iload_n 3, 1) := by decide +kernel
theorem dX9_lack_27 : decode cX9_lack 27 = .ok (.invokevirtual 168, 3) := by decide +kernel
theorem dX9_lack_30 : decode cX9_lack 30 = .ok (.iadd, 1) := by decide +kernel
theorem dX9_lack_31 : decode cX9_lack 31 = .ok (.istore_n 2, 1) := by decide +kernel
theorem dX9_lack_32 : decode cX9_lack 32 = .ok (.iinc 3 1, 3) := by decide +kernel
theorem dX9_lack_35 : decode cX9_lack 35 = .ok (.goto (-21), 3) := by decide +kernel
theorem dX9_lack_38 : decode cX9_lack 38 = .ok (.aload_n 0, 1) := by decide +kernel
theorem dX9_lack_39 : decode cX9_lack 39 = .ok (.iload_n 1, 1) := by decide +kernel
theorem dX9_lack_40 : decode cX9_lack 40 = .ok (.invokevirtual 131, 3) := by decide +kernel
theorem dX9_lack_43 : decode cX9_lack 43 = .ok (.istore_n 3, 1) := by decide +kernel
theorem dX9_lack_44 : decode cX9_lack 44 = .ok (.iconst 0, 1) := by decide +kernel
theorem dX9_lack_45 : decode cX9_lack 45 = .ok (.istore 4, 2) := by decide +kernel
theorem dX9_lack_47 : decode cX9_lack 47 = .ok (.iload 4, 2) := by decide +kernel
theorem dX9_lack_49 : decode cX9_lack 49 = .ok (.bipush 30, 2) := by decide +kernel
theorem dX9_lack_51 : decode cX9_lack 51 = .ok (.if_icmp .ge 32, 3) := by decide +kernel
theorem dX9_lack_54 : decode cX9_lack 54 = .ok (.iload_n 2, 1) := by decide +kernel
theorem dX9_lack_55 : decode cX9_lack 55 = .ok (.iload_n 3, 1) := by decide +kernel
theorem dX9_lack_56 : decode cX9_lack 56 = .ok (.iload 4, 2) := by decide +kernel
theorem dX9_lack_58 : decode cX9_lack 58 = .ok (.ishr, 1) := by decide +kernel
theorem dX9_lack_59 : decode cX9_lack 59 = .ok (.iconst 1, 1) := by decide +kernel
theorem dX9_lack_60 : decode cX9_lack 60 = .ok (.iand, 1) := by decide +kernel
theorem dX9_lack_61 : decode cX9_lack 61 = .ok (.iconst 1, 1) := by decide +kernel
theorem dX9_lack_62 : decode cX9_lack 62 = .ok (.if_icmp .ne 12, 3) := by decide +kernel
theorem dX9_lack_65 : decode cX9_lack 65 = .ok (.aload_n 0, 1) := by decide +kernel
theorem dX9_lack_66 : decode cX9_lack 66 = .ok (.iload 4, 2) := by decide +kernel
theorem dX9_lack_68 : decode cX9_lack 68 = .ok (.invokevirtual 106, 3) := by decide +kernel
theorem dX9_lack_71 : decode cX9_lack 71 = .ok (.goto 4, 3) := by decide +kernel
theorem dX9_lack_74 : decode cX9_lack 74 = .ok (.iconst 0, 1) := by decide +kernel
theorem dX9_lack_75 : decode cX9_lack 75 = .ok (.isub, 1) := by decide +kernel
theorem dX9_lack_76 : decode cX9_lack 76 = .ok (.istore_n 2, 1) := by decide +kernel
theorem dX9_lack_77 : decode cX9_lack 77 = .ok (.iinc 4 1, 3) := by decide +kernel
theorem dX9_lack_80 : decode cX9_lack 80 = .ok (.goto (-33), 3) := by decide +kernel
theorem dX9_lack_83 : decode cX9_lack 83 = .ok (.iload_n 2, 1) := by decide +kernel
theorem dX9_lack_84 : decode cX9_lack 84 = .ok (.ifCond .ge 7, 3) := by decide +kernel
theorem dX9_lack_87 : decode cX9_lack 87 = .ok (.iconst 0, 1) := by decide +kernel
theorem dX9_lack_88 : decode cX9_lack 88 = .ok (.goto 4, 3) := by decide +kernel
theorem dX9_lack_91 : decode cX9_lack 91 = .ok (.iload_n 2, 1) := by decide +kernel
theorem dX9_lack_92 : decode cX9_lack 92 = .ok (.ireturn, 1) := by decide +kernel
theorem dX9_going_0 : decode cX9_going 0 = .ok (.aload_n 0, 1) := by decide +kernel
theorem dX9_going_1 : decode cX9_going 1 = .ok (.iload_n 1, 1) := by decide +kernel
theorem dX9_going_2 : decode cX9_going 2 = .ok (.invokevirtual 165, 3) := by decide +kernel
theorem dX9_going_5 : decode cX9_going 5 = .ok (.ifCond .eq 10, 3) := by decide +kernel
theorem dX9_going_8 : decode cX9_going 8 = .ok (.iload_n 2, 1) := by decide +kernel
theorem dX9_going_9 : decode cX9_going 9 = .ok (.invokestatic 90, 3) := by decide +kernel
theorem dX9_going_12 : decode cX9_going 12 = .ok (.ifCond .ne 6, 3) := by decide +kernel
theorem dX9_going_15 : decode cX9_going 15 = .ok (.ldc 98, 2) := by decide +kernel
theorem dX9_going_17 : decode cX9_going 17 = .ok (.ireturn, 1) := by decide +kernel
theorem dX9_going_18 : decode cX9_going 18 = .ok (.aload_n 0, 1) := by decide +kernel
theorem dX9_going_19 : decode cX9_going 19 = .ok (.iload_n 1, 1) := by decide +kernel
theorem dX9_going_20 : decode cX9_going 20 = .ok (.invokevirtual 171, 3) := by decide +kernel
theorem dX9_going_23 : decode cX9_going 23 = .ok (.ifCond .ge 6, 3) := by decide +kernel
theorem dX9_going_26 : decode cX9_going 26 = .ok (.ldc 177, 2) := by decide +kernel
theorem dX9_going_28 : decode cX9_going 28 = .ok (.ireturn, 1) := by decide +kernel
theorem dX9_going_29 : decode cX9_going 29 = .ok (.iconst 1, 1) := by decide +kernel
theorem dX9_going_30 : decode cX9_going 30 = .ok (.aload_n 0, 1) := by decide +kernel
theorem dX9_going_31 : decode cX9_going 31 = .ok (.iload_n 1, 1) := by decide +kernel
theorem dX9_going_32 : decode cX9_going 32 = .ok (.invokevirtual 171, 3) := by decide +kernel
theorem dX9_going_35 : decode cX9_going 35 = .ok (.ishl, 1) := by decide +kernel
theorem dX9_going_36 : decode cX9_going 36 = .ok (.aload_n 0, 1) := by decide +kernel
theorem dX9_going_37 : decode cX9_going 37 = .ok (.iconst 0, 1) := by decide +kernel
theorem dX9_going_38 : decode cX9_going 38 = .ok (.invokevirtual 131, 3) := by decide +kernel
theorem dX9_going_41 : decode cX9_going 41 = .ok (.iand, 1) := by decide +kernel
theorem dX9_going_42 : decode cX9_going 42 = .ok (.istore_n 3, 1) := by decide +kernel
theorem dX9_going_43 : decode cX9_going 43 = .ok (.iconst 0, 1) := by decide +kernel
theorem dX9_going_44 : decode cX9_going 44 = .ok (.istore 4, 2) := by decide +kernel
theorem dX9_going_46 : decode cX9_going 46 = .ok (.iload 4, 2) := by decide +kernel
theorem dX9_going_48 : decode cX9_going 48 = .ok (.bipush 48, 2) := by decide +kernel
theorem dX9_going_50 : decode cX9_going 50 = .ok (.if_icmp .gt 35, 3) := by decide +kernel
theorem dX9_going_53 : decode cX9_going 53 = .ok (.iload_n 3, 1) := by decide +kernel
theorem dX9_going_54 : decode cX9_going 54 = .ok (.iload_n 2, 1) := by decide +kernel
theorem dX9_going_55 : decode cX9_going 55 = .ok (.ishr, 1) := by decide +kernel
theorem dX9_going_56 : decode cX9_going 56 = .ok (.iconst 1, 1) := by decide +kernel
theorem dX9_going_57 : decode cX9_going 57 = .ok (.iand, 1) := by decide +kernel
theorem dX9_going_58 : decode cX9_going 58 = .ok (.iconst 1, 1) := by decide +kernel
theorem dX9_going_59 : decode cX9_going 59 = .ok (.if_icmp .ne 6, 3) := by decide +kernel
theorem dX9_going_62 : decode cX9_going 62 = .ok (.iload 4, 2) := by decide +kernel
theorem dX9_going_64 : decode cX9_going 64 = .ok (.ireturn, 1) := by decide +kernel
theorem dX9_going_65 : decode cX9_going 65 = .ok (.iload_n 3, 1) := by decide +kernel
theorem dX9_going_66 : decode cX9_going 66 = .ok (.invokestatic 140, 3) := by decide +kernel
theorem dX9_going_69 : decode cX9_going 69 = .ok (.aload_n 0, 1) := by decide +kernel
theorem dX9_going_70 : decode cX9_going 70 = .ok (.iload 4, 2) := by decide +kernel
theorem dX9_going_72 : decode cX9_going 72 = .ok (.iconst 1, 1) := by decide +kernel
theorem dX9_going_73 : decode cX9_going 73 = .ok (.iadd, 1) := by decide +kernel
theorem dX9_going_74 : decode cX9_going 74 = .ok (.invokevirtual 131, 3) := by decide +kernel
theorem dX9_going_77 : decode cX9_going 77 = .ok (.iand, 1) := by decide +kernel
theorem dX9_going_78 : decode cX9_going 78 = .ok (.istore_n 3, 1) := by decide +kernel
theorem dX9_going_79 : decode cX9_going 79 = .ok (.iinc 4 1, 3) := by decide +kernel
theorem dX9_going_82 : decode cX9_going 82 = .ok (.goto (-36), 3) := by decide +kernel
theorem dX9_going_85 : decode cX9_going 85 = .ok (.ldc 64, 2) := by decide +kernel
theorem dX9_going_87 : decode cX9_going 87 = .ok (.ireturn, 1) := by decide +kernel
theorem dX9_grows_0 : decode cX9_grows 0 = .ok (.aload_n 0, 1) := by decide +kernel
theorem dX9_grows_1 : decode cX9_grows 1 = .ok (.iconst 1, 1) := by decide +kernel
theorem dX9_grows_2 : decode cX9_grows 2 = .ok (.invokevirtual 74, 3) := by decide +kernel
theorem dX9_grows_5 : decode cX9_grows 5 = .ok (.istore_n 2, 1) := by decide +kernel
theorem dX9_grows_6 : decode cX9_grows 6 = .ok (.iload_n 2, 1) := by decide +kernel
theorem dX9_grows_7 : decode cX9_grows 7 = .ok (.ifCond .ge 5, 3) := by decide +kernel
theorem dX9_grows_10 : decode cX9_grows 10 = .ok (.iconst 1, 1) := by decide +kernel
theorem dX9_grows_11 : decode cX9_grows 11 = .ok (.ireturn, 1) := by decide +kernel
theorem dX9_grows_12 : decode cX9_grows 12 = .ok (.aload_n 0, 1) := by decide +kernel
theorem dX9_grows_13 : decode cX9_grows 13 = .ok (.getfield 49, 3) := by decide +kernel
theorem dX9_grows_16 : decode cX9_grows 16 = .ok (.bipush 99, 2) := by decide +kernel
theorem dX9_grows_18 : decode cX9_grows 18 = .ok (.aload_n 0, 1) := by decide +kernel
theorem dX9_grows_19 : decode cX9_grows 19 = .ok (.iload_n 1, 1) := by decide +kernel
theorem dX9_grows_20 : decode cX9_grows 20 = .ok (.iconst 2, 1) := by decide +kernel
theorem dX9_grows_21 : decode cX9_grows 21 = .ok (.invokevirtual 70, 3) := by decide +kernel
theorem dX9_grows_24 : decode cX9_grows 24 = .ok (.iastore, 1) := by decide +kernel
theorem dX9_grows_25 : decode cX9_grows 25 = .ok (.aload_n 0, 1) := by decide +kernel
theorem dX9_grows_26 : decode cX9_grows 26 = .ok (.getfield 49, 3) := by decide +kernel
theorem dX9_grows_29 : decode cX9_grows 29 = .ok (.bipush 104, 2) := by decide +kernel
theorem dX9_grows_31 : decode cX9_grows 31 = .ok (.aload_n 0, 1) := by decide +kernel
theorem dX9_grows_32 : decode cX9_grows 32 = .ok (.iload_n 1, 1) := by decide +kernel
theorem dX9_grows_33 : decode cX9_grows 33 = .ok (.iconst 1, 1) := by decide +kernel
theorem dX9_grows_34 : decode cX9_grows 34 = .ok (.invokevirtual 70, 3) := by decide +kernel
theorem dX9_grows_37 : decode cX9_grows 37 = .ok (.iastore, 1) := by decide +kernel
theorem dX9_grows_38 : decode cX9_grows 38 = .ok (.aload_n 0, 1) := by decide +kernel
theorem dX9_grows_39 : decode cX9_grows 39 = .ok (.iload_n 2, 1) := by decide +kernel
theorem dX9_grows_40 : decode cX9_grows 40 = .ok (.invokevirtual 81, 3) := by decide +kernel
theorem dX9_grows_43 : decode cX9_grows 43 = .ok (.bipush 9, 2) := by decide +kernel
theorem dX9_grows_45 : decode cX9_grows 45 = .ok (.invokestatic 84, 3) := by decide +kernel
theorem dX9_grows_48 : decode cX9_grows 48 = .ok (.ireturn, 1) := by decide +kernel
theorem dX9_goesOn_0 : decode cX9_goesOn 0 = .ok (.aload_n 0, 1) := by decide +kernel
theorem dX9_goesOn_1 : decode cX9_goesOn 1 = .ok (.iconst 0, 1) := by decide +kernel
theorem dX9_goesOn_2 : decode cX9_goesOn 2 = .ok (.invokevirtual 131, 3) := by decide +kernel
theorem dX9_goesOn_5 : decode cX9_goesOn 5 = .ok (.istore_n 1, 1) := by decide +kernel
theorem dX9_goesOn_6 : decode cX9_goesOn 6 = .ok (.iconst 0, 1) := by decide +kernel
theorem dX9_goesOn_7 : decode cX9_goesOn 7 = .ok (.istore_n 2, 1) := by decide +kernel
theorem dX9_goesOn_8 : decode cX9_goesOn 8 = .ok (.iload_n 2, 1) := by decide +kernel
theorem dX9_goesOn_9 : decode cX9_goesOn 9 = .ok (.bipush 30, 2) := by decide +kernel
theorem dX9_goesOn_11 : decode cX9_goesOn 11 = .ok (.if_icmp .ge 65, 3) := by decide +kernel
theorem dX9_goesOn_14 : decode cX9_goesOn 14 = .ok (.aload_n 0, 1) := by decide +kernel
theorem dX9_goesOn_15 : decode cX9_goesOn 15 = .ok (.iload_n 2, 1) := by decide +kernel
theorem dX9_goesOn_16 : decode cX9_goesOn 16 = .ok (.iconst 0, 1) := by decide +kernel
theorem dX9_goesOn_17 : decode cX9_goesOn 17 = .ok (.invokevirtual 70, 3) := by decide +kernel
theorem dX9_goesOn_20 : decode cX9_goesOn 20 = .ok (.iconst 1, 1) := by decide +kernel
theorem dX9_goesOn_21 : decode cX9_goesOn 21 = .ok (.if_icmp .eq 13, 3) := by decide +kernel
theorem dX9_goesOn_24 : decode cX9_goesOn 24 = .ok (.aload_n 0, 1) := by decide +kernel
theorem dX9_goesOn_25 : decode cX9_goesOn 25 = .ok (.iload_n 2, 1) := by decide +kernel
theorem dX9_goesOn_26 : decode cX9_goesOn 26 = .ok (.iconst 0, 1) := by decide +kernel
theorem dX9_goesOn_27 : decode cX9_goesOn 27 = .ok (.invokevirtual 70, 3) := by decide +kernel
theorem dX9_goesOn_30 : decode cX9_goesOn 30 = .ok (.iconst 3, 1) := by decide +kernel
theorem dX9_goesOn_31 : decode cX9_goesOn 31 = .ok (.if_icmp .ne 39, 3) := by decide +kernel
theorem dX9_goesOn_34 : decode cX9_goesOn 34 = .ok (.aload_n 0, 1) := by decide +kernel
theorem dX9_goesOn_35 : decode cX9_goesOn 35 = .ok (.iload_n 2, 1) := by decide +kernel
theorem dX9_goesOn_36 : decode cX9_goesOn 36 = .ok (.iconst 2, 1) := by decide +kernel
theorem dX9_goesOn_37 : decode cX9_goesOn 37 = .ok (.iload_n 1, 1) := by decide +kernel
theorem dX9_goesOn_38 : decode cX9_goesOn 38 = .ok (.iload_n 2, 1) := by decide +kernel
theorem dX9_goesOn_39 : decode cX9_goesOn 39 = .ok (.ishr, 1) := by decide +kernel
theorem dX9_goesOn_40 : decode cX9_goesOn 40 = .ok (.iconst 1, 1) := by decide +kernel
theorem dX9_goesOn_41 : decode cX9_goesOn 41 = .ok (.iand, 1) := by decide +kernel
theorem dX9_goesOn_42 : decode cX9_goesOn 42 = .ok (.iconst 1, 1) := by decide +kernel
theorem dX9_goesOn_43 : decode cX9_goesOn 43 = .ok (.if_icmp .ne 23, 3) := by decide +kernel
theorem dX9_goesOn_46 : decode cX9_goesOn 46 = .ok (.aload_n 0, 1) := by decide +kernel
theorem dX9_goesOn_47 : decode cX9_goesOn 47 = .ok (.iload_n 2, 1) := by decide +kernel
theorem dX9_goesOn_48 : decode cX9_goesOn 48 = .ok (.iconst 2, 1) := by decide +kernel
theorem dX9_goesOn_49 : decode cX9_goesOn 49 = .ok (.invokevirtual 70, 3) := by decide +kernel
theorem dX9_goesOn_52 : decode cX9_goesOn 52 = .ok (.aload_n 0, 1) := by decide +kernel
theorem dX9_goesOn_53 : decode cX9_goesOn 53 = .ok (.iload_n 2, 1) := by decide +kernel
theorem dX9_goesOn_54 : decode cX9_goesOn 54 = .ok (.invokevirtual 178, 3) := by decide +kernel
theorem dX9_goesOn_57 : decode cX9_goesOn 57 = .ok (.iadd, 1) := by decide +kernel
theorem dX9_goesOn_58 : decode cX9_goesOn 58 = .ok (.bipush 99, 2) := by decide +kernel
theorem dX9_goesOn_60 : decode cX9_goesOn 60 = .ok (.invokestatic 84, 3) := by decide +kernel
theorem dX9_goesOn_63 : decode cX9_goesOn 63 = .ok (.goto 4, 3) := by decide +kernel
theorem dX9_goesOn_66 : decode cX9_goesOn 66 = .ok (.iconst 0, 1) := by decide +kernel
theorem dX9_goesOn_67 : decode cX9_goesOn 67 = .ok (.invokevirtual 99, 3) := by decide +kernel
theorem dX9_goesOn_70 : decode cX9_goesOn 70 = .ok (.iinc 2 1, 3) := by decide +kernel
theorem dX9_goesOn_73 : decode cX9_goesOn 73 = .ok (.goto (-65), 3) := by decide +kernel
theorem dX9_goesOn_76 : decode cX9_goesOn 76 = .ok (.iconst 0, 1) := by decide +kernel
theorem dX9_goesOn_77 : decode cX9_goesOn 77 = .ok (.istore_n 2, 1) := by decide +kernel
theorem dX9_goesOn_78 : decode cX9_goesOn 78 = .ok (.iload_n 2, 1) := by decide +kernel
theorem dX9_goesOn_79 : decode cX9_goesOn 79 = .ok (.aload_n 0, 1) := by decide +kernel
theorem dX9_goesOn_80 : decode cX9_goesOn 80 = .ok (.getfield 7, 3) := by decide +kernel
theorem dX9_goesOn_83 : decode cX9_goesOn 83 = .ok (.iconst 0, 1) := by decide +kernel
theorem dX9_goesOn_84 : decode cX9_goesOn 84 = .ok (.iaload, 1) := by decide +kernel
theorem dX9_goesOn_85 : decode cX9_goesOn 85 = .ok (.if_icmp .ge 120, 3) := by decide +kernel
theorem dX9_goesOn_88 : decode cX9_goesOn 88 = .ok (.aload_n 0, 1) := by decide +kernel
theorem dX9_goesOn_89 : decode cX9_goesOn 89 = .ok (.iload_n 2, 1) := by decide +kernel
theorem dX9_goesOn_90 : decode cX9_goesOn 90 = .ok (.invokevirtual 171, 3) := by decide +kernel
theorem dX9_goesOn_93 : decode cX9_goesOn 93 = .ok (.istore_n 3, 1) := by decide +kernel
theorem dX9_goesOn_94 : decode cX9_goesOn 94 = .ok (.iload_n 3, 1) := by decide +kernel
theorem dX9_goesOn_95 : decode cX9_goesOn 95 = .ok (.ifCond .lt 104, 3) := by decide +kernel
theorem dX9_goesOn_98 : decode cX9_goesOn 98 = .ok (.iload_n 1, 1) := by decide +kernel
theorem dX9_goesOn_99 : decode cX9_goesOn 99 = .ok (.iload_n 3, 1) := by decide +kernel
theorem dX9_goesOn_100 : decode cX9_goesOn 100 = .ok (.ishr, 1) := by decide +kernel
theorem dX9_goesOn_101 : decode cX9_goesOn 101 = .ok (.iconst 1, 1) := by decide +kernel
theorem dX9_goesOn_102 : decode cX9_goesOn 102 = .ok (.iand, 1) := by decide +kernel
theorem dX9_goesOn_103 : decode cX9_goesOn 103 = .ok (.ifCond .ne 96, 3) := by decide +kernel
theorem dX9_goesOn_106 : decode cX9_goesOn 106 = .ok (.iconst (-1), 1) := by decide +kernel
theorem dX9_goesOn_107 : decode cX9_goesOn 107 = .ok (.istore 4, 2) := by decide +kernel
theorem dX9_goesOn_109 : decode cX9_goesOn 109 = .ok (.iconst 0, 1) := by decide +kernel
theorem dX9_goesOn_110 : decode cX9_goesOn 110 = .ok (.istore 5, 2) := by decide +kernel
theorem dX9_goesOn_112 : decode cX9_goesOn 112 = .ok (.iload 5, 2) := by decide +kernel
theorem dX9_goesOn_114 : decode cX9_goesOn 114 = .ok (.iconst 4, 1) := by decide +kernel
theorem dX9_goesOn_115 : decode cX9_goesOn 115 = .ok (.if_icmp .ge 45, 3) := by decide +kernel
theorem dX9_goesOn_118 : decode cX9_goesOn 118 = .ok (.iload 4, 2) := by decide +kernel
theorem dX9_goesOn_120 : decode cX9_goesOn 120 = .ok (.ifCond .ge 40, 3) := by decide +kernel
theorem dX9_goesOn_123 : decode cX9_goesOn 123 = .ok (.iload_n 3, 1) := by decide +kernel
theorem dX9_goesOn_124 : decode cX9_goesOn 124 = .ok (.iload 5, 2) := by decide +kernel
theorem dX9_goesOn_126 : decode cX9_goesOn 126 = .ok (.invokestatic 137, 3) := by decide +kernel
theorem dX9_goesOn_129 : decode cX9_goesOn 129 = .ok (.istore 6, 2) := by decide +kernel
theorem dX9_goesOn_131 : decode cX9_goesOn 131 = .ok (.iload 6, 2) := by decide +kernel
theorem dX9_goesOn_133 : decode cX9_goesOn 133 = .ok (.ifCond .lt 18, 3) := by decide +kernel
theorem dX9_goesOn_136 : decode cX9_goesOn 136 = .ok (.iload_n 1, 1) := by decide +kernel
theorem dX9_goesOn_137 : decode cX9_goesOn 137 = .ok (.iload 6, 2) := by decide +kernel
theorem dX9_goesOn_139 : decode cX9_goesOn 139 = .ok (.ishr, 1) := by decide +kernel
theorem dX9_goesOn_140 : decode cX9_goesOn 140 = .ok (.iconst 1, 1) := by decide +kernel
theorem dX9_goesOn_141 : decode cX9_goesOn 141 = .ok (.iand, 1) := by decide +kernel
theorem dX9_goesOn_142 : decode cX9_goesOn 142 = .ok (.iconst 1, 1) := by decide +kernel
theorem dX9_goesOn_143 : decode cX9_goesOn 143 = .ok (.if_icmp .ne 8, 3) := by decide +kernel
theorem dX9_goesOn_146 : decode cX9_goesOn 146 = .ok (.iload 6, 2) := by decide +kernel
theorem dX9_goesOn_148 : decode cX9_goesOn 148 = .ok (.goto 4, 3) := by decide +kernel
theorem dX9_goesOn_151 : decode cX9_goesOn 151 = .ok (.iconst (-1), 1) := by decide +kernel
theorem dX9_goesOn_152 : decode cX9_goesOn 152 = .ok (.istore 4, 2) := by decide +kernel
theorem dX9_goesOn_154 : decode cX9_goesOn 154 = .ok (.iinc 5 1, 3) := by decide +kernel
theorem dX9_goesOn_157 : decode cX9_goesOn 157 = .ok (.goto (-45), 3) := by decide +kernel
theorem dX9_goesOn_160 : decode cX9_goesOn 160 = .ok (.aload_n 0, 1) := by decide +kernel
theorem dX9_goesOn_161 : decode cX9_goesOn 161 = .ok (.getfield 7, 3) := by decide +kernel
theorem dX9_goesOn_164 : decode cX9_goesOn 164 = .ok (.sipush 131, 3) := by decide +kernel
theorem dX9_goesOn_167 : decode cX9_goesOn 167 = .ok (.iconst 2, 1) := by decide +kernel
theorem dX9_goesOn_168 : decode cX9_goesOn 168 = .ok (.iload_n 2, 1) := by decide +kernel
theorem dX9_goesOn_169 : decode cX9_goesOn 169 = .ok (.imul, 1) := by decide +kernel
theorem dX9_goesOn_170 : decode cX9_goesOn 170 = .ok (.iadd, 1) := by decide +kernel
theorem dX9_goesOn_171 : decode cX9_goesOn 171 = .ok (.iconst 1, 1) := by decide +kernel
theorem dX9_goesOn_172 : decode cX9_goesOn 172 = .ok (.iadd, 1) := by decide +kernel
theorem dX9_goesOn_173 : decode cX9_goesOn 173 = .ok (.iload 4, 2) := by decide +kernel
theorem dX9_goesOn_175 : decode cX9_goesOn 175 = .ok (.iastore, 1) := by decide +kernel
theorem dX9_goesOn_176 : decode cX9_goesOn 176 = .ok (.aload_n 0, 1) := by decide +kernel
theorem dX9_goesOn_177 : decode cX9_goesOn 177 = .ok (.getfield 7, 3) := by decide +kernel
theorem dX9_goesOn_180 : decode cX9_goesOn 180 = .ok (.iconst 3, 1) := by decide +kernel
theorem dX9_goesOn_181 : decode cX9_goesOn 181 = .ok (.dup2, 1) := by decide +kernel
theorem dX9_goesOn_182 : decode cX9_goesOn 182 = .ok (.iaload, 1) := by decide +kernel
theorem dX9_goesOn_183 : decode cX9_goesOn 183 = .ok (.iload 4, 2) := by decide +kernel
theorem dX9_goesOn_185 : decode cX9_goesOn 185 = .ok (.ifCond .ge 11, 3) := by decide +kernel
theorem dX9_goesOn_188 : decode cX9_goesOn 188 = .ok (.aload_n 0, 1) := by decide +kernel
theorem dX9_goesOn_189 : decode cX9_goesOn 189 = .ok (.iload_n 2, 1) := by decide +kernel
theorem dX9_goesOn_190 : decode cX9_goesOn 190 = .ok (.invokevirtual 168, 3) := by decide +kernel
theorem dX9_goesOn_193 : decode cX9_goesOn 193 = .ok (.goto 4, 3) := by decide +kernel
theorem dX9_goesOn_196 : decode cX9_goesOn 196 = .ok (.iconst 0, 1) := by decide +kernel
theorem dX9_goesOn_197 : decode cX9_goesOn 197 = .ok (.iadd, 1) := by decide +kernel
theorem dX9_goesOn_198 : decode cX9_goesOn 198 = .ok (.iastore, 1) := by decide +kernel
theorem dX9_goesOn_199 : decode cX9_goesOn 199 = .ok (.iinc 2 1, 3) := by decide +kernel
theorem dX9_goesOn_202 : decode cX9_goesOn 202 = .ok (.goto (-124), 3) := by decide +kernel
theorem dX9_goesOn_205 : decode cX9_goesOn 205 = .ok (.aload_n 0, 1) := by decide +kernel
theorem dX9_goesOn_206 : decode cX9_goesOn 206 = .ok (.getfield 7, 3) := by decide +kernel
theorem dX9_goesOn_209 : decode cX9_goesOn 209 = .ok (.iconst 2, 1) := by decide +kernel
theorem dX9_goesOn_210 : decode cX9_goesOn 210 = .ok (.iaload, 1) := by decide +kernel
theorem dX9_goesOn_211 : decode cX9_goesOn 211 = .ok (.bipush 12, 2) := by decide +kernel
theorem dX9_goesOn_213 : decode cX9_goesOn 213 = .ok (.irem, 1) := by decide +kernel
theorem dX9_goesOn_214 : decode cX9_goesOn 214 = .ok (.ifCond .ne 63, 3) := by decide +kernel
theorem dX9_goesOn_217 : decode cX9_goesOn 217 = .ok (.aload_n 0, 1) := by decide +kernel
theorem dX9_goesOn_218 : decode cX9_goesOn 218 = .ok (.invokevirtual 127, 3) := by decide +kernel
theorem dX9_goesOn_221 : decode cX9_goesOn 221 = .ok (.bipush 100, 2) := by decide +kernel
theorem dX9_goesOn_223 : decode cX9_goesOn 223 = .ok (.irem, 1) := by decide +kernel
theorem dX9_goesOn_224 : decode cX9_goesOn 224 = .ok (.aload_n 0, 1) := by decide +kernel
theorem dX9_goesOn_225 : decode cX9_goesOn 225 = .ok (.getfield 7, 3) := by decide +kernel
theorem dX9_goesOn_228 : decode cX9_goesOn 228 = .ok (.bipush 9, 2) := by decide +kernel
theorem dX9_goesOn_230 : decode cX9_goesOn 230 = .ok (.iaload, 1) := by decide +kernel
theorem dX9_goesOn_231 : decode cX9_goesOn 231 = .ok (.if_icmp .ge 7, 3) := by decide +kernel
theorem dX9_goesOn_234 : decode cX9_goesOn 234 = .ok (.iconst 1, 1) := by decide +kernel
theorem dX9_goesOn_235 : decode cX9_goesOn 235 = .ok (.goto 4, 3) := by decide +kernel
theorem dX9_goesOn_238 : decode cX9_goesOn 238 = .ok (.iconst 0, 1) := by decide +kernel
theorem dX9_goesOn_239 : decode cX9_goesOn 239 = .ok (.istore_n 2, 1) := by decide +kernel
theorem dX9_goesOn_240 : decode cX9_goesOn 240 = .ok (.aload_n 0, 1) := by decide +kernel
theorem dX9_goesOn_241 : decode cX9_goesOn 241 = .ok (.getfield 7, 3) := by decide +kernel
theorem dX9_goesOn_244 : decode cX9_goesOn 244 = .ok (.bipush 8, 2) := by decide +kernel
theorem dX9_goesOn_246 : decode cX9_goesOn 246 = .ok (.iload_n 2, 1) := by decide +kernel
theorem dX9_goesOn_247 : decode cX9_goesOn 247 = .ok (.ifCond .eq 15, 3) := by decide +kernel
theorem dX9_goesOn_250 : decode cX9_goesOn 250 = .ok (.aload_n 0, 1) := by decide +kernel
theorem dX9_goesOn_251 : decode cX9_goesOn 251 = .ok (.getfield 7, 3) := by decide +kernel
theorem dX9_goesOn_254 : decode cX9_goesOn 254 = .ok (.bipush 8, 2) := by decide +kernel
theorem dX9_goesOn_256 : decode cX9_goesOn 256 = .ok (.iaload, 1) := by decide +kernel
theorem dX9_goesOn_257 : decode cX9_goesOn 257 = .ok (.iconst 1, 1) := by decide +kernel
theorem dX9_goesOn_258 : decode cX9_goesOn 258 = .ok (.iadd, 1) := by decide +kernel
theorem dX9_goesOn_259 : decode cX9_goesOn 259 = .ok (.goto 12, 3) := by decide +kernel
theorem dX9_goesOn_262 : decode cX9_goesOn 262 = .ok (.aload_n 0, 1) := by decide +kernel
theorem dX9_goesOn_263 : decode cX9_goesOn 263 = .ok (.getfield 7, 3) := by decide +kernel
theorem dX9_goesOn_266 : decode cX9_goesOn 266 = .ok (.bipush 8, 2) := by decide +kernel
theorem dX9_goesOn_268 : decode cX9_goesOn 268 = .ok (.iaload, 1) := by decide +kernel
theorem dX9_goesOn_269 : decode cX9_goesOn 269 = .ok (.iconst 1, 1) := by decide +kernel
theorem dX9_goesOn_270 : decode cX9_goesOn 270 = .ok (.isub, 1) := by decide +kernel
theorem dX9_goesOn_271 : decode cX9_goesOn 271 = .ok (.bipush 9, 2) := by decide +kernel
theorem dX9_goesOn_273 : decode cX9_goesOn 273 = .ok (.invokestatic 84, 3) := by decide +kernel
theorem dX9_goesOn_276 : decode cX9_goesOn 276 = .ok (.iastore, 1) := by decide +kernel
theorem dX9_goesOn_277 : decode cX9_goesOn 277 = .ok (.aload_n 0, 1) := by decide +kernel
theorem dX9_goesOn_278 : decode cX9_goesOn 278 = .ok (.getfield 7, 3) := by decide +kernel
theorem dX9_goesOn_281 : decode cX9_goesOn 281 = .ok (.iconst 2, 1) := by decide +kernel
theorem dX9_goesOn_282 : decode cX9_goesOn 282 = .ok (.dup2, 1) := by decide +kernel
theorem dX9_goesOn_283 : decode cX9_goesOn 283 = .ok (.iaload, 1) := by decide +kernel
theorem dX9_goesOn_284 : decode cX9_goesOn 284 = .ok (.iconst 1, 1) := by decide +kernel
theorem dX9_goesOn_285 : decode cX9_goesOn 285 = .ok (.iadd, 1) := by decide +kernel
theorem dX9_goesOn_286 : decode cX9_goesOn 286 = .ok (.iastore, 1) := by decide +kernel
theorem dX9_goesOn_287 : decode cX9_goesOn 287 = .ok (.return_, 1) := by decide +kernel
theorem dX9_run_0 : decode cX9_run 0 = .ok (.iload_n 1, 1) := by decide +kernel
theorem dX9_run_1 : decode cX9_run 1 = .ok (.i2l, 1) := by decide +kernel
theorem dX9_run_2 : decode cX9_run 2 = .ok (.lconst 1, 1) := by decide +kernel
theorem dX9_run_3 : decode cX9_run 3 = .ok (.ldc2_w 120, 3) := by decide +kernel
theorem dX9_run_6 : decode cX9_run 6 = .ok (.invokestatic 65, 3) := by decide +kernel
theorem dX9_run_9 : decode cX9_run 9 = .ok (.ifCond .ne 6, 3) := by decide +kernel
theorem dX9_run_12 : decode cX9_run 12 = .ok (.ldc 98, 2) := by decide +kernel
theorem dX9_run_14 : decode cX9_run 14 = .ok (.ireturn, 1) := by decide +kernel
theorem dX9_run_15 : decode cX9_run 15 = .ok (.iconst 0, 1) := by decide +kernel
theorem dX9_run_16 : decode cX9_run 16 = .ok (.istore_n 2, 1) := by decide +kernel
theorem dX9_run_17 : decode cX9_run 17 = .ok (.iload_n 2, 1) := by decide +kernel
theorem dX9_run_18 : decode cX9_run 18 = .ok (.iload_n 1, 1) := by decide +kernel
theorem dX9_run_19 : decode cX9_run 19 = .ok (.if_icmp .ge 25, 3) := by decide +kernel
theorem dX9_run_22 : decode cX9_run 22 = .ok (.aload_n 0, 1) := by decide +kernel
theorem dX9_run_23 : decode cX9_run 23 = .ok (.getfield 7, 3) := by decide +kernel
theorem dX9_run_26 : decode cX9_run 26 = .ok (.iconst 2, 1) := by decide +kernel
theorem dX9_run_27 : decode cX9_run 27 = .ok (.iaload, 1) := by decide +kernel
theorem dX9_run_28 : decode cX9_run 28 = .ok (.sipush 9999, 3) := by decide +kernel
theorem dX9_run_31 : decode cX9_run 31 = .ok (.if_icmp .ge 13, 3) := by decide +kernel
theorem dX9_run_34 : decode cX9_run 34 = .ok (.aload_n 0, 1) := by decide +kernel
theorem dX9_run_35 : decode cX9_run 35 = .ok (.invokevirtual 181, 3) := by decide +kernel
theorem dX9_run_38 : decode cX9_run 38 = .ok (.iinc 2 1, 3) := by decide +kernel
theorem dX9_run_41 : decode cX9_run 41 = .ok (.goto (-24), 3) := by decide +kernel
theorem dX9_run_44 : decode cX9_run 44 = .ok (.aload_n 0, 1) := by decide +kernel
theorem dX9_run_45 : decode cX9_run 45 = .ok (.getfield 7, 3) := by decide +kernel
theorem dX9_run_48 : decode cX9_run 48 = .ok (.iconst 3, 1) := by decide +kernel
theorem dX9_run_49 : decode cX9_run 49 = .ok (.iaload, 1) := by decide +kernel
theorem dX9_run_50 : decode cX9_run 50 = .ok (.ireturn, 1) := by decide +kernel
theorem dX9_allCorn_0 : decode cX9_allCorn 0 = .ok (.iconst 0, 1) := by decide +kernel
theorem dX9_allCorn_1 : decode cX9_allCorn 1 = .ok (.istore_n 1, 1) := by decide +kernel
theorem dX9_allCorn_2 : decode cX9_allCorn 2 = .ok (.iconst 0, 1) := by decide +kernel
theorem dX9_allCorn_3 : decode cX9_allCorn 3 = .ok (.istore_n 2, 1) := by decide +kernel
theorem dX9_allCorn_4 : decode cX9_allCorn 4 = .ok (.iload_n 2, 1) := by decide +kernel
theorem dX9_allCorn_5 : decode cX9_allCorn 5 = .ok (.bipush 30, 2) := by decide +kernel
theorem dX9_allCorn_7 : decode cX9_allCorn 7 = .ok (.if_icmp .ge 18, 3) := by decide +kernel
theorem dX9_allCorn_10 : decode cX9_allCorn 10 = .ok (.iload_n 1, 1) := by decide +kernel
theorem dX9_allCorn_11 : decode cX9_allCorn 11 = .ok (.aload_n 0, 1) := by decide +kernel
theorem dX9_allCorn_12 : decode cX9_allCorn 12 = .ok (.iload_n 2, 1) := by decide +kernel
theorem dX9_allCorn_13 : decode cX9_allCorn 13 = .ok (.iconst 2, 1) := by decide +kernel
theorem dX9_allCorn_14 : decode cX9_allCorn 14 = .ok (.invokevirtual 70, 3) := by decide +kernel
theorem dX9_allCorn_17 : decode cX9_allCorn 17 = .ok (.iadd, 1) := by decide +kernel
theorem dX9_allCorn_18 : decode cX9_allCorn 18 = .ok (.istore_n 1, 1) := by decide +kernel
theorem dX9_allCorn_19 : decode cX9_allCorn 19 = .ok (.iinc 2 1, 3) := by decide +kernel
theorem dX9_allCorn_22 : decode cX9_allCorn 22 = .ok (.goto (-18), 3) := by decide +kernel
theorem dX9_allCorn_25 : decode cX9_allCorn 25 = .ok (.iload_n 1, 1) := by decide +kernel
theorem dX9_allCorn_26 : decode cX9_allCorn 26 = .ok (.ireturn, 1) := by decide +kernel
theorem dX9_feed_0 : decode cX9_feed 0 = .ok (.aload_n 0, 1) := by decide +kernel
theorem dX9_feed_1 : decode cX9_feed 1 = .ok (.getfield 184, 3) := by decide +kernel
theorem dX9_feed_4 : decode cX9_feed 4 = .ok (.bipush 12, 2) := by decide +kernel
theorem dX9_feed_6 : decode cX9_feed 6 = .ok (.iadd, 1) := by decide +kernel
theorem dX9_feed_7 : decode cX9_feed 7 = .ok (.bipush 96, 2) := by decide +kernel
theorem dX9_feed_9 : decode cX9_feed 9 = .ok (.if_icmp .le 6, 3) := by decide +kernel
theorem dX9_feed_12 : decode cX9_feed 12 = .ok (.ldc 164, 2) := by decide +kernel
theorem dX9_feed_14 : decode cX9_feed 14 = .ok (.ireturn, 1) := by decide +kernel
theorem dX9_feed_15 : decode cX9_feed 15 = .ok (.iconst 0, 1) := by decide +kernel
theorem dX9_feed_16 : decode cX9_feed 16 = .ok (.istore 4, 2) := by decide +kernel
theorem dX9_feed_18 : decode cX9_feed 18 = .ok (.iload 4, 2) := by decide +kernel
theorem dX9_feed_20 : decode cX9_feed 20 = .ok (.bipush 12, 2) := by decide +kernel
theorem dX9_feed_22 : decode cX9_feed 22 = .ok (.if_icmp .ge 69, 3) := by decide +kernel
theorem dX9_feed_25 : decode cX9_feed 25 = .ok (.iload 4, 2) := by decide +kernel
theorem dX9_feed_27 : decode cX9_feed 27 = .ok (.iconst 4, 1) := by decide +kernel
theorem dX9_feed_28 : decode cX9_feed 28 = .ok (.if_icmp .ge 7, 3) := by decide +kernel
theorem dX9_feed_31 : decode cX9_feed 31 = .ok (.iload_n 1, 1) := by decide +kernel
theorem dX9_feed_32 : decode cX9_feed 32 = .ok (.goto 15, 3) := by decide +kernel
theorem dX9_feed_35 : decode cX9_feed 35 = .ok (.iload 4, 2) := by decide +kernel
theorem dX9_feed_37 : decode cX9_feed 37 = .ok (.bipush 8, 2) := by decide +kernel
theorem dX9_feed_39 : decode cX9_feed 39 = .ok (.if_icmp .ge 7, 3) := by decide +kernel
theorem dX9_feed_42 : decode cX9_feed 42 = .ok (.iload_n 2, 1) := by decide +kernel
theorem dX9_feed_43 : decode cX9_feed 43 = .ok (.goto 4, 3) := by decide +kernel
theorem dX9_feed_46 : decode cX9_feed 46 = .ok (.iload_n 3, 1) := by decide +kernel
theorem dX9_feed_47 : decode cX9_feed 47 = .ok (.istore 5, 2) := by decide +kernel
theorem dX9_feed_49 : decode cX9_feed 49 = .ok (.aload_n 0, 1) := by decide +kernel
theorem dX9_feed_50 : decode cX9_feed 50 = .ok (.getfield 46, 3) := by decide +kernel
theorem dX9_feed_53 : decode cX9_feed 53 = .ok (.aload_n 0, 1) := by decide +kernel
theorem dX9_feed_54 : decode cX9_feed 54 = .ok (.getfield 184, 3) := by decide +kernel
theorem dX9_feed_57 : decode cX9_feed 57 = .ok (.iload 5, 2) := by decide +kernel
theorem dX9_feed_59 : decode cX9_feed 59 = .ok (.bipush 24, 2) := by decide +kernel
theorem dX9_feed_61 : decode cX9_feed 61 = .ok (.bipush 8, 2) := by decide +kernel
theorem dX9_feed_63 : decode cX9_feed 63 = .ok (.iload 4, 2) := by decide +kernel
theorem dX9_feed_65 : decode cX9_feed 65 = .ok (.iconst 4, 1) := by decide +kernel
theorem dX9_feed_66 : decode cX9_feed 66 = .ok (.irem, 1) := by decide +kernel
theorem dX9_feed_67 : decode cX9_feed 67 = .ok (.imul, 1) := by decide +kernel
theorem dX9_feed_68 : decode cX9_feed 68 = .ok (.isub, 1) := by decide +kernel
theorem dX9_feed_69 : decode cX9_feed 69 = .ok (.ishr, 1) := by decide +kernel
theorem dX9_feed_70 : decode cX9_feed 70 = .ok (.sipush 255, 3) := by decide +kernel
theorem dX9_feed_73 : decode cX9_feed 73 = .ok (.iand, 1) := by decide +kernel
theorem dX9_feed_74 : decode cX9_feed 74 = .ok (.iastore, 1) := by decide +kernel
theorem dX9_feed_75 : decode cX9_feed 75 = .ok (.aload_n 0, 1) := by decide +kernel
theorem dX9_feed_76 : decode cX9_feed 76 = .ok (.dup, 1) := by decide +kernel
theorem dX9_feed_77 : decode cX9_feed 77 = .ok (.getfield 184, 3) := by decide +kernel
theorem dX9_feed_80 : decode cX9_feed 80 = .ok (.iconst 1, 1) := by decide +kernel
theorem dX9_feed_81 : decode cX9_feed 81 = .ok (.iadd, 1) := by decide +kernel
theorem dX9_feed_82 : decode cX9_feed 82 = .ok (.putfield 184, 3) := by decide +kernel
theorem dX9_feed_85 : decode cX9_feed 85 = .ok (.iinc 4 1, 3) := by decide +kernel
theorem dX9_feed_88 : decode cX9_feed 88 = .ok (.goto (-70), 3) := by decide +kernel
theorem dX9_feed_91 : decode cX9_feed 91 = .ok (.aload_n 0, 1) := by decide +kernel
theorem dX9_feed_92 : decode cX9_feed 92 = .ok (.getfield 184, 3) := by decide +kernel
theorem dX9_feed_95 : decode cX9_feed 95 = .ok (.ireturn, 1) := by decide +kernel
theorem dX9_trim_0 : decode cX9_trim 0 = .ok (.iload_n 1, 1) := by decide +kernel
theorem dX9_trim_1 : decode cX9_trim 1 = .ok (.i2l, 1) := by decide +kernel
theorem dX9_trim_2 : decode cX9_trim 2 = .ok (.lconst 0, 1) := by decide +kernel
theorem dX9_trim_3 : decode cX9_trim 3 = .ok (.aload_n 0, 1) := by decide +kernel
theorem dX9_trim_4 : decode cX9_trim 4 = .ok (.getfield 184, 3) := by decide +kernel
theorem dX9_trim_7 : decode cX9_trim 7 = .ok (.i2l, 1) := by decide +kernel
theorem dX9_trim_8 : decode cX9_trim 8 = .ok (.invokestatic 65, 3) := by decide +kernel
theorem dX9_trim_11 : decode cX9_trim 11 = .ok (.ifCond .ne 6, 3) := by decide +kernel
theorem dX9_trim_14 : decode cX9_trim 14 = .ok (.ldc 98, 2) := by decide +kernel
theorem dX9_trim_16 : decode cX9_trim 16 = .ok (.ireturn, 1) := by decide +kernel
theorem dX9_trim_17 : decode cX9_trim 17 = .ok (.aload_n 0, 1) := by decide +kernel
theorem dX9_trim_18 : decode cX9_trim 18 = .ok (.iload_n 1, 1) := by decide +kernel
theorem dX9_trim_19 : decode cX9_trim 19 = .ok (.putfield 184, 3) := by decide +kernel
theorem dX9_trim_22 : decode cX9_trim 22 = .ok (.iload_n 1, 1) := by decide +kernel
theorem dX9_trim_23 : decode cX9_trim 23 = .ok (.ireturn, 1) := by decide +kernel
theorem dX9_isLetter_0 : decode cX9_isLetter 0 = .ok (.iload_n 1, 1) := by decide +kernel
theorem dX9_isLetter_1 : decode cX9_isLetter 1 = .ok (.aload_n 0, 1) := by decide +kernel
theorem dX9_isLetter_2 : decode cX9_isLetter 2 = .ok (.getfield 184, 3) := by decide +kernel
theorem dX9_isLetter_5 : decode cX9_isLetter 5 = .ok (.if_icmp .ge 26, 3) := by decide +kernel
theorem dX9_isLetter_8 : decode cX9_isLetter 8 = .ok (.aload_n 0, 1) := by decide +kernel
theorem dX9_isLetter_9 : decode cX9_isLetter 9 = .ok (.getfield 46, 3) := by decide +kernel
theorem dX9_isLetter_12 : decode cX9_isLetter 12 = .ok (.iload_n 1, 1) := by decide +kernel
theorem dX9_isLetter_13 : decode cX9_isLetter 13 = .ok (.iaload, 1) := by decide +kernel
theorem dX9_isLetter_14 : decode cX9_isLetter 14 = .ok (.i2l, 1) := by decide +kernel
theorem dX9_isLetter_15 : decode cX9_isLetter 15 = .ok (.ldc2_w 188, 3) := by decide +kernel
theorem dX9_isLetter_18 : decode cX9_isLetter 18 = .ok (.ldc2_w 190, 3) := by decide +kernel
theorem dX9_isLetter_21 : decode cX9_isLetter 21 = .ok (.invokestatic 65, 3) := by decide +kernel
theorem dX9_isLetter_24 : decode cX9_isLetter 24 = .ok (.ifCond .eq 7, 3) := by decide +kernel
theorem dX9_isLetter_27 : decode cX9_isLetter 27 = .ok (.iconst 1, 1) := by decide +kernel
theorem dX9_isLetter_28 : decode cX9_isLetter 28 = .ok (.goto 4, 3) := by decide +kernel
theorem dX9_isLetter_31 : decode cX9_isLetter 31 = .ok (.iconst 0, 1) := by decide +kernel
theorem dX9_isLetter_32 : decode cX9_isLetter 32 = .ok (.ireturn, 1) := by decide +kernel
theorem dX9_isDigit_0 : decode cX9_isDigit 0 = .ok (.iload_n 1, 1) := by decide +kernel
theorem dX9_isDigit_1 : decode cX9_isDigit 1 = .ok (.aload_n 0, 1) := by decide +kernel
theorem dX9_isDigit_2 : decode cX9_isDigit 2 = .ok (.getfield 184, 3) := by decide +kernel
theorem dX9_isDigit_5 : decode cX9_isDigit 5 = .ok (.if_icmp .ge 26, 3) := by decide +kernel
theorem dX9_isDigit_8 : decode cX9_isDigit 8 = .ok (.aload_n 0, 1) := by decide +kernel
theorem dX9_isDigit_9 : decode cX9_isDigit 9 = .ok (.getfield 46, 3) := by decide +kernel
theorem dX9_isDigit_12 : decode cX9_isDigit 12 = .ok (.iload_n 1, 1) := by decide +kernel
theorem dX9_isDigit_13 : decode cX9_isDigit 13 = .ok (.iaload, 1) := by decide +kernel
theorem dX9_isDigit_14 : decode cX9_isDigit 14 = .ok (.i2l, 1) := by decide +kernel
theorem dX9_isDigit_15 : decode cX9_isDigit 15 = .ok (.ldc2_w 192, 3) := by decide +kernel
theorem dX9_isDigit_18 : decode cX9_isDigit 18 = .ok (.ldc2_w 194, 3) := by decide +kernel
theorem dX9_isDigit_21 : decode cX9_isDigit 21 = .ok (.invokestatic 65, 3) := by decide +kernel
theorem dX9_isDigit_24 : decode cX9_isDigit 24 = .ok (.ifCond .eq 7, 3) := by decide +kernel
theorem dX9_isDigit_27 : decode cX9_isDigit 27 = .ok (.iconst 1, 1) := by decide +kernel
theorem dX9_isDigit_28 : decode cX9_isDigit 28 = .ok (.goto 4, 3) := by decide +kernel
theorem dX9_isDigit_31 : decode cX9_isDigit 31 = .ok (.iconst 0, 1) := by decide +kernel
theorem dX9_isDigit_32 : decode cX9_isDigit 32 = .ok (.ireturn, 1) := by decide +kernel
theorem dX9_nextToken_0 : decode cX9_nextToken 0 = .ok (.aload_n 0, 1) := by decide +kernel
theorem dX9_nextToken_1 : decode cX9_nextToken 1 = .ok (.getfield 196, 3) := by decide +kernel
theorem dX9_nextToken_4 : decode cX9_nextToken 4 = .ok (.ifCond .le 23, 3) := by decide +kernel
theorem dX9_nextToken_7 : decode cX9_nextToken 7 = .ok (.aload_n 0, 1) := by decide +kernel
theorem dX9_nextToken_8 : decode cX9_nextToken 8 = .ok (.getfield 199, 3) := by decide +kernel
theorem dX9_nextToken_11 : decode cX9_nextToken 11 = .ok (.iconst 1, 1) := by decide +kernel
theorem dX9_nextToken_12 : decode cX9_nextToken 12 = .ok (.if_icmp .eq 11, 3) := by decide +kernel
theorem dX9_nextToken_15 : decode cX9_nextToken 15 = .ok (.aload_n 0, 1) := by decide +kernel
theorem dX9_nextToken_16 : decode cX9_nextToken 16 = .ok (.getfield 199, 3) := by decide +kernel
theorem dX9_nextToken_19 : decode cX9_nextToken 19 = .ok (.iconst 2, 1) := by decide +kernel
theorem dX9_nextToken_20 : decode cX9_nextToken 20 = .ok (.if_icmp .ne 7, 3) := by decide +kernel
theorem dX9_nextToken_23 : decode cX9_nextToken 23 = .ok (.iconst 1, 1) := by decide +kernel
theorem dX9_nextToken_24 : decode cX9_nextToken 24 = .ok (.goto 4, 3) := by decide +kernel
theorem dX9_nextToken_27 : decode cX9_nextToken 27 = .ok (.iconst 0, 1) := by decide +kernel
theorem dX9_nextToken_28 : decode cX9_nextToken 28 = .ok (.istore_n 1, 1) := by decide +kernel
theorem dX9_nextToken_29 : decode cX9_nextToken 29 = .ok (.aload_n 0, 1) := by decide +kernel
theorem dX9_nextToken_30 : decode cX9_nextToken 30 = .ok (.getfield 196, 3) := by decide +kernel
theorem dX9_nextToken_33 : decode cX9_nextToken 33 = .ok (.istore_n 2, 1) := by decide +kernel
theorem dX9_nextToken_34 : decode cX9_nextToken 34 = .ok (.aload_n 0, 1) := by decide +kernel
theorem dX9_nextToken_35 : decode cX9_nextToken 35 = .ok (.getfield 196, 3) := by decide +kernel
theorem dX9_nextToken_38 : decode cX9_nextToken 38 = .ok (.aload_n 0, 1) := by decide +kernel
theorem dX9_nextToken_39 : decode cX9_nextToken 39 = .ok (.getfield 184, 3) := by decide +kernel
theorem dX9_nextToken_42 : decode cX9_nextToken 42 = .ok (.if_icmp .ge 30, 3) := by decide +kernel
theorem dX9_nextToken_45 : decode cX9_nextToken 45 = .ok (.aload_n 0, 1) := by decide +kernel
theorem dX9_nextToken_46 : decode cX9_nextToken 46 = .ok (.getfield 46, 3) := by decide +kernel
theorem dX9_nextToken_49 : decode cX9_nextToken 49 = .ok (.aload_n 0, 1) := by decide +kernel
theorem dX9_nextToken_50 : decode cX9_nextToken 50 = .ok (.getfield 196, 3) := by decide +kernel
theorem dX9_nextToken_53 : decode cX9_nextToken 53 = .ok (.iaload, 1) := by decide +kernel
theorem dX9_nextToken_54 : decode cX9_nextToken 54 = .ok (.bipush 32, 2) := by decide +kernel
theorem dX9_nextToken_56 : decode cX9_nextToken 56 = .ok (.if_icmp .ne 16, 3) := by decide +kernel
theorem dX9_nextToken_59 : decode cX9_nextToken 59 = .ok (.aload_n 0, 1) := by decide +kernel
theorem dX9_nextToken_60 : decode cX9_nextToken 60 = .ok (.dup, 1) := by decide +kernel
theorem dX9_nextToken_61 : decode cX9_nextToken 61 = .ok (.getfield 196, 3) := by decide +kernel
theorem dX9_nextToken_64 : decode cX9_nextToken 64 = .ok (.iconst 1, 1) := by decide +kernel
theorem dX9_nextToken_65 : decode cX9_nextToken 65 = .ok (.iadd, 1) := by decide +kernel
theorem dX9_nextToken_66 : decode cX9_nextToken 66 = .ok (.putfield 196, 3) := by decide +kernel
theorem dX9_nextToken_69 : decode cX9_nextToken 69 = .ok (.goto (-35), 3) := by decide +kernel
theorem dX9_nextToken_72 : decode cX9_nextToken 72 = .ok (.iload_n 1, 1) := by decide +kernel
theorem dX9_nextToken_73 : decode cX9_nextToken 73 = .ok (.ifCond .eq 15, 3) := by decide +kernel
theorem dX9_nextToken_76 : decode cX9_nextToken 76 = .ok (.iload_n 2, 1) := by decide +kernel
theorem dX9_nextToken_77 : decode cX9_nextToken 77 = .ok (.aload_n 0, 1) := by decide +kernel
theorem dX9_nextToken_78 : decode cX9_nextToken 78 = .ok (.getfield 196, 3) := by decide +kernel
theorem dX9_nextToken_81 : decode cX9_nextToken 81 = .ok (.if_icmp .ne 7, 3) := by decide +kernel
theorem dX9_nextToken_84 : decode cX9_nextToken 84 = .ok (.iconst 1, 1) := by decide +kernel
theorem dX9_nextToken_85 : decode cX9_nextToken 85 = .ok (.goto 4, 3) := by decide +kernel
theorem dX9_nextToken_88 : decode cX9_nextToken 88 = .ok (.iconst 0, 1) := by decide +kernel
theorem dX9_nextToken_89 : decode cX9_nextToken 89 = .ok (.istore_n 1, 1) := by decide +kernel
theorem dX9_nextToken_90 : decode cX9_nextToken 90 = .ok (.aload_n 0, 1) := by decide +kernel
theorem dX9_nextToken_91 : decode cX9_nextToken 91 = .ok (.aload_n 0, 1) := by decide +kernel
theorem dX9_nextToken_92 : decode cX9_nextToken 92 = .ok (.getfield 196, 3) := by decide +kernel
theorem dX9_nextToken_95 : decode cX9_nextToken 95 = .ok (.putfield 202, 3) := by decide +kernel
theorem dX9_nextToken_98 : decode cX9_nextToken 98 = .ok (.aload_n 0, 1) := by decide +kernel
theorem dX9_nextToken_99 : decode cX9_nextToken 99 = .ok (.getfield 202, 3) := by decide +kernel
theorem dX9_nextToken_102 : decode cX9_nextToken 102 = .ok (.aload_n 0, 1) := by decide +kernel
theorem dX9_nextToken_103 : decode cX9_nextToken 103 = .ok (.getfield 184, 3) := by decide +kernel
theorem dX9_nextToken_106 : decode cX9_nextToken 106 = .ok (.if_icmp .ne 11, 3) := by decide +kernel
theorem dX9_nextToken_109 : decode cX9_nextToken 109 = .ok (.aload_n 0, 1) := by decide +kernel
theorem dX9_nextToken_110 : decode cX9_nextToken 110 = .ok (.iconst 0, 1) := by decide +kernel
theorem dX9_nextToken_111 : decode cX9_nextToken 111 = .ok (.putfield 199, 3) := by decide +kernel
theorem dX9_nextToken_114 : decode cX9_nextToken 114 = .ok (.goto 225, 3) := by decide +kernel
theorem dX9_nextToken_117 : decode cX9_nextToken 117 = .ok (.aload_n 0, 1) := by decide +kernel
theorem dX9_nextToken_118 : decode cX9_nextToken 118 = .ok (.aload_n 0, 1) := by decide +kernel
theorem dX9_nextToken_119 : decode cX9_nextToken 119 = .ok (.getfield 202, 3) := by decide +kernel
theorem dX9_nextToken_122 : decode cX9_nextToken 122 = .ok (.invokevirtual 205, 3) := by decide +kernel
theorem dX9_nextToken_125 : decode cX9_nextToken 125 = .ok (.ifCond .eq 73, 3) := by decide +kernel
theorem dX9_nextToken_128 : decode cX9_nextToken 128 = .ok (.aload_n 0, 1) := by decide +kernel
theorem dX9_nextToken_129 : decode cX9_nextToken 129 = .ok (.aload_n 0, 1) := by decide +kernel
theorem dX9_nextToken_130 : decode cX9_nextToken 130 = .ok (.getfield 196, 3) := by decide +kernel
theorem dX9_nextToken_133 : decode cX9_nextToken 133 = .ok (.invokevirtual 205, 3) := by decide +kernel
theorem dX9_nextToken_136 : decode cX9_nextToken 136 = .ok (.ifCond .eq 16, 3) := by decide +kernel
theorem dX9_nextToken_139 : decode cX9_nextToken 139 = .ok (.aload_n 0, 1) := by decide +kernel
theorem dX9_nextToken_140 : decode cX9_nextToken 140 = .ok (.dup, 1) := by decide +kernel
theorem dX9_nextToken_141 : decode cX9_nextToken 141 = .ok (.getfield 196, 3) := by decide +kernel
theorem dX9_nextToken_144 : decode cX9_nextToken 144 = .ok (.iconst 1, 1) := by decide +kernel
theorem dX9_nextToken_145 : decode cX9_nextToken 145 = .ok (.iadd, 1) := by decide +kernel
theorem dX9_nextToken_146 : decode cX9_nextToken 146 = .ok (.putfield 196, 3) := by decide +kernel
theorem dX9_nextToken_149 : decode cX9_nextToken 149 = .ok (.goto (-21), 3) := by decide +kernel
theorem dX9_nextToken_152 : decode cX9_nextToken 152 = .ok (.aload_n 0, 1) := by decide +kernel
theorem dX9_nextToken_153 : decode cX9_nextToken 153 = .ok (.iload_n 1, 1) := by decide +kernel
theorem dX9_nextToken_154 : decode cX9_nextToken 154 = .ok (.ifCond .eq 7, 3) := by decide +kernel
theorem dX9_nextToken_157 : decode cX9_nextToken 157 = .ok (.iconst 4, 1) := by decide +kernel
theorem dX9_nextToken_158 : decode cX9_nextToken 158 = .ok (.goto 4, 3) := by decide +kernel
theorem dX9_nextToken_161 : decode cX9_nextToken 161 = .ok (.iconst 1, 1) := by decide +kernel
theorem dX9_nextToken_162 : decode cX9_nextToken 162 = .ok (.putfield 199, 3) := by decide +kernel
theorem dX9_nextToken_165 : decode cX9_nextToken 165 = .ok (.aload_n 0, 1) := by decide +kernel
theorem dX9_nextToken_166 : decode cX9_nextToken 166 = .ok (.aload_n 0, 1) := by decide +kernel
theorem dX9_nextToken_167 : decode cX9_nextToken 167 = .ok (.getfield 196, 3) := by decide +kernel
theorem dX9_nextToken_170 : decode cX9_nextToken 170 = .ok (.aload_n 0, 1) := by decide +kernel
theorem dX9_nextToken_171 : decode cX9_nextToken 171 = .ok (.getfield 202, 3) := by decide +kernel
theorem dX9_nextToken_174 : decode cX9_nextToken 174 = .ok (.isub, 1) := by decide +kernel
theorem dX9_nextToken_175 : decode cX9_nextToken 175 = .ok (.iconst 1, 1) := by decide +kernel
theorem dX9_nextToken_176 : decode cX9_nextToken 176 = .ok (.if_icmp .ne 15, 3) := by decide +kernel
theorem dX9_nextToken_179 : decode cX9_nextToken 179 = .ok (.aload_n 0, 1) := by decide +kernel
theorem dX9_nextToken_180 : decode cX9_nextToken 180 = .ok (.getfield 46, 3) := by decide +kernel
theorem dX9_nextToken_183 : decode cX9_nextToken 183 = .ok (.aload_n 0, 1) := by decide +kernel
theorem dX9_nextToken_184 : decode cX9_nextToken 184 = .ok (.getfield 202, 3) := by decide +kernel
theorem dX9_nextToken_187 : decode cX9_nextToken 187 = .ok (.iaload, 1) := by decide +kernel
theorem dX9_nextToken_188 : decode cX9_nextToken 188 = .ok (.goto 4, 3) := by decide +kernel
theorem dX9_nextToken_191 : decode cX9_nextToken 191 = .ok (.iconst 0, 1) := by decide +kernel
theorem dX9_nextToken_192 : decode cX9_nextToken 192 = .ok (.putfield 208, 3) := by decide +kernel
theorem dX9_nextToken_195 : decode cX9_nextToken 195 = .ok (.goto 144, 3) := by decide +kernel
theorem dX9_nextToken_198 : decode cX9_nextToken 198 = .ok (.aload_n 0, 1) := by decide +kernel
theorem dX9_nextToken_199 : decode cX9_nextToken 199 = .ok (.aload_n 0, 1) := by decide +kernel
theorem dX9_nextToken_200 : decode cX9_nextToken 200 = .ok (.getfield 202, 3) := by decide +kernel
theorem dX9_nextToken_203 : decode cX9_nextToken 203 = .ok (.invokevirtual 211, 3) := by decide +kernel
theorem dX9_nextToken_206 : decode cX9_nextToken 206 = .ok (.ifCond .eq 105, 3) := by decide +kernel
theorem dX9_nextToken_209 : decode cX9_nextToken 209 = .ok (.aload_n 0, 1) := by decide +kernel
theorem dX9_nextToken_210 : decode cX9_nextToken 210 = .ok (.iconst 0, 1) := by decide +kernel
theorem dX9_nextToken_211 : decode cX9_nextToken 211 = .ok (.putfield 214, 3) := by decide +kernel
theorem dX9_nextToken_214 : decode cX9_nextToken 214 = .ok (.aload_n 0, 1) := by decide +kernel
theorem dX9_nextToken_215 : decode cX9_nextToken 215 = .ok (.aload_n 0, 1) := by decide +kernel
theorem dX9_nextToken_216 : decode cX9_nextToken 216 = .ok (.getfield 196, 3) := by decide +kernel
theorem dX9_nextToken_219 : decode cX9_nextToken 219 = .ok (.invokevirtual 211, 3) := by decide +kernel
theorem dX9_nextToken_222 : decode cX9_nextToken 222 = .ok (.ifCond .eq 60, 3) := by decide +kernel
theorem dX9_nextToken_225 : decode cX9_nextToken 225 = .ok (.aload_n 0, 1) := by decide +kernel
theorem dX9_nextToken_226 : decode cX9_nextToken 226 = .ok (.aload_n 0, 1) := by decide +kernel
theorem dX9_nextToken_227 : decode cX9_nextToken 227 = .ok (.getfield 196, 3) := by decide +kernel
theorem dX9_nextToken_230 : decode cX9_nextToken 230 = .ok (.aload_n 0, 1) := by decide +kernel
theorem dX9_nextToken_231 : decode cX9_nextToken 231 = .ok (.getfield 202, 3) := by decide +kernel
theorem dX9_nextToken_234 : decode cX9_nextToken 234 = .ok (.isub, 1) := by decide +kernel
theorem dX9_nextToken_235 : decode cX9_nextToken 235 = .ok (.iconst 4, 1) := by decide +kernel
theorem dX9_nextToken_236 : decode cX9_nextToken 236 = .ok (.if_icmp .ge 26, 3) := by decide +kernel
theorem dX9_nextToken_239 : decode cX9_nextToken 239 = .ok (.bipush 10, 2) := by decide +kernel
theorem dX9_nextToken_241 : decode cX9_nextToken 241 = .ok (.aload_n 0, 1) := by decide +kernel
theorem dX9_nextToken_242 : decode cX9_nextToken 242 = .ok (.getfield 214, 3) := by decide +kernel
theorem dX9_nextToken_245 : decode cX9_nextToken 245 = .ok (.imul, 1) := by decide +kernel
theorem dX9_nextToken_246 : decode cX9_nextToken 246 = .ok (.aload_n 0, 1) := by decide +kernel
theorem dX9_nextToken_247 : decode cX9_nextToken 247 = .ok (.getfield 46, 3) := by decide +kernel
theorem dX9_nextToken_250 : decode cX9_nextToken 250 = .ok (.aload_n 0, 1) := by decide +kernel
theorem dX9_nextToken_251 : decode cX9_nextToken 251 = .ok (.getfield 196, 3) := by decide +kernel
theorem dX9_nextToken_254 : decode cX9_nextToken 254 = .ok (.iaload, 1) := by decide +kernel
theorem dX9_nextToken_255 : decode cX9_nextToken 255 = .ok (.iadd, 1) := by decide +kernel
theorem dX9_nextToken_256 : decode cX9_nextToken 256 = .ok (.bipush 48, 2) := by decide +kernel
theorem dX9_nextToken_258 : decode cX9_nextToken 258 = .ok (.isub, 1) := by decide +kernel
theorem dX9_nextToken_259 : decode cX9_nextToken 259 = .ok (.goto 7, 3) := by decide +kernel
theorem dX9_nextToken_262 : decode cX9_nextToken 262 = .ok (.aload_n 0, 1) := by decide +kernel
theorem dX9_nextToken_263 : decode cX9_nextToken 263 = .ok (.getfield 214, 3) := by decide +kernel
theorem dX9_nextToken_266 : decode cX9_nextToken 266 = .ok (.putfield 214, 3) := by decide +kernel
theorem dX9_nextToken_269 : decode cX9_nextToken 269 = .ok (.aload_n 0, 1) := by decide +kernel
theorem dX9_nextToken_270 : decode cX9_nextToken 270 = .ok (.dup, 1) := by decide +kernel
theorem dX9_nextToken_271 : decode cX9_nextToken 271 = .ok (.getfield 196, 3) := by decide +kernel
theorem dX9_nextToken_274 : decode cX9_nextToken 274 = .ok (.iconst 1, 1) := by decide +kernel
theorem dX9_nextToken_275 : decode cX9_nextToken 275 = .ok (.iadd, 1) := by decide +kernel
theorem dX9_nextToken_276 : decode cX9_nextToken 276 = .ok (.putfield 196, 3) := by decide +kernel
theorem dX9_nextToken_279 : decode cX9_nextToken 279 = .ok (.goto (-65), 3) := by decide +kernel
theorem dX9_nextToken_282 : decode cX9_nextToken 282 = .ok (.aload_n 0, 1) := by decide +kernel
theorem dX9_nextToken_283 : decode cX9_nextToken 283 = .ok (.iload_n 1, 1) := by decide +kernel
theorem dX9_nextToken_284 : decode cX9_nextToken 284 = .ok (.ifCond .ne 16, 3) := by decide +kernel
theorem dX9_nextToken_287 : decode cX9_nextToken 287 = .ok (.aload_n 0, 1) := by decide +kernel
theorem dX9_nextToken_288 : decode cX9_nextToken 288 = .ok (.getfield 196, 3) := by decide +kernel
theorem dX9_nextToken_291 : decode cX9_nextToken 291 = .ok (.aload_n 0, 1) := by decide +kernel
theorem dX9_nextToken_292 : decode cX9_nextToken 292 = .ok (.getfield 202, 3) := by decide +kernel
theorem dX9_nextToken_295 : decode cX9_nextToken 295 = .ok (.isub, 1) := by decide +kernel
theorem dX9_nextToken_296 : decode cX9_nextToken 296 = .ok (.iconst 4, 1) := by decide +kernel
theorem dX9_nextToken_297 : decode cX9_nextToken 297 = .ok (.if_icmp .le 7, 3) := by decide +kernel
theorem dX9_nextToken_300 : decode cX9_nextToken 300 = .ok (.iconst 4, 1) := by decide +kernel
theorem dX9_nextToken_301 : decode cX9_nextToken 301 = .ok (.goto 4, 3) := by decide +kernel
theorem dX9_nextToken_304 : decode cX9_nextToken 304 = .ok (.iconst 2, 1) := by decide +kernel
theorem dX9_nextToken_305 : decode cX9_nextToken 305 = .ok (.putfield 199, 3) := by decide +kernel
theorem dX9_nextToken_308 : decode cX9_nextToken 308 = .ok (.goto 31, 3) := by decide +kernel
theorem dX9_nextToken_311 : decode cX9_nextToken 311 = .ok (.aload_n 0, 1) := by decide +kernel
theorem dX9_nextToken_312 : decode cX9_nextToken 312 = .ok (.iconst 3, 1) := by decide +kernel
theorem dX9_nextToken_313 : decode cX9_nextToken 313 = .ok (.putfield 199, 3) := by decide +kernel
theorem dX9_nextToken_316 : decode cX9_nextToken 316 = .ok (.aload_n 0, 1) := by decide +kernel
theorem dX9_nextToken_317 : decode cX9_nextToken 317 = .ok (.aload_n 0, 1) := by decide +kernel
theorem dX9_nextToken_318 : decode cX9_nextToken 318 = .ok (.getfield 46, 3) := by decide +kernel
theorem dX9_nextToken_321 : decode cX9_nextToken 321 = .ok (.aload_n 0, 1) := by decide +kernel
theorem dX9_nextToken_322 : decode cX9_nextToken 322 = .ok (.getfield 202, 3) := by decide +kernel
theorem dX9_nextToken_325 : decode cX9_nextToken 325 = .ok (.iaload, 1) := by decide +kernel
theorem dX9_nextToken_326 : decode cX9_nextToken 326 = .ok (.putfield 208, 3) := by decide +kernel
theorem dX9_nextToken_329 : decode cX9_nextToken 329 = .ok (.aload_n 0, 1) := by decide +kernel
theorem dX9_nextToken_330 : decode cX9_nextToken 330 = .ok (.dup, 1) := by decide +kernel
theorem dX9_nextToken_331 : decode cX9_nextToken 331 = .ok (.getfield 196, 3) := by decide +kernel
theorem dX9_nextToken_334 : decode cX9_nextToken 334 = .ok (.iconst 1, 1) := by decide +kernel
theorem dX9_nextToken_335 : decode cX9_nextToken 335 = .ok (.iadd, 1) := by decide +kernel
theorem dX9_nextToken_336 : decode cX9_nextToken 336 = .ok (.putfield 196, 3) := by decide +kernel
theorem dX9_nextToken_339 : decode cX9_nextToken 339 = .ok (.return_, 1) := by decide +kernel
theorem dX9_isSign_0 : decode cX9_isSign 0 = .ok (.aload_n 0, 1) := by decide +kernel
theorem dX9_isSign_1 : decode cX9_isSign 1 = .ok (.getfield 199, 3) := by decide +kernel
theorem dX9_isSign_4 : decode cX9_isSign 4 = .ok (.iconst 3, 1) := by decide +kernel
theorem dX9_isSign_5 : decode cX9_isSign 5 = .ok (.if_icmp .ne 15, 3) := by decide +kernel
theorem dX9_isSign_8 : decode cX9_isSign 8 = .ok (.aload_n 0, 1) := by decide +kernel
theorem dX9_isSign_9 : decode cX9_isSign 9 = .ok (.getfield 208, 3) := by decide +kernel
theorem dX9_isSign_12 : decode cX9_isSign 12 = .ok (.iload_n 1, 1) := by decide +kernel
theorem dX9_isSign_13 : decode cX9_isSign 13 = .ok (.if_icmp .ne 7, 3) := by decide +kernel
theorem dX9_isSign_16 : decode cX9_isSign 16 = .ok (.iconst 1, 1) := by decide +kernel
theorem dX9_isSign_17 : decode cX9_isSign 17 = .ok (.goto 4, 3) := by decide +kernel
theorem dX9_isSign_20 : decode cX9_isSign 20 = .ok (.iconst 0, 1) := by decide +kernel
theorem dX9_isSign_21 : decode cX9_isSign 21 = .ok (.ireturn, 1) := by decide +kernel
theorem dX9_isWordAt_0 : decode cX9_isWordAt 0 = .ok (.iload 4, 2) := by decide +kernel
theorem dX9_isWordAt_2 : decode cX9_isWordAt 2 = .ok (.ifCond .ne 7, 3) := by decide +kernel
theorem dX9_isWordAt_5 : decode cX9_isWordAt 5 = .ok (.iconst 3, 1) := by decide +kernel
theorem dX9_isWordAt_6 : decode cX9_isWordAt 6 = .ok (.goto 4, 3) := by decide +kernel
theorem dX9_isWordAt_9 : decode cX9_isWordAt 9 = .ok (.iconst 4, 1) := by decide +kernel
theorem dX9_isWordAt_10 : decode cX9_isWordAt 10 = .ok (.istore 5, 2) := by decide +kernel
theorem dX9_isWordAt_12 : decode cX9_isWordAt 12 = .ok (.aload_n 0, 1) := by decide +kernel
theorem dX9_isWordAt_13 : decode cX9_isWordAt 13 = .ok (.getfield 199, 3) := by decide +kernel
theorem dX9_isWordAt_16 : decode cX9_isWordAt 16 = .ok (.iconst 1, 1) := by decide +kernel
theorem dX9_isWordAt_17 : decode cX9_isWordAt 17 = .ok (.if_icmp .ne 85, 3) := by decide +kernel
theorem dX9_isWordAt_20 : decode cX9_isWordAt 20 = .ok (.aload_n 0, 1) := by decide +kernel
theorem dX9_isWordAt_21 : decode cX9_isWordAt 21 = .ok (.getfield 196, 3) := by decide +kernel
theorem dX9_isWordAt_24 : decode cX9_isWordAt 24 = .ok (.aload_n 0, 1) := by decide +kernel
theorem dX9_isWordAt_25 : decode cX9_isWordAt 25 = .ok (.getfield 202, 3) := by decide +kernel
theorem dX9_isWordAt_28 : decode cX9_isWordAt 28 = .ok (.isub, 1) := by decide +kernel
theorem dX9_isWordAt_29 : decode cX9_isWordAt 29 = .ok (.iload 5, 2) := by decide +kernel
theorem dX9_isWordAt_31 : decode cX9_isWordAt 31 = .ok (.if_icmp .ne 71, 3) := by decide +kernel
theorem dX9_isWordAt_34 : decode cX9_isWordAt 34 = .ok (.aload_n 0, 1) := by decide +kernel
theorem dX9_isWordAt_35 : decode cX9_isWordAt 35 = .ok (.getfield 46, 3) := by decide +kernel
theorem dX9_isWordAt_38 : decode cX9_isWordAt 38 = .ok (.aload_n 0, 1) := by decide +kernel
theorem dX9_isWordAt_39 : decode cX9_isWordAt 39 = .ok (.getfield 202, 3) := by decide +kernel
theorem dX9_isWordAt_42 : decode cX9_isWordAt 42 = .ok (.iaload, 1) := by decide +kernel
theorem dX9_isWordAt_43 : decode cX9_isWordAt 43 = .ok (.iload_n 1, 1) := by decide +kernel
theorem dX9_isWordAt_44 : decode cX9_isWordAt 44 = .ok (.if_icmp .ne 58, 3) := by decide +kernel
theorem dX9_isWordAt_47 : decode cX9_isWordAt 47 = .ok (.aload_n 0, 1) := by decide +kernel
theorem dX9_isWordAt_48 : decode cX9_isWordAt 48 = .ok (.getfield 46, 3) := by decide +kernel
theorem dX9_isWordAt_51 : decode cX9_isWordAt 51 = .ok (.aload_n 0, 1) := by decide +kernel
theorem dX9_isWordAt_52 : decode cX9_isWordAt 52 = .ok (.getfield 202, 3) := by decide +kernel
theorem dX9_isWordAt_55 : decode cX9_isWordAt 55 = .ok (.iconst 1, 1) := by decide +kernel
theorem dX9_isWordAt_56 : decode cX9_isWordAt 56 = .ok (.iadd, 1) := by decide +kernel
theorem dX9_isWordAt_57 : decode cX9_isWordAt 57 = .ok (.iaload, 1) := by decide +kernel
theorem dX9_isWordAt_58 : decode cX9_isWordAt 58 = .ok (.iload_n 2, 1) := by decide +kernel
theorem dX9_isWordAt_59 : decode cX9_isWordAt 59 = .ok (.if_icmp .ne 43, 3) := by decide +kernel
theorem dX9_isWordAt_62 : decode cX9_isWordAt 62 = .ok (.aload_n 0, 1) := by decide +kernel
theorem dX9_isWordAt_63 : decode cX9_isWordAt 63 = .ok (.getfield 46, 3) := by decide +kernel
theorem dX9_isWordAt_66 : decode cX9_isWordAt 66 = .ok (.aload_n 0, 1) := by decide +kernel
theorem dX9_isWordAt_67 : decode cX9_isWordAt 67 = .ok (.getfield 202, 3) := by decide +kernel
theorem dX9_isWordAt_70 : decode cX9_isWordAt 70 = .ok (.iconst 2, 1) := by decide +kernel
theorem dX9_isWordAt_71 : decode cX9_isWordAt 71 = .ok (.iadd, 1) := by decide +kernel
theorem dX9_isWordAt_72 : decode cX9_isWordAt 72 = .ok (.iaload, 1) := by decide +kernel
theorem dX9_isWordAt_73 : decode cX9_isWordAt 73 = .ok (.iload_n 3, 1) := by decide +kernel
theorem dX9_isWordAt_74 : decode cX9_isWordAt 74 = .ok (.if_icmp .ne 28, 3) := by decide +kernel
theorem dX9_isWordAt_77 : decode cX9_isWordAt 77 = .ok (.iload 4, 2) := by decide +kernel
theorem dX9_isWordAt_79 : decode cX9_isWordAt 79 = .ok (.ifCond .eq 19, 3) := by decide +kernel
theorem dX9_isWordAt_82 : decode cX9_isWordAt 82 = .ok (.aload_n 0, 1) := by decide +kernel
theorem dX9_isWordAt_83 : decode cX9_isWordAt 83 = .ok (.getfield 46, 3) := by decide +kernel
theorem dX9_isWordAt_86 : decode cX9_isWordAt 86 = .ok (.aload_n 0, 1) := by decide +kernel
theorem dX9_isWordAt_87 : decode cX9_isWordAt 87 = .ok (.getfield 202, 3) := by decide +kernel
theorem dX9_isWordAt_90 : decode cX9_isWordAt 90 = .ok (.iconst 3, 1) := by decide +kernel
theorem dX9_isWordAt_91 : decode cX9_isWordAt 91 = .ok (.iadd, 1) := by decide +kernel
theorem dX9_isWordAt_92 : decode cX9_isWordAt 92 = .ok (.iaload, 1) := by decide +kernel
theorem dX9_isWordAt_93 : decode cX9_isWordAt 93 = .ok (.iload 4, 2) := by decide +kernel
theorem dX9_isWordAt_95 : decode cX9_isWordAt 95 = .ok (.if_icmp .ne 7, 3) := by decide +kernel
theorem dX9_isWordAt_98 : decode cX9_isWordAt 98 = .ok (.iconst 1, 1) := by decide +kernel
theorem dX9_isWordAt_99 : decode cX9_isWordAt 99 = .ok (.goto 4, 3) := by decide +kernel
theorem dX9_isWordAt_102 : decode cX9_isWordAt 102 = .ok (.iconst 0, 1) := by decide +kernel
theorem dX9_isWordAt_103 : decode cX9_isWordAt 103 = .ok (.ireturn, 1) := by decide +kernel
theorem dX9_key_0 : decode cX9_key 0 = .ok (.aload_n 0, 1) := by decide +kernel
theorem dX9_key_1 : decode cX9_key 1 = .ok (.bipush 116, 2) := by decide +kernel
theorem dX9_key_3 : decode cX9_key 3 = .ok (.bipush 105, 2) := by decide +kernel
theorem dX9_key_5 : decode cX9_key 5 = .ok (.bipush 100, 2) := by decide +kernel
theorem dX9_key_7 : decode cX9_key 7 = .ok (.bipush 101, 2) := by decide +kernel
theorem dX9_key_9 : decode cX9_key 9 = .ok (.invokevirtual 217, 3) := by decide +kernel
theorem dX9_key_12 : decode cX9_key 12 = .ok (.ifCond .eq 5, 3) := by decide +kernel
theorem dX9_key_15 : decode cX9_key 15 = .ok (.iconst 0, 1) := by decide +kernel
theorem dX9_key_16 : decode cX9_key 16 = .ok (.ireturn, 1) := by decide +kernel
theorem dX9_key_17 : decode cX9_key 17 = .ok (.aload_n 0, 1) := by decide +kernel
theorem dX9_key_18 : decode cX9_key 18 = .ok (.bipush 103, 2) := by decide +kernel
theorem dX9_key_20 : decode cX9_key 20 = .ok (.bipush 114, 2) := by decide +kernel
theorem dX9_key_22 : decode cX9_key 22 = .ok (.bipush 111, 2) := by decide +kernel
theorem dX9_key_24 : decode cX9_key 24 = .ok (.bipush 119, 2) := by decide +kernel
theorem dX9_key_26 : decode cX9_key 26 = .ok (.invokevirtual 217, 3) := by decide +kernel
theorem dX9_key_29 : decode cX9_key 29 = .ok (.ifCond .eq 5, 3) := by decide +kernel
theorem dX9_key_32 : decode cX9_key 32 = .ok (.iconst 1, 1) := by decide +kernel
theorem dX9_key_33 : decode cX9_key 33 = .ok (.ireturn, 1) := by decide +kernel
theorem dX9_key_34 : decode cX9_key 34 = .ok (.aload_n 0, 1) := by decide +kernel
theorem dX9_key_35 : decode cX9_key 35 = .ok (.bipush 114, 2) := by decide +kernel
theorem dX9_key_37 : decode cX9_key 37 = .ok (.bipush 111, 2) := by decide +kernel
theorem dX9_key_39 : decode cX9_key 39 = .ok (.bipush 111, 2) := by decide +kernel
theorem dX9_key_41 : decode cX9_key 41 = .ok (.bipush 109, 2) := by decide +kernel
theorem dX9_key_43 : decode cX9_key 43 = .ok (.invokevirtual 217, 3) := by decide +kernel
theorem dX9_key_46 : decode cX9_key 46 = .ok (.ifCond .eq 7, 3) := by decide +kernel
theorem dX9_key_49 : decode cX9_key 49 = .ok (.iconst 2, 1) := by decide +kernel
theorem dX9_key_50 : decode cX9_key 50 = .ok (.goto 4, 3) := by decide +kernel
theorem dX9_key_53 : decode cX9_key 53 = .ok (.iconst (-1), 1) := by decide +kernel
theorem dX9_key_54 : decode cX9_key 54 = .ok (.ireturn, 1) := by decide +kernel
theorem dX9_isName_0 : decode cX9_isName 0 = .ok (.iload_n 0, 1) := by decide +kernel
theorem dX9_isName_1 : decode cX9_isName 1 = .ok (.lookupswitch 69 #[(0, 27), (1, 51)], 27) := by decide +kernel
theorem dX9_isName_28 : decode cX9_isName 28 = .ok (.iload_n 1, 1) := by decide +kernel
theorem dX9_isName_29 : decode cX9_isName 29 = .ok (.bipush 104, 2) := by decide +kernel
theorem dX9_isName_31 : decode cX9_isName 31 = .ok (.if_icmp .eq 15, 3) := by decide +kernel
theorem dX9_isName_34 : decode cX9_isName 34 = .ok (.iload_n 1, 1) := by decide +kernel
theorem dX9_isName_35 : decode cX9_isName 35 = .ok (.bipush 100, 2) := by decide +kernel
theorem dX9_isName_37 : decode cX9_isName 37 = .ok (.if_icmp .eq 9, 3) := by decide +kernel
theorem dX9_isName_40 : decode cX9_isName 40 = .ok (.iload_n 1, 1) := by decide +kernel
theorem dX9_isName_41 : decode cX9_isName 41 = .ok (.bipush 115, 2) := by decide +kernel
theorem dX9_isName_43 : decode cX9_isName 43 = .ok (.if_icmp .ne 7, 3) := by decide +kernel
theorem dX9_isName_46 : decode cX9_isName 46 = .ok (.iconst 1, 1) := by decide +kernel
theorem dX9_isName_47 : decode cX9_isName 47 = .ok (.goto 4, 3) := by decide +kernel
theorem dX9_isName_50 : decode cX9_isName 50 = .ok (.iconst 0, 1) := by decide +kernel
theorem dX9_isName_51 : decode cX9_isName 51 = .ok (.ireturn, 1) := by decide +kernel
theorem dX9_isName_52 : decode cX9_isName 52 = .ok (.iload_n 1, 1) := by decide +kernel
theorem dX9_isName_53 : decode cX9_isName 53 = .ok (.bipush 99, 2) := by decide +kernel
theorem dX9_isName_55 : decode cX9_isName 55 = .ok (.if_icmp .eq 9, 3) := by decide +kernel
theorem dX9_isName_58 : decode cX9_isName 58 = .ok (.iload_n 1, 1) := by decide +kernel
theorem dX9_isName_59 : decode cX9_isName 59 = .ok (.bipush 104, 2) := by decide +kernel
theorem dX9_isName_61 : decode cX9_isName 61 = .ok (.if_icmp .ne 7, 3) := by decide +kernel
theorem dX9_isName_64 : decode cX9_isName 64 = .ok (.iconst 1, 1) := by decide +kernel
theorem dX9_isName_65 : decode cX9_isName 65 = .ok (.goto 4, 3) := by decide +kernel
theorem dX9_isName_68 : decode cX9_isName 68 = .ok (.iconst 0, 1) := by decide +kernel
theorem dX9_isName_69 : decode cX9_isName 69 = .ok (.ireturn, 1) := by decide +kernel
theorem dX9_isName_70 : decode cX9_isName 70 = .ok (.iload_n 1, 1) := by decide +kernel
theorem dX9_isName_71 : decode cX9_isName 71 = .ok (.bipush 116, 2) := by decide +kernel
theorem dX9_isName_73 : decode cX9_isName 73 = .ok (.if_icmp .eq 9, 3) := by decide +kernel
theorem dX9_isName_76 : decode cX9_isName 76 = .ok (.iload_n 1, 1) := by decide +kernel
theorem dX9_isName_77 : decode cX9_isName 77 = .ok (.bipush 104, 2) := by decide +kernel
theorem dX9_isName_79 : decode cX9_isName 79 = .ok (.if_icmp .ne 7, 3) := by decide +kernel
theorem dX9_isName_82 : decode cX9_isName 82 = .ok (.iconst 1, 1) := by decide +kernel
theorem dX9_isName_83 : decode cX9_isName 83 = .ok (.goto 4, 3) := by decide +kernel
theorem dX9_isName_86 : decode cX9_isName 86 = .ok (.iconst 0, 1) := by decide +kernel
theorem dX9_isName_87 : decode cX9_isName 87 = .ok (.ireturn, 1) := by decide +kernel
theorem dX9_step_0 : decode cX9_step 0 = .ok (.aload_n 0, 1) := by decide +kernel
theorem dX9_step_1 : decode cX9_step 1 = .ok (.getfield 7, 3) := by decide +kernel
theorem dX9_step_4 : decode cX9_step 4 = .ok (.aload_n 0, 1) := by decide +kernel
theorem dX9_step_5 : decode cX9_step 5 = .ok (.getfield 221, 3) := by decide +kernel
theorem dX9_step_8 : decode cX9_step 8 = .ok (.iconst 2, 1) := by decide +kernel
theorem dX9_step_9 : decode cX9_step 9 = .ok (.aload_n 0, 1) := by decide +kernel
theorem dX9_step_10 : decode cX9_step 10 = .ok (.getfield 224, 3) := by decide +kernel
theorem dX9_step_13 : decode cX9_step 13 = .ok (.imul, 1) := by decide +kernel
theorem dX9_step_14 : decode cX9_step 14 = .ok (.iadd, 1) := by decide +kernel
theorem dX9_step_15 : decode cX9_step 15 = .ok (.iload_n 1, 1) := by decide +kernel
theorem dX9_step_16 : decode cX9_step 16 = .ok (.iastore, 1) := by decide +kernel
theorem dX9_step_17 : decode cX9_step 17 = .ok (.aload_n 0, 1) := by decide +kernel
theorem dX9_step_18 : decode cX9_step 18 = .ok (.getfield 7, 3) := by decide +kernel
theorem dX9_step_21 : decode cX9_step 21 = .ok (.aload_n 0, 1) := by decide +kernel
theorem dX9_step_22 : decode cX9_step 22 = .ok (.getfield 221, 3) := by decide +kernel
theorem dX9_step_25 : decode cX9_step 25 = .ok (.iconst 2, 1) := by decide +kernel
theorem dX9_step_26 : decode cX9_step 26 = .ok (.aload_n 0, 1) := by decide +kernel
theorem dX9_step_27 : decode cX9_step 27 = .ok (.getfield 224, 3) := by decide +kernel
theorem dX9_step_30 : decode cX9_step 30 = .ok (.imul, 1) := by decide +kernel
theorem dX9_step_31 : decode cX9_step 31 = .ok (.iadd, 1) := by decide +kernel
theorem dX9_step_32 : decode cX9_step 32 = .ok (.iconst 1, 1) := by decide +kernel
theorem dX9_step_33 : decode cX9_step 33 = .ok (.iadd, 1) := by decide +kernel
theorem dX9_step_34 : decode cX9_step 34 = .ok (.iload_n 2, 1) := by decide +kernel
theorem dX9_step_35 : decode cX9_step 35 = .ok (.iastore, 1) := by decide +kernel
theorem dX9_step_36 : decode cX9_step 36 = .ok (.aload_n 0, 1) := by decide +kernel
theorem dX9_step_37 : decode cX9_step 37 = .ok (.dup, 1) := by decide +kernel
theorem dX9_step_38 : decode cX9_step 38 = .ok (.getfield 224, 3) := by decide +kernel
theorem dX9_step_41 : decode cX9_step 41 = .ok (.iconst 1, 1) := by decide +kernel
theorem dX9_step_42 : decode cX9_step 42 = .ok (.iadd, 1) := by decide +kernel
theorem dX9_step_43 : decode cX9_step 43 = .ok (.putfield 224, 3) := by decide +kernel
theorem dX9_step_46 : decode cX9_step 46 = .ok (.return_, 1) := by decide +kernel
theorem dX9_either_0 : decode cX9_either 0 = .ok (.aload_n 0, 1) := by decide +kernel
theorem dX9_either_1 : decode cX9_either 1 = .ok (.iload_n 1, 1) := by decide +kernel
theorem dX9_either_2 : decode cX9_either 2 = .ok (.invokevirtual 227, 3) := by decide +kernel
theorem dX9_either_5 : decode cX9_either 5 = .ok (.ifCond .ne 5, 3) := by decide +kernel
theorem dX9_either_8 : decode cX9_either 8 = .ok (.iconst 0, 1) := by decide +kernel
theorem dX9_either_9 : decode cX9_either 9 = .ok (.ireturn, 1) := by decide +kernel
theorem dX9_either_10 : decode cX9_either 10 = .ok (.aload_n 0, 1) := by decide +kernel
theorem dX9_either_11 : decode cX9_either 11 = .ok (.bipush 124, 2) := by decide +kernel
theorem dX9_either_13 : decode cX9_either 13 = .ok (.invokevirtual 230, 3) := by decide +kernel
theorem dX9_either_16 : decode cX9_either 16 = .ok (.ifCond .eq 27, 3) := by decide +kernel
theorem dX9_either_19 : decode cX9_either 19 = .ok (.aload_n 0, 1) := by decide +kernel
theorem dX9_either_20 : decode cX9_either 20 = .ok (.invokevirtual 233, 3) := by decide +kernel
theorem dX9_either_23 : decode cX9_either 23 = .ok (.aload_n 0, 1) := by decide +kernel
theorem dX9_either_24 : decode cX9_either 24 = .ok (.iload_n 1, 1) := by decide +kernel
theorem dX9_either_25 : decode cX9_either 25 = .ok (.invokevirtual 227, 3) := by decide +kernel
theorem dX9_either_28 : decode cX9_either 28 = .ok (.ifCond .ne 5, 3) := by decide +kernel
theorem dX9_either_31 : decode cX9_either 31 = .ok (.iconst 0, 1) := by decide +kernel
theorem dX9_either_32 : decode cX9_either 32 = .ok (.ireturn, 1) := by decide +kernel
theorem dX9_either_33 : decode cX9_either 33 = .ok (.aload_n 0, 1) := by decide +kernel
theorem dX9_either_34 : decode cX9_either 34 = .ok (.iconst 2, 1) := by decide +kernel
theorem dX9_either_35 : decode cX9_either 35 = .ok (.bipush 124, 2) := by decide +kernel
theorem dX9_either_37 : decode cX9_either 37 = .ok (.invokevirtual 236, 3) := by decide +kernel
theorem dX9_either_40 : decode cX9_either 40 = .ok (.goto (-30), 3) := by decide +kernel
theorem dX9_either_43 : decode cX9_either 43 = .ok (.iconst 1, 1) := by decide +kernel
theorem dX9_either_44 : decode cX9_either 44 = .ok (.ireturn, 1) := by decide +kernel
theorem dX9_both_0 : decode cX9_both 0 = .ok (.aload_n 0, 1) := by decide +kernel
theorem dX9_both_1 : decode cX9_both 1 = .ok (.iload_n 1, 1) := by decide +kernel
theorem dX9_both_2 : decode cX9_both 2 = .ok (.invokevirtual 240, 3) := by decide +kernel
theorem dX9_both_5 : decode cX9_both 5 = .ok (.ifCond .ne 5, 3) := by decide +kernel
theorem dX9_both_8 : decode cX9_both 8 = .ok (.iconst 0, 1) := by decide +kernel
theorem dX9_both_9 : decode cX9_both 9 = .ok (.ireturn, 1) := by decide +kernel
theorem dX9_both_10 : decode cX9_both 10 = .ok (.aload_n 0, 1) := by decide +kernel
theorem dX9_both_11 : decode cX9_both 11 = .ok (.bipush 38, 2) := by decide +kernel
theorem dX9_both_13 : decode cX9_both 13 = .ok (.invokevirtual 230, 3) := by decide +kernel
theorem dX9_both_16 : decode cX9_both 16 = .ok (.ifCond .eq 27, 3) := by decide +kernel
theorem dX9_both_19 : decode cX9_both 19 = .ok (.aload_n 0, 1) := by decide +kernel
theorem dX9_both_20 : decode cX9_both 20 = .ok (.invokevirtual 233, 3) := by decide +kernel
theorem dX9_both_23 : decode cX9_both 23 = .ok (.aload_n 0, 1) := by decide +kernel
theorem dX9_both_24 : decode cX9_both 24 = .ok (.iload_n 1, 1) := by decide +kernel
theorem dX9_both_25 : decode cX9_both 25 = .ok (.invokevirtual 240, 3) := by decide +kernel
theorem dX9_both_28 : decode cX9_both 28 = .ok (.ifCond .ne 5, 3) := by decide +kernel
theorem dX9_both_31 : decode cX9_both 31 = .ok (.iconst 0, 1) := by decide +kernel
theorem dX9_both_32 : decode cX9_both 32 = .ok (.ireturn, 1) := by decide +kernel
theorem dX9_both_33 : decode cX9_both 33 = .ok (.aload_n 0, 1) := by decide +kernel
theorem dX9_both_34 : decode cX9_both 34 = .ok (.iconst 2, 1) := by decide +kernel
theorem dX9_both_35 : decode cX9_both 35 = .ok (.bipush 38, 2) := by decide +kernel
theorem dX9_both_37 : decode cX9_both 37 = .ok (.invokevirtual 236, 3) := by decide +kernel
theorem dX9_both_40 : decode cX9_both 40 = .ok (.goto (-30), 3) := by decide +kernel
theorem dX9_both_43 : decode cX9_both 43 = .ok (.iconst 1, 1) := by decide +kernel
theorem dX9_both_44 : decode cX9_both 44 = .ok (.ireturn, 1) := by decide +kernel
theorem dX9_test_0 : decode cX9_test 0 = .ok (.aload_n 0, 1) := by decide +kernel
theorem dX9_test_1 : decode cX9_test 1 = .ok (.iload_n 1, 1) := by decide +kernel
theorem dX9_test_2 : decode cX9_test 2 = .ok (.invokevirtual 243, 3) := by decide +kernel
theorem dX9_test_5 : decode cX9_test 5 = .ok (.ifCond .ne 5, 3) := by decide +kernel
theorem dX9_test_8 : decode cX9_test 8 = .ok (.iconst 0, 1) := by decide +kernel
theorem dX9_test_9 : decode cX9_test 9 = .ok (.ireturn, 1) := by decide +kernel
theorem dX9_test_10 : decode cX9_test 10 = .ok (.aload_n 0, 1) := by decide +kernel
theorem dX9_test_11 : decode cX9_test 11 = .ok (.bipush 60, 2) := by decide +kernel
theorem dX9_test_13 : decode cX9_test 13 = .ok (.invokevirtual 230, 3) := by decide +kernel
theorem dX9_test_16 : decode cX9_test 16 = .ok (.ifCond .ne 21, 3) := by decide +kernel
theorem dX9_test_19 : decode cX9_test 19 = .ok (.aload_n 0, 1) := by decide +kernel
theorem dX9_test_20 : decode cX9_test 20 = .ok (.bipush 61, 2) := by decide +kernel
theorem dX9_test_22 : decode cX9_test 22 = .ok (.invokevirtual 230, 3) := by decide +kernel
theorem dX9_test_25 : decode cX9_test 25 = .ok (.ifCond .ne 12, 3) := by decide +kernel
theorem dX9_test_28 : decode cX9_test 28 = .ok (.aload_n 0, 1) := by decide +kernel
theorem dX9_test_29 : decode cX9_test 29 = .ok (.bipush 62, 2) := by decide +kernel
theorem dX9_test_31 : decode cX9_test 31 = .ok (.invokevirtual 230, 3) := by decide +kernel
theorem dX9_test_34 : decode cX9_test 34 = .ok (.ifCond .eq 28, 3) := by decide +kernel
theorem dX9_test_37 : decode cX9_test 37 = .ok (.aload_n 0, 1) := by decide +kernel
theorem dX9_test_38 : decode cX9_test 38 = .ok (.getfield 208, 3) := by decide +kernel
theorem dX9_test_41 : decode cX9_test 41 = .ok (.istore_n 2, 1) := by decide +kernel
theorem dX9_test_42 : decode cX9_test 42 = .ok (.aload_n 0, 1) := by decide +kernel
theorem dX9_test_43 : decode cX9_test 43 = .ok (.invokevirtual 233, 3) := by decide +kernel
theorem dX9_test_46 : decode cX9_test 46 = .ok (.aload_n 0, 1) := by decide +kernel
theorem dX9_test_47 : decode cX9_test 47 = .ok (.iload_n 1, 1) := by decide +kernel
theorem dX9_test_48 : decode cX9_test 48 = .ok (.invokevirtual 243, 3) := by decide +kernel
theorem dX9_test_51 : decode cX9_test 51 = .ok (.ifCond .ne 5, 3) := by decide +kernel
theorem dX9_test_54 : decode cX9_test 54 = .ok (.iconst 0, 1) := by decide +kernel
theorem dX9_test_55 : decode cX9_test 55 = .ok (.ireturn, 1) := by decide +kernel
theorem dX9_test_56 : decode cX9_test 56 = .ok (.aload_n 0, 1) := by decide +kernel
theorem dX9_test_57 : decode cX9_test 57 = .ok (.iconst 2, 1) := by decide +kernel
theorem dX9_test_58 : decode cX9_test 58 = .ok (.iload_n 2, 1) := by decide +kernel
theorem dX9_test_59 : decode cX9_test 59 = .ok (.invokevirtual 236, 3) := by decide +kernel
theorem dX9_test_62 : decode cX9_test 62 = .ok (.iconst 1, 1) := by decide +kernel
theorem dX9_test_63 : decode cX9_test 63 = .ok (.ireturn, 1) := by decide +kernel
theorem dX9_sum_0 : decode cX9_sum 0 = .ok (.aload_n 0, 1) := by decide +kernel
theorem dX9_sum_1 : decode cX9_sum 1 = .ok (.iload_n 1, 1) := by decide +kernel
theorem dX9_sum_2 : decode cX9_sum 2 = .ok (.invokevirtual 246, 3) := by decide +kernel
theorem dX9_sum_5 : decode cX9_sum 5 = .ok (.ifCond .ne 5, 3) := by decide +kernel
theorem dX9_sum_8 : decode cX9_sum 8 = .ok (.iconst 0, 1) := by decide +kernel
theorem dX9_sum_9 : decode cX9_sum 9 = .ok (.ireturn, 1) := by decide +kernel
theorem dX9_sum_10 : decode cX9_sum 10 = .ok (.aload_n 0, 1) := by decide +kernel
theorem dX9_sum_11 : decode cX9_sum 11 = .ok (.bipush 43, 2) := by decide +kernel
theorem dX9_sum_13 : decode cX9_sum 13 = .ok (.invokevirtual 230, 3) := by decide +kernel
theorem dX9_sum_16 : decode cX9_sum 16 = .ok (.ifCond .ne 12, 3) := by decide +kernel
theorem dX9_sum_19 : decode cX9_sum 19 = .ok (.aload_n 0, 1) := by decide +kernel
theorem dX9_sum_20 : decode cX9_sum 20 = .ok (.bipush 45, 2) := by decide +kernel
theorem dX9_sum_22 : decode cX9_sum 22 = .ok (.invokevirtual 230, 3) := by decide +kernel
theorem dX9_sum_25 : decode cX9_sum 25 = .ok (.ifCond .eq 31, 3) := by decide +kernel
theorem dX9_sum_28 : decode cX9_sum 28 = .ok (.aload_n 0, 1) := by decide +kernel
theorem dX9_sum_29 : decode cX9_sum 29 = .ok (.getfield 208, 3) := by decide +kernel
theorem dX9_sum_32 : decode cX9_sum 32 = .ok (.istore_n 2, 1) := by decide +kernel
theorem dX9_sum_33 : decode cX9_sum 33 = .ok (.aload_n 0, 1) := by decide +kernel
theorem dX9_sum_34 : decode cX9_sum 34 = .ok (.invokevirtual 233, 3) := by decide +kernel
theorem dX9_sum_37 : decode cX9_sum 37 = .ok (.aload_n 0, 1) := by decide +kernel
theorem dX9_sum_38 : decode cX9_sum 38 = .ok (.iload_n 1, 1) := by decide +kernel
theorem dX9_sum_39 : decode cX9_sum 39 = .ok (.invokevirtual 246, 3) := by decide +kernel
theorem dX9_sum_42 : decode cX9_sum 42 = .ok (.ifCond .ne 5, 3) := by decide +kernel
theorem dX9_sum_45 : decode cX9_sum 45 = .ok (.iconst 0, 1) := by decide +kernel
theorem dX9_sum_46 : decode cX9_sum 46 = .ok (.ireturn, 1) := by decide +kernel
theorem dX9_sum_47 : decode cX9_sum 47 = .ok (.aload_n 0, 1) := by decide +kernel
theorem dX9_sum_48 : decode cX9_sum 48 = .ok (.iconst 2, 1) := by decide +kernel
theorem dX9_sum_49 : decode cX9_sum 49 = .ok (.iload_n 2, 1) := by decide +kernel
theorem dX9_sum_50 : decode cX9_sum 50 = .ok (.invokevirtual 236, 3) := by decide +kernel
theorem dX9_sum_53 : decode cX9_sum 53 = .ok (.goto (-43), 3) := by decide +kernel
theorem dX9_sum_56 : decode cX9_sum 56 = .ok (.iconst 1, 1) := by decide +kernel
theorem dX9_sum_57 : decode cX9_sum 57 = .ok (.ireturn, 1) := by decide +kernel
theorem dX9_term_0 : decode cX9_term 0 = .ok (.aload_n 0, 1) := by decide +kernel
theorem dX9_term_1 : decode cX9_term 1 = .ok (.iload_n 1, 1) := by decide +kernel
theorem dX9_term_2 : decode cX9_term 2 = .ok (.invokevirtual 249, 3) := by decide +kernel
theorem dX9_term_5 : decode cX9_term 5 = .ok (.ifCond .ne 5, 3) := by decide +kernel
theorem dX9_term_8 : decode cX9_term 8 = .ok (.iconst 0, 1) := by decide +kernel
theorem dX9_term_9 : decode cX9_term 9 = .ok (.ireturn, 1) := by decide +kernel
theorem dX9_term_10 : decode cX9_term 10 = .ok (.aload_n 0, 1) := by decide +kernel
theorem dX9_term_11 : decode cX9_term 11 = .ok (.bipush 42, 2) := by decide +kernel
theorem dX9_term_13 : decode cX9_term 13 = .ok (.invokevirtual 230, 3) := by decide +kernel
theorem dX9_term_16 : decode cX9_term 16 = .ok (.ifCond .ne 12, 3) := by decide +kernel
theorem dX9_term_19 : decode cX9_term 19 = .ok (.aload_n 0, 1) := by decide +kernel
theorem dX9_term_20 : decode cX9_term 20 = .ok (.bipush 47, 2) := by decide +kernel
theorem dX9_term_22 : decode cX9_term 22 = .ok (.invokevirtual 230, 3) := by decide +kernel
theorem dX9_term_25 : decode cX9_term 25 = .ok (.ifCond .eq 31, 3) := by decide +kernel
theorem dX9_term_28 : decode cX9_term 28 = .ok (.aload_n 0, 1) := by decide +kernel
theorem dX9_term_29 : decode cX9_term 29 = .ok (.getfield 208, 3) := by decide +kernel
theorem dX9_term_32 : decode cX9_term 32 = .ok (.istore_n 2, 1) := by decide +kernel
theorem dX9_term_33 : decode cX9_term 33 = .ok (.aload_n 0, 1) := by decide +kernel
theorem dX9_term_34 : decode cX9_term 34 = .ok (.invokevirtual 233, 3) := by decide +kernel
theorem dX9_term_37 : decode cX9_term 37 = .ok (.aload_n 0, 1) := by decide +kernel
theorem dX9_term_38 : decode cX9_term 38 = .ok (.iload_n 1, 1) := by decide +kernel
theorem dX9_term_39 : decode cX9_term 39 = .ok (.invokevirtual 249, 3) := by decide +kernel
theorem dX9_term_42 : decode cX9_term 42 = .ok (.ifCond .ne 5, 3) := by decide +kernel
theorem dX9_term_45 : decode cX9_term 45 = .ok (.iconst 0, 1) := by decide +kernel
theorem dX9_term_46 : decode cX9_term 46 = .ok (.ireturn, 1) := by decide +kernel
theorem dX9_term_47 : decode cX9_term 47 = .ok (.aload_n 0, 1) := by decide +kernel
theorem dX9_term_48 : decode cX9_term 48 = .ok (.iconst 2, 1) := by decide +kernel
theorem dX9_term_49 : decode cX9_term 49 = .ok (.iload_n 2, 1) := by decide +kernel
theorem dX9_term_50 : decode cX9_term 50 = .ok (.invokevirtual 236, 3) := by decide +kernel
theorem dX9_term_53 : decode cX9_term 53 = .ok (.goto (-43), 3) := by decide +kernel
theorem dX9_term_56 : decode cX9_term 56 = .ok (.iconst 1, 1) := by decide +kernel
theorem dX9_term_57 : decode cX9_term 57 = .ok (.ireturn, 1) := by decide +kernel
theorem dX9_part0_0 : decode cX9_part0 0 = .ok (.aload_n 0, 1) := by decide +kernel
theorem dX9_part0_1 : decode cX9_part0 1 = .ok (.getfield 199, 3) := by decide +kernel
theorem dX9_part0_4 : decode cX9_part0 4 = .ok (.iconst 2, 1) := by decide +kernel
theorem dX9_part0_5 : decode cX9_part0 5 = .ok (.if_icmp .ne 28, 3) := by decide +kernel
theorem dX9_part0_8 : decode cX9_part0 8 = .ok (.aload_n 0, 1) := by decide +kernel
theorem dX9_part0_9 : decode cX9_part0 9 = .ok (.iconst 0, 1) := by decide +kernel
theorem dX9_part0_10 : decode cX9_part0 10 = .ok (.aload_n 0, 1) := by decide +kernel
theorem dX9_part0_11 : decode cX9_part0 11 = .ok (.getfield 214, 3) := by decide +kernel
theorem dX9_part0_14 : decode cX9_part0 14 = .ok (.invokevirtual 236, 3) := by decide +kernel
theorem dX9_part0_17 : decode cX9_part0 17 = .ok (.aload_n 0, 1) := by decide +kernel
theorem dX9_part0_18 : decode cX9_part0 18 = .ok (.dup, 1) := by decide +kernel
theorem dX9_part0_19 : decode cX9_part0 19 = .ok (.getfield 252, 3) := by decide +kernel
theorem dX9_part0_22 : decode cX9_part0 22 = .ok (.iconst 1, 1) := by decide +kernel
theorem dX9_part0_23 : decode cX9_part0 23 = .ok (.iadd, 1) := by decide +kernel
theorem dX9_part0_24 : decode cX9_part0 24 = .ok (.putfield 252, 3) := by decide +kernel
theorem dX9_part0_27 : decode cX9_part0 27 = .ok (.aload_n 0, 1) := by decide +kernel
theorem dX9_part0_28 : decode cX9_part0 28 = .ok (.invokevirtual 233, 3) := by decide +kernel
theorem dX9_part0_31 : decode cX9_part0 31 = .ok (.iconst 1, 1) := by decide +kernel
theorem dX9_part0_32 : decode cX9_part0 32 = .ok (.ireturn, 1) := by decide +kernel
theorem dX9_part0_33 : decode cX9_part0 33 = .ok (.aload_n 0, 1) := by decide +kernel
theorem dX9_part0_34 : decode cX9_part0 34 = .ok (.getfield 199, 3) := by decide +kernel
theorem dX9_part0_37 : decode cX9_part0 37 = .ok (.iconst 1, 1) := by decide +kernel
theorem dX9_part0_38 : decode cX9_part0 38 = .ok (.if_icmp .ne 46, 3) := by decide +kernel
theorem dX9_part0_41 : decode cX9_part0 41 = .ok (.aload_n 0, 1) := by decide +kernel
theorem dX9_part0_42 : decode cX9_part0 42 = .ok (.getfield 208, 3) := by decide +kernel
theorem dX9_part0_45 : decode cX9_part0 45 = .ok (.ifCond .eq 39, 3) := by decide +kernel
theorem dX9_part0_48 : decode cX9_part0 48 = .ok (.iload_n 1, 1) := by decide +kernel
theorem dX9_part0_49 : decode cX9_part0 49 = .ok (.aload_n 0, 1) := by decide +kernel
theorem dX9_part0_50 : decode cX9_part0 50 = .ok (.getfield 208, 3) := by decide +kernel
theorem dX9_part0_53 : decode cX9_part0 53 = .ok (.invokestatic 255, 3) := by decide +kernel
theorem dX9_part0_56 : decode cX9_part0 56 = .ok (.ifCond .eq 28, 3) := by decide +kernel
theorem dX9_part0_59 : decode cX9_part0 59 = .ok (.aload_n 0, 1) := by decide +kernel
theorem dX9_part0_60 : decode cX9_part0 60 = .ok (.iconst 1, 1) := by decide +kernel
theorem dX9_part0_61 : decode cX9_part0 61 = .ok (.aload_n 0, 1) := by decide +kernel
theorem dX9_part0_62 : decode cX9_part0 62 = .ok (.getfield 208, 3) := by decide +kernel
theorem dX9_part0_65 : decode cX9_part0 65 = .ok (.invokevirtual 236, 3) := by decide +kernel
theorem dX9_part0_68 : decode cX9_part0 68 = .ok (.aload_n 0, 1) := by decide +kernel
theorem dX9_part0_69 : decode cX9_part0 69 = .ok (.dup, 1) := by decide +kernel
theorem dX9_part0_70 : decode cX9_part0 70 = .ok (.getfield 252, 3) := by decide +kernel
theorem dX9_part0_73 : decode cX9_part0 73 = .ok (.iconst 1, 1) := by decide +kernel
theorem dX9_part0_74 : decode cX9_part0 74 = .ok (.iadd, 1) := by decide +kernel
theorem dX9_part0_75 : decode cX9_part0 75 = .ok (.putfield 252, 3) := by decide +kernel
theorem dX9_part0_78 : decode cX9_part0 78 = .ok (.aload_n 0, 1) := by decide +kernel
theorem dX9_part0_79 : decode cX9_part0 79 = .ok (.invokevirtual 233, 3) := by decide +kernel
theorem dX9_part0_82 : decode cX9_part0 82 = .ok (.iconst 1, 1) := by decide +kernel
theorem dX9_part0_83 : decode cX9_part0 83 = .ok (.ireturn, 1) := by decide +kernel
theorem dX9_part0_84 : decode cX9_part0 84 = .ok (.aload_n 0, 1) := by decide +kernel
theorem dX9_part0_85 : decode cX9_part0 85 = .ok (.bipush 33, 2) := by decide +kernel
theorem dX9_part0_87 : decode cX9_part0 87 = .ok (.invokevirtual 230, 3) := by decide +kernel
theorem dX9_part0_90 : decode cX9_part0 90 = .ok (.ifCond .eq 55, 3) := by decide +kernel
theorem dX9_part0_93 : decode cX9_part0 93 = .ok (.aload_n 0, 1) := by decide +kernel
theorem dX9_part0_94 : decode cX9_part0 94 = .ok (.getfield 258, 3) := by decide +kernel
theorem dX9_part0_97 : decode cX9_part0 97 = .ok (.bipush 8, 2) := by decide +kernel
theorem dX9_part0_99 : decode cX9_part0 99 = .ok (.if_icmp .ge 46, 3) := by decide +kernel
theorem dX9_part0_102 : decode cX9_part0 102 = .ok (.aload_n 0, 1) := by decide +kernel
theorem dX9_part0_103 : decode cX9_part0 103 = .ok (.dup, 1) := by decide +kernel
theorem dX9_part0_104 : decode cX9_part0 104 = .ok (.getfield 258, 3) := by decide +kernel
theorem dX9_part0_107 : decode cX9_part0 107 = .ok (.iconst 1, 1) := by decide +kernel
theorem dX9_part0_108 : decode cX9_part0 108 = .ok (.iadd, 1) := by decide +kernel
theorem dX9_part0_109 : decode cX9_part0 109 = .ok (.putfield 258, 3) := by decide +kernel
theorem dX9_part0_112 : decode cX9_part0 112 = .ok (.aload_n 0, 1) := by decide +kernel
theorem dX9_part0_113 : decode cX9_part0 113 = .ok (.invokevirtual 233, 3) := by decide +kernel
theorem dX9_part0_116 : decode cX9_part0 116 = .ok (.aload_n 0, 1) := by decide +kernel
theorem dX9_part0_117 : decode cX9_part0 117 = .ok (.iload_n 1, 1) := by decide +kernel
theorem dX9_part0_118 : decode cX9_part0 118 = .ok (.invokevirtual 249, 3) := by decide +kernel
theorem dX9_part0_121 : decode cX9_part0 121 = .ok (.ifCond .ne 5, 3) := by decide +kernel
theorem dX9_part0_124 : decode cX9_part0 124 = .ok (.iconst 0, 1) := by decide +kernel
theorem dX9_part0_125 : decode cX9_part0 125 = .ok (.ireturn, 1) := by decide +kernel
theorem dX9_part0_126 : decode cX9_part0 126 = .ok (.aload_n 0, 1) := by decide +kernel
theorem dX9_part0_127 : decode cX9_part0 127 = .ok (.dup, 1) := by decide +kernel
theorem dX9_part0_128 : decode cX9_part0 128 = .ok (.getfield 258, 3) := by decide +kernel
theorem dX9_part0_131 : decode cX9_part0 131 = .ok (.iconst 1, 1) := by decide +kernel
theorem dX9_part0_132 : decode cX9_part0 132 = .ok (.isub, 1) := by decide +kernel
theorem dX9_part0_133 : decode cX9_part0 133 = .ok (.putfield 258, 3) := by decide +kernel
theorem dX9_part0_136 : decode cX9_part0 136 = .ok (.aload_n 0, 1) := by decide +kernel
theorem dX9_part0_137 : decode cX9_part0 137 = .ok (.iconst 2, 1) := by decide +kernel
theorem dX9_part0_138 : decode cX9_part0 138 = .ok (.bipush 33, 2) := by decide +kernel
theorem dX9_part0_140 : decode cX9_part0 140 = .ok (.invokevirtual 236, 3) := by decide +kernel
theorem dX9_part0_143 : decode cX9_part0 143 = .ok (.iconst 1, 1) := by decide +kernel
theorem dX9_part0_144 : decode cX9_part0 144 = .ok (.ireturn, 1) := by decide +kernel
theorem dX9_part0_145 : decode cX9_part0 145 = .ok (.aload_n 0, 1) := by decide +kernel
theorem dX9_part0_146 : decode cX9_part0 146 = .ok (.bipush 40, 2) := by decide +kernel
theorem dX9_part0_148 : decode cX9_part0 148 = .ok (.invokevirtual 230, 3) := by decide +kernel
theorem dX9_part0_151 : decode cX9_part0 151 = .ok (.ifCond .eq 12, 3) := by decide +kernel
theorem dX9_part0_154 : decode cX9_part0 154 = .ok (.aload_n 0, 1) := by decide +kernel
theorem dX9_part0_155 : decode cX9_part0 155 = .ok (.getfield 261, 3) := by decide +kernel
theorem dX9_part0_158 : decode cX9_part0 158 = .ok (.bipush 8, 2) := by decide +kernel
theorem dX9_part0_160 : decode cX9_part0 160 = .ok (.if_icmp .ne 5, 3) := by decide +kernel
theorem dX9_part0_163 : decode cX9_part0 163 = .ok (.iconst 0, 1) := by decide +kernel
theorem dX9_part0_164 : decode cX9_part0 164 = .ok (.ireturn, 1) := by decide +kernel
theorem dX9_part0_165 : decode cX9_part0 165 = .ok (.aload_n 0, 1) := by decide +kernel
theorem dX9_part0_166 : decode cX9_part0 166 = .ok (.dup, 1) := by decide +kernel
theorem dX9_part0_167 : decode cX9_part0 167 = .ok (.getfield 261, 3) := by decide +kernel
theorem dX9_part0_170 : decode cX9_part0 170 = .ok (.iconst 1, 1) := by decide +kernel
theorem dX9_part0_171 : decode cX9_part0 171 = .ok (.iadd, 1) := by decide +kernel
theorem dX9_part0_172 : decode cX9_part0 172 = .ok (.putfield 261, 3) := by decide +kernel
theorem dX9_part0_175 : decode cX9_part0 175 = .ok (.aload_n 0, 1) := by decide +kernel
theorem dX9_part0_176 : decode cX9_part0 176 = .ok (.invokevirtual 233, 3) := by decide +kernel
theorem dX9_part0_179 : decode cX9_part0 179 = .ok (.aload_n 0, 1) := by decide +kernel
theorem dX9_part0_180 : decode cX9_part0 180 = .ok (.iload_n 1, 1) := by decide +kernel
theorem dX9_part0_181 : decode cX9_part0 181 = .ok (.invokevirtual 264, 3) := by decide +kernel
theorem dX9_part0_184 : decode cX9_part0 184 = .ok (.ifCond .eq 12, 3) := by decide +kernel
theorem dX9_part0_187 : decode cX9_part0 187 = .ok (.aload_n 0, 1) := by decide +kernel
theorem dX9_part0_188 : decode cX9_part0 188 = .ok (.bipush 41, 2) := by decide +kernel
theorem dX9_part0_190 : decode cX9_part0 190 = .ok (.invokevirtual 230, 3) := by decide +kernel
theorem dX9_part0_193 : decode cX9_part0 193 = .ok (.ifCond .ne 5, 3) := by decide +kernel
theorem dX9_part0_196 : decode cX9_part0 196 = .ok (.iconst 0, 1) := by decide +kernel
theorem dX9_part0_197 : decode cX9_part0 197 = .ok (.ireturn, 1) := by decide +kernel
theorem dX9_part0_198 : decode cX9_part0 198 = .ok (.aload_n 0, 1) := by decide +kernel
theorem dX9_part0_199 : decode cX9_part0 199 = .ok (.dup, 1) := by decide +kernel
theorem dX9_part0_200 : decode cX9_part0 200 = .ok (.getfield 261, 3) := by decide +kernel
theorem dX9_part0_203 : decode cX9_part0 203 = .ok (.iconst 1, 1) := by decide +kernel
theorem dX9_part0_204 : decode cX9_part0 204 = .ok (.isub, 1) := by decide +kernel
theorem dX9_part0_205 : decode cX9_part0 205 = .ok (.putfield 261, 3) := by decide +kernel
theorem dX9_part0_208 : decode cX9_part0 208 = .ok (.aload_n 0, 1) := by decide +kernel
theorem dX9_part0_209 : decode cX9_part0 209 = .ok (.invokevirtual 233, 3) := by decide +kernel
theorem dX9_part0_212 : decode cX9_part0 212 = .ok (.iconst 1, 1) := by decide +kernel
theorem dX9_part0_213 : decode cX9_part0 213 = .ok (.ireturn, 1) := by decide +kernel
theorem dX9_parse_0 : decode cX9_parse 0 = .ok (.aload_n 0, 1) := by decide +kernel
theorem dX9_parse_1 : decode cX9_parse 1 = .ok (.iconst 0, 1) := by decide +kernel
theorem dX9_parse_2 : decode cX9_parse 2 = .ok (.putfield 196, 3) := by decide +kernel
theorem dX9_parse_5 : decode cX9_parse 5 = .ok (.aload_n 0, 1) := by decide +kernel
theorem dX9_parse_6 : decode cX9_parse 6 = .ok (.iconst 3, 1) := by decide +kernel
theorem dX9_parse_7 : decode cX9_parse 7 = .ok (.putfield 199, 3) := by decide +kernel
theorem dX9_parse_10 : decode cX9_parse 10 = .ok (.aload_n 0, 1) := by decide +kernel
theorem dX9_parse_11 : decode cX9_parse 11 = .ok (.iconst 0, 1) := by decide +kernel
theorem dX9_parse_12 : decode cX9_parse 12 = .ok (.putfield 261, 3) := by decide +kernel
theorem dX9_parse_15 : decode cX9_parse 15 = .ok (.aload_n 0, 1) := by decide +kernel
theorem dX9_parse_16 : decode cX9_parse 16 = .ok (.iconst 0, 1) := by decide +kernel
theorem dX9_parse_17 : decode cX9_parse 17 = .ok (.putfield 258, 3) := by decide +kernel
theorem dX9_parse_20 : decode cX9_parse 20 = .ok (.aload_n 0, 1) := by decide +kernel
theorem dX9_parse_21 : decode cX9_parse 21 = .ok (.iconst 0, 1) := by decide +kernel
theorem dX9_parse_22 : decode cX9_parse 22 = .ok (.putfield 224, 3) := by decide +kernel
theorem dX9_parse_25 : decode cX9_parse 25 = .ok (.aload_n 0, 1) := by decide +kernel
theorem dX9_parse_26 : decode cX9_parse 26 = .ok (.iconst 0, 1) := by decide +kernel
theorem dX9_parse_27 : decode cX9_parse 27 = .ok (.putfield 252, 3) := by decide +kernel
theorem dX9_parse_30 : decode cX9_parse 30 = .ok (.aload_n 0, 1) := by decide +kernel
theorem dX9_parse_31 : decode cX9_parse 31 = .ok (.aload_n 0, 1) := by decide +kernel
theorem dX9_parse_32 : decode cX9_parse 32 = .ok (.getfield 7, 3) := by decide +kernel
theorem dX9_parse_35 : decode cX9_parse 35 = .ok (.iconst 1, 1) := by decide +kernel
theorem dX9_parse_36 : decode cX9_parse 36 = .ok (.iaload, 1) := by decide +kernel
theorem dX9_parse_37 : decode cX9_parse 37 = .ok (.bipush 14, 2) := by decide +kernel
theorem dX9_parse_39 : decode cX9_parse 39 = .ok (.if_icmp .ge 18, 3) := by decide +kernel
theorem dX9_parse_42 : decode cX9_parse 42 = .ok (.aload_n 0, 1) := by decide +kernel
theorem dX9_parse_43 : decode cX9_parse 43 = .ok (.aload_n 0, 1) := by decide +kernel
theorem dX9_parse_44 : decode cX9_parse 44 = .ok (.getfield 7, 3) := by decide +kernel
theorem dX9_parse_47 : decode cX9_parse 47 = .ok (.iconst 1, 1) := by decide +kernel
theorem dX9_parse_48 : decode cX9_parse 48 = .ok (.iaload, 1) := by decide +kernel
theorem dX9_parse_49 : decode cX9_parse 49 = .ok (.invokevirtual 267, 3) := by decide +kernel
theorem dX9_parse_52 : decode cX9_parse 52 = .ok (.iconst 4, 1) := by decide +kernel
theorem dX9_parse_53 : decode cX9_parse 53 = .ok (.iadd, 1) := by decide +kernel
theorem dX9_parse_54 : decode cX9_parse 54 = .ok (.goto 6, 3) := by decide +kernel
theorem dX9_parse_57 : decode cX9_parse 57 = .ok (.sipush 2947, 3) := by decide +kernel
theorem dX9_parse_60 : decode cX9_parse 60 = .ok (.putfield 221, 3) := by decide +kernel
theorem dX9_parse_63 : decode cX9_parse 63 = .ok (.aload_n 0, 1) := by decide +kernel
theorem dX9_parse_64 : decode cX9_parse 64 = .ok (.invokevirtual 233, 3) := by decide +kernel
theorem dX9_parse_67 : decode cX9_parse 67 = .ok (.aload_n 0, 1) := by decide +kernel
theorem dX9_parse_68 : decode cX9_parse 68 = .ok (.invokevirtual 270, 3) := by decide +kernel
theorem dX9_parse_71 : decode cX9_parse 71 = .ok (.istore_n 1, 1) := by decide +kernel
theorem dX9_parse_72 : decode cX9_parse 72 = .ok (.iload_n 1, 1) := by decide +kernel
theorem dX9_parse_73 : decode cX9_parse 73 = .ok (.ifCond .lt 7, 3) := by decide +kernel
theorem dX9_parse_76 : decode cX9_parse 76 = .ok (.iconst 1, 1) := by decide +kernel
theorem dX9_parse_77 : decode cX9_parse 77 = .ok (.goto 4, 3) := by decide +kernel
theorem dX9_parse_80 : decode cX9_parse 80 = .ok (.iconst 0, 1) := by decide +kernel
theorem dX9_parse_81 : decode cX9_parse 81 = .ok (.istore_n 2, 1) := by decide +kernel
theorem dX9_parse_82 : decode cX9_parse 82 = .ok (.iload_n 2, 1) := by decide +kernel
theorem dX9_parse_83 : decode cX9_parse 83 = .ok (.ifCond .eq 28, 3) := by decide +kernel
theorem dX9_parse_86 : decode cX9_parse 86 = .ok (.aload_n 0, 1) := by decide +kernel
theorem dX9_parse_87 : decode cX9_parse 87 = .ok (.invokevirtual 233, 3) := by decide +kernel
theorem dX9_parse_90 : decode cX9_parse 90 = .ok (.aload_n 0, 1) := by decide +kernel
theorem dX9_parse_91 : decode cX9_parse 91 = .ok (.iload_n 1, 1) := by decide +kernel
theorem dX9_parse_92 : decode cX9_parse 92 = .ok (.invokevirtual 264, 3) := by decide +kernel
theorem dX9_parse_95 : decode cX9_parse 95 = .ok (.ifCond .eq 14, 3) := by decide +kernel
theorem dX9_parse_98 : decode cX9_parse 98 = .ok (.aload_n 0, 1) := by decide +kernel
theorem dX9_parse_99 : decode cX9_parse 99 = .ok (.getfield 199, 3) := by decide +kernel
theorem dX9_parse_102 : decode cX9_parse 102 = .ok (.ifCond .ne 7, 3) := by decide +kernel
theorem dX9_parse_105 : decode cX9_parse 105 = .ok (.iconst 1, 1) := by decide +kernel
theorem dX9_parse_106 : decode cX9_parse 106 = .ok (.goto 4, 3) := by decide +kernel
theorem dX9_parse_109 : decode cX9_parse 109 = .ok (.iconst 0, 1) := by decide +kernel
theorem dX9_parse_110 : decode cX9_parse 110 = .ok (.istore_n 2, 1) := by decide +kernel
theorem dX9_parse_111 : decode cX9_parse 111 = .ok (.aload_n 0, 1) := by decide +kernel
theorem dX9_parse_112 : decode cX9_parse 112 = .ok (.iconst 0, 1) := by decide +kernel
theorem dX9_parse_113 : decode cX9_parse 113 = .ok (.putfield 184, 3) := by decide +kernel
theorem dX9_parse_116 : decode cX9_parse 116 = .ok (.iload_n 2, 1) := by decide +kernel
theorem dX9_parse_117 : decode cX9_parse 117 = .ok (.ifCond .eq 7, 3) := by decide +kernel
theorem dX9_parse_120 : decode cX9_parse 120 = .ok (.iload_n 1, 1) := by decide +kernel
theorem dX9_parse_121 : decode cX9_parse 121 = .ok (.goto 4, 3) := by decide +kernel
theorem dX9_parse_124 : decode cX9_parse 124 = .ok (.iconst (-1), 1) := by decide +kernel
theorem dX9_parse_125 : decode cX9_parse 125 = .ok (.ireturn, 1) := by decide +kernel
theorem dX9_text_0 : decode cX9_text 0 = .ok (.aload_n 0, 1) := by decide +kernel
theorem dX9_text_1 : decode cX9_text 1 = .ok (.invokevirtual 273, 3) := by decide +kernel
theorem dX9_text_4 : decode cX9_text 4 = .ok (.istore_n 1, 1) := by decide +kernel
theorem dX9_text_5 : decode cX9_text 5 = .ok (.iload_n 1, 1) := by decide +kernel
theorem dX9_text_6 : decode cX9_text 6 = .ok (.ifCond .ge 11, 3) := by decide +kernel
theorem dX9_text_9 : decode cX9_text 9 = .ok (.bipush (-100), 2) := by decide +kernel
theorem dX9_text_11 : decode cX9_text 11 = .ok (.aload_n 0, 1) := by decide +kernel
theorem dX9_text_12 : decode cX9_text 12 = .ok (.getfield 202, 3) := by decide +kernel
theorem dX9_text_15 : decode cX9_text 15 = .ok (.isub, 1) := by decide +kernel
theorem dX9_text_16 : decode cX9_text 16 = .ok (.ireturn, 1) := by decide +kernel
theorem dX9_text_17 : decode cX9_text 17 = .ok (.aload_n 0, 1) := by decide +kernel
theorem dX9_text_18 : decode cX9_text 18 = .ok (.getfield 7, 3) := by decide +kernel
theorem dX9_text_21 : decode cX9_text 21 = .ok (.iconst 1, 1) := by decide +kernel
theorem dX9_text_22 : decode cX9_text 22 = .ok (.iaload, 1) := by decide +kernel
theorem dX9_text_23 : decode cX9_text 23 = .ok (.bipush 14, 2) := by decide +kernel
theorem dX9_text_25 : decode cX9_text 25 = .ok (.if_icmp .ne 6, 3) := by decide +kernel
theorem dX9_text_28 : decode cX9_text 28 = .ok (.ldc 164, 2) := by decide +kernel
theorem dX9_text_30 : decode cX9_text 30 = .ok (.ireturn, 1) := by decide +kernel
theorem dX9_text_31 : decode cX9_text 31 = .ok (.aload_n 0, 1) := by decide +kernel
theorem dX9_text_32 : decode cX9_text 32 = .ok (.aload_n 0, 1) := by decide +kernel
theorem dX9_text_33 : decode cX9_text 33 = .ok (.getfield 7, 3) := by decide +kernel
theorem dX9_text_36 : decode cX9_text 36 = .ok (.iconst 1, 1) := by decide +kernel
theorem dX9_text_37 : decode cX9_text 37 = .ok (.iaload, 1) := by decide +kernel
theorem dX9_text_38 : decode cX9_text 38 = .ok (.invokevirtual 267, 3) := by decide +kernel
theorem dX9_text_41 : decode cX9_text 41 = .ok (.istore_n 2, 1) := by decide +kernel
theorem dX9_text_42 : decode cX9_text 42 = .ok (.aload_n 0, 1) := by decide +kernel
theorem dX9_text_43 : decode cX9_text 43 = .ok (.getfield 7, 3) := by decide +kernel
theorem dX9_text_46 : decode cX9_text 46 = .ok (.iload_n 2, 1) := by decide +kernel
theorem dX9_text_47 : decode cX9_text 47 = .ok (.iconst 0, 1) := by decide +kernel
theorem dX9_text_48 : decode cX9_text 48 = .ok (.iadd, 1) := by decide +kernel
theorem dX9_text_49 : decode cX9_text 49 = .ok (.iload_n 1, 1) := by decide +kernel
theorem dX9_text_50 : decode cX9_text 50 = .ok (.iastore, 1) := by decide +kernel
theorem dX9_text_51 : decode cX9_text 51 = .ok (.aload_n 0, 1) := by decide +kernel
theorem dX9_text_52 : decode cX9_text 52 = .ok (.getfield 7, 3) := by decide +kernel
theorem dX9_text_55 : decode cX9_text 55 = .ok (.iload_n 2, 1) := by decide +kernel
theorem dX9_text_56 : decode cX9_text 56 = .ok (.iconst 1, 1) := by decide +kernel
theorem dX9_text_57 : decode cX9_text 57 = .ok (.iadd, 1) := by decide +kernel
theorem dX9_text_58 : decode cX9_text 58 = .ok (.aload_n 0, 1) := by decide +kernel
theorem dX9_text_59 : decode cX9_text 59 = .ok (.getfield 252, 3) := by decide +kernel
theorem dX9_text_62 : decode cX9_text 62 = .ok (.iastore, 1) := by decide +kernel
theorem dX9_text_63 : decode cX9_text 63 = .ok (.aload_n 0, 1) := by decide +kernel
theorem dX9_text_64 : decode cX9_text 64 = .ok (.getfield 7, 3) := by decide +kernel
theorem dX9_text_67 : decode cX9_text 67 = .ok (.iload_n 2, 1) := by decide +kernel
theorem dX9_text_68 : decode cX9_text 68 = .ok (.iconst 2, 1) := by decide +kernel
theorem dX9_text_69 : decode cX9_text 69 = .ok (.iadd, 1) := by decide +kernel
theorem dX9_text_70 : decode cX9_text 70 = .ok (.aload_n 0, 1) := by decide +kernel
theorem dX9_text_71 : decode cX9_text 71 = .ok (.getfield 224, 3) := by decide +kernel
theorem dX9_text_74 : decode cX9_text 74 = .ok (.iastore, 1) := by decide +kernel
theorem dX9_text_75 : decode cX9_text 75 = .ok (.aload_n 0, 1) := by decide +kernel
theorem dX9_text_76 : decode cX9_text 76 = .ok (.getfield 7, 3) := by decide +kernel
theorem dX9_text_79 : decode cX9_text 79 = .ok (.iconst 1, 1) := by decide +kernel
theorem dX9_text_80 : decode cX9_text 80 = .ok (.dup2, 1) := by decide +kernel
theorem dX9_text_81 : decode cX9_text 81 = .ok (.iaload, 1) := by decide +kernel
theorem dX9_text_82 : decode cX9_text 82 = .ok (.iconst 1, 1) := by decide +kernel
theorem dX9_text_83 : decode cX9_text 83 = .ok (.iadd, 1) := by decide +kernel
theorem dX9_text_84 : decode cX9_text 84 = .ok (.iastore, 1) := by decide +kernel
theorem dX9_text_85 : decode cX9_text 85 = .ok (.aload_n 0, 1) := by decide +kernel
theorem dX9_text_86 : decode cX9_text 86 = .ok (.getfield 7, 3) := by decide +kernel
theorem dX9_text_89 : decode cX9_text 89 = .ok (.iconst 1, 1) := by decide +kernel
theorem dX9_text_90 : decode cX9_text 90 = .ok (.iaload, 1) := by decide +kernel
theorem dX9_text_91 : decode cX9_text 91 = .ok (.iconst 1, 1) := by decide +kernel
theorem dX9_text_92 : decode cX9_text 92 = .ok (.isub, 1) := by decide +kernel
theorem dX9_text_93 : decode cX9_text 93 = .ok (.ireturn, 1) := by decide +kernel
theorem dX9_textTold_0 : decode cX9_textTold 0 = .ok (.aload_n 0, 1) := by decide +kernel
theorem dX9_textTold_1 : decode cX9_textTold 1 = .ok (.iload_n 1, 1) := by decide +kernel
theorem dX9_textTold_2 : decode cX9_textTold 2 = .ok (.invokevirtual 276, 3) := by decide +kernel
theorem dX9_textTold_5 : decode cX9_textTold 5 = .ok (.ifCond .eq 13, 3) := by decide +kernel
theorem dX9_textTold_8 : decode cX9_textTold 8 = .ok (.iload_n 2, 1) := by decide +kernel
theorem dX9_textTold_9 : decode cX9_textTold 9 = .ok (.i2l, 1) := by decide +kernel
theorem dX9_textTold_10 : decode cX9_textTold 10 = .ok (.lconst 0, 1) := by decide +kernel
theorem dX9_textTold_11 : decode cX9_textTold 11 = .ok (.lconst 1, 1) := by decide +kernel
theorem dX9_textTold_12 : decode cX9_textTold 12 = .ok (.invokestatic 65, 3) := by decide +kernel
theorem dX9_textTold_15 : decode cX9_textTold 15 = .ok (.ifCond .ne 6, 3) := by decide +kernel
theorem dX9_textTold_18 : decode cX9_textTold 18 = .ok (.ldc 98, 2) := by decide +kernel
theorem dX9_textTold_20 : decode cX9_textTold 20 = .ok (.ireturn, 1) := by decide +kernel
theorem dX9_textTold_21 : decode cX9_textTold 21 = .ok (.aload_n 0, 1) := by decide +kernel
theorem dX9_textTold_22 : decode cX9_textTold 22 = .ok (.getfield 7, 3) := by decide +kernel
theorem dX9_textTold_25 : decode cX9_textTold 25 = .ok (.aload_n 0, 1) := by decide +kernel
theorem dX9_textTold_26 : decode cX9_textTold 26 = .ok (.iload_n 1, 1) := by decide +kernel
theorem dX9_textTold_27 : decode cX9_textTold 27 = .ok (.invokevirtual 267, 3) := by decide +kernel
theorem dX9_textTold_30 : decode cX9_textTold 30 = .ok (.iload_n 2, 1) := by decide +kernel
theorem dX9_textTold_31 : decode cX9_textTold 31 = .ok (.iadd, 1) := by decide +kernel
theorem dX9_textTold_32 : decode cX9_textTold 32 = .ok (.iaload, 1) := by decide +kernel
theorem dX9_textTold_33 : decode cX9_textTold 33 = .ok (.ireturn, 1) := by decide +kernel
theorem dX9_counts_0 : decode cX9_counts 0 = .ok (.iconst (-1), 1) := by decide +kernel
theorem dX9_counts_1 : decode cX9_counts 1 = .ok (.istore_n 2, 1) := by decide +kernel
theorem dX9_counts_2 : decode cX9_counts 2 = .ok (.iconst 0, 1) := by decide +kernel
theorem dX9_counts_3 : decode cX9_counts 3 = .ok (.istore_n 3, 1) := by decide +kernel
theorem dX9_counts_4 : decode cX9_counts 4 = .ok (.iload_n 3, 1) := by decide +kernel
theorem dX9_counts_5 : decode cX9_counts 5 = .ok (.aload_n 0, 1) := by decide +kernel
theorem dX9_counts_6 : decode cX9_counts 6 = .ok (.getfield 7, 3) := by decide +kernel
theorem dX9_counts_9 : decode cX9_counts 9 = .ok (.iconst 1, 1) := by decide +kernel
theorem dX9_counts_10 : decode cX9_counts 10 = .ok (.iaload, 1) := by decide +kernel
theorem dX9_counts_11 : decode cX9_counts 11 = .ok (.if_icmp .ge 29, 3) := by decide +kernel
theorem dX9_counts_14 : decode cX9_counts 14 = .ok (.aload_n 0, 1) := by decide +kernel
theorem dX9_counts_15 : decode cX9_counts 15 = .ok (.getfield 7, 3) := by decide +kernel
theorem dX9_counts_18 : decode cX9_counts 18 = .ok (.aload_n 0, 1) := by decide +kernel
theorem dX9_counts_19 : decode cX9_counts 19 = .ok (.iload_n 3, 1) := by decide +kernel
theorem dX9_counts_20 : decode cX9_counts 20 = .ok (.invokevirtual 267, 3) := by decide +kernel
theorem dX9_counts_23 : decode cX9_counts 23 = .ok (.iaload, 1) := by decide +kernel
theorem dX9_counts_24 : decode cX9_counts 24 = .ok (.iload_n 1, 1) := by decide +kernel
theorem dX9_counts_25 : decode cX9_counts 25 = .ok (.if_icmp .ne 7, 3) := by decide +kernel
theorem dX9_counts_28 : decode cX9_counts 28 = .ok (.iload_n 3, 1) := by decide +kernel
theorem dX9_counts_29 : decode cX9_counts 29 = .ok (.goto 4, 3) := by decide +kernel
theorem dX9_counts_32 : decode cX9_counts 32 = .ok (.iload_n 2, 1) := by decide +kernel
theorem dX9_counts_33 : decode cX9_counts 33 = .ok (.istore_n 2, 1) := by decide +kernel
theorem dX9_counts_34 : decode cX9_counts 34 = .ok (.iinc 3 1, 3) := by decide +kernel
theorem dX9_counts_37 : decode cX9_counts 37 = .ok (.goto (-33), 3) := by decide +kernel
theorem dX9_counts_40 : decode cX9_counts 40 = .ok (.iload_n 2, 1) := by decide +kernel
theorem dX9_counts_41 : decode cX9_counts 41 = .ok (.ireturn, 1) := by decide +kernel
theorem dX9_why_0 : decode cX9_why 0 = .ok (.iload_n 1, 1) := by decide +kernel
theorem dX9_why_1 : decode cX9_why 1 = .ok (.i2l, 1) := by decide +kernel
theorem dX9_why_2 : decode cX9_why 2 = .ok (.lconst 0, 1) := by decide +kernel
theorem dX9_why_3 : decode cX9_why 3 = .ok (.ldc2_w 151, 3) := by decide +kernel
theorem dX9_why_6 : decode cX9_why 6 = .ok (.invokestatic 65, 3) := by decide +kernel
theorem dX9_why_9 : decode cX9_why 9 = .ok (.ifCond .eq 14, 3) := by decide +kernel
theorem dX9_why_12 : decode cX9_why 12 = .ok (.aload_n 0, 1) := by decide +kernel
theorem dX9_why_13 : decode cX9_why 13 = .ok (.iload_n 1, 1) := by decide +kernel
theorem dX9_why_14 : decode cX9_why 14 = .ok (.invokevirtual 74, 3) := by decide +kernel
theorem dX9_why_17 : decode cX9_why 17 = .ok (.invokestatic 112, 3) := by decide +kernel
theorem dX9_why_20 : decode cX9_why 20 = .ok (.goto 5, 3) := by decide +kernel
theorem dX9_why_23 : decode cX9_why 23 = .ok (.ldc 98, 2) := by decide +kernel
theorem dX9_why_25 : decode cX9_why 25 = .ok (.ireturn, 1) := by decide +kernel
theorem dX9_joined_0 : decode cX9_joined 0 = .ok (.iload_n 0, 1) := by decide +kernel
theorem dX9_joined_1 : decode cX9_joined 1 = .ok (.tableswitch 196 38 62 #[182, 196, 196, 196, 123, 115, 196, 119, 196, 127, 196, 196, 196, 196, 196, 196, 196, 196, 196, 196, 196, 196, 149, 171, 160], 115) := by decide +kernel
theorem dX9_joined_116 : decode cX9_joined 116 = .ok (.iload_n 1, 1) := by decide +kernel
theorem dX9_joined_117 : decode cX9_joined 117 = .ok (.iload_n 2, 1) := by decide +kernel
theorem dX9_joined_118 : decode cX9_joined 118 = .ok (.iadd, 1) := by decide +kernel
theorem dX9_joined_119 : decode cX9_joined 119 = .ok (.ireturn, 1) := by decide +kernel
theorem dX9_joined_120 : decode cX9_joined 120 = .ok (.iload_n 1, 1) := by decide +kernel
theorem dX9_joined_121 : decode cX9_joined 121 = .ok (.iload_n 2, 1) := by decide +kernel
theorem dX9_joined_122 : decode cX9_joined 122 = .ok (.isub, 1) := by decide +kernel
theorem dX9_joined_123 : decode cX9_joined 123 = .ok (.ireturn, 1) := by decide +kernel
theorem dX9_joined_124 : decode cX9_joined 124 = .ok (.iload_n 1, 1) := by decide +kernel
theorem dX9_joined_125 : decode cX9_joined 125 = .ok (.iload_n 2, 1) := by decide +kernel
theorem dX9_joined_126 : decode cX9_joined 126 = .ok (.imul, 1) := by decide +kernel
theorem dX9_joined_127 : decode cX9_joined 127 = .ok (.ireturn, 1) := by decide +kernel
theorem dX9_joined_128 : decode cX9_joined 128 = .ok (.iload_n 2, 1) := by decide +kernel
theorem dX9_joined_129 : decode cX9_joined 129 = .ok (.ifCond .ne 7, 3) := by decide +kernel
theorem dX9_joined_132 : decode cX9_joined 132 = .ok (.iconst 0, 1) := by decide +kernel
theorem dX9_joined_133 : decode cX9_joined 133 = .ok (.goto 16, 3) := by decide +kernel
theorem dX9_joined_136 : decode cX9_joined 136 = .ok (.iload_n 2, 1) := by decide +kernel
theorem dX9_joined_137 : decode cX9_joined 137 = .ok (.iconst (-1), 1) := by decide +kernel
theorem dX9_joined_138 : decode cX9_joined 138 = .ok (.if_icmp .ne 8, 3) := by decide +kernel
theorem dX9_joined_141 : decode cX9_joined 141 = .ok (.iload_n 1, 1) := by decide +kernel
theorem dX9_joined_142 : decode cX9_joined 142 = .ok (.ineg, 1) := by decide +kernel
theorem dX9_joined_143 : decode cX9_joined 143 = .ok (.goto 6, 3) := by decide +kernel
theorem dX9_joined_146 : decode cX9_joined 146 = .ok (.iload_n 1, 1) := by decide +kernel
theorem dX9_joined_147 : decode cX9_joined 147 = .ok (.iload_n 2, 1) := by decide +kernel
theorem dX9_joined_148 : decode cX9_joined 148 = .ok (.idiv, 1) := by decide +kernel
theorem dX9_joined_149 : decode cX9_joined 149 = .ok (.ireturn, 1) := by decide +kernel
theorem dX9_joined_150 : decode cX9_joined 150 = .ok (.iload_n 1, 1) := by decide +kernel
theorem dX9_joined_151 : decode cX9_joined 151 = .ok (.iload_n 2, 1) := by decide +kernel
theorem dX9_joined_152 : decode cX9_joined 152 = .ok (.if_icmp .ge 7, 3) := by decide +kernel
theorem dX9_joined_155 : decode cX9_joined 155 = .ok (.iconst 1, 1) := by decide +kernel
theorem dX9_joined_156 : decode cX9_joined 156 = .ok (.goto 4, 3) := by decide +kernel
theorem dX9_joined_159 : decode cX9_joined 159 = .ok (.iconst 0, 1) := by decide +kernel
theorem dX9_joined_160 : decode cX9_joined 160 = .ok (.ireturn, 1) := by decide +kernel
theorem dX9_joined_161 : decode cX9_joined 161 = .ok (.iload_n 1, 1) := by decide +kernel
theorem dX9_joined_162 : decode cX9_joined 162 = .ok (.iload_n 2, 1) := by decide +kernel
theorem dX9_joined_163 : decode cX9_joined 163 = .ok (.if_icmp .le 7, 3) := by decide +kernel
theorem dX9_joined_166 : decode cX9_joined 166 = .ok (.iconst 1, 1) := by decide +kernel
theorem dX9_joined_167 : decode cX9_joined 167 = .ok (.goto 4, 3) := by decide +kernel
theorem dX9_joined_170 : decode cX9_joined 170 = .ok (.iconst 0, 1) := by decide +kernel
theorem dX9_joined_171 : decode cX9_joined 171 = .ok (.ireturn, 1) := by decide +kernel
theorem dX9_joined_172 : decode cX9_joined 172 = .ok (.iload_n 1, 1) := by decide +kernel
theorem dX9_joined_173 : decode cX9_joined 173 = .ok (.iload_n 2, 1) := by decide +kernel
theorem dX9_joined_174 : decode cX9_joined 174 = .ok (.if_icmp .ne 7, 3) := by decide +kernel
theorem dX9_joined_177 : decode cX9_joined 177 = .ok (.iconst 1, 1) := by decide +kernel
theorem dX9_joined_178 : decode cX9_joined 178 = .ok (.goto 4, 3) := by decide +kernel
theorem dX9_joined_181 : decode cX9_joined 181 = .ok (.iconst 0, 1) := by decide +kernel
theorem dX9_joined_182 : decode cX9_joined 182 = .ok (.ireturn, 1) := by decide +kernel
theorem dX9_joined_183 : decode cX9_joined 183 = .ok (.iload_n 1, 1) := by decide +kernel
theorem dX9_joined_184 : decode cX9_joined 184 = .ok (.ifCond .eq 11, 3) := by decide +kernel
theorem dX9_joined_187 : decode cX9_joined 187 = .ok (.iload_n 2, 1) := by decide +kernel
theorem dX9_joined_188 : decode cX9_joined 188 = .ok (.ifCond .eq 7, 3) := by decide +kernel
theorem dX9_joined_191 : decode cX9_joined 191 = .ok (.iconst 1, 1) := by decide +kernel
theorem dX9_joined_192 : decode cX9_joined 192 = .ok (.goto 4, 3) := by decide +kernel
theorem dX9_joined_195 : decode cX9_joined 195 = .ok (.iconst 0, 1) := by decide +kernel
theorem dX9_joined_196 : decode cX9_joined 196 = .ok (.ireturn, 1) := by decide +kernel
theorem dX9_joined_197 : decode cX9_joined 197 = .ok (.iload_n 1, 1) := by decide +kernel
theorem dX9_joined_198 : decode cX9_joined 198 = .ok (.ifCond .ne 7, 3) := by decide +kernel
theorem dX9_joined_201 : decode cX9_joined 201 = .ok (.iload_n 2, 1) := by decide +kernel
theorem dX9_joined_202 : decode cX9_joined 202 = .ok (.ifCond .eq 7, 3) := by decide +kernel
theorem dX9_joined_205 : decode cX9_joined 205 = .ok (.iconst 1, 1) := by decide +kernel
theorem dX9_joined_206 : decode cX9_joined 206 = .ok (.goto 4, 3) := by decide +kernel
theorem dX9_joined_209 : decode cX9_joined 209 = .ok (.iconst 0, 1) := by decide +kernel
theorem dX9_joined_210 : decode cX9_joined 210 = .ok (.ireturn, 1) := by decide +kernel
theorem dX9_worked_0 : decode cX9_worked 0 = .ok (.iconst 0, 1) := by decide +kernel
theorem dX9_worked_1 : decode cX9_worked 1 = .ok (.istore_n 2, 1) := by decide +kernel
theorem dX9_worked_2 : decode cX9_worked 2 = .ok (.iconst 0, 1) := by decide +kernel
theorem dX9_worked_3 : decode cX9_worked 3 = .ok (.istore_n 3, 1) := by decide +kernel
theorem dX9_worked_4 : decode cX9_worked 4 = .ok (.iload_n 3, 1) := by decide +kernel
theorem dX9_worked_5 : decode cX9_worked 5 = .ok (.aload_n 0, 1) := by decide +kernel
theorem dX9_worked_6 : decode cX9_worked 6 = .ok (.getfield 7, 3) := by decide +kernel
theorem dX9_worked_9 : decode cX9_worked 9 = .ok (.aload_n 0, 1) := by decide +kernel
theorem dX9_worked_10 : decode cX9_worked 10 = .ok (.iload_n 1, 1) := by decide +kernel
theorem dX9_worked_11 : decode cX9_worked 11 = .ok (.invokevirtual 267, 3) := by decide +kernel
theorem dX9_worked_14 : decode cX9_worked 14 = .ok (.iconst 2, 1) := by decide +kernel
theorem dX9_worked_15 : decode cX9_worked 15 = .ok (.iadd, 1) := by decide +kernel
theorem dX9_worked_16 : decode cX9_worked 16 = .ok (.iaload, 1) := by decide +kernel
theorem dX9_worked_17 : decode cX9_worked 17 = .ok (.if_icmp .ge 146, 3) := by decide +kernel
theorem dX9_worked_20 : decode cX9_worked 20 = .ok (.aload_n 0, 1) := by decide +kernel
theorem dX9_worked_21 : decode cX9_worked 21 = .ok (.getfield 7, 3) := by decide +kernel
theorem dX9_worked_24 : decode cX9_worked 24 = .ok (.aload_n 0, 1) := by decide +kernel
theorem dX9_worked_25 : decode cX9_worked 25 = .ok (.iload_n 1, 1) := by decide +kernel
theorem dX9_worked_26 : decode cX9_worked 26 = .ok (.invokevirtual 267, 3) := by decide +kernel
theorem dX9_worked_29 : decode cX9_worked 29 = .ok (.iconst 4, 1) := by decide +kernel
theorem dX9_worked_30 : decode cX9_worked 30 = .ok (.iadd, 1) := by decide +kernel
theorem dX9_worked_31 : decode cX9_worked 31 = .ok (.iconst 2, 1) := by decide +kernel
theorem dX9_worked_32 : decode cX9_worked 32 = .ok (.iload_n 3, 1) := by decide +kernel
theorem dX9_worked_33 : decode cX9_worked 33 = .ok (.imul, 1) := by decide +kernel
theorem dX9_worked_34 : decode cX9_worked 34 = .ok (.iadd, 1) := by decide +kernel
theorem dX9_worked_35 : decode cX9_worked 35 = .ok (.iaload, 1) := by decide +kernel
theorem dX9_worked_36 : decode cX9_worked 36 = .ok (.istore 4, 2) := by decide +kernel
theorem dX9_worked_38 : decode cX9_worked 38 = .ok (.aload_n 0, 1) := by decide +kernel
theorem dX9_worked_39 : decode cX9_worked 39 = .ok (.getfield 7, 3) := by decide +kernel
theorem dX9_worked_42 : decode cX9_worked 42 = .ok (.aload_n 0, 1) := by decide +kernel
theorem dX9_worked_43 : decode cX9_worked 43 = .ok (.iload_n 1, 1) := by decide +kernel
theorem dX9_worked_44 : decode cX9_worked 44 = .ok (.invokevirtual 267, 3) := by decide +kernel
theorem dX9_worked_47 : decode cX9_worked 47 = .ok (.iconst 4, 1) := by decide +kernel
theorem dX9_worked_48 : decode cX9_worked 48 = .ok (.iadd, 1) := by decide +kernel
theorem dX9_worked_49 : decode cX9_worked 49 = .ok (.iconst 2, 1) := by decide +kernel
theorem dX9_worked_50 : decode cX9_worked 50 = .ok (.iload_n 3, 1) := by decide +kernel
theorem dX9_worked_51 : decode cX9_worked 51 = .ok (.imul, 1) := by decide +kernel
theorem dX9_worked_52 : decode cX9_worked 52 = .ok (.iadd, 1) := by decide +kernel
theorem dX9_worked_53 : decode cX9_worked 53 = .ok (.iconst 1, 1) := by decide +kernel
theorem dX9_worked_54 : decode cX9_worked 54 = .ok (.iadd, 1) := by decide +kernel
theorem dX9_worked_55 : decode cX9_worked 55 = .ok (.iaload, 1) := by decide +kernel
theorem dX9_worked_56 : decode cX9_worked 56 = .ok (.istore 5, 2) := by decide +kernel
theorem dX9_worked_58 : decode cX9_worked 58 = .ok (.iload 4, 2) := by decide +kernel
theorem dX9_worked_60 : decode cX9_worked 60 = .ok (.iconst 2, 1) := by decide +kernel
theorem dX9_worked_61 : decode cX9_worked 61 = .ok (.if_icmp .eq 32, 3) := by decide +kernel
theorem dX9_worked_64 : decode cX9_worked 64 = .ok (.aload_n 0, 1) := by decide +kernel
theorem dX9_worked_65 : decode cX9_worked 65 = .ok (.getfield 52, 3) := by decide +kernel
theorem dX9_worked_68 : decode cX9_worked 68 = .ok (.iload_n 2, 1) := by decide +kernel
theorem dX9_worked_69 : decode cX9_worked 69 = .ok (.iload 4, 2) := by decide +kernel
theorem dX9_worked_71 : decode cX9_worked 71 = .ok (.ifCond .ne 8, 3) := by decide +kernel
theorem dX9_worked_74 : decode cX9_worked 74 = .ok (.iload 5, 2) := by decide +kernel
theorem dX9_worked_76 : decode cX9_worked 76 = .ok (.goto 10, 3) := by decide +kernel
theorem dX9_worked_79 : decode cX9_worked 79 = .ok (.aload_n 0, 1) := by decide +kernel
theorem dX9_worked_80 : decode cX9_worked 80 = .ok (.getfield 49, 3) := by decide +kernel
theorem dX9_worked_83 : decode cX9_worked 83 = .ok (.iload 5, 2) := by decide +kernel
theorem dX9_worked_85 : decode cX9_worked 85 = .ok (.iaload, 1) := by decide +kernel
theorem dX9_worked_86 : decode cX9_worked 86 = .ok (.iastore, 1) := by decide +kernel
theorem dX9_worked_87 : decode cX9_worked 87 = .ok (.iinc 2 1, 3) := by decide +kernel
theorem dX9_worked_90 : decode cX9_worked 90 = .ok (.goto 67, 3) := by decide +kernel
theorem dX9_worked_93 : decode cX9_worked 93 = .ok (.iload 5, 2) := by decide +kernel
theorem dX9_worked_95 : decode cX9_worked 95 = .ok (.bipush 33, 2) := by decide +kernel
theorem dX9_worked_97 : decode cX9_worked 97 = .ok (.if_icmp .ne 30, 3) := by decide +kernel
theorem dX9_worked_100 : decode cX9_worked 100 = .ok (.aload_n 0, 1) := by decide +kernel
theorem dX9_worked_101 : decode cX9_worked 101 = .ok (.getfield 52, 3) := by decide +kernel
theorem dX9_worked_104 : decode cX9_worked 104 = .ok (.iload_n 2, 1) := by decide +kernel
theorem dX9_worked_105 : decode cX9_worked 105 = .ok (.iconst 1, 1) := by decide +kernel
theorem dX9_worked_106 : decode cX9_worked 106 = .ok (.isub, 1) := by decide +kernel
theorem dX9_worked_107 : decode cX9_worked 107 = .ok (.aload_n 0, 1) := by decide +kernel
theorem dX9_worked_108 : decode cX9_worked 108 = .ok (.getfield 52, 3) := by decide +kernel
theorem dX9_worked_111 : decode cX9_worked 111 = .ok (.iload_n 2, 1) := by decide +kernel
theorem dX9_worked_112 : decode cX9_worked 112 = .ok (.iconst 1, 1) := by decide +kernel
theorem dX9_worked_113 : decode cX9_worked 113 = .ok (.isub, 1) := by decide +kernel
theorem dX9_worked_114 : decode cX9_worked 114 = .ok (.iaload, 1) := by decide +kernel
theorem dX9_worked_115 : decode cX9_worked 115 = .ok (.ifCond .ne 7, 3) := by decide +kernel
theorem dX9_worked_118 : decode cX9_worked 118 = .ok (.iconst 1, 1) := by decide +kernel
theorem dX9_worked_119 : decode cX9_worked 119 = .ok (.goto 4, 3) := by decide +kernel
theorem dX9_worked_122 : decode cX9_worked 122 = .ok (.iconst 0, 1) := by decide +kernel
theorem dX9_worked_123 : decode cX9_worked 123 = .ok (.iastore, 1) := by decide +kernel
theorem dX9_worked_124 : decode cX9_worked 124 = .ok (.goto 33, 3) := by decide +kernel
theorem dX9_worked_127 : decode cX9_worked 127 = .ok (.iinc 2 (-1), 3) := by decide +kernel
theorem dX9_worked_130 : decode cX9_worked 130 = .ok (.aload_n 0, 1) := by decide +kernel
theorem dX9_worked_131 : decode cX9_worked 131 = .ok (.getfield 52, 3) := by decide +kernel
theorem dX9_worked_134 : decode cX9_worked 134 = .ok (.iload_n 2, 1) := by decide +kernel
theorem dX9_worked_135 : decode cX9_worked 135 = .ok (.iconst 1, 1) := by decide +kernel
theorem dX9_worked_136 : decode cX9_worked 136 = .ok (.isub, 1) := by decide +kernel
theorem dX9_worked_137 : decode cX9_worked 137 = .ok (.iload 5, 2) := by decide +kernel
theorem dX9_worked_139 : decode cX9_worked 139 = .ok (.aload_n 0, 1) := by decide +kernel
theorem dX9_worked_140 : decode cX9_worked 140 = .ok (.getfield 52, 3) := by decide +kernel
theorem dX9_worked_143 : decode cX9_worked 143 = .ok (.iload_n 2, 1) := by decide +kernel
theorem dX9_worked_144 : decode cX9_worked 144 = .ok (.iconst 1, 1) := by decide +kernel
theorem dX9_worked_145 : decode cX9_worked 145 = .ok (.isub, 1) := by decide +kernel
theorem dX9_worked_146 : decode cX9_worked 146 = .ok (.iaload, 1) := by decide +kernel
theorem dX9_worked_147 : decode cX9_worked 147 = .ok (.aload_n 0, 1) := by decide +kernel
theorem dX9_worked_148 : decode cX9_worked 148 = .ok (.getfield 52, 3) := by decide +kernel
theorem dX9_worked_151 : decode cX9_worked 151 = .ok (.iload_n 2, 1) := by decide +kernel
theorem dX9_worked_152 : decode cX9_worked 152 = .ok (.iaload, 1) := by decide +kernel
theorem dX9_worked_153 : decode cX9_worked 153 = .ok (.invokestatic 279, 3) := by decide +kernel
theorem dX9_worked_156 : decode cX9_worked 156 = .ok (.iastore, 1) := by decide +kernel
theorem dX9_worked_157 : decode cX9_worked 157 = .ok (.iinc 3 1, 3) := by decide +kernel
theorem dX9_worked_160 : decode cX9_worked 160 = .ok (.goto (-156), 3) := by decide +kernel
theorem dX9_worked_163 : decode cX9_worked 163 = .ok (.aload_n 0, 1) := by decide +kernel
theorem dX9_worked_164 : decode cX9_worked 164 = .ok (.getfield 52, 3) := by decide +kernel
theorem dX9_worked_167 : decode cX9_worked 167 = .ok (.iconst 0, 1) := by decide +kernel
theorem dX9_worked_168 : decode cX9_worked 168 = .ok (.iaload, 1) := by decide +kernel
theorem dX9_worked_169 : decode cX9_worked 169 = .ok (.ireturn, 1) := by decide +kernel
theorem dX9_isSheet_0 : decode cX9_isSheet 0 = .ok (.iload_n 0, 1) := by decide +kernel
theorem dX9_isSheet_1 : decode cX9_isSheet 1 = .ok (.i2l, 1) := by decide +kernel
theorem dX9_isSheet_2 : decode cX9_isSheet 2 = .ok (.lconst 0, 1) := by decide +kernel
theorem dX9_isSheet_3 : decode cX9_isSheet 3 = .ok (.ldc2_w 283, 3) := by decide +kernel
theorem dX9_isSheet_6 : decode cX9_isSheet 6 = .ok (.invokestatic 65, 3) := by decide +kernel
theorem dX9_isSheet_9 : decode cX9_isSheet 9 = .ok (.ireturn, 1) := by decide +kernel
theorem dX9_sheet_0 : decode cX9_sheet 0 = .ok (.iload_n 1, 1) := by decide +kernel
theorem dX9_sheet_1 : decode cX9_sheet 1 = .ok (.invokestatic 285, 3) := by decide +kernel
theorem dX9_sheet_4 : decode cX9_sheet 4 = .ok (.ifCond .eq 25, 3) := by decide +kernel
theorem dX9_sheet_7 : decode cX9_sheet 7 = .ok (.iload_n 2, 1) := by decide +kernel
theorem dX9_sheet_8 : decode cX9_sheet 8 = .ok (.i2l, 1) := by decide +kernel
theorem dX9_sheet_9 : decode cX9_sheet 9 = .ok (.ldc2_w 288, 3) := by decide +kernel
theorem dX9_sheet_12 : decode cX9_sheet 12 = .ok (.lconst 1, 1) := by decide +kernel
theorem dX9_sheet_13 : decode cX9_sheet 13 = .ok (.invokestatic 65, 3) := by decide +kernel
theorem dX9_sheet_16 : decode cX9_sheet 16 = .ok (.ifCond .eq 13, 3) := by decide +kernel
theorem dX9_sheet_19 : decode cX9_sheet 19 = .ok (.iload_n 2, 1) := by decide +kernel
theorem dX9_sheet_20 : decode cX9_sheet 20 = .ok (.ifCond .lt 12, 3) := by decide +kernel
theorem dX9_sheet_23 : decode cX9_sheet 23 = .ok (.iload_n 3, 1) := by decide +kernel
theorem dX9_sheet_24 : decode cX9_sheet 24 = .ok (.bipush 24, 2) := by decide +kernel
theorem dX9_sheet_26 : decode cX9_sheet 26 = .ok (.if_icmp .le 6, 3) := by decide +kernel
theorem dX9_sheet_29 : decode cX9_sheet 29 = .ok (.ldc 98, 2) := by decide +kernel
theorem dX9_sheet_31 : decode cX9_sheet 31 = .ok (.ireturn, 1) := by decide +kernel
theorem dX9_sheet_32 : decode cX9_sheet 32 = .ok (.iload_n 2, 1) := by decide +kernel
theorem dX9_sheet_33 : decode cX9_sheet 33 = .ok (.ifCond .lt 11, 3) := by decide +kernel
theorem dX9_sheet_36 : decode cX9_sheet 36 = .ok (.iload_n 3, 1) := by decide +kernel
theorem dX9_sheet_37 : decode cX9_sheet 37 = .ok (.ifCond .ge 7, 3) := by decide +kernel
theorem dX9_sheet_40 : decode cX9_sheet 40 = .ok (.ldc_w 290, 3) := by decide +kernel
theorem dX9_sheet_43 : decode cX9_sheet 43 = .ok (.ireturn, 1) := by decide +kernel
theorem dX9_sheet_44 : decode cX9_sheet 44 = .ok (.aload_n 0, 1) := by decide +kernel
theorem dX9_sheet_45 : decode cX9_sheet 45 = .ok (.getfield 19, 3) := by decide +kernel
theorem dX9_sheet_48 : decode cX9_sheet 48 = .ok (.iload_n 1, 1) := by decide +kernel
theorem dX9_sheet_49 : decode cX9_sheet 49 = .ok (.iload_n 2, 1) := by decide +kernel
theorem dX9_sheet_50 : decode cX9_sheet 50 = .ok (.iastore, 1) := by decide +kernel
theorem dX9_sheet_51 : decode cX9_sheet 51 = .ok (.aload_n 0, 1) := by decide +kernel
theorem dX9_sheet_52 : decode cX9_sheet 52 = .ok (.getfield 22, 3) := by decide +kernel
theorem dX9_sheet_55 : decode cX9_sheet 55 = .ok (.iload_n 1, 1) := by decide +kernel
theorem dX9_sheet_56 : decode cX9_sheet 56 = .ok (.iload_n 2, 1) := by decide +kernel
theorem dX9_sheet_57 : decode cX9_sheet 57 = .ok (.ifCond .ge 7, 3) := by decide +kernel
theorem dX9_sheet_60 : decode cX9_sheet 60 = .ok (.iconst 0, 1) := by decide +kernel
theorem dX9_sheet_61 : decode cX9_sheet 61 = .ok (.goto 4, 3) := by decide +kernel
theorem dX9_sheet_64 : decode cX9_sheet 64 = .ok (.iload_n 3, 1) := by decide +kernel
theorem dX9_sheet_65 : decode cX9_sheet 65 = .ok (.iastore, 1) := by decide +kernel
theorem dX9_sheet_66 : decode cX9_sheet 66 = .ok (.iconst 0, 1) := by decide +kernel
theorem dX9_sheet_67 : decode cX9_sheet 67 = .ok (.istore 4, 2) := by decide +kernel
theorem dX9_sheet_69 : decode cX9_sheet 69 = .ok (.iload 4, 2) := by decide +kernel
theorem dX9_sheet_71 : decode cX9_sheet 71 = .ok (.bipush 24, 2) := by decide +kernel
theorem dX9_sheet_73 : decode cX9_sheet 73 = .ok (.if_icmp .ge 22, 3) := by decide +kernel
theorem dX9_sheet_76 : decode cX9_sheet 76 = .ok (.aload_n 0, 1) := by decide +kernel
theorem dX9_sheet_77 : decode cX9_sheet 77 = .ok (.getfield 25, 3) := by decide +kernel
theorem dX9_sheet_80 : decode cX9_sheet 80 = .ok (.bipush 24, 2) := by decide +kernel
theorem dX9_sheet_82 : decode cX9_sheet 82 = .ok (.iload_n 1, 1) := by decide +kernel
theorem dX9_sheet_83 : decode cX9_sheet 83 = .ok (.imul, 1) := by decide +kernel
theorem dX9_sheet_84 : decode cX9_sheet 84 = .ok (.iload 4, 2) := by decide +kernel
theorem dX9_sheet_86 : decode cX9_sheet 86 = .ok (.iadd, 1) := by decide +kernel
theorem dX9_sheet_87 : decode cX9_sheet 87 = .ok (.iconst 0, 1) := by decide +kernel
theorem dX9_sheet_88 : decode cX9_sheet 88 = .ok (.iastore, 1) := by decide +kernel
theorem dX9_sheet_89 : decode cX9_sheet 89 = .ok (.iinc 4 1, 3) := by decide +kernel
theorem dX9_sheet_92 : decode cX9_sheet 92 = .ok (.goto (-23), 3) := by decide +kernel
theorem dX9_sheet_95 : decode cX9_sheet 95 = .ok (.aload_n 0, 1) := by decide +kernel
theorem dX9_sheet_96 : decode cX9_sheet 96 = .ok (.getfield 22, 3) := by decide +kernel
theorem dX9_sheet_99 : decode cX9_sheet 99 = .ok (.iload_n 1, 1) := by decide +kernel
theorem dX9_sheet_100 : decode cX9_sheet 100 = .ok (.iaload, 1) := by decide +kernel
theorem dX9_sheet_101 : decode cX9_sheet 101 = .ok (.ireturn, 1) := by decide +kernel
theorem dX9_mark_0 : decode cX9_mark 0 = .ok (.iload_n 1, 1) := by decide +kernel
theorem dX9_mark_1 : decode cX9_mark 1 = .ok (.invokestatic 285, 3) := by decide +kernel
theorem dX9_mark_4 : decode cX9_mark 4 = .ok (.ifCond .ne 6, 3) := by decide +kernel
theorem dX9_mark_7 : decode cX9_mark 7 = .ok (.ldc 98, 2) := by decide +kernel
theorem dX9_mark_9 : decode cX9_mark 9 = .ok (.ireturn, 1) := by decide +kernel
theorem dX9_mark_10 : decode cX9_mark 10 = .ok (.aload_n 0, 1) := by decide +kernel
theorem dX9_mark_11 : decode cX9_mark 11 = .ok (.getfield 19, 3) := by decide +kernel
theorem dX9_mark_14 : decode cX9_mark 14 = .ok (.iload_n 1, 1) := by decide +kernel
theorem dX9_mark_15 : decode cX9_mark 15 = .ok (.iaload, 1) := by decide +kernel
theorem dX9_mark_16 : decode cX9_mark 16 = .ok (.ifCond .ge 7, 3) := by decide +kernel
theorem dX9_mark_19 : decode cX9_mark 19 = .ok (.ldc_w 291, 3) := by decide +kernel
theorem dX9_mark_22 : decode cX9_mark 22 = .ok (.ireturn, 1) := by decide +kernel
theorem dX9_mark_23 : decode cX9_mark 23 = .ok (.iload_n 2, 1) := by decide +kernel
theorem dX9_mark_24 : decode cX9_mark 24 = .ok (.i2l, 1) := by decide +kernel
theorem dX9_mark_25 : decode cX9_mark 25 = .ok (.lconst 0, 1) := by decide +kernel
theorem dX9_mark_26 : decode cX9_mark 26 = .ok (.aload_n 0, 1) := by decide +kernel
theorem dX9_mark_27 : decode cX9_mark 27 = .ok (.getfield 22, 3) := by decide +kernel
theorem dX9_mark_30 : decode cX9_mark 30 = .ok (.iload_n 1, 1) := by decide +kernel
theorem dX9_mark_31 : decode cX9_mark 31 = .ok (.iaload, 1) := by decide +kernel
theorem dX9_mark_32 : decode cX9_mark 32 = .ok (.iconst 1, 1) := by decide +kernel
theorem dX9_mark_33 : decode cX9_mark 33 = .ok (.isub, 1) := by decide +kernel
theorem dX9_mark_34 : decode cX9_mark 34 = .ok (.i2l, 1) := by decide +kernel
theorem dX9_mark_35 : decode cX9_mark 35 = .ok (.invokestatic 65, 3) := by decide +kernel
theorem dX9_mark_38 : decode cX9_mark 38 = .ok (.ifCond .ne 7, 3) := by decide +kernel
theorem dX9_mark_41 : decode cX9_mark 41 = .ok (.ldc_w 292, 3) := by decide +kernel
theorem dX9_mark_44 : decode cX9_mark 44 = .ok (.ireturn, 1) := by decide +kernel
theorem dX9_mark_45 : decode cX9_mark 45 = .ok (.aload_n 0, 1) := by decide +kernel
theorem dX9_mark_46 : decode cX9_mark 46 = .ok (.getfield 19, 3) := by decide +kernel
theorem dX9_mark_49 : decode cX9_mark 49 = .ok (.iload_n 1, 1) := by decide +kernel
theorem dX9_mark_50 : decode cX9_mark 50 = .ok (.iaload, 1) := by decide +kernel
theorem dX9_mark_51 : decode cX9_mark 51 = .ok (.ifCond .ne 12, 3) := by decide +kernel
theorem dX9_mark_54 : decode cX9_mark 54 = .ok (.iload_n 3, 1) := by decide +kernel
theorem dX9_mark_55 : decode cX9_mark 55 = .ok (.ldc 64, 2) := by decide +kernel
theorem dX9_mark_57 : decode cX9_mark 57 = .ok (.if_icmp .ne 6, 3) := by decide +kernel
theorem dX9_mark_60 : decode cX9_mark 60 = .ok (.ldc 119, 2) := by decide +kernel
theorem dX9_mark_62 : decode cX9_mark 62 = .ok (.ireturn, 1) := by decide +kernel
theorem dX9_mark_63 : decode cX9_mark 63 = .ok (.aload_n 0, 1) := by decide +kernel
theorem dX9_mark_64 : decode cX9_mark 64 = .ok (.getfield 19, 3) := by decide +kernel
theorem dX9_mark_67 : decode cX9_mark 67 = .ok (.iload_n 1, 1) := by decide +kernel
theorem dX9_mark_68 : decode cX9_mark 68 = .ok (.iaload, 1) := by decide +kernel
theorem dX9_mark_69 : decode cX9_mark 69 = .ok (.iconst 1, 1) := by decide +kernel
theorem dX9_mark_70 : decode cX9_mark 70 = .ok (.if_icmp .ne 26, 3) := by decide +kernel
theorem dX9_mark_73 : decode cX9_mark 73 = .ok (.iload_n 3, 1) := by decide +kernel
theorem dX9_mark_74 : decode cX9_mark 74 = .ok (.ldc 64, 2) := by decide +kernel
theorem dX9_mark_76 : decode cX9_mark 76 = .ok (.if_icmp .eq 20, 3) := by decide +kernel
theorem dX9_mark_79 : decode cX9_mark 79 = .ok (.iload_n 3, 1) := by decide +kernel
theorem dX9_mark_80 : decode cX9_mark 80 = .ok (.i2l, 1) := by decide +kernel
theorem dX9_mark_81 : decode cX9_mark 81 = .ok (.ldc2_w 293, 3) := by decide +kernel
theorem dX9_mark_84 : decode cX9_mark 84 = .ok (.ldc2_w 295, 3) := by decide +kernel
theorem dX9_mark_87 : decode cX9_mark 87 = .ok (.invokestatic 65, 3) := by decide +kernel
theorem dX9_mark_90 : decode cX9_mark 90 = .ok (.ifCond .ne 6, 3) := by decide +kernel
theorem dX9_mark_93 : decode cX9_mark 93 = .ok (.ldc 98, 2) := by decide +kernel
theorem dX9_mark_95 : decode cX9_mark 95 = .ok (.ireturn, 1) := by decide +kernel
theorem dX9_mark_96 : decode cX9_mark 96 = .ok (.aload_n 0, 1) := by decide +kernel
theorem dX9_mark_97 : decode cX9_mark 97 = .ok (.getfield 25, 3) := by decide +kernel
theorem dX9_mark_100 : decode cX9_mark 100 = .ok (.bipush 24, 2) := by decide +kernel
theorem dX9_mark_102 : decode cX9_mark 102 = .ok (.iload_n 1, 1) := by decide +kernel
theorem dX9_mark_103 : decode cX9_mark 103 = .ok (.imul, 1) := by decide +kernel
theorem dX9_mark_104 : decode cX9_mark 104 = .ok (.iload_n 2, 1) := by decide +kernel
theorem dX9_mark_105 : decode cX9_mark 105 = .ok (.iadd, 1) := by decide +kernel
theorem dX9_mark_106 : decode cX9_mark 106 = .ok (.aload_n 0, 1) := by decide +kernel
theorem dX9_mark_107 : decode cX9_mark 107 = .ok (.getfield 19, 3) := by decide +kernel
theorem dX9_mark_110 : decode cX9_mark 110 = .ok (.iload_n 1, 1) := by decide +kernel
theorem dX9_mark_111 : decode cX9_mark 111 = .ok (.iaload, 1) := by decide +kernel
theorem dX9_mark_112 : decode cX9_mark 112 = .ok (.ifCond .ne 13, 3) := by decide +kernel
theorem dX9_mark_115 : decode cX9_mark 115 = .ok (.iload_n 3, 1) := by decide +kernel
theorem dX9_mark_116 : decode cX9_mark 116 = .ok (.bipush 16, 2) := by decide +kernel
theorem dX9_mark_118 : decode cX9_mark 118 = .ok (.ishl, 1) := by decide +kernel
theorem dX9_mark_119 : decode cX9_mark 119 = .ok (.bipush 16, 2) := by decide +kernel
theorem dX9_mark_121 : decode cX9_mark 121 = .ok (.ishr, 1) := by decide +kernel
theorem dX9_mark_122 : decode cX9_mark 122 = .ok (.goto 4, 3) := by decide +kernel
theorem dX9_mark_125 : decode cX9_mark 125 = .ok (.iload_n 3, 1) := by decide +kernel
theorem dX9_mark_126 : decode cX9_mark 126 = .ok (.iastore, 1) := by decide +kernel
theorem dX9_mark_127 : decode cX9_mark 127 = .ok (.iconst 1, 1) := by decide +kernel
theorem dX9_mark_128 : decode cX9_mark 128 = .ok (.ireturn, 1) := by decide +kernel
theorem dX9_pour_0 : decode cX9_pour 0 = .ok (.iload_n 1, 1) := by decide +kernel
theorem dX9_pour_1 : decode cX9_pour 1 = .ok (.invokestatic 285, 3) := by decide +kernel
theorem dX9_pour_4 : decode cX9_pour 4 = .ok (.ifCond .eq 15, 3) := by decide +kernel
theorem dX9_pour_7 : decode cX9_pour 7 = .ok (.iload_n 2, 1) := by decide +kernel
theorem dX9_pour_8 : decode cX9_pour 8 = .ok (.i2l, 1) := by decide +kernel
theorem dX9_pour_9 : decode cX9_pour 9 = .ok (.lconst 0, 1) := by decide +kernel
theorem dX9_pour_10 : decode cX9_pour 10 = .ok (.ldc2_w 297, 3) := by decide +kernel
theorem dX9_pour_13 : decode cX9_pour 13 = .ok (.invokestatic 65, 3) := by decide +kernel
theorem dX9_pour_16 : decode cX9_pour 16 = .ok (.ifCond .ne 6, 3) := by decide +kernel
theorem dX9_pour_19 : decode cX9_pour 19 = .ok (.ldc 98, 2) := by decide +kernel
theorem dX9_pour_21 : decode cX9_pour 21 = .ok (.ireturn, 1) := by decide +kernel
theorem dX9_pour_22 : decode cX9_pour 22 = .ok (.aload_n 0, 1) := by decide +kernel
theorem dX9_pour_23 : decode cX9_pour 23 = .ok (.getfield 19, 3) := by decide +kernel
theorem dX9_pour_26 : decode cX9_pour 26 = .ok (.iload_n 1, 1) := by decide +kernel
theorem dX9_pour_27 : decode cX9_pour 27 = .ok (.iaload, 1) := by decide +kernel
theorem dX9_pour_28 : decode cX9_pour 28 = .ok (.ifCond .ge 7, 3) := by decide +kernel
theorem dX9_pour_31 : decode cX9_pour 31 = .ok (.ldc_w 291, 3) := by decide +kernel
theorem dX9_pour_34 : decode cX9_pour 34 = .ok (.ireturn, 1) := by decide +kernel
theorem dX9_pour_35 : decode cX9_pour 35 = .ok (.iconst 0, 1) := by decide +kernel
theorem dX9_pour_36 : decode cX9_pour 36 = .ok (.istore_n 3, 1) := by decide +kernel
theorem dX9_pour_37 : decode cX9_pour 37 = .ok (.iconst 0, 1) := by decide +kernel
theorem dX9_pour_38 : decode cX9_pour 38 = .ok (.istore 4, 2) := by decide +kernel
theorem dX9_pour_40 : decode cX9_pour 40 = .ok (.iload 4, 2) := by decide +kernel
theorem dX9_pour_42 : decode cX9_pour 42 = .ok (.aload_n 0, 1) := by decide +kernel
theorem dX9_pour_43 : decode cX9_pour 43 = .ok (.getfield 22, 3) := by decide +kernel
theorem dX9_pour_46 : decode cX9_pour 46 = .ok (.iload_n 1, 1) := by decide +kernel
theorem dX9_pour_47 : decode cX9_pour 47 = .ok (.iaload, 1) := by decide +kernel
theorem dX9_pour_48 : decode cX9_pour 48 = .ok (.if_icmp .ge 94, 3) := by decide +kernel
theorem dX9_pour_51 : decode cX9_pour 51 = .ok (.iload 4, 2) := by decide +kernel
theorem dX9_pour_53 : decode cX9_pour 53 = .ok (.bipush 6, 2) := by decide +kernel
theorem dX9_pour_55 : decode cX9_pour 55 = .ok (.if_icmp .ge 87, 3) := by decide +kernel
theorem dX9_pour_58 : decode cX9_pour 58 = .ok (.aload_n 0, 1) := by decide +kernel
theorem dX9_pour_59 : decode cX9_pour 59 = .ok (.getfield 25, 3) := by decide +kernel
theorem dX9_pour_62 : decode cX9_pour 62 = .ok (.bipush 24, 2) := by decide +kernel
theorem dX9_pour_64 : decode cX9_pour 64 = .ok (.iload_n 1, 1) := by decide +kernel
theorem dX9_pour_65 : decode cX9_pour 65 = .ok (.imul, 1) := by decide +kernel
theorem dX9_pour_66 : decode cX9_pour 66 = .ok (.iload 4, 2) := by decide +kernel
theorem dX9_pour_68 : decode cX9_pour 68 = .ok (.iadd, 1) := by decide +kernel
theorem dX9_pour_69 : decode cX9_pour 69 = .ok (.iaload, 1) := by decide +kernel
theorem dX9_pour_70 : decode cX9_pour 70 = .ok (.istore 5, 2) := by decide +kernel
theorem dX9_pour_72 : decode cX9_pour 72 = .ok (.aload_n 0, 1) := by decide +kernel
theorem dX9_pour_73 : decode cX9_pour 73 = .ok (.bipush 6, 2) := by decide +kernel
theorem dX9_pour_75 : decode cX9_pour 75 = .ok (.iload_n 2, 1) := by decide +kernel
theorem dX9_pour_76 : decode cX9_pour 76 = .ok (.imul, 1) := by decide +kernel
theorem dX9_pour_77 : decode cX9_pour 77 = .ok (.iload 4, 2) := by decide +kernel
theorem dX9_pour_79 : decode cX9_pour 79 = .ok (.iadd, 1) := by decide +kernel
theorem dX9_pour_80 : decode cX9_pour 80 = .ok (.iconst 2, 1) := by decide +kernel
theorem dX9_pour_81 : decode cX9_pour 81 = .ok (.invokevirtual 70, 3) := by decide +kernel
theorem dX9_pour_84 : decode cX9_pour 84 = .ok (.istore 6, 2) := by decide +kernel
theorem dX9_pour_86 : decode cX9_pour 86 = .ok (.iload 5, 2) := by decide +kernel
theorem dX9_pour_88 : decode cX9_pour 88 = .ok (.ldc 64, 2) := by decide +kernel
theorem dX9_pour_90 : decode cX9_pour 90 = .ok (.if_icmp .ne 8, 3) := by decide +kernel
theorem dX9_pour_93 : decode cX9_pour 93 = .ok (.iload 6, 2) := by decide +kernel
theorem dX9_pour_95 : decode cX9_pour 95 = .ok (.goto 10, 3) := by decide +kernel
theorem dX9_pour_98 : decode cX9_pour 98 = .ok (.iload 5, 2) := by decide +kernel
theorem dX9_pour_100 : decode cX9_pour 100 = .ok (.bipush 99, 2) := by decide +kernel
theorem dX9_pour_102 : decode cX9_pour 102 = .ok (.invokestatic 84, 3) := by decide +kernel
theorem dX9_pour_105 : decode cX9_pour 105 = .ok (.istore 7, 2) := by decide +kernel
theorem dX9_pour_107 : decode cX9_pour 107 = .ok (.aload_n 0, 1) := by decide +kernel
theorem dX9_pour_108 : decode cX9_pour 108 = .ok (.bipush 6, 2) := by decide +kernel
theorem dX9_pour_110 : decode cX9_pour 110 = .ok (.iload_n 2, 1) := by decide +kernel
theorem dX9_pour_111 : decode cX9_pour 111 = .ok (.imul, 1) := by decide +kernel
theorem dX9_pour_112 : decode cX9_pour 112 = .ok (.iload 4, 2) := by decide +kernel
theorem dX9_pour_114 : decode cX9_pour 114 = .ok (.iadd, 1) := by decide +kernel
theorem dX9_pour_115 : decode cX9_pour 115 = .ok (.iconst 2, 1) := by decide +kernel
theorem dX9_pour_116 : decode cX9_pour 116 = .ok (.iload 7, 2) := by decide +kernel
theorem dX9_pour_118 : decode cX9_pour 118 = .ok (.invokevirtual 99, 3) := by decide +kernel
theorem dX9_pour_121 : decode cX9_pour 121 = .ok (.iload_n 3, 1) := by decide +kernel
theorem dX9_pour_122 : decode cX9_pour 122 = .ok (.iload 7, 2) := by decide +kernel
theorem dX9_pour_124 : decode cX9_pour 124 = .ok (.iload 6, 2) := by decide +kernel
theorem dX9_pour_126 : decode cX9_pour 126 = .ok (.if_icmp .ne 7, 3) := by decide +kernel
theorem dX9_pour_129 : decode cX9_pour 129 = .ok (.iconst 0, 1) := by decide +kernel
theorem dX9_pour_130 : decode cX9_pour 130 = .ok (.goto 4, 3) := by decide +kernel
theorem dX9_pour_133 : decode cX9_pour 133 = .ok (.iconst 1, 1) := by decide +kernel
theorem dX9_pour_134 : decode cX9_pour 134 = .ok (.iadd, 1) := by decide +kernel
theorem dX9_pour_135 : decode cX9_pour 135 = .ok (.istore_n 3, 1) := by decide +kernel
theorem dX9_pour_136 : decode cX9_pour 136 = .ok (.iinc 4 1, 3) := by decide +kernel
theorem dX9_pour_139 : decode cX9_pour 139 = .ok (.goto (-99), 3) := by decide +kernel
theorem dX9_pour_142 : decode cX9_pour 142 = .ok (.iload_n 3, 1) := by decide +kernel
theorem dX9_pour_143 : decode cX9_pour 143 = .ok (.ireturn, 1) := by decide +kernel
theorem dX9_reads_0 : decode cX9_reads 0 = .ok (.iload_n 1, 1) := by decide +kernel
theorem dX9_reads_1 : decode cX9_reads 1 = .ok (.invokestatic 285, 3) := by decide +kernel
theorem dX9_reads_4 : decode cX9_reads 4 = .ok (.ifCond .ne 6, 3) := by decide +kernel
theorem dX9_reads_7 : decode cX9_reads 7 = .ok (.ldc 98, 2) := by decide +kernel
theorem dX9_reads_9 : decode cX9_reads 9 = .ok (.ireturn, 1) := by decide +kernel
theorem dX9_reads_10 : decode cX9_reads 10 = .ok (.aload_n 0, 1) := by decide +kernel
theorem dX9_reads_11 : decode cX9_reads 11 = .ok (.getfield 19, 3) := by decide +kernel
theorem dX9_reads_14 : decode cX9_reads 14 = .ok (.iload_n 1, 1) := by decide +kernel
theorem dX9_reads_15 : decode cX9_reads 15 = .ok (.iaload, 1) := by decide +kernel
theorem dX9_reads_16 : decode cX9_reads 16 = .ok (.ifCond .ge 7, 3) := by decide +kernel
theorem dX9_reads_19 : decode cX9_reads 19 = .ok (.ldc_w 291, 3) := by decide +kernel
theorem dX9_reads_22 : decode cX9_reads 22 = .ok (.ireturn, 1) := by decide +kernel
theorem dX9_reads_23 : decode cX9_reads 23 = .ok (.iconst 0, 1) := by decide +kernel
theorem dX9_reads_24 : decode cX9_reads 24 = .ok (.istore_n 2, 1) := by decide +kernel
theorem dX9_reads_25 : decode cX9_reads 25 = .ok (.iload_n 2, 1) := by decide +kernel
theorem dX9_reads_26 : decode cX9_reads 26 = .ok (.aload_n 0, 1) := by decide +kernel
theorem dX9_reads_27 : decode cX9_reads 27 = .ok (.getfield 22, 3) := by decide +kernel
theorem dX9_reads_30 : decode cX9_reads 30 = .ok (.iload_n 1, 1) := by decide +kernel
theorem dX9_reads_31 : decode cX9_reads 31 = .ok (.iaload, 1) := by decide +kernel
theorem dX9_reads_32 : decode cX9_reads 32 = .ok (.if_icmp .ge 38, 3) := by decide +kernel
theorem dX9_reads_35 : decode cX9_reads 35 = .ok (.aload_n 0, 1) := by decide +kernel
theorem dX9_reads_36 : decode cX9_reads 36 = .ok (.getfield 25, 3) := by decide +kernel
theorem dX9_reads_39 : decode cX9_reads 39 = .ok (.bipush 24, 2) := by decide +kernel
theorem dX9_reads_41 : decode cX9_reads 41 = .ok (.iload_n 1, 1) := by decide +kernel
theorem dX9_reads_42 : decode cX9_reads 42 = .ok (.imul, 1) := by decide +kernel
theorem dX9_reads_43 : decode cX9_reads 43 = .ok (.iload_n 2, 1) := by decide +kernel
theorem dX9_reads_44 : decode cX9_reads 44 = .ok (.iadd, 1) := by decide +kernel
theorem dX9_reads_45 : decode cX9_reads 45 = .ok (.iaload, 1) := by decide +kernel
theorem dX9_reads_46 : decode cX9_reads 46 = .ok (.istore_n 3, 1) := by decide +kernel
theorem dX9_reads_47 : decode cX9_reads 47 = .ok (.iload_n 3, 1) := by decide +kernel
theorem dX9_reads_48 : decode cX9_reads 48 = .ok (.ldc 64, 2) := by decide +kernel
theorem dX9_reads_50 : decode cX9_reads 50 = .ok (.if_icmp .eq 14, 3) := by decide +kernel
theorem dX9_reads_53 : decode cX9_reads 53 = .ok (.iload_n 3, 1) := by decide +kernel
theorem dX9_reads_54 : decode cX9_reads 54 = .ok (.aload_n 0, 1) := by decide +kernel
theorem dX9_reads_55 : decode cX9_reads 55 = .ok (.iload_n 2, 1) := by decide +kernel
theorem dX9_reads_56 : decode cX9_reads 56 = .ok (.invokevirtual 87, 3) := by decide +kernel
theorem dX9_reads_59 : decode cX9_reads 59 = .ok (.if_icmp .eq 5, 3) := by decide +kernel
theorem dX9_reads_62 : decode cX9_reads 62 = .ok (.iload_n 2, 1) := by decide +kernel
theorem dX9_reads_63 : decode cX9_reads 63 = .ok (.ireturn, 1) := by decide +kernel
theorem dX9_reads_64 : decode cX9_reads 64 = .ok (.iinc 2 1, 3) := by decide +kernel
theorem dX9_reads_67 : decode cX9_reads 67 = .ok (.goto (-42), 3) := by decide +kernel
theorem dX9_reads_70 : decode cX9_reads 70 = .ok (.ldc 64, 2) := by decide +kernel
theorem dX9_reads_72 : decode cX9_reads 72 = .ok (.ireturn, 1) := by decide +kernel
theorem dX9_copy_0 : decode cX9_copy 0 = .ok (.iload_n 1, 1) := by decide +kernel
theorem dX9_copy_1 : decode cX9_copy 1 = .ok (.invokestatic 285, 3) := by decide +kernel
theorem dX9_copy_4 : decode cX9_copy 4 = .ok (.ifCond .eq 10, 3) := by decide +kernel
theorem dX9_copy_7 : decode cX9_copy 7 = .ok (.iload_n 3, 1) := by decide +kernel
theorem dX9_copy_8 : decode cX9_copy 8 = .ok (.invokestatic 285, 3) := by decide +kernel
theorem dX9_copy_11 : decode cX9_copy 11 = .ok (.ifCond .ne 6, 3) := by decide +kernel
theorem dX9_copy_14 : decode cX9_copy 14 = .ok (.ldc 98, 2) := by decide +kernel
theorem dX9_copy_16 : decode cX9_copy 16 = .ok (.ireturn, 1) := by decide +kernel
theorem dX9_copy_17 : decode cX9_copy 17 = .ok (.aload_n 0, 1) := by decide +kernel
theorem dX9_copy_18 : decode cX9_copy 18 = .ok (.getfield 19, 3) := by decide +kernel
theorem dX9_copy_21 : decode cX9_copy 21 = .ok (.iload_n 1, 1) := by decide +kernel
theorem dX9_copy_22 : decode cX9_copy 22 = .ok (.iaload, 1) := by decide +kernel
theorem dX9_copy_23 : decode cX9_copy 23 = .ok (.ifCond .lt 12, 3) := by decide +kernel
theorem dX9_copy_26 : decode cX9_copy 26 = .ok (.aload_n 0, 1) := by decide +kernel
theorem dX9_copy_27 : decode cX9_copy 27 = .ok (.getfield 19, 3) := by decide +kernel
theorem dX9_copy_30 : decode cX9_copy 30 = .ok (.iload_n 3, 1) := by decide +kernel
theorem dX9_copy_31 : decode cX9_copy 31 = .ok (.iaload, 1) := by decide +kernel
theorem dX9_copy_32 : decode cX9_copy 32 = .ok (.ifCond .ge 7, 3) := by decide +kernel
theorem dX9_copy_35 : decode cX9_copy 35 = .ok (.ldc_w 291, 3) := by decide +kernel
theorem dX9_copy_38 : decode cX9_copy 38 = .ok (.ireturn, 1) := by decide +kernel
theorem dX9_copy_39 : decode cX9_copy 39 = .ok (.aload_n 0, 1) := by decide +kernel
theorem dX9_copy_40 : decode cX9_copy 40 = .ok (.getfield 19, 3) := by decide +kernel
theorem dX9_copy_43 : decode cX9_copy 43 = .ok (.iload_n 1, 1) := by decide +kernel
theorem dX9_copy_44 : decode cX9_copy 44 = .ok (.iaload, 1) := by decide +kernel
theorem dX9_copy_45 : decode cX9_copy 45 = .ok (.aload_n 0, 1) := by decide +kernel
theorem dX9_copy_46 : decode cX9_copy 46 = .ok (.getfield 19, 3) := by decide +kernel
theorem dX9_copy_49 : decode cX9_copy 49 = .ok (.iload_n 3, 1) := by decide +kernel
theorem dX9_copy_50 : decode cX9_copy 50 = .ok (.iaload, 1) := by decide +kernel
theorem dX9_copy_51 : decode cX9_copy 51 = .ok (.if_icmp .eq 6, 3) := by decide +kernel
theorem dX9_copy_54 : decode cX9_copy 54 = .ok (.ldc 119, 2) := by decide +kernel
theorem dX9_copy_56 : decode cX9_copy 56 = .ok (.ireturn, 1) := by decide +kernel
theorem dX9_copy_57 : decode cX9_copy 57 = .ok (.iload_n 2, 1) := by decide +kernel
theorem dX9_copy_58 : decode cX9_copy 58 = .ok (.ifCond .lt 48, 3) := by decide +kernel
theorem dX9_copy_61 : decode cX9_copy 61 = .ok (.iload 4, 2) := by decide +kernel
theorem dX9_copy_63 : decode cX9_copy 63 = .ok (.ifCond .lt 43, 3) := by decide +kernel
theorem dX9_copy_66 : decode cX9_copy 66 = .ok (.iload 5, 2) := by decide +kernel
theorem dX9_copy_68 : decode cX9_copy 68 = .ok (.ifCond .lt 38, 3) := by decide +kernel
theorem dX9_copy_71 : decode cX9_copy 71 = .ok (.iload_n 2, 1) := by decide +kernel
theorem dX9_copy_72 : decode cX9_copy 72 = .ok (.i2l, 1) := by decide +kernel
theorem dX9_copy_73 : decode cX9_copy 73 = .ok (.iload 5, 2) := by decide +kernel
theorem dX9_copy_75 : decode cX9_copy 75 = .ok (.i2l, 1) := by decide +kernel
theorem dX9_copy_76 : decode cX9_copy 76 = .ok (.ladd, 1) := by decide +kernel
theorem dX9_copy_77 : decode cX9_copy 77 = .ok (.aload_n 0, 1) := by decide +kernel
theorem dX9_copy_78 : decode cX9_copy 78 = .ok (.getfield 22, 3) := by decide +kernel
theorem dX9_copy_81 : decode cX9_copy 81 = .ok (.iload_n 1, 1) := by decide +kernel
theorem dX9_copy_82 : decode cX9_copy 82 = .ok (.iaload, 1) := by decide +kernel
theorem dX9_copy_83 : decode cX9_copy 83 = .ok (.i2l, 1) := by decide +kernel
theorem dX9_copy_84 : decode cX9_copy 84 = .ok (.lcmp, 1) := by decide +kernel
theorem dX9_copy_85 : decode cX9_copy 85 = .ok (.ifCond .gt 21, 3) := by decide +kernel
theorem dX9_copy_88 : decode cX9_copy 88 = .ok (.iload 4, 2) := by decide +kernel
theorem dX9_copy_90 : decode cX9_copy 90 = .ok (.i2l, 1) := by decide +kernel
theorem dX9_copy_91 : decode cX9_copy 91 = .ok (.iload 5, 2) := by decide +kernel
theorem dX9_copy_93 : decode cX9_copy 93 = .ok (.i2l, 1) := by decide +kernel
theorem dX9_copy_94 : decode cX9_copy 94 = .ok (.ladd, 1) := by decide +kernel
theorem dX9_copy_95 : decode cX9_copy 95 = .ok (.aload_n 0, 1) := by decide +kernel
theorem dX9_copy_96 : decode cX9_copy 96 = .ok (.getfield 22, 3) := by decide +kernel
theorem dX9_copy_99 : decode cX9_copy 99 = .ok (.iload_n 3, 1) := by decide +kernel
theorem dX9_copy_100 : decode cX9_copy 100 = .ok (.iaload, 1) := by decide +kernel
theorem dX9_copy_101 : decode cX9_copy 101 = .ok (.i2l, 1) := by decide +kernel
theorem dX9_copy_102 : decode cX9_copy 102 = .ok (.lcmp, 1) := by decide +kernel
theorem dX9_copy_103 : decode cX9_copy 103 = .ok (.ifCond .le 7, 3) := by decide +kernel
theorem dX9_copy_106 : decode cX9_copy 106 = .ok (.ldc_w 292, 3) := by decide +kernel
theorem dX9_copy_109 : decode cX9_copy 109 = .ok (.ireturn, 1) := by decide +kernel
theorem dX9_copy_110 : decode cX9_copy 110 = .ok (.iconst 0, 1) := by decide +kernel
theorem dX9_copy_111 : decode cX9_copy 111 = .ok (.istore 6, 2) := by decide +kernel
theorem dX9_copy_113 : decode cX9_copy 113 = .ok (.iload 6, 2) := by decide +kernel
theorem dX9_copy_115 : decode cX9_copy 115 = .ok (.iload 5, 2) := by decide +kernel
theorem dX9_copy_117 : decode cX9_copy 117 = .ok (.if_icmp .ge 30, 3) := by decide +kernel
theorem dX9_copy_120 : decode cX9_copy 120 = .ok (.aload_n 0, 1) := by decide +kernel
theorem dX9_copy_121 : decode cX9_copy 121 = .ok (.getfield 55, 3) := by decide +kernel
theorem dX9_copy_124 : decode cX9_copy 124 = .ok (.iload 6, 2) := by decide +kernel
theorem dX9_copy_126 : decode cX9_copy 126 = .ok (.aload_n 0, 1) := by decide +kernel
theorem dX9_copy_127 : decode cX9_copy 127 = .ok (.getfield 25, 3) := by decide +kernel
theorem dX9_copy_130 : decode cX9_copy 130 = .ok (.bipush 24, 2) := by decide +kernel
theorem dX9_copy_132 : decode cX9_copy 132 = .ok (.iload_n 1, 1) := by decide +kernel
theorem dX9_copy_133 : decode cX9_copy 133 = .ok (.imul, 1) := by decide +kernel
theorem dX9_copy_134 : decode cX9_copy 134 = .ok (.iload_n 2, 1) := by decide +kernel
theorem dX9_copy_135 : decode cX9_copy 135 = .ok (.iadd, 1) := by decide +kernel
theorem dX9_copy_136 : decode cX9_copy 136 = .ok (.iload 6, 2) := by decide +kernel
theorem dX9_copy_138 : decode cX9_copy 138 = .ok (.iadd, 1) := by decide +kernel
theorem dX9_copy_139 : decode cX9_copy 139 = .ok (.iaload, 1) := by decide +kernel
theorem dX9_copy_140 : decode cX9_copy 140 = .ok (.iastore, 1) := by decide +kernel
theorem dX9_copy_141 : decode cX9_copy 141 = .ok (.iinc 6 1, 3) := by decide +kernel
theorem dX9_copy_144 : decode cX9_copy 144 = .ok (.goto (-31), 3) := by decide +kernel
theorem dX9_copy_147 : decode cX9_copy 147 = .ok (.iconst 0, 1) := by decide +kernel
theorem dX9_copy_148 : decode cX9_copy 148 = .ok (.istore 6, 2) := by decide +kernel
theorem dX9_copy_150 : decode cX9_copy 150 = .ok (.iload 6, 2) := by decide +kernel
theorem dX9_copy_152 : decode cX9_copy 152 = .ok (.iload 5, 2) := by decide +kernel
theorem dX9_copy_154 : decode cX9_copy 154 = .ok (.if_icmp .ge 31, 3) := by decide +kernel
theorem dX9_copy_157 : decode cX9_copy 157 = .ok (.aload_n 0, 1) := by decide +kernel
theorem dX9_copy_158 : decode cX9_copy 158 = .ok (.getfield 25, 3) := by decide +kernel
theorem dX9_copy_161 : decode cX9_copy 161 = .ok (.bipush 24, 2) := by decide +kernel
theorem dX9_copy_163 : decode cX9_copy 163 = .ok (.iload_n 3, 1) := by decide +kernel
theorem dX9_copy_164 : decode cX9_copy 164 = .ok (.imul, 1) := by decide +kernel
theorem dX9_copy_165 : decode cX9_copy 165 = .ok (.iload 4, 2) := by decide +kernel
theorem dX9_copy_167 : decode cX9_copy 167 = .ok (.iadd, 1) := by decide +kernel
theorem dX9_copy_168 : decode cX9_copy 168 = .ok (.iload 6, 2) := by decide +kernel
theorem dX9_copy_170 : decode cX9_copy 170 = .ok (.iadd, 1) := by decide +kernel
theorem dX9_copy_171 : decode cX9_copy 171 = .ok (.aload_n 0, 1) := by decide +kernel
theorem dX9_copy_172 : decode cX9_copy 172 = .ok (.getfield 55, 3) := by decide +kernel
theorem dX9_copy_175 : decode cX9_copy 175 = .ok (.iload 6, 2) := by decide +kernel
theorem dX9_copy_177 : decode cX9_copy 177 = .ok (.iaload, 1) := by decide +kernel
theorem dX9_copy_178 : decode cX9_copy 178 = .ok (.iastore, 1) := by decide +kernel
theorem dX9_copy_179 : decode cX9_copy 179 = .ok (.iinc 6 1, 3) := by decide +kernel
theorem dX9_copy_182 : decode cX9_copy 182 = .ok (.goto (-32), 3) := by decide +kernel
theorem dX9_copy_185 : decode cX9_copy 185 = .ok (.iload 5, 2) := by decide +kernel
theorem dX9_copy_187 : decode cX9_copy 187 = .ok (.ireturn, 1) := by decide +kernel
theorem dX9_isSlot_0 : decode cX9_isSlot 0 = .ok (.iload_n 0, 1) := by decide +kernel
theorem dX9_isSlot_1 : decode cX9_isSlot 1 = .ok (.i2l, 1) := by decide +kernel
theorem dX9_isSlot_2 : decode cX9_isSlot 2 = .ok (.lconst 0, 1) := by decide +kernel
theorem dX9_isSlot_3 : decode cX9_isSlot 3 = .ok (.ldc2_w 297, 3) := by decide +kernel
theorem dX9_isSlot_6 : decode cX9_isSlot 6 = .ok (.invokestatic 65, 3) := by decide +kernel
theorem dX9_isSlot_9 : decode cX9_isSlot 9 = .ok (.ireturn, 1) := by decide +kernel
theorem dX9_lay_0 : decode cX9_lay 0 = .ok (.iload_n 2, 1) := by decide +kernel
theorem dX9_lay_1 : decode cX9_lay 1 = .ok (.ifCond .eq 32, 3) := by decide +kernel
theorem dX9_lay_4 : decode cX9_lay 4 = .ok (.iload_n 2, 1) := by decide +kernel
theorem dX9_lay_5 : decode cX9_lay 5 = .ok (.iconst 3, 1) := by decide +kernel
theorem dX9_lay_6 : decode cX9_lay 6 = .ok (.if_icmp .eq 27, 3) := by decide +kernel
theorem dX9_lay_9 : decode cX9_lay 9 = .ok (.iload_n 2, 1) := by decide +kernel
theorem dX9_lay_10 : decode cX9_lay 10 = .ok (.iconst 1, 1) := by decide +kernel
theorem dX9_lay_11 : decode cX9_lay 11 = .ok (.if_icmp .ne 10, 3) := by decide +kernel
theorem dX9_lay_14 : decode cX9_lay 14 = .ok (.iload_n 3, 1) := by decide +kernel
theorem dX9_lay_15 : decode cX9_lay 15 = .ok (.invokestatic 90, 3) := by decide +kernel
theorem dX9_lay_18 : decode cX9_lay 18 = .ok (.ifCond .ne 15, 3) := by decide +kernel
theorem dX9_lay_21 : decode cX9_lay 21 = .ok (.iload_n 2, 1) := by decide +kernel
theorem dX9_lay_22 : decode cX9_lay 22 = .ok (.iconst 2, 1) := by decide +kernel
theorem dX9_lay_23 : decode cX9_lay 23 = .ok (.if_icmp .ne 14, 3) := by decide +kernel
theorem dX9_lay_26 : decode cX9_lay 26 = .ok (.iload_n 3, 1) := by decide +kernel
theorem dX9_lay_27 : decode cX9_lay 27 = .ok (.invokestatic 285, 3) := by decide +kernel
theorem dX9_lay_30 : decode cX9_lay 30 = .ok (.ifCond .eq 7, 3) := by decide +kernel
theorem dX9_lay_33 : decode cX9_lay 33 = .ok (.iconst 1, 1) := by decide +kernel
theorem dX9_lay_34 : decode cX9_lay 34 = .ok (.goto 4, 3) := by decide +kernel
theorem dX9_lay_37 : decode cX9_lay 37 = .ok (.iconst 0, 1) := by decide +kernel
theorem dX9_lay_38 : decode cX9_lay 38 = .ok (.istore 4, 2) := by decide +kernel
theorem dX9_lay_40 : decode cX9_lay 40 = .ok (.iload_n 1, 1) := by decide +kernel
theorem dX9_lay_41 : decode cX9_lay 41 = .ok (.invokestatic 299, 3) := by decide +kernel
theorem dX9_lay_44 : decode cX9_lay 44 = .ok (.ifCond .eq 8, 3) := by decide +kernel
theorem dX9_lay_47 : decode cX9_lay 47 = .ok (.iload 4, 2) := by decide +kernel
theorem dX9_lay_49 : decode cX9_lay 49 = .ok (.ifCond .ne 6, 3) := by decide +kernel
theorem dX9_lay_52 : decode cX9_lay 52 = .ok (.ldc 98, 2) := by decide +kernel
theorem dX9_lay_54 : decode cX9_lay 54 = .ok (.ireturn, 1) := by decide +kernel
theorem dX9_lay_55 : decode cX9_lay 55 = .ok (.iload_n 2, 1) := by decide +kernel
theorem dX9_lay_56 : decode cX9_lay 56 = .ok (.iconst 2, 1) := by decide +kernel
theorem dX9_lay_57 : decode cX9_lay 57 = .ok (.if_icmp .ne 16, 3) := by decide +kernel
theorem dX9_lay_60 : decode cX9_lay 60 = .ok (.aload_n 0, 1) := by decide +kernel
theorem dX9_lay_61 : decode cX9_lay 61 = .ok (.getfield 19, 3) := by decide +kernel
theorem dX9_lay_64 : decode cX9_lay 64 = .ok (.iload_n 3, 1) := by decide +kernel
theorem dX9_lay_65 : decode cX9_lay 65 = .ok (.iaload, 1) := by decide +kernel
theorem dX9_lay_66 : decode cX9_lay 66 = .ok (.ifCond .ge 7, 3) := by decide +kernel
theorem dX9_lay_69 : decode cX9_lay 69 = .ok (.ldc_w 291, 3) := by decide +kernel
theorem dX9_lay_72 : decode cX9_lay 72 = .ok (.ireturn, 1) := by decide +kernel
theorem dX9_lay_73 : decode cX9_lay 73 = .ok (.aload_n 0, 1) := by decide +kernel
theorem dX9_lay_74 : decode cX9_lay 74 = .ok (.getfield 28, 3) := by decide +kernel
theorem dX9_lay_77 : decode cX9_lay 77 = .ok (.iload_n 1, 1) := by decide +kernel
theorem dX9_lay_78 : decode cX9_lay 78 = .ok (.iaload, 1) := by decide +kernel
theorem dX9_lay_79 : decode cX9_lay 79 = .ok (.istore 5, 2) := by decide +kernel
theorem dX9_lay_81 : decode cX9_lay 81 = .ok (.aload_n 0, 1) := by decide +kernel
theorem dX9_lay_82 : decode cX9_lay 82 = .ok (.getfield 28, 3) := by decide +kernel
theorem dX9_lay_85 : decode cX9_lay 85 = .ok (.iload_n 1, 1) := by decide +kernel
theorem dX9_lay_86 : decode cX9_lay 86 = .ok (.iload_n 2, 1) := by decide +kernel
theorem dX9_lay_87 : decode cX9_lay 87 = .ok (.iastore, 1) := by decide +kernel
theorem dX9_lay_88 : decode cX9_lay 88 = .ok (.aload_n 0, 1) := by decide +kernel
theorem dX9_lay_89 : decode cX9_lay 89 = .ok (.getfield 31, 3) := by decide +kernel
theorem dX9_lay_92 : decode cX9_lay 92 = .ok (.iload_n 1, 1) := by decide +kernel
theorem dX9_lay_93 : decode cX9_lay 93 = .ok (.iload_n 2, 1) := by decide +kernel
theorem dX9_lay_94 : decode cX9_lay 94 = .ok (.iconst 1, 1) := by decide +kernel
theorem dX9_lay_95 : decode cX9_lay 95 = .ok (.if_icmp .ne 12, 3) := by decide +kernel
theorem dX9_lay_98 : decode cX9_lay 98 = .ok (.aload_n 0, 1) := by decide +kernel
theorem dX9_lay_99 : decode cX9_lay 99 = .ok (.iload_n 3, 1) := by decide +kernel
theorem dX9_lay_100 : decode cX9_lay 100 = .ok (.iconst 0, 1) := by decide +kernel
theorem dX9_lay_101 : decode cX9_lay 101 = .ok (.invokevirtual 70, 3) := by decide +kernel
theorem dX9_lay_104 : decode cX9_lay 104 = .ok (.goto 4, 3) := by decide +kernel
theorem dX9_lay_107 : decode cX9_lay 107 = .ok (.iload_n 3, 1) := by decide +kernel
theorem dX9_lay_108 : decode cX9_lay 108 = .ok (.iastore, 1) := by decide +kernel
theorem dX9_lay_109 : decode cX9_lay 109 = .ok (.aload_n 0, 1) := by decide +kernel
theorem dX9_lay_110 : decode cX9_lay 110 = .ok (.getfield 34, 3) := by decide +kernel
theorem dX9_lay_113 : decode cX9_lay 113 = .ok (.iload_n 1, 1) := by decide +kernel
theorem dX9_lay_114 : decode cX9_lay 114 = .ok (.iload_n 2, 1) := by decide +kernel
theorem dX9_lay_115 : decode cX9_lay 115 = .ok (.iconst 1, 1) := by decide +kernel
theorem dX9_lay_116 : decode cX9_lay 116 = .ok (.if_icmp .ne 11, 3) := by decide +kernel
theorem dX9_lay_119 : decode cX9_lay 119 = .ok (.aload_n 0, 1) := by decide +kernel
theorem dX9_lay_120 : decode cX9_lay 120 = .ok (.iload_n 3, 1) := by decide +kernel
theorem dX9_lay_121 : decode cX9_lay 121 = .ok (.invokevirtual 109, 3) := by decide +kernel
theorem dX9_lay_124 : decode cX9_lay 124 = .ok (.goto 4, 3) := by decide +kernel
theorem dX9_lay_127 : decode cX9_lay 127 = .ok (.iconst 0, 1) := by decide +kernel
theorem dX9_lay_128 : decode cX9_lay 128 = .ok (.iastore, 1) := by decide +kernel
theorem dX9_lay_129 : decode cX9_lay 129 = .ok (.iload_n 2, 1) := by decide +kernel
theorem dX9_lay_130 : decode cX9_lay 130 = .ok (.iconst 2, 1) := by decide +kernel
theorem dX9_lay_131 : decode cX9_lay 131 = .ok (.if_icmp .ne 55, 3) := by decide +kernel
theorem dX9_lay_134 : decode cX9_lay 134 = .ok (.aload_n 0, 1) := by decide +kernel
theorem dX9_lay_135 : decode cX9_lay 135 = .ok (.getfield 37, 3) := by decide +kernel
theorem dX9_lay_138 : decode cX9_lay 138 = .ok (.iload_n 1, 1) := by decide +kernel
theorem dX9_lay_139 : decode cX9_lay 139 = .ok (.aload_n 0, 1) := by decide +kernel
theorem dX9_lay_140 : decode cX9_lay 140 = .ok (.getfield 22, 3) := by decide +kernel
theorem dX9_lay_143 : decode cX9_lay 143 = .ok (.iload_n 3, 1) := by decide +kernel
theorem dX9_lay_144 : decode cX9_lay 144 = .ok (.iaload, 1) := by decide +kernel
theorem dX9_lay_145 : decode cX9_lay 145 = .ok (.iastore, 1) := by decide +kernel
theorem dX9_lay_146 : decode cX9_lay 146 = .ok (.iconst 0, 1) := by decide +kernel
theorem dX9_lay_147 : decode cX9_lay 147 = .ok (.istore 6, 2) := by decide +kernel
theorem dX9_lay_149 : decode cX9_lay 149 = .ok (.iload 6, 2) := by decide +kernel
theorem dX9_lay_151 : decode cX9_lay 151 = .ok (.bipush 24, 2) := by decide +kernel
theorem dX9_lay_153 : decode cX9_lay 153 = .ok (.if_icmp .ge 33, 3) := by decide +kernel
theorem dX9_lay_156 : decode cX9_lay 156 = .ok (.aload_n 0, 1) := by decide +kernel
theorem dX9_lay_157 : decode cX9_lay 157 = .ok (.getfield 40, 3) := by decide +kernel
theorem dX9_lay_160 : decode cX9_lay 160 = .ok (.bipush 24, 2) := by decide +kernel
theorem dX9_lay_162 : decode cX9_lay 162 = .ok (.iload_n 1, 1) := by decide +kernel
theorem dX9_lay_163 : decode cX9_lay 163 = .ok (.imul, 1) := by decide +kernel
theorem dX9_lay_164 : decode cX9_lay 164 = .ok (.iload 6, 2) := by decide +kernel
theorem dX9_lay_166 : decode cX9_lay 166 = .ok (.iadd, 1) := by decide +kernel
theorem dX9_lay_167 : decode cX9_lay 167 = .ok (.aload_n 0, 1) := by decide +kernel
theorem dX9_lay_168 : decode cX9_lay 168 = .ok (.getfield 25, 3) := by decide +kernel
theorem dX9_lay_171 : decode cX9_lay 171 = .ok (.bipush 24, 2) := by decide +kernel
theorem dX9_lay_173 : decode cX9_lay 173 = .ok (.iload_n 3, 1) := by decide +kernel
theorem dX9_lay_174 : decode cX9_lay 174 = .ok (.imul, 1) := by decide +kernel
theorem dX9_lay_175 : decode cX9_lay 175 = .ok (.iload 6, 2) := by decide +kernel
theorem dX9_lay_177 : decode cX9_lay 177 = .ok (.iadd, 1) := by decide +kernel
theorem dX9_lay_178 : decode cX9_lay 178 = .ok (.iaload, 1) := by decide +kernel
theorem dX9_lay_179 : decode cX9_lay 179 = .ok (.iastore, 1) := by decide +kernel
theorem dX9_lay_180 : decode cX9_lay 180 = .ok (.iinc 6 1, 3) := by decide +kernel
theorem dX9_lay_183 : decode cX9_lay 183 = .ok (.goto (-34), 3) := by decide +kernel
theorem dX9_lay_186 : decode cX9_lay 186 = .ok (.iload 5, 2) := by decide +kernel
theorem dX9_lay_188 : decode cX9_lay 188 = .ok (.ireturn, 1) := by decide +kernel
theorem dX9_ask_0 : decode cX9_ask 0 = .ok (.iload_n 1, 1) := by decide +kernel
theorem dX9_ask_1 : decode cX9_ask 1 = .ok (.invokestatic 299, 3) := by decide +kernel
theorem dX9_ask_4 : decode cX9_ask 4 = .ok (.ifCond .eq 15, 3) := by decide +kernel
theorem dX9_ask_7 : decode cX9_ask 7 = .ok (.iload_n 2, 1) := by decide +kernel
theorem dX9_ask_8 : decode cX9_ask 8 = .ok (.i2l, 1) := by decide +kernel
theorem dX9_ask_9 : decode cX9_ask 9 = .ok (.lconst 0, 1) := by decide +kernel
theorem dX9_ask_10 : decode cX9_ask 10 = .ok (.ldc2_w 94, 3) := by decide +kernel
theorem dX9_ask_13 : decode cX9_ask 13 = .ok (.invokestatic 65, 3) := by decide +kernel
theorem dX9_ask_16 : decode cX9_ask 16 = .ok (.ifCond .ne 6, 3) := by decide +kernel
theorem dX9_ask_19 : decode cX9_ask 19 = .ok (.ldc 98, 2) := by decide +kernel
theorem dX9_ask_21 : decode cX9_ask 21 = .ok (.ireturn, 1) := by decide +kernel
theorem dX9_ask_22 : decode cX9_ask 22 = .ok (.aload_n 0, 1) := by decide +kernel
theorem dX9_ask_23 : decode cX9_ask 23 = .ok (.getfield 28, 3) := by decide +kernel
theorem dX9_ask_26 : decode cX9_ask 26 = .ok (.iload_n 1, 1) := by decide +kernel
theorem dX9_ask_27 : decode cX9_ask 27 = .ok (.iaload, 1) := by decide +kernel
theorem dX9_ask_28 : decode cX9_ask 28 = .ok (.ifCond .ne 7, 3) := by decide +kernel
theorem dX9_ask_31 : decode cX9_ask 31 = .ok (.ldc_w 291, 3) := by decide +kernel
theorem dX9_ask_34 : decode cX9_ask 34 = .ok (.ireturn, 1) := by decide +kernel
theorem dX9_ask_35 : decode cX9_ask 35 = .ok (.aload_n 0, 1) := by decide +kernel
theorem dX9_ask_36 : decode cX9_ask 36 = .ok (.getfield 28, 3) := by decide +kernel
theorem dX9_ask_39 : decode cX9_ask 39 = .ok (.iload_n 1, 1) := by decide +kernel
theorem dX9_ask_40 : decode cX9_ask 40 = .ok (.iaload, 1) := by decide +kernel
theorem dX9_ask_41 : decode cX9_ask 41 = .ok (.iconst 1, 1) := by decide +kernel
theorem dX9_ask_42 : decode cX9_ask 42 = .ok (.if_icmp .ne 25, 3) := by decide +kernel
theorem dX9_ask_45 : decode cX9_ask 45 = .ok (.aload_n 0, 1) := by decide +kernel
theorem dX9_ask_46 : decode cX9_ask 46 = .ok (.getfield 31, 3) := by decide +kernel
theorem dX9_ask_49 : decode cX9_ask 49 = .ok (.iload_n 1, 1) := by decide +kernel
theorem dX9_ask_50 : decode cX9_ask 50 = .ok (.iaload, 1) := by decide +kernel
theorem dX9_ask_51 : decode cX9_ask 51 = .ok (.iload_n 2, 1) := by decide +kernel
theorem dX9_ask_52 : decode cX9_ask 52 = .ok (.invokestatic 115, 3) := by decide +kernel
theorem dX9_ask_55 : decode cX9_ask 55 = .ok (.ifCond .eq 12, 3) := by decide +kernel
theorem dX9_ask_58 : decode cX9_ask 58 = .ok (.aload_n 0, 1) := by decide +kernel
theorem dX9_ask_59 : decode cX9_ask 59 = .ok (.getfield 34, 3) := by decide +kernel
theorem dX9_ask_62 : decode cX9_ask 62 = .ok (.iload_n 1, 1) := by decide +kernel
theorem dX9_ask_63 : decode cX9_ask 63 = .ok (.iaload, 1) := by decide +kernel
theorem dX9_ask_64 : decode cX9_ask 64 = .ok (.goto 5, 3) := by decide +kernel
theorem dX9_ask_67 : decode cX9_ask 67 = .ok (.ldc 119, 2) := by decide +kernel
theorem dX9_ask_69 : decode cX9_ask 69 = .ok (.ireturn, 1) := by decide +kernel
theorem dX9_item_0 : decode cX9_item 0 = .ok (.iload_n 1, 1) := by decide +kernel
theorem dX9_item_1 : decode cX9_item 1 = .ok (.invokestatic 299, 3) := by decide +kernel
theorem dX9_item_4 : decode cX9_item 4 = .ok (.ifCond .ne 6, 3) := by decide +kernel
theorem dX9_item_7 : decode cX9_item 7 = .ok (.ldc 98, 2) := by decide +kernel
theorem dX9_item_9 : decode cX9_item 9 = .ok (.ireturn, 1) := by decide +kernel
theorem dX9_item_10 : decode cX9_item 10 = .ok (.aload_n 0, 1) := by decide +kernel
theorem dX9_item_11 : decode cX9_item 11 = .ok (.getfield 28, 3) := by decide +kernel
theorem dX9_item_14 : decode cX9_item 14 = .ok (.iload_n 1, 1) := by decide +kernel
theorem dX9_item_15 : decode cX9_item 15 = .ok (.iaload, 1) := by decide +kernel
theorem dX9_item_16 : decode cX9_item 16 = .ok (.iconst 2, 1) := by decide +kernel
theorem dX9_item_17 : decode cX9_item 17 = .ok (.if_icmp .eq 21, 3) := by decide +kernel
theorem dX9_item_20 : decode cX9_item 20 = .ok (.aload_n 0, 1) := by decide +kernel
theorem dX9_item_21 : decode cX9_item 21 = .ok (.getfield 28, 3) := by decide +kernel
theorem dX9_item_24 : decode cX9_item 24 = .ok (.iload_n 1, 1) := by decide +kernel
theorem dX9_item_25 : decode cX9_item 25 = .ok (.iaload, 1) := by decide +kernel
theorem dX9_item_26 : decode cX9_item 26 = .ok (.ifCond .ne 9, 3) := by decide +kernel
theorem dX9_item_29 : decode cX9_item 29 = .ok (.ldc_w 291, 3) := by decide +kernel
theorem dX9_item_32 : decode cX9_item 32 = .ok (.goto 5, 3) := by decide +kernel
theorem dX9_item_35 : decode cX9_item 35 = .ok (.ldc 119, 2) := by decide +kernel
theorem dX9_item_37 : decode cX9_item 37 = .ok (.ireturn, 1) := by decide +kernel
theorem dX9_item_38 : decode cX9_item 38 = .ok (.iload_n 2, 1) := by decide +kernel
theorem dX9_item_39 : decode cX9_item 39 = .ok (.i2l, 1) := by decide +kernel
theorem dX9_item_40 : decode cX9_item 40 = .ok (.lconst 0, 1) := by decide +kernel
theorem dX9_item_41 : decode cX9_item 41 = .ok (.aload_n 0, 1) := by decide +kernel
theorem dX9_item_42 : decode cX9_item 42 = .ok (.getfield 37, 3) := by decide +kernel
theorem dX9_item_45 : decode cX9_item 45 = .ok (.iload_n 1, 1) := by decide +kernel
theorem dX9_item_46 : decode cX9_item 46 = .ok (.iaload, 1) := by decide +kernel
theorem dX9_item_47 : decode cX9_item 47 = .ok (.iconst 1, 1) := by decide +kernel
theorem dX9_item_48 : decode cX9_item 48 = .ok (.isub, 1) := by decide +kernel
theorem dX9_item_49 : decode cX9_item 49 = .ok (.i2l, 1) := by decide +kernel
theorem dX9_item_50 : decode cX9_item 50 = .ok (.invokestatic 65, 3) := by decide +kernel
theorem dX9_item_53 : decode cX9_item 53 = .ok (.ifCond .ne 7, 3) := by decide +kernel
theorem dX9_item_56 : decode cX9_item 56 = .ok (.ldc_w 292, 3) := by decide +kernel
theorem dX9_item_59 : decode cX9_item 59 = .ok (.ireturn, 1) := by decide +kernel
theorem dX9_item_60 : decode cX9_item 60 = .ok (.aload_n 0, 1) := by decide +kernel
theorem dX9_item_61 : decode cX9_item 61 = .ok (.getfield 40, 3) := by decide +kernel
theorem dX9_item_64 : decode cX9_item 64 = .ok (.bipush 24, 2) := by decide +kernel
theorem dX9_item_66 : decode cX9_item 66 = .ok (.iload_n 1, 1) := by decide +kernel
theorem dX9_item_67 : decode cX9_item 67 = .ok (.imul, 1) := by decide +kernel
theorem dX9_item_68 : decode cX9_item 68 = .ok (.iload_n 2, 1) := by decide +kernel
theorem dX9_item_69 : decode cX9_item 69 = .ok (.iadd, 1) := by decide +kernel
theorem dX9_item_70 : decode cX9_item 70 = .ok (.iaload, 1) := by decide +kernel
theorem dX9_item_71 : decode cX9_item 71 = .ok (.istore_n 3, 1) := by decide +kernel
theorem dX9_item_72 : decode cX9_item 72 = .ok (.iload_n 3, 1) := by decide +kernel
theorem dX9_item_73 : decode cX9_item 73 = .ok (.ldc 64, 2) := by decide +kernel
theorem dX9_item_75 : decode cX9_item 75 = .ok (.if_icmp .ne 8, 3) := by decide +kernel
theorem dX9_item_78 : decode cX9_item 78 = .ok (.ldc 119, 2) := by decide +kernel
theorem dX9_item_80 : decode cX9_item 80 = .ok (.goto 4, 3) := by decide +kernel
theorem dX9_item_83 : decode cX9_item 83 = .ok (.iload_n 3, 1) := by decide +kernel
theorem dX9_item_84 : decode cX9_item 84 = .ok (.ireturn, 1) := by decide +kernel
theorem dX9_rest_0 : decode cX9_rest 0 = .ok (.iload_n 1, 1) := by decide +kernel
theorem dX9_rest_1 : decode cX9_rest 1 = .ok (.invokestatic 299, 3) := by decide +kernel
theorem dX9_rest_4 : decode cX9_rest 4 = .ok (.ifCond .ne 6, 3) := by decide +kernel
theorem dX9_rest_7 : decode cX9_rest 7 = .ok (.ldc 98, 2) := by decide +kernel
theorem dX9_rest_9 : decode cX9_rest 9 = .ok (.ireturn, 1) := by decide +kernel
theorem dX9_rest_10 : decode cX9_rest 10 = .ok (.aload_n 0, 1) := by decide +kernel
theorem dX9_rest_11 : decode cX9_rest 11 = .ok (.getfield 28, 3) := by decide +kernel
theorem dX9_rest_14 : decode cX9_rest 14 = .ok (.iload_n 1, 1) := by decide +kernel
theorem dX9_rest_15 : decode cX9_rest 15 = .ok (.iaload, 1) := by decide +kernel
theorem dX9_rest_16 : decode cX9_rest 16 = .ok (.iconst 3, 1) := by decide +kernel
theorem dX9_rest_17 : decode cX9_rest 17 = .ok (.if_icmp .eq 21, 3) := by decide +kernel
theorem dX9_rest_20 : decode cX9_rest 20 = .ok (.aload_n 0, 1) := by decide +kernel
theorem dX9_rest_21 : decode cX9_rest 21 = .ok (.getfield 28, 3) := by decide +kernel
theorem dX9_rest_24 : decode cX9_rest 24 = .ok (.iload_n 1, 1) := by decide +kernel
theorem dX9_rest_25 : decode cX9_rest 25 = .ok (.iaload, 1) := by decide +kernel
theorem dX9_rest_26 : decode cX9_rest 26 = .ok (.ifCond .ne 9, 3) := by decide +kernel
theorem dX9_rest_29 : decode cX9_rest 29 = .ok (.ldc_w 291, 3) := by decide +kernel
theorem dX9_rest_32 : decode cX9_rest 32 = .ok (.goto 5, 3) := by decide +kernel
theorem dX9_rest_35 : decode cX9_rest 35 = .ok (.ldc 119, 2) := by decide +kernel
theorem dX9_rest_37 : decode cX9_rest 37 = .ok (.ireturn, 1) := by decide +kernel
theorem dX9_rest_38 : decode cX9_rest 38 = .ok (.iload_n 2, 1) := by decide +kernel
theorem dX9_rest_39 : decode cX9_rest 39 = .ok (.ifCond .ne 8, 3) := by decide +kernel
theorem dX9_rest_42 : decode cX9_rest 42 = .ok (.ldc 177, 2) := by decide +kernel
theorem dX9_rest_44 : decode cX9_rest 44 = .ok (.goto 11, 3) := by decide +kernel
theorem dX9_rest_47 : decode cX9_rest 47 = .ok (.aload_n 0, 1) := by decide +kernel
theorem dX9_rest_48 : decode cX9_rest 48 = .ok (.getfield 31, 3) := by decide +kernel
theorem dX9_rest_51 : decode cX9_rest 51 = .ok (.iload_n 1, 1) := by decide +kernel
theorem dX9_rest_52 : decode cX9_rest 52 = .ok (.iaload, 1) := by decide +kernel
theorem dX9_rest_53 : decode cX9_rest 53 = .ok (.iload_n 2, 1) := by decide +kernel
theorem dX9_rest_54 : decode cX9_rest 54 = .ok (.irem, 1) := by decide +kernel
theorem dX9_rest_55 : decode cX9_rest 55 = .ok (.ireturn, 1) := by decide +kernel
theorem dX9_tell_0 : decode cX9_tell 0 = .ok (.aload_n 0, 1) := by decide +kernel
theorem dX9_tell_1 : decode cX9_tell 1 = .ok (.getfield 302, 3) := by decide +kernel
theorem dX9_tell_4 : decode cX9_tell 4 = .ok (.bipush 60, 2) := by decide +kernel
theorem dX9_tell_6 : decode cX9_tell 6 = .ok (.if_icmp .ne 6, 3) := by decide +kernel
theorem dX9_tell_9 : decode cX9_tell 9 = .ok (.ldc 164, 2) := by decide +kernel
theorem dX9_tell_11 : decode cX9_tell 11 = .ok (.ireturn, 1) := by decide +kernel
theorem dX9_tell_12 : decode cX9_tell 12 = .ok (.aload_n 0, 1) := by decide +kernel
theorem dX9_tell_13 : decode cX9_tell 13 = .ok (.getfield 58, 3) := by decide +kernel
theorem dX9_tell_16 : decode cX9_tell 16 = .ok (.aload_n 0, 1) := by decide +kernel
theorem dX9_tell_17 : decode cX9_tell 17 = .ok (.getfield 302, 3) := by decide +kernel
theorem dX9_tell_20 : decode cX9_tell 20 = .ok (.iload_n 1, 1) := by decide +kernel
theorem dX9_tell_21 : decode cX9_tell 21 = .ok (.iastore, 1) := by decide +kernel
theorem dX9_tell_22 : decode cX9_tell 22 = .ok (.aload_n 0, 1) := by decide +kernel
theorem dX9_tell_23 : decode cX9_tell 23 = .ok (.dup, 1) := by decide +kernel
theorem dX9_tell_24 : decode cX9_tell 24 = .ok (.getfield 302, 3) := by decide +kernel
theorem dX9_tell_27 : decode cX9_tell 27 = .ok (.iconst 1, 1) := by decide +kernel
theorem dX9_tell_28 : decode cX9_tell 28 = .ok (.iadd, 1) := by decide +kernel
theorem dX9_tell_29 : decode cX9_tell 29 = .ok (.putfield 302, 3) := by decide +kernel
theorem dX9_tell_32 : decode cX9_tell 32 = .ok (.aload_n 0, 1) := by decide +kernel
theorem dX9_tell_33 : decode cX9_tell 33 = .ok (.getfield 302, 3) := by decide +kernel
theorem dX9_tell_36 : decode cX9_tell 36 = .ok (.ireturn, 1) := by decide +kernel
theorem dX9_setAside_0 : decode cX9_setAside 0 = .ok (.iconst 0, 1) := by decide +kernel
theorem dX9_setAside_1 : decode cX9_setAside 1 = .ok (.istore_n 3, 1) := by decide +kernel
theorem dX9_setAside_2 : decode cX9_setAside 2 = .ok (.iload_n 3, 1) := by decide +kernel
theorem dX9_setAside_3 : decode cX9_setAside 3 = .ok (.sipush 2947, 3) := by decide +kernel
theorem dX9_setAside_6 : decode cX9_setAside 6 = .ok (.if_icmp .ge 15, 3) := by decide +kernel
theorem dX9_setAside_9 : decode cX9_setAside 9 = .ok (.aload_n 2, 1) := by decide +kernel
theorem dX9_setAside_10 : decode cX9_setAside 10 = .ok (.iload_n 3, 1) := by decide +kernel
theorem dX9_setAside_11 : decode cX9_setAside 11 = .ok (.aload_n 1, 1) := by decide +kernel
theorem dX9_setAside_12 : decode cX9_setAside 12 = .ok (.iload_n 3, 1) := by decide +kernel
theorem dX9_setAside_13 : decode cX9_setAside 13 = .ok (.iaload, 1) := by decide +kernel
theorem dX9_setAside_14 : decode cX9_setAside 14 = .ok (.iastore, 1) := by decide +kernel
theorem dX9_setAside_15 : decode cX9_setAside 15 = .ok (.iinc 3 1, 3) := by decide +kernel
theorem dX9_setAside_18 : decode cX9_setAside 18 = .ok (.goto (-16), 3) := by decide +kernel
theorem dX9_setAside_21 : decode cX9_setAside 21 = .ok (.return_, 1) := by decide +kernel
theorem dX9_check_0 : decode cX9_check 0 = .ok (.aload_n 0, 1) := by decide +kernel
theorem dX9_check_1 : decode cX9_check 1 = .ok (.getfield 302, 3) := by decide +kernel
theorem dX9_check_4 : decode cX9_check 4 = .ok (.istore_n 2, 1) := by decide +kernel
theorem dX9_check_5 : decode cX9_check 5 = .ok (.aload_n 0, 1) := by decide +kernel
theorem dX9_check_6 : decode cX9_check 6 = .ok (.iconst 0, 1) := by decide +kernel
theorem dX9_check_7 : decode cX9_check 7 = .ok (.putfield 302, 3) := by decide +kernel
theorem dX9_check_10 : decode cX9_check 10 = .ok (.iload_n 1, 1) := by decide +kernel
theorem dX9_check_11 : decode cX9_check 11 = .ok (.i2l, 1) := by decide +kernel
theorem dX9_check_12 : decode cX9_check 12 = .ok (.lconst 1, 1) := by decide +kernel
theorem dX9_check_13 : decode cX9_check 13 = .ok (.ldc2_w 305, 3) := by decide +kernel
theorem dX9_check_16 : decode cX9_check 16 = .ok (.invokestatic 65, 3) := by decide +kernel
theorem dX9_check_19 : decode cX9_check 19 = .ok (.ifCond .ne 6, 3) := by decide +kernel
theorem dX9_check_22 : decode cX9_check 22 = .ok (.ldc 98, 2) := by decide +kernel
theorem dX9_check_24 : decode cX9_check 24 = .ok (.ireturn, 1) := by decide +kernel
theorem dX9_check_25 : decode cX9_check 25 = .ok (.aload_n 0, 1) := by decide +kernel
theorem dX9_check_26 : decode cX9_check 26 = .ok (.getfield 307, 3) := by decide +kernel
theorem dX9_check_29 : decode cX9_check 29 = .ok (.ifCond .ne 6, 3) := by decide +kernel
theorem dX9_check_32 : decode cX9_check 32 = .ok (.ldc 177, 2) := by decide +kernel
theorem dX9_check_34 : decode cX9_check 34 = .ok (.ireturn, 1) := by decide +kernel
theorem dX9_check_35 : decode cX9_check 35 = .ok (.aload_n 0, 1) := by decide +kernel
theorem dX9_check_36 : decode cX9_check 36 = .ok (.aload_n 0, 1) := by decide +kernel
theorem dX9_check_37 : decode cX9_check 37 = .ok (.getfield 7, 3) := by decide +kernel
theorem dX9_check_40 : decode cX9_check 40 = .ok (.aload_n 0, 1) := by decide +kernel
theorem dX9_check_41 : decode cX9_check 41 = .ok (.getfield 16, 3) := by decide +kernel
theorem dX9_check_44 : decode cX9_check 44 = .ok (.invokevirtual 311, 3) := by decide +kernel
theorem dX9_check_47 : decode cX9_check 47 = .ok (.aload_n 0, 1) := by decide +kernel
theorem dX9_check_48 : decode cX9_check 48 = .ok (.aload_n 0, 1) := by decide +kernel
theorem dX9_check_49 : decode cX9_check 49 = .ok (.getfield 13, 3) := by decide +kernel
theorem dX9_check_52 : decode cX9_check 52 = .ok (.aload_n 0, 1) := by decide +kernel
theorem dX9_check_53 : decode cX9_check 53 = .ok (.getfield 7, 3) := by decide +kernel
theorem dX9_check_56 : decode cX9_check 56 = .ok (.invokevirtual 311, 3) := by decide +kernel
theorem dX9_check_59 : decode cX9_check 59 = .ok (.iconst 0, 1) := by decide +kernel
theorem dX9_check_60 : decode cX9_check 60 = .ok (.istore_n 3, 1) := by decide +kernel
theorem dX9_check_61 : decode cX9_check 61 = .ok (.iconst 0, 1) := by decide +kernel
theorem dX9_check_62 : decode cX9_check 62 = .ok (.istore 4, 2) := by decide +kernel
theorem dX9_check_64 : decode cX9_check 64 = .ok (.iload 4, 2) := by decide +kernel
theorem dX9_check_66 : decode cX9_check 66 = .ok (.iload_n 1, 1) := by decide +kernel
theorem dX9_check_67 : decode cX9_check 67 = .ok (.if_icmp .ge 54, 3) := by decide +kernel
theorem dX9_check_70 : decode cX9_check 70 = .ok (.aload_n 0, 1) := by decide +kernel
theorem dX9_check_71 : decode cX9_check 71 = .ok (.getfield 7, 3) := by decide +kernel
theorem dX9_check_74 : decode cX9_check 74 = .ok (.iconst 2, 1) := by decide +kernel
theorem dX9_check_75 : decode cX9_check 75 = .ok (.iaload, 1) := by decide +kernel
theorem dX9_check_76 : decode cX9_check 76 = .ok (.sipush 9999, 3) := by decide +kernel
theorem dX9_check_79 : decode cX9_check 79 = .ok (.if_icmp .ge 42, 3) := by decide +kernel
theorem dX9_check_82 : decode cX9_check 82 = .ok (.aload_n 0, 1) := by decide +kernel
theorem dX9_check_83 : decode cX9_check 83 = .ok (.getfield 61, 3) := by decide +kernel
theorem dX9_check_86 : decode cX9_check 86 = .ok (.iload_n 3, 1) := by decide +kernel
theorem dX9_check_87 : decode cX9_check 87 = .ok (.aload_n 0, 1) := by decide +kernel
theorem dX9_check_88 : decode cX9_check 88 = .ok (.iconst 0, 1) := by decide +kernel
theorem dX9_check_89 : decode cX9_check 89 = .ok (.invokevirtual 131, 3) := by decide +kernel
theorem dX9_check_92 : decode cX9_check 92 = .ok (.invokestatic 134, 3) := by decide +kernel
theorem dX9_check_95 : decode cX9_check 95 = .ok (.iastore, 1) := by decide +kernel
theorem dX9_check_96 : decode cX9_check 96 = .ok (.aload_n 0, 1) := by decide +kernel
theorem dX9_check_97 : decode cX9_check 97 = .ok (.invokevirtual 181, 3) := by decide +kernel
theorem dX9_check_100 : decode cX9_check 100 = .ok (.aload_n 0, 1) := by decide +kernel
theorem dX9_check_101 : decode cX9_check 101 = .ok (.getfield 61, 3) := by decide +kernel
theorem dX9_check_104 : decode cX9_check 104 = .ok (.iload_n 3, 1) := by decide +kernel
theorem dX9_check_105 : decode cX9_check 105 = .ok (.iconst 1, 1) := by decide +kernel
theorem dX9_check_106 : decode cX9_check 106 = .ok (.iadd, 1) := by decide +kernel
theorem dX9_check_107 : decode cX9_check 107 = .ok (.aload_n 0, 1) := by decide +kernel
theorem dX9_check_108 : decode cX9_check 108 = .ok (.invokevirtual 315, 3) := by decide +kernel
theorem dX9_check_111 : decode cX9_check 111 = .ok (.iastore, 1) := by decide +kernel
theorem dX9_check_112 : decode cX9_check 112 = .ok (.iinc 3 2, 3) := by decide +kernel
theorem dX9_check_115 : decode cX9_check 115 = .ok (.iinc 4 1, 3) := by decide +kernel
theorem dX9_check_118 : decode cX9_check 118 = .ok (.goto (-54), 3) := by decide +kernel
theorem dX9_check_121 : decode cX9_check 121 = .ok (.aload_n 0, 1) := by decide +kernel
theorem dX9_check_122 : decode cX9_check 122 = .ok (.aload_n 0, 1) := by decide +kernel
theorem dX9_check_123 : decode cX9_check 123 = .ok (.getfield 16, 3) := by decide +kernel
theorem dX9_check_126 : decode cX9_check 126 = .ok (.aload_n 0, 1) := by decide +kernel
theorem dX9_check_127 : decode cX9_check 127 = .ok (.getfield 7, 3) := by decide +kernel
theorem dX9_check_130 : decode cX9_check 130 = .ok (.invokevirtual 311, 3) := by decide +kernel
theorem dX9_check_133 : decode cX9_check 133 = .ok (.iconst 0, 1) := by decide +kernel
theorem dX9_check_134 : decode cX9_check 134 = .ok (.istore 4, 2) := by decide +kernel
theorem dX9_check_136 : decode cX9_check 136 = .ok (.iload 4, 2) := by decide +kernel
theorem dX9_check_138 : decode cX9_check 138 = .ok (.iload_n 2, 1) := by decide +kernel
theorem dX9_check_139 : decode cX9_check 139 = .ok (.if_icmp .ge 32, 3) := by decide +kernel
theorem dX9_check_142 : decode cX9_check 142 = .ok (.iload 4, 2) := by decide +kernel
theorem dX9_check_144 : decode cX9_check 144 = .ok (.iload_n 3, 1) := by decide +kernel
theorem dX9_check_145 : decode cX9_check 145 = .ok (.if_icmp .ge 26, 3) := by decide +kernel
theorem dX9_check_148 : decode cX9_check 148 = .ok (.aload_n 0, 1) := by decide +kernel
theorem dX9_check_149 : decode cX9_check 149 = .ok (.getfield 58, 3) := by decide +kernel
theorem dX9_check_152 : decode cX9_check 152 = .ok (.iload 4, 2) := by decide +kernel
theorem dX9_check_154 : decode cX9_check 154 = .ok (.iaload, 1) := by decide +kernel
theorem dX9_check_155 : decode cX9_check 155 = .ok (.aload_n 0, 1) := by decide +kernel
theorem dX9_check_156 : decode cX9_check 156 = .ok (.getfield 61, 3) := by decide +kernel
theorem dX9_check_159 : decode cX9_check 159 = .ok (.iload 4, 2) := by decide +kernel
theorem dX9_check_161 : decode cX9_check 161 = .ok (.iaload, 1) := by decide +kernel
theorem dX9_check_162 : decode cX9_check 162 = .ok (.if_icmp .ne 9, 3) := by decide +kernel
theorem dX9_check_165 : decode cX9_check 165 = .ok (.iinc 4 1, 3) := by decide +kernel
theorem dX9_check_168 : decode cX9_check 168 = .ok (.goto (-32), 3) := by decide +kernel
theorem dX9_check_171 : decode cX9_check 171 = .ok (.iload 4, 2) := by decide +kernel
theorem dX9_check_173 : decode cX9_check 173 = .ok (.iload_n 2, 1) := by decide +kernel
theorem dX9_check_174 : decode cX9_check 174 = .ok (.if_icmp .ne 13, 3) := by decide +kernel
theorem dX9_check_177 : decode cX9_check 177 = .ok (.iload 4, 2) := by decide +kernel
theorem dX9_check_179 : decode cX9_check 179 = .ok (.iload_n 3, 1) := by decide +kernel
theorem dX9_check_180 : decode cX9_check 180 = .ok (.if_icmp .ne 7, 3) := by decide +kernel
theorem dX9_check_183 : decode cX9_check 183 = .ok (.iconst 0, 1) := by decide +kernel
theorem dX9_check_184 : decode cX9_check 184 = .ok (.goto 7, 3) := by decide +kernel
theorem dX9_check_187 : decode cX9_check 187 = .ok (.iconst 1, 1) := by decide +kernel
theorem dX9_check_188 : decode cX9_check 188 = .ok (.iload 4, 2) := by decide +kernel
theorem dX9_check_190 : decode cX9_check 190 = .ok (.iadd, 1) := by decide +kernel
theorem dX9_check_191 : decode cX9_check 191 = .ok (.ireturn, 1) := by decide +kernel
theorem dX9_keep_0 : decode cX9_keep 0 = .ok (.aload_n 0, 1) := by decide +kernel
theorem dX9_keep_1 : decode cX9_keep 1 = .ok (.iconst 1, 1) := by decide +kernel
theorem dX9_keep_2 : decode cX9_keep 2 = .ok (.putfield 307, 3) := by decide +kernel
theorem dX9_keep_5 : decode cX9_keep 5 = .ok (.aload_n 0, 1) := by decide +kernel
theorem dX9_keep_6 : decode cX9_keep 6 = .ok (.aload_n 0, 1) := by decide +kernel
theorem dX9_keep_7 : decode cX9_keep 7 = .ok (.getfield 7, 3) := by decide +kernel
theorem dX9_keep_10 : decode cX9_keep 10 = .ok (.aload_n 0, 1) := by decide +kernel
theorem dX9_keep_11 : decode cX9_keep 11 = .ok (.getfield 13, 3) := by decide +kernel
theorem dX9_keep_14 : decode cX9_keep 14 = .ok (.invokevirtual 311, 3) := by decide +kernel
theorem dX9_keep_17 : decode cX9_keep 17 = .ok (.aload_n 0, 1) := by decide +kernel
theorem dX9_keep_18 : decode cX9_keep 18 = .ok (.getfield 7, 3) := by decide +kernel
theorem dX9_keep_21 : decode cX9_keep 21 = .ok (.iconst 0, 1) := by decide +kernel
theorem dX9_keep_22 : decode cX9_keep 22 = .ok (.iaload, 1) := by decide +kernel
theorem dX9_keep_23 : decode cX9_keep 23 = .ok (.ireturn, 1) := by decide +kernel
theorem dX9_back_0 : decode cX9_back 0 = .ok (.aload_n 0, 1) := by decide +kernel
theorem dX9_back_1 : decode cX9_back 1 = .ok (.getfield 307, 3) := by decide +kernel
theorem dX9_back_4 : decode cX9_back 4 = .ok (.ifCond .ne 6, 3) := by decide +kernel
theorem dX9_back_7 : decode cX9_back 7 = .ok (.ldc 177, 2) := by decide +kernel
theorem dX9_back_9 : decode cX9_back 9 = .ok (.ireturn, 1) := by decide +kernel
theorem dX9_back_10 : decode cX9_back 10 = .ok (.aload_n 0, 1) := by decide +kernel
theorem dX9_back_11 : decode cX9_back 11 = .ok (.aload_n 0, 1) := by decide +kernel
theorem dX9_back_12 : decode cX9_back 12 = .ok (.getfield 13, 3) := by decide +kernel
theorem dX9_back_15 : decode cX9_back 15 = .ok (.aload_n 0, 1) := by decide +kernel
theorem dX9_back_16 : decode cX9_back 16 = .ok (.getfield 7, 3) := by decide +kernel
theorem dX9_back_19 : decode cX9_back 19 = .ok (.invokevirtual 311, 3) := by decide +kernel
theorem dX9_back_22 : decode cX9_back 22 = .ok (.aload_n 0, 1) := by decide +kernel
theorem dX9_back_23 : decode cX9_back 23 = .ok (.getfield 7, 3) := by decide +kernel
theorem dX9_back_26 : decode cX9_back 26 = .ok (.iconst 0, 1) := by decide +kernel
theorem dX9_back_27 : decode cX9_back 27 = .ok (.iaload, 1) := by decide +kernel
theorem dX9_back_28 : decode cX9_back 28 = .ok (.ireturn, 1) := by decide +kernel
theorem dX9_count_0 : decode cX9_count 0 = .ok (.iload_n 1, 1) := by decide +kernel
theorem dX9_count_1 : decode cX9_count 1 = .ok (.tableswitch 118 0 9 #[55, 62, 69, 74, 81, 89, 94, 101, 106, 111], 55) := by decide +kernel
theorem dX9_count_56 : decode cX9_count 56 = .ok (.aload_n 0, 1) := by decide +kernel
theorem dX9_count_57 : decode cX9_count 57 = .ok (.getfield 7, 3) := by decide +kernel
theorem dX9_count_60 : decode cX9_count 60 = .ok (.iconst 2, 1) := by decide +kernel
theorem dX9_count_61 : decode cX9_count 61 = .ok (.iaload, 1) := by decide +kernel
theorem dX9_count_62 : decode cX9_count 62 = .ok (.ireturn, 1) := by decide +kernel
theorem dX9_count_63 : decode cX9_count 63 = .ok (.aload_n 0, 1) := by decide +kernel
theorem dX9_count_64 : decode cX9_count 64 = .ok (.getfield 7, 3) := by decide +kernel
theorem dX9_count_67 : decode cX9_count 67 = .ok (.iconst 0, 1) := by decide +kernel
theorem dX9_count_68 : decode cX9_count 68 = .ok (.iaload, 1) := by decide +kernel
theorem dX9_count_69 : decode cX9_count 69 = .ok (.ireturn, 1) := by decide +kernel
theorem dX9_count_70 : decode cX9_count 70 = .ok (.aload_n 0, 1) := by decide +kernel
theorem dX9_count_71 : decode cX9_count 71 = .ok (.invokevirtual 315, 3) := by decide +kernel
theorem dX9_count_74 : decode cX9_count 74 = .ok (.ireturn, 1) := by decide +kernel
theorem dX9_count_75 : decode cX9_count 75 = .ok (.aload_n 0, 1) := by decide +kernel
theorem dX9_count_76 : decode cX9_count 76 = .ok (.getfield 7, 3) := by decide +kernel
theorem dX9_count_79 : decode cX9_count 79 = .ok (.iconst 3, 1) := by decide +kernel
theorem dX9_count_80 : decode cX9_count 80 = .ok (.iaload, 1) := by decide +kernel
theorem dX9_count_81 : decode cX9_count 81 = .ok (.ireturn, 1) := by decide +kernel
theorem dX9_count_82 : decode cX9_count 82 = .ok (.aload_n 0, 1) := by decide +kernel
theorem dX9_count_83 : decode cX9_count 83 = .ok (.getfield 7, 3) := by decide +kernel
theorem dX9_count_86 : decode cX9_count 86 = .ok (.bipush 8, 2) := by decide +kernel
theorem dX9_count_88 : decode cX9_count 88 = .ok (.iaload, 1) := by decide +kernel
theorem dX9_count_89 : decode cX9_count 89 = .ok (.ireturn, 1) := by decide +kernel
theorem dX9_count_90 : decode cX9_count 90 = .ok (.aload_n 0, 1) := by decide +kernel
theorem dX9_count_91 : decode cX9_count 91 = .ok (.invokevirtual 174, 3) := by decide +kernel
theorem dX9_count_94 : decode cX9_count 94 = .ok (.ireturn, 1) := by decide +kernel
theorem dX9_count_95 : decode cX9_count 95 = .ok (.aload_n 0, 1) := by decide +kernel
theorem dX9_count_96 : decode cX9_count 96 = .ok (.getfield 7, 3) := by decide +kernel
theorem dX9_count_99 : decode cX9_count 99 = .ok (.iconst 1, 1) := by decide +kernel
theorem dX9_count_100 : decode cX9_count 100 = .ok (.iaload, 1) := by decide +kernel
theorem dX9_count_101 : decode cX9_count 101 = .ok (.ireturn, 1) := by decide +kernel
theorem dX9_count_102 : decode cX9_count 102 = .ok (.aload_n 0, 1) := by decide +kernel
theorem dX9_count_103 : decode cX9_count 103 = .ok (.getfield 302, 3) := by decide +kernel
theorem dX9_count_106 : decode cX9_count 106 = .ok (.ireturn, 1) := by decide +kernel
theorem dX9_count_107 : decode cX9_count 107 = .ok (.aload_n 0, 1) := by decide +kernel
theorem dX9_count_108 : decode cX9_count 108 = .ok (.getfield 184, 3) := by decide +kernel
theorem dX9_count_111 : decode cX9_count 111 = .ok (.ireturn, 1) := by decide +kernel
theorem dX9_count_112 : decode cX9_count 112 = .ok (.aload_n 0, 1) := by decide +kernel
theorem dX9_count_113 : decode cX9_count 113 = .ok (.getfield 7, 3) := by decide +kernel
theorem dX9_count_116 : decode cX9_count 116 = .ok (.iconst 4, 1) := by decide +kernel
theorem dX9_count_117 : decode cX9_count 117 = .ok (.iaload, 1) := by decide +kernel
theorem dX9_count_118 : decode cX9_count 118 = .ok (.ireturn, 1) := by decide +kernel
theorem dX9_count_119 : decode cX9_count 119 = .ok (.ldc 98, 2) := by decide +kernel
theorem dX9_count_121 : decode cX9_count 121 = .ok (.ireturn, 1) := by decide +kernel
end
section
theorem dL_law_0 : decode cL_law 0 = .ok (.new 7, 3) := by decide +kernel
theorem dL_law_3 : decode cL_law 3 = .ok (.dup, 1) := by decide +kernel
theorem dL_law_4 : decode cL_law 4 = .ok (.invokespecial 9, 3) := by decide +kernel
theorem dL_law_7 : decode cL_law 7 = .ok (.astore_n 1, 1) := by decide +kernel
theorem dL_law_8 : decode cL_law 8 = .ok (.new 10, 3) := by decide +kernel
theorem dL_law_11 : decode cL_law 11 = .ok (.dup, 1) := by decide +kernel
theorem dL_law_12 : decode cL_law 12 = .ok (.invokespecial 12, 3) := by decide +kernel
theorem dL_law_15 : decode cL_law 15 = .ok (.astore_n 2, 1) := by decide +kernel
theorem dL_law_16 : decode cL_law 16 = .ok (.iconst 0, 1) := by decide +kernel
theorem dL_law_17 : decode cL_law 17 = .ok (.istore_n 3, 1) := by decide +kernel
theorem dL_law_18 : decode cL_law 18 = .ok (.iload_n 3, 1) := by decide +kernel
theorem dL_law_19 : decode cL_law 19 = .ok (.aload_n 0, 1) := by decide +kernel
theorem dL_law_20 : decode cL_law 20 = .ok (.arraylength, 1) := by decide +kernel
theorem dL_law_21 : decode cL_law 21 = .ok (.bipush 6, 2) := by decide +kernel
theorem dL_law_23 : decode cL_law 23 = .ok (.isub, 1) := by decide +kernel
theorem dL_law_24 : decode cL_law 24 = .ok (.if_icmp .gt 1390, 3) := by decide +kernel
theorem dL_law_27 : decode cL_law 27 = .ok (.aload_n 0, 1) := by decide +kernel
theorem dL_law_28 : decode cL_law 28 = .ok (.iload_n 3, 1) := by decide +kernel
theorem dL_law_29 : decode cL_law 29 = .ok (.iaload, 1) := by decide +kernel
theorem dL_law_30 : decode cL_law 30 = .ok (.bipush 63, 2) := by decide +kernel
theorem dL_law_32 : decode cL_law 32 = .ok (.iand, 1) := by decide +kernel
theorem dL_law_33 : decode cL_law 33 = .ok (.tableswitch 1375 0 39 #[175, 218, 251, 284, 317, 360, 393, 406, 429, 462, 495, 518, 551, 584, 607, 630, 663, 696, 719, 742, 775, 798, 841, 864, 877, 910, 933, 976, 1019, 1052, 1075, 1138, 1181, 1214, 1247, 1280, 1303, 1326, 1339, 1352], 175) := by decide +kernel
theorem dL_law_208 : decode cL_law 208 = .ok (.aload_n 1, 1) := by decide +kernel
theorem dL_law_209 : decode cL_law 209 = .ok (.aload_n 0, 1) := by decide +kernel
theorem dL_law_210 : decode cL_law 210 = .ok (.iload_n 3, 1) := by decide +kernel
theorem dL_law_211 : decode cL_law 211 = .ok (.iconst 1, 1) := by decide +kernel
theorem dL_law_212 : decode cL_law 212 = .ok (.iadd, 1) := by decide +kernel
theorem dL_law_213 : decode cL_law 213 = .ok (.iaload, 1) := by decide +kernel
theorem dL_law_214 : decode cL_law 214 = .ok (.aload_n 0, 1) := by decide +kernel
theorem dL_law_215 : decode cL_law 215 = .ok (.iload_n 3, 1) := by decide +kernel
theorem dL_law_216 : decode cL_law 216 = .ok (.iconst 2, 1) := by decide +kernel
theorem dL_law_217 : decode cL_law 217 = .ok (.iadd, 1) := by decide +kernel
theorem dL_law_218 : decode cL_law 218 = .ok (.iaload, 1) := by decide +kernel
theorem dL_law_219 : decode cL_law 219 = .ok (.aload_n 0, 1) := by decide +kernel
theorem dL_law_220 : decode cL_law 220 = .ok (.iload_n 3, 1) := by decide +kernel
theorem dL_law_221 : decode cL_law 221 = .ok (.iconst 3, 1) := by decide +kernel
theorem dL_law_222 : decode cL_law 222 = .ok (.iadd, 1) := by decide +kernel
theorem dL_law_223 : decode cL_law 223 = .ok (.iaload, 1) := by decide +kernel
theorem dL_law_224 : decode cL_law 224 = .ok (.invokevirtual 13, 3) := by decide +kernel
theorem dL_law_227 : decode cL_law 227 = .ok (.aload_n 2, 1) := by decide +kernel
theorem dL_law_228 : decode cL_law 228 = .ok (.aload_n 0, 1) := by decide +kernel
theorem dL_law_229 : decode cL_law 229 = .ok (.iload_n 3, 1) := by decide +kernel
theorem dL_law_230 : decode cL_law 230 = .ok (.iconst 1, 1) := by decide +kernel
theorem dL_law_231 : decode cL_law 231 = .ok (.iadd, 1) := by decide +kernel
theorem dL_law_232 : decode cL_law 232 = .ok (.iaload, 1) := by decide +kernel
theorem dL_law_233 : decode cL_law 233 = .ok (.aload_n 0, 1) := by decide +kernel
theorem dL_law_234 : decode cL_law 234 = .ok (.iload_n 3, 1) := by decide +kernel
theorem dL_law_235 : decode cL_law 235 = .ok (.iconst 2, 1) := by decide +kernel
theorem dL_law_236 : decode cL_law 236 = .ok (.iadd, 1) := by decide +kernel
theorem dL_law_237 : decode cL_law 237 = .ok (.iaload, 1) := by decide +kernel
theorem dL_law_238 : decode cL_law 238 = .ok (.aload_n 0, 1) := by decide +kernel
theorem dL_law_239 : decode cL_law 239 = .ok (.iload_n 3, 1) := by decide +kernel
theorem dL_law_240 : decode cL_law 240 = .ok (.iconst 3, 1) := by decide +kernel
theorem dL_law_241 : decode cL_law 241 = .ok (.iadd, 1) := by decide +kernel
theorem dL_law_242 : decode cL_law 242 = .ok (.iaload, 1) := by decide +kernel
theorem dL_law_243 : decode cL_law 243 = .ok (.invokevirtual 17, 3) := by decide +kernel
theorem dL_law_246 : decode cL_law 246 = .ok (.if_icmp .eq 1162, 3) := by decide +kernel
theorem dL_law_249 : decode cL_law 249 = .ok (.iconst 0, 1) := by decide +kernel
theorem dL_law_250 : decode cL_law 250 = .ok (.ireturn, 1) := by decide +kernel
theorem dL_law_251 : decode cL_law 251 = .ok (.aload_n 1, 1) := by decide +kernel
theorem dL_law_252 : decode cL_law 252 = .ok (.aload_n 0, 1) := by decide +kernel
theorem dL_law_253 : decode cL_law 253 = .ok (.iload_n 3, 1) := by decide +kernel
theorem dL_law_254 : decode cL_law 254 = .ok (.iconst 1, 1) := by decide +kernel
theorem dL_law_255 : decode cL_law 255 = .ok (.iadd, 1) := by decide +kernel
theorem dL_law_256 : decode cL_law 256 = .ok (.iaload, 1) := by decide +kernel
theorem dL_law_257 : decode cL_law 257 = .ok (.aload_n 0, 1) := by decide +kernel
theorem dL_law_258 : decode cL_law 258 = .ok (.iload_n 3, 1) := by decide +kernel
theorem dL_law_259 : decode cL_law 259 = .ok (.iconst 2, 1) := by decide +kernel
theorem dL_law_260 : decode cL_law 260 = .ok (.iadd, 1) := by decide +kernel
theorem dL_law_261 : decode cL_law 261 = .ok (.iaload, 1) := by decide +kernel
theorem dL_law_262 : decode cL_law 262 = .ok (.invokevirtual 18, 3) := by decide +kernel
theorem dL_law_265 : decode cL_law 265 = .ok (.aload_n 2, 1) := by decide +kernel
theorem dL_law_266 : decode cL_law 266 = .ok (.aload_n 0, 1) := by decide +kernel
theorem dL_law_267 : decode cL_law 267 = .ok (.iload_n 3, 1) := by decide +kernel
theorem dL_law_268 : decode cL_law 268 = .ok (.iconst 1, 1) := by decide +kernel
theorem dL_law_269 : decode cL_law 269 = .ok (.iadd, 1) := by decide +kernel
theorem dL_law_270 : decode cL_law 270 = .ok (.iaload, 1) := by decide +kernel
theorem dL_law_271 : decode cL_law 271 = .ok (.aload_n 0, 1) := by decide +kernel
theorem dL_law_272 : decode cL_law 272 = .ok (.iload_n 3, 1) := by decide +kernel
theorem dL_law_273 : decode cL_law 273 = .ok (.iconst 2, 1) := by decide +kernel
theorem dL_law_274 : decode cL_law 274 = .ok (.iadd, 1) := by decide +kernel
theorem dL_law_275 : decode cL_law 275 = .ok (.iaload, 1) := by decide +kernel
theorem dL_law_276 : decode cL_law 276 = .ok (.invokevirtual 22, 3) := by decide +kernel
theorem dL_law_279 : decode cL_law 279 = .ok (.if_icmp .eq 1129, 3) := by decide +kernel
theorem dL_law_282 : decode cL_law 282 = .ok (.iconst 0, 1) := by decide +kernel
theorem dL_law_283 : decode cL_law 283 = .ok (.ireturn, 1) := by decide +kernel
theorem dL_law_284 : decode cL_law 284 = .ok (.aload_n 1, 1) := by decide +kernel
theorem dL_law_285 : decode cL_law 285 = .ok (.aload_n 0, 1) := by decide +kernel
theorem dL_law_286 : decode cL_law 286 = .ok (.iload_n 3, 1) := by decide +kernel
theorem dL_law_287 : decode cL_law 287 = .ok (.iconst 1, 1) := by decide +kernel
theorem dL_law_288 : decode cL_law 288 = .ok (.iadd, 1) := by decide +kernel
theorem dL_law_289 : decode cL_law 289 = .ok (.iaload, 1) := by decide +kernel
theorem dL_law_290 : decode cL_law 290 = .ok (.aload_n 0, 1) := by decide +kernel
theorem dL_law_291 : decode cL_law 291 = .ok (.iload_n 3, 1) := by decide +kernel
theorem dL_law_292 : decode cL_law 292 = .ok (.iconst 2, 1) := by decide +kernel
theorem dL_law_293 : decode cL_law 293 = .ok (.iadd, 1) := by decide +kernel
theorem dL_law_294 : decode cL_law 294 = .ok (.iaload, 1) := by decide +kernel
theorem dL_law_295 : decode cL_law 295 = .ok (.invokevirtual 23, 3) := by decide +kernel
theorem dL_law_298 : decode cL_law 298 = .ok (.aload_n 2, 1) := by decide +kernel
theorem dL_law_299 : decode cL_law 299 = .ok (.aload_n 0, 1) := by decide +kernel
theorem dL_law_300 : decode cL_law 300 = .ok (.iload_n 3, 1) := by decide +kernel
theorem dL_law_301 : decode cL_law 301 = .ok (.iconst 1, 1) := by decide +kernel
theorem dL_law_302 : decode cL_law 302 = .ok (.iadd, 1) := by decide +kernel
theorem dL_law_303 : decode cL_law 303 = .ok (.iaload, 1) := by decide +kernel
theorem dL_law_304 : decode cL_law 304 = .ok (.aload_n 0, 1) := by decide +kernel
theorem dL_law_305 : decode cL_law 305 = .ok (.iload_n 3, 1) := by decide +kernel
theorem dL_law_306 : decode cL_law 306 = .ok (.iconst 2, 1) := by decide +kernel
theorem dL_law_307 : decode cL_law 307 = .ok (.iadd, 1) := by decide +kernel
theorem dL_law_308 : decode cL_law 308 = .ok (.iaload, 1) := by decide +kernel
theorem dL_law_309 : decode cL_law 309 = .ok (.invokevirtual 26, 3) := by decide +kernel
theorem dL_law_312 : decode cL_law 312 = .ok (.if_icmp .eq 1096, 3) := by decide +kernel
theorem dL_law_315 : decode cL_law 315 = .ok (.iconst 0, 1) := by decide +kernel
theorem dL_law_316 : decode cL_law 316 = .ok (.ireturn, 1) := by decide +kernel
theorem dL_law_317 : decode cL_law 317 = .ok (.aload_n 1, 1) := by decide +kernel
theorem dL_law_318 : decode cL_law 318 = .ok (.aload_n 0, 1) := by decide +kernel
theorem dL_law_319 : decode cL_law 319 = .ok (.iload_n 3, 1) := by decide +kernel
theorem dL_law_320 : decode cL_law 320 = .ok (.iconst 1, 1) := by decide +kernel
theorem dL_law_321 : decode cL_law 321 = .ok (.iadd, 1) := by decide +kernel
theorem dL_law_322 : decode cL_law 322 = .ok (.iaload, 1) := by decide +kernel
theorem dL_law_323 : decode cL_law 323 = .ok (.aload_n 0, 1) := by decide +kernel
theorem dL_law_324 : decode cL_law 324 = .ok (.iload_n 3, 1) := by decide +kernel
theorem dL_law_325 : decode cL_law 325 = .ok (.iconst 2, 1) := by decide +kernel
theorem dL_law_326 : decode cL_law 326 = .ok (.iadd, 1) := by decide +kernel
theorem dL_law_327 : decode cL_law 327 = .ok (.iaload, 1) := by decide +kernel
theorem dL_law_328 : decode cL_law 328 = .ok (.invokevirtual 27, 3) := by decide +kernel
theorem dL_law_331 : decode cL_law 331 = .ok (.aload_n 2, 1) := by decide +kernel
theorem dL_law_332 : decode cL_law 332 = .ok (.aload_n 0, 1) := by decide +kernel
theorem dL_law_333 : decode cL_law 333 = .ok (.iload_n 3, 1) := by decide +kernel
theorem dL_law_334 : decode cL_law 334 = .ok (.iconst 1, 1) := by decide +kernel
theorem dL_law_335 : decode cL_law 335 = .ok (.iadd, 1) := by decide +kernel
theorem dL_law_336 : decode cL_law 336 = .ok (.iaload, 1) := by decide +kernel
theorem dL_law_337 : decode cL_law 337 = .ok (.aload_n 0, 1) := by decide +kernel
theorem dL_law_338 : decode cL_law 338 = .ok (.iload_n 3, 1) := by decide +kernel
theorem dL_law_339 : decode cL_law 339 = .ok (.iconst 2, 1) := by decide +kernel
theorem dL_law_340 : decode cL_law 340 = .ok (.iadd, 1) := by decide +kernel
theorem dL_law_341 : decode cL_law 341 = .ok (.iaload, 1) := by decide +kernel
theorem dL_law_342 : decode cL_law 342 = .ok (.invokevirtual 30, 3) := by decide +kernel
theorem dL_law_345 : decode cL_law 345 = .ok (.if_icmp .eq 1063, 3) := by decide +kernel
theorem dL_law_348 : decode cL_law 348 = .ok (.iconst 0, 1) := by decide +kernel
theorem dL_law_349 : decode cL_law 349 = .ok (.ireturn, 1) := by decide +kernel
theorem dL_law_350 : decode cL_law 350 = .ok (.aload_n 1, 1) := by decide +kernel
theorem dL_law_351 : decode cL_law 351 = .ok (.aload_n 0, 1) := by decide +kernel
theorem dL_law_352 : decode cL_law 352 = .ok (.iload_n 3, 1) := by decide +kernel
theorem dL_law_353 : decode cL_law 353 = .ok (.iconst 1, 1) := by decide +kernel
theorem dL_law_354 : decode cL_law 354 = .ok (.iadd, 1) := by decide +kernel
theorem dL_law_355 : decode cL_law 355 = .ok (.iaload, 1) := by decide +kernel
theorem dL_law_356 : decode cL_law 356 = .ok (.aload_n 0, 1) := by decide +kernel
theorem dL_law_357 : decode cL_law 357 = .ok (.iload_n 3, 1) := by decide +kernel
theorem dL_law_358 : decode cL_law 358 = .ok (.iconst 2, 1) := by decide +kernel
theorem dL_law_359 : decode cL_law 359 = .ok (.iadd, 1) := by decide +kernel
theorem dL_law_360 : decode cL_law 360 = .ok (.iaload, 1) := by decide +kernel
theorem dL_law_361 : decode cL_law 361 = .ok (.aload_n 0, 1) := by decide +kernel
theorem dL_law_362 : decode cL_law 362 = .ok (.iload_n 3, 1) := by decide +kernel
theorem dL_law_363 : decode cL_law 363 = .ok (.iconst 3, 1) := by decide +kernel
theorem dL_law_364 : decode cL_law 364 = .ok (.iadd, 1) := by decide +kernel
theorem dL_law_365 : decode cL_law 365 = .ok (.iaload, 1) := by decide +kernel
theorem dL_law_366 : decode cL_law 366 = .ok (.invokevirtual 31, 3) := by decide +kernel
theorem dL_law_369 : decode cL_law 369 = .ok (.aload_n 2, 1) := by decide +kernel
theorem dL_law_370 : decode cL_law 370 = .ok (.aload_n 0, 1) := by decide +kernel
theorem dL_law_371 : decode cL_law 371 = .ok (.iload_n 3, 1) := by decide +kernel
theorem dL_law_372 : decode cL_law 372 = .ok (.iconst 1, 1) := by decide +kernel
theorem dL_law_373 : decode cL_law 373 = .ok (.iadd, 1) := by decide +kernel
theorem dL_law_374 : decode cL_law 374 = .ok (.iaload, 1) := by decide +kernel
theorem dL_law_375 : decode cL_law 375 = .ok (.aload_n 0, 1) := by decide +kernel
theorem dL_law_376 : decode cL_law 376 = .ok (.iload_n 3, 1) := by decide +kernel
theorem dL_law_377 : decode cL_law 377 = .ok (.iconst 2, 1) := by decide +kernel
theorem dL_law_378 : decode cL_law 378 = .ok (.iadd, 1) := by decide +kernel
theorem dL_law_379 : decode cL_law 379 = .ok (.iaload, 1) := by decide +kernel
theorem dL_law_380 : decode cL_law 380 = .ok (.aload_n 0, 1) := by decide +kernel
theorem dL_law_381 : decode cL_law 381 = .ok (.iload_n 3, 1) := by decide +kernel
theorem dL_law_382 : decode cL_law 382 = .ok (.iconst 3, 1) := by decide +kernel
theorem dL_law_383 : decode cL_law 383 = .ok (.iadd, 1) := by decide +kernel
theorem dL_law_384 : decode cL_law 384 = .ok (.iaload, 1) := by decide +kernel
theorem dL_law_385 : decode cL_law 385 = .ok (.invokevirtual 34, 3) := by decide +kernel
theorem dL_law_388 : decode cL_law 388 = .ok (.if_icmp .eq 1020, 3) := by decide +kernel
theorem dL_law_391 : decode cL_law 391 = .ok (.iconst 0, 1) := by decide +kernel
theorem dL_law_392 : decode cL_law 392 = .ok (.ireturn, 1) := by decide +kernel
theorem dL_law_393 : decode cL_law 393 = .ok (.aload_n 1, 1) := by decide +kernel
theorem dL_law_394 : decode cL_law 394 = .ok (.aload_n 0, 1) := by decide +kernel
theorem dL_law_395 : decode cL_law 395 = .ok (.iload_n 3, 1) := by decide +kernel
theorem dL_law_396 : decode cL_law 396 = .ok (.iconst 1, 1) := by decide +kernel
theorem dL_law_397 : decode cL_law 397 = .ok (.iadd, 1) := by decide +kernel
theorem dL_law_398 : decode cL_law 398 = .ok (.iaload, 1) := by decide +kernel
theorem dL_law_399 : decode cL_law 399 = .ok (.aload_n 0, 1) := by decide +kernel
theorem dL_law_400 : decode cL_law 400 = .ok (.iload_n 3, 1) := by decide +kernel
theorem dL_law_401 : decode cL_law 401 = .ok (.iconst 2, 1) := by decide +kernel
theorem dL_law_402 : decode cL_law 402 = .ok (.iadd, 1) := by decide +kernel
theorem dL_law_403 : decode cL_law 403 = .ok (.iaload, 1) := by decide +kernel
theorem dL_law_404 : decode cL_law 404 = .ok (.invokevirtual 35, 3) := by decide +kernel
theorem dL_law_407 : decode cL_law 407 = .ok (.aload_n 2, 1) := by decide +kernel
theorem dL_law_408 : decode cL_law 408 = .ok (.aload_n 0, 1) := by decide +kernel
theorem dL_law_409 : decode cL_law 409 = .ok (.iload_n 3, 1) := by decide +kernel
theorem dL_law_410 : decode cL_law 410 = .ok (.iconst 1, 1) := by decide +kernel
theorem dL_law_411 : decode cL_law 411 = .ok (.iadd, 1) := by decide +kernel
theorem dL_law_412 : decode cL_law 412 = .ok (.iaload, 1) := by decide +kernel
theorem dL_law_413 : decode cL_law 413 = .ok (.aload_n 0, 1) := by decide +kernel
theorem dL_law_414 : decode cL_law 414 = .ok (.iload_n 3, 1) := by decide +kernel
theorem dL_law_415 : decode cL_law 415 = .ok (.iconst 2, 1) := by decide +kernel
theorem dL_law_416 : decode cL_law 416 = .ok (.iadd, 1) := by decide +kernel
theorem dL_law_417 : decode cL_law 417 = .ok (.iaload, 1) := by decide +kernel
theorem dL_law_418 : decode cL_law 418 = .ok (.invokevirtual 38, 3) := by decide +kernel
theorem dL_law_421 : decode cL_law 421 = .ok (.if_icmp .eq 987, 3) := by decide +kernel
theorem dL_law_424 : decode cL_law 424 = .ok (.iconst 0, 1) := by decide +kernel
theorem dL_law_425 : decode cL_law 425 = .ok (.ireturn, 1) := by decide +kernel
theorem dL_law_426 : decode cL_law 426 = .ok (.aload_n 1, 1) := by decide +kernel
theorem dL_law_427 : decode cL_law 427 = .ok (.invokevirtual 39, 3) := by decide +kernel
theorem dL_law_430 : decode cL_law 430 = .ok (.aload_n 2, 1) := by decide +kernel
theorem dL_law_431 : decode cL_law 431 = .ok (.invokevirtual 43, 3) := by decide +kernel
theorem dL_law_434 : decode cL_law 434 = .ok (.if_icmp .eq 974, 3) := by decide +kernel
theorem dL_law_437 : decode cL_law 437 = .ok (.iconst 0, 1) := by decide +kernel
theorem dL_law_438 : decode cL_law 438 = .ok (.ireturn, 1) := by decide +kernel
theorem dL_law_439 : decode cL_law 439 = .ok (.aload_n 1, 1) := by decide +kernel
theorem dL_law_440 : decode cL_law 440 = .ok (.aload_n 0, 1) := by decide +kernel
theorem dL_law_441 : decode cL_law 441 = .ok (.iload_n 3, 1) := by decide +kernel
theorem dL_law_442 : decode cL_law 442 = .ok (.iconst 1, 1) := by decide +kernel
theorem dL_law_443 : decode cL_law 443 = .ok (.iadd, 1) := by decide +kernel
theorem dL_law_444 : decode cL_law 444 = .ok (.iaload, 1) := by decide +kernel
theorem dL_law_445 : decode cL_law 445 = .ok (.invokevirtual 44, 3) := by decide +kernel
theorem dL_law_448 : decode cL_law 448 = .ok (.aload_n 2, 1) := by decide +kernel
theorem dL_law_449 : decode cL_law 449 = .ok (.aload_n 0, 1) := by decide +kernel
theorem dL_law_450 : decode cL_law 450 = .ok (.iload_n 3, 1) := by decide +kernel
theorem dL_law_451 : decode cL_law 451 = .ok (.iconst 1, 1) := by decide +kernel
theorem dL_law_452 : decode cL_law 452 = .ok (.iadd, 1) := by decide +kernel
theorem dL_law_453 : decode cL_law 453 = .ok (.iaload, 1) := by decide +kernel
theorem dL_law_454 : decode cL_law 454 = .ok (.invokevirtual 48, 3) := by decide +kernel
theorem dL_law_457 : decode cL_law 457 = .ok (.if_icmp .eq 951, 3) := by decide +kernel
theorem dL_law_460 : decode cL_law 460 = .ok (.iconst 0, 1) := by decide +kernel
theorem dL_law_461 : decode cL_law 461 = .ok (.ireturn, 1) := by decide +kernel
theorem dL_law_462 : decode cL_law 462 = .ok (.aload_n 1, 1) := by decide +kernel
theorem dL_law_463 : decode cL_law 463 = .ok (.aload_n 0, 1) := by decide +kernel
theorem dL_law_464 : decode cL_law 464 = .ok (.iload_n 3, 1) := by decide +kernel
theorem dL_law_465 : decode cL_law 465 = .ok (.iconst 1, 1) := by decide +kernel
theorem dL_law_466 : decode cL_law 466 = .ok (.iadd, 1) := by decide +kernel
theorem dL_law_467 : decode cL_law 467 = .ok (.iaload, 1) := by decide +kernel
theorem dL_law_468 : decode cL_law 468 = .ok (.aload_n 0, 1) := by decide +kernel
theorem dL_law_469 : decode cL_law 469 = .ok (.iload_n 3, 1) := by decide +kernel
theorem dL_law_470 : decode cL_law 470 = .ok (.iconst 2, 1) := by decide +kernel
theorem dL_law_471 : decode cL_law 471 = .ok (.iadd, 1) := by decide +kernel
theorem dL_law_472 : decode cL_law 472 = .ok (.iaload, 1) := by decide +kernel
theorem dL_law_473 : decode cL_law 473 = .ok (.invokevirtual 49, 3) := by decide +kernel
theorem dL_law_476 : decode cL_law 476 = .ok (.aload_n 2, 1) := by decide +kernel
theorem dL_law_477 : decode cL_law 477 = .ok (.aload_n 0, 1) := by decide +kernel
theorem dL_law_478 : decode cL_law 478 = .ok (.iload_n 3, 1) := by decide +kernel
theorem dL_law_479 : decode cL_law 479 = .ok (.iconst 1, 1) := by decide +kernel
theorem dL_law_480 : decode cL_law 480 = .ok (.iadd, 1) := by decide +kernel
theorem dL_law_481 : decode cL_law 481 = .ok (.iaload, 1) := by decide +kernel
theorem dL_law_482 : decode cL_law 482 = .ok (.aload_n 0, 1) := by decide +kernel
theorem dL_law_483 : decode cL_law 483 = .ok (.iload_n 3, 1) := by decide +kernel
theorem dL_law_484 : decode cL_law 484 = .ok (.iconst 2, 1) := by decide +kernel
theorem dL_law_485 : decode cL_law 485 = .ok (.iadd, 1) := by decide +kernel
theorem dL_law_486 : decode cL_law 486 = .ok (.iaload, 1) := by decide +kernel
theorem dL_law_487 : decode cL_law 487 = .ok (.invokevirtual 52, 3) := by decide +kernel
theorem dL_law_490 : decode cL_law 490 = .ok (.if_icmp .eq 918, 3) := by decide +kernel
theorem dL_law_493 : decode cL_law 493 = .ok (.iconst 0, 1) := by decide +kernel
theorem dL_law_494 : decode cL_law 494 = .ok (.ireturn, 1) := by decide +kernel
theorem dL_law_495 : decode cL_law 495 = .ok (.aload_n 1, 1) := by decide +kernel
theorem dL_law_496 : decode cL_law 496 = .ok (.aload_n 0, 1) := by decide +kernel
theorem dL_law_497 : decode cL_law 497 = .ok (.iload_n 3, 1) := by decide +kernel
theorem dL_law_498 : decode cL_law 498 = .ok (.iconst 1, 1) := by decide +kernel
theorem dL_law_499 : decode cL_law 499 = .ok (.iadd, 1) := by decide +kernel
theorem dL_law_500 : decode cL_law 500 = .ok (.iaload, 1) := by decide +kernel
theorem dL_law_501 : decode cL_law 501 = .ok (.aload_n 0, 1) := by decide +kernel
theorem dL_law_502 : decode cL_law 502 = .ok (.iload_n 3, 1) := by decide +kernel
theorem dL_law_503 : decode cL_law 503 = .ok (.iconst 2, 1) := by decide +kernel
theorem dL_law_504 : decode cL_law 504 = .ok (.iadd, 1) := by decide +kernel
theorem dL_law_505 : decode cL_law 505 = .ok (.iaload, 1) := by decide +kernel
theorem dL_law_506 : decode cL_law 506 = .ok (.invokevirtual 53, 3) := by decide +kernel
theorem dL_law_509 : decode cL_law 509 = .ok (.aload_n 2, 1) := by decide +kernel
theorem dL_law_510 : decode cL_law 510 = .ok (.aload_n 0, 1) := by decide +kernel
theorem dL_law_511 : decode cL_law 511 = .ok (.iload_n 3, 1) := by decide +kernel
theorem dL_law_512 : decode cL_law 512 = .ok (.iconst 1, 1) := by decide +kernel
theorem dL_law_513 : decode cL_law 513 = .ok (.iadd, 1) := by decide +kernel
theorem dL_law_514 : decode cL_law 514 = .ok (.iaload, 1) := by decide +kernel
theorem dL_law_515 : decode cL_law 515 = .ok (.aload_n 0, 1) := by decide +kernel
theorem dL_law_516 : decode cL_law 516 = .ok (.iload_n 3, 1) := by decide +kernel
theorem dL_law_517 : decode cL_law 517 = .ok (.iconst 2, 1) := by decide +kernel
theorem dL_law_518 : decode cL_law 518 = .ok (.iadd, 1) := by decide +kernel
theorem dL_law_519 : decode cL_law 519 = .ok (.iaload, 1) := by decide +kernel
theorem dL_law_520 : decode cL_law 520 = .ok (.invokevirtual 56, 3) := by decide +kernel
theorem dL_law_523 : decode cL_law 523 = .ok (.if_icmp .eq 885, 3) := by decide +kernel
theorem dL_law_526 : decode cL_law 526 = .ok (.iconst 0, 1) := by decide +kernel
theorem dL_law_527 : decode cL_law 527 = .ok (.ireturn, 1) := by decide +kernel
theorem dL_law_528 : decode cL_law 528 = .ok (.aload_n 1, 1) := by decide +kernel
theorem dL_law_529 : decode cL_law 529 = .ok (.aload_n 0, 1) := by decide +kernel
theorem dL_law_530 : decode cL_law 530 = .ok (.iload_n 3, 1) := by decide +kernel
theorem dL_law_531 : decode cL_law 531 = .ok (.iconst 1, 1) := by decide +kernel
theorem dL_law_532 : decode cL_law 532 = .ok (.iadd, 1) := by decide +kernel
theorem dL_law_533 : decode cL_law 533 = .ok (.iaload, 1) := by decide +kernel
theorem dL_law_534 : decode cL_law 534 = .ok (.invokevirtual 57, 3) := by decide +kernel
theorem dL_law_537 : decode cL_law 537 = .ok (.aload_n 2, 1) := by decide +kernel
theorem dL_law_538 : decode cL_law 538 = .ok (.aload_n 0, 1) := by decide +kernel
theorem dL_law_539 : decode cL_law 539 = .ok (.iload_n 3, 1) := by decide +kernel
theorem dL_law_540 : decode cL_law 540 = .ok (.iconst 1, 1) := by decide +kernel
theorem dL_law_541 : decode cL_law 541 = .ok (.iadd, 1) := by decide +kernel
theorem dL_law_542 : decode cL_law 542 = .ok (.iaload, 1) := by decide +kernel
theorem dL_law_543 : decode cL_law 543 = .ok (.invokevirtual 60, 3) := by decide +kernel
theorem dL_law_546 : decode cL_law 546 = .ok (.if_icmp .eq 862, 3) := by decide +kernel
theorem dL_law_549 : decode cL_law 549 = .ok (.iconst 0, 1) := by decide +kernel
theorem dL_law_550 : decode cL_law 550 = .ok (.ireturn, 1) := by decide +kernel
theorem dL_law_551 : decode cL_law 551 = .ok (.aload_n 1, 1) := by decide +kernel
theorem dL_law_552 : decode cL_law 552 = .ok (.aload_n 0, 1) := by decide +kernel
theorem dL_law_553 : decode cL_law 553 = .ok (.iload_n 3, 1) := by decide +kernel
theorem dL_law_554 : decode cL_law 554 = .ok (.iconst 1, 1) := by decide +kernel
theorem dL_law_555 : decode cL_law 555 = .ok (.iadd, 1) := by decide +kernel
theorem dL_law_556 : decode cL_law 556 = .ok (.iaload, 1) := by decide +kernel
theorem dL_law_557 : decode cL_law 557 = .ok (.aload_n 0, 1) := by decide +kernel
theorem dL_law_558 : decode cL_law 558 = .ok (.iload_n 3, 1) := by decide +kernel
theorem dL_law_559 : decode cL_law 559 = .ok (.iconst 2, 1) := by decide +kernel
theorem dL_law_560 : decode cL_law 560 = .ok (.iadd, 1) := by decide +kernel
theorem dL_law_561 : decode cL_law 561 = .ok (.iaload, 1) := by decide +kernel
theorem dL_law_562 : decode cL_law 562 = .ok (.invokevirtual 61, 3) := by decide +kernel
theorem dL_law_565 : decode cL_law 565 = .ok (.aload_n 2, 1) := by decide +kernel
theorem dL_law_566 : decode cL_law 566 = .ok (.aload_n 0, 1) := by decide +kernel
theorem dL_law_567 : decode cL_law 567 = .ok (.iload_n 3, 1) := by decide +kernel
theorem dL_law_568 : decode cL_law 568 = .ok (.iconst 1, 1) := by decide +kernel
theorem dL_law_569 : decode cL_law 569 = .ok (.iadd, 1) := by decide +kernel
theorem dL_law_570 : decode cL_law 570 = .ok (.iaload, 1) := by decide +kernel
theorem dL_law_571 : decode cL_law 571 = .ok (.aload_n 0, 1) := by decide +kernel
theorem dL_law_572 : decode cL_law 572 = .ok (.iload_n 3, 1) := by decide +kernel
theorem dL_law_573 : decode cL_law 573 = .ok (.iconst 2, 1) := by decide +kernel
theorem dL_law_574 : decode cL_law 574 = .ok (.iadd, 1) := by decide +kernel
theorem dL_law_575 : decode cL_law 575 = .ok (.iaload, 1) := by decide +kernel
theorem dL_law_576 : decode cL_law 576 = .ok (.invokevirtual 64, 3) := by decide +kernel
theorem dL_law_579 : decode cL_law 579 = .ok (.if_icmp .eq 829, 3) := by decide +kernel
theorem dL_law_582 : decode cL_law 582 = .ok (.iconst 0, 1) := by decide +kernel
theorem dL_law_583 : decode cL_law 583 = .ok (.ireturn, 1) := by decide +kernel
theorem dL_law_584 : decode cL_law 584 = .ok (.aload_n 1, 1) := by decide +kernel
theorem dL_law_585 : decode cL_law 585 = .ok (.aload_n 0, 1) := by decide +kernel
theorem dL_law_586 : decode cL_law 586 = .ok (.iload_n 3, 1) := by decide +kernel
theorem dL_law_587 : decode cL_law 587 = .ok (.iconst 1, 1) := by decide +kernel
theorem dL_law_588 : decode cL_law 588 = .ok (.iadd, 1) := by decide +kernel
theorem dL_law_589 : decode cL_law 589 = .ok (.iaload, 1) := by decide +kernel
theorem dL_law_590 : decode cL_law 590 = .ok (.aload_n 0, 1) := by decide +kernel
theorem dL_law_591 : decode cL_law 591 = .ok (.iload_n 3, 1) := by decide +kernel
theorem dL_law_592 : decode cL_law 592 = .ok (.iconst 2, 1) := by decide +kernel
theorem dL_law_593 : decode cL_law 593 = .ok (.iadd, 1) := by decide +kernel
theorem dL_law_594 : decode cL_law 594 = .ok (.iaload, 1) := by decide +kernel
theorem dL_law_595 : decode cL_law 595 = .ok (.invokevirtual 65, 3) := by decide +kernel
theorem dL_law_598 : decode cL_law 598 = .ok (.aload_n 2, 1) := by decide +kernel
theorem dL_law_599 : decode cL_law 599 = .ok (.aload_n 0, 1) := by decide +kernel
theorem dL_law_600 : decode cL_law 600 = .ok (.iload_n 3, 1) := by decide +kernel
theorem dL_law_601 : decode cL_law 601 = .ok (.iconst 1, 1) := by decide +kernel
theorem dL_law_602 : decode cL_law 602 = .ok (.iadd, 1) := by decide +kernel
theorem dL_law_603 : decode cL_law 603 = .ok (.iaload, 1) := by decide +kernel
theorem dL_law_604 : decode cL_law 604 = .ok (.aload_n 0, 1) := by decide +kernel
theorem dL_law_605 : decode cL_law 605 = .ok (.iload_n 3, 1) := by decide +kernel
theorem dL_law_606 : decode cL_law 606 = .ok (.iconst 2, 1) := by decide +kernel
theorem dL_law_607 : decode cL_law 607 = .ok (.iadd, 1) := by decide +kernel
theorem dL_law_608 : decode cL_law 608 = .ok (.iaload, 1) := by decide +kernel
theorem dL_law_609 : decode cL_law 609 = .ok (.invokevirtual 68, 3) := by decide +kernel
theorem dL_law_612 : decode cL_law 612 = .ok (.if_icmp .eq 796, 3) := by decide +kernel
theorem dL_law_615 : decode cL_law 615 = .ok (.iconst 0, 1) := by decide +kernel
theorem dL_law_616 : decode cL_law 616 = .ok (.ireturn, 1) := by decide +kernel
theorem dL_law_617 : decode cL_law 617 = .ok (.aload_n 1, 1) := by decide +kernel
theorem dL_law_618 : decode cL_law 618 = .ok (.aload_n 0, 1) := by decide +kernel
theorem dL_law_619 : decode cL_law 619 = .ok (.iload_n 3, 1) := by decide +kernel
theorem dL_law_620 : decode cL_law 620 = .ok (.iconst 1, 1) := by decide +kernel
theorem dL_law_621 : decode cL_law 621 = .ok (.iadd, 1) := by decide +kernel
theorem dL_law_622 : decode cL_law 622 = .ok (.iaload, 1) := by decide +kernel
theorem dL_law_623 : decode cL_law 623 = .ok (.invokevirtual 69, 3) := by decide +kernel
theorem dL_law_626 : decode cL_law 626 = .ok (.aload_n 2, 1) := by decide +kernel
theorem dL_law_627 : decode cL_law 627 = .ok (.aload_n 0, 1) := by decide +kernel
theorem dL_law_628 : decode cL_law 628 = .ok (.iload_n 3, 1) := by decide +kernel
theorem dL_law_629 : decode cL_law 629 = .ok (.iconst 1, 1) := by decide +kernel
theorem dL_law_630 : decode cL_law 630 = .ok (.iadd, 1) := by decide +kernel
theorem dL_law_631 : decode cL_law 631 = .ok (.iaload, 1) := by decide +kernel
theorem dL_law_632 : decode cL_law 632 = .ok (.invokevirtual 72, 3) := by decide +kernel
theorem dL_law_635 : decode cL_law 635 = .ok (.if_icmp .eq 773, 3) := by decide +kernel
theorem dL_law_638 : decode cL_law 638 = .ok (.iconst 0, 1) := by decide +kernel
theorem dL_law_639 : decode cL_law 639 = .ok (.ireturn, 1) := by decide +kernel
theorem dL_law_640 : decode cL_law 640 = .ok (.aload_n 1, 1) := by decide +kernel
theorem dL_law_641 : decode cL_law 641 = .ok (.aload_n 0, 1) := by decide +kernel
theorem dL_law_642 : decode cL_law 642 = .ok (.iload_n 3, 1) := by decide +kernel
theorem dL_law_643 : decode cL_law 643 = .ok (.iconst 1, 1) := by decide +kernel
theorem dL_law_644 : decode cL_law 644 = .ok (.iadd, 1) := by decide +kernel
theorem dL_law_645 : decode cL_law 645 = .ok (.iaload, 1) := by decide +kernel
theorem dL_law_646 : decode cL_law 646 = .ok (.invokevirtual 73, 3) := by decide +kernel
theorem dL_law_649 : decode cL_law 649 = .ok (.aload_n 2, 1) := by decide +kernel
theorem dL_law_650 : decode cL_law 650 = .ok (.aload_n 0, 1) := by decide +kernel
theorem dL_law_651 : decode cL_law 651 = .ok (.iload_n 3, 1) := by decide +kernel
theorem dL_law_652 : decode cL_law 652 = .ok (.iconst 1, 1) := by decide +kernel
theorem dL_law_653 : decode cL_law 653 = .ok (.iadd, 1) := by decide +kernel
theorem dL_law_654 : decode cL_law 654 = .ok (.iaload, 1) := by decide +kernel
theorem dL_law_655 : decode cL_law 655 = .ok (.invokevirtual 76, 3) := by decide +kernel
theorem dL_law_658 : decode cL_law 658 = .ok (.if_icmp .eq 750, 3) := by decide +kernel
theorem dL_law_661 : decode cL_law 661 = .ok (.iconst 0, 1) := by decide +kernel
theorem dL_law_662 : decode cL_law 662 = .ok (.ireturn, 1) := by decide +kernel
theorem dL_law_663 : decode cL_law 663 = .ok (.aload_n 1, 1) := by decide +kernel
theorem dL_law_664 : decode cL_law 664 = .ok (.aload_n 0, 1) := by decide +kernel
theorem dL_law_665 : decode cL_law 665 = .ok (.iload_n 3, 1) := by decide +kernel
theorem dL_law_666 : decode cL_law 666 = .ok (.iconst 1, 1) := by decide +kernel
theorem dL_law_667 : decode cL_law 667 = .ok (.iadd, 1) := by decide +kernel
theorem dL_law_668 : decode cL_law 668 = .ok (.iaload, 1) := by decide +kernel
theorem dL_law_669 : decode cL_law 669 = .ok (.aload_n 0, 1) := by decide +kernel
theorem dL_law_670 : decode cL_law 670 = .ok (.iload_n 3, 1) := by decide +kernel
theorem dL_law_671 : decode cL_law 671 = .ok (.iconst 2, 1) := by decide +kernel
theorem dL_law_672 : decode cL_law 672 = .ok (.iadd, 1) := by decide +kernel
theorem dL_law_673 : decode cL_law 673 = .ok (.iaload, 1) := by decide +kernel
theorem dL_law_674 : decode cL_law 674 = .ok (.invokevirtual 77, 3) := by decide +kernel
theorem dL_law_677 : decode cL_law 677 = .ok (.aload_n 2, 1) := by decide +kernel
theorem dL_law_678 : decode cL_law 678 = .ok (.aload_n 0, 1) := by decide +kernel
theorem dL_law_679 : decode cL_law 679 = .ok (.iload_n 3, 1) := by decide +kernel
theorem dL_law_680 : decode cL_law 680 = .ok (.iconst 1, 1) := by decide +kernel
theorem dL_law_681 : decode cL_law 681 = .ok (.iadd, 1) := by decide +kernel
theorem dL_law_682 : decode cL_law 682 = .ok (.iaload, 1) := by decide +kernel
theorem dL_law_683 : decode cL_law 683 = .ok (.aload_n 0, 1) := by decide +kernel
theorem dL_law_684 : decode cL_law 684 = .ok (.iload_n 3, 1) := by decide +kernel
theorem dL_law_685 : decode cL_law 685 = .ok (.iconst 2, 1) := by decide +kernel
theorem dL_law_686 : decode cL_law 686 = .ok (.iadd, 1) := by decide +kernel
theorem dL_law_687 : decode cL_law 687 = .ok (.iaload, 1) := by decide +kernel
theorem dL_law_688 : decode cL_law 688 = .ok (.invokevirtual 80, 3) := by decide +kernel
theorem dL_law_691 : decode cL_law 691 = .ok (.if_icmp .eq 717, 3) := by decide +kernel
theorem dL_law_694 : decode cL_law 694 = .ok (.iconst 0, 1) := by decide +kernel
theorem dL_law_695 : decode cL_law 695 = .ok (.ireturn, 1) := by decide +kernel
theorem dL_law_696 : decode cL_law 696 = .ok (.aload_n 1, 1) := by decide +kernel
theorem dL_law_697 : decode cL_law 697 = .ok (.aload_n 0, 1) := by decide +kernel
theorem dL_law_698 : decode cL_law 698 = .ok (.iload_n 3, 1) := by decide +kernel
theorem dL_law_699 : decode cL_law 699 = .ok (.iconst 1, 1) := by decide +kernel
theorem dL_law_700 : decode cL_law 700 = .ok (.iadd, 1) := by decide +kernel
theorem dL_law_701 : decode cL_law 701 = .ok (.iaload, 1) := by decide +kernel
theorem dL_law_702 : decode cL_law 702 = .ok (.aload_n 0, 1) := by decide +kernel
theorem dL_law_703 : decode cL_law 703 = .ok (.iload_n 3, 1) := by decide +kernel
theorem dL_law_704 : decode cL_law 704 = .ok (.iconst 2, 1) := by decide +kernel
theorem dL_law_705 : decode cL_law 705 = .ok (.iadd, 1) := by decide +kernel
theorem dL_law_706 : decode cL_law 706 = .ok (.iaload, 1) := by decide +kernel
theorem dL_law_707 : decode cL_law 707 = .ok (.invokevirtual 81, 3) := by decide +kernel
theorem dL_law_710 : decode cL_law 710 = .ok (.aload_n 2, 1) := by decide +kernel
theorem dL_law_711 : decode cL_law 711 = .ok (.aload_n 0, 1) := by decide +kernel
theorem dL_law_712 : decode cL_law 712 = .ok (.iload_n 3, 1) := by decide +kernel
theorem dL_law_713 : decode cL_law 713 = .ok (.iconst 1, 1) := by decide +kernel
theorem dL_law_714 : decode cL_law 714 = .ok (.iadd, 1) := by decide +kernel
theorem dL_law_715 : decode cL_law 715 = .ok (.iaload, 1) := by decide +kernel
theorem dL_law_716 : decode cL_law 716 = .ok (.aload_n 0, 1) := by decide +kernel
theorem dL_law_717 : decode cL_law 717 = .ok (.iload_n 3, 1) := by decide +kernel
theorem dL_law_718 : decode cL_law 718 = .ok (.iconst 2, 1) := by decide +kernel
theorem dL_law_719 : decode cL_law 719 = .ok (.iadd, 1) := by decide +kernel
theorem dL_law_720 : decode cL_law 720 = .ok (.iaload, 1) := by decide +kernel
theorem dL_law_721 : decode cL_law 721 = .ok (.invokevirtual 84, 3) := by decide +kernel
theorem dL_law_724 : decode cL_law 724 = .ok (.if_icmp .eq 684, 3) := by decide +kernel
theorem dL_law_727 : decode cL_law 727 = .ok (.iconst 0, 1) := by decide +kernel
theorem dL_law_728 : decode cL_law 728 = .ok (.ireturn, 1) := by decide +kernel
theorem dL_law_729 : decode cL_law 729 = .ok (.aload_n 1, 1) := by decide +kernel
theorem dL_law_730 : decode cL_law 730 = .ok (.aload_n 0, 1) := by decide +kernel
theorem dL_law_731 : decode cL_law 731 = .ok (.iload_n 3, 1) := by decide +kernel
theorem dL_law_732 : decode cL_law 732 = .ok (.iconst 1, 1) := by decide +kernel
theorem dL_law_733 : decode cL_law 733 = .ok (.iadd, 1) := by decide +kernel
theorem dL_law_734 : decode cL_law 734 = .ok (.iaload, 1) := by decide +kernel
theorem dL_law_735 : decode cL_law 735 = .ok (.invokevirtual 85, 3) := by decide +kernel
theorem dL_law_738 : decode cL_law 738 = .ok (.aload_n 2, 1) := by decide +kernel
theorem dL_law_739 : decode cL_law 739 = .ok (.aload_n 0, 1) := by decide +kernel
theorem dL_law_740 : decode cL_law 740 = .ok (.iload_n 3, 1) := by decide +kernel
theorem dL_law_741 : decode cL_law 741 = .ok (.iconst 1, 1) := by decide +kernel
theorem dL_law_742 : decode cL_law 742 = .ok (.iadd, 1) := by decide +kernel
theorem dL_law_743 : decode cL_law 743 = .ok (.iaload, 1) := by decide +kernel
theorem dL_law_744 : decode cL_law 744 = .ok (.invokevirtual 88, 3) := by decide +kernel
theorem dL_law_747 : decode cL_law 747 = .ok (.if_icmp .eq 661, 3) := by decide +kernel
theorem dL_law_750 : decode cL_law 750 = .ok (.iconst 0, 1) := by decide +kernel
theorem dL_law_751 : decode cL_law 751 = .ok (.ireturn, 1) := by decide +kernel
theorem dL_law_752 : decode cL_law 752 = .ok (.aload_n 1, 1) := by decide +kernel
theorem dL_law_753 : decode cL_law 753 = .ok (.aload_n 0, 1) := by decide +kernel
theorem dL_law_754 : decode cL_law 754 = .ok (.iload_n 3, 1) := by decide +kernel
theorem dL_law_755 : decode cL_law 755 = .ok (.iconst 1, 1) := by decide +kernel
theorem dL_law_756 : decode cL_law 756 = .ok (.iadd, 1) := by decide +kernel
theorem dL_law_757 : decode cL_law 757 = .ok (.iaload, 1) := by decide +kernel
theorem dL_law_758 : decode cL_law 758 = .ok (.invokevirtual 89, 3) := by decide +kernel
theorem dL_law_761 : decode cL_law 761 = .ok (.aload_n 2, 1) := by decide +kernel
theorem dL_law_762 : decode cL_law 762 = .ok (.aload_n 0, 1) := by decide +kernel
theorem dL_law_763 : decode cL_law 763 = .ok (.iload_n 3, 1) := by decide +kernel
theorem dL_law_764 : decode cL_law 764 = .ok (.iconst 1, 1) := by decide +kernel
theorem dL_law_765 : decode cL_law 765 = .ok (.iadd, 1) := by decide +kernel
theorem dL_law_766 : decode cL_law 766 = .ok (.iaload, 1) := by decide +kernel
theorem dL_law_767 : decode cL_law 767 = .ok (.invokevirtual 92, 3) := by decide +kernel
theorem dL_law_770 : decode cL_law 770 = .ok (.if_icmp .eq 638, 3) := by decide +kernel
theorem dL_law_773 : decode cL_law 773 = .ok (.iconst 0, 1) := by decide +kernel
theorem dL_law_774 : decode cL_law 774 = .ok (.ireturn, 1) := by decide +kernel
theorem dL_law_775 : decode cL_law 775 = .ok (.aload_n 1, 1) := by decide +kernel
theorem dL_law_776 : decode cL_law 776 = .ok (.aload_n 0, 1) := by decide +kernel
theorem dL_law_777 : decode cL_law 777 = .ok (.iload_n 3, 1) := by decide +kernel
theorem dL_law_778 : decode cL_law 778 = .ok (.iconst 1, 1) := by decide +kernel
theorem dL_law_779 : decode cL_law 779 = .ok (.iadd, 1) := by decide +kernel
theorem dL_law_780 : decode cL_law 780 = .ok (.iaload, 1) := by decide +kernel
theorem dL_law_781 : decode cL_law 781 = .ok (.aload_n 0, 1) := by decide +kernel
theorem dL_law_782 : decode cL_law 782 = .ok (.iload_n 3, 1) := by decide +kernel
theorem dL_law_783 : decode cL_law 783 = .ok (.iconst 2, 1) := by decide +kernel
theorem dL_law_784 : decode cL_law 784 = .ok (.iadd, 1) := by decide +kernel
theorem dL_law_785 : decode cL_law 785 = .ok (.iaload, 1) := by decide +kernel
theorem dL_law_786 : decode cL_law 786 = .ok (.invokevirtual 93, 3) := by decide +kernel
theorem dL_law_789 : decode cL_law 789 = .ok (.aload_n 2, 1) := by decide +kernel
theorem dL_law_790 : decode cL_law 790 = .ok (.aload_n 0, 1) := by decide +kernel
theorem dL_law_791 : decode cL_law 791 = .ok (.iload_n 3, 1) := by decide +kernel
theorem dL_law_792 : decode cL_law 792 = .ok (.iconst 1, 1) := by decide +kernel
theorem dL_law_793 : decode cL_law 793 = .ok (.iadd, 1) := by decide +kernel
theorem dL_law_794 : decode cL_law 794 = .ok (.iaload, 1) := by decide +kernel
theorem dL_law_795 : decode cL_law 795 = .ok (.aload_n 0, 1) := by decide +kernel
theorem dL_law_796 : decode cL_law 796 = .ok (.iload_n 3, 1) := by decide +kernel
theorem dL_law_797 : decode cL_law 797 = .ok (.iconst 2, 1) := by decide +kernel
theorem dL_law_798 : decode cL_law 798 = .ok (.iadd, 1) := by decide +kernel
theorem dL_law_799 : decode cL_law 799 = .ok (.iaload, 1) := by decide +kernel
theorem dL_law_800 : decode cL_law 800 = .ok (.invokevirtual 96, 3) := by decide +kernel
theorem dL_law_803 : decode cL_law 803 = .ok (.if_icmp .eq 605, 3) := by decide +kernel
theorem dL_law_806 : decode cL_law 806 = .ok (.iconst 0, 1) := by decide +kernel
theorem dL_law_807 : decode cL_law 807 = .ok (.ireturn, 1) := by decide +kernel
theorem dL_law_808 : decode cL_law 808 = .ok (.aload_n 1, 1) := by decide +kernel
theorem dL_law_809 : decode cL_law 809 = .ok (.aload_n 0, 1) := by decide +kernel
theorem dL_law_810 : decode cL_law 810 = .ok (.iload_n 3, 1) := by decide +kernel
theorem dL_law_811 : decode cL_law 811 = .ok (.iconst 1, 1) := by decide +kernel
theorem dL_law_812 : decode cL_law 812 = .ok (.iadd, 1) := by decide +kernel
theorem dL_law_813 : decode cL_law 813 = .ok (.iaload, 1) := by decide +kernel
theorem dL_law_814 : decode cL_law 814 = .ok (.invokevirtual 97, 3) := by decide +kernel
theorem dL_law_817 : decode cL_law 817 = .ok (.aload_n 2, 1) := by decide +kernel
theorem dL_law_818 : decode cL_law 818 = .ok (.aload_n 0, 1) := by decide +kernel
theorem dL_law_819 : decode cL_law 819 = .ok (.iload_n 3, 1) := by decide +kernel
theorem dL_law_820 : decode cL_law 820 = .ok (.iconst 1, 1) := by decide +kernel
theorem dL_law_821 : decode cL_law 821 = .ok (.iadd, 1) := by decide +kernel
theorem dL_law_822 : decode cL_law 822 = .ok (.iaload, 1) := by decide +kernel
theorem dL_law_823 : decode cL_law 823 = .ok (.invokevirtual 100, 3) := by decide +kernel
theorem dL_law_826 : decode cL_law 826 = .ok (.if_icmp .eq 582, 3) := by decide +kernel
theorem dL_law_829 : decode cL_law 829 = .ok (.iconst 0, 1) := by decide +kernel
theorem dL_law_830 : decode cL_law 830 = .ok (.ireturn, 1) := by decide +kernel
theorem dL_law_831 : decode cL_law 831 = .ok (.aload_n 1, 1) := by decide +kernel
theorem dL_law_832 : decode cL_law 832 = .ok (.aload_n 0, 1) := by decide +kernel
theorem dL_law_833 : decode cL_law 833 = .ok (.iload_n 3, 1) := by decide +kernel
theorem dL_law_834 : decode cL_law 834 = .ok (.iconst 1, 1) := by decide +kernel
theorem dL_law_835 : decode cL_law 835 = .ok (.iadd, 1) := by decide +kernel
theorem dL_law_836 : decode cL_law 836 = .ok (.iaload, 1) := by decide +kernel
theorem dL_law_837 : decode cL_law 837 = .ok (.aload_n 0, 1) := by decide +kernel
theorem dL_law_838 : decode cL_law 838 = .ok (.iload_n 3, 1) := by decide +kernel
theorem dL_law_839 : decode cL_law 839 = .ok (.iconst 2, 1) := by decide +kernel
theorem dL_law_840 : decode cL_law 840 = .ok (.iadd, 1) := by decide +kernel
theorem dL_law_841 : decode cL_law 841 = .ok (.iaload, 1) := by decide +kernel
theorem dL_law_842 : decode cL_law 842 = .ok (.aload_n 0, 1) := by decide +kernel
theorem dL_law_843 : decode cL_law 843 = .ok (.iload_n 3, 1) := by decide +kernel
theorem dL_law_844 : decode cL_law 844 = .ok (.iconst 3, 1) := by decide +kernel
theorem dL_law_845 : decode cL_law 845 = .ok (.iadd, 1) := by decide +kernel
theorem dL_law_846 : decode cL_law 846 = .ok (.iaload, 1) := by decide +kernel
theorem dL_law_847 : decode cL_law 847 = .ok (.invokevirtual 101, 3) := by decide +kernel
theorem dL_law_850 : decode cL_law 850 = .ok (.aload_n 2, 1) := by decide +kernel
theorem dL_law_851 : decode cL_law 851 = .ok (.aload_n 0, 1) := by decide +kernel
theorem dL_law_852 : decode cL_law 852 = .ok (.iload_n 3, 1) := by decide +kernel
theorem dL_law_853 : decode cL_law 853 = .ok (.iconst 1, 1) := by decide +kernel
theorem dL_law_854 : decode cL_law 854 = .ok (.iadd, 1) := by decide +kernel
theorem dL_law_855 : decode cL_law 855 = .ok (.iaload, 1) := by decide +kernel
theorem dL_law_856 : decode cL_law 856 = .ok (.aload_n 0, 1) := by decide +kernel
theorem dL_law_857 : decode cL_law 857 = .ok (.iload_n 3, 1) := by decide +kernel
theorem dL_law_858 : decode cL_law 858 = .ok (.iconst 2, 1) := by decide +kernel
theorem dL_law_859 : decode cL_law 859 = .ok (.iadd, 1) := by decide +kernel
theorem dL_law_860 : decode cL_law 860 = .ok (.iaload, 1) := by decide +kernel
theorem dL_law_861 : decode cL_law 861 = .ok (.aload_n 0, 1) := by decide +kernel
theorem dL_law_862 : decode cL_law 862 = .ok (.iload_n 3, 1) := by decide +kernel
theorem dL_law_863 : decode cL_law 863 = .ok (.iconst 3, 1) := by decide +kernel
theorem dL_law_864 : decode cL_law 864 = .ok (.iadd, 1) := by decide +kernel
theorem dL_law_865 : decode cL_law 865 = .ok (.iaload, 1) := by decide +kernel
theorem dL_law_866 : decode cL_law 866 = .ok (.invokevirtual 104, 3) := by decide +kernel
theorem dL_law_869 : decode cL_law 869 = .ok (.if_icmp .eq 539, 3) := by decide +kernel
theorem dL_law_872 : decode cL_law 872 = .ok (.iconst 0, 1) := by decide +kernel
theorem dL_law_873 : decode cL_law 873 = .ok (.ireturn, 1) := by decide +kernel
theorem dL_law_874 : decode cL_law 874 = .ok (.aload_n 1, 1) := by decide +kernel
theorem dL_law_875 : decode cL_law 875 = .ok (.aload_n 0, 1) := by decide +kernel
theorem dL_law_876 : decode cL_law 876 = .ok (.iload_n 3, 1) := by decide +kernel
theorem dL_law_877 : decode cL_law 877 = .ok (.iconst 1, 1) := by decide +kernel
theorem dL_law_878 : decode cL_law 878 = .ok (.iadd, 1) := by decide +kernel
theorem dL_law_879 : decode cL_law 879 = .ok (.iaload, 1) := by decide +kernel
theorem dL_law_880 : decode cL_law 880 = .ok (.invokevirtual 105, 3) := by decide +kernel
theorem dL_law_883 : decode cL_law 883 = .ok (.aload_n 2, 1) := by decide +kernel
theorem dL_law_884 : decode cL_law 884 = .ok (.aload_n 0, 1) := by decide +kernel
theorem dL_law_885 : decode cL_law 885 = .ok (.iload_n 3, 1) := by decide +kernel
theorem dL_law_886 : decode cL_law 886 = .ok (.iconst 1, 1) := by decide +kernel
theorem dL_law_887 : decode cL_law 887 = .ok (.iadd, 1) := by decide +kernel
theorem dL_law_888 : decode cL_law 888 = .ok (.iaload, 1) := by decide +kernel
theorem dL_law_889 : decode cL_law 889 = .ok (.invokevirtual 108, 3) := by decide +kernel
theorem dL_law_892 : decode cL_law 892 = .ok (.if_icmp .eq 516, 3) := by decide +kernel
theorem dL_law_895 : decode cL_law 895 = .ok (.iconst 0, 1) := by decide +kernel
theorem dL_law_896 : decode cL_law 896 = .ok (.ireturn, 1) := by decide +kernel
theorem dL_law_897 : decode cL_law 897 = .ok (.aload_n 1, 1) := by decide +kernel
theorem dL_law_898 : decode cL_law 898 = .ok (.invokevirtual 109, 3) := by decide +kernel
theorem dL_law_901 : decode cL_law 901 = .ok (.aload_n 2, 1) := by decide +kernel
theorem dL_law_902 : decode cL_law 902 = .ok (.invokevirtual 112, 3) := by decide +kernel
theorem dL_law_905 : decode cL_law 905 = .ok (.if_icmp .eq 503, 3) := by decide +kernel
theorem dL_law_908 : decode cL_law 908 = .ok (.iconst 0, 1) := by decide +kernel
theorem dL_law_909 : decode cL_law 909 = .ok (.ireturn, 1) := by decide +kernel
theorem dL_law_910 : decode cL_law 910 = .ok (.aload_n 1, 1) := by decide +kernel
theorem dL_law_911 : decode cL_law 911 = .ok (.aload_n 0, 1) := by decide +kernel
theorem dL_law_912 : decode cL_law 912 = .ok (.iload_n 3, 1) := by decide +kernel
theorem dL_law_913 : decode cL_law 913 = .ok (.iconst 1, 1) := by decide +kernel
theorem dL_law_914 : decode cL_law 914 = .ok (.iadd, 1) := by decide +kernel
theorem dL_law_915 : decode cL_law 915 = .ok (.iaload, 1) := by decide +kernel
theorem dL_law_916 : decode cL_law 916 = .ok (.aload_n 0, 1) := by decide +kernel
theorem dL_law_917 : decode cL_law 917 = .ok (.iload_n 3, 1) := by decide +kernel
theorem dL_law_918 : decode cL_law 918 = .ok (.iconst 2, 1) := by decide +kernel
theorem dL_law_919 : decode cL_law 919 = .ok (.iadd, 1) := by decide +kernel
theorem dL_law_920 : decode cL_law 920 = .ok (.iaload, 1) := by decide +kernel
theorem dL_law_921 : decode cL_law 921 = .ok (.invokevirtual 113, 3) := by decide +kernel
theorem dL_law_924 : decode cL_law 924 = .ok (.aload_n 2, 1) := by decide +kernel
theorem dL_law_925 : decode cL_law 925 = .ok (.aload_n 0, 1) := by decide +kernel
theorem dL_law_926 : decode cL_law 926 = .ok (.iload_n 3, 1) := by decide +kernel
theorem dL_law_927 : decode cL_law 927 = .ok (.iconst 1, 1) := by decide +kernel
theorem dL_law_928 : decode cL_law 928 = .ok (.iadd, 1) := by decide +kernel
theorem dL_law_929 : decode cL_law 929 = .ok (.iaload, 1) := by decide +kernel
theorem dL_law_930 : decode cL_law 930 = .ok (.aload_n 0, 1) := by decide +kernel
theorem dL_law_931 : decode cL_law 931 = .ok (.iload_n 3, 1) := by decide +kernel
theorem dL_law_932 : decode cL_law 932 = .ok (.iconst 2, 1) := by decide +kernel
theorem dL_law_933 : decode cL_law 933 = .ok (.iadd, 1) := by decide +kernel
theorem dL_law_934 : decode cL_law 934 = .ok (.iaload, 1) := by decide +kernel
theorem dL_law_935 : decode cL_law 935 = .ok (.invokevirtual 116, 3) := by decide +kernel
theorem dL_law_938 : decode cL_law 938 = .ok (.if_icmp .eq 470, 3) := by decide +kernel
theorem dL_law_941 : decode cL_law 941 = .ok (.iconst 0, 1) := by decide +kernel
theorem dL_law_942 : decode cL_law 942 = .ok (.ireturn, 1) := by decide +kernel
theorem dL_law_943 : decode cL_law 943 = .ok (.aload_n 1, 1) := by decide +kernel
theorem dL_law_944 : decode cL_law 944 = .ok (.aload_n 0, 1) := by decide +kernel
theorem dL_law_945 : decode cL_law 945 = .ok (.iload_n 3, 1) := by decide +kernel
theorem dL_law_946 : decode cL_law 946 = .ok (.iconst 1, 1) := by decide +kernel
theorem dL_law_947 : decode cL_law 947 = .ok (.iadd, 1) := by decide +kernel
theorem dL_law_948 : decode cL_law 948 = .ok (.iaload, 1) := by decide +kernel
theorem dL_law_949 : decode cL_law 949 = .ok (.invokevirtual 117, 3) := by decide +kernel
theorem dL_law_952 : decode cL_law 952 = .ok (.aload_n 2, 1) := by decide +kernel
theorem dL_law_953 : decode cL_law 953 = .ok (.aload_n 0, 1) := by decide +kernel
theorem dL_law_954 : decode cL_law 954 = .ok (.iload_n 3, 1) := by decide +kernel
theorem dL_law_955 : decode cL_law 955 = .ok (.iconst 1, 1) := by decide +kernel
theorem dL_law_956 : decode cL_law 956 = .ok (.iadd, 1) := by decide +kernel
theorem dL_law_957 : decode cL_law 957 = .ok (.iaload, 1) := by decide +kernel
theorem dL_law_958 : decode cL_law 958 = .ok (.invokevirtual 120, 3) := by decide +kernel
theorem dL_law_961 : decode cL_law 961 = .ok (.if_icmp .eq 447, 3) := by decide +kernel
theorem dL_law_964 : decode cL_law 964 = .ok (.iconst 0, 1) := by decide +kernel
theorem dL_law_965 : decode cL_law 965 = .ok (.ireturn, 1) := by decide +kernel
theorem dL_law_966 : decode cL_law 966 = .ok (.aload_n 1, 1) := by decide +kernel
theorem dL_law_967 : decode cL_law 967 = .ok (.aload_n 0, 1) := by decide +kernel
theorem dL_law_968 : decode cL_law 968 = .ok (.iload_n 3, 1) := by decide +kernel
theorem dL_law_969 : decode cL_law 969 = .ok (.iconst 1, 1) := by decide +kernel
theorem dL_law_970 : decode cL_law 970 = .ok (.iadd, 1) := by decide +kernel
theorem dL_law_971 : decode cL_law 971 = .ok (.iaload, 1) := by decide +kernel
theorem dL_law_972 : decode cL_law 972 = .ok (.aload_n 0, 1) := by decide +kernel
theorem dL_law_973 : decode cL_law 973 = .ok (.iload_n 3, 1) := by decide +kernel
theorem dL_law_974 : decode cL_law 974 = .ok (.iconst 2, 1) := by decide +kernel
theorem dL_law_975 : decode cL_law 975 = .ok (.iadd, 1) := by decide +kernel
theorem dL_law_976 : decode cL_law 976 = .ok (.iaload, 1) := by decide +kernel
theorem dL_law_977 : decode cL_law 977 = .ok (.aload_n 0, 1) := by decide +kernel
theorem dL_law_978 : decode cL_law 978 = .ok (.iload_n 3, 1) := by decide +kernel
theorem dL_law_979 : decode cL_law 979 = .ok (.iconst 3, 1) := by decide +kernel
theorem dL_law_980 : decode cL_law 980 = .ok (.iadd, 1) := by decide +kernel
theorem dL_law_981 : decode cL_law 981 = .ok (.iaload, 1) := by decide +kernel
theorem dL_law_982 : decode cL_law 982 = .ok (.invokevirtual 121, 3) := by decide +kernel
theorem dL_law_985 : decode cL_law 985 = .ok (.aload_n 2, 1) := by decide +kernel
theorem dL_law_986 : decode cL_law 986 = .ok (.aload_n 0, 1) := by decide +kernel
theorem dL_law_987 : decode cL_law 987 = .ok (.iload_n 3, 1) := by decide +kernel
theorem dL_law_988 : decode cL_law 988 = .ok (.iconst 1, 1) := by decide +kernel
theorem dL_law_989 : decode cL_law 989 = .ok (.iadd, 1) := by decide +kernel
theorem dL_law_990 : decode cL_law 990 = .ok (.iaload, 1) := by decide +kernel
theorem dL_law_991 : decode cL_law 991 = .ok (.aload_n 0, 1) := by decide +kernel
theorem dL_law_992 : decode cL_law 992 = .ok (.iload_n 3, 1) := by decide +kernel
theorem dL_law_993 : decode cL_law 993 = .ok (.iconst 2, 1) := by decide +kernel
theorem dL_law_994 : decode cL_law 994 = .ok (.iadd, 1) := by decide +kernel
theorem dL_law_995 : decode cL_law 995 = .ok (.iaload, 1) := by decide +kernel
theorem dL_law_996 : decode cL_law 996 = .ok (.aload_n 0, 1) := by decide +kernel
theorem dL_law_997 : decode cL_law 997 = .ok (.iload_n 3, 1) := by decide +kernel
theorem dL_law_998 : decode cL_law 998 = .ok (.iconst 3, 1) := by decide +kernel
theorem dL_law_999 : decode cL_law 999 = .ok (.iadd, 1) := by decide +kernel
theorem dL_law_1000 : decode cL_law 1000 = .ok (.iaload, 1) := by decide +kernel
theorem dL_law_1001 : decode cL_law 1001 = .ok (.invokevirtual 124, 3) := by decide +kernel
theorem dL_law_1004 : decode cL_law 1004 = .ok (.if_icmp .eq 404, 3) := by decide +kernel
theorem dL_law_1007 : decode cL_law 1007 = .ok (.iconst 0, 1) := by decide +kernel
theorem dL_law_1008 : decode cL_law 1008 = .ok (.ireturn, 1) := by decide +kernel
theorem dL_law_1009 : decode cL_law 1009 = .ok (.aload_n 1, 1) := by decide +kernel
theorem dL_law_1010 : decode cL_law 1010 = .ok (.aload_n 0, 1) := by decide +kernel
theorem dL_law_1011 : decode cL_law 1011 = .ok (.iload_n 3, 1) := by decide +kernel
theorem dL_law_1012 : decode cL_law 1012 = .ok (.iconst 1, 1) := by decide +kernel
theorem dL_law_1013 : decode cL_law 1013 = .ok (.iadd, 1) := by decide +kernel
theorem dL_law_1014 : decode cL_law 1014 = .ok (.iaload, 1) := by decide +kernel
theorem dL_law_1015 : decode cL_law 1015 = .ok (.aload_n 0, 1) := by decide +kernel
theorem dL_law_1016 : decode cL_law 1016 = .ok (.iload_n 3, 1) := by decide +kernel
theorem dL_law_1017 : decode cL_law 1017 = .ok (.iconst 2, 1) := by decide +kernel
theorem dL_law_1018 : decode cL_law 1018 = .ok (.iadd, 1) := by decide +kernel
theorem dL_law_1019 : decode cL_law 1019 = .ok (.iaload, 1) := by decide +kernel
theorem dL_law_1020 : decode cL_law 1020 = .ok (.aload_n 0, 1) := by decide +kernel
theorem dL_law_1021 : decode cL_law 1021 = .ok (.iload_n 3, 1) := by decide +kernel
theorem dL_law_1022 : decode cL_law 1022 = .ok (.iconst 3, 1) := by decide +kernel
theorem dL_law_1023 : decode cL_law 1023 = .ok (.iadd, 1) := by decide +kernel
theorem dL_law_1024 : decode cL_law 1024 = .ok (.iaload, 1) := by decide +kernel
theorem dL_law_1025 : decode cL_law 1025 = .ok (.invokevirtual 125, 3) := by decide +kernel
theorem dL_law_1028 : decode cL_law 1028 = .ok (.aload_n 2, 1) := by decide +kernel
theorem dL_law_1029 : decode cL_law 1029 = .ok (.aload_n 0, 1) := by decide +kernel
theorem dL_law_1030 : decode cL_law 1030 = .ok (.iload_n 3, 1) := by decide +kernel
theorem dL_law_1031 : decode cL_law 1031 = .ok (.iconst 1, 1) := by decide +kernel
theorem dL_law_1032 : decode cL_law 1032 = .ok (.iadd, 1) := by decide +kernel
theorem dL_law_1033 : decode cL_law 1033 = .ok (.iaload, 1) := by decide +kernel
theorem dL_law_1034 : decode cL_law 1034 = .ok (.aload_n 0, 1) := by decide +kernel
theorem dL_law_1035 : decode cL_law 1035 = .ok (.iload_n 3, 1) := by decide +kernel
theorem dL_law_1036 : decode cL_law 1036 = .ok (.iconst 2, 1) := by decide +kernel
theorem dL_law_1037 : decode cL_law 1037 = .ok (.iadd, 1) := by decide +kernel
theorem dL_law_1038 : decode cL_law 1038 = .ok (.iaload, 1) := by decide +kernel
theorem dL_law_1039 : decode cL_law 1039 = .ok (.aload_n 0, 1) := by decide +kernel
theorem dL_law_1040 : decode cL_law 1040 = .ok (.iload_n 3, 1) := by decide +kernel
theorem dL_law_1041 : decode cL_law 1041 = .ok (.iconst 3, 1) := by decide +kernel
theorem dL_law_1042 : decode cL_law 1042 = .ok (.iadd, 1) := by decide +kernel
theorem dL_law_1043 : decode cL_law 1043 = .ok (.iaload, 1) := by decide +kernel
theorem dL_law_1044 : decode cL_law 1044 = .ok (.invokevirtual 128, 3) := by decide +kernel
theorem dL_law_1047 : decode cL_law 1047 = .ok (.if_icmp .eq 361, 3) := by decide +kernel
theorem dL_law_1050 : decode cL_law 1050 = .ok (.iconst 0, 1) := by decide +kernel
theorem dL_law_1051 : decode cL_law 1051 = .ok (.ireturn, 1) := by decide +kernel
theorem dL_law_1052 : decode cL_law 1052 = .ok (.aload_n 1, 1) := by decide +kernel
theorem dL_law_1053 : decode cL_law 1053 = .ok (.aload_n 0, 1) := by decide +kernel
theorem dL_law_1054 : decode cL_law 1054 = .ok (.iload_n 3, 1) := by decide +kernel
theorem dL_law_1055 : decode cL_law 1055 = .ok (.iconst 1, 1) := by decide +kernel
theorem dL_law_1056 : decode cL_law 1056 = .ok (.iadd, 1) := by decide +kernel
theorem dL_law_1057 : decode cL_law 1057 = .ok (.iaload, 1) := by decide +kernel
theorem dL_law_1058 : decode cL_law 1058 = .ok (.aload_n 0, 1) := by decide +kernel
theorem dL_law_1059 : decode cL_law 1059 = .ok (.iload_n 3, 1) := by decide +kernel
theorem dL_law_1060 : decode cL_law 1060 = .ok (.iconst 2, 1) := by decide +kernel
theorem dL_law_1061 : decode cL_law 1061 = .ok (.iadd, 1) := by decide +kernel
theorem dL_law_1062 : decode cL_law 1062 = .ok (.iaload, 1) := by decide +kernel
theorem dL_law_1063 : decode cL_law 1063 = .ok (.invokevirtual 129, 3) := by decide +kernel
theorem dL_law_1066 : decode cL_law 1066 = .ok (.aload_n 2, 1) := by decide +kernel
theorem dL_law_1067 : decode cL_law 1067 = .ok (.aload_n 0, 1) := by decide +kernel
theorem dL_law_1068 : decode cL_law 1068 = .ok (.iload_n 3, 1) := by decide +kernel
theorem dL_law_1069 : decode cL_law 1069 = .ok (.iconst 1, 1) := by decide +kernel
theorem dL_law_1070 : decode cL_law 1070 = .ok (.iadd, 1) := by decide +kernel
theorem dL_law_1071 : decode cL_law 1071 = .ok (.iaload, 1) := by decide +kernel
theorem dL_law_1072 : decode cL_law 1072 = .ok (.aload_n 0, 1) := by decide +kernel
theorem dL_law_1073 : decode cL_law 1073 = .ok (.iload_n 3, 1) := by decide +kernel
theorem dL_law_1074 : decode cL_law 1074 = .ok (.iconst 2, 1) := by decide +kernel
theorem dL_law_1075 : decode cL_law 1075 = .ok (.iadd, 1) := by decide +kernel
theorem dL_law_1076 : decode cL_law 1076 = .ok (.iaload, 1) := by decide +kernel
theorem dL_law_1077 : decode cL_law 1077 = .ok (.invokevirtual 132, 3) := by decide +kernel
theorem dL_law_1080 : decode cL_law 1080 = .ok (.if_icmp .eq 328, 3) := by decide +kernel
theorem dL_law_1083 : decode cL_law 1083 = .ok (.iconst 0, 1) := by decide +kernel
theorem dL_law_1084 : decode cL_law 1084 = .ok (.ireturn, 1) := by decide +kernel
theorem dL_law_1085 : decode cL_law 1085 = .ok (.aload_n 1, 1) := by decide +kernel
theorem dL_law_1086 : decode cL_law 1086 = .ok (.aload_n 0, 1) := by decide +kernel
theorem dL_law_1087 : decode cL_law 1087 = .ok (.iload_n 3, 1) := by decide +kernel
theorem dL_law_1088 : decode cL_law 1088 = .ok (.iconst 1, 1) := by decide +kernel
theorem dL_law_1089 : decode cL_law 1089 = .ok (.iadd, 1) := by decide +kernel
theorem dL_law_1090 : decode cL_law 1090 = .ok (.iaload, 1) := by decide +kernel
theorem dL_law_1091 : decode cL_law 1091 = .ok (.invokevirtual 133, 3) := by decide +kernel
theorem dL_law_1094 : decode cL_law 1094 = .ok (.aload_n 2, 1) := by decide +kernel
theorem dL_law_1095 : decode cL_law 1095 = .ok (.aload_n 0, 1) := by decide +kernel
theorem dL_law_1096 : decode cL_law 1096 = .ok (.iload_n 3, 1) := by decide +kernel
theorem dL_law_1097 : decode cL_law 1097 = .ok (.iconst 1, 1) := by decide +kernel
theorem dL_law_1098 : decode cL_law 1098 = .ok (.iadd, 1) := by decide +kernel
theorem dL_law_1099 : decode cL_law 1099 = .ok (.iaload, 1) := by decide +kernel
theorem dL_law_1100 : decode cL_law 1100 = .ok (.invokevirtual 136, 3) := by decide +kernel
theorem dL_law_1103 : decode cL_law 1103 = .ok (.if_icmp .eq 305, 3) := by decide +kernel
theorem dL_law_1106 : decode cL_law 1106 = .ok (.iconst 0, 1) := by decide +kernel
theorem dL_law_1107 : decode cL_law 1107 = .ok (.ireturn, 1) := by decide +kernel
theorem dL_law_1108 : decode cL_law 1108 = .ok (.aload_n 1, 1) := by decide +kernel
theorem dL_law_1109 : decode cL_law 1109 = .ok (.aload_n 0, 1) := by decide +kernel
theorem dL_law_1110 : decode cL_law 1110 = .ok (.iload_n 3, 1) := by decide +kernel
theorem dL_law_1111 : decode cL_law 1111 = .ok (.iconst 1, 1) := by decide +kernel
theorem dL_law_1112 : decode cL_law 1112 = .ok (.iadd, 1) := by decide +kernel
theorem dL_law_1113 : decode cL_law 1113 = .ok (.iaload, 1) := by decide +kernel
theorem dL_law_1114 : decode cL_law 1114 = .ok (.aload_n 0, 1) := by decide +kernel
theorem dL_law_1115 : decode cL_law 1115 = .ok (.iload_n 3, 1) := by decide +kernel
theorem dL_law_1116 : decode cL_law 1116 = .ok (.iconst 2, 1) := by decide +kernel
theorem dL_law_1117 : decode cL_law 1117 = .ok (.iadd, 1) := by decide +kernel
theorem dL_law_1118 : decode cL_law 1118 = .ok (.iaload, 1) := by decide +kernel
theorem dL_law_1119 : decode cL_law 1119 = .ok (.aload_n 0, 1) := by decide +kernel
theorem dL_law_1120 : decode cL_law 1120 = .ok (.iload_n 3, 1) := by decide +kernel
theorem dL_law_1121 : decode cL_law 1121 = .ok (.iconst 3, 1) := by decide +kernel
theorem dL_law_1122 : decode cL_law 1122 = .ok (.iadd, 1) := by decide +kernel
theorem dL_law_1123 : decode cL_law 1123 = .ok (.iaload, 1) := by decide +kernel
theorem dL_law_1124 : decode cL_law 1124 = .ok (.aload_n 0, 1) := by decide +kernel
theorem dL_law_1125 : decode cL_law 1125 = .ok (.iload_n 3, 1) := by decide +kernel
theorem dL_law_1126 : decode cL_law 1126 = .ok (.iconst 4, 1) := by decide +kernel
theorem dL_law_1127 : decode cL_law 1127 = .ok (.iadd, 1) := by decide +kernel
theorem dL_law_1128 : decode cL_law 1128 = .ok (.iaload, 1) := by decide +kernel
theorem dL_law_1129 : decode cL_law 1129 = .ok (.aload_n 0, 1) := by decide +kernel
theorem dL_law_1130 : decode cL_law 1130 = .ok (.iload_n 3, 1) := by decide +kernel
theorem dL_law_1131 : decode cL_law 1131 = .ok (.iconst 5, 1) := by decide +kernel
theorem dL_law_1132 : decode cL_law 1132 = .ok (.iadd, 1) := by decide +kernel
theorem dL_law_1133 : decode cL_law 1133 = .ok (.iaload, 1) := by decide +kernel
theorem dL_law_1134 : decode cL_law 1134 = .ok (.invokevirtual 137, 3) := by decide +kernel
theorem dL_law_1137 : decode cL_law 1137 = .ok (.aload_n 2, 1) := by decide +kernel
theorem dL_law_1138 : decode cL_law 1138 = .ok (.aload_n 0, 1) := by decide +kernel
theorem dL_law_1139 : decode cL_law 1139 = .ok (.iload_n 3, 1) := by decide +kernel
theorem dL_law_1140 : decode cL_law 1140 = .ok (.iconst 1, 1) := by decide +kernel
theorem dL_law_1141 : decode cL_law 1141 = .ok (.iadd, 1) := by decide +kernel
theorem dL_law_1142 : decode cL_law 1142 = .ok (.iaload, 1) := by decide +kernel
theorem dL_law_1143 : decode cL_law 1143 = .ok (.aload_n 0, 1) := by decide +kernel
theorem dL_law_1144 : decode cL_law 1144 = .ok (.iload_n 3, 1) := by decide +kernel
theorem dL_law_1145 : decode cL_law 1145 = .ok (.iconst 2, 1) := by decide +kernel
theorem dL_law_1146 : decode cL_law 1146 = .ok (.iadd, 1) := by decide +kernel
theorem dL_law_1147 : decode cL_law 1147 = .ok (.iaload, 1) := by decide +kernel
theorem dL_law_1148 : decode cL_law 1148 = .ok (.aload_n 0, 1) := by decide +kernel
theorem dL_law_1149 : decode cL_law 1149 = .ok (.iload_n 3, 1) := by decide +kernel
theorem dL_law_1150 : decode cL_law 1150 = .ok (.iconst 3, 1) := by decide +kernel
theorem dL_law_1151 : decode cL_law 1151 = .ok (.iadd, 1) := by decide +kernel
theorem dL_law_1152 : decode cL_law 1152 = .ok (.iaload, 1) := by decide +kernel
theorem dL_law_1153 : decode cL_law 1153 = .ok (.aload_n 0, 1) := by decide +kernel
theorem dL_law_1154 : decode cL_law 1154 = .ok (.iload_n 3, 1) := by decide +kernel
theorem dL_law_1155 : decode cL_law 1155 = .ok (.iconst 4, 1) := by decide +kernel
theorem dL_law_1156 : decode cL_law 1156 = .ok (.iadd, 1) := by decide +kernel
theorem dL_law_1157 : decode cL_law 1157 = .ok (.iaload, 1) := by decide +kernel
theorem dL_law_1158 : decode cL_law 1158 = .ok (.aload_n 0, 1) := by decide +kernel
theorem dL_law_1159 : decode cL_law 1159 = .ok (.iload_n 3, 1) := by decide +kernel
theorem dL_law_1160 : decode cL_law 1160 = .ok (.iconst 5, 1) := by decide +kernel
theorem dL_law_1161 : decode cL_law 1161 = .ok (.iadd, 1) := by decide +kernel
theorem dL_law_1162 : decode cL_law 1162 = .ok (.iaload, 1) := by decide +kernel
theorem dL_law_1163 : decode cL_law 1163 = .ok (.invokevirtual 141, 3) := by decide +kernel
theorem dL_law_1166 : decode cL_law 1166 = .ok (.if_icmp .eq 242, 3) := by decide +kernel
theorem dL_law_1169 : decode cL_law 1169 = .ok (.iconst 0, 1) := by decide +kernel
theorem dL_law_1170 : decode cL_law 1170 = .ok (.ireturn, 1) := by decide +kernel
theorem dL_law_1171 : decode cL_law 1171 = .ok (.aload_n 1, 1) := by decide +kernel
theorem dL_law_1172 : decode cL_law 1172 = .ok (.aload_n 0, 1) := by decide +kernel
theorem dL_law_1173 : decode cL_law 1173 = .ok (.iload_n 3, 1) := by decide +kernel
theorem dL_law_1174 : decode cL_law 1174 = .ok (.iconst 1, 1) := by decide +kernel
theorem dL_law_1175 : decode cL_law 1175 = .ok (.iadd, 1) := by decide +kernel
theorem dL_law_1176 : decode cL_law 1176 = .ok (.iaload, 1) := by decide +kernel
theorem dL_law_1177 : decode cL_law 1177 = .ok (.aload_n 0, 1) := by decide +kernel
theorem dL_law_1178 : decode cL_law 1178 = .ok (.iload_n 3, 1) := by decide +kernel
theorem dL_law_1179 : decode cL_law 1179 = .ok (.iconst 2, 1) := by decide +kernel
theorem dL_law_1180 : decode cL_law 1180 = .ok (.iadd, 1) := by decide +kernel
theorem dL_law_1181 : decode cL_law 1181 = .ok (.iaload, 1) := by decide +kernel
theorem dL_law_1182 : decode cL_law 1182 = .ok (.aload_n 0, 1) := by decide +kernel
theorem dL_law_1183 : decode cL_law 1183 = .ok (.iload_n 3, 1) := by decide +kernel
theorem dL_law_1184 : decode cL_law 1184 = .ok (.iconst 3, 1) := by decide +kernel
theorem dL_law_1185 : decode cL_law 1185 = .ok (.iadd, 1) := by decide +kernel
theorem dL_law_1186 : decode cL_law 1186 = .ok (.iaload, 1) := by decide +kernel
theorem dL_law_1187 : decode cL_law 1187 = .ok (.invokevirtual 142, 3) := by decide +kernel
theorem dL_law_1190 : decode cL_law 1190 = .ok (.aload_n 2, 1) := by decide +kernel
theorem dL_law_1191 : decode cL_law 1191 = .ok (.aload_n 0, 1) := by decide +kernel
theorem dL_law_1192 : decode cL_law 1192 = .ok (.iload_n 3, 1) := by decide +kernel
theorem dL_law_1193 : decode cL_law 1193 = .ok (.iconst 1, 1) := by decide +kernel
theorem dL_law_1194 : decode cL_law 1194 = .ok (.iadd, 1) := by decide +kernel
theorem dL_law_1195 : decode cL_law 1195 = .ok (.iaload, 1) := by decide +kernel
theorem dL_law_1196 : decode cL_law 1196 = .ok (.aload_n 0, 1) := by decide +kernel
theorem dL_law_1197 : decode cL_law 1197 = .ok (.iload_n 3, 1) := by decide +kernel
theorem dL_law_1198 : decode cL_law 1198 = .ok (.iconst 2, 1) := by decide +kernel
theorem dL_law_1199 : decode cL_law 1199 = .ok (.iadd, 1) := by decide +kernel
theorem dL_law_1200 : decode cL_law 1200 = .ok (.iaload, 1) := by decide +kernel
theorem dL_law_1201 : decode cL_law 1201 = .ok (.aload_n 0, 1) := by decide +kernel
theorem dL_law_1202 : decode cL_law 1202 = .ok (.iload_n 3, 1) := by decide +kernel
theorem dL_law_1203 : decode cL_law 1203 = .ok (.iconst 3, 1) := by decide +kernel
theorem dL_law_1204 : decode cL_law 1204 = .ok (.iadd, 1) := by decide +kernel
theorem dL_law_1205 : decode cL_law 1205 = .ok (.iaload, 1) := by decide +kernel
theorem dL_law_1206 : decode cL_law 1206 = .ok (.invokevirtual 145, 3) := by decide +kernel
theorem dL_law_1209 : decode cL_law 1209 = .ok (.if_icmp .eq 199, 3) := by decide +kernel
theorem dL_law_1212 : decode cL_law 1212 = .ok (.iconst 0, 1) := by decide +kernel
theorem dL_law_1213 : decode cL_law 1213 = .ok (.ireturn, 1) := by decide +kernel
theorem dL_law_1214 : decode cL_law 1214 = .ok (.aload_n 1, 1) := by decide +kernel
theorem dL_law_1215 : decode cL_law 1215 = .ok (.aload_n 0, 1) := by decide +kernel
theorem dL_law_1216 : decode cL_law 1216 = .ok (.iload_n 3, 1) := by decide +kernel
theorem dL_law_1217 : decode cL_law 1217 = .ok (.iconst 1, 1) := by decide +kernel
theorem dL_law_1218 : decode cL_law 1218 = .ok (.iadd, 1) := by decide +kernel
theorem dL_law_1219 : decode cL_law 1219 = .ok (.iaload, 1) := by decide +kernel
theorem dL_law_1220 : decode cL_law 1220 = .ok (.aload_n 0, 1) := by decide +kernel
theorem dL_law_1221 : decode cL_law 1221 = .ok (.iload_n 3, 1) := by decide +kernel
theorem dL_law_1222 : decode cL_law 1222 = .ok (.iconst 2, 1) := by decide +kernel
theorem dL_law_1223 : decode cL_law 1223 = .ok (.iadd, 1) := by decide +kernel
theorem dL_law_1224 : decode cL_law 1224 = .ok (.iaload, 1) := by decide +kernel
theorem dL_law_1225 : decode cL_law 1225 = .ok (.invokevirtual 146, 3) := by decide +kernel
theorem dL_law_1228 : decode cL_law 1228 = .ok (.aload_n 2, 1) := by decide +kernel
theorem dL_law_1229 : decode cL_law 1229 = .ok (.aload_n 0, 1) := by decide +kernel
theorem dL_law_1230 : decode cL_law 1230 = .ok (.iload_n 3, 1) := by decide +kernel
theorem dL_law_1231 : decode cL_law 1231 = .ok (.iconst 1, 1) := by decide +kernel
theorem dL_law_1232 : decode cL_law 1232 = .ok (.iadd, 1) := by decide +kernel
theorem dL_law_1233 : decode cL_law 1233 = .ok (.iaload, 1) := by decide +kernel
theorem dL_law_1234 : decode cL_law 1234 = .ok (.aload_n 0, 1) := by decide +kernel
theorem dL_law_1235 : decode cL_law 1235 = .ok (.iload_n 3, 1) := by decide +kernel
theorem dL_law_1236 : decode cL_law 1236 = .ok (.iconst 2, 1) := by decide +kernel
theorem dL_law_1237 : decode cL_law 1237 = .ok (.iadd, 1) := by decide +kernel
theorem dL_law_1238 : decode cL_law 1238 = .ok (.iaload, 1) := by decide +kernel
theorem dL_law_1239 : decode cL_law 1239 = .ok (.invokevirtual 149, 3) := by decide +kernel
theorem dL_law_1242 : decode cL_law 1242 = .ok (.if_icmp .eq 166, 3) := by decide +kernel
theorem dL_law_1245 : decode cL_law 1245 = .ok (.iconst 0, 1) := by decide +kernel
theorem dL_law_1246 : decode cL_law 1246 = .ok (.ireturn, 1) := by decide +kernel
theorem dL_law_1247 : decode cL_law 1247 = .ok (.aload_n 1, 1) := by decide +kernel
theorem dL_law_1248 : decode cL_law 1248 = .ok (.aload_n 0, 1) := by decide +kernel
theorem dL_law_1249 : decode cL_law 1249 = .ok (.iload_n 3, 1) := by decide +kernel
theorem dL_law_1250 : decode cL_law 1250 = .ok (.iconst 1, 1) := by decide +kernel
theorem dL_law_1251 : decode cL_law 1251 = .ok (.iadd, 1) := by decide +kernel
theorem dL_law_1252 : decode cL_law 1252 = .ok (.iaload, 1) := by decide +kernel
theorem dL_law_1253 : decode cL_law 1253 = .ok (.aload_n 0, 1) := by decide +kernel
theorem dL_law_1254 : decode cL_law 1254 = .ok (.iload_n 3, 1) := by decide +kernel
theorem dL_law_1255 : decode cL_law 1255 = .ok (.iconst 2, 1) := by decide +kernel
theorem dL_law_1256 : decode cL_law 1256 = .ok (.iadd, 1) := by decide +kernel
theorem dL_law_1257 : decode cL_law 1257 = .ok (.iaload, 1) := by decide +kernel
theorem dL_law_1258 : decode cL_law 1258 = .ok (.invokevirtual 150, 3) := by decide +kernel
theorem dL_law_1261 : decode cL_law 1261 = .ok (.aload_n 2, 1) := by decide +kernel
theorem dL_law_1262 : decode cL_law 1262 = .ok (.aload_n 0, 1) := by decide +kernel
theorem dL_law_1263 : decode cL_law 1263 = .ok (.iload_n 3, 1) := by decide +kernel
theorem dL_law_1264 : decode cL_law 1264 = .ok (.iconst 1, 1) := by decide +kernel
theorem dL_law_1265 : decode cL_law 1265 = .ok (.iadd, 1) := by decide +kernel
theorem dL_law_1266 : decode cL_law 1266 = .ok (.iaload, 1) := by decide +kernel
theorem dL_law_1267 : decode cL_law 1267 = .ok (.aload_n 0, 1) := by decide +kernel
theorem dL_law_1268 : decode cL_law 1268 = .ok (.iload_n 3, 1) := by decide +kernel
theorem dL_law_1269 : decode cL_law 1269 = .ok (.iconst 2, 1) := by decide +kernel
theorem dL_law_1270 : decode cL_law 1270 = .ok (.iadd, 1) := by decide +kernel
theorem dL_law_1271 : decode cL_law 1271 = .ok (.iaload, 1) := by decide +kernel
theorem dL_law_1272 : decode cL_law 1272 = .ok (.invokevirtual 153, 3) := by decide +kernel
theorem dL_law_1275 : decode cL_law 1275 = .ok (.if_icmp .eq 133, 3) := by decide +kernel
theorem dL_law_1278 : decode cL_law 1278 = .ok (.iconst 0, 1) := by decide +kernel
theorem dL_law_1279 : decode cL_law 1279 = .ok (.ireturn, 1) := by decide +kernel
theorem dL_law_1280 : decode cL_law 1280 = .ok (.aload_n 1, 1) := by decide +kernel
theorem dL_law_1281 : decode cL_law 1281 = .ok (.aload_n 0, 1) := by decide +kernel
theorem dL_law_1282 : decode cL_law 1282 = .ok (.iload_n 3, 1) := by decide +kernel
theorem dL_law_1283 : decode cL_law 1283 = .ok (.iconst 1, 1) := by decide +kernel
theorem dL_law_1284 : decode cL_law 1284 = .ok (.iadd, 1) := by decide +kernel
theorem dL_law_1285 : decode cL_law 1285 = .ok (.iaload, 1) := by decide +kernel
theorem dL_law_1286 : decode cL_law 1286 = .ok (.aload_n 0, 1) := by decide +kernel
theorem dL_law_1287 : decode cL_law 1287 = .ok (.iload_n 3, 1) := by decide +kernel
theorem dL_law_1288 : decode cL_law 1288 = .ok (.iconst 2, 1) := by decide +kernel
theorem dL_law_1289 : decode cL_law 1289 = .ok (.iadd, 1) := by decide +kernel
theorem dL_law_1290 : decode cL_law 1290 = .ok (.iaload, 1) := by decide +kernel
theorem dL_law_1291 : decode cL_law 1291 = .ok (.invokevirtual 154, 3) := by decide +kernel
theorem dL_law_1294 : decode cL_law 1294 = .ok (.aload_n 2, 1) := by decide +kernel
theorem dL_law_1295 : decode cL_law 1295 = .ok (.aload_n 0, 1) := by decide +kernel
theorem dL_law_1296 : decode cL_law 1296 = .ok (.iload_n 3, 1) := by decide +kernel
theorem dL_law_1297 : decode cL_law 1297 = .ok (.iconst 1, 1) := by decide +kernel
theorem dL_law_1298 : decode cL_law 1298 = .ok (.iadd, 1) := by decide +kernel
theorem dL_law_1299 : decode cL_law 1299 = .ok (.iaload, 1) := by decide +kernel
theorem dL_law_1300 : decode cL_law 1300 = .ok (.aload_n 0, 1) := by decide +kernel
theorem dL_law_1301 : decode cL_law 1301 = .ok (.iload_n 3, 1) := by decide +kernel
theorem dL_law_1302 : decode cL_law 1302 = .ok (.iconst 2, 1) := by decide +kernel
theorem dL_law_1303 : decode cL_law 1303 = .ok (.iadd, 1) := by decide +kernel
theorem dL_law_1304 : decode cL_law 1304 = .ok (.iaload, 1) := by decide +kernel
theorem dL_law_1305 : decode cL_law 1305 = .ok (.invokevirtual 157, 3) := by decide +kernel
theorem dL_law_1308 : decode cL_law 1308 = .ok (.if_icmp .eq 100, 3) := by decide +kernel
theorem dL_law_1311 : decode cL_law 1311 = .ok (.iconst 0, 1) := by decide +kernel
theorem dL_law_1312 : decode cL_law 1312 = .ok (.ireturn, 1) := by decide +kernel
theorem dL_law_1313 : decode cL_law 1313 = .ok (.aload_n 1, 1) := by decide +kernel
theorem dL_law_1314 : decode cL_law 1314 = .ok (.aload_n 0, 1) := by decide +kernel
theorem dL_law_1315 : decode cL_law 1315 = .ok (.iload_n 3, 1) := by decide +kernel
theorem dL_law_1316 : decode cL_law 1316 = .ok (.iconst 1, 1) := by decide +kernel
theorem dL_law_1317 : decode cL_law 1317 = .ok (.iadd, 1) := by decide +kernel
theorem dL_law_1318 : decode cL_law 1318 = .ok (.iaload, 1) := by decide +kernel
theorem dL_law_1319 : decode cL_law 1319 = .ok (.invokevirtual 158, 3) := by decide +kernel
theorem dL_law_1322 : decode cL_law 1322 = .ok (.aload_n 2, 1) := by decide +kernel
theorem dL_law_1323 : decode cL_law 1323 = .ok (.aload_n 0, 1) := by decide +kernel
theorem dL_law_1324 : decode cL_law 1324 = .ok (.iload_n 3, 1) := by decide +kernel
theorem dL_law_1325 : decode cL_law 1325 = .ok (.iconst 1, 1) := by decide +kernel
theorem dL_law_1326 : decode cL_law 1326 = .ok (.iadd, 1) := by decide +kernel
theorem dL_law_1327 : decode cL_law 1327 = .ok (.iaload, 1) := by decide +kernel
theorem dL_law_1328 : decode cL_law 1328 = .ok (.invokevirtual 161, 3) := by decide +kernel
theorem dL_law_1331 : decode cL_law 1331 = .ok (.if_icmp .eq 77, 3) := by decide +kernel
theorem dL_law_1334 : decode cL_law 1334 = .ok (.iconst 0, 1) := by decide +kernel
theorem dL_law_1335 : decode cL_law 1335 = .ok (.ireturn, 1) := by decide +kernel
theorem dL_law_1336 : decode cL_law 1336 = .ok (.aload_n 1, 1) := by decide +kernel
theorem dL_law_1337 : decode cL_law 1337 = .ok (.aload_n 0, 1) := by decide +kernel
theorem dL_law_1338 : decode cL_law 1338 = .ok (.iload_n 3, 1) := by decide +kernel
theorem dL_law_1339 : decode cL_law 1339 = .ok (.iconst 1, 1) := by decide +kernel
theorem dL_law_1340 : decode cL_law 1340 = .ok (.iadd, 1) := by decide +kernel
theorem dL_law_1341 : decode cL_law 1341 = .ok (.iaload, 1) := by decide +kernel
theorem dL_law_1342 : decode cL_law 1342 = .ok (.invokevirtual 162, 3) := by decide +kernel
theorem dL_law_1345 : decode cL_law 1345 = .ok (.aload_n 2, 1) := by decide +kernel
theorem dL_law_1346 : decode cL_law 1346 = .ok (.aload_n 0, 1) := by decide +kernel
theorem dL_law_1347 : decode cL_law 1347 = .ok (.iload_n 3, 1) := by decide +kernel
theorem dL_law_1348 : decode cL_law 1348 = .ok (.iconst 1, 1) := by decide +kernel
theorem dL_law_1349 : decode cL_law 1349 = .ok (.iadd, 1) := by decide +kernel
theorem dL_law_1350 : decode cL_law 1350 = .ok (.iaload, 1) := by decide +kernel
theorem dL_law_1351 : decode cL_law 1351 = .ok (.invokevirtual 165, 3) := by decide +kernel
theorem dL_law_1354 : decode cL_law 1354 = .ok (.if_icmp .eq 54, 3) := by decide +kernel
theorem dL_law_1357 : decode cL_law 1357 = .ok (.iconst 0, 1) := by decide +kernel
theorem dL_law_1358 : decode cL_law 1358 = .ok (.ireturn, 1) := by decide +kernel
theorem dL_law_1359 : decode cL_law 1359 = .ok (.aload_n 1, 1) := by decide +kernel
theorem dL_law_1360 : decode cL_law 1360 = .ok (.invokevirtual 166, 3) := by decide +kernel
theorem dL_law_1363 : decode cL_law 1363 = .ok (.aload_n 2, 1) := by decide +kernel
theorem dL_law_1364 : decode cL_law 1364 = .ok (.invokevirtual 169, 3) := by decide +kernel
theorem dL_law_1367 : decode cL_law 1367 = .ok (.if_icmp .eq 41, 3) := by decide +kernel
theorem dL_law_1370 : decode cL_law 1370 = .ok (.iconst 0, 1) := by decide +kernel
theorem dL_law_1371 : decode cL_law 1371 = .ok (.ireturn, 1) := by decide +kernel
theorem dL_law_1372 : decode cL_law 1372 = .ok (.aload_n 1, 1) := by decide +kernel
theorem dL_law_1373 : decode cL_law 1373 = .ok (.invokevirtual 170, 3) := by decide +kernel
theorem dL_law_1376 : decode cL_law 1376 = .ok (.aload_n 2, 1) := by decide +kernel
theorem dL_law_1377 : decode cL_law 1377 = .ok (.invokevirtual 173, 3) := by decide +kernel
theorem dL_law_1380 : decode cL_law 1380 = .ok (.if_icmp .eq 28, 3) := by decide +kernel
theorem dL_law_1383 : decode cL_law 1383 = .ok (.iconst 0, 1) := by decide +kernel
theorem dL_law_1384 : decode cL_law 1384 = .ok (.ireturn, 1) := by decide +kernel
theorem dL_law_1385 : decode cL_law 1385 = .ok (.aload_n 1, 1) := by decide +kernel
theorem dL_law_1386 : decode cL_law 1386 = .ok (.aload_n 0, 1) := by decide +kernel
theorem dL_law_1387 : decode cL_law 1387 = .ok (.iload_n 3, 1) := by decide +kernel
theorem dL_law_1388 : decode cL_law 1388 = .ok (.iconst 1, 1) := by decide +kernel
theorem dL_law_1389 : decode cL_law 1389 = .ok (.iadd, 1) := by decide +kernel
theorem dL_law_1390 : decode cL_law 1390 = .ok (.iaload, 1) := by decide +kernel
theorem dL_law_1391 : decode cL_law 1391 = .ok (.invokevirtual 174, 3) := by decide +kernel
theorem dL_law_1394 : decode cL_law 1394 = .ok (.aload_n 2, 1) := by decide +kernel
theorem dL_law_1395 : decode cL_law 1395 = .ok (.aload_n 0, 1) := by decide +kernel
theorem dL_law_1396 : decode cL_law 1396 = .ok (.iload_n 3, 1) := by decide +kernel
theorem dL_law_1397 : decode cL_law 1397 = .ok (.iconst 1, 1) := by decide +kernel
theorem dL_law_1398 : decode cL_law 1398 = .ok (.iadd, 1) := by decide +kernel
theorem dL_law_1399 : decode cL_law 1399 = .ok (.iaload, 1) := by decide +kernel
theorem dL_law_1400 : decode cL_law 1400 = .ok (.invokevirtual 177, 3) := by decide +kernel
theorem dL_law_1403 : decode cL_law 1403 = .ok (.if_icmp .eq 5, 3) := by decide +kernel
theorem dL_law_1406 : decode cL_law 1406 = .ok (.iconst 0, 1) := by decide +kernel
theorem dL_law_1407 : decode cL_law 1407 = .ok (.ireturn, 1) := by decide +kernel
theorem dL_law_1408 : decode cL_law 1408 = .ok (.iinc 3 6, 3) := by decide +kernel
theorem dL_law_1411 : decode cL_law 1411 = .ok (.goto (-1393), 3) := by decide +kernel
theorem dL_law_1414 : decode cL_law 1414 = .ok (.iconst 1, 1) := by decide +kernel
theorem dL_law_1415 : decode cL_law 1415 = .ok (.ireturn, 1) := by decide +kernel
end
section
-- the cells of both systems: (0, class, fields: none an int, some the cell it refers to), (1, length, _) ints, (2.., _, cells) references: Sheet[], Slot[], int[][]
-- 0 TI
-- 1 Laws
-- 2 keys
-- 3 operands
-- 4 sizes
-- 5 rows
-- 6 lstack
-- 7 now
-- 8 now.kinds
-- 9 now.heights
-- 10 now.corn
-- 11 now.owners
-- 12 now.water
-- 13 now.many
-- 14 now.places
-- 15 image
-- 16 image.kinds
-- 17 image.heights
-- 18 image.corn
-- 19 image.owners
-- 20 image.water
-- 21 image.many
-- 22 image.places
-- 23 trial
-- 24 trial.kinds
-- 25 trial.heights
-- 26 trial.corn
-- 27 trial.owners
-- 28 trial.water
-- 29 trial.many
-- 30 trial.places
-- 31 Tape
-- 32 bytes
-- 33 Reader
-- 34 row
-- 35 pending
-- 36 sheets
-- 37 slots
-- 38 waiting
-- 39 row0
-- 40 row1
-- 41 row2
-- 42 row3
-- 43 row4
-- 44 row5
-- 45 row6
-- 46 row7
-- 47 row8
-- 48 row9
-- 49 row10
-- 50 row11
-- 51 row12
-- 52 row13
-- 53 sheet0
-- 54 sheet1
-- 55 sheet2
-- 56 sheet3
-- 57 sval0
-- 58 sval1
-- 59 sval2
-- 60 sval3
-- 61 slot0
-- 62 slot1
-- 63 slot2
-- 64 slot3
-- 65 slot4
-- 66 lsh0
-- 67 lsh1
-- 68 lsh2
-- 69 lsh3
-- 70 lsh4
-- 71 lval0
-- 72 lval1
-- 73 lval2
-- 74 lval3
-- 75 lval4
-- 76 M
-- 77 m.s
-- 78 m.image
-- 79 m.aside
-- 80 m.tSort
-- 81 m.tSize
-- 82 m.tNumber
-- 83 m.held
-- 84 m.heldNumber
-- 85 m.heldWorth
-- 86 m.heldSize
-- 87 m.heldRow
-- 88 m.hasOf
-- 89 m.tape
-- 90 m.named
-- 91 m.pile
-- 92 m.carried
-- 93 m.waits
-- 94 m.rowDue
def lay : List (Nat × Nat × List (Option Nat)) := [
  (0, 6, [some 1, some 7, some 15, some 23, some 31, some 33, some 36, some 37, some 38, none, none]),
  (0, 1, [some 2, some 3, some 4, some 5, some 6, none]),
  (1, 14, []),
  (1, 14, []),
  (1, 14, []),
  (4, 0, [some 39, some 40, some 41, some 42, some 43, some 44, some 45, some 46, some 47, some 48, some 49, some 50, some 51, some 52]),
  (1, 96, []),
  (0, 0, [some 8, some 9, some 10, some 11, some 12, some 13, some 14, none, none, none, none, none, some 1]),
  (1, 30, []),
  (1, 30, []),
  (1, 30, []),
  (1, 30, []),
  (1, 6, []),
  (1, 8, []),
  (1, 8, []),
  (0, 0, [some 16, some 17, some 18, some 19, some 20, some 21, some 22, none, none, none, none, none, some 1]),
  (1, 30, []),
  (1, 30, []),
  (1, 30, []),
  (1, 30, []),
  (1, 6, []),
  (1, 8, []),
  (1, 8, []),
  (0, 0, [some 24, some 25, some 26, some 27, some 28, some 29, some 30, none, none, none, none, none, some 1]),
  (1, 30, []),
  (1, 30, []),
  (1, 30, []),
  (1, 30, []),
  (1, 6, []),
  (1, 8, []),
  (1, 8, []),
  (0, 5, [none, some 32]),
  (1, 96, []),
  (0, 2, [none, none, some 34, none, some 31, none, none, some 35, none, none, none, none]),
  (1, 96, []),
  (1, 96, []),
  (2, 0, [some 53, some 54, some 55, some 56]),
  (3, 0, [some 61, some 62, some 63, some 64, some 65]),
  (1, 60, []),
  (1, 96, []),
  (1, 96, []),
  (1, 96, []),
  (1, 96, []),
  (1, 96, []),
  (1, 96, []),
  (1, 96, []),
  (1, 96, []),
  (1, 96, []),
  (1, 96, []),
  (1, 96, []),
  (1, 96, []),
  (1, 96, []),
  (1, 96, []),
  (0, 3, [none, none, some 57]),
  (0, 3, [none, none, some 58]),
  (0, 3, [none, none, some 59]),
  (0, 3, [none, none, some 60]),
  (1, 24, []),
  (1, 24, []),
  (1, 24, []),
  (1, 24, []),
  (0, 4, [none, none, none, none, some 66]),
  (0, 4, [none, none, none, none, some 67]),
  (0, 4, [none, none, none, none, some 68]),
  (0, 4, [none, none, none, none, some 69]),
  (0, 4, [none, none, none, none, some 70]),
  (0, 3, [none, none, some 71]),
  (0, 3, [none, none, some 72]),
  (0, 3, [none, none, some 73]),
  (0, 3, [none, none, some 74]),
  (0, 3, [none, none, some 75]),
  (1, 24, []),
  (1, 24, []),
  (1, 24, []),
  (1, 24, []),
  (1, 24, []),
  (0, 7, [some 77, some 78, some 79, none, some 80, some 81, some 82, some 83, some 84, some 85, some 86, some 87, some 88, some 89, none, none, none, none, none, none, none, none, none, none, none, some 90, some 91, some 92, some 93, none, some 94]),
  (1, 3147, []),
  (1, 3147, []),
  (1, 3147, []),
  (1, 4, []),
  (1, 4, []),
  (1, 96, []),
  (1, 5, []),
  (1, 5, []),
  (1, 5, []),
  (1, 5, []),
  (1, 120, []),
  (1, 8, []),
  (1, 96, []),
  (1, 128, []),
  (1, 100, []),
  (1, 24, []),
  (1, 60, []),
  (1, 60, [])]
/-! ===== THE ABSTRACT MACHINE: frames over one memory of ints; every rule is a row of the kit ===== -/
abbrev AVal : Type := Int32 ⊕ Int64 ⊕ Nat ⊕ Unit
abbrev vI (x : Int32) : AVal := Sum.inl x
abbrev vL (x : Int64) : AVal := Sum.inr (Sum.inl x)
abbrev vR (i : Nat) : AVal := Sum.inr (Sum.inr (Sum.inl i))
abbrev vQ : AVal := Sum.inr (Sum.inr (Sum.inr ()))
abbrev Memo : Type := Nat → Nat → Int32
abbrev Mthd : Type := MethodName × ByteArray × Nat × Option FieldType
/-- addresses, classes, slots, array classes, the formatter that is only carried -/
abbrev Envi : Type := (Nat → Nat) × (Nat → ClassId) × (Nat → Nat → Nat) × (Nat → ClassId) × Value
abbrev Scr : Type := Nat × (Nat → Int32)
abbrev VV : Type := Launch × Scr × Envi
def gv (E : Envi) (v : AVal) : Value := match v with
  | .inl x => .int x
  | .inr (.inl x) => .long x
  | .inr (.inr (.inl i)) => .ref (E.1 i)
  | .inr (.inr (.inr _)) => E.2.2.2.2
def T0 : List Cond := lw_tbl.filter goodWord
theorem T0_in {w : Cond} (h : w ∈ T0) : w ∈ lw_tbl ∧ goodWord w = true := List.mem_filter.mp h
theorem T0_at (i : Nat) {w : Cond} (h : tables_1[i]? = some w) (hg : goodWord w = true) : w ∈ T0 := List.mem_filter.mpr ⟨List.mem_append_right _ (List.mem_of_getElem? h), hg⟩
theorem T0_sel (i : Nat) {w : Cond} (h : (k2_sels lw_privs)[i]? = some w) (hg : goodWord w = true) : w ∈ T0 := List.mem_filter.mpr ⟨List.mem_append_left _ (List.mem_of_getElem? h), hg⟩
abbrev clsW : List vw_C := [(RX1, TX1, 13), (RX3, TX3, 6), (RX4, TX4, 12), (RX5, TX5, 3), (RX6, TX6, 5), (RX7, TX7, 2), (RX8, TX8, 11), (RX9, TX9, 31)]
def cT (ci : Nat) : vw_C := clsW.getD ci ("", TX0, 0)
def cTy (ci : Nat) : Nat → FieldType := [tyX1, tyX3, tyX4, tyX5, tyX6, tyX7, tyX8, tyX9].getD ci tyX0
abbrev Dv (V : VV) : va_G := (V.2.2.2.1, V.2.2.2.2.1)
abbrev cAv (V : VV) : Nat → ClassId := V.2.2.2.2.2.1
abbrev tysW (V : VV) : List (ClassId × FieldType) := [(cAv V 0, .int), (cAv V 1, .object RX5), (cAv V 2, .object RX6), (cAv V 3, .array .int)]
def fvl (V : VV) (row : Nat → Int32) (k : Nat) (o : Option Nat) : Value := match o with
  | none => .int (row k)
  | some r => .ref (V.2.2.1 r)
def entf (V : VV) (row : Nat → Int32) (q : Nat × Nat × List (Option Nat)) : va_E := match q with
  | (0, c, fs) => .inr (c, fs.mapIdx (fvl V row))
  | (1, n, _) => .inl (cAv V 0, n, .inl row)
  | (t + 2, _, rs) => .inl (cAv V (t + 1), rs.length, .inr (.inr (.inr (.inr (fun j => (rs.getD j none).map V.2.2.1)))))
def cel (V : VV) (μ : Memo) : va_W := (List.range lay.length).map (fun i => (V.2.2.1 i, entf V (μ i) (lay.getD i (9, 0, []))))
theorem cel_len (V : VV) (μ : Memo) : (cel V μ).length = lay.length := by simp [cel]
theorem cel_get (V : VV) (μ : Memo) {i : Nat} {q : Nat × Nat × List (Option Nat)} (h : lay[i]? = some q) : (cel V μ)[i]? = some (V.2.2.1 i, entf V (μ i) q) := by
  have hi : i < lay.length := (List.getElem?_eq_some_iff.mp h).1
  have hg : lay.getD i (9, 0, []) = q := by rw [List.getD_eq_getElem?_getD, h]; rfl
  unfold cel
  rw [List.getElem?_map, List.getElem?_range hi]
  simp only [Option.map_some, hg]
/-- one cell's numbers -/
def mw (μ : Memo) (o : Nat) (f : Nat → Int32) : Memo := fun q => if q = o then f else μ q
def ms (μ : Memo) (o j : Nat) (x : Int32) : Memo := mw μ o (upd (μ o) j x)
theorem mw_self (μ : Memo) (o : Nat) (f : Nat → Int32) : mw μ o f o = f := if_pos rfl
theorem mw_ne (μ : Memo) {o q : Nat} (f : Nat → Int32) (h : q ≠ o) : mw μ o f q = μ q := if_neg h
theorem cel_set (V : VV) (μ : Memo) {o : Nat} {q : Nat × Nat × List (Option Nat)} (h : lay[o]? = some q) (f : Nat → Int32) : (cel V μ).set o (V.2.2.1 o, entf V f q) = cel V (mw μ o f) := by
  apply List.ext_getElem?
  intro k
  by_cases hk : k = o
  · subst hk
    rw [List.getElem?_set_self (by rw [cel_len]; exact (List.getElem?_eq_some_iff.mp h).1), cel_get V (mw μ k f) h, mw_self]
  · rw [List.getElem?_set_ne (Ne.symm hk)]
    unfold cel
    rw [List.getElem?_map, List.getElem?_map]
    cases hr : (List.range lay.length)[k]? with
    | none => rfl
    | some i =>
      have : i = k := by
        have h2 := List.getElem?_eq_some_iff.mp hr
        obtain ⟨h3, h4⟩ := h2
        rw [List.getElem_range] at h4
        exact h4.symm
      subst this
      simp only [Option.map_some, mw_ne μ f hk]
theorem cel_D {V : VV} {μ μ' : Memo} {A : Nat → Prop} (h : va_D A (cel V μ)) : va_D A (cel V μ') := by
  have key : ∀ (k : Nat) (q : Nat × va_E), (cel V μ')[k]? = some q → ∃ q0 : Nat × va_E, (cel V μ)[k]? = some q0 ∧ q0.1 = q.1 := by
    intro k q hk
    unfold cel at hk ⊢
    rw [List.getElem?_map] at hk ⊢
    cases hr : (List.range lay.length)[k]? with
    | none => rw [hr] at hk; cases hk
    | some i => rw [hr] at hk; cases hk; exact ⟨_, rfl, rfl⟩
  refine ⟨fun i j x y hi hj hxy => ?_, fun k q hk => ?_⟩
  · obtain ⟨x0, h1, h2⟩ := key i x hi
    obtain ⟨y0, h3, h4⟩ := key j y hj
    exact h.1 i j x0 y0 h1 h3 (h2.trans (hxy.trans h4.symm))
  · obtain ⟨q0, h1, h2⟩ := key k q hk
    rw [← h2]
    exact h.2 k q0 h1
def seaC (j : Nat) : Int32 := [20, 20, 9, 9, 100, 20].getD j 0
def lenS : List Nat := [4, 4, 4, 3, 2, 2]
def bytS : List (List Int32) := [[116, 105, 100, 101], [103, 114, 111, 119], [114, 111, 111, 109], [104, 100, 115], [99, 104], [116, 104]]
def strI (i : Nat) : Nat := [82, 88, 90, 131, 133, 135].getD i 0
def strT (i : Nat) : String := ["tide", "grow", "room", "hds", "ch", "th"].getD i ""
/-- what nobody writes: MOST_OF_SEA (200), the texts (201.., their bytes 211..), the script (220), the JDK's statics, the nest's call -/
def ROW (V : VV) (A : Nat → Prop) (U : State) (H : Heap) : Prop :=
  (va_Z "TideIsland" "MOST_OF_SEA" "[I" (.ref (V.2.2.1 200)) A U H ∧ va_T .int (V.2.2.1 200) 6 (fun j => .int (seaC j)) A U H) ∧
  (va_Z "java/lang/String" "COMPACT_STRINGS" "Z" (.int 1) A U H ∧ va_Z "jdk/internal/util/Preconditions" "SIOOBE_FORMATTER" "Ljava/util/function/BiFunction;" V.2.2.2.2.2.2 A U H ∧ V.2.2.2.2.2.2.category = 1) ∧
  (vk_S 6 lenS bytS (fun i => V.2.2.1 (201 + i)) (fun i => V.2.2.1 (211 + i)) A U H ∧ ∀ i, i < 6 → vk_R RX4 (strI i) (strT i) (V.2.2.1 (201 + i)) U) ∧
  va_Nw (.methodLinkNest RX1 90 yX8_hold RX8) U ∧ va_T .int (V.2.2.1 220) V.2.1.1 (fun j => .int (V.2.1.2 j)) A U H
theorem ROW.same {V : VV} {A : Nat → Prop} {u U : State} {H : Heap} (hv : U.vm = u.vm) (h : ROW V A u H) : ROW V A U H := by
  have ha : u.vm.Alike U.vm := by rw [hv]; exact Vm.Alike.refl _
  obtain ⟨⟨a1, a2⟩, ⟨b1, b2, b3⟩, ⟨c1, c2⟩, d1, e1⟩ := h
  exact ⟨⟨a1.moved ha, a2.moved ha⟩, ⟨b1.moved ha, b2.moved ha, b3⟩, ⟨c1.moved ha, fun i hi => (c2 i hi).same hv⟩, d1.same rfl hv.symm, e1.moved ha⟩
theorem ROW.warm {V : VV} {A B : Nat → Prop} {s U : State} {H1 H : Heap} (hW : s.WarmedH U.vm) (hq : ∀ a : Nat, a < H.size → ¬ A a → H1[a]? = H[a]?) (hAB : ∀ q, B q → A q) (h : ROW V A s H) : ROW V B U H1 := by
  have ha : s.vm.Alike U.vm := hW.alike
  obtain ⟨⟨a1, a2⟩, ⟨b1, b2, b3⟩, ⟨c1, c2⟩, d1, e1⟩ := h
  exact ⟨⟨((a1.kept hq).narrow hAB).moved ha, ((a2.kept hq).narrow hAB).moved ha⟩, ⟨((b1.kept hq).narrow hAB).moved ha, ((b2.kept hq).narrow hAB).moved ha, b3⟩, ⟨((c1.kept hq).narrow hAB).moved ha, fun i hi => (c2 i hi).warm hW⟩, d1.warmM hW, ((e1.kept hq).narrow hAB).moved ha⟩
/-- locals -/
def toL (V : VV) (ls : List (Option AVal)) : List (Nat × Value) := ls.zipIdx.filterMap (fun q => q.1.map (fun v => (q.2, gv V.2.2 v)))
theorem toL_mem {V : VV} {ls : List (Option AVal)} {i : Nat} {w : Value} : (i, w) ∈ toL V ls ↔ ∃ v, ls[i]? = some (some v) ∧ w = gv V.2.2 v := by
  unfold toL
  rw [List.mem_filterMap]
  constructor
  · rintro ⟨⟨o, k⟩, h1, h2⟩
    rw [List.mem_zipIdx_iff_getElem?] at h1
    cases o with
    | none => cases h2
    | some v =>
      simp only [Option.map_some, Option.some.injEq, Prod.mk.injEq] at h2
      obtain ⟨rfl, rfl⟩ := h2
      exact ⟨v, h1, rfl⟩
  · rintro ⟨v, h1, rfl⟩
    exact ⟨(some v, i), List.mem_zipIdx_iff_getElem?.mpr h1, rfl⟩
def short1 (o : Option AVal) : Bool := match o with
  | some (.inr (.inl _)) => false
  | some (.inr (.inr (.inr _))) => false
  | _ => true
def lset (ls : List (Option AVal)) (i : Nat) (v : AVal) : Option (List (Option AVal)) := if ls.all short1 = true then some (ls.set i (some v)) else none
theorem lset_has {V : VV} {lc : Array Slot} {n i : Nat} {ls ls' : List (Option AVal)} {v : AVal} (hl : lset ls i v = some ls') (h : lv_has lc n ((i, gv V.2.2 v) :: (toL V ls).filter (fun q => !(q.1 == i) && !(q.1 + 1 == i && q.2.category == 2)))) : lv_has lc n (toL V ls') := by
  unfold lset at hl
  split at hl
  · rename_i hall
    cases hl
    refine ⟨h.1, h.2.1, ?_⟩
    rintro ⟨j, w⟩ hq
    obtain ⟨u, h1, rfl⟩ := toL_mem.mp hq
    rw [List.getElem?_set] at h1
    split at h1
    · rename_i hij
      subst hij
      split at h1
      · cases h1
        exact h.2.2 _ List.mem_cons_self
      · cases h1
    · rename_i hij
      refine h.2.2 _ (List.mem_cons_of_mem _ (List.mem_filter.mpr ⟨toL_mem.mpr ⟨u, h1, rfl⟩, ?_⟩))
      have hs := List.all_eq_true.mp hall (some u) (List.mem_of_getElem? h1)
      have hc : (gv V.2.2 u).category = 1 := by
        rcases u with u | u | u | u
        · rfl
        · cases hs
        · rfl
        · cases hs
      have hji : (j == i) = false := by simp; exact fun e => hij e.symm
      simp [hji, hc]
  · cases hl
/-- the locals with which a method begins -/
def entL (As : List AVal) : List (Option AVal) := As.flatMap (fun v => match v with | .inr (.inl _) => [some v, none] | _ => [some v])
def entF (M : Mthd) (As : List AVal) : List (Option AVal) := entL As ++ List.replicate (M.2.2.1 - (entL As).length) none
theorem entL_args (V : VV) (hq : V.2.2.2.2.2.2.category = 1) : ∀ (As : List AVal) (k : Nat) (i : Nat) (v : AVal), (entL As)[i]? = some (some v) → (k + i, gv V.2.2 v) ∈ lv_args k (As.map (gv V.2.2))
  | [], k, i, v, h => by simp [entL] at h
  | u :: As, k, i, v, h => by
    have ih := entL_args V hq As
    rw [List.map_cons, lv_args]
    have one : ∀ (hc : (gv V.2.2 u).category = 1) (he : entL (u :: As) = some u :: entL As), (k + i, gv V.2.2 v) ∈ (k, gv V.2.2 u) :: lv_args (if (gv V.2.2 u).category = 2 then k + 2 else k + 1) (As.map (gv V.2.2)) := by
      intro hc he
      rw [he] at h
      rw [hc, if_neg (by decide)]
      cases i with
      | zero => cases h; exact List.mem_cons_self
      | succ i =>
        rw [List.getElem?_cons_succ] at h
        have := ih (k + 1) i v h
        rw [show k + (i + 1) = k + 1 + i by omega]
        exact List.mem_cons_of_mem _ this
    rcases u with u | u | u | u
    · exact one rfl rfl
    · have he : entL ((Sum.inr (Sum.inl u) : AVal) :: As) = some (vL u) :: none :: entL As := rfl
      rw [he] at h
      rw [show (gv V.2.2 (Sum.inr (Sum.inl u))).category = 2 from rfl, if_pos rfl]
      match i, h with
      | 0, h => cases h; exact List.mem_cons_self
      | 1, h => cases h
      | i + 2, h =>
        rw [List.getElem?_cons_succ, List.getElem?_cons_succ] at h
        have := ih (k + 2) i v h
        rw [show k + (i + 2) = k + 2 + i by omega]
        exact List.mem_cons_of_mem _ this
    · exact one rfl rfl
    · exact one hq rfl
theorem entL_len (V : VV) (hq : V.2.2.2.2.2.2.category = 1) : ∀ As : List AVal, (lg_sl (As.map (gv V.2.2))).length = (entL As).length
  | [] => rfl
  | u :: As => by
    have ih := entL_len V hq As
    have e1 : lg_sl ((u :: As).map (gv V.2.2)) = (if (gv V.2.2 u).category = 2 then [Slot.val (gv V.2.2 u), .second] else [.val (gv V.2.2 u)]) ++ lg_sl (As.map (gv V.2.2)) := rfl
    rw [e1, List.length_append, ih]
    rcases u with u | u | u | u
    · show 1 + _ = _; rw [Nat.add_comm]; rfl
    · show 2 + _ = _; rw [Nat.add_comm]; rfl
    · show 1 + _ = _; rw [Nat.add_comm]; rfl
    · show (if V.2.2.2.2.2.2.category = 2 then [Slot.val V.2.2.2.2.2.2, .second] else [.val V.2.2.2.2.2.2]).length + _ = _
      rw [hq, if_neg (by decide)]; show 1 + _ = _; rw [Nat.add_comm]; rfl
theorem entF_has {V : VV} (hq : V.2.2.2.2.2.2.category = 1) {lc : Array Slot} {n : Nat} {M : Mthd} {As : List AVal} (h : lv_has lc n (lv_args 0 (As.map (gv V.2.2)))) : lv_has lc n (toL V (entF M As)) := by
  refine ⟨h.1, h.2.1, ?_⟩
  rintro ⟨j, w⟩ hj
  obtain ⟨v, h1, rfl⟩ := toL_mem.mp hj
  unfold entF at h1
  by_cases hl : j < (entL As).length
  · rw [List.getElem?_append_left hl] at h1
    have := entL_args V hq As 0 j v h1
    rw [Nat.zero_add] at this
    exact h.2.2 _ this
  · rw [List.getElem?_append_right (by omega), List.getElem?_replicate] at h1
    split at h1 <;> cases h1
end
section
/-! ===== frames: Go V d M pc ls st μ Q: method M at pc, with d frames of room, comes to its end with Q ===== -/
def StW (V : VV) (μ : Memo) (s : State) (H : Heap) (locs : List Loc) (A : Nat → Prop) : Prop := va_P (Dv V) clsW (cel V μ) H ∧ va_D A (cel V μ) ∧ va_S A s.heap H locs
def FixW (V : VV) (p : Program) (s : State) (m : MethodId) (args : Array Value) (c : Code) (A : Nat → Prop) (M : Mthd) : Prop :=
  p.tables.exec = Jvm.exec ∧ c.code = M.2.1 ∧ c.maxLocals = M.2.2.1 ∧ s.vm.findClass M.1.cls = some m.cls ∧ (∀ w ∈ T0, w.before args s = true) ∧ va_K (Dv V) clsW (tysW V) s ∧ (∀ q, s.heap.size ≤ q → A q) ∧ ROW V A s s.heap
def RetW (M : Mthd) (pc : Nat) (r : Option AVal) : Prop :=
  (∃ x ty, r = some (vI x) ∧ decode M.2.1 pc = .ok (.ireturn, 1) ∧ M.2.2.2 = some ty ∧ narrow ty (.int x) = .int x) ∨ (r = none ∧ decode M.2.1 pc = .ok (.return_, 1) ∧ M.2.2.2 = none) ∨
  (∃ i n, r = some (vR i) ∧ decode M.2.1 pc = .ok (.areturn, 1) ∧ M.2.2.2 = some (.object n))
def Go (V : VV) (d : Nat) (M : Mthd) (pc : Nat) (ls : List (Option AVal)) (st : List AVal) (μ : Memo) (Q : Option AVal → Memo → Prop) : Prop :=
  ∀ (p : Program) (e : Env) (R : Room) (s : State) (m : MethodId) (args : Array Value) (below : List Frame) (meth : Method) (c : Code) (H : Heap) (locs : List Loc) (cs sl : Nat) (Z : State → Prop) (lc : Array Slot) (A : Nat → Prop),
    FixW V p s m args c A M → (d ≤ R.frames ∧ 40 * d ≤ R.locals ∧ cs ≤ R.cells ∧ sl ≤ R.slots) → StW V μ s H locs A → lv_has lc M.2.2.1 (toL V ls) →
    (∀ (pc' : Nat) (H' : Heap) (locs' : List Loc) (lc' : Array Slot) (r : Option AVal) (μ' : Memo), Q r μ' → StW V μ' s H' locs' A → RetW M pc' r → W p V.1 e R s m args below meth c H' locs' cs sl Z (F0 m pc' lc' (r.toList.map (gv V.2.2)))) →
    W p V.1 e R s m args below meth c H locs cs sl Z (F0 m pc lc (st.map (gv V.2.2)))
theorem cat_le {V : VV} {st : List AVal} (h : st.length ≤ 4) : ((st.map (gv V.2.2)).map fun v => v.category).sum ≤ 8 := by
  have key : ∀ l : List AVal, ((l.map (gv V.2.2)).map fun v => v.category).sum ≤ 2 * l.length := by
    intro l
    induction l with
    | nil => simp
    | cons v l ih =>
      have h1 := lv_cat (gv V.2.2 v)
      simp only [List.map_cons, List.sum_cons, List.length_cons]
      omega
  have := key st
  omega
theorem w_native : Cond.native arraycopyName ∈ T0 := T0_at 778 (by decide +kernel) (by decide +kernel)
theorem w_acstatic : Cond.static arraycopyName ∈ T0 := by decide +kernel
theorem w_acinit : Cond.initialized "java/lang/System" ∈ T0 := by decide +kernel
section GO
variable {V : VV} {d : Nat} {M : Mthd} {pc : Nat} {ls : List (Option AVal)} {st : List AVal} {μ : Memo} {Q : Option AVal → Memo → Prop}
theorem Go.mono {Q' : Option AVal → Memo → Prop} (h : Go V d M pc ls st μ Q) (hq : ∀ r μ', Q r μ' → Q' r μ') : Go V d M pc ls st μ Q' :=
  fun p e R s m args below meth c H locs cs sl Z lc A hF hR hS hL hret => h p e R s m args below meth c H locs cs sl Z lc A hF hR hS hL (fun pc' H' locs' lc' r μ' hr => hret pc' H' locs' lc' r μ' (hq r μ' hr))
theorem Go.topi {x : Int32} (k : ∀ y : Int32, y = x → Go V d M pc ls (vI y :: st) μ Q) : Go V d M pc ls (vI x :: st) μ Q := k x rfl
theorem Go.ireturn {x : Int32} (ty : FieldType) (hd : decode M.2.1 pc = .ok (.ireturn, 1)) (hty : M.2.2.2 = some ty) (hn : narrow ty (.int x) = .int x) (hQ : Q (some (vI x)) μ) : Go V d M pc ls [vI x] μ Q :=
  fun p e R s m args below meth c H locs cs sl Z lc A hF hR hS hL hret => hret pc H locs lc (some (vI x)) μ hQ hS (Or.inl ⟨x, ty, rfl, hd, hty, hn⟩)
theorem Go.vreturn (hd : decode M.2.1 pc = .ok (.return_, 1)) (hty : M.2.2.2 = none) (hQ : Q none μ) : Go V d M pc ls [] μ Q :=
  fun p e R s m args below meth c H locs cs sl Z lc A hF hR hS hL hret => hret pc H locs lc none μ hQ hS (Or.inr (Or.inl ⟨rfl, hd, hty⟩))
theorem Go.areturn {i : Nat} {n : String} (hd : decode M.2.1 pc = .ok (.areturn, 1)) (hty : M.2.2.2 = some (.object n)) (hQ : Q (some (vR i)) μ) : Go V d M pc ls [vR i] μ Q :=
  fun p e R s m args below meth c H locs cs sl Z lc A hF hR hS hL hret => hret pc H locs lc (some (vR i)) μ hQ hS (Or.inr (Or.inr ⟨i, n, rfl, hd, hty⟩))
theorem Go.iconst {n : Int} {v : Int32} (hd : decode M.2.1 pc = .ok (.iconst n, 1)) (hv : Int32.ofInt n = v) (k : Go V d M (pc + 1) ls (vI v :: st) μ Q) : Go V d M pc ls (st) μ Q :=
  fun p e R s m args below meth c H locs cs sl Z lc A hF hR hS hL hret => lv_iconst hF.1 hF.2.1 hd hv (k p e R s m args below meth c H locs cs sl Z lc A hF hR hS hL hret)
theorem Go.bipush {n : Int} {v : Int32} (hd : decode M.2.1 pc = .ok (.bipush n, 2)) (hv : (Int8.ofInt n).toInt32 = v) (k : Go V d M (pc + 2) ls (vI v :: st) μ Q) : Go V d M pc ls (st) μ Q :=
  fun p e R s m args below meth c H locs cs sl Z lc A hF hR hS hL hret => lv_bipush hF.1 hF.2.1 hd hv (k p e R s m args below meth c H locs cs sl Z lc A hF hR hS hL hret)
theorem Go.sipush {n : Int} {v : Int32} (hd : decode M.2.1 pc = .ok (.sipush n, 3)) (hv : (Int16.ofInt n).toInt32 = v) (k : Go V d M (pc + 3) ls (vI v :: st) μ Q) : Go V d M pc ls (st) μ Q :=
  fun p e R s m args below meth c H locs cs sl Z lc A hF hR hS hL hret => lv_sipush hF.1 hF.2.1 hd hv (k p e R s m args below meth c H locs cs sl Z lc A hF hR hS hL hret)
theorem Go.lconst {n : Fin 2} {v : Int64} (hd : decode M.2.1 pc = .ok (.lconst n, 1)) (hv : Int64.ofNat (n : Nat) = v) (k : Go V d M (pc + 1) ls (vL v :: st) μ Q) : Go V d M pc ls (st) μ Q :=
  fun p e R s m args below meth c H locs cs sl Z lc A hF hR hS hL hret => lv_lconst hF.1 hF.2.1 hd hv (k p e R s m args below meth c H locs cs sl Z lc A hF hR hS hL hret)
theorem Go.ldc {index : Nat} {v : Int32} (hd : decode M.2.1 pc = .ok (.ldc index, 2)) (hw : Cond.constant M.1.cls index v ∈ T0) (k : Go V d M (pc + 2) ls (vI v :: st) μ Q) : Go V d M pc ls (st) μ Q :=
  fun p e R s m args below meth c H locs cs sl Z lc A hF hR hS hL hret => lv_ldc hF.1 hF.2.1 hF.2.2.2.1 (hF.2.2.2.2.1 _ hw) hd (k p e R s m args below meth c H locs cs sl Z lc A hF hR hS hL hret)
theorem Go.ldc_w {index : Nat} {v : Int32} (hd : decode M.2.1 pc = .ok (.ldc_w index, 3)) (hw : Cond.constant M.1.cls index v ∈ T0) (k : Go V d M (pc + 3) ls (vI v :: st) μ Q) : Go V d M pc ls (st) μ Q :=
  fun p e R s m args below meth c H locs cs sl Z lc A hF hR hS hL hret => lv_ldcw hF.1 hF.2.1 hF.2.2.2.1 (hF.2.2.2.2.1 _ hw) hd (k p e R s m args below meth c H locs cs sl Z lc A hF hR hS hL hret)
theorem Go.ldc2 {index : Nat} {v : Int64} (hd : decode M.2.1 pc = .ok (.ldc2_w index, 3)) (hw : Cond.constantLong M.1.cls index v ∈ T0) (k : Go V d M (pc + 3) ls (vL v :: st) μ Q) : Go V d M pc ls (st) μ Q :=
  fun p e R s m args below meth c H locs cs sl Z lc A hF hR hS hL hret => lv_ldc2 hF.1 hF.2.1 hF.2.2.2.1 (hF.2.2.2.2.1 _ hw) hd (k p e R s m args below meth c H locs cs sl Z lc A hF hR hS hL hret)
theorem Go.iload_n {k0 : Fin 4} {x : Int32} (hd : decode M.2.1 pc = .ok (.iload_n k0, 1)) (hl : ls[(k0 : Nat)]? = some (some (vI x))) (k : Go V d M (pc + 1) ls (vI x :: st) μ Q) : Go V d M pc ls (st) μ Q :=
  fun p e R s m args below meth c H locs cs sl Z lc A hF hR hS hL hret => lv_iload_n hF.1 hF.2.1 hd rfl (hL.2.2 _ (toL_mem.mpr ⟨_, hl, rfl⟩)) (k p e R s m args below meth c H locs cs sl Z lc A hF hR hS hL hret)
theorem Go.iload {i : Nat} {x : Int32} (hd : decode M.2.1 pc = .ok (.iload i, 2)) (hl : ls[i]? = some (some (vI x))) (k : Go V d M (pc + 2) ls (vI x :: st) μ Q) : Go V d M pc ls (st) μ Q :=
  fun p e R s m args below meth c H locs cs sl Z lc A hF hR hS hL hret => lv_iload hF.1 hF.2.1 hd (hL.2.2 _ (toL_mem.mpr ⟨_, hl, rfl⟩)) (k p e R s m args below meth c H locs cs sl Z lc A hF hR hS hL hret)
theorem Go.lload_n {k0 : Fin 4} {x : Int64} (hd : decode M.2.1 pc = .ok (.lload_n k0, 1)) (hl : ls[(k0 : Nat)]? = some (some (vL x))) (k : Go V d M (pc + 1) ls (vL x :: st) μ Q) : Go V d M pc ls (st) μ Q :=
  fun p e R s m args below meth c H locs cs sl Z lc A hF hR hS hL hret => lv_lload_n hF.1 hF.2.1 hd rfl (hL.2.2 _ (toL_mem.mpr ⟨_, hl, rfl⟩)) (k p e R s m args below meth c H locs cs sl Z lc A hF hR hS hL hret)
theorem Go.lload {i : Nat} {x : Int64} (hd : decode M.2.1 pc = .ok (.lload i, 2)) (hl : ls[i]? = some (some (vL x))) (k : Go V d M (pc + 2) ls (vL x :: st) μ Q) : Go V d M pc ls (st) μ Q :=
  fun p e R s m args below meth c H locs cs sl Z lc A hF hR hS hL hret => lv_lload hF.1 hF.2.1 hd (hL.2.2 _ (toL_mem.mpr ⟨_, hl, rfl⟩)) (k p e R s m args below meth c H locs cs sl Z lc A hF hR hS hL hret)
theorem Go.aload_n {k0 : Fin 4} {x : Nat} (hd : decode M.2.1 pc = .ok (.aload_n k0, 1)) (hl : ls[(k0 : Nat)]? = some (some (vR x))) (k : Go V d M (pc + 1) ls (vR x :: st) μ Q) : Go V d M pc ls (st) μ Q :=
  fun p e R s m args below meth c H locs cs sl Z lc A hF hR hS hL hret => lv_aload_n hF.1 hF.2.1 hd rfl (hL.2.2 _ (toL_mem.mpr ⟨_, hl, rfl⟩)) (k p e R s m args below meth c H locs cs sl Z lc A hF hR hS hL hret)
theorem Go.aload {i : Nat} {x : Nat} (hd : decode M.2.1 pc = .ok (.aload i, 2)) (hl : ls[i]? = some (some (vR x))) (k : Go V d M (pc + 2) ls (vR x :: st) μ Q) : Go V d M pc ls (st) μ Q :=
  fun p e R s m args below meth c H locs cs sl Z lc A hF hR hS hL hret => lv_aload hF.1 hF.2.1 hd (hL.2.2 _ (toL_mem.mpr ⟨_, hl, rfl⟩)) (k p e R s m args below meth c H locs cs sl Z lc A hF hR hS hL hret)
theorem Go.istore_n {k0 : Fin 4} {x : Int32} {ls' : List (Option AVal)} (hd : decode M.2.1 pc = .ok (.istore_n k0, 1)) (hn : (k0 : Nat) < M.2.2.1) (hl : lset ls (k0 : Nat) (vI x) = some ls') (k : Go V d M (pc + 1) ls' st μ Q) : Go V d M pc ls (vI x :: st) μ Q :=
  fun p e R s m args below meth c H locs cs sl Z lc A hF hR hS hL hret => lv_istore_n hF.1 hF.2.1 hd rfl hL hn rfl (fun lc2 h2 => k p e R s m args below meth c H locs cs sl Z lc2 A hF hR hS (lset_has hl h2) hret)
theorem Go.istore {i : Nat} {x : Int32} {ls' : List (Option AVal)} (hd : decode M.2.1 pc = .ok (.istore i, 2)) (hn : i < M.2.2.1) (hl : lset ls i (vI x) = some ls') (k : Go V d M (pc + 2) ls' st μ Q) : Go V d M pc ls (vI x :: st) μ Q :=
  fun p e R s m args below meth c H locs cs sl Z lc A hF hR hS hL hret => lv_istore hF.1 hF.2.1 hd hL hn rfl (fun lc2 h2 => k p e R s m args below meth c H locs cs sl Z lc2 A hF hR hS (lset_has hl h2) hret)
theorem Go.astore_n {k0 : Fin 4} {x : Nat} {ls' : List (Option AVal)} (hd : decode M.2.1 pc = .ok (.astore_n k0, 1)) (hn : (k0 : Nat) < M.2.2.1) (hl : lset ls (k0 : Nat) (vR x) = some ls') (k : Go V d M (pc + 1) ls' st μ Q) : Go V d M pc ls (vR x :: st) μ Q :=
  fun p e R s m args below meth c H locs cs sl Z lc A hF hR hS hL hret => lv_astore_n hF.1 hF.2.1 hd rfl hL hn rfl (fun lc2 h2 => k p e R s m args below meth c H locs cs sl Z lc2 A hF hR hS (lset_has hl h2) hret)
theorem Go.astore {i : Nat} {x : Nat} {ls' : List (Option AVal)} (hd : decode M.2.1 pc = .ok (.astore i, 2)) (hn : i < M.2.2.1) (hl : lset ls i (vR x) = some ls') (k : Go V d M (pc + 2) ls' st μ Q) : Go V d M pc ls (vR x :: st) μ Q :=
  fun p e R s m args below meth c H locs cs sl Z lc A hF hR hS hL hret => lv_astore hF.1 hF.2.1 hd hL hn rfl (fun lc2 h2 => k p e R s m args below meth c H locs cs sl Z lc2 A hF hR hS (lset_has hl h2) hret)
theorem Go.iinc {i : Nat} {n : Int} {x v : Int32} {ls' : List (Option AVal)} (hd : decode M.2.1 pc = .ok (.iinc i n, 3)) (hx : ls[i]? = some (some (vI x))) (hv : x + Int32.ofInt n = v) (hn : i < M.2.2.1) (hl : lset ls i (vI v) = some ls') (k : Go V d M (pc + 3) ls' st μ Q) : Go V d M pc ls st μ Q := by
  intro p e R s m args below meth c H locs cs sl Z lc A hF hR hS hL hret
  obtain ⟨kx, hkx⟩ := List.getElem?_of_mem (toL_mem.mpr ⟨_, hx, rfl⟩ : (i, gv V.2.2 (vI x)) ∈ toL V ls)
  exact lv_iinc hF.1 hF.2.1 hd hL hkx hv hn rfl (fun lc2 h2 => k p e R s m args below meth c H locs cs sl Z lc2 A hF hR hS (lset_has hl h2) hret)
theorem Go.iadd {x y : Int32} (hd : decode M.2.1 pc = .ok (.iadd, 1)) (k : Go V d M (pc + 1) ls (vI (x + y) :: st) μ Q) : Go V d M pc ls (vI y :: vI x :: st) μ Q :=
  fun p e R s m args below meth c H locs cs sl Z lc A hF hR hS hL hret => lv_iadd hF.1 hF.2.1 hd (k p e R s m args below meth c H locs cs sl Z lc A hF hR hS hL hret)
theorem Go.isub {x y : Int32} (hd : decode M.2.1 pc = .ok (.isub, 1)) (k : Go V d M (pc + 1) ls (vI (x - y) :: st) μ Q) : Go V d M pc ls (vI y :: vI x :: st) μ Q :=
  fun p e R s m args below meth c H locs cs sl Z lc A hF hR hS hL hret => lv_isub hF.1 hF.2.1 hd (k p e R s m args below meth c H locs cs sl Z lc A hF hR hS hL hret)
theorem Go.imul {x y : Int32} (hd : decode M.2.1 pc = .ok (.imul, 1)) (k : Go V d M (pc + 1) ls (vI (x * y) :: st) μ Q) : Go V d M pc ls (vI y :: vI x :: st) μ Q :=
  fun p e R s m args below meth c H locs cs sl Z lc A hF hR hS hL hret => lv_imul hF.1 hF.2.1 hd (k p e R s m args below meth c H locs cs sl Z lc A hF hR hS hL hret)
theorem Go.iand {x y : Int32} (hd : decode M.2.1 pc = .ok (.iand, 1)) (k : Go V d M (pc + 1) ls (vI (x &&& y) :: st) μ Q) : Go V d M pc ls (vI y :: vI x :: st) μ Q :=
  fun p e R s m args below meth c H locs cs sl Z lc A hF hR hS hL hret => lv_iand hF.1 hF.2.1 hd (k p e R s m args below meth c H locs cs sl Z lc A hF hR hS hL hret)
theorem Go.ior {x y : Int32} (hd : decode M.2.1 pc = .ok (.ior, 1)) (k : Go V d M (pc + 1) ls (vI (x ||| y) :: st) μ Q) : Go V d M pc ls (vI y :: vI x :: st) μ Q :=
  fun p e R s m args below meth c H locs cs sl Z lc A hF hR hS hL hret => lv_ior hF.1 hF.2.1 hd (k p e R s m args below meth c H locs cs sl Z lc A hF hR hS hL hret)
theorem Go.ixor {x y : Int32} (hd : decode M.2.1 pc = .ok (.ixor, 1)) (k : Go V d M (pc + 1) ls (vI (x ^^^ y) :: st) μ Q) : Go V d M pc ls (vI y :: vI x :: st) μ Q :=
  fun p e R s m args below meth c H locs cs sl Z lc A hF hR hS hL hret => lv_ixor hF.1 hF.2.1 hd (k p e R s m args below meth c H locs cs sl Z lc A hF hR hS hL hret)
theorem Go.ishl {x y : Int32} (hd : decode M.2.1 pc = .ok (.ishl, 1)) (k : Go V d M (pc + 1) ls (vI (x <<< (y &&& 31)) :: st) μ Q) : Go V d M pc ls (vI y :: vI x :: st) μ Q :=
  fun p e R s m args below meth c H locs cs sl Z lc A hF hR hS hL hret => lv_ishl hF.1 hF.2.1 hd (k p e R s m args below meth c H locs cs sl Z lc A hF hR hS hL hret)
theorem Go.ishr {x y : Int32} (hd : decode M.2.1 pc = .ok (.ishr, 1)) (k : Go V d M (pc + 1) ls (vI (x >>> (y &&& 31)) :: st) μ Q) : Go V d M pc ls (vI y :: vI x :: st) μ Q :=
  fun p e R s m args below meth c H locs cs sl Z lc A hF hR hS hL hret => lv_ishr hF.1 hF.2.1 hd (k p e R s m args below meth c H locs cs sl Z lc A hF hR hS hL hret)
theorem Go.idiv {x y : Int32} (hd : decode M.2.1 pc = .ok (.idiv, 1)) (hne : ¬ y = 0) (k : Go V d M (pc + 1) ls (vI (x / y) :: st) μ Q) : Go V d M pc ls (vI y :: vI x :: st) μ Q :=
  fun p e R s m args below meth c H locs cs sl Z lc A hF hR hS hL hret => lv_idiv hF.1 hF.2.1 hd hne (k p e R s m args below meth c H locs cs sl Z lc A hF hR hS hL hret)
theorem Go.irem {x y : Int32} (hd : decode M.2.1 pc = .ok (.irem, 1)) (hne : ¬ y = 0) (k : Go V d M (pc + 1) ls (vI (x - x / y * y) :: st) μ Q) : Go V d M pc ls (vI y :: vI x :: st) μ Q :=
  fun p e R s m args below meth c H locs cs sl Z lc A hF hR hS hL hret => lv_irem hF.1 hF.2.1 hd hne (k p e R s m args below meth c H locs cs sl Z lc A hF hR hS hL hret)
theorem Go.iushr {x y : Int32} (hd : decode M.2.1 pc = .ok (.iushr, 1)) (k : Go V d M (pc + 1) ls (vI ((x.toUInt32 >>> (y.toUInt32 &&& Int32.toUInt32 31)).toInt32) :: st) μ Q) : Go V d M pc ls (vI y :: vI x :: st) μ Q :=
  fun p e R s m args below meth c H locs cs sl Z lc A hF hR hS hL hret => lv_iushr hF.1 hF.2.1 hd rfl (k p e R s m args below meth c H locs cs sl Z lc A hF hR hS hL hret)
theorem Go.ineg {x : Int32} (hd : decode M.2.1 pc = .ok (.ineg, 1)) (k : Go V d M (pc + 1) ls (vI (-x) :: st) μ Q) : Go V d M pc ls (vI x :: st) μ Q :=
  fun p e R s m args below meth c H locs cs sl Z lc A hF hR hS hL hret => lv_ineg hF.1 hF.2.1 hd (k p e R s m args below meth c H locs cs sl Z lc A hF hR hS hL hret)
theorem Go.i2l {x : Int32} (hd : decode M.2.1 pc = .ok (.i2l, 1)) (k : Go V d M (pc + 1) ls (vL x.toInt64 :: st) μ Q) : Go V d M pc ls (vI x :: st) μ Q :=
  fun p e R s m args below meth c H locs cs sl Z lc A hF hR hS hL hret => lv_i2l hF.1 hF.2.1 hd rfl (k p e R s m args below meth c H locs cs sl Z lc A hF hR hS hL hret)
theorem Go.i2s {x : Int32} (hd : decode M.2.1 pc = .ok (.i2s, 1)) (k : Go V d M (pc + 1) ls (vI x.toInt16.toInt32 :: st) μ Q) : Go V d M pc ls (vI x :: st) μ Q :=
  fun p e R s m args below meth c H locs cs sl Z lc A hF hR hS hL hret => lv_i2s hF.1 hF.2.1 hd rfl (k p e R s m args below meth c H locs cs sl Z lc A hF hR hS hL hret)
theorem Go.i2b {x : Int32} (hd : decode M.2.1 pc = .ok (.i2b, 1)) (k : Go V d M (pc + 1) ls (vI x.toInt8.toInt32 :: st) μ Q) : Go V d M pc ls (vI x :: st) μ Q :=
  fun p e R s m args below meth c H locs cs sl Z lc A hF hR hS hL hret => lv_i2b hF.1 hF.2.1 hd rfl (k p e R s m args below meth c H locs cs sl Z lc A hF hR hS hL hret)
theorem Go.i2c {x : Int32} (hd : decode M.2.1 pc = .ok (.i2c, 1)) (k : Go V d M (pc + 1) ls (vI (x.toUInt32 % 65536).toInt32 :: st) μ Q) : Go V d M pc ls (vI x :: st) μ Q :=
  fun p e R s m args below meth c H locs cs sl Z lc A hF hR hS hL hret => lv_i2c hF.1 hF.2.1 hd rfl (k p e R s m args below meth c H locs cs sl Z lc A hF hR hS hL hret)
theorem Go.ladd {x y : Int64} (hd : decode M.2.1 pc = .ok (.ladd, 1)) (k : Go V d M (pc + 1) ls (vL (x + y) :: st) μ Q) : Go V d M pc ls (vL y :: vL x :: st) μ Q :=
  fun p e R s m args below meth c H locs cs sl Z lc A hF hR hS hL hret => lv_ladd hF.1 hF.2.1 hd (k p e R s m args below meth c H locs cs sl Z lc A hF hR hS hL hret)
theorem Go.lcmp {x y : Int64} (hd : decode M.2.1 pc = .ok (.lcmp, 1)) (k : Go V d M (pc + 1) ls (vI (lg_cmp x y) :: st) μ Q) : Go V d M pc ls (vL y :: vL x :: st) μ Q :=
  fun p e R s m args below meth c H locs cs sl Z lc A hF hR hS hL hret => W.lcmp hF.1 hF.2.1 hd (k p e R s m args below meth c H locs cs sl Z lc A hF hR hS hL hret)
theorem Go.dup {x : Int32} (hd : decode M.2.1 pc = .ok (.dup, 1)) (k : Go V d M (pc + 1) ls (vI x :: vI x :: st) μ Q) : Go V d M pc ls (vI x :: st) μ Q :=
  fun p e R s m args below meth c H locs cs sl Z lc A hF hR hS hL hret => lv_dup hF.1 hF.2.1 hd rfl (k p e R s m args below meth c H locs cs sl Z lc A hF hR hS hL hret)
theorem Go.dupR {x : Nat} (hd : decode M.2.1 pc = .ok (.dup, 1)) (k : Go V d M (pc + 1) ls (vR x :: vR x :: st) μ Q) : Go V d M pc ls (vR x :: st) μ Q :=
  fun p e R s m args below meth c H locs cs sl Z lc A hF hR hS hL hret => lv_dup hF.1 hF.2.1 hd rfl (k p e R s m args below meth c H locs cs sl Z lc A hF hR hS hL hret)
theorem Go.pop {x : Int32} (hd : decode M.2.1 pc = .ok (.pop, 1)) (k : Go V d M (pc + 1) ls (st) μ Q) : Go V d M pc ls (vI x :: st) μ Q :=
  fun p e R s m args below meth c H locs cs sl Z lc A hF hR hS hL hret => lv_pop hF.1 hF.2.1 hd rfl (k p e R s m args below meth c H locs cs sl Z lc A hF hR hS hL hret)
theorem Go.dup2 {x : Int32} {y : Nat} (hd : decode M.2.1 pc = .ok (.dup2, 1)) (k : Go V d M (pc + 1) ls (vI x :: vR y :: vI x :: vR y :: st) μ Q) : Go V d M pc ls (vI x :: vR y :: st) μ Q :=
  fun p e R s m args below meth c H locs cs sl Z lc A hF hR hS hL hret => lv_dup2_11 hF.1 hF.2.1 hd rfl rfl (k p e R s m args below meth c H locs cs sl Z lc A hF hR hS hL hret)
theorem Go.if_eq {x : Int32} {off : Int} {tgt : Nat} (hd : decode M.2.1 pc = .ok (.ifCond .eq off, 3)) (ht : (pc : Int) + off = (tgt : Int)) (kt : x = 0 → Go V d M tgt ls st μ Q) (kf : ¬ x = 0 → Go V d M (pc + 3) ls st μ Q) : Go V d M pc ls (vI x :: st) μ Q :=
  fun p e R s m args below meth c H locs cs sl Z lc A hF hR hS hL hret => lv_if_eq hF.1 hF.2.1 hd ht (fun hc => kt hc p e R s m args below meth c H locs cs sl Z lc A hF hR hS hL hret) (fun hc => kf hc p e R s m args below meth c H locs cs sl Z lc A hF hR hS hL hret)
theorem Go.icmp_eq {x y : Int32} {off : Int} {tgt : Nat} (hd : decode M.2.1 pc = .ok (.if_icmp .eq off, 3)) (ht : (pc : Int) + off = (tgt : Int)) (kt : x = y → Go V d M tgt ls st μ Q) (kf : ¬ x = y → Go V d M (pc + 3) ls st μ Q) : Go V d M pc ls (vI y :: vI x :: st) μ Q :=
  fun p e R s m args below meth c H locs cs sl Z lc A hF hR hS hL hret => lv_icmp_eq hF.1 hF.2.1 hd ht (fun hc => kt hc p e R s m args below meth c H locs cs sl Z lc A hF hR hS hL hret) (fun hc => kf hc p e R s m args below meth c H locs cs sl Z lc A hF hR hS hL hret)
theorem Go.if_ne {x : Int32} {off : Int} {tgt : Nat} (hd : decode M.2.1 pc = .ok (.ifCond .ne off, 3)) (ht : (pc : Int) + off = (tgt : Int)) (kt : ¬ x = 0 → Go V d M tgt ls st μ Q) (kf : x = 0 → Go V d M (pc + 3) ls st μ Q) : Go V d M pc ls (vI x :: st) μ Q :=
  fun p e R s m args below meth c H locs cs sl Z lc A hF hR hS hL hret => lv_if_ne hF.1 hF.2.1 hd ht (fun hc => kt hc p e R s m args below meth c H locs cs sl Z lc A hF hR hS hL hret) (fun hc => kf hc p e R s m args below meth c H locs cs sl Z lc A hF hR hS hL hret)
theorem Go.icmp_ne {x y : Int32} {off : Int} {tgt : Nat} (hd : decode M.2.1 pc = .ok (.if_icmp .ne off, 3)) (ht : (pc : Int) + off = (tgt : Int)) (kt : ¬ x = y → Go V d M tgt ls st μ Q) (kf : x = y → Go V d M (pc + 3) ls st μ Q) : Go V d M pc ls (vI y :: vI x :: st) μ Q :=
  fun p e R s m args below meth c H locs cs sl Z lc A hF hR hS hL hret => lv_icmp_ne hF.1 hF.2.1 hd ht (fun hc => kt hc p e R s m args below meth c H locs cs sl Z lc A hF hR hS hL hret) (fun hc => kf hc p e R s m args below meth c H locs cs sl Z lc A hF hR hS hL hret)
theorem Go.if_lt {x : Int32} {off : Int} {tgt : Nat} (hd : decode M.2.1 pc = .ok (.ifCond .lt off, 3)) (ht : (pc : Int) + off = (tgt : Int)) (kt : x < 0 → Go V d M tgt ls st μ Q) (kf : ¬ x < 0 → Go V d M (pc + 3) ls st μ Q) : Go V d M pc ls (vI x :: st) μ Q :=
  fun p e R s m args below meth c H locs cs sl Z lc A hF hR hS hL hret => lv_if_lt hF.1 hF.2.1 hd ht (fun hc => kt hc p e R s m args below meth c H locs cs sl Z lc A hF hR hS hL hret) (fun hc => kf hc p e R s m args below meth c H locs cs sl Z lc A hF hR hS hL hret)
theorem Go.icmp_lt {x y : Int32} {off : Int} {tgt : Nat} (hd : decode M.2.1 pc = .ok (.if_icmp .lt off, 3)) (ht : (pc : Int) + off = (tgt : Int)) (kt : x < y → Go V d M tgt ls st μ Q) (kf : ¬ x < y → Go V d M (pc + 3) ls st μ Q) : Go V d M pc ls (vI y :: vI x :: st) μ Q :=
  fun p e R s m args below meth c H locs cs sl Z lc A hF hR hS hL hret => lv_icmp_lt hF.1 hF.2.1 hd ht (fun hc => kt hc p e R s m args below meth c H locs cs sl Z lc A hF hR hS hL hret) (fun hc => kf hc p e R s m args below meth c H locs cs sl Z lc A hF hR hS hL hret)
theorem Go.if_ge {x : Int32} {off : Int} {tgt : Nat} (hd : decode M.2.1 pc = .ok (.ifCond .ge off, 3)) (ht : (pc : Int) + off = (tgt : Int)) (kt : 0 ≤ x → Go V d M tgt ls st μ Q) (kf : ¬ 0 ≤ x → Go V d M (pc + 3) ls st μ Q) : Go V d M pc ls (vI x :: st) μ Q :=
  fun p e R s m args below meth c H locs cs sl Z lc A hF hR hS hL hret => lv_if_ge hF.1 hF.2.1 hd ht (fun hc => kt hc p e R s m args below meth c H locs cs sl Z lc A hF hR hS hL hret) (fun hc => kf hc p e R s m args below meth c H locs cs sl Z lc A hF hR hS hL hret)
theorem Go.icmp_ge {x y : Int32} {off : Int} {tgt : Nat} (hd : decode M.2.1 pc = .ok (.if_icmp .ge off, 3)) (ht : (pc : Int) + off = (tgt : Int)) (kt : y ≤ x → Go V d M tgt ls st μ Q) (kf : ¬ y ≤ x → Go V d M (pc + 3) ls st μ Q) : Go V d M pc ls (vI y :: vI x :: st) μ Q :=
  fun p e R s m args below meth c H locs cs sl Z lc A hF hR hS hL hret => lv_icmp_ge hF.1 hF.2.1 hd ht (fun hc => kt hc p e R s m args below meth c H locs cs sl Z lc A hF hR hS hL hret) (fun hc => kf hc p e R s m args below meth c H locs cs sl Z lc A hF hR hS hL hret)
theorem Go.if_gt {x : Int32} {off : Int} {tgt : Nat} (hd : decode M.2.1 pc = .ok (.ifCond .gt off, 3)) (ht : (pc : Int) + off = (tgt : Int)) (kt : 0 < x → Go V d M tgt ls st μ Q) (kf : ¬ 0 < x → Go V d M (pc + 3) ls st μ Q) : Go V d M pc ls (vI x :: st) μ Q :=
  fun p e R s m args below meth c H locs cs sl Z lc A hF hR hS hL hret => lv_if_gt hF.1 hF.2.1 hd ht (fun hc => kt hc p e R s m args below meth c H locs cs sl Z lc A hF hR hS hL hret) (fun hc => kf hc p e R s m args below meth c H locs cs sl Z lc A hF hR hS hL hret)
theorem Go.icmp_gt {x y : Int32} {off : Int} {tgt : Nat} (hd : decode M.2.1 pc = .ok (.if_icmp .gt off, 3)) (ht : (pc : Int) + off = (tgt : Int)) (kt : y < x → Go V d M tgt ls st μ Q) (kf : ¬ y < x → Go V d M (pc + 3) ls st μ Q) : Go V d M pc ls (vI y :: vI x :: st) μ Q :=
  fun p e R s m args below meth c H locs cs sl Z lc A hF hR hS hL hret => lv_icmp_gt hF.1 hF.2.1 hd ht (fun hc => kt hc p e R s m args below meth c H locs cs sl Z lc A hF hR hS hL hret) (fun hc => kf hc p e R s m args below meth c H locs cs sl Z lc A hF hR hS hL hret)
theorem Go.if_le {x : Int32} {off : Int} {tgt : Nat} (hd : decode M.2.1 pc = .ok (.ifCond .le off, 3)) (ht : (pc : Int) + off = (tgt : Int)) (kt : x ≤ 0 → Go V d M tgt ls st μ Q) (kf : ¬ x ≤ 0 → Go V d M (pc + 3) ls st μ Q) : Go V d M pc ls (vI x :: st) μ Q :=
  fun p e R s m args below meth c H locs cs sl Z lc A hF hR hS hL hret => lv_if_le hF.1 hF.2.1 hd ht (fun hc => kt hc p e R s m args below meth c H locs cs sl Z lc A hF hR hS hL hret) (fun hc => kf hc p e R s m args below meth c H locs cs sl Z lc A hF hR hS hL hret)
theorem Go.icmp_le {x y : Int32} {off : Int} {tgt : Nat} (hd : decode M.2.1 pc = .ok (.if_icmp .le off, 3)) (ht : (pc : Int) + off = (tgt : Int)) (kt : x ≤ y → Go V d M tgt ls st μ Q) (kf : ¬ x ≤ y → Go V d M (pc + 3) ls st μ Q) : Go V d M pc ls (vI y :: vI x :: st) μ Q :=
  fun p e R s m args below meth c H locs cs sl Z lc A hF hR hS hL hret => lv_icmp_le hF.1 hF.2.1 hd ht (fun hc => kt hc p e R s m args below meth c H locs cs sl Z lc A hF hR hS hL hret) (fun hc => kf hc p e R s m args below meth c H locs cs sl Z lc A hF hR hS hL hret)
theorem Go.goto {off : Int} {tgt : Nat} (hd : decode M.2.1 pc = .ok (.goto off, 3)) (ht : (pc : Int) + off = (tgt : Int)) (k : Go V d M tgt ls st μ Q) : Go V d M pc ls st μ Q :=
  fun p e R s m args below meth c H locs cs sl Z lc A hF hR hS hL hret => lv_goto hF.1 hF.2.1 hd ht (k p e R s m args below meth c H locs cs sl Z lc A hF hR hS hL hret)
theorem Go.tswD {dflt lo hi : Int} {offs : Array Int} {len : Nat} {x : Int32} {tgt : Nat} (hd : decode M.2.1 pc = .ok (.tableswitch dflt lo hi offs, len)) (h : x.toInt < lo ∨ hi < x.toInt) (ht : (pc : Int) + dflt = (tgt : Int)) (k : Go V d M tgt ls st μ Q) : Go V d M pc ls (vI x :: st) μ Q :=
  fun p e R s m args below meth c H locs cs sl Z lc A hF hR hS hL hret => lv_tableOut hF.1 hF.2.1 hd h ht (k p e R s m args below meth c H locs cs sl Z lc A hF hR hS hL hret)
theorem Go.tsw {dflt lo hi : Int} {offs : Array Int} {len : Nat} {x : Int32} {off : Int} {tgt : Nat} (v : Int32) (hx : x = v) (hd : decode M.2.1 pc = .ok (.tableswitch dflt lo hi offs, len)) (h1 : ¬ v.toInt < lo) (h2 : ¬ hi < v.toInt) (ho : offs[(v.toInt - lo).toNat]? = some off) (ht : (pc : Int) + off = (tgt : Int)) (k : Go V d M tgt ls st μ Q) : Go V d M pc ls (vI x :: st) μ Q := by
  subst hx
  exact fun p e R s m args below meth c H locs cs sl Z lc A hF hR hS hL hret => lv_tableIn hF.1 hF.2.1 hd h1 h2 ho ht (k p e R s m args below meth c H locs cs sl Z lc A hF hR hS hL hret)
theorem Go.lsw {dflt : Int} {ps : Array (Int × Int)} {len : Nat} {x : Int32} {off : Int} {tgt : Nat} (hd : decode M.2.1 pc = .ok (.lookupswitch dflt ps, len)) (hp : (ps.toList.zip (ps.toList.drop 1)).all (fun (a, next) => a.1 < next.1) = true) (ho : Op.lookupswitch.offset ps.toList dflt x.toInt = off) (ht : (pc : Int) + off = (tgt : Int)) (k : Go V d M tgt ls st μ Q) : Go V d M pc ls (vI x :: st) μ Q :=
  fun p e R s m args below meth c H locs cs sl Z lc A hF hR hS hL hret => lv_lookup hF.1 hF.2.1 hd hp ho ht (k p e R s m args below meth c H locs cs sl Z lc A hF hR hS hL hret)
-- fields
def fld (o k : Nat) : Option (Nat × Option Nat) := match lay[o]? with
  | some (0, c, fs) => (fs[k]?).map (fun q => (c, q))
  | _ => none
theorem fld_of {o k ci : Nat} {q : Option Nat} (h : fld o k = some (ci, q)) : ∃ fs, lay[o]? = some (0, ci, fs) ∧ fs[k]? = some q := by
  unfold fld at h
  split at h
  · rename_i c fs hl
    cases hk : fs[k]? with
    | none => rw [hk] at h; cases h
    | some z => rw [hk] at h; cases h; exact ⟨fs, hl, hk⟩
  · cases h
def FL (own : String) (idx ci k : Nat) : Prop := ci < 8 ∧ k < (cT ci).2.2 ∧ Cond.fieldLink own idx ((cT ci).2.1 k).1 ((cT ci).2.1 k).2.1 ((cT ci).2.1 k).2.2.1 ∈ T0
def ClsOK (ci : Nat) : Prop := clsW[ci]? = some (cT ci) ∧ (∀ w ∈ u_ws (cT ci).1 (cT ci).2.1 (cT ci).2.2, w ∈ T0) ∧ (∀ k, k < (cT ci).2.2 → parseFieldDescriptor ((cT ci).2.1 k).2.2.1 = some (cTy ci k)) ∧ (∀ a, a < (cT ci).2.2 → ∀ b, b < (cT ci).2.2 → a ≠ b → ((cT ci).2.1 a).2.1 ≠ ((cT ci).2.1 b).2.1)
theorem cls_ok : ∀ ci, ci < 8 → ClsOK ci
  | 0, _ => ⟨rfl, by decide +kernel, tyX1_ok, nmX1⟩
  | 1, _ => ⟨rfl, by decide +kernel, tyX3_ok, nmX3⟩
  | 2, _ => ⟨rfl, by decide +kernel, tyX4_ok, nmX4⟩
  | 3, _ => ⟨rfl, by decide +kernel, tyX5_ok, nmX5⟩
  | 4, _ => ⟨rfl, by decide +kernel, tyX6_ok, nmX6⟩
  | 5, _ => ⟨rfl, by decide +kernel, tyX7_ok, nmX7⟩
  | 6, _ => ⟨rfl, by decide +kernel, tyX8_ok, nmX8⟩
  | 7, _ => ⟨rfl, by decide +kernel, tyX9_ok, nmX9⟩
  | n + 8, h => absurd h (by omega)
theorem Go.getI {idx o ci k : Nat} (hd : decode M.2.1 pc = .ok (.getfield idx, 3)) (hf : FL M.1.cls idx ci k) (hl : fld o k = some (ci, none)) (kk : Go V d M (pc + 3) ls (vI (μ o k) :: st) μ Q) : Go V d M pc ls (vR o :: st) μ Q := by
  intro p e R s m args below meth c H locs cs sl Z lc A hF hR hS hL hret
  obtain ⟨fs, h1, h2⟩ := fld_of hl
  obtain ⟨c1, c2, c3, c4⟩ := cls_ok ci hf.1
  refine va_get (D := Dv V) (v := .int (μ o k)) hF.1 hF.2.1 hF.2.2.2.2.1 c2 hF.2.2.2.1 hF.2.2.2.2.2.1 hS.1 o (cel_get V μ h1) c1 k hf.2.1 (hF.2.2.2.2.1 _ hf.2.2) (fun _ h9 => h9) ?_ hd (kk p e R s m args below meth c H locs cs sl Z lc A hF hR hS hL hret)
  rw [List.getElem?_mapIdx, h2]
  rfl
theorem Go.getR {idx o ci k r : Nat} (hd : decode M.2.1 pc = .ok (.getfield idx, 3)) (hf : FL M.1.cls idx ci k) (hl : fld o k = some (ci, some r)) (kk : Go V d M (pc + 3) ls (vR r :: st) μ Q) : Go V d M pc ls (vR o :: st) μ Q := by
  intro p e R s m args below meth c H locs cs sl Z lc A hF hR hS hL hret
  obtain ⟨fs, h1, h2⟩ := fld_of hl
  obtain ⟨c1, c2, c3, c4⟩ := cls_ok ci hf.1
  refine va_get (D := Dv V) (v := .ref (V.2.2.1 r)) hF.1 hF.2.1 hF.2.2.2.2.1 c2 hF.2.2.2.1 hF.2.2.2.2.2.1 hS.1 o (cel_get V μ h1) c1 k hf.2.1 (hF.2.2.2.2.1 _ hf.2.2) (fun _ h9 => h9) ?_ hd (kk p e R s m args below meth c H locs cs sl Z lc A hF hR hS hL hret)
  rw [List.getElem?_mapIdx, h2]
  rfl
theorem ent_put {f : Nat → Int32} {ci k : Nat} {fs : List (Option Nat)} (h : fs[k]? = some none) (x : Int32) : (Sum.inr (ci, (fs.mapIdx (fvl V f)).set k (.int x)) : va_E) = entf V (upd f k x) (0, ci, fs) := by
  show _ = Sum.inr (ci, fs.mapIdx (fvl V (upd f k x)))
  congr 2
  apply List.ext_getElem?
  intro j
  by_cases hj : j = k
  · subst hj
    have hlt : j < fs.length := (List.getElem?_eq_some_iff.mp h).1
    rw [List.getElem?_set_self (by rw [List.length_mapIdx]; exact hlt), List.getElem?_mapIdx, h]
    simp [upd, fvl]
  · rw [List.getElem?_set_ne (Ne.symm hj), List.getElem?_mapIdx, List.getElem?_mapIdx]
    cases fs[j]? with
    | none => rfl
    | some q =>
      cases q with
      | none => simp [upd, hj, fvl]
      | some r => rfl
theorem Go.put {idx o ci k : Nat} {x : Int32} (hd : decode M.2.1 pc = .ok (.putfield idx, 3)) (hf : FL M.1.cls idx ci k) (hl : fld o k = some (ci, none)) (hfin : ((cT ci).2.1 k).2.2.2 = false) (hn : narrow (cTy ci k) (.int x) = .int x) (hfit : fits (cTy ci k) (.int x) = true) (kk : Go V d M (pc + 3) ls st (ms μ o k x) Q) : Go V d M pc ls (vI x :: vR o :: st) μ Q := by
  intro p e R s m args below meth c H locs cs sl Z lc A hF hR hS hL hret
  obtain ⟨fs, h1, h2⟩ := fld_of hl
  obtain ⟨c1, c2, c3, c4⟩ := cls_ok ci hf.1
  have hg := cel_get V μ h1
  refine va_put (D := Dv V) (v := .int x) hF.1 hF.2.1 hF.2.2.2.2.1 c2 (cTy ci) c3 c4 hF.2.2.2.1 hF.2.2.2.2.2.1 hS.1 hS.2.1 hS.2.2 o hg c1 k hf.2.1 (hF.2.2.2.2.1 _ hf.2.2) (fun _ h9 => h9) hfin (c3 k hf.2.1) hn hfit (by rw [List.length_mapIdx]; exact (List.getElem?_eq_some_iff.mp h2).1) hd (fun H1 locs1 hP hD hS1 => ?_)
  rw [ent_put h2 x, cel_set V μ h1] at hP hD
  exact kk p e R s m args below meth c H1 locs1 cs sl Z lc A hF hR ⟨hP, hD, hS1⟩ hL hret
-- arrays
def alen (o : Nat) : Option Nat := match lay[o]? with
  | some (1, n, _) => some n
  | _ => none
def aref (o j : Nat) : Option Nat := match lay[o]? with
  | some (t + 2, _, rs) => (rs[j]?).join
  | _ => none
theorem alen_of {o n : Nat} (h : alen o = some n) : ∃ q, lay[o]? = some (1, n, q) := by
  unfold alen at h
  split at h
  · cases h; exact ⟨_, by assumption⟩
  · cases h
theorem lay_small : ∀ q ∈ lay, q.2.1 < 4000 ∧ q.1 < 5 ∧ q.2.2.length < 4000 := by decide +kernel
theorem alen_small {o n : Nat} (h : alen o = some n) : n < 2 ^ 31 := by
  obtain ⟨q, h1⟩ := alen_of h
  exact Nat.lt_trans (lay_small _ (List.mem_of_getElem? h1)).1 (by decide)
theorem aref_of {o j r : Nat} (h : aref o j = some r) : ∃ t n rs, lay[o]? = some (t + 2, n, rs) ∧ rs[j]? = some (some r) := by
  unfold aref at h
  split at h
  · rename_i t n rs hl
    cases hk : rs[j]? with
    | none => rw [hk] at h; cases h
    | some z => rw [hk] at h; cases z with
      | none => cases h
      | some z => cases h; exact ⟨t, n, rs, hl, hk⟩
  · cases h
theorem Go.iaload {o n : Nat} {i : Int32} (j : Nat) (hd : decode M.2.1 pc = .ok (.iaload, 1)) (hl : alen o = some n) (hj : j < n) (hi : i = nI j) (kk : Go V d M (pc + 1) ls (vI (μ o j) :: st) μ Q) : Go V d M pc ls (vI i :: vR o :: st) μ Q := by
  intro p e R s m args below meth c H locs cs sl Z lc A hF hR hS hL hret
  obtain ⟨q, h1⟩ := alen_of hl
  have hs := alen_small hl
  subst hi
  refine va_iald (D := Dv V) hF.1 hF.2.1 hF.2.2.2.2.2.1 hS.1 o 0 (cel_get V μ h1) rfl (vp_in_nI hj hs) hd ?_
  rw [nI_clamp (Nat.lt_trans hj hs)]
  exact kk p e R s m args below meth c H locs cs sl Z lc A hF hR hS hL hret
theorem Go.iastore {o n : Nat} {i x : Int32} (j : Nat) (hd : decode M.2.1 pc = .ok (.iastore, 1)) (hl : alen o = some n) (hj : j < n) (hi : i = nI j) (kk : Go V d M (pc + 1) ls st (ms μ o j x) Q) : Go V d M pc ls (vI x :: vI i :: vR o :: st) μ Q := by
  intro p e R s m args below meth c H locs cs sl Z lc A hF hR hS hL hret
  obtain ⟨q, h1⟩ := alen_of hl
  have hs := alen_small hl
  subst hi
  refine va_iast (D := Dv V) hF.1 hF.2.1 hF.2.2.2.2.2.1 hS.1 hS.2.1 hS.2.2 o 0 (cel_get V μ h1) rfl (vp_in_nI hj hs) hd (fun H1 locs1 hP hD hS1 => ?_)
  rw [nI_clamp (Nat.lt_trans hj hs)] at hP hD
  have hc := cel_set V μ h1 (upd (μ o) j x)
  rw [show (Sum.inl (cAv V 0, n, Sum.inl (upd (μ o) j x)) : va_E) = entf V (upd (μ o) j x) (1, n, q) from rfl, hc] at hP hD
  exact kk p e R s m args below meth c H1 locs1 cs sl Z lc A hF hR ⟨hP, hD, hS1⟩ hL hret
theorem Go.alength {o n : Nat} (hd : decode M.2.1 pc = .ok (.arraylength, 1)) (hl : alen o = some n) (kk : Go V d M (pc + 1) ls (vI (nI n) :: st) μ Q) : Go V d M pc ls (vR o :: st) μ Q := by
  intro p e R s m args below meth c H locs cs sl Z lc A hF hR hS hL hret
  obtain ⟨q, h1⟩ := alen_of hl
  exact va_alen (D := Dv V) (v := nI n) hF.1 hF.2.1 hF.2.2.2.2.2.1 hS.1 o 0 (cel_get V μ h1) rfl rfl hd (kk p e R s m args below meth c H locs cs sl Z lc A hF hR hS hL hret)
theorem Go.aaload {o r : Nat} {i : Int32} (j : Nat) (hd : decode M.2.1 pc = .ok (.aaload, 1)) (hl : aref o j = some r) (hi : i = nI j) (kk : Go V d M (pc + 1) ls (vR r :: st) μ Q) : Go V d M pc ls (vI i :: vR o :: st) μ Q := by
  intro p e R s m args below meth c H locs cs sl Z lc A hF hR hS hL hret
  obtain ⟨t, n, rs, h1, h2⟩ := aref_of hl
  have hj : j < rs.length := (List.getElem?_eq_some_iff.mp h2).1
  obtain ⟨-, ht5, hs5⟩ := lay_small _ (List.mem_of_getElem? h1)
  have hs : rs.length < 2 ^ 31 := Nat.lt_trans hs5 (by decide)
  subst hi
  have hv : va_rf ((fun j => (rs.getD j none).map V.2.2.1) (nI j).toNatClampNeg) = .ref (V.2.2.1 r) := by
    rw [nI_clamp (Nat.lt_trans hj hs)]
    show va_rf ((rs.getD j none).map V.2.2.1) = _
    rw [List.getD_eq_getElem?_getD, h2]
    rfl
  have hcell := hS.1 o _ (cel_get V μ h1)
  have hK := hF.2.2.2.2.2.1.2
  have go : ∀ (ty : FieldType), ty.isReference = true → (tysW V)[t + 1]? = some (cAv V (t + 1), ty) → W p V.1 e R s m args below meth c H locs cs sl Z (F0 m pc lc (.int (nI j) :: .ref (V.2.2.1 o) :: st.map (gv V.2.2))) := by
    intro ty hty htt
    refine W.aald (ty := ty) (v := .ref (V.2.2.1 r)) hF.1 hF.2.1 hcell ((hK (t + 1) _ htt).1 rs.length (fun j => va_rf ((rs.getD j none).map V.2.2.1))) hty (fun q => by cases q) (by show ¬ (nI j < 0 ∨ (arrV _ _ _).slots.size ≤ _); rw [arrV_size]; exact vp_in_nI hj hs) ?_ rfl rfl hd (kk p e R s m args below meth c H locs cs sl Z lc A hF hR hS hL hret)
    show (arrV _ _ _).slots[_]? = _
    rw [arrV_read _ _ (by rw [nI_clamp (Nat.lt_trans hj hs)]; exact hj)]
    exact congrArg some hv
  match t, ht5, go with
  | 0, _, go => exact go (.object RX5) rfl rfl
  | 1, _, go => exact go (.object RX6) rfl rfl
  | 2, _, go => exact go (.array .int) rfl rfl
  | t + 3, h, _ => exact absurd h (by omega)
-- what nobody writes
def roA (S : Scr) (o : Nat) : Option Scr := if o = 200 then some (6, seaC) else if o = 220 then some S else none
theorem ro_T {A : Nat → Prop} {s : State} {H : Heap} {o n : Nat} {f : Nat → Int32} (h : ROW V A s H) (hl : roA V.2.1 o = some (n, f)) : va_T .int (V.2.2.1 o) n (fun j => .int (f j)) A s H := by
  unfold roA at hl
  split at hl
  · rename_i e; subst e; cases hl; exact h.1.2
  · split at hl
    · rename_i e; subst e
      have e2 : V.2.1 = (n, f) := Option.some.inj hl
      have := h.2.2.2.2
      rw [e2] at this
      exact this
    · cases hl
theorem Go.ialoadR {o n : Nat} {f : Nat → Int32} {i : Int32} (j : Nat) (hd : decode M.2.1 pc = .ok (.iaload, 1)) (hl : roA V.2.1 o = some (n, f)) (hn : n < 2 ^ 31) (hj : j < n) (hi : i = nI j) (kk : Go V d M (pc + 1) ls (vI (f j) :: st) μ Q) : Go V d M pc ls (vI i :: vR o :: st) μ Q := by
  intro p e R s m args below meth c H locs cs sl Z lc A hF hR hS hL hret
  subst hi
  exact va_ti (v := .int (f j)) hF.1 hF.2.1 (ro_T hF.2.2.2.2.2.2.2 hl) hS.2.2 (vp_in_nI hj hn) (by rw [nI_clamp (Nat.lt_trans hj hn)]) hd (kk p e R s m args below meth c H locs cs sl Z lc A hF hR hS hL hret)
theorem Go.alengthR {o n : Nat} {f : Nat → Int32} (hd : decode M.2.1 pc = .ok (.arraylength, 1)) (hl : roA V.2.1 o = some (n, f)) (kk : Go V d M (pc + 1) ls (vI (nI n) :: st) μ Q) : Go V d M pc ls (vR o :: st) μ Q := by
  intro p e R s m args below meth c H locs cs sl Z lc A hF hR hS hL hret
  exact va_tlen (v := nI n) hF.1 hF.2.1 (ro_T hF.2.2.2.2.2.2.2 hl) hS.2.2 rfl hd (kk p e R s m args below meth c H locs cs sl Z lc A hF hR hS hL hret)
theorem Go.baload {i : Int32} (q j : Nat) (hd : decode M.2.1 pc = .ok (.baload, 1)) (hq : q < 6) (hj : j < lenS.getD q 0) (hi : i = nI j) (kk : Go V d M (pc + 1) ls (vI ((bytS.getD q []).getD j 0) :: st) μ Q) : Go V d M pc ls (vI i :: vR (211 + q) :: st) μ Q := by
  intro p e R s m args below meth c H locs cs sl Z lc A hF hR hS hL hret
  subst hi
  have hsm : ∀ q, q < 6 → lenS.getD q 0 < 2 ^ 31 := by decide
  exact va_tb (v := .int ((bytS.getD q []).getD j 0)) hF.1 hF.2.1 (hF.2.2.2.2.2.2.2.2.2.1.1.1 q hq).2.2.2 hS.2.2 (vp_in_nI hj (hsm q hq)) (by rw [nI_clamp (Nat.lt_trans hj (hsm q hq))]) hd (kk p e R s m args below meth c H locs cs sl Z lc A hF hR hS hL hret)
theorem Go.blength (q : Nat) (hd : decode M.2.1 pc = .ok (.arraylength, 1)) (hq : q < 6) (kk : Go V d M (pc + 1) ls (vI (nI (lenS.getD q 0)) :: st) μ Q) : Go V d M pc ls (vR (211 + q) :: st) μ Q := by
  intro p e R s m args below meth c H locs cs sl Z lc A hF hR hS hL hret
  exact va_tlen (v := nI (lenS.getD q 0)) hF.1 hF.2.1 (hF.2.2.2.2.2.2.2.2.2.1.1.1 q hq).2.2.2 hS.2.2 rfl hd (kk p e R s m args below meth c H locs cs sl Z lc A hF hR hS hL hret)
theorem Go.strValue {idx : Nat} (q : Nat) (hd : decode M.2.1 pc = .ok (.getfield idx, 3)) (hq : q < 6) (hw : Cond.fieldLink M.1.cls idx "java/lang/String" "value" "[B" ∈ T0) (kk : Go V d M (pc + 3) ls (vR (211 + q) :: st) μ Q) : Go V d M pc ls (vR (201 + q) :: st) μ Q := by
  intro p e R s m args below meth c H locs cs sl Z lc A hF hR hS hL hret
  exact vk_getf hF.1 hF.2.1 (hF.2.2.2.2.2.2.2.2.2.1.1.1 q hq).2.2.1 hS.2.2 hF.2.2.2.1 (hF.2.2.2.2.1 _ hw) (fun _ h9 => h9) hd (kk p e R s m args below meth c H locs cs sl Z lc A hF hR hS hL hret)
theorem Go.strCoder {idx : Nat} (q : Nat) (hd : decode M.2.1 pc = .ok (.getfield idx, 3)) (hq : q < 6) (hw : Cond.fieldLink M.1.cls idx "java/lang/String" "coder" "B" ∈ T0) (kk : Go V d M (pc + 3) ls (vI 0 :: st) μ Q) : Go V d M pc ls (vR (201 + q) :: st) μ Q := by
  intro p e R s m args below meth c H locs cs sl Z lc A hF hR hS hL hret
  exact vk_getf hF.1 hF.2.1 (hF.2.2.2.2.2.2.2.2.2.1.1.1 q hq).2.1 hS.2.2 hF.2.2.2.1 (hF.2.2.2.2.1 _ hw) (fun _ h9 => h9) hd (kk p e R s m args below meth c H locs cs sl Z lc A hF hR hS hL hret)
theorem Go.ldcS {idx : Nat} (q : Nat) (hd : decode M.2.1 pc = .ok (.ldc idx, 2)) (hq : q < 6) (hM : M.1.cls = RX4) (hi : strI q = idx) (kk : Go V d M (pc + 2) ls (vR (201 + q) :: st) μ Q) : Go V d M pc ls st μ Q := by
  intro p e R s m args below meth c H locs cs sl Z lc A hF hR hS hL hret
  subst hi
  have hZ := hF.2.2.2.2.2.2.2.2.2.1.2 q hq
  rw [← hM] at hZ
  exact va_ldcS hF.1 hF.2.1 hF.2.2.2.1 hZ hd (kk p e R s m args below meth c H locs cs sl Z lc A hF hR hS hL hret)
theorem Go.getSea {idx : Nat} (hd : decode M.2.1 pc = .ok (.getstatic idx, 3)) (hw : Cond.fieldLink M.1.cls idx "TideIsland" "MOST_OF_SEA" "[I" ∈ T0) (kk : Go V d M (pc + 3) ls (vR 200 :: st) μ Q) : Go V d M pc ls st μ Q := by
  intro p e R s m args below meth c H locs cs sl Z lc A hF hR hS hL hret
  exact va_gets hF.1 hF.2.1 hF.2.2.2.2.2.2.2.1.1 hS.2.2 hF.2.2.2.1 (hF.2.2.2.2.1 _ hw) (fun _ h9 => h9) hd (kk p e R s m args below meth c H locs cs sl Z lc A hF hR hS hL hret)
theorem Go.getCompact {idx : Nat} (hd : decode M.2.1 pc = .ok (.getstatic idx, 3)) (hw : Cond.fieldLink M.1.cls idx "java/lang/String" "COMPACT_STRINGS" "Z" ∈ T0) (kk : Go V d M (pc + 3) ls (vI 1 :: st) μ Q) : Go V d M pc ls st μ Q := by
  intro p e R s m args below meth c H locs cs sl Z lc A hF hR hS hL hret
  exact va_gets hF.1 hF.2.1 hF.2.2.2.2.2.2.2.2.1.1 hS.2.2 hF.2.2.2.1 (hF.2.2.2.2.1 _ hw) (fun _ h9 => h9) hd (kk p e R s m args below meth c H locs cs sl Z lc A hF hR hS hL hret)
theorem Go.getFormatter {idx : Nat} (hd : decode M.2.1 pc = .ok (.getstatic idx, 3)) (hw : Cond.fieldLink M.1.cls idx "jdk/internal/util/Preconditions" "SIOOBE_FORMATTER" "Ljava/util/function/BiFunction;" ∈ T0) (kk : Go V d M (pc + 3) ls (vQ :: st) μ Q) : Go V d M pc ls st μ Q := by
  intro p e R s m args below meth c H locs cs sl Z lc A hF hR hS hL hret
  exact va_gets hF.1 hF.2.1 hF.2.2.2.2.2.2.2.2.1.2.1 hS.2.2 hF.2.2.2.1 (hF.2.2.2.2.1 _ hw) (fun _ h9 => h9) hd (kk p e R s m args below meth c H locs cs sl Z lc A hF hR hS hL hret)
theorem Go.copyi {idx o0 o1 n0 n1 : Nat} {sp dp n : Int32} (a b k : Nat) (hd : decode M.2.1 pc = .ok (.invokestatic idx, 3)) (hw : Cond.methodLink M.1.cls idx arraycopyName ∈ T0) (hl0 : alen o0 = some n0) (hl1 : alen o1 = some n1) (ea : sp = nI a) (eb : dp = nI b) (ek : n = nI k) (h0 : a + k ≤ n0) (h1 : b + k ≤ n1) (hst : st.length ≤ 4)
    (kk : Go V (d + 1) M (pc + 3) ls st (mw μ o1 (va_cpy (μ o0) (μ o1) a b k)) Q) : Go V (d + 1) M pc ls (vI n :: vI dp :: vR o1 :: vI sp :: vR o0 :: st) μ Q := by
  intro p e R s m args below meth c H locs cs sl Z lc A hF hR hS hL hret
  obtain ⟨q0, e0⟩ := alen_of hl0
  obtain ⟨q1, e1⟩ := alen_of hl1
  have s0 := alen_small hl0
  have s1 := alen_small hl1
  subst ea; subst eb; subst ek
  have ca : (nI a).toNatClampNeg = a := nI_clamp (by omega)
  have cb : (nI b).toNatClampNeg = b := nI_clamp (by omega)
  have ck : (nI k).toNatClampNeg = k := nI_clamp (by omega)
  have hcat : ((st.map (gv V.2.2)).map fun v => v.category).sum ≤ 8 := cat_le hst
  refine va_copyi (D := Dv V) (rest := st.map (gv V.2.2)) hF.1 hF.2.1 (by rw [hF.2.2.1]; exact hL.1.symm) hF.2.2.2.1 (hF.2.2.2.2.1 _ hw) (hF.2.2.2.2.1 _ w_native) (hF.2.2.2.2.1 _ w_acstatic) (hF.2.2.2.2.1 _ w_acinit) hF.2.2.2.2.2.1 hS.1 hS.2.1 hS.2.2 o0 o1 0 0 (cel_get V μ e0) (cel_get V μ e1) rfl rfl rfl (nI_pos (by omega)) (nI_pos (by omega)) (nI_pos (by omega)) (by rw [ca, ck]; exact h0) (by rw [cb, ck]; exact h1) (fun i hi => rfl) (by omega) ?_ hd (fun H1 locs1 hP hD hS1 => ?_)
  · have hw5 : nativeFrameWords "java/lang/System" "arraycopy" 5 + 11 ≤ 20 := by decide
    omega
  · rw [ca, cb, ck] at hP hD
    have hc := cel_set V μ e1 (va_cpy (μ o0) (μ o1) a b k)
    rw [show (Sum.inl (cAv V 0, n1, Sum.inl (va_cpy (μ o0) (μ o1) a b k)) : va_E) = entf V (va_cpy (μ o0) (μ o1) a b k) (1, n1, q1) from rfl, hc] at hP hD
    exact kk p e R s m args below meth c H1 locs1 cs sl Z lc A hF hR ⟨hP, hD, hS1⟩ hL hret
end GO
end
section
/-! ===== calls: a callee's Go is a contract of it ===== -/
abbrev wsM (M : Mthd) : List Cond := Cond.code M.1 M.2.1 M.2.2.1 M.2.2.2 :: T0
abbrev rmW (d : Nat) : Room := { frames := d, cells := 0, slots := 0, locals := 40 * d }
def PreW (V : VV) (μ : Memo) (sz : Nat) (U : State) : Prop := U.heap.size = sz ∧ va_P (Dv V) clsW (cel V μ) U.heap ∧ va_K (Dv V) clsW (tysW V) U ∧ va_D (fun _ => True) (cel V μ) ∧ ROW V (va_A (cel V μ) sz) U U.heap
def QgW (V : VV) (Q : Option AVal → Memo → Prop) (A1 : Nat → Prop) : Array Value → State → Outcome → State → Prop := fun _ st oc t => (∃ (r : Option AVal) (μ' : Memo), oc = .returned (r.map (gv V.2.2)) ∧ Q r μ' ∧ va_P (Dv V) clsW (cel V μ') t.heap) ∧ va_F A1 st t
theorem met_of {V : VV} {d : Nat} {M : Mthd} {As : List AVal} {μ : Memo} {Q : Option AVal → Memo → Prop} {sz : Nat} (hq : V.2.2.2.2.2.2.category = 1) (hn : plainName M.1.cls = true) (hlen : (entL As).length ≤ M.2.2.1) (hG : Go V d M 0 (entF M As) [] μ Q) :
    Met V.1 M.1 (wsM M) (rmW d) (va_Pc (As.map (gv V.2.2)) (PreW V μ sz)) (QgW V Q (va_A (cel V μ) sz)) 0 0 (va_A (cel V μ) sz) := by
  refine Met.ofW (cc := M.2.1) (maxL := M.2.2.1) (ret := M.2.2.2) hn rfl ?_
  intro p e s m args below meth c s₁ B hml hv
  obtain ⟨rfl, hsz, hP, hK, hD0, hRO⟩ := hv
  have hts := atoms_spec (ws := wsM M) B.pre
  subst hsz
  have hl := lv_entry (As.map (gv V.2.2)) (n := M.2.2.1) (by rw [entL_len V hq]; exact hlen)
  rw [lg_entry_eq]
  refine hG p e _ s m _ below meth c s.heap [] 0 0 _ _ (va_A (cel V μ) s.heap.size) ⟨B.exec, B.bytes, hml, findClass_of_methodNamed B.named, fun w h => hts w (List.mem_cons_of_mem _ h), hK, fun q h => Or.inr h, hRO⟩ ⟨Nat.le_refl d, Nat.le_refl (40 * d), Nat.le_refl 0, Nat.le_refl 0⟩ ⟨hP, hD0.self, va_S.rf⟩ (entF_has hq hl) ?_
  intro pc' H' locs' lc' r μ' hQ hSt hRet
  have hlocks := B.notSynchronized
  rcases hRet with ⟨x, ty, rfl, hdg, hty, hnar⟩ | ⟨rfl, hdg, hty⟩ | ⟨i, n, rfl, hdg, hty⟩
  · exact W.zret (ty := ty) B.exec B.bytes (B.returns.trans hty) hnar (fun t ht hW => ⟨⟨some (vI x), μ', rfl, hQ, by rw [ht]; exact hSt.1⟩, hSt.2.2.F ht⟩) hSt.2.2.2.2 hdg hlocks
  · exact W.vret B.exec B.bytes (B.returns.trans hty) (fun t ht hW => ⟨⟨none, μ', rfl, hQ, by rw [ht]; exact hSt.1⟩, hSt.2.2.F ht⟩) hSt.2.2.2.2 hdg hlocks
  · exact W.aret (v := .ref (V.2.2.1 i)) B.exec B.bytes (B.returns.trans hty) (Or.inl ⟨n, rfl⟩) (Or.inr ⟨_, rfl⟩) (fun t ht hW => ⟨⟨some (vR i), μ', rfl, hQ, by rw [ht]; exact hSt.1⟩, hSt.2.2.F ht⟩) hSt.2.2.2.2 hdg hlocks
theorem callG {V : VV} {p : Program} {e : Env} {R : Room} {s : State} {m : MethodId} {args : Array Value} {below : List Frame} {meth : Method} {c : Code} {H : Heap} {locs : List Loc} {cs sl : Nat} {Z : State → Prop} {pc : Nat} {lc : Array Slot} {st0 rest : List Value} {Q : Option AVal → Memo → Prop} {A A1 : Nat → Prop} {a : Array Value}
    (hr : va_Run p V.1 e R s m args below meth c H locs cs sl 0 0 (F0 m pc lc st0) rest (QgW V Q A1 a) A1) (hS : va_S A s.heap H locs) (hA : ∀ q, A1 q → A q)
    (kk : ∀ (r : Option AVal) (μ' : Memo) (H1 : Heap) (locs1 : List Loc), Q r μ' → va_P (Dv V) clsW (cel V μ') H1 → va_S A s.heap H1 locs1 → W p V.1 e R s m args below meth c H1 locs1 cs sl Z (F0 m (pc + 3) lc ((r.map (gv V.2.2)).toList ++ rest))) : W p V.1 e R s m args below meth c H locs cs sl Z (F0 m pc lc st0) := by
  intro T hT X
  obtain ⟨v, st₀, t, T', L, h0, X', hL, e1, e2, ⟨⟨r, μ', hv, hq, hp⟩, hz, hk⟩, st⟩ := hr T hT X
  cases hv
  rw [h0] at hz hk
  obtain ⟨t2, a1, b1⟩ := kk r μ' T'.heap (locs ++ L) hq (by rw [e1]; exact hp)
    ⟨Nat.le_trans hS.1 (by rw [e1]; exact hz), fun q h1 h2 => by rw [e1, hk q (Nat.lt_of_lt_of_le h1 hS.1) (fun z => h2 (hA q z))]; exact hS.2.1 q h1 h2, fun q hq => by
      rcases List.mem_append.mp hq with h | h
      · exact hS.2.2 q h
      · exact hA _ (hL q h)⟩ T' rfl X'
  exact ⟨t2, st t2 a1, b1⟩
theorem preW_blind {V : VV} {μ : Memo} {sz : Nat} {av : List Value} : FrameBlind (va_Pc av (PreW V μ sz)) := by
  intro a U g mk h
  obtain ⟨q0, q1, qP, qK, qD, qR⟩ := h
  exact ⟨q0, q1, qP, va_K.moved (u := U) (U := U.calling g mk a) (Vm.Alike.refl U.vm) qK, qD, ROW.same (u := U) (U := U.calling g mk a) rfl qR⟩
theorem freeW {V : VV} {μ : Memo} {p : Program} {s : State} {m : MethodId} {args : Array Value} {c : Code} {A : Nat → Prop} {M : Mthd} {H : Heap} {locs : List Loc} (hF : FixW V p s m args c A M) (hS : StW V μ s H locs A) : ∀ q, va_A (cel V μ) H.size q → A q := by
  intro q h
  rcases h with ⟨k, e, h⟩ | h
  · exact hS.2.1.2 k (q, e) h
  · exact hF.2.2.2.2.2.2.1 q (Nat.le_trans hS.2.2.1 h)
theorem preW_at {V : VV} {μ : Memo} {p : Program} {s : State} {m : MethodId} {args : Array Value} {c : Code} {A : Nat → Prop} {M : Mthd} {H : Heap} {locs : List Loc} (hF : FixW V p s m args c A M) (hS : StW V μ s H locs A) (av : List Value) :
    ∀ U : State, U.heap = H → s.WarmedH U.vm → va_Pc av (PreW V μ H.size) av.toArray U := by
  intro U hU hW
  refine ⟨rfl, by rw [hU], by rw [hU]; exact hS.1, va_K.moved hW.alike hF.2.2.2.2.2.1, hS.2.1.weaken (fun _ _ _ _ => trivial), ?_⟩
  rw [hU]
  exact hF.2.2.2.2.2.2.2.warm hW hS.2.2.2.1 (freeW hF hS)
section CALLS
variable {V : VV} {d : Nat} {M M' : Mthd} {pc idx n : Nat} {ls : List (Option AVal)} {rest : List AVal} {μ : Memo} {Q : Option AVal → Memo → Prop} {As : List AVal}
/-- what the tables say of a callee -/
def MthOK (M' : Mthd) (n : Nat) : Prop := Cond.code M'.1 M'.2.1 M'.2.2.1 M'.2.2.2 ∈ T0 ∧ Cond.initialized M'.1.cls ∈ T0 ∧ (M'.1.cls ≠ "java/lang/invoke/MethodHandle" ∧ M'.1.cls ≠ "java/lang/invoke/VarHandle") ∧ (parseMethodDescriptor M'.1.desc).map (fun d => d.parameters.length) = some n ∧ M'.2.2.1 ≤ 20 ∧ plainName M'.1.cls = true
theorem callB_W {p : Program} {R : Room} {s : State} {m : MethodId} {args : Array Value} {c : Code} {A : Nat → Prop} {cs sl : Nat} (hM : MthOK M' n) (hF : FixW V p s m args c A M) (hR : d + 1 ≤ R.frames ∧ 40 * (d + 1) ≤ R.locals ∧ cs ≤ R.cells ∧ sl ≤ R.slots) :
    (rmW d).cells = 0 ∧ (rmW d).slots = 0 ∧ (rmW d).frames + 1 ≤ R.frames ∧ 8 + (M'.2.2.1 + 11) + (rmW d).locals ≤ R.locals ∧ (∀ w ∈ wsM M', ∀ (a' : Array Value) (U : State), s.WarmedH U.vm → w.before a' U = true) ∧ Cond.code M'.1 M'.2.1 M'.2.2.1 M'.2.2.2 ∈ wsM M' := by
  obtain ⟨h1, h2, h3, h4, h5, h6⟩ := hM
  refine ⟨rfl, rfl, hR.1, ?_, ?_, List.mem_cons_self⟩
  · have := hR.2.1
    show 8 + (M'.2.2.1 + 11) + 40 * d ≤ R.locals
    omega
  · intro w hw a' U hW
    have hT : w ∈ T0 := by
      rcases List.mem_cons.mp hw with rfl | h
      · exact h1
      · exact h
    exact word_at hW (good_of_word (T0_in hT).2) (hF.2.2.2.2.1 w hT)
theorem desc_n {y : MethodName} (h : (parseMethodDescriptor y.desc).map (fun d => d.parameters.length) = some n) : ∀ sig, parseMethodDescriptor y.desc = some sig → n = sig.parameters.length := by
  intro sig hs
  rw [hs] at h
  exact (Option.some.inj h).symm
theorem kont {p : Program} {e : Env} {R : Room} {s : State} {m : MethodId} {args : Array Value} {below : List Frame} {meth : Method} {c : Code} {H : Heap} {locs : List Loc} {cs sl : Nat} {Z : State → Prop} {lc : Array Slot} {A : Nat → Prop} {r : Option AVal} {μ' : Memo}
    (hG : Go V (d + 1) M (pc + 3) ls (r.toList ++ rest) μ' Q) (hF : FixW V p s m args c A M) (hR : d + 1 ≤ R.frames ∧ 40 * (d + 1) ≤ R.locals ∧ cs ≤ R.cells ∧ sl ≤ R.slots) (hD : va_D A (cel V μ)) (hP : va_P (Dv V) clsW (cel V μ') H) (hS : va_S A s.heap H locs) (hL : lv_has lc M.2.2.1 (toL V ls))
    (hret : ∀ (pc' : Nat) (H' : Heap) (locs' : List Loc) (lc' : Array Slot) (r : Option AVal) (μ' : Memo), Q r μ' → StW V μ' s H' locs' A → RetW M pc' r → W p V.1 e R s m args below meth c H' locs' cs sl Z (F0 m pc' lc' (r.toList.map (gv V.2.2)))) :
    W p V.1 e R s m args below meth c H locs cs sl Z (F0 m (pc + 3) lc ((r.map (gv V.2.2)).toList ++ rest.map (gv V.2.2))) := by
  have h := hG p e R s m args below meth c H locs cs sl Z lc A hF hR ⟨hP, cel_D hD, hS⟩ hL hret
  have he : (r.toList ++ rest).map (gv V.2.2) = (r.map (gv V.2.2)).toList ++ rest.map (gv V.2.2) := by
    cases r <;> rfl
  rw [he] at h
  exact h
theorem Go.callS (As rest : List AVal) {st : List AVal} (hd : decode M.2.1 pc = .ok (.invokestatic idx, 3)) (hw : Cond.methodLink M.1.cls idx M'.1 ∈ T0) (hs : Cond.static M'.1 ∈ T0) (hM : MthOK M' n) (hn : As.length = n) (hlen : (entL As).length ≤ M'.2.2.1) (hst : st = As.reverse ++ rest) (hrest : rest.length ≤ 4)
    (k : Go V d M' 0 (entF M' As) [] μ (fun r μ' => Go V (d + 1) M (pc + 3) ls (r.toList ++ rest) μ' Q)) : Go V (d + 1) M pc ls st μ Q := by
  intro p e R s m args below meth c H locs cs sl Z lc A hF hR hS hL hret
  subst hst
  rw [List.map_append, List.map_reverse]
  obtain ⟨b1, b2, b3, b4, b5, b6⟩ := callB_W (d := d) hM hF hR
  refine callG (va_runS (As := As.map (gv V.2.2)) (rest := rest.map (gv V.2.2)) (own := M.1.cls) (Ts := T0) (index := idx) (y := M'.1) (bytes := M'.2.1) (maxL := M'.2.2.1) (ret := M'.2.2.2) (n := n) ⟨hF.1, hF.2.1, hF.2.2.1, hF.2.2.2.1, hF.2.2.2.2.1⟩ (met_of (sz := H.size) hF.2.2.2.2.2.2.2.2.1.2.2 hM.2.2.2.2.2 hlen k) ⟨⟨b1, b2, b3, b4, b5, b6, hF.2.2.2.2.1 _ hM.1, hF.2.2.2.2.1 _ hM.2.1, hM.2.2.1, desc_n hM.2.2.2.1, hF.2.2.2.2.1 _ hw⟩, hF.2.2.2.2.1 _ hs⟩ ⟨preW_blind, preW_at hF hS _⟩ rfl (by rw [List.length_map]; exact hn) hL.1 rfl (lv_room (cat_le hrest)) hd ⟨hR.2.2.1, hR.2.2.2⟩) hS.2.2 (freeW hF hS) ?_
  intro r μ' H1 locs1 hq hP hS1
  exact kont hq hF hR hS.2.1 hP hS1 hL hret
theorem Go.callN (As rest : List AVal) {st : List AVal} (hd : decode M.2.1 pc = .ok (.invokestatic 90, 3)) (hMc : M.1.cls = RX1) (hM1 : M'.1 = yX8_hold) (hs : Cond.static M'.1 ∈ T0) (hM : MthOK M' n) (hn : As.length = n) (hlen : (entL As).length ≤ M'.2.2.1) (hst : st = As.reverse ++ rest) (hrest : rest.length ≤ 4)
    (k : Go V d M' 0 (entF M' As) [] μ (fun r μ' => Go V (d + 1) M (pc + 3) ls (r.toList ++ rest) μ' Q)) : Go V (d + 1) M pc ls st μ Q := by
  intro p e R s m args below meth c H locs cs sl Z lc A hF hR hS hL hret
  subst hst
  rw [List.map_append, List.map_reverse]
  have hNw := hF.2.2.2.2.2.2.2.2.2.2.1
  rw [← hMc, ← hM1] at hNw
  refine callG (va_runSN (As := As.map (gv V.2.2)) (rest := rest.map (gv V.2.2)) (own := M.1.cls) (host := RX8) (Ts := T0) (index := 90) (y := M'.1) (bytes := M'.2.1) (maxL := M'.2.2.1) (ret := M'.2.2.2) (n := n) ⟨hF.1, hF.2.1, hF.2.2.1, hF.2.2.2.1, hF.2.2.2.2.1⟩ (met_of (sz := H.size) hF.2.2.2.2.2.2.2.2.1.2.2 hM.2.2.2.2.2 hlen k) ⟨⟨callB_W (d := d) hM hF hR, hF.2.2.2.2.1 _ hM.1, hF.2.2.2.2.1 _ hM.2.1, hM.2.2.1, desc_n hM.2.2.2.1, va_Nw.use rfl hNw⟩, hF.2.2.2.2.1 _ hs, trivial⟩ ⟨preW_blind, preW_at hF hS _⟩ rfl (by rw [List.length_map]; exact hn) hL.1 rfl (lv_room (cat_le hrest)) hd ⟨hR.2.2.1, hR.2.2.2⟩) hS.2.2 (freeW hF hS) ?_
  intro r μ' H1 locs1 hq hP hS1
  exact kont hq hF hR hS.2.1 hP hS1 hL hret
/-- the receiver's class -/
def rcvOK (o : Nat) (C : String) : Prop := (∃ ci fs q, lay[o]? = some (0, ci, fs) ∧ clsW[ci]? = some q ∧ q.1 = C) ∨ ∃ q, q < 6 ∧ o = 201 + q ∧ C = "java/lang/String"
theorem Go.callV (o : Nat) (As rest : List AVal) {st : List AVal} (hd : decode M.2.1 pc = .ok (.invokevirtual idx, 3)) (hw : Cond.methodLink M.1.cls idx M'.1 ∈ T0) (hi : Cond.instanceMethod M'.1 ∈ T0) (hsel : Cond.selects M'.1.cls M'.1 M'.1 ∈ T0) (hM : MthOK M' n) (hrc : rcvOK o M'.1.cls) (hn : As.length = n) (hlen : (entL (vR o :: As)).length ≤ M'.2.2.1) (hst : st = As.reverse ++ vR o :: rest) (hrest : rest.length ≤ 4)
    (k : Go V d M' 0 (entF M' (vR o :: As)) [] μ (fun r μ' => Go V (d + 1) M (pc + 3) ls (r.toList ++ rest) μ' Q)) : Go V (d + 1) M pc ls st μ Q := by
  intro p e R s m args below meth c H locs cs sl Z lc A hF hR hS hL hret
  subst hst
  rw [List.map_append, List.map_reverse]
  obtain ⟨b1, b2, b3, b4, b5, b6⟩ := callB_W (d := d) hM hF hR
  have hrecv : ∃ cellB : Cell, H[V.2.2.1 o]? = some cellB ∧ cellB.vm.isStatics = false ∧ s.vm.findClass M'.1.cls = some cellB.cls := by
    rcases hrc with ⟨ci, fs, q, h1, h2, h3⟩ | ⟨q, h1, rfl, h3⟩
    · have := va_recv hF.2.2.2.2.2.1 hS.1 h2 (cel_get V μ h1)
      rw [h3] at this
      exact this
    · rw [h3]
      exact vk_recv (adK := fun i => V.2.2.1 (201 + i)) (i := q) hF.2.2.2.2.2.2.2.2.2.1.1 h1 hS.2.2
  refine callG (va_runV (As := As.map (gv V.2.2)) (rest := rest.map (gv V.2.2)) (b := V.2.2.1 o) (C := M'.1.cls) (own := M.1.cls) (Ts := T0) (index := idx) (y := M'.1) (bytes := M'.2.1) (maxL := M'.2.2.1) (ret := M'.2.2.2) (n := n) ⟨hF.1, hF.2.1, hF.2.2.1, hF.2.2.2.1, hF.2.2.2.2.1⟩ (met_of (sz := H.size) hF.2.2.2.2.2.2.2.2.1.2.2 hM.2.2.2.2.2 hlen k) ⟨⟨b1, b2, b3, b4, b5, b6, hF.2.2.2.2.1 _ hM.1, hF.2.2.2.2.1 _ hM.2.1, hM.2.2.1, desc_n hM.2.2.2.1, hF.2.2.2.2.1 _ hw⟩, hF.2.2.2.2.1 _ hi, hF.2.2.2.2.1 _ hsel⟩ ⟨preW_blind, hrecv, preW_at hF hS _⟩ rfl (by rw [List.length_map]; exact hn) hL.1 rfl (lv_room (cat_le hrest)) hd ⟨hR.2.2.1, hR.2.2.2⟩) hS.2.2 (freeW hF hS) ?_
  intro r μ' H1 locs1 hq hP hS1
  exact kont hq hF hR hS.2.1 hP hS1 hL hret
end CALLS
end
