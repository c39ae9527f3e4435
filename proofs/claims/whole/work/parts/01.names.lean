-- ===== PART A: goes FIRST, ahead of the names: the tables' words, and 'selects' of the private methods out of them =====
/-- a private method of a class that the tables say can be made, by its rows of tables_1 -/
def lw_okq (q : MethodName × Nat) : Prop := (q.1.cls ≠ "java/lang/invoke/MethodHandle" ∧ q.1.cls ≠ "java/lang/invoke/VarHandle") ∧ Cond.instantiable q.1.cls q.2 ∈ tables_1 ∧ Cond.privateMethod q.1 ∈ tables_1 ∧ Cond.instanceMethod q.1 ∈ tables_1
theorem lw_p0 : lw_okq (⟨"TideIsland$Laws", "push", "(I)V"⟩, 6) := ⟨⟨by decide +kernel, by decide +kernel⟩, List.mem_of_getElem? (i := 29) (by decide +kernel), List.mem_of_getElem? (i := 308) (by decide +kernel), List.mem_of_getElem? (i := 309) (by decide +kernel)⟩
theorem lw_p1 : lw_okq (⟨"TideIsland$Laws", "pop", "()I"⟩, 6) := ⟨⟨by decide +kernel, by decide +kernel⟩, List.mem_of_getElem? (i := 29) (by decide +kernel), List.mem_of_getElem? (i := 312) (by decide +kernel), List.mem_of_getElem? (i := 313) (by decide +kernel)⟩
theorem lw_p2 : lw_okq (⟨"TideIsland$Island", "plainLevelAt", "(I)I"⟩, 13) := ⟨⟨by decide +kernel, by decide +kernel⟩, List.mem_of_getElem? (i := 59) (by decide +kernel), List.mem_of_getElem? (i := 343) (by decide +kernel), List.mem_of_getElem? (i := 344) (by decide +kernel)⟩
theorem lw_p3 : lw_okq (⟨"TideIsland", "isHouse", "(I)Z"⟩, 11) := ⟨⟨by decide +kernel, by decide +kernel⟩, List.mem_of_getElem? (i := 21) (by decide +kernel), List.mem_of_getElem? (i := 488) (by decide +kernel), List.mem_of_getElem? (i := 489) (by decide +kernel)⟩
theorem lw_p4 : lw_okq (⟨"TideIsland$Island", "growCorn", "(I)V"⟩, 13) := ⟨⟨by decide +kernel, by decide +kernel⟩, List.mem_of_getElem? (i := 59) (by decide +kernel), List.mem_of_getElem? (i := 538) (by decide +kernel), List.mem_of_getElem? (i := 539) (by decide +kernel)⟩
theorem lw_p5 : lw_okq (⟨"TideIsland$Island", "moveHouses", "(I)V"⟩, 13) := ⟨⟨by decide +kernel, by decide +kernel⟩, List.mem_of_getElem? (i := 59) (by decide +kernel), List.mem_of_getElem? (i := 548) (by decide +kernel), List.mem_of_getElem? (i := 549) (by decide +kernel)⟩
theorem lw_p6 : lw_okq (⟨"TideIsland$Island", "drawStorm", "()V"⟩, 13) := ⟨⟨by decide +kernel, by decide +kernel⟩, List.mem_of_getElem? (i := 59) (by decide +kernel), List.mem_of_getElem? (i := 560) (by decide +kernel), List.mem_of_getElem? (i := 561) (by decide +kernel)⟩
theorem lw_p7 : lw_okq (⟨"TideIsland$Reader", "begin", "()V"⟩, 12) := ⟨⟨by decide +kernel, by decide +kernel⟩, List.mem_of_getElem? (i := 136) (by decide +kernel), List.mem_of_getElem? (i := 584) (by decide +kernel), List.mem_of_getElem? (i := 585) (by decide +kernel)⟩
theorem lw_p8 : lw_okq (⟨"TideIsland$Reader", "goOn", "()V"⟩, 12) := ⟨⟨by decide +kernel, by decide +kernel⟩, List.mem_of_getElem? (i := 136) (by decide +kernel), List.mem_of_getElem? (i := 588) (by decide +kernel), List.mem_of_getElem? (i := 589) (by decide +kernel)⟩
theorem lw_p9 : lw_okq (⟨"TideIsland$Reader", "keyHere", "()I"⟩, 12) := ⟨⟨by decide +kernel, by decide +kernel⟩, List.mem_of_getElem? (i := 136) (by decide +kernel), List.mem_of_getElem? (i := 596) (by decide +kernel), List.mem_of_getElem? (i := 597) (by decide +kernel)⟩
theorem lw_p10 : lw_okq (⟨"TideIsland$Reader", "spells", "(Ljava/lang/String;)Z"⟩, 12) := ⟨⟨by decide +kernel, by decide +kernel⟩, List.mem_of_getElem? (i := 136) (by decide +kernel), List.mem_of_getElem? (i := 601) (by decide +kernel), List.mem_of_getElem? (i := 602) (by decide +kernel)⟩
theorem lw_p11 : lw_okq (⟨"TideIsland$Reader", "takePiece", "()Z"⟩, 12) := ⟨⟨by decide +kernel, by decide +kernel⟩, List.mem_of_getElem? (i := 136) (by decide +kernel), List.mem_of_getElem? (i := 660) (by decide +kernel), List.mem_of_getElem? (i := 661) (by decide +kernel)⟩
theorem lw_p12 : lw_okq (⟨"TideIsland$Reader", "push", "(I)V"⟩, 12) := ⟨⟨by decide +kernel, by decide +kernel⟩, List.mem_of_getElem? (i := 136) (by decide +kernel), List.mem_of_getElem? (i := 664) (by decide +kernel), List.mem_of_getElem? (i := 665) (by decide +kernel)⟩
theorem lw_p13 : lw_okq (⟨"TideIsland$Reader", "operandHere", "()I"⟩, 12) := ⟨⟨by decide +kernel, by decide +kernel⟩, List.mem_of_getElem? (i := 136) (by decide +kernel), List.mem_of_getElem? (i := 668) (by decide +kernel), List.mem_of_getElem? (i := 669) (by decide +kernel)⟩
theorem lw_p14 : lw_okq (⟨"TideIsland$Reader", "followsWord", "()Z"⟩, 12) := ⟨⟨by decide +kernel, by decide +kernel⟩, List.mem_of_getElem? (i := 136) (by decide +kernel), List.mem_of_getElem? (i := 672) (by decide +kernel), List.mem_of_getElem? (i := 673) (by decide +kernel)⟩
theorem lw_p15 : lw_okq (⟨"TideIsland$Reader", "numberHere", "()I"⟩, 12) := ⟨⟨by decide +kernel, by decide +kernel⟩, List.mem_of_getElem? (i := 136) (by decide +kernel), List.mem_of_getElem? (i := 676) (by decide +kernel), List.mem_of_getElem? (i := 677) (by decide +kernel)⟩
def lw_privs_1 : List (MethodName × Nat) := [(⟨"TideIsland$Laws", "push", "(I)V"⟩, 6), (⟨"TideIsland$Laws", "pop", "()I"⟩, 6), (⟨"TideIsland$Island", "plainLevelAt", "(I)I"⟩, 13), (⟨"TideIsland", "isHouse", "(I)Z"⟩, 11), (⟨"TideIsland$Island", "growCorn", "(I)V"⟩, 13), (⟨"TideIsland$Island", "moveHouses", "(I)V"⟩, 13), (⟨"TideIsland$Island", "drawStorm", "()V"⟩, 13), (⟨"TideIsland$Reader", "begin", "()V"⟩, 12), (⟨"TideIsland$Reader", "goOn", "()V"⟩, 12), (⟨"TideIsland$Reader", "keyHere", "()I"⟩, 12), (⟨"TideIsland$Reader", "spells", "(Ljava/lang/String;)Z"⟩, 12), (⟨"TideIsland$Reader", "takePiece", "()Z"⟩, 12), (⟨"TideIsland$Reader", "push", "(I)V"⟩, 12), (⟨"TideIsland$Reader", "operandHere", "()I"⟩, 12), (⟨"TideIsland$Reader", "followsWord", "()Z"⟩, 12), (⟨"TideIsland$Reader", "numberHere", "()I"⟩, 12)]
theorem lw_r1 : ∀ q ∈ lw_privs_1, lw_okq q := List.forall_mem_cons.mpr ⟨lw_p0, List.forall_mem_cons.mpr ⟨lw_p1, List.forall_mem_cons.mpr ⟨lw_p2, List.forall_mem_cons.mpr ⟨lw_p3, List.forall_mem_cons.mpr ⟨lw_p4, List.forall_mem_cons.mpr ⟨lw_p5, List.forall_mem_cons.mpr ⟨lw_p6, List.forall_mem_cons.mpr ⟨lw_p7, List.forall_mem_cons.mpr ⟨lw_p8, List.forall_mem_cons.mpr ⟨lw_p9, List.forall_mem_cons.mpr ⟨lw_p10, List.forall_mem_cons.mpr ⟨lw_p11, List.forall_mem_cons.mpr ⟨lw_p12, List.forall_mem_cons.mpr ⟨lw_p13, List.forall_mem_cons.mpr ⟨lw_p14, List.forall_mem_cons.mpr ⟨lw_p15, fun _ h => absurd h List.not_mem_nil⟩⟩⟩⟩⟩⟩⟩⟩⟩⟩⟩⟩⟩⟩⟩⟩
theorem lw_p16 : lw_okq (⟨"TideIsland$Reader", "nameHere", "()I"⟩, 12) := ⟨⟨by decide +kernel, by decide +kernel⟩, List.mem_of_getElem? (i := 136) (by decide +kernel), List.mem_of_getElem? (i := 680) (by decide +kernel), List.mem_of_getElem? (i := 681) (by decide +kernel)⟩
theorem lw_p17 : lw_okq (⟨"TideIsland$Reader", "namesOfKey", "()Ljava/lang/String;"⟩, 12) := ⟨⟨by decide +kernel, by decide +kernel⟩, List.mem_of_getElem? (i := 136) (by decide +kernel), List.mem_of_getElem? (i := 684) (by decide +kernel), List.mem_of_getElem? (i := 685) (by decide +kernel)⟩
theorem lw_p18 : lw_okq (⟨"TideIsland$Reader", "put", "(I)V"⟩, 12) := ⟨⟨by decide +kernel, by decide +kernel⟩, List.mem_of_getElem? (i := 136) (by decide +kernel), List.mem_of_getElem? (i := 746) (by decide +kernel), List.mem_of_getElem? (i := 747) (by decide +kernel)⟩
theorem lw_p19 : lw_okq (⟨"TideIsland$Reader", "endPiece", "()V"⟩, 12) := ⟨⟨by decide +kernel, by decide +kernel⟩, List.mem_of_getElem? (i := 136) (by decide +kernel), List.mem_of_getElem? (i := 750) (by decide +kernel), List.mem_of_getElem? (i := 751) (by decide +kernel)⟩
theorem lw_p20 : lw_okq (⟨"TideIsland$Reader", "topSign", "()I"⟩, 12) := ⟨⟨by decide +kernel, by decide +kernel⟩, List.mem_of_getElem? (i := 136) (by decide +kernel), List.mem_of_getElem? (i := 754) (by decide +kernel), List.mem_of_getElem? (i := 755) (by decide +kernel)⟩
theorem lw_p21 : lw_okq (⟨"TideIsland$Reader", "takeSign", "()Z"⟩, 12) := ⟨⟨by decide +kernel, by decide +kernel⟩, List.mem_of_getElem? (i := 136) (by decide +kernel), List.mem_of_getElem? (i := 758) (by decide +kernel), List.mem_of_getElem? (i := 759) (by decide +kernel)⟩
theorem lw_p22 : lw_okq (⟨"TideIsland$Reader", "closeBracket", "()Z"⟩, 12) := ⟨⟨by decide +kernel, by decide +kernel⟩, List.mem_of_getElem? (i := 136) (by decide +kernel), List.mem_of_getElem? (i := 762) (by decide +kernel), List.mem_of_getElem? (i := 763) (by decide +kernel)⟩
theorem lw_p23 : lw_okq (⟨"TideIsland$Reader", "putPending", "(I)V"⟩, 12) := ⟨⟨by decide +kernel, by decide +kernel⟩, List.mem_of_getElem? (i := 136) (by decide +kernel), List.mem_of_getElem? (i := 766) (by decide +kernel), List.mem_of_getElem? (i := 767) (by decide +kernel)⟩
theorem lw_p24 : lw_okq (⟨"TideIsland", "firstWrong", "(II)I"⟩, 11) := ⟨⟨by decide +kernel, by decide +kernel⟩, List.mem_of_getElem? (i := 21) (by decide +kernel), List.mem_of_getElem? (i := 884) (by decide +kernel), List.mem_of_getElem? (i := 885) (by decide +kernel)⟩
theorem lw_p25 : lw_okq (⟨"TideIslandModel", "sets", "(III)V"⟩, 31) := ⟨⟨by decide +kernel, by decide +kernel⟩, List.mem_of_getElem? (i := 905) (by decide +kernel), List.mem_of_getElem? (i := 1018) (by decide +kernel), List.mem_of_getElem? (i := 1019) (by decide +kernel)⟩
theorem lw_p26 : lw_okq (⟨"TideIslandModel", "becomes", "(II)I"⟩, 31) := ⟨⟨by decide +kernel, by decide +kernel⟩, List.mem_of_getElem? (i := 905) (by decide +kernel), List.mem_of_getElem? (i := 1022) (by decide +kernel), List.mem_of_getElem? (i := 1023) (by decide +kernel)⟩
theorem lw_p27 : lw_okq (⟨"TideIslandModel", "of", "(II)I"⟩, 31) := ⟨⟨by decide +kernel, by decide +kernel⟩, List.mem_of_getElem? (i := 905) (by decide +kernel), List.mem_of_getElem? (i := 1030) (by decide +kernel), List.mem_of_getElem? (i := 1031) (by decide +kernel)⟩
theorem lw_p28 : lw_okq (⟨"TideIslandModel", "top", "(I)I"⟩, 31) := ⟨⟨by decide +kernel, by decide +kernel⟩, List.mem_of_getElem? (i := 905) (by decide +kernel), List.mem_of_getElem? (i := 1034) (by decide +kernel), List.mem_of_getElem? (i := 1035) (by decide +kernel)⟩
theorem lw_p29 : lw_okq (⟨"TideIslandModel", "room", "(I)I"⟩, 31) := ⟨⟨by decide +kernel, by decide +kernel⟩, List.mem_of_getElem? (i := 905) (by decide +kernel), List.mem_of_getElem? (i := 1038) (by decide +kernel), List.mem_of_getElem? (i := 1039) (by decide +kernel)⟩
theorem lw_p30 : lw_okq (⟨"TideIslandModel", "counts", "(I)I"⟩, 31) := ⟨⟨by decide +kernel, by decide +kernel⟩, List.mem_of_getElem? (i := 905) (by decide +kernel), List.mem_of_getElem? (i := 1042) (by decide +kernel), List.mem_of_getElem? (i := 1043) (by decide +kernel)⟩
theorem lw_p31 : lw_okq (⟨"TideIslandModel", "textAt", "(I)I"⟩, 31) := ⟨⟨by decide +kernel, by decide +kernel⟩, List.mem_of_getElem? (i := 905) (by decide +kernel), List.mem_of_getElem? (i := 1046) (by decide +kernel), List.mem_of_getElem? (i := 1047) (by decide +kernel)⟩
def lw_privs_2 : List (MethodName × Nat) := [(⟨"TideIsland$Reader", "nameHere", "()I"⟩, 12), (⟨"TideIsland$Reader", "namesOfKey", "()Ljava/lang/String;"⟩, 12), (⟨"TideIsland$Reader", "put", "(I)V"⟩, 12), (⟨"TideIsland$Reader", "endPiece", "()V"⟩, 12), (⟨"TideIsland$Reader", "topSign", "()I"⟩, 12), (⟨"TideIsland$Reader", "takeSign", "()Z"⟩, 12), (⟨"TideIsland$Reader", "closeBracket", "()Z"⟩, 12), (⟨"TideIsland$Reader", "putPending", "(I)V"⟩, 12), (⟨"TideIsland", "firstWrong", "(II)I"⟩, 11), (⟨"TideIslandModel", "sets", "(III)V"⟩, 31), (⟨"TideIslandModel", "becomes", "(II)I"⟩, 31), (⟨"TideIslandModel", "of", "(II)I"⟩, 31), (⟨"TideIslandModel", "top", "(I)I"⟩, 31), (⟨"TideIslandModel", "room", "(I)I"⟩, 31), (⟨"TideIslandModel", "counts", "(I)I"⟩, 31), (⟨"TideIslandModel", "textAt", "(I)I"⟩, 31)]
theorem lw_r2 : ∀ q ∈ lw_privs_2, lw_okq q := List.forall_mem_cons.mpr ⟨lw_p16, List.forall_mem_cons.mpr ⟨lw_p17, List.forall_mem_cons.mpr ⟨lw_p18, List.forall_mem_cons.mpr ⟨lw_p19, List.forall_mem_cons.mpr ⟨lw_p20, List.forall_mem_cons.mpr ⟨lw_p21, List.forall_mem_cons.mpr ⟨lw_p22, List.forall_mem_cons.mpr ⟨lw_p23, List.forall_mem_cons.mpr ⟨lw_p24, List.forall_mem_cons.mpr ⟨lw_p25, List.forall_mem_cons.mpr ⟨lw_p26, List.forall_mem_cons.mpr ⟨lw_p27, List.forall_mem_cons.mpr ⟨lw_p28, List.forall_mem_cons.mpr ⟨lw_p29, List.forall_mem_cons.mpr ⟨lw_p30, List.forall_mem_cons.mpr ⟨lw_p31, fun _ h => absurd h List.not_mem_nil⟩⟩⟩⟩⟩⟩⟩⟩⟩⟩⟩⟩⟩⟩⟩⟩
theorem lw_p32 : lw_okq (⟨"TideIslandModel", "worked", "(I)I"⟩, 31) := ⟨⟨by decide +kernel, by decide +kernel⟩, List.mem_of_getElem? (i := 905) (by decide +kernel), List.mem_of_getElem? (i := 1050) (by decide +kernel), List.mem_of_getElem? (i := 1051) (by decide +kernel)⟩
theorem lw_p33 : lw_okq (⟨"TideIslandModel", "worth", "(I)I"⟩, 31) := ⟨⟨by decide +kernel, by decide +kernel⟩, List.mem_of_getElem? (i := 905) (by decide +kernel), List.mem_of_getElem? (i := 1060) (by decide +kernel), List.mem_of_getElem? (i := 1061) (by decide +kernel)⟩
theorem lw_p34 : lw_okq (⟨"TideIslandModel", "level", "(I)I"⟩, 31) := ⟨⟨by decide +kernel, by decide +kernel⟩, List.mem_of_getElem? (i := 905) (by decide +kernel), List.mem_of_getElem? (i := 1068) (by decide +kernel), List.mem_of_getElem? (i := 1069) (by decide +kernel)⟩
theorem lw_p35 : lw_okq (⟨"TideIslandModel", "drawn", "()I"⟩, 31) := ⟨⟨by decide +kernel, by decide +kernel⟩, List.mem_of_getElem? (i := 905) (by decide +kernel), List.mem_of_getElem? (i := 1101) (by decide +kernel), List.mem_of_getElem? (i := 1102) (by decide +kernel)⟩
theorem lw_p36 : lw_okq (⟨"TideIslandModel", "dry", "(I)I"⟩, 31) := ⟨⟨by decide +kernel, by decide +kernel⟩, List.mem_of_getElem? (i := 905) (by decide +kernel), List.mem_of_getElem? (i := 1106) (by decide +kernel), List.mem_of_getElem? (i := 1107) (by decide +kernel)⟩
theorem lw_p37 : lw_okq (⟨"TideIslandModel", "isDry", "(II)Z"⟩, 31) := ⟨⟨by decide +kernel, by decide +kernel⟩, List.mem_of_getElem? (i := 905) (by decide +kernel), List.mem_of_getElem? (i := 1146) (by decide +kernel), List.mem_of_getElem? (i := 1147) (by decide +kernel)⟩
theorem lw_p38 : lw_okq (⟨"TideIslandModel", "ownsAt", "(II)I"⟩, 31) := ⟨⟨by decide +kernel, by decide +kernel⟩, List.mem_of_getElem? (i := 905) (by decide +kernel), List.mem_of_getElem? (i := 1159) (by decide +kernel), List.mem_of_getElem? (i := 1160) (by decide +kernel)⟩
theorem lw_p39 : lw_okq (⟨"TideIslandModel", "isHouse", "(I)Z"⟩, 31) := ⟨⟨by decide +kernel, by decide +kernel⟩, List.mem_of_getElem? (i := 905) (by decide +kernel), List.mem_of_getElem? (i := 1176) (by decide +kernel), List.mem_of_getElem? (i := 1177) (by decide +kernel)⟩
theorem lw_p40 : lw_okq (⟨"TideIslandModel", "many", "(I)I"⟩, 31) := ⟨⟨by decide +kernel, by decide +kernel⟩, List.mem_of_getElem? (i := 905) (by decide +kernel), List.mem_of_getElem? (i := 1180) (by decide +kernel), List.mem_of_getElem? (i := 1181) (by decide +kernel)⟩
theorem lw_p41 : lw_okq (⟨"TideIslandModel", "where", "(I)I"⟩, 31) := ⟨⟨by decide +kernel, by decide +kernel⟩, List.mem_of_getElem? (i := 905) (by decide +kernel), List.mem_of_getElem? (i := 1184) (by decide +kernel), List.mem_of_getElem? (i := 1185) (by decide +kernel)⟩
theorem lw_p42 : lw_okq (⟨"TideIslandModel", "peak", "()I"⟩, 31) := ⟨⟨by decide +kernel, by decide +kernel⟩, List.mem_of_getElem? (i := 905) (by decide +kernel), List.mem_of_getElem? (i := 1196) (by decide +kernel), List.mem_of_getElem? (i := 1197) (by decide +kernel)⟩
theorem lw_p43 : lw_okq (⟨"TideIslandModel", "goesOn", "()V"⟩, 31) := ⟨⟨by decide +kernel, by decide +kernel⟩, List.mem_of_getElem? (i := 905) (by decide +kernel), List.mem_of_getElem? (i := 1213) (by decide +kernel), List.mem_of_getElem? (i := 1214) (by decide +kernel)⟩
theorem lw_p44 : lw_okq (⟨"TideIslandModel", "grows", "(I)I"⟩, 31) := ⟨⟨by decide +kernel, by decide +kernel⟩, List.mem_of_getElem? (i := 905) (by decide +kernel), List.mem_of_getElem? (i := 1217) (by decide +kernel), List.mem_of_getElem? (i := 1218) (by decide +kernel)⟩
theorem lw_p45 : lw_okq (⟨"TideIslandModel", "parse", "()I"⟩, 31) := ⟨⟨by decide +kernel, by decide +kernel⟩, List.mem_of_getElem? (i := 905) (by decide +kernel), List.mem_of_getElem? (i := 1233) (by decide +kernel), List.mem_of_getElem? (i := 1234) (by decide +kernel)⟩
theorem lw_p46 : lw_okq (⟨"TideIslandModel", "nextToken", "()V"⟩, 31) := ⟨⟨by decide +kernel, by decide +kernel⟩, List.mem_of_getElem? (i := 905) (by decide +kernel), List.mem_of_getElem? (i := 1237) (by decide +kernel), List.mem_of_getElem? (i := 1238) (by decide +kernel)⟩
theorem lw_p47 : lw_okq (⟨"TideIslandModel", "isLetter", "(I)Z"⟩, 31) := ⟨⟨by decide +kernel, by decide +kernel⟩, List.mem_of_getElem? (i := 905) (by decide +kernel), List.mem_of_getElem? (i := 1241) (by decide +kernel), List.mem_of_getElem? (i := 1242) (by decide +kernel)⟩
def lw_privs_3 : List (MethodName × Nat) := [(⟨"TideIslandModel", "worked", "(I)I"⟩, 31), (⟨"TideIslandModel", "worth", "(I)I"⟩, 31), (⟨"TideIslandModel", "level", "(I)I"⟩, 31), (⟨"TideIslandModel", "drawn", "()I"⟩, 31), (⟨"TideIslandModel", "dry", "(I)I"⟩, 31), (⟨"TideIslandModel", "isDry", "(II)Z"⟩, 31), (⟨"TideIslandModel", "ownsAt", "(II)I"⟩, 31), (⟨"TideIslandModel", "isHouse", "(I)Z"⟩, 31), (⟨"TideIslandModel", "many", "(I)I"⟩, 31), (⟨"TideIslandModel", "where", "(I)I"⟩, 31), (⟨"TideIslandModel", "peak", "()I"⟩, 31), (⟨"TideIslandModel", "goesOn", "()V"⟩, 31), (⟨"TideIslandModel", "grows", "(I)I"⟩, 31), (⟨"TideIslandModel", "parse", "()I"⟩, 31), (⟨"TideIslandModel", "nextToken", "()V"⟩, 31), (⟨"TideIslandModel", "isLetter", "(I)Z"⟩, 31)]
theorem lw_r3 : ∀ q ∈ lw_privs_3, lw_okq q := List.forall_mem_cons.mpr ⟨lw_p32, List.forall_mem_cons.mpr ⟨lw_p33, List.forall_mem_cons.mpr ⟨lw_p34, List.forall_mem_cons.mpr ⟨lw_p35, List.forall_mem_cons.mpr ⟨lw_p36, List.forall_mem_cons.mpr ⟨lw_p37, List.forall_mem_cons.mpr ⟨lw_p38, List.forall_mem_cons.mpr ⟨lw_p39, List.forall_mem_cons.mpr ⟨lw_p40, List.forall_mem_cons.mpr ⟨lw_p41, List.forall_mem_cons.mpr ⟨lw_p42, List.forall_mem_cons.mpr ⟨lw_p43, List.forall_mem_cons.mpr ⟨lw_p44, List.forall_mem_cons.mpr ⟨lw_p45, List.forall_mem_cons.mpr ⟨lw_p46, List.forall_mem_cons.mpr ⟨lw_p47, fun _ h => absurd h List.not_mem_nil⟩⟩⟩⟩⟩⟩⟩⟩⟩⟩⟩⟩⟩⟩⟩⟩
theorem lw_p48 : lw_okq (⟨"TideIslandModel", "isDigit", "(I)Z"⟩, 31) := ⟨⟨by decide +kernel, by decide +kernel⟩, List.mem_of_getElem? (i := 905) (by decide +kernel), List.mem_of_getElem? (i := 1247) (by decide +kernel), List.mem_of_getElem? (i := 1248) (by decide +kernel)⟩
theorem lw_p49 : lw_okq (⟨"TideIslandModel", "key", "()I"⟩, 31) := ⟨⟨by decide +kernel, by decide +kernel⟩, List.mem_of_getElem? (i := 905) (by decide +kernel), List.mem_of_getElem? (i := 1253) (by decide +kernel), List.mem_of_getElem? (i := 1254) (by decide +kernel)⟩
theorem lw_p50 : lw_okq (⟨"TideIslandModel", "isWordAt", "(IIII)Z"⟩, 31) := ⟨⟨by decide +kernel, by decide +kernel⟩, List.mem_of_getElem? (i := 905) (by decide +kernel), List.mem_of_getElem? (i := 1257) (by decide +kernel), List.mem_of_getElem? (i := 1258) (by decide +kernel)⟩
theorem lw_p51 : lw_okq (⟨"TideIslandModel", "either", "(I)Z"⟩, 31) := ⟨⟨by decide +kernel, by decide +kernel⟩, List.mem_of_getElem? (i := 905) (by decide +kernel), List.mem_of_getElem? (i := 1261) (by decide +kernel), List.mem_of_getElem? (i := 1262) (by decide +kernel)⟩
theorem lw_p52 : lw_okq (⟨"TideIslandModel", "both", "(I)Z"⟩, 31) := ⟨⟨by decide +kernel, by decide +kernel⟩, List.mem_of_getElem? (i := 905) (by decide +kernel), List.mem_of_getElem? (i := 1265) (by decide +kernel), List.mem_of_getElem? (i := 1266) (by decide +kernel)⟩
theorem lw_p53 : lw_okq (⟨"TideIslandModel", "test", "(I)Z"⟩, 31) := ⟨⟨by decide +kernel, by decide +kernel⟩, List.mem_of_getElem? (i := 905) (by decide +kernel), List.mem_of_getElem? (i := 1269) (by decide +kernel), List.mem_of_getElem? (i := 1270) (by decide +kernel)⟩
theorem lw_p54 : lw_okq (⟨"TideIslandModel", "sum", "(I)Z"⟩, 31) := ⟨⟨by decide +kernel, by decide +kernel⟩, List.mem_of_getElem? (i := 905) (by decide +kernel), List.mem_of_getElem? (i := 1273) (by decide +kernel), List.mem_of_getElem? (i := 1274) (by decide +kernel)⟩
theorem lw_p55 : lw_okq (⟨"TideIslandModel", "term", "(I)Z"⟩, 31) := ⟨⟨by decide +kernel, by decide +kernel⟩, List.mem_of_getElem? (i := 905) (by decide +kernel), List.mem_of_getElem? (i := 1277) (by decide +kernel), List.mem_of_getElem? (i := 1278) (by decide +kernel)⟩
theorem lw_p56 : lw_okq (⟨"TideIslandModel", "part0", "(I)Z"⟩, 31) := ⟨⟨by decide +kernel, by decide +kernel⟩, List.mem_of_getElem? (i := 905) (by decide +kernel), List.mem_of_getElem? (i := 1281) (by decide +kernel), List.mem_of_getElem? (i := 1282) (by decide +kernel)⟩
theorem lw_p57 : lw_okq (⟨"TideIslandModel", "step", "(II)V"⟩, 31) := ⟨⟨by decide +kernel, by decide +kernel⟩, List.mem_of_getElem? (i := 905) (by decide +kernel), List.mem_of_getElem? (i := 1285) (by decide +kernel), List.mem_of_getElem? (i := 1286) (by decide +kernel)⟩
theorem lw_p58 : lw_okq (⟨"TideIslandModel", "isSign", "(I)Z"⟩, 31) := ⟨⟨by decide +kernel, by decide +kernel⟩, List.mem_of_getElem? (i := 905) (by decide +kernel), List.mem_of_getElem? (i := 1292) (by decide +kernel), List.mem_of_getElem? (i := 1293) (by decide +kernel)⟩
theorem lw_p59 : lw_okq (⟨"TideIslandModel", "isText", "(I)Z"⟩, 31) := ⟨⟨by decide +kernel, by decide +kernel⟩, List.mem_of_getElem? (i := 905) (by decide +kernel), List.mem_of_getElem? (i := 1300) (by decide +kernel), List.mem_of_getElem? (i := 1301) (by decide +kernel)⟩
theorem lw_p60 : lw_okq (⟨"TideIslandModel", "setAside", "([I[I)V"⟩, 31) := ⟨⟨by decide +kernel, by decide +kernel⟩, List.mem_of_getElem? (i := 905) (by decide +kernel), List.mem_of_getElem? (i := 1367) (by decide +kernel), List.mem_of_getElem? (i := 1368) (by decide +kernel)⟩
theorem lw_p61 : lw_okq (⟨"TideIslandModel", "allCorn", "()I"⟩, 31) := ⟨⟨by decide +kernel, by decide +kernel⟩, List.mem_of_getElem? (i := 905) (by decide +kernel), List.mem_of_getElem? (i := 1371) (by decide +kernel), List.mem_of_getElem? (i := 1372) (by decide +kernel)⟩
def lw_privs_4 : List (MethodName × Nat) := [(⟨"TideIslandModel", "isDigit", "(I)Z"⟩, 31), (⟨"TideIslandModel", "key", "()I"⟩, 31), (⟨"TideIslandModel", "isWordAt", "(IIII)Z"⟩, 31), (⟨"TideIslandModel", "either", "(I)Z"⟩, 31), (⟨"TideIslandModel", "both", "(I)Z"⟩, 31), (⟨"TideIslandModel", "test", "(I)Z"⟩, 31), (⟨"TideIslandModel", "sum", "(I)Z"⟩, 31), (⟨"TideIslandModel", "term", "(I)Z"⟩, 31), (⟨"TideIslandModel", "part0", "(I)Z"⟩, 31), (⟨"TideIslandModel", "step", "(II)V"⟩, 31), (⟨"TideIslandModel", "isSign", "(I)Z"⟩, 31), (⟨"TideIslandModel", "isText", "(I)Z"⟩, 31), (⟨"TideIslandModel", "setAside", "([I[I)V"⟩, 31), (⟨"TideIslandModel", "allCorn", "()I"⟩, 31)]
theorem lw_r4 : ∀ q ∈ lw_privs_4, lw_okq q := List.forall_mem_cons.mpr ⟨lw_p48, List.forall_mem_cons.mpr ⟨lw_p49, List.forall_mem_cons.mpr ⟨lw_p50, List.forall_mem_cons.mpr ⟨lw_p51, List.forall_mem_cons.mpr ⟨lw_p52, List.forall_mem_cons.mpr ⟨lw_p53, List.forall_mem_cons.mpr ⟨lw_p54, List.forall_mem_cons.mpr ⟨lw_p55, List.forall_mem_cons.mpr ⟨lw_p56, List.forall_mem_cons.mpr ⟨lw_p57, List.forall_mem_cons.mpr ⟨lw_p58, List.forall_mem_cons.mpr ⟨lw_p59, List.forall_mem_cons.mpr ⟨lw_p60, List.forall_mem_cons.mpr ⟨lw_p61, fun _ h => absurd h List.not_mem_nil⟩⟩⟩⟩⟩⟩⟩⟩⟩⟩⟩⟩⟩⟩
def lw_privs : List (MethodName × Nat) := lw_privs_1 ++ (lw_privs_2 ++ (lw_privs_3 ++ (lw_privs_4)))
def lw_tbl : List Cond := k2_sels lw_privs ++ tables_1
theorem lw_privs_ok : ∀ q ∈ lw_privs, lw_okq q := by
  show ∀ q ∈ lw_privs_1 ++ (lw_privs_2 ++ (lw_privs_3 ++ (lw_privs_4))), lw_okq q
  exact List.forall_mem_append.mpr ⟨lw_r1, List.forall_mem_append.mpr ⟨lw_r2, List.forall_mem_append.mpr ⟨lw_r3, lw_r4⟩⟩⟩

/-! ===== BEGIN words of one list among another's, by their places ===== -/
theorem goodIn_r {big : List Cond} (ws : List Cond) (ps : List Nat) (hp : ws = ps.filterMap (fun i => big[i]?)) (h : ws.all goodWord = true) : GoodIn big ws := by
  intro w hw
  have h1 := List.all_eq_true.mp h w hw
  rw [hp] at hw
  obtain ⟨i, -, hi⟩ := List.mem_filterMap.mp hw
  have hm : w ∈ big := by first | exact List.mem_of_getElem? hi | exact List.getElem?_mem hi
  exact ⟨hm, good_of_word h1⟩
theorem goodIn_app {big a b : List Cond} (ha : GoodIn big a) (hb : GoodIn big b) : GoodIn big (a ++ b) := fun w h => (List.mem_append.mp h).elim (ha w) (hb w)
theorem goodIn_ca {big a b : List Cond} {c : Cond} (ha : GoodIn big (c :: a)) (hb : GoodIn big b) : GoodIn big (c :: (a ++ b)) := fun w h => (List.mem_cons.mp h).elim (fun e => ha w (List.mem_cons.mpr (Or.inl e))) (fun h => (List.mem_append.mp h).elim (fun h => ha w (List.mem_cons.mpr (Or.inr h))) (hb w))
theorem goodIn_sub {big ws : List Cond} (hm : ∀ w ∈ ws, w ∈ big) (h : ws.all goodWord = true) : GoodIn big ws := fun w hw => ⟨hm w hw, good_of_word (List.all_eq_true.mp h w hw)⟩
/-! ===== END ===== -/

/-! ===== BEGIN printed: names, fields, word lists, decode rows ===== -/
def RX0 : String := "TideIsland$Cells"
def TX0 : u_T := fun k => match k with
  | _ => ("", "", "", false)
def tyX0 : Nat → FieldType := fun k => match k with
  | _ => .int
abbrev wsX00 : List Cond := u_ws RX0 TX0 0
theorem nmX0 : ∀ a, a < 0 → ∀ b, b < 0 → a ≠ b → (TX0 a).2.1 ≠ (TX0 b).2.1 := by decide +kernel
theorem tyX0_ok : ∀ k, k < 0 → parseFieldDescriptor (TX0 k).2.2.1 = some (tyX0 k) := by decide +kernel
abbrev cX0_has : ByteArray := prog_2_method_2_code
def yX0_has : MethodName := ⟨RX0, "has", "(II)Z"⟩
abbrev cX0_spread : ByteArray := prog_2_method_3_code
def yX0_spread : MethodName := ⟨RX0, "spread", "(I)I"⟩
abbrev cX0_partAround : ByteArray := prog_2_method_4_code
def yX0_partAround : MethodName := ⟨RX0, "partAround", "(II)I"⟩
abbrev cX0_partsOf : ByteArray := prog_2_method_5_code
def yX0_partsOf : MethodName := ⟨RX0, "partsOf", "(I)I"⟩
abbrev cX0_beside : ByteArray := prog_2_method_6_code
def yX0_beside : MethodName := ⟨RX0, "beside", "(II)I"⟩
abbrev cX0_firstBeside : ByteArray := prog_2_method_7_code
def yX0_firstBeside : MethodName := ⟨RX0, "firstBeside", "(II)I"⟩
def RX1 : String := "TideIsland$Island"
def TX1 : u_T := fun k => match k with
  | 0 => ("TideIsland$Island", "kinds", "[I", true)
  | 1 => ("TideIsland$Island", "heights", "[I", true)
  | 2 => ("TideIsland$Island", "corn", "[I", true)
  | 3 => ("TideIsland$Island", "owners", "[I", true)
  | 4 => ("TideIsland$Island", "water", "[I", true)
  | 5 => ("TideIsland$Island", "many", "[I", true)
  | 6 => ("TideIsland$Island", "places", "[I", true)
  | 7 => ("TideIsland$Island", "houses", "I", false)
  | 8 => ("TideIsland$Island", "hour", "I", false)
  | 9 => ("TideIsland$Island", "lost", "I", false)
  | 10 => ("TideIsland$Island", "z", "I", false)
  | 11 => ("TideIsland$Island", "texts", "I", false)
  | _ => ("TideIsland$Island", "laws", "LTideIsland$Laws;", true)
def tyX1 : Nat → FieldType := fun k => match k with
  | 0 => .array .int
  | 1 => .array .int
  | 2 => .array .int
  | 3 => .array .int
  | 4 => .array .int
  | 5 => .array .int
  | 6 => .array .int
  | 7 => .int
  | 8 => .int
  | 9 => .int
  | 10 => .int
  | 11 => .int
  | _ => .object "TideIsland$Laws"
abbrev wsX10 : List Cond := u_ws RX1 TX1 13
theorem nmX1 : ∀ a, a < 13 → ∀ b, b < 13 → a ≠ b → (TX1 a).2.1 ≠ (TX1 b).2.1 := by decide +kernel
theorem tyX1_ok : ∀ k, k < 13 → parseFieldDescriptor (TX1 k).2.2.1 = some (tyX1 k) := by decide +kernel
abbrev cX1_init : ByteArray := prog_3_method_1_code
def yX1_init : MethodName := ⟨RX1, "<init>", "(LTideIsland$Laws;)V"⟩
abbrev cX1_becomeLike : ByteArray := prog_3_method_2_code
def yX1_becomeLike : MethodName := ⟨RX1, "becomeLike", "(LTideIsland$Island;)V"⟩
abbrev cX1_changeKind : ByteArray := prog_3_method_3_code
def yX1_changeKind : MethodName := ⟨RX1, "changeKind", "(II)I"⟩
abbrev cX1_draw : ByteArray := prog_3_method_4_code
def yX1_draw : MethodName := ⟨RX1, "draw", "()I"⟩
abbrev cX1_drawIsland : ByteArray := prog_3_method_5_code
def yX1_drawIsland : MethodName := ⟨RX1, "drawIsland", "()V"⟩
abbrev cX1_topOf : ByteArray := prog_3_method_6_code
def yX1_topOf : MethodName := ⟨RX1, "topOf", "(I)I"⟩
abbrev cX1_roomOf : ByteArray := prog_3_method_7_code
def yX1_roomOf : MethodName := ⟨RX1, "roomOf", "(I)I"⟩
abbrev cX1_growthOf : ByteArray := prog_3_method_8_code
def yX1_growthOf : MethodName := ⟨RX1, "growthOf", "(I)I"⟩
abbrev cX1_levelAt : ByteArray := prog_3_method_9_code
def yX1_levelAt : MethodName := ⟨RX1, "levelAt", "(I)I"⟩
abbrev cX1_plainLevelAt : ByteArray := prog_3_method_10_code
def yX1_plainLevelAt : MethodName := ⟨RX1, "plainLevelAt", "(I)I"⟩
abbrev cX1_dryCells : ByteArray := prog_3_method_11_code
def yX1_dryCells : MethodName := ⟨RX1, "dryCells", "(I)I"⟩
abbrev cX1_sizeAt : ByteArray := prog_3_method_12_code
def yX1_sizeAt : MethodName := ⟨RX1, "sizeAt", "(I)I"⟩
abbrev cX1_worstOf : ByteArray := prog_3_method_13_code
def yX1_worstOf : MethodName := ⟨RX1, "worstOf", "(I)I"⟩
abbrev cX1_dryHours : ByteArray := prog_3_method_14_code
def yX1_dryHours : MethodName := ⟨RX1, "dryHours", "(I)I"⟩
abbrev cX1_windowOf : ByteArray := prog_3_method_15_code
def yX1_windowOf : MethodName := ⟨RX1, "windowOf", "(II)I"⟩
abbrev cX1_ownedDry : ByteArray := prog_3_method_16_code
def yX1_ownedDry : MethodName := ⟨RX1, "ownedDry", "(II)I"⟩
abbrev cX1_ownedInDay : ByteArray := prog_3_method_17_code
def yX1_ownedInDay : MethodName := ⟨RX1, "ownedInDay", "(I)I"⟩
abbrev cX1_richestOwner : ByteArray := prog_3_method_18_code
def yX1_richestOwner : MethodName := ⟨RX1, "richestOwner", "()I"⟩
abbrev cX1_addHouse : ByteArray := prog_3_method_19_code
def yX1_addHouse : MethodName := ⟨RX1, "addHouse", "(I)I"⟩
abbrev cX1_peak : ByteArray := prog_3_method_20_code
def yX1_peak : MethodName := ⟨RX1, "peak", "()I"⟩
abbrev cX1_cutHouses : ByteArray := prog_3_method_21_code
def yX1_cutHouses : MethodName := ⟨RX1, "cutHouses", "(I)I"⟩
abbrev cX1_lackAt : ByteArray := prog_3_method_22_code
def yX1_lackAt : MethodName := ⟨RX1, "lackAt", "(I)I"⟩
abbrev cX1_hoursBetween : ByteArray := prog_3_method_23_code
def yX1_hoursBetween : MethodName := ⟨RX1, "hoursBetween", "(II)I"⟩
abbrev cX1_passHour : ByteArray := prog_3_method_24_code
def yX1_passHour : MethodName := ⟨RX1, "passHour", "()V"⟩
abbrev cX1_growCorn : ByteArray := prog_3_method_25_code
def yX1_growCorn : MethodName := ⟨RX1, "growCorn", "(I)V"⟩
abbrev cX1_moveHouses : ByteArray := prog_3_method_26_code
def yX1_moveHouses : MethodName := ⟨RX1, "moveHouses", "(I)V"⟩
abbrev cX1_drawStorm : ByteArray := prog_3_method_27_code
def yX1_drawStorm : MethodName := ⟨RX1, "drawStorm", "()V"⟩
abbrev cX1_allCorn : ByteArray := prog_3_method_28_code
def yX1_allCorn : MethodName := ⟨RX1, "allCorn", "()I"⟩
abbrev cX1_pourInto : ByteArray := prog_3_method_29_code
def yX1_pourInto : MethodName := ⟨RX1, "pourInto", "(ILTideIsland$Sheet;)I"⟩
abbrev cX1_firstNotLevel : ByteArray := prog_3_method_30_code
def yX1_firstNotLevel : MethodName := ⟨RX1, "firstNotLevel", "(LTideIsland$Sheet;)I"⟩
def RX2 : String := "TideIsland$Kinds"
def TX2 : u_T := fun k => match k with
  | _ => ("", "", "", false)
def tyX2 : Nat → FieldType := fun k => match k with
  | _ => .int
abbrev wsX20 : List Cond := u_ws RX2 TX2 0
theorem nmX2 : ∀ a, a < 0 → ∀ b, b < 0 → a ≠ b → (TX2 a).2.1 ≠ (TX2 b).2.1 := by decide +kernel
theorem tyX2_ok : ∀ k, k < 0 → parseFieldDescriptor (TX2 k).2.2.1 = some (tyX2 k) := by decide +kernel
abbrev cX2_above : ByteArray := prog_4_method_2_code
def yX2_above : MethodName := ⟨RX2, "above", "(I)I"⟩
abbrev cX2_isUnder : ByteArray := prog_4_method_3_code
def yX2_isUnder : MethodName := ⟨RX2, "isUnder", "(II)Z"⟩
abbrev cX2_topOf : ByteArray := prog_4_method_4_code
def yX2_topOf : MethodName := ⟨RX2, "topOf", "(III)I"⟩
abbrev cX2_roomOf : ByteArray := prog_4_method_5_code
def yX2_roomOf : MethodName := ⟨RX2, "roomOf", "(III)I"⟩
abbrev cX2_worthOf : ByteArray := prog_4_method_6_code
def yX2_worthOf : MethodName := ⟨RX2, "worthOf", "(II)I"⟩
def RX3 : String := "TideIsland$Laws"
def TX3 : u_T := fun k => match k with
  | 0 => ("TideIsland$Laws", "keys", "[I", true)
  | 1 => ("TideIsland$Laws", "operands", "[I", true)
  | 2 => ("TideIsland$Laws", "sizes", "[I", true)
  | 3 => ("TideIsland$Laws", "rows", "[[I", true)
  | 4 => ("TideIsland$Laws", "stack", "[I", true)
  | _ => ("TideIsland$Laws", "high", "I", false)
def tyX3 : Nat → FieldType := fun k => match k with
  | 0 => .array .int
  | 1 => .array .int
  | 2 => .array .int
  | 3 => .array (.array .int)
  | 4 => .array .int
  | _ => .int
abbrev wsX30 : List Cond := u_ws RX3 TX3 6
theorem nmX3 : ∀ a, a < 6 → ∀ b, b < 6 → a ≠ b → (TX3 a).2.1 ≠ (TX3 b).2.1 := by decide +kernel
theorem tyX3_ok : ∀ k, k < 6 → parseFieldDescriptor (TX3 k).2.2.1 = some (tyX3 k) := by decide +kernel
abbrev cX3_init : ByteArray := prog_5_method_1_code
def yX3_init : MethodName := ⟨RX3, "<init>", "()V"⟩
abbrev cX3_put : ByteArray := prog_5_method_2_code
def yX3_put : MethodName := ⟨RX3, "put", "(ILTideIsland$Reader;)V"⟩
abbrev cX3_lastOf : ByteArray := prog_5_method_3_code
def yX3_lastOf : MethodName := ⟨RX3, "lastOf", "(II)I"⟩
abbrev cX3_workOut : ByteArray := prog_5_method_4_code
def yX3_workOut : MethodName := ⟨RX3, "workOut", "(IIII)I"⟩
abbrev cX3_join : ByteArray := prog_5_method_5_code
def yX3_join : MethodName := ⟨RX3, "join", "(III)I"⟩
abbrev cX3_push : ByteArray := prog_5_method_6_code
def yX3_push : MethodName := ⟨RX3, "push", "(I)V"⟩
abbrev cX3_pop : ByteArray := prog_5_method_7_code
def yX3_pop : MethodName := ⟨RX3, "pop", "()I"⟩
def RX4 : String := "TideIsland$Reader"
def TX4 : u_T := fun k => match k with
  | 0 => ("TideIsland$Reader", "key", "I", false)
  | 1 => ("TideIsland$Reader", "operands", "I", false)
  | 2 => ("TideIsland$Reader", "row", "[I", true)
  | 3 => ("TideIsland$Reader", "size", "I", false)
  | 4 => ("TideIsland$Reader", "tape", "LTideIsland$Tape;", true)
  | 5 => ("TideIsland$Reader", "start", "I", false)
  | 6 => ("TideIsland$Reader", "end", "I", false)
  | 7 => ("TideIsland$Reader", "pending", "[I", true)
  | 8 => ("TideIsland$Reader", "pendings", "I", false)
  | 9 => ("TideIsland$Reader", "openBrackets", "I", false)
  | 10 => ("TideIsland$Reader", "openNots", "I", false)
  | _ => ("TideIsland$Reader", "pieceDue", "Z", false)
def tyX4 : Nat → FieldType := fun k => match k with
  | 0 => .int
  | 1 => .int
  | 2 => .array .int
  | 3 => .int
  | 4 => .object "TideIsland$Tape"
  | 5 => .int
  | 6 => .int
  | 7 => .array .int
  | 8 => .int
  | 9 => .int
  | 10 => .int
  | _ => .boolean
abbrev wsX40 : List Cond := u_ws RX4 TX4 12
theorem nmX4 : ∀ a, a < 12 → ∀ b, b < 12 → a ≠ b → (TX4 a).2.1 ≠ (TX4 b).2.1 := by decide +kernel
theorem tyX4_ok : ∀ k, k < 12 → parseFieldDescriptor (TX4 k).2.2.1 = some (tyX4 k) := by decide +kernel
abbrev cX4_init : ByteArray := prog_6_method_1_code
def yX4_init : MethodName := ⟨RX4, "<init>", "(LTideIsland$Tape;)V"⟩
abbrev cX4_findFault : ByteArray := prog_6_method_2_code
def yX4_findFault : MethodName := ⟨RX4, "findFault", "()I"⟩
abbrev cX4_begin : ByteArray := prog_6_method_3_code
def yX4_begin : MethodName := ⟨RX4, "begin", "()V"⟩
abbrev cX4_goOn : ByteArray := prog_6_method_4_code
def yX4_goOn : MethodName := ⟨RX4, "goOn", "()V"⟩
abbrev cX4_keyHere : ByteArray := prog_6_method_5_code
def yX4_keyHere : MethodName := ⟨RX4, "keyHere", "()I"⟩
abbrev cX4_spells : ByteArray := prog_6_method_6_code
def yX4_spells : MethodName := ⟨RX4, "spells", "(Ljava/lang/String;)Z"⟩
abbrev cX4_takePiece : ByteArray := prog_6_method_7_code
def yX4_takePiece : MethodName := ⟨RX4, "takePiece", "()Z"⟩
abbrev cX4_operandHere : ByteArray := prog_6_method_8_code
def yX4_operandHere : MethodName := ⟨RX4, "operandHere", "()I"⟩
abbrev cX4_followsWord : ByteArray := prog_6_method_9_code
def yX4_followsWord : MethodName := ⟨RX4, "followsWord", "()Z"⟩
abbrev cX4_numberHere : ByteArray := prog_6_method_10_code
def yX4_numberHere : MethodName := ⟨RX4, "numberHere", "()I"⟩
abbrev cX4_nameHere : ByteArray := prog_6_method_11_code
def yX4_nameHere : MethodName := ⟨RX4, "nameHere", "()I"⟩
abbrev cX4_namesOfKey : ByteArray := prog_6_method_12_code
def yX4_namesOfKey : MethodName := ⟨RX4, "namesOfKey", "()Ljava/lang/String;"⟩
abbrev cX4_endPiece : ByteArray := prog_6_method_13_code
def yX4_endPiece : MethodName := ⟨RX4, "endPiece", "()V"⟩
abbrev cX4_takeSign : ByteArray := prog_6_method_14_code
def yX4_takeSign : MethodName := ⟨RX4, "takeSign", "()Z"⟩
abbrev cX4_closeBracket : ByteArray := prog_6_method_15_code
def yX4_closeBracket : MethodName := ⟨RX4, "closeBracket", "()Z"⟩
abbrev cX4_putPending : ByteArray := prog_6_method_16_code
def yX4_putPending : MethodName := ⟨RX4, "putPending", "(I)V"⟩
abbrev cX4_rankOf : ByteArray := prog_6_method_17_code
def yX4_rankOf : MethodName := ⟨RX4, "rankOf", "(I)I"⟩
abbrev cX4_topSign : ByteArray := prog_6_method_18_code
def yX4_topSign : MethodName := ⟨RX4, "topSign", "()I"⟩
abbrev cX4_push : ByteArray := prog_6_method_19_code
def yX4_push : MethodName := ⟨RX4, "push", "(I)V"⟩
abbrev cX4_put : ByteArray := prog_6_method_20_code
def yX4_put : MethodName := ⟨RX4, "put", "(I)V"⟩
def RX5 : String := "TideIsland$Sheet"
def TX5 : u_T := fun k => match k with
  | 0 => ("TideIsland$Sheet", "sort", "I", false)
  | 1 => ("TideIsland$Sheet", "size", "I", false)
  | _ => ("TideIsland$Sheet", "values", "[I", true)
def tyX5 : Nat → FieldType := fun k => match k with
  | 0 => .int
  | 1 => .int
  | _ => .array .int
abbrev wsX50 : List Cond := u_ws RX5 TX5 3
theorem nmX5 : ∀ a, a < 3 → ∀ b, b < 3 → a ≠ b → (TX5 a).2.1 ≠ (TX5 b).2.1 := by decide +kernel
theorem tyX5_ok : ∀ k, k < 3 → parseFieldDescriptor (TX5 k).2.2.1 = some (tyX5 k) := by decide +kernel
abbrev cX5_init : ByteArray := prog_7_method_1_code
def yX5_init : MethodName := ⟨RX5, "<init>", "()V"⟩
abbrev cX5_become : ByteArray := prog_7_method_2_code
def yX5_become : MethodName := ⟨RX5, "become", "(II)V"⟩
abbrev cX5_becomeLike : ByteArray := prog_7_method_3_code
def yX5_becomeLike : MethodName := ⟨RX5, "becomeLike", "(LTideIsland$Sheet;)V"⟩
abbrev cX5_hasPlace : ByteArray := prog_7_method_4_code
def yX5_hasPlace : MethodName := ⟨RX5, "hasPlace", "(I)Z"⟩
abbrev cX5_hasPlaces : ByteArray := prog_7_method_5_code
def yX5_hasPlaces : MethodName := ⟨RX5, "hasPlaces", "(II)Z"⟩
def RX6 : String := "TideIsland$Slot"
def TX6 : u_T := fun k => match k with
  | 0 => ("TideIsland$Slot", "thing", "I", false)
  | 1 => ("TideIsland$Slot", "kind", "I", false)
  | 2 => ("TideIsland$Slot", "height", "I", false)
  | 3 => ("TideIsland$Slot", "number", "I", false)
  | _ => ("TideIsland$Slot", "row", "LTideIsland$Sheet;", true)
def tyX6 : Nat → FieldType := fun k => match k with
  | 0 => .int
  | 1 => .int
  | 2 => .int
  | 3 => .int
  | _ => .object "TideIsland$Sheet"
abbrev wsX60 : List Cond := u_ws RX6 TX6 5
theorem nmX6 : ∀ a, a < 5 → ∀ b, b < 5 → a ≠ b → (TX6 a).2.1 ≠ (TX6 b).2.1 := by decide +kernel
theorem tyX6_ok : ∀ k, k < 5 → parseFieldDescriptor (TX6 k).2.2.1 = some (tyX6 k) := by decide +kernel
abbrev cX6_init : ByteArray := prog_8_method_1_code
def yX6_init : MethodName := ⟨RX6, "<init>", "()V"⟩
abbrev cX6_findingFor : ByteArray := prog_8_method_2_code
def yX6_findingFor : MethodName := ⟨RX6, "findingFor", "(I)I"⟩
def RX7 : String := "TideIsland$Tape"
def TX7 : u_T := fun k => match k with
  | 0 => ("TideIsland$Tape", "length", "I", false)
  | _ => ("TideIsland$Tape", "bytes", "[I", true)
def tyX7 : Nat → FieldType := fun k => match k with
  | 0 => .int
  | _ => .array .int
abbrev wsX70 : List Cond := u_ws RX7 TX7 2
theorem nmX7 : ∀ a, a < 2 → ∀ b, b < 2 → a ≠ b → (TX7 a).2.1 ≠ (TX7 b).2.1 := by decide +kernel
theorem tyX7_ok : ∀ k, k < 2 → parseFieldDescriptor (TX7 k).2.2.1 = some (tyX7 k) := by decide +kernel
abbrev cX7_init : ByteArray := prog_9_method_1_code
def yX7_init : MethodName := ⟨RX7, "<init>", "()V"⟩
abbrev cX7_addNumber : ByteArray := prog_9_method_2_code
def yX7_addNumber : MethodName := ⟨RX7, "addNumber", "(I)V"⟩
abbrev cX7_byteAt : ByteArray := prog_9_method_3_code
def yX7_byteAt : MethodName := ⟨RX7, "byteAt", "(I)I"⟩
abbrev cX7_sortAt : ByteArray := prog_9_method_4_code
def yX7_sortAt : MethodName := ⟨RX7, "sortAt", "(I)I"⟩
def RX8 : String := "TideIsland"
def TX8 : u_T := fun k => match k with
  | 0 => ("TideIsland", "laws", "LTideIsland$Laws;", true)
  | 1 => ("TideIsland", "now", "LTideIsland$Island;", true)
  | 2 => ("TideIsland", "image", "LTideIsland$Island;", true)
  | 3 => ("TideIsland", "trial", "LTideIsland$Island;", true)
  | 4 => ("TideIsland", "tape", "LTideIsland$Tape;", true)
  | 5 => ("TideIsland", "reader", "LTideIsland$Reader;", true)
  | 6 => ("TideIsland", "sheets", "[LTideIsland$Sheet;", true)
  | 7 => ("TideIsland", "slots", "[LTideIsland$Slot;", true)
  | 8 => ("TideIsland", "waiting", "[I", true)
  | 9 => ("TideIsland", "waits", "I", false)
  | _ => ("TideIsland", "kept", "Z", false)
def tyX8 : Nat → FieldType := fun k => match k with
  | 0 => .object "TideIsland$Laws"
  | 1 => .object "TideIsland$Island"
  | 2 => .object "TideIsland$Island"
  | 3 => .object "TideIsland$Island"
  | 4 => .object "TideIsland$Tape"
  | 5 => .object "TideIsland$Reader"
  | 6 => .array (.object "TideIsland$Sheet")
  | 7 => .array (.object "TideIsland$Slot")
  | 8 => .array .int
  | 9 => .int
  | _ => .boolean
abbrev wsX80 : List Cond := u_ws RX8 TX8 11
theorem nmX8 : ∀ a, a < 11 → ∀ b, b < 11 → a ≠ b → (TX8 a).2.1 ≠ (TX8 b).2.1 := by decide +kernel
theorem tyX8_ok : ∀ k, k < 11 → parseFieldDescriptor (TX8 k).2.2.1 = some (tyX8 k) := by decide +kernel
abbrev cX8_init : ByteArray := prog_1_method_1_code
def yX8_init : MethodName := ⟨RX8, "<init>", "()V"⟩
abbrev cX8_land : ByteArray := prog_1_method_2_code
def yX8_land : MethodName := ⟨RX8, "land", "(III)I"⟩
abbrev cX8_told : ByteArray := prog_1_method_3_code
def yX8_told : MethodName := ⟨RX8, "told", "(II)I"⟩
abbrev cX8_as : ByteArray := prog_1_method_4_code
def yX8_as : MethodName := ⟨RX8, "as", "(II)I"⟩
abbrev cX8_turns : ByteArray := prog_1_method_5_code
def yX8_turns : MethodName := ⟨RX8, "turns", "(II)I"⟩
abbrev cX8_set : ByteArray := prog_1_method_6_code
def yX8_set : MethodName := ⟨RX8, "set", "(III)I"⟩
abbrev cX8_sea : ByteArray := prog_1_method_7_code
def yX8_sea : MethodName := ⟨RX8, "sea", "(II)I"⟩
abbrev cX8_deal : ByteArray := prog_1_method_8_code
def yX8_deal : MethodName := ⟨RX8, "deal", "()I"⟩
abbrev cX8_seed : ByteArray := prog_1_method_9_code
def yX8_seed : MethodName := ⟨RX8, "seed", "(I)I"⟩
abbrev cX8_sky : ByteArray := prog_1_method_10_code
def yX8_sky : MethodName := ⟨RX8, "sky", "(II)I"⟩
abbrev cX8_worst : ByteArray := prog_1_method_11_code
def yX8_worst : MethodName := ⟨RX8, "worst", "(II)I"⟩
abbrev cX8_dryFor : ByteArray := prog_1_method_12_code
def yX8_dryFor : MethodName := ⟨RX8, "dryFor", "(I)I"⟩
abbrev cX8_window : ByteArray := prog_1_method_13_code
def yX8_window : MethodName := ⟨RX8, "window", "(II)I"⟩
abbrev cX8_owns : ByteArray := prog_1_method_14_code
def yX8_owns : MethodName := ⟨RX8, "owns", "(II)I"⟩
abbrev cX8_richest : ByteArray := prog_1_method_15_code
def yX8_richest : MethodName := ⟨RX8, "richest", "(I)I"⟩
abbrev cX8_house : ByteArray := prog_1_method_16_code
def yX8_house : MethodName := ⟨RX8, "house", "(I)I"⟩
abbrev cX8_houseTold : ByteArray := prog_1_method_17_code
def yX8_houseTold : MethodName := ⟨RX8, "houseTold", "(II)I"⟩
abbrev cX8_settle : ByteArray := prog_1_method_18_code
def yX8_settle : MethodName := ⟨RX8, "settle", "(II)I"⟩
abbrev cX8_cut : ByteArray := prog_1_method_19_code
def yX8_cut : MethodName := ⟨RX8, "cut", "(I)I"⟩
abbrev cX8_lack : ByteArray := prog_1_method_20_code
def yX8_lack : MethodName := ⟨RX8, "lack", "(I)I"⟩
abbrev cX8_going : ByteArray := prog_1_method_21_code
def yX8_going : MethodName := ⟨RX8, "going", "(II)I"⟩
abbrev cX8_run : ByteArray := prog_1_method_22_code
def yX8_run : MethodName := ⟨RX8, "run", "(I)I"⟩
abbrev cX8_feed : ByteArray := prog_1_method_23_code
def yX8_feed : MethodName := ⟨RX8, "feed", "(III)I"⟩
abbrev cX8_trim : ByteArray := prog_1_method_24_code
def yX8_trim : MethodName := ⟨RX8, "trim", "(I)I"⟩
abbrev cX8_text : ByteArray := prog_1_method_25_code
def yX8_text : MethodName := ⟨RX8, "text", "()I"⟩
abbrev cX8_textTold : ByteArray := prog_1_method_26_code
def yX8_textTold : MethodName := ⟨RX8, "textTold", "(II)I"⟩
abbrev cX8_why : ByteArray := prog_1_method_27_code
def yX8_why : MethodName := ⟨RX8, "why", "(I)I"⟩
abbrev cX8_sheet : ByteArray := prog_1_method_28_code
def yX8_sheet : MethodName := ⟨RX8, "sheet", "(III)I"⟩
abbrev cX8_mark : ByteArray := prog_1_method_29_code
def yX8_mark : MethodName := ⟨RX8, "mark", "(III)I"⟩
abbrev cX8_pour : ByteArray := prog_1_method_30_code
def yX8_pour : MethodName := ⟨RX8, "pour", "(II)I"⟩
abbrev cX8_reads : ByteArray := prog_1_method_31_code
def yX8_reads : MethodName := ⟨RX8, "reads", "(I)I"⟩
abbrev cX8_copy : ByteArray := prog_1_method_32_code
def yX8_copy : MethodName := ⟨RX8, "copy", "(IIIII)I"⟩
abbrev cX8_lay : ByteArray := prog_1_method_33_code
def yX8_lay : MethodName := ⟨RX8, "lay", "(III)I"⟩
abbrev cX8_ask : ByteArray := prog_1_method_34_code
def yX8_ask : MethodName := ⟨RX8, "ask", "(II)I"⟩
abbrev cX8_item : ByteArray := prog_1_method_35_code
def yX8_item : MethodName := ⟨RX8, "item", "(II)I"⟩
abbrev cX8_rest : ByteArray := prog_1_method_36_code
def yX8_rest : MethodName := ⟨RX8, "rest", "(II)I"⟩
abbrev cX8_tell : ByteArray := prog_1_method_37_code
def yX8_tell : MethodName := ⟨RX8, "tell", "(I)I"⟩
abbrev cX8_check : ByteArray := prog_1_method_38_code
def yX8_check : MethodName := ⟨RX8, "check", "(I)I"⟩
abbrev cX8_keep : ByteArray := prog_1_method_39_code
def yX8_keep : MethodName := ⟨RX8, "keep", "()I"⟩
abbrev cX8_back : ByteArray := prog_1_method_40_code
def yX8_back : MethodName := ⟨RX8, "back", "()I"⟩
abbrev cX8_count : ByteArray := prog_1_method_41_code
def yX8_count : MethodName := ⟨RX8, "count", "(I)I"⟩
abbrev cX8_firstWrong : ByteArray := prog_1_method_42_code
def yX8_firstWrong : MethodName := ⟨RX8, "firstWrong", "(II)I"⟩
abbrev cX8_isHouse : ByteArray := prog_1_method_43_code
def yX8_isHouse : MethodName := ⟨RX8, "isHouse", "(I)Z"⟩
abbrev cX8_isCell : ByteArray := prog_1_method_44_code
def yX8_isCell : MethodName := ⟨RX8, "isCell", "(I)Z"⟩
abbrev cX8_isKind : ByteArray := prog_1_method_45_code
def yX8_isKind : MethodName := ⟨RX8, "isKind", "(I)Z"⟩
abbrev cX8_isOwner : ByteArray := prog_1_method_46_code
def yX8_isOwner : MethodName := ⟨RX8, "isOwner", "(I)Z"⟩
abbrev cX8_areHoursOn : ByteArray := prog_1_method_47_code
def yX8_areHoursOn : MethodName := ⟨RX8, "areHoursOn", "(I)Z"⟩
abbrev cX8_isSheet : ByteArray := prog_1_method_48_code
def yX8_isSheet : MethodName := ⟨RX8, "isSheet", "(I)Z"⟩
abbrev cX8_isSlot : ByteArray := prog_1_method_49_code
def yX8_isSlot : MethodName := ⟨RX8, "isSlot", "(I)Z"⟩
abbrev cX8_within : ByteArray := prog_1_method_50_code
def yX8_within : MethodName := ⟨RX8, "within", "(III)Z"⟩
abbrev cX8_hold : ByteArray := prog_1_method_51_code
def yX8_hold : MethodName := ⟨RX8, "hold", "(III)I"⟩
def RX9 : String := "TideIslandModel"
def TX9 : u_T := fun k => match k with
  | 0 => ("TideIslandModel", "s", "[I", true)
  | 1 => ("TideIslandModel", "image", "[I", true)
  | 2 => ("TideIslandModel", "aside", "[I", true)
  | 3 => ("TideIslandModel", "hasImage", "Z", false)
  | 4 => ("TideIslandModel", "tSort", "[I", true)
  | 5 => ("TideIslandModel", "tSize", "[I", true)
  | 6 => ("TideIslandModel", "tNumber", "[I", true)
  | 7 => ("TideIslandModel", "held", "[I", true)
  | 8 => ("TideIslandModel", "heldNumber", "[I", true)
  | 9 => ("TideIslandModel", "heldWorth", "[I", true)
  | 10 => ("TideIslandModel", "heldSize", "[I", true)
  | 11 => ("TideIslandModel", "heldRow", "[I", true)
  | 12 => ("TideIslandModel", "hasOf", "[I", true)
  | 13 => ("TideIslandModel", "tape", "[I", true)
  | 14 => ("TideIslandModel", "taped", "I", false)
  | 15 => ("TideIslandModel", "begin", "I", false)
  | 16 => ("TideIslandModel", "behind", "I", false)
  | 17 => ("TideIslandModel", "token", "I", false)
  | 18 => ("TideIslandModel", "number", "I", false)
  | 19 => ("TideIslandModel", "letter", "I", false)
  | 20 => ("TideIslandModel", "deep", "I", false)
  | 21 => ("TideIslandModel", "turned", "I", false)
  | 22 => ("TideIslandModel", "laid", "I", false)
  | 23 => ("TideIslandModel", "laidAt", "I", false)
  | 24 => ("TideIslandModel", "said", "I", false)
  | 25 => ("TideIslandModel", "named", "[I", true)
  | 26 => ("TideIslandModel", "pile", "[I", true)
  | 27 => ("TideIslandModel", "carried", "[I", true)
  | 28 => ("TideIslandModel", "waits", "[I", true)
  | 29 => ("TideIslandModel", "waiting", "I", false)
  | _ => ("TideIslandModel", "rowDue", "[I", true)
def tyX9 : Nat → FieldType := fun k => match k with
  | 0 => .array .int
  | 1 => .array .int
  | 2 => .array .int
  | 3 => .boolean
  | 4 => .array .int
  | 5 => .array .int
  | 6 => .array .int
  | 7 => .array .int
  | 8 => .array .int
  | 9 => .array .int
  | 10 => .array .int
  | 11 => .array .int
  | 12 => .array .int
  | 13 => .array .int
  | 14 => .int
  | 15 => .int
  | 16 => .int
  | 17 => .int
  | 18 => .int
  | 19 => .int
  | 20 => .int
  | 21 => .int
  | 22 => .int
  | 23 => .int
  | 24 => .int
  | 25 => .array .int
  | 26 => .array .int
  | 27 => .array .int
  | 28 => .array .int
  | 29 => .int
  | _ => .array .int
abbrev wsX90 : List Cond := u_ws RX9 TX9 31
theorem nmX9 : ∀ a, a < 31 → ∀ b, b < 31 → a ≠ b → (TX9 a).2.1 ≠ (TX9 b).2.1 := by decide +kernel
theorem tyX9_ok : ∀ k, k < 31 → parseFieldDescriptor (TX9 k).2.2.1 = some (tyX9 k) := by decide +kernel
abbrev cX9_init : ByteArray := prog_11_method_1_code
def yX9_init : MethodName := ⟨RX9, "<init>", "()V"⟩
abbrev cX9_isIn : ByteArray := prog_11_method_2_code
def yX9_isIn : MethodName := ⟨RX9, "isIn", "(JJJ)Z"⟩
abbrev cX9_orNone : ByteArray := prog_11_method_3_code
def yX9_orNone : MethodName := ⟨RX9, "orNone", "(I)I"⟩
abbrev cX9_within : ByteArray := prog_11_method_4_code
def yX9_within : MethodName := ⟨RX9, "within", "(II)I"⟩
abbrev cX9_becomes : ByteArray := prog_11_method_5_code
def yX9_becomes : MethodName := ⟨RX9, "becomes", "(II)I"⟩
abbrev cX9_textAt : ByteArray := prog_11_method_6_code
def yX9_textAt : MethodName := ⟨RX9, "textAt", "(I)I"⟩
abbrev cX9_of : ByteArray := prog_11_method_7_code
def yX9_of : MethodName := ⟨RX9, "of", "(II)I"⟩
abbrev cX9_sets : ByteArray := prog_11_method_8_code
def yX9_sets : MethodName := ⟨RX9, "sets", "(III)V"⟩
abbrev cX9_isCell : ByteArray := prog_11_method_9_code
def yX9_isCell : MethodName := ⟨RX9, "isCell", "(I)Z"⟩
abbrev cX9_isHouse : ByteArray := prog_11_method_10_code
def yX9_isHouse : MethodName := ⟨RX9, "isHouse", "(I)Z"⟩
abbrev cX9_isText : ByteArray := prog_11_method_11_code
def yX9_isText : MethodName := ⟨RX9, "isText", "(I)Z"⟩
abbrev cX9_drawn : ByteArray := prog_11_method_12_code
def yX9_drawn : MethodName := ⟨RX9, "drawn", "()I"⟩
abbrev cX9_ones : ByteArray := prog_11_method_13_code
def yX9_ones : MethodName := ⟨RX9, "ones", "(I)I"⟩
abbrev cX9_top : ByteArray := prog_11_method_14_code
def yX9_top : MethodName := ⟨RX9, "top", "(I)I"⟩
abbrev cX9_room : ByteArray := prog_11_method_15_code
def yX9_room : MethodName := ⟨RX9, "room", "(I)I"⟩
abbrev cX9_worth : ByteArray := prog_11_method_16_code
def yX9_worth : MethodName := ⟨RX9, "worth", "(I)I"⟩
abbrev cX9_level : ByteArray := prog_11_method_17_code
def yX9_level : MethodName := ⟨RX9, "level", "(I)I"⟩
abbrev cX9_dry : ByteArray := prog_11_method_18_code
def yX9_dry : MethodName := ⟨RX9, "dry", "(I)I"⟩
abbrev cX9_land : ByteArray := prog_11_method_19_code
def yX9_land : MethodName := ⟨RX9, "land", "(III)I"⟩
abbrev cX9_told : ByteArray := prog_11_method_20_code
def yX9_told : MethodName := ⟨RX9, "told", "(II)I"⟩
abbrev cX9_isOf : ByteArray := prog_11_method_21_code
def yX9_isOf : MethodName := ⟨RX9, "isOf", "(II)Z"⟩
abbrev cX9_as : ByteArray := prog_11_method_22_code
def yX9_as : MethodName := ⟨RX9, "as", "(II)I"⟩
abbrev cX9_turns : ByteArray := prog_11_method_23_code
def yX9_turns : MethodName := ⟨RX9, "turns", "(II)I"⟩
abbrev cX9_set : ByteArray := prog_11_method_24_code
def yX9_set : MethodName := ⟨RX9, "set", "(III)I"⟩
abbrev cX9_mostOf : ByteArray := prog_11_method_25_code
def yX9_mostOf : MethodName := ⟨RX9, "mostOf", "(I)I"⟩
abbrev cX9_sea : ByteArray := prog_11_method_26_code
def yX9_sea : MethodName := ⟨RX9, "sea", "(II)I"⟩
abbrev cX9_deal : ByteArray := prog_11_method_27_code
def yX9_deal : MethodName := ⟨RX9, "deal", "()I"⟩
abbrev cX9_seed : ByteArray := prog_11_method_28_code
def yX9_seed : MethodName := ⟨RX9, "seed", "(I)I"⟩
abbrev cX9_beside : ByteArray := prog_11_method_29_code
def yX9_beside : MethodName := ⟨RX9, "beside", "(II)I"⟩
abbrev cX9_spread : ByteArray := prog_11_method_30_code
def yX9_spread : MethodName := ⟨RX9, "spread", "(I)I"⟩
abbrev cX9_partOf : ByteArray := prog_11_method_31_code
def yX9_partOf : MethodName := ⟨RX9, "partOf", "(II)I"⟩
abbrev cX9_partsOf : ByteArray := prog_11_method_32_code
def yX9_partsOf : MethodName := ⟨RX9, "partsOf", "(I)I"⟩
abbrev cX9_isAhead : ByteArray := prog_11_method_33_code
def yX9_isAhead : MethodName := ⟨RX9, "isAhead", "(I)Z"⟩
abbrev cX9_sky : ByteArray := prog_11_method_34_code
def yX9_sky : MethodName := ⟨RX9, "sky", "(II)I"⟩
abbrev cX9_worst : ByteArray := prog_11_method_35_code
def yX9_worst : MethodName := ⟨RX9, "worst", "(II)I"⟩
abbrev cX9_isDry : ByteArray := prog_11_method_36_code
def yX9_isDry : MethodName := ⟨RX9, "isDry", "(II)Z"⟩
abbrev cX9_dryFor : ByteArray := prog_11_method_37_code
def yX9_dryFor : MethodName := ⟨RX9, "dryFor", "(I)I"⟩
abbrev cX9_window : ByteArray := prog_11_method_38_code
def yX9_window : MethodName := ⟨RX9, "window", "(II)I"⟩
abbrev cX9_ownsAt : ByteArray := prog_11_method_39_code
def yX9_ownsAt : MethodName := ⟨RX9, "ownsAt", "(II)I"⟩
abbrev cX9_owns : ByteArray := prog_11_method_40_code
def yX9_owns : MethodName := ⟨RX9, "owns", "(II)I"⟩
abbrev cX9_richest : ByteArray := prog_11_method_41_code
def yX9_richest : MethodName := ⟨RX9, "richest", "(I)I"⟩
abbrev cX9_house : ByteArray := prog_11_method_42_code
def yX9_house : MethodName := ⟨RX9, "house", "(I)I"⟩
abbrev cX9_many : ByteArray := prog_11_method_43_code
def yX9_many : MethodName := ⟨RX9, "many", "(I)I"⟩
abbrev cX9_where : ByteArray := prog_11_method_44_code
def yX9_where : MethodName := ⟨RX9, "where", "(I)I"⟩
abbrev cX9_houseTold : ByteArray := prog_11_method_45_code
def yX9_houseTold : MethodName := ⟨RX9, "houseTold", "(II)I"⟩
abbrev cX9_settle : ByteArray := prog_11_method_46_code
def yX9_settle : MethodName := ⟨RX9, "settle", "(II)I"⟩
abbrev cX9_peak : ByteArray := prog_11_method_47_code
def yX9_peak : MethodName := ⟨RX9, "peak", "()I"⟩
abbrev cX9_cut : ByteArray := prog_11_method_48_code
def yX9_cut : MethodName := ⟨RX9, "cut", "(I)I"⟩
abbrev cX9_lack : ByteArray := prog_11_method_49_code
def yX9_lack : MethodName := ⟨RX9, "lack", "(I)I"⟩
abbrev cX9_going : ByteArray := prog_11_method_50_code
def yX9_going : MethodName := ⟨RX9, "going", "(II)I"⟩
abbrev cX9_grows : ByteArray := prog_11_method_51_code
def yX9_grows : MethodName := ⟨RX9, "grows", "(I)I"⟩
abbrev cX9_goesOn : ByteArray := prog_11_method_52_code
def yX9_goesOn : MethodName := ⟨RX9, "goesOn", "()V"⟩
abbrev cX9_run : ByteArray := prog_11_method_53_code
def yX9_run : MethodName := ⟨RX9, "run", "(I)I"⟩
abbrev cX9_allCorn : ByteArray := prog_11_method_54_code
def yX9_allCorn : MethodName := ⟨RX9, "allCorn", "()I"⟩
abbrev cX9_feed : ByteArray := prog_11_method_55_code
def yX9_feed : MethodName := ⟨RX9, "feed", "(III)I"⟩
abbrev cX9_trim : ByteArray := prog_11_method_56_code
def yX9_trim : MethodName := ⟨RX9, "trim", "(I)I"⟩
abbrev cX9_isLetter : ByteArray := prog_11_method_57_code
def yX9_isLetter : MethodName := ⟨RX9, "isLetter", "(I)Z"⟩
abbrev cX9_isDigit : ByteArray := prog_11_method_58_code
def yX9_isDigit : MethodName := ⟨RX9, "isDigit", "(I)Z"⟩
abbrev cX9_nextToken : ByteArray := prog_11_method_59_code
def yX9_nextToken : MethodName := ⟨RX9, "nextToken", "()V"⟩
abbrev cX9_isSign : ByteArray := prog_11_method_60_code
def yX9_isSign : MethodName := ⟨RX9, "isSign", "(I)Z"⟩
abbrev cX9_isWordAt : ByteArray := prog_11_method_61_code
def yX9_isWordAt : MethodName := ⟨RX9, "isWordAt", "(IIII)Z"⟩
abbrev cX9_key : ByteArray := prog_11_method_62_code
def yX9_key : MethodName := ⟨RX9, "key", "()I"⟩
abbrev cX9_isName : ByteArray := prog_11_method_63_code
def yX9_isName : MethodName := ⟨RX9, "isName", "(II)Z"⟩
abbrev cX9_step : ByteArray := prog_11_method_64_code
def yX9_step : MethodName := ⟨RX9, "step", "(II)V"⟩
abbrev cX9_either : ByteArray := prog_11_method_65_code
def yX9_either : MethodName := ⟨RX9, "either", "(I)Z"⟩
abbrev cX9_both : ByteArray := prog_11_method_66_code
def yX9_both : MethodName := ⟨RX9, "both", "(I)Z"⟩
abbrev cX9_test : ByteArray := prog_11_method_67_code
def yX9_test : MethodName := ⟨RX9, "test", "(I)Z"⟩
abbrev cX9_sum : ByteArray := prog_11_method_68_code
def yX9_sum : MethodName := ⟨RX9, "sum", "(I)Z"⟩
abbrev cX9_term : ByteArray := prog_11_method_69_code
def yX9_term : MethodName := ⟨RX9, "term", "(I)Z"⟩
abbrev cX9_part0 : ByteArray := prog_11_method_70_code
def yX9_part0 : MethodName := ⟨RX9, "part0", "(I)Z"⟩
abbrev cX9_parse : ByteArray := prog_11_method_71_code
def yX9_parse : MethodName := ⟨RX9, "parse", "()I"⟩
abbrev cX9_text : ByteArray := prog_11_method_72_code
def yX9_text : MethodName := ⟨RX9, "text", "()I"⟩
abbrev cX9_textTold : ByteArray := prog_11_method_73_code
def yX9_textTold : MethodName := ⟨RX9, "textTold", "(II)I"⟩
abbrev cX9_counts : ByteArray := prog_11_method_74_code
def yX9_counts : MethodName := ⟨RX9, "counts", "(I)I"⟩
abbrev cX9_why : ByteArray := prog_11_method_75_code
def yX9_why : MethodName := ⟨RX9, "why", "(I)I"⟩
abbrev cX9_joined : ByteArray := prog_11_method_76_code
def yX9_joined : MethodName := ⟨RX9, "joined", "(III)I"⟩
abbrev cX9_worked : ByteArray := prog_11_method_77_code
def yX9_worked : MethodName := ⟨RX9, "worked", "(I)I"⟩
abbrev cX9_isSheet : ByteArray := prog_11_method_78_code
def yX9_isSheet : MethodName := ⟨RX9, "isSheet", "(I)Z"⟩
abbrev cX9_sheet : ByteArray := prog_11_method_79_code
def yX9_sheet : MethodName := ⟨RX9, "sheet", "(III)I"⟩
abbrev cX9_mark : ByteArray := prog_11_method_80_code
def yX9_mark : MethodName := ⟨RX9, "mark", "(III)I"⟩
abbrev cX9_pour : ByteArray := prog_11_method_81_code
def yX9_pour : MethodName := ⟨RX9, "pour", "(II)I"⟩
abbrev cX9_reads : ByteArray := prog_11_method_82_code
def yX9_reads : MethodName := ⟨RX9, "reads", "(I)I"⟩
abbrev cX9_copy : ByteArray := prog_11_method_83_code
def yX9_copy : MethodName := ⟨RX9, "copy", "(IIIII)I"⟩
abbrev cX9_isSlot : ByteArray := prog_11_method_84_code
def yX9_isSlot : MethodName := ⟨RX9, "isSlot", "(I)Z"⟩
abbrev cX9_lay : ByteArray := prog_11_method_85_code
def yX9_lay : MethodName := ⟨RX9, "lay", "(III)I"⟩
abbrev cX9_ask : ByteArray := prog_11_method_86_code
def yX9_ask : MethodName := ⟨RX9, "ask", "(II)I"⟩
abbrev cX9_item : ByteArray := prog_11_method_87_code
def yX9_item : MethodName := ⟨RX9, "item", "(II)I"⟩
abbrev cX9_rest : ByteArray := prog_11_method_88_code
def yX9_rest : MethodName := ⟨RX9, "rest", "(II)I"⟩
abbrev cX9_tell : ByteArray := prog_11_method_89_code
def yX9_tell : MethodName := ⟨RX9, "tell", "(I)I"⟩
abbrev cX9_setAside : ByteArray := prog_11_method_90_code
def yX9_setAside : MethodName := ⟨RX9, "setAside", "([I[I)V"⟩
abbrev cX9_check : ByteArray := prog_11_method_91_code
def yX9_check : MethodName := ⟨RX9, "check", "(I)I"⟩
abbrev cX9_keep : ByteArray := prog_11_method_92_code
def yX9_keep : MethodName := ⟨RX9, "keep", "()I"⟩
abbrev cX9_back : ByteArray := prog_11_method_93_code
def yX9_back : MethodName := ⟨RX9, "back", "()I"⟩
abbrev cX9_count : ByteArray := prog_11_method_94_code
def yX9_count : MethodName := ⟨RX9, "count", "(I)I"⟩
def RJx145de : String := "java/io/Serializable"
def TJx145de : u_T := fun k => match k with
  | _ => ("", "", "", false)
def tyJx145de : Nat → FieldType := fun k => match k with
  | _ => .int
abbrev wsJx145de0 : List Cond := u_ws RJx145de TJx145de 0
theorem nmJx145de : ∀ a, a < 0 → ∀ b, b < 0 → a ≠ b → (TJx145de a).2.1 ≠ (TJx145de b).2.1 := by decide +kernel
theorem tyJx145de_ok : ∀ k, k < 0 → parseFieldDescriptor (TJx145de k).2.2.1 = some (tyJx145de k) := by decide +kernel
def RJx9f9b0 : String := "java/lang/CharSequence"
def TJx9f9b0 : u_T := fun k => match k with
  | _ => ("", "", "", false)
def tyJx9f9b0 : Nat → FieldType := fun k => match k with
  | _ => .int
abbrev wsJx9f9b00 : List Cond := u_ws RJx9f9b0 TJx9f9b0 0
theorem nmJx9f9b0 : ∀ a, a < 0 → ∀ b, b < 0 → a ≠ b → (TJx9f9b0 a).2.1 ≠ (TJx9f9b0 b).2.1 := by decide +kernel
theorem tyJx9f9b0_ok : ∀ k, k < 0 → parseFieldDescriptor (TJx9f9b0 k).2.2.1 = some (tyJx9f9b0 k) := by decide +kernel
def RJ11 : String := "java/lang/Character"
def TJ11 : u_T := fun k => match k with
  | _ => ("", "", "", false)
def tyJ11 : Nat → FieldType := fun k => match k with
  | _ => .int
abbrev wsJ110 : List Cond := u_ws RJ11 TJ11 0
theorem nmJ11 : ∀ a, a < 0 → ∀ b, b < 0 → a ≠ b → (TJ11 a).2.1 ≠ (TJ11 b).2.1 := by decide +kernel
theorem tyJ11_ok : ∀ k, k < 0 → parseFieldDescriptor (TJ11 k).2.2.1 = some (tyJ11 k) := by decide +kernel
abbrev cJ11_isValidCodePoint_9a6ad : ByteArray := prog_12_method_11_code
def yJ11_isValidCodePoint_9a6ad : MethodName := ⟨RJ11, "isValidCodePoint", "(I)Z"⟩
abbrev cJ11_highSurrogate_5068e : ByteArray := prog_12_method_28_code
def yJ11_highSurrogate_5068e : MethodName := ⟨RJ11, "highSurrogate", "(I)C"⟩
abbrev cJ11_lowSurrogate_5068e : ByteArray := prog_12_method_29_code
def yJ11_lowSurrogate_5068e : MethodName := ⟨RJ11, "lowSurrogate", "(I)C"⟩
def RJxb160c : String := "java/lang/Comparable"
def TJxb160c : u_T := fun k => match k with
  | _ => ("", "", "", false)
def tyJxb160c : Nat → FieldType := fun k => match k with
  | _ => .int
abbrev wsJxb160c0 : List Cond := u_ws RJxb160c TJxb160c 0
theorem nmJxb160c : ∀ a, a < 0 → ∀ b, b < 0 → a ≠ b → (TJxb160c a).2.1 ≠ (TJxb160c b).2.1 := by decide +kernel
theorem tyJxb160c_ok : ∀ k, k < 0 → parseFieldDescriptor (TJxb160c k).2.2.1 = some (tyJxb160c k) := by decide +kernel
def RJ6 : String := "java/lang/Integer"
def TJ6 : u_T := fun k => match k with
  | _ => ("", "", "", false)
def tyJ6 : Nat → FieldType := fun k => match k with
  | _ => .int
abbrev wsJ60 : List Cond := u_ws RJ6 TJ6 0
theorem nmJ6 : ∀ a, a < 0 → ∀ b, b < 0 → a ≠ b → (TJ6 a).2.1 ≠ (TJ6 b).2.1 := by decide +kernel
theorem tyJ6_ok : ∀ k, k < 0 → parseFieldDescriptor (TJ6 k).2.2.1 = some (tyJ6 k) := by decide +kernel
abbrev cJ6_bitCount_0f7a4 : ByteArray := prog_13_method_49_code
def yJ6_bitCount_0f7a4 : MethodName := ⟨RJ6, "bitCount", "(I)I"⟩
def RJ9 : String := "java/lang/Math"
def TJ9 : u_T := fun k => match k with
  | _ => ("", "", "", false)
def tyJ9 : Nat → FieldType := fun k => match k with
  | _ => .int
abbrev wsJ90 : List Cond := u_ws RJ9 TJ9 0
theorem nmJ9 : ∀ a, a < 0 → ∀ b, b < 0 → a ≠ b → (TJ9 a).2.1 ≠ (TJ9 b).2.1 := by decide +kernel
theorem tyJ9_ok : ∀ k, k < 0 → parseFieldDescriptor (TJ9 k).2.2.1 = some (tyJ9 k) := by decide +kernel
abbrev cJ9_max_7cf53 : ByteArray := prog_14_method_65_code
def yJ9_max_7cf53 : MethodName := ⟨RJ9, "max", "(II)I"⟩
abbrev cJ9_min_7cf53 : ByteArray := prog_14_method_69_code
def yJ9_min_7cf53 : MethodName := ⟨RJ9, "min", "(II)I"⟩
def RJ0 : String := "java/lang/String"
def TJ0 : u_T := fun k => match k with
  | _ => ("", "", "", false)
def tyJ0 : Nat → FieldType := fun k => match k with
  | _ => .int
abbrev wsJ00 : List Cond := u_ws RJ0 TJ0 0
theorem nmJ0 : ∀ a, a < 0 → ∀ b, b < 0 → a ≠ b → (TJ0 a).2.1 ≠ (TJ0 b).2.1 := by decide +kernel
theorem tyJ0_ok : ∀ k, k < 0 → parseFieldDescriptor (TJ0 k).2.2.1 = some (tyJ0 k) := by decide +kernel
abbrev cJ0_length_8abf5 : ByteArray := prog_15_method_54_code
def yJ0_length_8abf5 : MethodName := ⟨RJ0, "length", "()I"⟩
abbrev cJ0_charAt_5068e : ByteArray := prog_15_method_56_code
def yJ0_charAt_5068e : MethodName := ⟨RJ0, "charAt", "(I)C"⟩
abbrev cJ0_indexOf_0f7a4 : ByteArray := prog_15_method_79_code
def yJ0_indexOf_0f7a4 : MethodName := ⟨RJ0, "indexOf", "(I)I"⟩
abbrev cJ0_indexOf_7cf53 : ByteArray := prog_15_method_80_code
def yJ0_indexOf_7cf53 : MethodName := ⟨RJ0, "indexOf", "(II)I"⟩
abbrev cJ0_coder_7d493 : ByteArray := prog_15_method_152_code
def yJ0_coder_7d493 : MethodName := ⟨RJ0, "coder", "()B"⟩
abbrev cJ0_isLatin1_aae02 : ByteArray := prog_15_method_154_code
def yJ0_isLatin1_aae02 : MethodName := ⟨RJ0, "isLatin1", "()Z"⟩
abbrev cJ0_checkIndex_df160 : ByteArray := prog_15_method_155_code
def yJ0_checkIndex_df160 : MethodName := ⟨RJ0, "checkIndex", "(II)V"⟩
abbrev cJ0_checkBoundsBeginEnd_23922 : ByteArray := prog_15_method_158_code
def yJ0_checkBoundsBeginEnd_23922 : MethodName := ⟨RJ0, "checkBoundsBeginEnd", "(III)V"⟩
def RJ1 : String := "java/lang/StringLatin1"
def TJ1 : u_T := fun k => match k with
  | _ => ("", "", "", false)
def tyJ1 : Nat → FieldType := fun k => match k with
  | _ => .int
abbrev wsJ10 : List Cond := u_ws RJ1 TJ1 0
theorem nmJ1 : ∀ a, a < 0 → ∀ b, b < 0 → a ≠ b → (TJ1 a).2.1 ≠ (TJ1 b).2.1 := by decide +kernel
theorem tyJ1_ok : ∀ k, k < 0 → parseFieldDescriptor (TJ1 k).2.2.1 = some (tyJ1 k) := by decide +kernel
abbrev cJ1_charAt_3b067 : ByteArray := prog_16_method_2_code
def yJ1_charAt_3b067 : MethodName := ⟨RJ1, "charAt", "([BI)C"⟩
abbrev cJ1_canEncode_9a6ad : ByteArray := prog_16_method_4_code
def yJ1_canEncode_9a6ad : MethodName := ⟨RJ1, "canEncode", "(I)Z"⟩
abbrev cJ1_indexOf_4cfef : ByteArray := prog_16_method_22_code
def yJ1_indexOf_4cfef : MethodName := ⟨RJ1, "indexOf", "([BIII)I"⟩
abbrev cJ1_indexOfChar_4cfef : ByteArray := prog_16_method_23_code
def yJ1_indexOfChar_4cfef : MethodName := ⟨RJ1, "indexOfChar", "([BIII)I"⟩
def RJ2 : String := "java/lang/StringUTF16"
def TJ2 : u_T := fun k => match k with
  | _ => ("", "", "", false)
def tyJ2 : Nat → FieldType := fun k => match k with
  | _ => .int
abbrev wsJ20 : List Cond := u_ws RJ2 TJ2 0
theorem nmJ2 : ∀ a, a < 0 → ∀ b, b < 0 → a ≠ b → (TJ2 a).2.1 ≠ (TJ2 b).2.1 := by decide +kernel
theorem tyJ2_ok : ∀ k, k < 0 → parseFieldDescriptor (TJ2 k).2.2.1 = some (tyJ2 k) := by decide +kernel
abbrev cJ2_getChar_3b067 : ByteArray := prog_17_method_5_code
def yJ2_getChar_3b067 : MethodName := ⟨RJ2, "getChar", "([BI)C"⟩
abbrev cJ2_length_9d52b : ByteArray := prog_17_method_6_code
def yJ2_length_9d52b : MethodName := ⟨RJ2, "length", "([B)I"⟩
abbrev cJ2_indexOf_4cfef : ByteArray := prog_17_method_40_code
def yJ2_indexOf_4cfef : MethodName := ⟨RJ2, "indexOf", "([BIII)I"⟩
abbrev cJ2_indexOfChar_4cfef : ByteArray := prog_17_method_47_code
def yJ2_indexOfChar_4cfef : MethodName := ⟨RJ2, "indexOfChar", "([BIII)I"⟩
abbrev cJ2_indexOfCharUnsafe_4cfef : ByteArray := prog_17_method_48_code
def yJ2_indexOfCharUnsafe_4cfef : MethodName := ⟨RJ2, "indexOfCharUnsafe", "([BIII)I"⟩
abbrev cJ2_indexOfSupplementary_4cfef : ByteArray := prog_17_method_49_code
def yJ2_indexOfSupplementary_4cfef : MethodName := ⟨RJ2, "indexOfSupplementary", "([BIII)I"⟩
abbrev cJ2_charAt_3b067 : ByteArray := prog_17_method_83_code
def yJ2_charAt_3b067 : MethodName := ⟨RJ2, "charAt", "([BI)C"⟩
abbrev cJ2_checkIndex_2214a : ByteArray := prog_17_method_91_code
def yJ2_checkIndex_2214a : MethodName := ⟨RJ2, "checkIndex", "(I[B)V"⟩
abbrev cJ2_checkBoundsBeginEnd_d044e : ByteArray := prog_17_method_93_code
def yJ2_checkBoundsBeginEnd_d044e : MethodName := ⟨RJ2, "checkBoundsBeginEnd", "(II[B)V"⟩
def RJ10 : String := "java/lang/System"
def TJ10 : u_T := fun k => match k with
  | _ => ("", "", "", false)
def tyJ10 : Nat → FieldType := fun k => match k with
  | _ => .int
abbrev wsJ100 : List Cond := u_ws RJ10 TJ10 0
theorem nmJ10 : ∀ a, a < 0 → ∀ b, b < 0 → a ≠ b → (TJ10 a).2.1 ≠ (TJ10 b).2.1 := by decide +kernel
theorem tyJ10_ok : ∀ k, k < 0 → parseFieldDescriptor (TJ10 k).2.2.1 = some (tyJ10 k) := by decide +kernel
def RJxfd54e : String := "java/lang/constant/Constable"
def TJxfd54e : u_T := fun k => match k with
  | _ => ("", "", "", false)
def tyJxfd54e : Nat → FieldType := fun k => match k with
  | _ => .int
abbrev wsJxfd54e0 : List Cond := u_ws RJxfd54e TJxfd54e 0
theorem nmJxfd54e : ∀ a, a < 0 → ∀ b, b < 0 → a ≠ b → (TJxfd54e a).2.1 ≠ (TJxfd54e b).2.1 := by decide +kernel
theorem tyJxfd54e_ok : ∀ k, k < 0 → parseFieldDescriptor (TJxfd54e k).2.2.1 = some (tyJxfd54e k) := by decide +kernel
def RJx3cf43 : String := "java/lang/constant/ConstantDesc"
def TJx3cf43 : u_T := fun k => match k with
  | _ => ("", "", "", false)
def tyJx3cf43 : Nat → FieldType := fun k => match k with
  | _ => .int
abbrev wsJx3cf430 : List Cond := u_ws RJx3cf43 TJx3cf43 0
theorem nmJx3cf43 : ∀ a, a < 0 → ∀ b, b < 0 → a ≠ b → (TJx3cf43 a).2.1 ≠ (TJx3cf43 b).2.1 := by decide +kernel
theorem tyJx3cf43_ok : ∀ k, k < 0 → parseFieldDescriptor (TJx3cf43 k).2.2.1 = some (tyJx3cf43 k) := by decide +kernel
def RJ7 : String := "java/util/Arrays"
def TJ7 : u_T := fun k => match k with
  | _ => ("", "", "", false)
def tyJ7 : Nat → FieldType := fun k => match k with
  | _ => .int
abbrev wsJ70 : List Cond := u_ws RJ7 TJ7 0
theorem nmJ7 : ∀ a, a < 0 → ∀ b, b < 0 → a ≠ b → (TJ7 a).2.1 ≠ (TJ7 b).2.1 := by decide +kernel
theorem tyJ7_ok : ∀ k, k < 0 → parseFieldDescriptor (TJ7 k).2.2.1 = some (tyJ7 k) := by decide +kernel
abbrev cJ7_fill_53178 : ByteArray := prog_19_method_103_code
def yJ7_fill_53178 : MethodName := ⟨RJ7, "fill", "([II)V"⟩
def RJ3 : String := "jdk/internal/util/Preconditions"
def TJ3 : u_T := fun k => match k with
  | _ => ("", "", "", false)
def tyJ3 : Nat → FieldType := fun k => match k with
  | _ => .int
abbrev wsJ30 : List Cond := u_ws RJ3 TJ3 0
theorem nmJ3 : ∀ a, a < 0 → ∀ b, b < 0 → a ≠ b → (TJ3 a).2.1 ≠ (TJ3 b).2.1 := by decide +kernel
theorem tyJ3_ok : ∀ k, k < 0 → parseFieldDescriptor (TJ3 k).2.2.1 = some (tyJ3 k) := by decide +kernel
abbrev cJ3_checkIndex_8e157 : ByteArray := prog_20_method_11_code
def yJ3_checkIndex_8e157 : MethodName := ⟨RJ3, "checkIndex", "(IILjava/util/function/BiFunction;)I"⟩
abbrev cJ3_checkFromToIndex_8c36e : ByteArray := prog_20_method_12_code
def yJ3_checkFromToIndex_8c36e : MethodName := ⟨RJ3, "checkFromToIndex", "(IIILjava/util/function/BiFunction;)I"⟩
def RL : String := "TideIslandLaw"
abbrev cL_law : ByteArray := code
def yL_law : MethodName := ⟨RL, "law", "([I)Z"⟩
