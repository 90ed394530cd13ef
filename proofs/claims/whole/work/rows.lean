section
-- ===== PART A: goes FIRST, ahead of the names: the tables' words, and 'selects' of the private methods out of them =====
/-- a private method of a class that the tables say can be made, by its rows of tables_1 -/
def lw_okq (q : MethodName × Nat) : Prop := (q.1.cls ≠ "java/lang/invoke/MethodHandle" ∧ q.1.cls ≠ "java/lang/invoke/VarHandle") ∧ Cond.instantiable q.1.cls q.2 ∈ tables_1 ∧ Cond.privateMethod q.1 ∈ tables_1 ∧ Cond.instanceMethod q.1 ∈ tables_1
theorem lw_p0 : lw_okq (⟨"MeterDesk$Sight", "openLines", "()I"⟩, 19) := ⟨⟨by decide +kernel, by decide +kernel⟩, List.mem_of_getElem? (i := 182) (by decide +kernel), List.mem_of_getElem? (i := 403) (by decide +kernel), List.mem_of_getElem? (i := 404) (by decide +kernel)⟩
theorem lw_p1 : lw_okq (⟨"MeterDesk$Sight", "reachOf", "(II)I"⟩, 19) := ⟨⟨by decide +kernel, by decide +kernel⟩, List.mem_of_getElem? (i := 182) (by decide +kernel), List.mem_of_getElem? (i := 407) (by decide +kernel), List.mem_of_getElem? (i := 408) (by decide +kernel)⟩
theorem lw_p2 : lw_okq (⟨"MeterDesk$Plan", "linesBeside", "(I)I"⟩, 11) := ⟨⟨by decide +kernel, by decide +kernel⟩, List.mem_of_getElem? (i := 31) (by decide +kernel), List.mem_of_getElem? (i := 423) (by decide +kernel), List.mem_of_getElem? (i := 424) (by decide +kernel)⟩
theorem lw_p3 : lw_okq (⟨"MeterDesk$Plan", "linesAt", "(II)I"⟩, 11) := ⟨⟨by decide +kernel, by decide +kernel⟩, List.mem_of_getElem? (i := 31) (by decide +kernel), List.mem_of_getElem? (i := 427) (by decide +kernel), List.mem_of_getElem? (i := 428) (by decide +kernel)⟩
theorem lw_p4 : lw_okq (⟨"MeterDesk$Plan", "linesNear", "(II)I"⟩, 11) := ⟨⟨by decide +kernel, by decide +kernel⟩, List.mem_of_getElem? (i := 31) (by decide +kernel), List.mem_of_getElem? (i := 431) (by decide +kernel), List.mem_of_getElem? (i := 432) (by decide +kernel)⟩
theorem lw_p5 : lw_okq (⟨"MeterDesk$Family", "joinLine", "(ILMeterDesk$Family;)V"⟩, 2) := ⟨⟨by decide +kernel, by decide +kernel⟩, List.mem_of_getElem? (i := 188) (by decide +kernel), List.mem_of_getElem? (i := 443) (by decide +kernel), List.mem_of_getElem? (i := 444) (by decide +kernel)⟩
theorem lw_p6 : lw_okq (⟨"MeterDesk$Sight", "joinAll", "(I)I"⟩, 19) := ⟨⟨by decide +kernel, by decide +kernel⟩, List.mem_of_getElem? (i := 182) (by decide +kernel), List.mem_of_getElem? (i := 466) (by decide +kernel), List.mem_of_getElem? (i := 467) (by decide +kernel)⟩
theorem lw_p7 : lw_okq (⟨"MeterDesk$Reader", "readClause", "()Z"⟩, 7) := ⟨⟨by decide +kernel, by decide +kernel⟩, List.mem_of_getElem? (i := 94) (by decide +kernel), List.mem_of_getElem? (i := 527) (by decide +kernel), List.mem_of_getElem? (i := 528) (by decide +kernel)⟩
theorem lw_p8 : lw_okq (⟨"MeterDesk$Reader", "advance", "()V"⟩, 7) := ⟨⟨by decide +kernel, by decide +kernel⟩, List.mem_of_getElem? (i := 94) (by decide +kernel), List.mem_of_getElem? (i := 531) (by decide +kernel), List.mem_of_getElem? (i := 532) (by decide +kernel)⟩
theorem lw_p9 : lw_okq (⟨"MeterDesk$Reader", "isWord", "(Ljava/lang/String;)Z"⟩, 7) := ⟨⟨by decide +kernel, by decide +kernel⟩, List.mem_of_getElem? (i := 94) (by decide +kernel), List.mem_of_getElem? (i := 539) (by decide +kernel), List.mem_of_getElem? (i := 540) (by decide +kernel)⟩
theorem lw_p10 : lw_okq (⟨"MeterDesk$Reader", "readGrid", "()Z"⟩, 7) := ⟨⟨by decide +kernel, by decide +kernel⟩, List.mem_of_getElem? (i := 94) (by decide +kernel), List.mem_of_getElem? (i := 591) (by decide +kernel), List.mem_of_getElem? (i := 592) (by decide +kernel)⟩
theorem lw_p11 : lw_okq (⟨"MeterDesk$Reader", "readNumber", "(II)I"⟩, 7) := ⟨⟨by decide +kernel, by decide +kernel⟩, List.mem_of_getElem? (i := 94) (by decide +kernel), List.mem_of_getElem? (i := 595) (by decide +kernel), List.mem_of_getElem? (i := 596) (by decide +kernel)⟩
theorem lw_p12 : lw_okq (⟨"MeterDesk$Reader", "readLine", "()Z"⟩, 7) := ⟨⟨by decide +kernel, by decide +kernel⟩, List.mem_of_getElem? (i := 94) (by decide +kernel), List.mem_of_getElem? (i := 604) (by decide +kernel), List.mem_of_getElem? (i := 605) (by decide +kernel)⟩
theorem lw_p13 : lw_okq (⟨"MeterDesk$Reader", "readOffer", "()Z"⟩, 7) := ⟨⟨by decide +kernel, by decide +kernel⟩, List.mem_of_getElem? (i := 94) (by decide +kernel), List.mem_of_getElem? (i := 619) (by decide +kernel), List.mem_of_getElem? (i := 620) (by decide +kernel)⟩
theorem lw_p14 : lw_okq (⟨"MeterDesk$Reader", "readSortName", "()I"⟩, 7) := ⟨⟨by decide +kernel, by decide +kernel⟩, List.mem_of_getElem? (i := 94) (by decide +kernel), List.mem_of_getElem? (i := 628) (by decide +kernel), List.mem_of_getElem? (i := 629) (by decide +kernel)⟩
theorem lw_p15 : lw_okq (⟨"MeterDesk$Reader", "readMeter", "(I)Z"⟩, 7) := ⟨⟨by decide +kernel, by decide +kernel⟩, List.mem_of_getElem? (i := 94) (by decide +kernel), List.mem_of_getElem? (i := 637) (by decide +kernel), List.mem_of_getElem? (i := 638) (by decide +kernel)⟩
def lw_privs_1 : List (MethodName × Nat) := [(⟨"MeterDesk$Sight", "openLines", "()I"⟩, 19), (⟨"MeterDesk$Sight", "reachOf", "(II)I"⟩, 19), (⟨"MeterDesk$Plan", "linesBeside", "(I)I"⟩, 11), (⟨"MeterDesk$Plan", "linesAt", "(II)I"⟩, 11), (⟨"MeterDesk$Plan", "linesNear", "(II)I"⟩, 11), (⟨"MeterDesk$Family", "joinLine", "(ILMeterDesk$Family;)V"⟩, 2), (⟨"MeterDesk$Sight", "joinAll", "(I)I"⟩, 19), (⟨"MeterDesk$Reader", "readClause", "()Z"⟩, 7), (⟨"MeterDesk$Reader", "advance", "()V"⟩, 7), (⟨"MeterDesk$Reader", "isWord", "(Ljava/lang/String;)Z"⟩, 7), (⟨"MeterDesk$Reader", "readGrid", "()Z"⟩, 7), (⟨"MeterDesk$Reader", "readNumber", "(II)I"⟩, 7), (⟨"MeterDesk$Reader", "readLine", "()Z"⟩, 7), (⟨"MeterDesk$Reader", "readOffer", "()Z"⟩, 7), (⟨"MeterDesk$Reader", "readSortName", "()I"⟩, 7), (⟨"MeterDesk$Reader", "readMeter", "(I)Z"⟩, 7)]
theorem lw_r1 : ∀ q ∈ lw_privs_1, lw_okq q := List.forall_mem_cons.mpr ⟨lw_p0, List.forall_mem_cons.mpr ⟨lw_p1, List.forall_mem_cons.mpr ⟨lw_p2, List.forall_mem_cons.mpr ⟨lw_p3, List.forall_mem_cons.mpr ⟨lw_p4, List.forall_mem_cons.mpr ⟨lw_p5, List.forall_mem_cons.mpr ⟨lw_p6, List.forall_mem_cons.mpr ⟨lw_p7, List.forall_mem_cons.mpr ⟨lw_p8, List.forall_mem_cons.mpr ⟨lw_p9, List.forall_mem_cons.mpr ⟨lw_p10, List.forall_mem_cons.mpr ⟨lw_p11, List.forall_mem_cons.mpr ⟨lw_p12, List.forall_mem_cons.mpr ⟨lw_p13, List.forall_mem_cons.mpr ⟨lw_p14, List.forall_mem_cons.mpr ⟨lw_p15, fun _ h => absurd h List.not_mem_nil⟩⟩⟩⟩⟩⟩⟩⟩⟩⟩⟩⟩⟩⟩⟩⟩
theorem lw_p16 : lw_okq (⟨"MeterDesk", "isLine", "(I)Z"⟩, 9) := ⟨⟨by decide +kernel, by decide +kernel⟩, List.mem_of_getElem? (i := 23) (by decide +kernel), List.mem_of_getElem? (i := 664) (by decide +kernel), List.mem_of_getElem? (i := 665) (by decide +kernel)⟩
theorem lw_p17 : lw_okq (⟨"MeterDesk$Sight", "learnServers", "()V"⟩, 19) := ⟨⟨by decide +kernel, by decide +kernel⟩, List.mem_of_getElem? (i := 182) (by decide +kernel), List.mem_of_getElem? (i := 672) (by decide +kernel), List.mem_of_getElem? (i := 673) (by decide +kernel)⟩
theorem lw_p18 : lw_okq (⟨"MeterDesk$Servers", "learnAround", "(I[II)V"⟩, 4) := ⟨⟨by decide +kernel, by decide +kernel⟩, List.mem_of_getElem? (i := 230) (by decide +kernel), List.mem_of_getElem? (i := 684) (by decide +kernel), List.mem_of_getElem? (i := 685) (by decide +kernel)⟩
theorem lw_p19 : lw_okq (⟨"MeterDesk$Servers", "leastMeter", "(II)I"⟩, 4) := ⟨⟨by decide +kernel, by decide +kernel⟩, List.mem_of_getElem? (i := 230) (by decide +kernel), List.mem_of_getElem? (i := 692) (by decide +kernel), List.mem_of_getElem? (i := 693) (by decide +kernel)⟩
theorem lw_p20 : lw_okq (⟨"MeterDesk$Servers", "canAllHaveOne", "(II)Z"⟩, 4) := ⟨⟨by decide +kernel, by decide +kernel⟩, List.mem_of_getElem? (i := 230) (by decide +kernel), List.mem_of_getElem? (i := 696) (by decide +kernel), List.mem_of_getElem? (i := 697) (by decide +kernel)⟩
theorem lw_p21 : lw_okq (⟨"MeterDesk", "isMeter", "(I)Z"⟩, 9) := ⟨⟨by decide +kernel, by decide +kernel⟩, List.mem_of_getElem? (i := 23) (by decide +kernel), List.mem_of_getElem? (i := 705) (by decide +kernel), List.mem_of_getElem? (i := 706) (by decide +kernel)⟩
theorem lw_p22 : lw_okq (⟨"MeterDesk", "refusePlace", "(II)I"⟩, 9) := ⟨⟨by decide +kernel, by decide +kernel⟩, List.mem_of_getElem? (i := 23) (by decide +kernel), List.mem_of_getElem? (i := 733) (by decide +kernel), List.mem_of_getElem? (i := 734) (by decide +kernel)⟩
theorem lw_p23 : lw_okq (⟨"MeterDesk$Sight", "findWeak", "()I"⟩, 19) := ⟨⟨by decide +kernel, by decide +kernel⟩, List.mem_of_getElem? (i := 182) (by decide +kernel), List.mem_of_getElem? (i := 795) (by decide +kernel), List.mem_of_getElem? (i := 796) (by decide +kernel)⟩
theorem lw_p24 : lw_okq (⟨"MeterDesk$Sight", "findDeal", "()I"⟩, 19) := ⟨⟨by decide +kernel, by decide +kernel⟩, List.mem_of_getElem? (i := 182) (by decide +kernel), List.mem_of_getElem? (i := 816) (by decide +kernel), List.mem_of_getElem? (i := 817) (by decide +kernel)⟩
theorem lw_p25 : lw_okq (⟨"MeterDesk$Sight", "isBetterDeal", "(II)Z"⟩, 19) := ⟨⟨by decide +kernel, by decide +kernel⟩, List.mem_of_getElem? (i := 182) (by decide +kernel), List.mem_of_getElem? (i := 820) (by decide +kernel), List.mem_of_getElem? (i := 821) (by decide +kernel)⟩
theorem lw_p26 : lw_okq (⟨"MeterDesk", "openLines", "()I"⟩, 9) := ⟨⟨by decide +kernel, by decide +kernel⟩, List.mem_of_getElem? (i := 23) (by decide +kernel), List.mem_of_getElem? (i := 857) (by decide +kernel), List.mem_of_getElem? (i := 858) (by decide +kernel)⟩
theorem lw_p27 : lw_okq (⟨"MeterDesk$Sightings", "fits", "(ILMeterDesk$Plan;I)Z"⟩, 3) := ⟨⟨by decide +kernel, by decide +kernel⟩, List.mem_of_getElem? (i := 314) (by decide +kernel), List.mem_of_getElem? (i := 866) (by decide +kernel), List.mem_of_getElem? (i := 867) (by decide +kernel)⟩
theorem lw_p28 : lw_okq (⟨"MeterDesk", "thingsOfAllTrays", "()I"⟩, 9) := ⟨⟨by decide +kernel, by decide +kernel⟩, List.mem_of_getElem? (i := 23) (by decide +kernel), List.mem_of_getElem? (i := 952) (by decide +kernel), List.mem_of_getElem? (i := 953) (by decide +kernel)⟩
theorem lw_p29 : lw_okq (⟨"MeterDeskModel", "anew", "(I)V"⟩, 31) := ⟨⟨by decide +kernel, by decide +kernel⟩, List.mem_of_getElem? (i := 956) (by decide +kernel), List.mem_of_getElem? (i := 968) (by decide +kernel), List.mem_of_getElem? (i := 969) (by decide +kernel)⟩
theorem lw_p30 : lw_okq (⟨"MeterDeskModel", "layForests", "()V"⟩, 31) := ⟨⟨by decide +kernel, by decide +kernel⟩, List.mem_of_getElem? (i := 956) (by decide +kernel), List.mem_of_getElem? (i := 972) (by decide +kernel), List.mem_of_getElem? (i := 973) (by decide +kernel)⟩
theorem lw_p31 : lw_okq (⟨"MeterDeskModel", "layParts", "(I)I"⟩, 31) := ⟨⟨by decide +kernel, by decide +kernel⟩, List.mem_of_getElem? (i := 956) (by decide +kernel), List.mem_of_getElem? (i := 979) (by decide +kernel), List.mem_of_getElem? (i := 980) (by decide +kernel)⟩
def lw_privs_2 : List (MethodName × Nat) := [(⟨"MeterDesk", "isLine", "(I)Z"⟩, 9), (⟨"MeterDesk$Sight", "learnServers", "()V"⟩, 19), (⟨"MeterDesk$Servers", "learnAround", "(I[II)V"⟩, 4), (⟨"MeterDesk$Servers", "leastMeter", "(II)I"⟩, 4), (⟨"MeterDesk$Servers", "canAllHaveOne", "(II)Z"⟩, 4), (⟨"MeterDesk", "isMeter", "(I)Z"⟩, 9), (⟨"MeterDesk", "refusePlace", "(II)I"⟩, 9), (⟨"MeterDesk$Sight", "findWeak", "()I"⟩, 19), (⟨"MeterDesk$Sight", "findDeal", "()I"⟩, 19), (⟨"MeterDesk$Sight", "isBetterDeal", "(II)Z"⟩, 19), (⟨"MeterDesk", "openLines", "()I"⟩, 9), (⟨"MeterDesk$Sightings", "fits", "(ILMeterDesk$Plan;I)Z"⟩, 3), (⟨"MeterDesk", "thingsOfAllTrays", "()I"⟩, 9), (⟨"MeterDeskModel", "anew", "(I)V"⟩, 31), (⟨"MeterDeskModel", "layForests", "()V"⟩, 31), (⟨"MeterDeskModel", "layParts", "(I)I"⟩, 31)]
theorem lw_r2 : ∀ q ∈ lw_privs_2, lw_okq q := List.forall_mem_cons.mpr ⟨lw_p16, List.forall_mem_cons.mpr ⟨lw_p17, List.forall_mem_cons.mpr ⟨lw_p18, List.forall_mem_cons.mpr ⟨lw_p19, List.forall_mem_cons.mpr ⟨lw_p20, List.forall_mem_cons.mpr ⟨lw_p21, List.forall_mem_cons.mpr ⟨lw_p22, List.forall_mem_cons.mpr ⟨lw_p23, List.forall_mem_cons.mpr ⟨lw_p24, List.forall_mem_cons.mpr ⟨lw_p25, List.forall_mem_cons.mpr ⟨lw_p26, List.forall_mem_cons.mpr ⟨lw_p27, List.forall_mem_cons.mpr ⟨lw_p28, List.forall_mem_cons.mpr ⟨lw_p29, List.forall_mem_cons.mpr ⟨lw_p30, List.forall_mem_cons.mpr ⟨lw_p31, fun _ h => absurd h List.not_mem_nil⟩⟩⟩⟩⟩⟩⟩⟩⟩⟩⟩⟩⟩⟩⟩⟩
theorem lw_p32 : lw_okq (⟨"MeterDeskModel", "reads", "(Z)Z"⟩, 31) := ⟨⟨by decide +kernel, by decide +kernel⟩, List.mem_of_getElem? (i := 956) (by decide +kernel), List.mem_of_getElem? (i := 1096) (by decide +kernel), List.mem_of_getElem? (i := 1097) (by decide +kernel)⟩
theorem lw_p33 : lw_okq (⟨"MeterDeskModel", "nextToken", "()V"⟩, 31) := ⟨⟨by decide +kernel, by decide +kernel⟩, List.mem_of_getElem? (i := 956) (by decide +kernel), List.mem_of_getElem? (i := 1100) (by decide +kernel), List.mem_of_getElem? (i := 1101) (by decide +kernel)⟩
theorem lw_p34 : lw_okq (⟨"MeterDeskModel", "readsClause", "()Z"⟩, 31) := ⟨⟨by decide +kernel, by decide +kernel⟩, List.mem_of_getElem? (i := 956) (by decide +kernel), List.mem_of_getElem? (i := 1114) (by decide +kernel), List.mem_of_getElem? (i := 1115) (by decide +kernel)⟩
theorem lw_p35 : lw_okq (⟨"MeterDeskModel", "wordHere", "()I"⟩, 31) := ⟨⟨by decide +kernel, by decide +kernel⟩, List.mem_of_getElem? (i := 956) (by decide +kernel), List.mem_of_getElem? (i := 1118) (by decide +kernel), List.mem_of_getElem? (i := 1119) (by decide +kernel)⟩
theorem lw_p36 : lw_okq (⟨"MeterDeskModel", "readsRest", "(I)Z"⟩, 31) := ⟨⟨by decide +kernel, by decide +kernel⟩, List.mem_of_getElem? (i := 956) (by decide +kernel), List.mem_of_getElem? (i := 1122) (by decide +kernel), List.mem_of_getElem? (i := 1123) (by decide +kernel)⟩
theorem lw_p37 : lw_okq (⟨"MeterDeskModel", "number", "(III)Z"⟩, 31) := ⟨⟨by decide +kernel, by decide +kernel⟩, List.mem_of_getElem? (i := 956) (by decide +kernel), List.mem_of_getElem? (i := 1126) (by decide +kernel), List.mem_of_getElem? (i := 1127) (by decide +kernel)⟩
theorem lw_p38 : lw_okq (⟨"MeterDeskModel", "does", "(I)V"⟩, 31) := ⟨⟨by decide +kernel, by decide +kernel⟩, List.mem_of_getElem? (i := 956) (by decide +kernel), List.mem_of_getElem? (i := 1133) (by decide +kernel), List.mem_of_getElem? (i := 1134) (by decide +kernel)⟩
theorem lw_p39 : lw_okq (⟨"MeterDeskModel", "addMeter", "(II)V"⟩, 31) := ⟨⟨by decide +kernel, by decide +kernel⟩, List.mem_of_getElem? (i := 956) (by decide +kernel), List.mem_of_getElem? (i := 1137) (by decide +kernel), List.mem_of_getElem? (i := 1138) (by decide +kernel)⟩
theorem lw_p40 : lw_okq (⟨"MeterDeskModel", "copyRow", "(II)V"⟩, 31) := ⟨⟨by decide +kernel, by decide +kernel⟩, List.mem_of_getElem? (i := 956) (by decide +kernel), List.mem_of_getElem? (i := 1145) (by decide +kernel), List.mem_of_getElem? (i := 1146) (by decide +kernel)⟩
theorem lw_p41 : lw_okq (⟨"MeterDeskModel", "isLine", "(I)Z"⟩, 31) := ⟨⟨by decide +kernel, by decide +kernel⟩, List.mem_of_getElem? (i := 956) (by decide +kernel), List.mem_of_getElem? (i := 1153) (by decide +kernel), List.mem_of_getElem? (i := 1154) (by decide +kernel)⟩
theorem lw_p42 : lw_okq (⟨"MeterDeskModel", "tree", "()I"⟩, 31) := ⟨⟨by decide +kernel, by decide +kernel⟩, List.mem_of_getElem? (i := 956) (by decide +kernel), List.mem_of_getElem? (i := 1157) (by decide +kernel), List.mem_of_getElem? (i := 1158) (by decide +kernel)⟩
theorem lw_p43 : lw_okq (⟨"MeterDeskModel", "rank", "()I"⟩, 31) := ⟨⟨by decide +kernel, by decide +kernel⟩, List.mem_of_getElem? (i := 956) (by decide +kernel), List.mem_of_getElem? (i := 1161) (by decide +kernel), List.mem_of_getElem? (i := 1162) (by decide +kernel)⟩
theorem lw_p44 : lw_okq (⟨"MeterDeskModel", "layTried", "(I)I"⟩, 31) := ⟨⟨by decide +kernel, by decide +kernel⟩, List.mem_of_getElem? (i := 956) (by decide +kernel), List.mem_of_getElem? (i := 1165) (by decide +kernel), List.mem_of_getElem? (i := 1166) (by decide +kernel)⟩
theorem lw_p45 : lw_okq (⟨"MeterDeskModel", "layNone", "(I)V"⟩, 31) := ⟨⟨by decide +kernel, by decide +kernel⟩, List.mem_of_getElem? (i := 956) (by decide +kernel), List.mem_of_getElem? (i := 1169) (by decide +kernel), List.mem_of_getElem? (i := 1170) (by decide +kernel)⟩
theorem lw_p46 : lw_okq (⟨"MeterDeskModel", "mayOf", "(II)I"⟩, 31) := ⟨⟨by decide +kernel, by decide +kernel⟩, List.mem_of_getElem? (i := 956) (by decide +kernel), List.mem_of_getElem? (i := 1173) (by decide +kernel), List.mem_of_getElem? (i := 1174) (by decide +kernel)⟩
theorem lw_p47 : lw_okq (⟨"MeterDeskModel", "mayServe", "(III)I"⟩, 31) := ⟨⟨by decide +kernel, by decide +kernel⟩, List.mem_of_getElem? (i := 956) (by decide +kernel), List.mem_of_getElem? (i := 1177) (by decide +kernel), List.mem_of_getElem? (i := 1178) (by decide +kernel)⟩
def lw_privs_3 : List (MethodName × Nat) := [(⟨"MeterDeskModel", "reads", "(Z)Z"⟩, 31), (⟨"MeterDeskModel", "nextToken", "()V"⟩, 31), (⟨"MeterDeskModel", "readsClause", "()Z"⟩, 31), (⟨"MeterDeskModel", "wordHere", "()I"⟩, 31), (⟨"MeterDeskModel", "readsRest", "(I)Z"⟩, 31), (⟨"MeterDeskModel", "number", "(III)Z"⟩, 31), (⟨"MeterDeskModel", "does", "(I)V"⟩, 31), (⟨"MeterDeskModel", "addMeter", "(II)V"⟩, 31), (⟨"MeterDeskModel", "copyRow", "(II)V"⟩, 31), (⟨"MeterDeskModel", "isLine", "(I)Z"⟩, 31), (⟨"MeterDeskModel", "tree", "()I"⟩, 31), (⟨"MeterDeskModel", "rank", "()I"⟩, 31), (⟨"MeterDeskModel", "layTried", "(I)I"⟩, 31), (⟨"MeterDeskModel", "layNone", "(I)V"⟩, 31), (⟨"MeterDeskModel", "mayOf", "(II)I"⟩, 31), (⟨"MeterDeskModel", "mayServe", "(III)I"⟩, 31)]
theorem lw_r3 : ∀ q ∈ lw_privs_3, lw_okq q := List.forall_mem_cons.mpr ⟨lw_p32, List.forall_mem_cons.mpr ⟨lw_p33, List.forall_mem_cons.mpr ⟨lw_p34, List.forall_mem_cons.mpr ⟨lw_p35, List.forall_mem_cons.mpr ⟨lw_p36, List.forall_mem_cons.mpr ⟨lw_p37, List.forall_mem_cons.mpr ⟨lw_p38, List.forall_mem_cons.mpr ⟨lw_p39, List.forall_mem_cons.mpr ⟨lw_p40, List.forall_mem_cons.mpr ⟨lw_p41, List.forall_mem_cons.mpr ⟨lw_p42, List.forall_mem_cons.mpr ⟨lw_p43, List.forall_mem_cons.mpr ⟨lw_p44, List.forall_mem_cons.mpr ⟨lw_p45, List.forall_mem_cons.mpr ⟨lw_p46, List.forall_mem_cons.mpr ⟨lw_p47, fun _ h => absurd h List.not_mem_nil⟩⟩⟩⟩⟩⟩⟩⟩⟩⟩⟩⟩⟩⟩⟩⟩
theorem lw_p48 : lw_okq (⟨"MeterDeskModel", "between", "(II)I"⟩, 31) := ⟨⟨by decide +kernel, by decide +kernel⟩, List.mem_of_getElem? (i := 956) (by decide +kernel), List.mem_of_getElem? (i := 1181) (by decide +kernel), List.mem_of_getElem? (i := 1182) (by decide +kernel)⟩
theorem lw_p49 : lw_okq (⟨"MeterDeskModel", "linesAt", "(II)I"⟩, 31) := ⟨⟨by decide +kernel, by decide +kernel⟩, List.mem_of_getElem? (i := 956) (by decide +kernel), List.mem_of_getElem? (i := 1185) (by decide +kernel), List.mem_of_getElem? (i := 1186) (by decide +kernel)⟩
theorem lw_p50 : lw_okq (⟨"MeterDeskModel", "isEnd", "(II)Z"⟩, 31) := ⟨⟨by decide +kernel, by decide +kernel⟩, List.mem_of_getElem? (i := 956) (by decide +kernel), List.mem_of_getElem? (i := 1189) (by decide +kernel), List.mem_of_getElem? (i := 1190) (by decide +kernel)⟩
theorem lw_p51 : lw_okq (⟨"MeterDeskModel", "wide", "(II)I"⟩, 31) := ⟨⟨by decide +kernel, by decide +kernel⟩, List.mem_of_getElem? (i := 956) (by decide +kernel), List.mem_of_getElem? (i := 1193) (by decide +kernel), List.mem_of_getElem? (i := 1194) (by decide +kernel)⟩
theorem lw_p52 : lw_okq (⟨"MeterDeskModel", "layMore", "(III)V"⟩, 31) := ⟨⟨by decide +kernel, by decide +kernel⟩, List.mem_of_getElem? (i := 956) (by decide +kernel), List.mem_of_getElem? (i := 1197) (by decide +kernel), List.mem_of_getElem? (i := 1198) (by decide +kernel)⟩
theorem lw_p53 : lw_okq (⟨"MeterDeskModel", "rankAt", "(I)I"⟩, 31) := ⟨⟨by decide +kernel, by decide +kernel⟩, List.mem_of_getElem? (i := 956) (by decide +kernel), List.mem_of_getElem? (i := 1201) (by decide +kernel), List.mem_of_getElem? (i := 1202) (by decide +kernel)⟩
theorem lw_p54 : lw_okq (⟨"MeterDeskModel", "layServes", "()V"⟩, 31) := ⟨⟨by decide +kernel, by decide +kernel⟩, List.mem_of_getElem? (i := 956) (by decide +kernel), List.mem_of_getElem? (i := 1205) (by decide +kernel), List.mem_of_getElem? (i := 1206) (by decide +kernel)⟩
theorem lw_p55 : lw_okq (⟨"MeterDeskModel", "layAll", "()V"⟩, 31) := ⟨⟨by decide +kernel, by decide +kernel⟩, List.mem_of_getElem? (i := 956) (by decide +kernel), List.mem_of_getElem? (i := 1209) (by decide +kernel), List.mem_of_getElem? (i := 1210) (by decide +kernel)⟩
theorem lw_p56 : lw_okq (⟨"MeterDeskModel", "canDo", "(IIII)Z"⟩, 31) := ⟨⟨by decide +kernel, by decide +kernel⟩, List.mem_of_getElem? (i := 956) (by decide +kernel), List.mem_of_getElem? (i := 1213) (by decide +kernel), List.mem_of_getElem? (i := 1214) (by decide +kernel)⟩
theorem lw_p57 : lw_okq (⟨"MeterDeskModel", "isMeter", "(I)Z"⟩, 31) := ⟨⟨by decide +kernel, by decide +kernel⟩, List.mem_of_getElem? (i := 956) (by decide +kernel), List.mem_of_getElem? (i := 1221) (by decide +kernel), List.mem_of_getElem? (i := 1222) (by decide +kernel)⟩
theorem lw_p58 : lw_okq (⟨"MeterDeskModel", "lineOf", "(I)I"⟩, 31) := ⟨⟨by decide +kernel, by decide +kernel⟩, List.mem_of_getElem? (i := 956) (by decide +kernel), List.mem_of_getElem? (i := 1225) (by decide +kernel), List.mem_of_getElem? (i := 1226) (by decide +kernel)⟩
theorem lw_p59 : lw_okq (⟨"MeterDeskModel", "isCritical", "(I)I"⟩, 31) := ⟨⟨by decide +kernel, by decide +kernel⟩, List.mem_of_getElem? (i := 956) (by decide +kernel), List.mem_of_getElem? (i := 1229) (by decide +kernel), List.mem_of_getElem? (i := 1230) (by decide +kernel)⟩
theorem lw_p60 : lw_okq (⟨"MeterDeskModel", "bringsOf", "(II)I"⟩, 31) := ⟨⟨by decide +kernel, by decide +kernel⟩, List.mem_of_getElem? (i := 956) (by decide +kernel), List.mem_of_getElem? (i := 1238) (by decide +kernel), List.mem_of_getElem? (i := 1239) (by decide +kernel)⟩
theorem lw_p61 : lw_okq (⟨"MeterDeskModel", "isThere", "(II)Z"⟩, 31) := ⟨⟨by decide +kernel, by decide +kernel⟩, List.mem_of_getElem? (i := 956) (by decide +kernel), List.mem_of_getElem? (i := 1247) (by decide +kernel), List.mem_of_getElem? (i := 1248) (by decide +kernel)⟩
theorem lw_p62 : lw_okq (⟨"MeterDeskModel", "isNode", "(I)Z"⟩, 31) := ⟨⟨by decide +kernel, by decide +kernel⟩, List.mem_of_getElem? (i := 956) (by decide +kernel), List.mem_of_getElem? (i := 1251) (by decide +kernel), List.mem_of_getElem? (i := 1252) (by decide +kernel)⟩
theorem lw_p63 : lw_okq (⟨"MeterDeskModel", "keepPast", "()V"⟩, 31) := ⟨⟨by decide +kernel, by decide +kernel⟩, List.mem_of_getElem? (i := 956) (by decide +kernel), List.mem_of_getElem? (i := 1255) (by decide +kernel), List.mem_of_getElem? (i := 1256) (by decide +kernel)⟩
def lw_privs_4 : List (MethodName × Nat) := [(⟨"MeterDeskModel", "between", "(II)I"⟩, 31), (⟨"MeterDeskModel", "linesAt", "(II)I"⟩, 31), (⟨"MeterDeskModel", "isEnd", "(II)Z"⟩, 31), (⟨"MeterDeskModel", "wide", "(II)I"⟩, 31), (⟨"MeterDeskModel", "layMore", "(III)V"⟩, 31), (⟨"MeterDeskModel", "rankAt", "(I)I"⟩, 31), (⟨"MeterDeskModel", "layServes", "()V"⟩, 31), (⟨"MeterDeskModel", "layAll", "()V"⟩, 31), (⟨"MeterDeskModel", "canDo", "(IIII)Z"⟩, 31), (⟨"MeterDeskModel", "isMeter", "(I)Z"⟩, 31), (⟨"MeterDeskModel", "lineOf", "(I)I"⟩, 31), (⟨"MeterDeskModel", "isCritical", "(I)I"⟩, 31), (⟨"MeterDeskModel", "bringsOf", "(II)I"⟩, 31), (⟨"MeterDeskModel", "isThere", "(II)Z"⟩, 31), (⟨"MeterDeskModel", "isNode", "(I)Z"⟩, 31), (⟨"MeterDeskModel", "keepPast", "()V"⟩, 31)]
theorem lw_r4 : ∀ q ∈ lw_privs_4, lw_okq q := List.forall_mem_cons.mpr ⟨lw_p48, List.forall_mem_cons.mpr ⟨lw_p49, List.forall_mem_cons.mpr ⟨lw_p50, List.forall_mem_cons.mpr ⟨lw_p51, List.forall_mem_cons.mpr ⟨lw_p52, List.forall_mem_cons.mpr ⟨lw_p53, List.forall_mem_cons.mpr ⟨lw_p54, List.forall_mem_cons.mpr ⟨lw_p55, List.forall_mem_cons.mpr ⟨lw_p56, List.forall_mem_cons.mpr ⟨lw_p57, List.forall_mem_cons.mpr ⟨lw_p58, List.forall_mem_cons.mpr ⟨lw_p59, List.forall_mem_cons.mpr ⟨lw_p60, List.forall_mem_cons.mpr ⟨lw_p61, List.forall_mem_cons.mpr ⟨lw_p62, List.forall_mem_cons.mpr ⟨lw_p63, fun _ h => absurd h List.not_mem_nil⟩⟩⟩⟩⟩⟩⟩⟩⟩⟩⟩⟩⟩⟩⟩⟩
theorem lw_p64 : lw_okq (⟨"MeterDeskModel", "turn", "(II)I"⟩, 31) := ⟨⟨by decide +kernel, by decide +kernel⟩, List.mem_of_getElem? (i := 956) (by decide +kernel), List.mem_of_getElem? (i := 1263) (by decide +kernel), List.mem_of_getElem? (i := 1264) (by decide +kernel)⟩
theorem lw_p65 : lw_okq (⟨"MeterDeskModel", "wholeRank", "()I"⟩, 31) := ⟨⟨by decide +kernel, by decide +kernel⟩, List.mem_of_getElem? (i := 956) (by decide +kernel), List.mem_of_getElem? (i := 1299) (by decide +kernel), List.mem_of_getElem? (i := 1300) (by decide +kernel)⟩
theorem lw_p66 : lw_okq (⟨"MeterDeskModel", "costOf", "(I)I"⟩, 31) := ⟨⟨by decide +kernel, by decide +kernel⟩, List.mem_of_getElem? (i := 956) (by decide +kernel), List.mem_of_getElem? (i := 1303) (by decide +kernel), List.mem_of_getElem? (i := 1304) (by decide +kernel)⟩
theorem lw_p67 : lw_okq (⟨"MeterDeskModel", "isWhole", "(II)Z"⟩, 31) := ⟨⟨by decide +kernel, by decide +kernel⟩, List.mem_of_getElem? (i := 956) (by decide +kernel), List.mem_of_getElem? (i := 1307) (by decide +kernel), List.mem_of_getElem? (i := 1308) (by decide +kernel)⟩
theorem lw_p68 : lw_okq (⟨"MeterDeskModel", "wouldServe", "(II)I"⟩, 31) := ⟨⟨by decide +kernel, by decide +kernel⟩, List.mem_of_getElem? (i := 956) (by decide +kernel), List.mem_of_getElem? (i := 1338) (by decide +kernel), List.mem_of_getElem? (i := 1339) (by decide +kernel)⟩
theorem lw_p69 : lw_okq (⟨"MeterDeskModel", "spare", "()I"⟩, 31) := ⟨⟨by decide +kernel, by decide +kernel⟩, List.mem_of_getElem? (i := 956) (by decide +kernel), List.mem_of_getElem? (i := 1374) (by decide +kernel), List.mem_of_getElem? (i := 1375) (by decide +kernel)⟩
theorem lw_p70 : lw_okq (⟨"MeterDeskModel", "allThings", "()I"⟩, 31) := ⟨⟨by decide +kernel, by decide +kernel⟩, List.mem_of_getElem? (i := 956) (by decide +kernel), List.mem_of_getElem? (i := 1378) (by decide +kernel), List.mem_of_getElem? (i := 1379) (by decide +kernel)⟩
def lw_privs_5 : List (MethodName × Nat) := [(⟨"MeterDeskModel", "turn", "(II)I"⟩, 31), (⟨"MeterDeskModel", "wholeRank", "()I"⟩, 31), (⟨"MeterDeskModel", "costOf", "(I)I"⟩, 31), (⟨"MeterDeskModel", "isWhole", "(II)Z"⟩, 31), (⟨"MeterDeskModel", "wouldServe", "(II)I"⟩, 31), (⟨"MeterDeskModel", "spare", "()I"⟩, 31), (⟨"MeterDeskModel", "allThings", "()I"⟩, 31)]
theorem lw_r5 : ∀ q ∈ lw_privs_5, lw_okq q := List.forall_mem_cons.mpr ⟨lw_p64, List.forall_mem_cons.mpr ⟨lw_p65, List.forall_mem_cons.mpr ⟨lw_p66, List.forall_mem_cons.mpr ⟨lw_p67, List.forall_mem_cons.mpr ⟨lw_p68, List.forall_mem_cons.mpr ⟨lw_p69, List.forall_mem_cons.mpr ⟨lw_p70, fun _ h => absurd h List.not_mem_nil⟩⟩⟩⟩⟩⟩⟩
def lw_privs : List (MethodName × Nat) := lw_privs_1 ++ (lw_privs_2 ++ (lw_privs_3 ++ (lw_privs_4 ++ (lw_privs_5))))
def lw_tbl : List Cond := k2_sels lw_privs ++ tables_1
theorem lw_privs_ok : ∀ q ∈ lw_privs, lw_okq q := by
  show ∀ q ∈ lw_privs_1 ++ (lw_privs_2 ++ (lw_privs_3 ++ (lw_privs_4 ++ (lw_privs_5)))), lw_okq q
  exact List.forall_mem_append.mpr ⟨lw_r1, List.forall_mem_append.mpr ⟨lw_r2, List.forall_mem_append.mpr ⟨lw_r3, List.forall_mem_append.mpr ⟨lw_r4, lw_r5⟩⟩⟩⟩
end
section
def RX0 : String := "MeterDesk$Family"
def TX0 : u_T := fun k => match k with
  | 0 => ("MeterDesk$Family", "sets", "[J", true)
  | _ => ("MeterDesk$Family", "before", "[J", true)
def tyX0 : Nat → FieldType := fun k => match k with
  | 0 => .array .long
  | _ => .array .long
theorem nmX0 : ∀ a, a < 2 → ∀ b, b < 2 → a ≠ b → (TX0 a).2.1 ≠ (TX0 b).2.1 := by decide +kernel
theorem tyX0_ok : ∀ k, k < 2 → parseFieldDescriptor (TX0 k).2.2.1 = some (tyX0 k) := by decide +kernel
abbrev cX0_init : ByteArray := prog_2_method_1_code
def yX0_init : MethodName := ⟨RX0, "<init>", "()V"⟩
abbrev cX0_startWithEmptySet : ByteArray := prog_2_method_2_code
def yX0_startWithEmptySet : MethodName := ⟨RX0, "startWithEmptySet", "()V"⟩
abbrev cX0_copyFrom : ByteArray := prog_2_method_3_code
def yX0_copyFrom : MethodName := ⟨RX0, "copyFrom", "(LMeterDesk$Family;)V"⟩
abbrev cX0_include : ByteArray := prog_2_method_4_code
def yX0_include : MethodName := ⟨RX0, "include", "(I)V"⟩
abbrev cX0_holds : ByteArray := prog_2_method_5_code
def yX0_holds : MethodName := ⟨RX0, "holds", "(I)Z"⟩
abbrev cX0_joinMeter : ByteArray := prog_2_method_6_code
def yX0_joinMeter : MethodName := ⟨RX0, "joinMeter", "(ILMeterDesk$Family;)V"⟩
abbrev cX0_joinLine : ByteArray := prog_2_method_7_code
def yX0_joinLine : MethodName := ⟨RX0, "joinLine", "(ILMeterDesk$Family;)V"⟩
abbrev cX0_mostLines : ByteArray := prog_2_method_8_code
def yX0_mostLines : MethodName := ⟨RX0, "mostLines", "()I"⟩
abbrev cX0_leastSet : ByteArray := prog_2_method_9_code
def yX0_leastSet : MethodName := ⟨RX0, "leastSet", "(I)I"⟩
def RX1 : String := "MeterDesk$History"
def TX1 : u_T := fun k => match k with
  | 0 => ("MeterDesk$History", "size", "I", false)
  | 1 => ("MeterDesk$History", "deed", "[I", true)
  | _ => ("MeterDesk$History", "which", "[I", true)
def tyX1 : Nat → FieldType := fun k => match k with
  | 0 => .int
  | 1 => .array .int
  | _ => .array .int
theorem nmX1 : ∀ a, a < 3 → ∀ b, b < 3 → a ≠ b → (TX1 a).2.1 ≠ (TX1 b).2.1 := by decide +kernel
theorem tyX1_ok : ∀ k, k < 3 → parseFieldDescriptor (TX1 k).2.2.1 = some (tyX1 k) := by decide +kernel
abbrev cX1_init : ByteArray := prog_3_method_1_code
def yX1_init : MethodName := ⟨RX1, "<init>", "()V"⟩
abbrev cX1_note : ByteArray := prog_3_method_2_code
def yX1_note : MethodName := ⟨RX1, "note", "(II)V"⟩
abbrev cX1_revertLatest : ByteArray := prog_3_method_3_code
def yX1_revertLatest : MethodName := ⟨RX1, "revertLatest", "(LMeterDesk$Standing;)V"⟩
def RX2 : String := "MeterDesk$Parts"
def TX2 : u_T := fun k => match k with
  | _ => ("MeterDesk$Parts", "label", "[I", true)
def tyX2 : Nat → FieldType := fun k => match k with
  | _ => .array .int
theorem nmX2 : ∀ a, a < 1 → ∀ b, b < 1 → a ≠ b → (TX2 a).2.1 ≠ (TX2 b).2.1 := by decide +kernel
theorem tyX2_ok : ∀ k, k < 1 → parseFieldDescriptor (TX2 k).2.2.1 = some (tyX2 k) := by decide +kernel
abbrev cX2_init : ByteArray := prog_4_method_1_code
def yX2_init : MethodName := ⟨RX2, "<init>", "()V"⟩
abbrev cX2_separate : ByteArray := prog_4_method_2_code
def yX2_separate : MethodName := ⟨RX2, "separate", "()V"⟩
abbrev cX2_copyFrom : ByteArray := prog_4_method_3_code
def yX2_copyFrom : MethodName := ⟨RX2, "copyFrom", "(LMeterDesk$Parts;)V"⟩
abbrev cX2_areOne : ByteArray := prog_4_method_4_code
def yX2_areOne : MethodName := ⟨RX2, "areOne", "(II)Z"⟩
abbrev cX2_join : ByteArray := prog_4_method_5_code
def yX2_join : MethodName := ⟨RX2, "join", "(II)V"⟩
def RX3 : String := "MeterDesk$Plan"
def TX3 : u_T := fun k => match k with
  | 0 => ("MeterDesk$Plan", "nodes", "I", false)
  | 1 => ("MeterDesk$Plan", "lines", "I", false)
  | 2 => ("MeterDesk$Plan", "meters", "I", false)
  | 3 => ("MeterDesk$Plan", "offers", "I", false)
  | 4 => ("MeterDesk$Plan", "low", "[I", true)
  | 5 => ("MeterDesk$Plan", "high", "[I", true)
  | 6 => ("MeterDesk$Plan", "meterSort", "[I", true)
  | 7 => ("MeterDesk$Plan", "meterAt", "[I", true)
  | 8 => ("MeterDesk$Plan", "offerSort", "[I", true)
  | 9 => ("MeterDesk$Plan", "offerAt", "[I", true)
  | _ => ("MeterDesk$Plan", "offerPrice", "[I", true)
def tyX3 : Nat → FieldType := fun k => match k with
  | 0 => .int
  | 1 => .int
  | 2 => .int
  | 3 => .int
  | 4 => .array .int
  | 5 => .array .int
  | 6 => .array .int
  | 7 => .array .int
  | 8 => .array .int
  | 9 => .array .int
  | _ => .array .int
theorem nmX3 : ∀ a, a < 11 → ∀ b, b < 11 → a ≠ b → (TX3 a).2.1 ≠ (TX3 b).2.1 := by decide +kernel
theorem tyX3_ok : ∀ k, k < 11 → parseFieldDescriptor (TX3 k).2.2.1 = some (tyX3 k) := by decide +kernel
abbrev cX3_init : ByteArray := prog_5_method_1_code
def yX3_init : MethodName := ⟨RX3, "<init>", "()V"⟩
abbrev cX3_copyFrom : ByteArray := prog_5_method_2_code
def yX3_copyFrom : MethodName := ⟨RX3, "copyFrom", "(LMeterDesk$Plan;)V"⟩
abbrev cX3_beginAnew : ByteArray := prog_5_method_3_code
def yX3_beginAnew : MethodName := ⟨RX3, "beginAnew", "(I)V"⟩
abbrev cX3_addLine : ByteArray := prog_5_method_4_code
def yX3_addLine : MethodName := ⟨RX3, "addLine", "(II)V"⟩
abbrev cX3_addMeter : ByteArray := prog_5_method_5_code
def yX3_addMeter : MethodName := ⟨RX3, "addMeter", "(II)V"⟩
abbrev cX3_addOffer : ByteArray := prog_5_method_6_code
def yX3_addOffer : MethodName := ⟨RX3, "addOffer", "(III)V"⟩
abbrev cX3_placesFor : ByteArray := prog_5_method_7_code
def yX3_placesFor : MethodName := ⟨RX3, "placesFor", "(I)I"⟩
abbrev cX3_hasPlace : ByteArray := prog_5_method_8_code
def yX3_hasPlace : MethodName := ⟨RX3, "hasPlace", "(II)Z"⟩
abbrev cX3_allLines : ByteArray := prog_5_method_9_code
def yX3_allLines : MethodName := ⟨RX3, "allLines", "()I"⟩
abbrev cX3_linesFor : ByteArray := prog_5_method_10_code
def yX3_linesFor : MethodName := ⟨RX3, "linesFor", "(III)I"⟩
abbrev cX3_withoutLeast : ByteArray := prog_5_method_11_code
def yX3_withoutLeast : MethodName := ⟨RX3, "withoutLeast", "(I)I"⟩
abbrev cX3_linesBeside : ByteArray := prog_5_method_12_code
def yX3_linesBeside : MethodName := ⟨RX3, "linesBeside", "(I)I"⟩
abbrev cX3_linesAt : ByteArray := prog_5_method_13_code
def yX3_linesAt : MethodName := ⟨RX3, "linesAt", "(II)I"⟩
abbrev cX3_linesNear : ByteArray := prog_5_method_14_code
def yX3_linesNear : MethodName := ⟨RX3, "linesNear", "(II)I"⟩
abbrev cX3_priceOf : ByteArray := prog_5_method_15_code
def yX3_priceOf : MethodName := ⟨RX3, "priceOf", "(I)I"⟩
def RX4 : String := "MeterDesk$Reader"
def TX4 : u_T := fun k => match k with
  | 0 => ("MeterDesk$Reader", "length", "I", false)
  | 1 => ("MeterDesk$Reader", "clauses", "I", false)
  | 2 => ("MeterDesk$Reader", "draft", "LMeterDesk$Plan;", true)
  | 3 => ("MeterDesk$Reader", "text", "[C", true)
  | 4 => ("MeterDesk$Reader", "kind", "I", false)
  | 5 => ("MeterDesk$Reader", "start", "I", false)
  | _ => ("MeterDesk$Reader", "end", "I", false)
def tyX4 : Nat → FieldType := fun k => match k with
  | 0 => .int
  | 1 => .int
  | 2 => .object "MeterDesk$Plan"
  | 3 => .array .char
  | 4 => .int
  | 5 => .int
  | _ => .int
theorem nmX4 : ∀ a, a < 7 → ∀ b, b < 7 → a ≠ b → (TX4 a).2.1 ≠ (TX4 b).2.1 := by decide +kernel
theorem tyX4_ok : ∀ k, k < 7 → parseFieldDescriptor (TX4 k).2.2.1 = some (tyX4 k) := by decide +kernel
abbrev cX4_init : ByteArray := prog_6_method_1_code
def yX4_init : MethodName := ⟨RX4, "<init>", "()V"⟩
abbrev cX4_append : ByteArray := prog_6_method_2_code
def yX4_append : MethodName := ⟨RX4, "append", "(C)Z"⟩
abbrev cX4_empty : ByteArray := prog_6_method_3_code
def yX4_empty : MethodName := ⟨RX4, "empty", "()I"⟩
abbrev cX4_findFault : ByteArray := prog_6_method_4_code
def yX4_findFault : MethodName := ⟨RX4, "findFault", "(LMeterDesk$Plan;)I"⟩
abbrev cX4_kindOf : ByteArray := prog_6_method_5_code
def yX4_kindOf : MethodName := ⟨RX4, "kindOf", "(C)I"⟩
abbrev cX4_advance : ByteArray := prog_6_method_6_code
def yX4_advance : MethodName := ⟨RX4, "advance", "()V"⟩
abbrev cX4_isWord : ByteArray := prog_6_method_7_code
def yX4_isWord : MethodName := ⟨RX4, "isWord", "(Ljava/lang/String;)Z"⟩
abbrev cX4_readNumber : ByteArray := prog_6_method_8_code
def yX4_readNumber : MethodName := ⟨RX4, "readNumber", "(II)I"⟩
abbrev cX4_readClause : ByteArray := prog_6_method_9_code
def yX4_readClause : MethodName := ⟨RX4, "readClause", "()Z"⟩
abbrev cX4_readSortName : ByteArray := prog_6_method_10_code
def yX4_readSortName : MethodName := ⟨RX4, "readSortName", "()I"⟩
abbrev cX4_readGrid : ByteArray := prog_6_method_11_code
def yX4_readGrid : MethodName := ⟨RX4, "readGrid", "()Z"⟩
abbrev cX4_readLine : ByteArray := prog_6_method_12_code
def yX4_readLine : MethodName := ⟨RX4, "readLine", "()Z"⟩
abbrev cX4_readMeter : ByteArray := prog_6_method_13_code
def yX4_readMeter : MethodName := ⟨RX4, "readMeter", "(I)Z"⟩
abbrev cX4_readOffer : ByteArray := prog_6_method_14_code
def yX4_readOffer : MethodName := ⟨RX4, "readOffer", "()Z"⟩
def RX5 : String := "MeterDesk$Servers"
def TX5 : u_T := fun k => match k with
  | 0 => ("MeterDesk$Servers", "spare", "I", false)
  | 1 => ("MeterDesk$Servers", "meterOf", "[I", true)
  | 2 => ("MeterDesk$Servers", "lineOf", "[I", true)
  | _ => ("MeterDesk$Servers", "around", "[I", true)
def tyX5 : Nat → FieldType := fun k => match k with
  | 0 => .int
  | 1 => .array .int
  | 2 => .array .int
  | _ => .array .int
theorem nmX5 : ∀ a, a < 4 → ∀ b, b < 4 → a ≠ b → (TX5 a).2.1 ≠ (TX5 b).2.1 := by decide +kernel
theorem tyX5_ok : ∀ k, k < 4 → parseFieldDescriptor (TX5 k).2.2.1 = some (tyX5 k) := by decide +kernel
abbrev cX5_init : ByteArray := prog_7_method_1_code
def yX5_init : MethodName := ⟨RX5, "<init>", "()V"⟩
abbrev cX5_assign : ByteArray := prog_7_method_2_code
def yX5_assign : MethodName := ⟨RX5, "assign", "(I[II)V"⟩
abbrev cX5_learnAround : ByteArray := prog_7_method_3_code
def yX5_learnAround : MethodName := ⟨RX5, "learnAround", "(I[II)V"⟩
abbrev cX5_metersFor : ByteArray := prog_7_method_4_code
def yX5_metersFor : MethodName := ⟨RX5, "metersFor", "(I[II)I"⟩
abbrev cX5_leastMeter : ByteArray := prog_7_method_5_code
def yX5_leastMeter : MethodName := ⟨RX5, "leastMeter", "(II)I"⟩
abbrev cX5_canAllHaveOne : ByteArray := prog_7_method_6_code
def yX5_canAllHaveOne : MethodName := ⟨RX5, "canAllHaveOne", "(II)Z"⟩
def RX6 : String := "MeterDesk$Sight"
def TX6 : u_T := fun k => match k with
  | 0 => ("MeterDesk$Sight", "rank", "I", false)
  | 1 => ("MeterDesk$Sight", "wholeRank", "I", false)
  | 2 => ("MeterDesk$Sight", "tree", "I", false)
  | 3 => ("MeterDesk$Sight", "reach", "[I", true)
  | 4 => ("MeterDesk$Sight", "plan", "LMeterDesk$Plan;", true)
  | 5 => ("MeterDesk$Sight", "now", "LMeterDesk$Standing;", true)
  | 6 => ("MeterDesk$Sight", "forests", "LMeterDesk$Family;", true)
  | 7 => ("MeterDesk$Sight", "served", "LMeterDesk$Family;", true)
  | 8 => ("MeterDesk$Sight", "scratch", "LMeterDesk$Family;", true)
  | 9 => ("MeterDesk$Sight", "trials", "LMeterDesk$Trials;", true)
  | 10 => ("MeterDesk$Sight", "parts", "[LMeterDesk$Parts;", true)
  | 11 => ("MeterDesk$Sight", "islands", "LMeterDesk$Parts;", true)
  | 12 => ("MeterDesk$Sight", "offerReach", "[I", true)
  | 13 => ("MeterDesk$Sight", "servers", "LMeterDesk$Servers;", true)
  | 14 => ("MeterDesk$Sight", "serversKnown", "Z", false)
  | 15 => ("MeterDesk$Sight", "weakKnown", "Z", false)
  | 16 => ("MeterDesk$Sight", "weakest", "I", false)
  | 17 => ("MeterDesk$Sight", "dealKnown", "Z", false)
  | _ => ("MeterDesk$Sight", "cheapest", "I", false)
def tyX6 : Nat → FieldType := fun k => match k with
  | 0 => .int
  | 1 => .int
  | 2 => .int
  | 3 => .array .int
  | 4 => .object "MeterDesk$Plan"
  | 5 => .object "MeterDesk$Standing"
  | 6 => .object "MeterDesk$Family"
  | 7 => .object "MeterDesk$Family"
  | 8 => .object "MeterDesk$Family"
  | 9 => .object "MeterDesk$Trials"
  | 10 => .array (.object "MeterDesk$Parts")
  | 11 => .object "MeterDesk$Parts"
  | 12 => .array .int
  | 13 => .object "MeterDesk$Servers"
  | 14 => .boolean
  | 15 => .boolean
  | 16 => .int
  | 17 => .boolean
  | _ => .int
theorem nmX6 : ∀ a, a < 19 → ∀ b, b < 19 → a ≠ b → (TX6 a).2.1 ≠ (TX6 b).2.1 := by decide +kernel
theorem tyX6_ok : ∀ k, k < 19 → parseFieldDescriptor (TX6 k).2.2.1 = some (tyX6 k) := by decide +kernel
abbrev cX6_init : ByteArray := prog_8_method_1_code
def yX6_init : MethodName := ⟨RX6, "<init>", "(LMeterDesk$Plan;LMeterDesk$Standing;)V"⟩
abbrev cX6_learnForests : ByteArray := prog_8_method_2_code
def yX6_learnForests : MethodName := ⟨RX6, "learnForests", "()V"⟩
abbrev cX6_refresh : ByteArray := prog_8_method_3_code
def yX6_refresh : MethodName := ⟨RX6, "refresh", "()I"⟩
abbrev cX6_openLines : ByteArray := prog_8_method_4_code
def yX6_openLines : MethodName := ⟨RX6, "openLines", "()I"⟩
abbrev cX6_reachOf : ByteArray := prog_8_method_5_code
def yX6_reachOf : MethodName := ⟨RX6, "reachOf", "(II)I"⟩
abbrev cX6_joinAll : ByteArray := prog_8_method_6_code
def yX6_joinAll : MethodName := ⟨RX6, "joinAll", "(I)I"⟩
abbrev cX6_islandOf : ByteArray := prog_8_method_7_code
def yX6_islandOf : MethodName := ⟨RX6, "islandOf", "(I)I"⟩
abbrev cX6_meterOf : ByteArray := prog_8_method_8_code
def yX6_meterOf : MethodName := ⟨RX6, "meterOf", "(I)I"⟩
abbrev cX6_lineOf : ByteArray := prog_8_method_9_code
def yX6_lineOf : MethodName := ⟨RX6, "lineOf", "(I)I"⟩
abbrev cX6_spares : ByteArray := prog_8_method_10_code
def yX6_spares : MethodName := ⟨RX6, "spares", "()I"⟩
abbrev cX6_learnServers : ByteArray := prog_8_method_11_code
def yX6_learnServers : MethodName := ⟨RX6, "learnServers", "()V"⟩
abbrev cX6_isCritical : ByteArray := prog_8_method_12_code
def yX6_isCritical : MethodName := ⟨RX6, "isCritical", "(I)Z"⟩
abbrev cX6_lossOf : ByteArray := prog_8_method_13_code
def yX6_lossOf : MethodName := ⟨RX6, "lossOf", "(I)I"⟩
abbrev cX6_gain : ByteArray := prog_8_method_14_code
def yX6_gain : MethodName := ⟨RX6, "gain", "(II)I"⟩
abbrev cX6_weakSet : ByteArray := prog_8_method_15_code
def yX6_weakSet : MethodName := ⟨RX6, "weakSet", "()I"⟩
abbrev cX6_findWeak : ByteArray := prog_8_method_16_code
def yX6_findWeak : MethodName := ⟨RX6, "findWeak", "()I"⟩
abbrev cX6_dealSet : ByteArray := prog_8_method_17_code
def yX6_dealSet : MethodName := ⟨RX6, "dealSet", "()I"⟩
abbrev cX6_findDeal : ByteArray := prog_8_method_18_code
def yX6_findDeal : MethodName := ⟨RX6, "findDeal", "()I"⟩
abbrev cX6_isBetterDeal : ByteArray := prog_8_method_19_code
def yX6_isBetterDeal : MethodName := ⟨RX6, "isBetterDeal", "(II)Z"⟩
def RX7 : String := "MeterDesk$Sightings"
def TX7 : u_T := fun k => match k with
  | 0 => ("MeterDesk$Sightings", "size", "I", false)
  | 1 => ("MeterDesk$Sightings", "at", "[I", true)
  | _ => ("MeterDesk$Sightings", "lines", "[I", true)
def tyX7 : Nat → FieldType := fun k => match k with
  | 0 => .int
  | 1 => .array .int
  | _ => .array .int
theorem nmX7 : ∀ a, a < 3 → ∀ b, b < 3 → a ≠ b → (TX7 a).2.1 ≠ (TX7 b).2.1 := by decide +kernel
theorem tyX7_ok : ∀ k, k < 3 → parseFieldDescriptor (TX7 k).2.2.1 = some (tyX7 k) := by decide +kernel
abbrev cX7_init : ByteArray := prog_9_method_1_code
def yX7_init : MethodName := ⟨RX7, "<init>", "()V"⟩
abbrev cX7_add : ByteArray := prog_9_method_2_code
def yX7_add : MethodName := ⟨RX7, "add", "(II)Z"⟩
abbrev cX7_fitting : ByteArray := prog_9_method_3_code
def yX7_fitting : MethodName := ⟨RX7, "fitting", "(LMeterDesk$Plan;I)I"⟩
abbrev cX7_fits : ByteArray := prog_9_method_4_code
def yX7_fits : MethodName := ⟨RX7, "fits", "(ILMeterDesk$Plan;I)Z"⟩
abbrev cX7_bestPlace : ByteArray := prog_9_method_5_code
def yX7_bestPlace : MethodName := ⟨RX7, "bestPlace", "(LMeterDesk$Plan;I)I"⟩
abbrev cX7_greatestPart : ByteArray := prog_9_method_6_code
def yX7_greatestPart : MethodName := ⟨RX7, "greatestPart", "(IILMeterDesk$Plan;I)I"⟩
abbrev cX7_alike : ByteArray := prog_9_method_7_code
def yX7_alike : MethodName := ⟨RX7, "alike", "(IIILMeterDesk$Plan;I)I"⟩
def RX8 : String := "MeterDesk$Standing"
def TX8 : u_T := fun k => match k with
  | 0 => ("MeterDesk$Standing", "meters", "I", false)
  | 1 => ("MeterDesk$Standing", "broken", "I", false)
  | 2 => ("MeterDesk$Standing", "cutLines", "I", false)
  | 3 => ("MeterDesk$Standing", "sort", "[I", true)
  | _ => ("MeterDesk$Standing", "at", "[I", true)
def tyX8 : Nat → FieldType := fun k => match k with
  | 0 => .int
  | 1 => .int
  | 2 => .int
  | 3 => .array .int
  | _ => .array .int
theorem nmX8 : ∀ a, a < 5 → ∀ b, b < 5 → a ≠ b → (TX8 a).2.1 ≠ (TX8 b).2.1 := by decide +kernel
theorem tyX8_ok : ∀ k, k < 5 → parseFieldDescriptor (TX8 k).2.2.1 = some (tyX8 k) := by decide +kernel
abbrev cX8_init : ByteArray := prog_10_method_1_code
def yX8_init : MethodName := ⟨RX8, "<init>", "()V"⟩
abbrev cX8_startFrom : ByteArray := prog_10_method_2_code
def yX8_startFrom : MethodName := ⟨RX8, "startFrom", "(LMeterDesk$Plan;)V"⟩
abbrev cX8_copyFrom : ByteArray := prog_10_method_3_code
def yX8_copyFrom : MethodName := ⟨RX8, "copyFrom", "(LMeterDesk$Standing;)V"⟩
abbrev cX8_addMeter : ByteArray := prog_10_method_4_code
def yX8_addMeter : MethodName := ⟨RX8, "addMeter", "(II)I"⟩
abbrev cX8_wholeMeters : ByteArray := prog_10_method_5_code
def yX8_wholeMeters : MethodName := ⟨RX8, "wholeMeters", "()I"⟩
def RX9 : String := "MeterDesk$Tray"
def TX9 : u_T := fun k => match k with
  | 0 => ("MeterDesk$Tray", "there", "Z", false)
  | 1 => ("MeterDesk$Tray", "size", "I", false)
  | 2 => ("MeterDesk$Tray", "kind", "[I", true)
  | _ => ("MeterDesk$Tray", "value", "[I", true)
def tyX9 : Nat → FieldType := fun k => match k with
  | 0 => .boolean
  | 1 => .int
  | 2 => .array .int
  | _ => .array .int
theorem nmX9 : ∀ a, a < 4 → ∀ b, b < 4 → a ≠ b → (TX9 a).2.1 ≠ (TX9 b).2.1 := by decide +kernel
theorem tyX9_ok : ∀ k, k < 4 → parseFieldDescriptor (TX9 k).2.2.1 = some (tyX9 k) := by decide +kernel
abbrev cX9_init : ByteArray := prog_11_method_1_code
def yX9_init : MethodName := ⟨RX9, "<init>", "()V"⟩
abbrev cX9_renew : ByteArray := prog_11_method_2_code
def yX9_renew : MethodName := ⟨RX9, "renew", "()V"⟩
abbrev cX9_remove : ByteArray := prog_11_method_3_code
def yX9_remove : MethodName := ⟨RX9, "remove", "()V"⟩
abbrev cX9_isMissing : ByteArray := prog_11_method_4_code
def yX9_isMissing : MethodName := ⟨RX9, "isMissing", "()Z"⟩
abbrev cX9_things : ByteArray := prog_11_method_5_code
def yX9_things : MethodName := ⟨RX9, "things", "()I"⟩
abbrev cX9_push : ByteArray := prog_11_method_6_code
def yX9_push : MethodName := ⟨RX9, "push", "(II)I"⟩
abbrev cX9_pop : ByteArray := prog_11_method_7_code
def yX9_pop : MethodName := ⟨RX9, "pop", "(I)I"⟩
abbrev cX9_together : ByteArray := prog_11_method_8_code
def yX9_together : MethodName := ⟨RX9, "together", "(I)I"⟩
def RX10 : String := "MeterDesk$Trials"
def TX10 : u_T := fun k => match k with
  | 0 => ("MeterDesk$Trials", "rankWith", "[I", true)
  | _ => ("MeterDesk$Trials", "families", "[LMeterDesk$Family;", true)
def tyX10 : Nat → FieldType := fun k => match k with
  | 0 => .array .int
  | _ => .array (.object "MeterDesk$Family")
theorem nmX10 : ∀ a, a < 2 → ∀ b, b < 2 → a ≠ b → (TX10 a).2.1 ≠ (TX10 b).2.1 := by decide +kernel
theorem tyX10_ok : ∀ k, k < 2 → parseFieldDescriptor (TX10 k).2.2.1 = some (tyX10 k) := by decide +kernel
abbrev cX10_init : ByteArray := prog_12_method_1_code
def yX10_init : MethodName := ⟨RX10, "<init>", "()V"⟩
abbrev cX10_tryAll : ByteArray := prog_12_method_2_code
def yX10_tryAll : MethodName := ⟨RX10, "tryAll", "(LMeterDesk$Family;[IILMeterDesk$Family;)V"⟩
def RX11 : String := "MeterDesk"
def TX11 : u_T := fun k => match k with
  | 0 => ("MeterDesk", "told", "LMeterDesk$Plan;", true)
  | 1 => ("MeterDesk", "reader", "LMeterDesk$Reader;", true)
  | 2 => ("MeterDesk", "now", "LMeterDesk$Standing;", true)
  | 3 => ("MeterDesk", "kept", "[LMeterDesk$Standing;", true)
  | 4 => ("MeterDesk", "isKept", "[Z", true)
  | 5 => ("MeterDesk", "history", "LMeterDesk$History;", true)
  | 6 => ("MeterDesk", "sight", "LMeterDesk$Sight;", true)
  | 7 => ("MeterDesk", "sightings", "LMeterDesk$Sightings;", true)
  | _ => ("MeterDesk", "trays", "[LMeterDesk$Tray;", true)
def tyX11 : Nat → FieldType := fun k => match k with
  | 0 => .object "MeterDesk$Plan"
  | 1 => .object "MeterDesk$Reader"
  | 2 => .object "MeterDesk$Standing"
  | 3 => .array (.object "MeterDesk$Standing")
  | 4 => .array .boolean
  | 5 => .object "MeterDesk$History"
  | 6 => .object "MeterDesk$Sight"
  | 7 => .object "MeterDesk$Sightings"
  | _ => .array (.object "MeterDesk$Tray")
theorem nmX11 : ∀ a, a < 9 → ∀ b, b < 9 → a ≠ b → (TX11 a).2.1 ≠ (TX11 b).2.1 := by decide +kernel
theorem tyX11_ok : ∀ k, k < 9 → parseFieldDescriptor (TX11 k).2.2.1 = some (tyX11 k) := by decide +kernel
abbrev cX11_init : ByteArray := prog_1_method_1_code
def yX11_init : MethodName := ⟨RX11, "<init>", "()V"⟩
abbrev cX11_write : ByteArray := prog_1_method_2_code
def yX11_write : MethodName := ⟨RX11, "write", "(I)I"⟩
abbrev cX11_erase : ByteArray := prog_1_method_3_code
def yX11_erase : MethodName := ⟨RX11, "erase", "()I"⟩
abbrev cX11_fault : ByteArray := prog_1_method_4_code
def yX11_fault : MethodName := ⟨RX11, "fault", "()I"⟩
abbrev cX11_grid : ByteArray := prog_1_method_5_code
def yX11_grid : MethodName := ⟨RX11, "grid", "()I"⟩
abbrev cX11_line : ByteArray := prog_1_method_6_code
def yX11_line : MethodName := ⟨RX11, "line", "(II)I"⟩
abbrev cX11_meter : ByteArray := prog_1_method_7_code
def yX11_meter : MethodName := ⟨RX11, "meter", "(II)I"⟩
abbrev cX11_offer : ByteArray := prog_1_method_8_code
def yX11_offer : MethodName := ⟨RX11, "offer", "(II)I"⟩
abbrev cX11_put : ByteArray := prog_1_method_9_code
def yX11_put : MethodName := ⟨RX11, "put", "(II)I"⟩
abbrev cX11_spoil : ByteArray := prog_1_method_10_code
def yX11_spoil : MethodName := ⟨RX11, "spoil", "(I)I"⟩
abbrev cX11_mend : ByteArray := prog_1_method_11_code
def yX11_mend : MethodName := ⟨RX11, "mend", "(I)I"⟩
abbrev cX11_cut : ByteArray := prog_1_method_12_code
def yX11_cut : MethodName := ⟨RX11, "cut", "(I)I"⟩
abbrev cX11_undo : ByteArray := prog_1_method_13_code
def yX11_undo : MethodName := ⟨RX11, "undo", "()I"⟩
abbrev cX11_keep : ByteArray := prog_1_method_14_code
def yX11_keep : MethodName := ⟨RX11, "keep", "(I)I"⟩
abbrev cX11_back : ByteArray := prog_1_method_15_code
def yX11_back : MethodName := ⟨RX11, "back", "(I)I"⟩
abbrev cX11_island : ByteArray := prog_1_method_16_code
def yX11_island : MethodName := ⟨RX11, "island", "(I)I"⟩
abbrev cX11_weak : ByteArray := prog_1_method_17_code
def yX11_weak : MethodName := ⟨RX11, "weak", "(I)I"⟩
abbrev cX11_deal : ByteArray := prog_1_method_18_code
def yX11_deal : MethodName := ⟨RX11, "deal", "(I)I"⟩
abbrev cX11_lost : ByteArray := prog_1_method_19_code
def yX11_lost : MethodName := ⟨RX11, "lost", "(I)I"⟩
abbrev cX11_brings : ByteArray := prog_1_method_20_code
def yX11_brings : MethodName := ⟨RX11, "brings", "(II)I"⟩
abbrev cX11_seen : ByteArray := prog_1_method_21_code
def yX11_seen : MethodName := ⟨RX11, "seen", "(II)I"⟩
abbrev cX11_forget : ByteArray := prog_1_method_22_code
def yX11_forget : MethodName := ⟨RX11, "forget", "()I"⟩
abbrev cX11_fit : ByteArray := prog_1_method_23_code
def yX11_fit : MethodName := ⟨RX11, "fit", "()I"⟩
abbrev cX11_ask : ByteArray := prog_1_method_24_code
def yX11_ask : MethodName := ⟨RX11, "ask", "()I"⟩
abbrev cX11_tray : ByteArray := prog_1_method_25_code
def yX11_tray : MethodName := ⟨RX11, "tray", "(I)I"⟩
abbrev cX11_lay : ByteArray := prog_1_method_26_code
def yX11_lay : MethodName := ⟨RX11, "lay", "(III)I"⟩
abbrev cX11_take : ByteArray := prog_1_method_27_code
def yX11_take : MethodName := ⟨RX11, "take", "(II)I"⟩
abbrev cX11_all : ByteArray := prog_1_method_28_code
def yX11_all : MethodName := ⟨RX11, "all", "(II)I"⟩
abbrev cX11_drop : ByteArray := prog_1_method_29_code
def yX11_drop : MethodName := ⟨RX11, "drop", "(I)I"⟩
abbrev cX11_count : ByteArray := prog_1_method_30_code
def yX11_count : MethodName := ⟨RX11, "count", "(I)I"⟩
abbrev cX11_isLine : ByteArray := prog_1_method_31_code
def yX11_isLine : MethodName := ⟨RX11, "isLine", "(I)Z"⟩
abbrev cX11_isMeter : ByteArray := prog_1_method_32_code
def yX11_isMeter : MethodName := ⟨RX11, "isMeter", "(I)Z"⟩
abbrev cX11_isTray : ByteArray := prog_1_method_33_code
def yX11_isTray : MethodName := ⟨RX11, "isTray", "(I)Z"⟩
abbrev cX11_isKind : ByteArray := prog_1_method_34_code
def yX11_isKind : MethodName := ⟨RX11, "isKind", "(I)Z"⟩
abbrev cX11_canBeLaid : ByteArray := prog_1_method_35_code
def yX11_canBeLaid : MethodName := ⟨RX11, "canBeLaid", "(II)Z"⟩
abbrev cX11_refusePlace : ByteArray := prog_1_method_36_code
def yX11_refusePlace : MethodName := ⟨RX11, "refusePlace", "(II)I"⟩
abbrev cX11_openLines : ByteArray := prog_1_method_37_code
def yX11_openLines : MethodName := ⟨RX11, "openLines", "()I"⟩
abbrev cX11_thingsOfAllTrays : ByteArray := prog_1_method_38_code
def yX11_thingsOfAllTrays : MethodName := ⟨RX11, "thingsOfAllTrays", "()I"⟩
abbrev cX11_lowest : ByteArray := prog_1_method_39_code
def yX11_lowest : MethodName := ⟨RX11, "lowest", "(I)I"⟩
def RX12 : String := "MeterDeskModel"
def TX12 : u_T := fun k => match k with
  | 0 => ("MeterDeskModel", "row", "[I", true)
  | 1 => ("MeterDeskModel", "nodes", "I", false)
  | 2 => ("MeterDeskModel", "lines", "I", false)
  | 3 => ("MeterDeskModel", "ends", "[I", true)
  | 4 => ("MeterDeskModel", "offers", "I", false)
  | 5 => ("MeterDeskModel", "offered", "[I", true)
  | 6 => ("MeterDeskModel", "undos", "I", false)
  | 7 => ("MeterDeskModel", "isKept", "[Z", true)
  | 8 => ("MeterDeskModel", "text", "[I", true)
  | 9 => ("MeterDeskModel", "length", "I", false)
  | 10 => ("MeterDeskModel", "seenAt", "[I", true)
  | 11 => ("MeterDeskModel", "seenLines", "[I", true)
  | 12 => ("MeterDeskModel", "seenMany", "I", false)
  | 13 => ("MeterDeskModel", "sizes", "[I", true)
  | 14 => ("MeterDeskModel", "kinds", "[I", true)
  | 15 => ("MeterDeskModel", "values", "[I", true)
  | 16 => ("MeterDeskModel", "first", "I", false)
  | 17 => ("MeterDeskModel", "behind", "I", false)
  | 18 => ("MeterDeskModel", "readNodes", "I", false)
  | 19 => ("MeterDeskModel", "readLines", "I", false)
  | 20 => ("MeterDeskModel", "readMeters", "I", false)
  | 21 => ("MeterDeskModel", "readOffers", "I", false)
  | 22 => ("MeterDeskModel", "clauses", "I", false)
  | 23 => ("MeterDeskModel", "doing", "Z", false)
  | 24 => ("MeterDeskModel", "numbers", "[I", true)
  | 25 => ("MeterDeskModel", "words", "[I", true)
  | 26 => ("MeterDeskModel", "forests", "[J", true)
  | 27 => ("MeterDeskModel", "parts", "[I", true)
  | 28 => ("MeterDeskModel", "served", "[J", true)
  | 29 => ("MeterDeskModel", "without", "[J", true)
  | _ => ("MeterDeskModel", "serves", "[I", true)
def tyX12 : Nat → FieldType := fun k => match k with
  | 0 => .array .int
  | 1 => .int
  | 2 => .int
  | 3 => .array .int
  | 4 => .int
  | 5 => .array .int
  | 6 => .int
  | 7 => .array .boolean
  | 8 => .array .int
  | 9 => .int
  | 10 => .array .int
  | 11 => .array .int
  | 12 => .int
  | 13 => .array .int
  | 14 => .array .int
  | 15 => .array .int
  | 16 => .int
  | 17 => .int
  | 18 => .int
  | 19 => .int
  | 20 => .int
  | 21 => .int
  | 22 => .int
  | 23 => .boolean
  | 24 => .array .int
  | 25 => .array .int
  | 26 => .array .long
  | 27 => .array .int
  | 28 => .array .long
  | 29 => .array .long
  | _ => .array .int
theorem nmX12 : ∀ a, a < 31 → ∀ b, b < 31 → a ≠ b → (TX12 a).2.1 ≠ (TX12 b).2.1 := by decide +kernel
theorem tyX12_ok : ∀ k, k < 31 → parseFieldDescriptor (TX12 k).2.2.1 = some (tyX12 k) := by decide +kernel
abbrev cX12_init : ByteArray := prog_14_method_1_code
def yX12_init : MethodName := ⟨RX12, "<init>", "()V"⟩
abbrev cX12_in : ByteArray := prog_14_method_2_code
def yX12_in : MethodName := ⟨RX12, "in", "(JJJ)Z"⟩
abbrev cX12_has : ByteArray := prog_14_method_3_code
def yX12_has : MethodName := ⟨RX12, "has", "(II)Z"⟩
abbrev cX12_ones : ByteArray := prog_14_method_4_code
def yX12_ones : MethodName := ⟨RX12, "ones", "(I)I"⟩
abbrev cX12_copyRow : ByteArray := prog_14_method_5_code
def yX12_copyRow : MethodName := ⟨RX12, "copyRow", "(II)V"⟩
abbrev cX12_anew : ByteArray := prog_14_method_6_code
def yX12_anew : MethodName := ⟨RX12, "anew", "(I)V"⟩
abbrev cX12_write : ByteArray := prog_14_method_7_code
def yX12_write : MethodName := ⟨RX12, "write", "(I)I"⟩
abbrev cX12_erase : ByteArray := prog_14_method_8_code
def yX12_erase : MethodName := ⟨RX12, "erase", "()I"⟩
abbrev cX12_isLetter : ByteArray := prog_14_method_9_code
def yX12_isLetter : MethodName := ⟨RX12, "isLetter", "(I)Z"⟩
abbrev cX12_isDigit : ByteArray := prog_14_method_10_code
def yX12_isDigit : MethodName := ⟨RX12, "isDigit", "(I)Z"⟩
abbrev cX12_nextToken : ByteArray := prog_14_method_11_code
def yX12_nextToken : MethodName := ⟨RX12, "nextToken", "()V"⟩
abbrev cX12_wordHere : ByteArray := prog_14_method_12_code
def yX12_wordHere : MethodName := ⟨RX12, "wordHere", "()I"⟩
abbrev cX12_number : ByteArray := prog_14_method_13_code
def yX12_number : MethodName := ⟨RX12, "number", "(III)Z"⟩
abbrev cX12_isOnLine : ByteArray := prog_14_method_14_code
def yX12_isOnLine : MethodName := ⟨RX12, "isOnLine", "(I)Z"⟩
abbrev cX12_readsRest : ByteArray := prog_14_method_15_code
def yX12_readsRest : MethodName := ⟨RX12, "readsRest", "(I)Z"⟩
abbrev cX12_addMeter : ByteArray := prog_14_method_16_code
def yX12_addMeter : MethodName := ⟨RX12, "addMeter", "(II)V"⟩
abbrev cX12_does : ByteArray := prog_14_method_17_code
def yX12_does : MethodName := ⟨RX12, "does", "(I)V"⟩
abbrev cX12_readsClause : ByteArray := prog_14_method_18_code
def yX12_readsClause : MethodName := ⟨RX12, "readsClause", "()Z"⟩
abbrev cX12_reads : ByteArray := prog_14_method_19_code
def yX12_reads : MethodName := ⟨RX12, "reads", "(Z)Z"⟩
abbrev cX12_fault : ByteArray := prog_14_method_20_code
def yX12_fault : MethodName := ⟨RX12, "fault", "()I"⟩
abbrev cX12_grid : ByteArray := prog_14_method_21_code
def yX12_grid : MethodName := ⟨RX12, "grid", "()I"⟩
abbrev cX12_layParts : ByteArray := prog_14_method_22_code
def yX12_layParts : MethodName := ⟨RX12, "layParts", "(I)I"⟩
abbrev cX12_layForests : ByteArray := prog_14_method_23_code
def yX12_layForests : MethodName := ⟨RX12, "layForests", "()V"⟩
abbrev cX12_isEnd : ByteArray := prog_14_method_24_code
def yX12_isEnd : MethodName := ⟨RX12, "isEnd", "(II)Z"⟩
abbrev cX12_linesAt : ByteArray := prog_14_method_25_code
def yX12_linesAt : MethodName := ⟨RX12, "linesAt", "(II)I"⟩
abbrev cX12_between : ByteArray := prog_14_method_26_code
def yX12_between : MethodName := ⟨RX12, "between", "(II)I"⟩
abbrev cX12_wide : ByteArray := prog_14_method_27_code
def yX12_wide : MethodName := ⟨RX12, "wide", "(II)I"⟩
abbrev cX12_mayServe : ByteArray := prog_14_method_28_code
def yX12_mayServe : MethodName := ⟨RX12, "mayServe", "(III)I"⟩
abbrev cX12_mayOf : ByteArray := prog_14_method_29_code
def yX12_mayOf : MethodName := ⟨RX12, "mayOf", "(II)I"⟩
abbrev cX12_layMore : ByteArray := prog_14_method_30_code
def yX12_layMore : MethodName := ⟨RX12, "layMore", "(III)V"⟩
abbrev cX12_layNone : ByteArray := prog_14_method_31_code
def yX12_layNone : MethodName := ⟨RX12, "layNone", "(I)V"⟩
abbrev cX12_layAll : ByteArray := prog_14_method_32_code
def yX12_layAll : MethodName := ⟨RX12, "layAll", "()V"⟩
abbrev cX12_rankAt : ByteArray := prog_14_method_33_code
def yX12_rankAt : MethodName := ⟨RX12, "rankAt", "(I)I"⟩
abbrev cX12_layTried : ByteArray := prog_14_method_34_code
def yX12_layTried : MethodName := ⟨RX12, "layTried", "(I)I"⟩
abbrev cX12_rank : ByteArray := prog_14_method_35_code
def yX12_rank : MethodName := ⟨RX12, "rank", "()I"⟩
abbrev cX12_tree : ByteArray := prog_14_method_36_code
def yX12_tree : MethodName := ⟨RX12, "tree", "()I"⟩
abbrev cX12_layServes : ByteArray := prog_14_method_37_code
def yX12_layServes : MethodName := ⟨RX12, "layServes", "()V"⟩
abbrev cX12_canDo : ByteArray := prog_14_method_38_code
def yX12_canDo : MethodName := ⟨RX12, "canDo", "(IIII)Z"⟩
abbrev cX12_isLine : ByteArray := prog_14_method_39_code
def yX12_isLine : MethodName := ⟨RX12, "isLine", "(I)Z"⟩
abbrev cX12_isNode : ByteArray := prog_14_method_40_code
def yX12_isNode : MethodName := ⟨RX12, "isNode", "(I)Z"⟩
abbrev cX12_isMeter : ByteArray := prog_14_method_41_code
def yX12_isMeter : MethodName := ⟨RX12, "isMeter", "(I)Z"⟩
abbrev cX12_isThere : ByteArray := prog_14_method_42_code
def yX12_isThere : MethodName := ⟨RX12, "isThere", "(II)Z"⟩
abbrev cX12_line : ByteArray := prog_14_method_43_code
def yX12_line : MethodName := ⟨RX12, "line", "(II)I"⟩
abbrev cX12_lineOf : ByteArray := prog_14_method_44_code
def yX12_lineOf : MethodName := ⟨RX12, "lineOf", "(I)I"⟩
abbrev cX12_isCritical : ByteArray := prog_14_method_45_code
def yX12_isCritical : MethodName := ⟨RX12, "isCritical", "(I)I"⟩
abbrev cX12_meter : ByteArray := prog_14_method_46_code
def yX12_meter : MethodName := ⟨RX12, "meter", "(II)I"⟩
abbrev cX12_bringsOf : ByteArray := prog_14_method_47_code
def yX12_bringsOf : MethodName := ⟨RX12, "bringsOf", "(II)I"⟩
abbrev cX12_offer : ByteArray := prog_14_method_48_code
def yX12_offer : MethodName := ⟨RX12, "offer", "(II)I"⟩
abbrev cX12_keepPast : ByteArray := prog_14_method_49_code
def yX12_keepPast : MethodName := ⟨RX12, "keepPast", "()V"⟩
abbrev cX12_put : ByteArray := prog_14_method_50_code
def yX12_put : MethodName := ⟨RX12, "put", "(II)I"⟩
abbrev cX12_turn : ByteArray := prog_14_method_51_code
def yX12_turn : MethodName := ⟨RX12, "turn", "(II)I"⟩
abbrev cX12_spoil : ByteArray := prog_14_method_52_code
def yX12_spoil : MethodName := ⟨RX12, "spoil", "(I)I"⟩
abbrev cX12_mend : ByteArray := prog_14_method_53_code
def yX12_mend : MethodName := ⟨RX12, "mend", "(I)I"⟩
abbrev cX12_cut : ByteArray := prog_14_method_54_code
def yX12_cut : MethodName := ⟨RX12, "cut", "(I)I"⟩
abbrev cX12_undo : ByteArray := prog_14_method_55_code
def yX12_undo : MethodName := ⟨RX12, "undo", "()I"⟩
abbrev cX12_keep : ByteArray := prog_14_method_56_code
def yX12_keep : MethodName := ⟨RX12, "keep", "(I)I"⟩
abbrev cX12_back : ByteArray := prog_14_method_57_code
def yX12_back : MethodName := ⟨RX12, "back", "(I)I"⟩
abbrev cX12_island : ByteArray := prog_14_method_58_code
def yX12_island : MethodName := ⟨RX12, "island", "(I)I"⟩
abbrev cX12_weak : ByteArray := prog_14_method_59_code
def yX12_weak : MethodName := ⟨RX12, "weak", "(I)I"⟩
abbrev cX12_wholeRank : ByteArray := prog_14_method_60_code
def yX12_wholeRank : MethodName := ⟨RX12, "wholeRank", "()I"⟩
abbrev cX12_costOf : ByteArray := prog_14_method_61_code
def yX12_costOf : MethodName := ⟨RX12, "costOf", "(I)I"⟩
abbrev cX12_isWhole : ByteArray := prog_14_method_62_code
def yX12_isWhole : MethodName := ⟨RX12, "isWhole", "(II)Z"⟩
abbrev cX12_deal : ByteArray := prog_14_method_63_code
def yX12_deal : MethodName := ⟨RX12, "deal", "(I)I"⟩
abbrev cX12_lost : ByteArray := prog_14_method_64_code
def yX12_lost : MethodName := ⟨RX12, "lost", "(I)I"⟩
abbrev cX12_brings : ByteArray := prog_14_method_65_code
def yX12_brings : MethodName := ⟨RX12, "brings", "(II)I"⟩
abbrev cX12_seen : ByteArray := prog_14_method_66_code
def yX12_seen : MethodName := ⟨RX12, "seen", "(II)I"⟩
abbrev cX12_forget : ByteArray := prog_14_method_67_code
def yX12_forget : MethodName := ⟨RX12, "forget", "()I"⟩
abbrev cX12_fit : ByteArray := prog_14_method_68_code
def yX12_fit : MethodName := ⟨RX12, "fit", "()I"⟩
abbrev cX12_wouldServe : ByteArray := prog_14_method_69_code
def yX12_wouldServe : MethodName := ⟨RX12, "wouldServe", "(II)I"⟩
abbrev cX12_ask : ByteArray := prog_14_method_70_code
def yX12_ask : MethodName := ⟨RX12, "ask", "()I"⟩
abbrev cX12_isTray : ByteArray := prog_14_method_71_code
def yX12_isTray : MethodName := ⟨RX12, "isTray", "(I)Z"⟩
abbrev cX12_tray : ByteArray := prog_14_method_72_code
def yX12_tray : MethodName := ⟨RX12, "tray", "(I)I"⟩
abbrev cX12_lay : ByteArray := prog_14_method_73_code
def yX12_lay : MethodName := ⟨RX12, "lay", "(III)I"⟩
abbrev cX12_take : ByteArray := prog_14_method_74_code
def yX12_take : MethodName := ⟨RX12, "take", "(II)I"⟩
abbrev cX12_all : ByteArray := prog_14_method_75_code
def yX12_all : MethodName := ⟨RX12, "all", "(II)I"⟩
abbrev cX12_drop : ByteArray := prog_14_method_76_code
def yX12_drop : MethodName := ⟨RX12, "drop", "(I)I"⟩
abbrev cX12_spare : ByteArray := prog_14_method_77_code
def yX12_spare : MethodName := ⟨RX12, "spare", "()I"⟩
abbrev cX12_allThings : ByteArray := prog_14_method_78_code
def yX12_allThings : MethodName := ⟨RX12, "allThings", "()I"⟩
abbrev cX12_count : ByteArray := prog_14_method_79_code
def yX12_count : MethodName := ⟨RX12, "count", "(I)I"⟩
def RJ6 : String := "java/lang/Integer"
def TJ6 : u_T := fun k => match k with
  | _ => ("", "", "", false)
def tyJ6 : Nat → FieldType := fun k => match k with
  | _ => .int
theorem nmJ6 : ∀ a, a < 0 → ∀ b, b < 0 → a ≠ b → (TJ6 a).2.1 ≠ (TJ6 b).2.1 := by decide +kernel
theorem tyJ6_ok : ∀ k, k < 0 → parseFieldDescriptor (TJ6 k).2.2.1 = some (tyJ6 k) := by decide +kernel
abbrev cJ6_bitCount_0f7a4 : ByteArray := prog_15_method_49_code
def yJ6_bitCount_0f7a4 : MethodName := ⟨RJ6, "bitCount", "(I)I"⟩
def RJ13 : String := "java/lang/Long"
def TJ13 : u_T := fun k => match k with
  | _ => ("", "", "", false)
def tyJ13 : Nat → FieldType := fun k => match k with
  | _ => .int
theorem nmJ13 : ∀ a, a < 0 → ∀ b, b < 0 → a ≠ b → (TJ13 a).2.1 ≠ (TJ13 b).2.1 := by decide +kernel
theorem tyJ13_ok : ∀ k, k < 0 → parseFieldDescriptor (TJ13 k).2.2.1 = some (tyJ13 k) := by decide +kernel
abbrev cJ13_bitCount_95d88 : ByteArray := prog_16_method_50_code
def yJ13_bitCount_95d88 : MethodName := ⟨RJ13, "bitCount", "(J)I"⟩
def RJ9 : String := "java/lang/Math"
def TJ9 : u_T := fun k => match k with
  | _ => ("", "", "", false)
def tyJ9 : Nat → FieldType := fun k => match k with
  | _ => .int
theorem nmJ9 : ∀ a, a < 0 → ∀ b, b < 0 → a ≠ b → (TJ9 a).2.1 ≠ (TJ9 b).2.1 := by decide +kernel
theorem tyJ9_ok : ∀ k, k < 0 → parseFieldDescriptor (TJ9 k).2.2.1 = some (tyJ9 k) := by decide +kernel
abbrev cJ9_max_7cf53 : ByteArray := prog_17_method_65_code
def yJ9_max_7cf53 : MethodName := ⟨RJ9, "max", "(II)I"⟩
abbrev cJ9_min_7cf53 : ByteArray := prog_17_method_69_code
def yJ9_min_7cf53 : MethodName := ⟨RJ9, "min", "(II)I"⟩
def RJ0 : String := "java/lang/String"
def TJ0 : u_T := fun k => match k with
  | _ => ("", "", "", false)
def tyJ0 : Nat → FieldType := fun k => match k with
  | _ => .int
theorem nmJ0 : ∀ a, a < 0 → ∀ b, b < 0 → a ≠ b → (TJ0 a).2.1 ≠ (TJ0 b).2.1 := by decide +kernel
theorem tyJ0_ok : ∀ k, k < 0 → parseFieldDescriptor (TJ0 k).2.2.1 = some (tyJ0 k) := by decide +kernel
abbrev cJ0_length_8abf5 : ByteArray := prog_18_method_54_code
def yJ0_length_8abf5 : MethodName := ⟨RJ0, "length", "()I"⟩
abbrev cJ0_charAt_5068e : ByteArray := prog_18_method_56_code
def yJ0_charAt_5068e : MethodName := ⟨RJ0, "charAt", "(I)C"⟩
abbrev cJ0_coder_7d493 : ByteArray := prog_18_method_152_code
def yJ0_coder_7d493 : MethodName := ⟨RJ0, "coder", "()B"⟩
abbrev cJ0_isLatin1_aae02 : ByteArray := prog_18_method_154_code
def yJ0_isLatin1_aae02 : MethodName := ⟨RJ0, "isLatin1", "()Z"⟩
abbrev cJ0_checkIndex_df160 : ByteArray := prog_18_method_155_code
def yJ0_checkIndex_df160 : MethodName := ⟨RJ0, "checkIndex", "(II)V"⟩
def RJ1 : String := "java/lang/StringLatin1"
def TJ1 : u_T := fun k => match k with
  | _ => ("", "", "", false)
def tyJ1 : Nat → FieldType := fun k => match k with
  | _ => .int
theorem nmJ1 : ∀ a, a < 0 → ∀ b, b < 0 → a ≠ b → (TJ1 a).2.1 ≠ (TJ1 b).2.1 := by decide +kernel
theorem tyJ1_ok : ∀ k, k < 0 → parseFieldDescriptor (TJ1 k).2.2.1 = some (tyJ1 k) := by decide +kernel
abbrev cJ1_charAt_3b067 : ByteArray := prog_19_method_2_code
def yJ1_charAt_3b067 : MethodName := ⟨RJ1, "charAt", "([BI)C"⟩
def RJ2 : String := "java/lang/StringUTF16"
def TJ2 : u_T := fun k => match k with
  | _ => ("", "", "", false)
def tyJ2 : Nat → FieldType := fun k => match k with
  | _ => .int
theorem nmJ2 : ∀ a, a < 0 → ∀ b, b < 0 → a ≠ b → (TJ2 a).2.1 ≠ (TJ2 b).2.1 := by decide +kernel
theorem tyJ2_ok : ∀ k, k < 0 → parseFieldDescriptor (TJ2 k).2.2.1 = some (tyJ2 k) := by decide +kernel
abbrev cJ2_getChar_3b067 : ByteArray := prog_20_method_5_code
def yJ2_getChar_3b067 : MethodName := ⟨RJ2, "getChar", "([BI)C"⟩
abbrev cJ2_length_9d52b : ByteArray := prog_20_method_6_code
def yJ2_length_9d52b : MethodName := ⟨RJ2, "length", "([B)I"⟩
abbrev cJ2_charAt_3b067 : ByteArray := prog_20_method_83_code
def yJ2_charAt_3b067 : MethodName := ⟨RJ2, "charAt", "([BI)C"⟩
abbrev cJ2_checkIndex_2214a : ByteArray := prog_20_method_91_code
def yJ2_checkIndex_2214a : MethodName := ⟨RJ2, "checkIndex", "(I[B)V"⟩
def RJ10 : String := "java/lang/System"
def TJ10 : u_T := fun k => match k with
  | _ => ("", "", "", false)
def tyJ10 : Nat → FieldType := fun k => match k with
  | _ => .int
theorem nmJ10 : ∀ a, a < 0 → ∀ b, b < 0 → a ≠ b → (TJ10 a).2.1 ≠ (TJ10 b).2.1 := by decide +kernel
theorem tyJ10_ok : ∀ k, k < 0 → parseFieldDescriptor (TJ10 k).2.2.1 = some (tyJ10 k) := by decide +kernel
def RJ3 : String := "jdk/internal/util/Preconditions"
def TJ3 : u_T := fun k => match k with
  | _ => ("", "", "", false)
def tyJ3 : Nat → FieldType := fun k => match k with
  | _ => .int
theorem nmJ3 : ∀ a, a < 0 → ∀ b, b < 0 → a ≠ b → (TJ3 a).2.1 ≠ (TJ3 b).2.1 := by decide +kernel
theorem tyJ3_ok : ∀ k, k < 0 → parseFieldDescriptor (TJ3 k).2.2.1 = some (tyJ3 k) := by decide +kernel
abbrev cJ3_checkIndex_8e157 : ByteArray := prog_22_method_11_code
def yJ3_checkIndex_8e157 : MethodName := ⟨RJ3, "checkIndex", "(IILjava/util/function/BiFunction;)I"⟩
abbrev cL_law : ByteArray := code
abbrev vwCl : List vw_C := [(RX0, TX0, 2), (RX1, TX1, 3), (RX2, TX2, 1), (RX3, TX3, 11), (RX4, TX4, 7), (RX5, TX5, 4), (RX6, TX6, 19), (RX7, TX7, 3), (RX8, TX8, 5), (RX9, TX9, 4), (RX10, TX10, 2), (RX11, TX11, 9), (RX12, TX12, 31)]
end
section
/-! the tables' words that a method may take with it -/
def lw_gt : List Cond := lw_tbl.filter goodWord
theorem gt_of {w : Cond} (i : Nat) (h : lw_tbl[i]? = some w) (hg : goodWord w = true) : w ∈ lw_gt := List.mem_filter.mpr ⟨List.mem_of_getElem? h, hg⟩
theorem gt_good {y : MethodName} {cc : ByteArray} {n : Nat} {r : Option FieldType} (h : Cond.code y cc n r ∈ lw_gt) : GoodIn lw_gt (Cond.code y cc n r :: lw_gt) := by
  intro w hw
  rcases List.mem_cons.mp hw with rfl | hw
  · exact ⟨h, good_of_word (List.mem_filter.mp h).2⟩
  · exact ⟨hw, good_of_word (List.mem_filter.mp hw).2⟩
/-! the world: cells 0 .. n less 1 of a fixed shape; N holds the ints of a cell (an object's int fields by slot, an array's elements by place), L the longs -/
abbrev ux_Sh : Type := Nat × Nat × Nat × List (Option Nat)
abbrev ux_N : Type := Nat → Nat → Int32
abbrev ux_L : Type := Nat → Nat → Int64
abbrev ux_G : Type := List ux_Sh × va_G × (Nat → ClassId) × (Nat → Nat) × (Nat → Nat)
def ux_v (ad : Nat → Nat) (f : Nat → Int32) (k : Nat) (o : Option Nat) : Value := match o with
  | none => .int (f k)
  | some j => .ref (ad j)
def ux_E (cy : Nat → ClassId) (ad : Nat → Nat) (f : Nat → Int32) (g : Nat → Int64) (q : ux_Sh) : va_E := match q.1 with
  | 0 => .inr (q.2.1, q.2.2.2.mapIdx (ux_v ad f))
  | 1 => .inl (cy q.2.1, q.2.2.1, .inl f)
  | 2 => .inl (cy q.2.1, q.2.2.1, .inr (.inl g))
  | _ => .inl (cy q.2.1, q.2.2.1, .inr (.inr (.inr (.inr (fun i => (q.2.2.2.getD i none).map ad)))))
abbrev gad (G : ux_G) : Nat → Nat := G.2.2.2.1
abbrev gcy (G : ux_G) : Nat → ClassId := G.2.2.1
def ux_wl (G : ux_G) (N : ux_N) (L : ux_L) : va_W := G.1.mapIdx (fun k q => (gad G k, ux_E (gcy G) (gad G) (N k) (L k) q))
def ux_A (G : ux_G) : Nat → Prop := fun a => ∃ k, k < G.1.length ∧ a = gad G k
def ux_tys (G : ux_G) : List (ClassId × FieldType) := [(gcy G 0, .int), (gcy G 1, .boolean), (gcy G 2, .char), (gcy G 3, .long), (gcy G 4, .object "MeterDesk$Family"), (gcy G 5, .object "MeterDesk$Parts"), (gcy G 6, .object "MeterDesk$Standing"), (gcy G 7, .object "MeterDesk$Tray")]
def ux_ok (G : ux_G) (sh : List ux_Sh) : Prop := G.1 = sh ∧ (∀ i j, i < G.1.length → j < G.1.length → gad G i = gad G j → i = j)
/-! what the start gives that no cell of the world is: the two tables, the strings, the links among nest mates -/
def tb_lack : List Int64 := [6148914691236517205, 3689348814741910323, 1085102592571150095, 71777214294589695, 281470681808895, 4294967295]
def tb_sized : List Int64 := [1, 4295033110, 282668995843688, 78274679833913472, 1614655367130677248, 7530159316599308288, -9223372036854775808]
def tb_len : List Nat := [4, 4, 5, 4, 4, 4, 4, 4]
def tb_byt : List (List Int32) := [[103, 114, 105, 100], [108, 105, 110, 101], [111, 102, 102, 101, 114], [102, 108, 111, 119], [112, 97, 105, 114], [110, 111, 100, 101], [119, 105, 100, 101], [100, 117, 108, 108]]
def tb_str : List (Nat × String × Nat) := [(62, "grid", 0), (71, "line", 1), (76, "offer", 2), (88, "flow", 3), (90, "pair", 4), (92, "node", 5), (94, "wide", 6), (96, "dull", 7)]
def tb_nest : List (String × Nat × MethodName × String) := [("MeterDesk", 9, ⟨"MeterDesk$Plan", "<init>", "()V"⟩, "MeterDesk"), ("MeterDesk", 18, ⟨"MeterDesk$Reader", "<init>", "()V"⟩, "MeterDesk"), ("MeterDesk$Reader", 11, ⟨"MeterDesk$Plan", "<init>", "()V"⟩, "MeterDesk"), ("MeterDesk", 25, ⟨"MeterDesk$Standing", "<init>", "()V"⟩, "MeterDesk"), ("MeterDesk", 40, ⟨"MeterDesk$History", "<init>", "()V"⟩, "MeterDesk"), ("MeterDesk$Sight", 17, ⟨"MeterDesk$Family", "<init>", "()V"⟩, "MeterDesk"), ("MeterDesk$Trials", 21, ⟨"MeterDesk$Family", "<init>", "()V"⟩, "MeterDesk"), ("MeterDesk$Sight", 41, ⟨"MeterDesk$Parts", "<init>", "()V"⟩, "MeterDesk"), ("MeterDesk$Sight", 51, ⟨"MeterDesk$Servers", "<init>", "()V"⟩, "MeterDesk"), ("MeterDesk", 56, ⟨"MeterDesk$Sightings", "<init>", "()V"⟩, "MeterDesk"), ("MeterDesk", 67, ⟨"MeterDesk$Tray", "<init>", "()V"⟩, "MeterDesk"), ("MeterDesk$Sight", 76, ⟨"MeterDesk", "lowest", "(I)I"⟩, "MeterDesk"), ("MeterDesk$Servers", 33, ⟨"MeterDesk", "lowest", "(I)I"⟩, "MeterDesk"), ("MeterDesk$Trials", 30, ⟨"MeterDesk", "lowest", "(I)I"⟩, "MeterDesk")]
def ux_Z (A : Nat → Prop) (sa : Nat → Nat) (U : State) : Prop :=
  (va_Z "MeterDesk$Family" "LACKING" "[J" (.ref (sa 0)) A U U.heap ∧ va_T .long (sa 0) 6 (fun j => .long (tb_lack.getD j 0)) A U U.heap) ∧ (va_Z "MeterDesk$Family" "SIZED" "[J" (.ref (sa 1)) A U U.heap ∧ va_T .long (sa 1) 7 (fun j => .long (tb_sized.getD j 0)) A U U.heap) ∧
  (va_Z "java/lang/String" "COMPACT_STRINGS" "Z" (.int 1) A U U.heap ∧ va_Zq "jdk/internal/util/Preconditions" "SIOOBE_FORMATTER" "Ljava/util/function/BiFunction;" A U U.heap) ∧
  vk_S 8 tb_len tb_byt (fun i => sa (2 + i)) (fun i => sa (10 + i)) A U U.heap ∧ (∀ q ∈ tb_str, vk_R "MeterDesk$Reader" q.1 q.2.1 (sa (2 + q.2.2)) U) ∧ (∀ q ∈ tb_nest, va_Nw (.methodLinkNest q.1 q.2.1 q.2.2.1 q.2.2.2) U)
theorem ux_Z.same {A : Nat → Prop} {sa : Nat → Nat} {u U : State} (hv : U.vm = u.vm) (hh : U.heap = u.heap) (h : ux_Z A sa u) : ux_Z A sa U := by
  have al : u.vm.Alike U.vm := by rw [hv]; exact Vm.Alike.refl _
  obtain ⟨⟨a1, a2⟩, ⟨a3, a4⟩, ⟨a5, a6⟩, a7, a8, a9⟩ := h
  unfold ux_Z
  rw [hh]
  exact ⟨⟨a1.moved al, a2.moved al⟩, ⟨a3.moved al, a4.moved al⟩, ⟨a5.moved al, a6.moved al⟩, a7.moved al, fun q hq => vk_R.same hv (a8 q hq), fun q hq => va_Nw.same rfl hv.symm (a9 q hq)⟩
theorem ux_Z.call {A : Nat → Prop} {sa : Nat → Nat} {s U : State} {H : Heap} {locs : List Loc} (hW : s.WarmedH U.vm) (hS : va_S A s.heap H locs) (hU : U.heap = H) (h : ux_Z A sa s) : ux_Z A sa U := by
  have al := hW.alike
  have kp : ∀ a : Nat, a < s.heap.size → ¬ A a → U.heap[a]? = s.heap[a]? := by rw [hU]; exact hS.2.1
  obtain ⟨⟨a1, a2⟩, ⟨a3, a4⟩, ⟨a5, a6⟩, a7, a8, a9⟩ := h
  exact ⟨⟨(a1.kept kp).moved al, (a2.kept kp).moved al⟩, ⟨(a3.kept kp).moved al, (a4.kept kp).moved al⟩, ⟨(a5.kept kp).moved al, (a6.kept kp).moved al⟩, (a7.kept kp).moved al, fun q hq => (a8 q hq).warm hW, fun q hq => (a9 q hq).warmM hW⟩
theorem ux_at {G : ux_G} {N : ux_N} {L : ux_L} {k : Nat} {q : ux_Sh} (h : G.1[k]? = some q) : (ux_wl G N L)[k]? = some (gad G k, ux_E (gcy G) (gad G) (N k) (L k) q) := by
  unfold ux_wl
  rw [List.getElem?_mapIdx, h]
  rfl
theorem ux_at_inv {G : ux_G} {N : ux_N} {L : ux_L} {k : Nat} {x : Nat × va_E} (h : (ux_wl G N L)[k]? = some x) : k < G.1.length ∧ x.1 = gad G k := by
  unfold ux_wl at h
  rw [List.getElem?_mapIdx] at h
  cases hq : G.1[k]? with
  | none => rw [hq] at h; cases h
  | some q =>
    rw [hq] at h
    cases h
    exact ⟨(List.getElem?_eq_some_iff.mp hq).1, rfl⟩
theorem ux_D {G : ux_G} {sh : List ux_Sh} (h : ux_ok G sh) (N : ux_N) (L : ux_L) : va_D (ux_A G) (ux_wl G N L) := by
  refine ⟨fun i j x y hi hj hxy => ?_, fun k q hk => ?_⟩
  · obtain ⟨h1, h2⟩ := ux_at_inv hi
    obtain ⟨h3, h4⟩ := ux_at_inv hj
    exact h.2 i j h1 h3 (by rw [← h2, ← h4]; exact hxy)
  · obtain ⟨h1, h2⟩ := ux_at_inv hk
    exact ⟨k, h1, h2⟩
theorem ux_set {G : ux_G} {N N' : ux_N} {L L' : ux_L} {h : Nat} {q : ux_Sh} {e : va_E} (hs : G.1[h]? = some q) (he : ux_E (gcy G) (gad G) (N' h) (L' h) q = e) (hN : ∀ j, j ≠ h → N' j = N j) (hL : ∀ j, j ≠ h → L' j = L j) : (ux_wl G N L).set h (gad G h, e) = ux_wl G N' L' := by
  subst he
  apply List.ext_getElem?
  intro j
  by_cases hj : j = h
  · subst hj
    rw [List.getElem?_set_self (by unfold ux_wl; rw [List.length_mapIdx]; exact (List.getElem?_eq_some_iff.mp hs).1), ux_at hs]
  · rw [List.getElem?_set_ne (Ne.symm hj)]
    unfold ux_wl
    rw [List.getElem?_mapIdx, List.getElem?_mapIdx, hN j hj, hL j hj]
def ux_u (N : ux_N) (h k : Nat) (v : Int32) : ux_N := fun a => if a = h then upd (N h) k v else N a
def ux_w (L : ux_L) (h k : Nat) (v : Int64) : ux_L := fun a => if a = h then vp_updL (L h) k v else L a
def ux_cpN (N : ux_N) (src dst sp dp n : Nat) : ux_N := fun a => if a = dst then va_cpy (N src) (N dst) sp dp n else N a
def ux_cpL (L : ux_L) (src dst sp dp n : Nat) : ux_L := fun a => if a = dst then va_cpy (L src) (L dst) sp dp n else L a
theorem ux_fset {ad : Nat → Nat} {f : Nat → Int32} {fks : List (Option Nat)} {k : Nat} {v : Int32} (hk : fks[k]? = some none) : (fks.mapIdx (ux_v ad f)).set k (.int v) = fks.mapIdx (ux_v ad (upd f k v)) := by
  apply List.ext_getElem?
  intro j
  by_cases hj : j = k
  · subst hj
    rw [List.getElem?_set_self (by rw [List.length_mapIdx]; exact (List.getElem?_eq_some_iff.mp hk).1), List.getElem?_mapIdx, hk]
    simp [ux_v, upd]
  · rw [List.getElem?_set_ne (Ne.symm hj), List.getElem?_mapIdx, List.getElem?_mapIdx]
    cases fks[j]? with
    | none => rfl
    | some o => cases o <;> simp [ux_v, upd, hj]
/-- a field's link: entry idx of own's pool names slot k of kind ci -/
def ux_FL (own : String) (idx ci k : Nat) : Prop := ∃ (CN : String) (T : u_T) (n : Nat), vwCl[ci]? = some (CN, T, n) ∧ (∀ w ∈ u_ws CN T n, w ∈ lw_gt) ∧ k < n ∧ Cond.fieldLink own idx (T k).1 (T k).2.1 (T k).2.2.1 ∈ lw_gt
def ux_FP (own : String) (idx ci k : Nat) (ty : FieldType) : Prop := (∃ (CN : String) (T : u_T) (n : Nat), vwCl[ci]? = some (CN, T, n) ∧ (∀ w ∈ u_ws CN T n, w ∈ lw_gt) ∧ k < n ∧ Cond.fieldLink own idx (T k).1 (T k).2.1 (T k).2.2.1 ∈ lw_gt ∧ ∃ ty0 : Nat → FieldType, (∀ k, k < n → parseFieldDescriptor (T k).2.2.1 = some (ty0 k)) ∧ (∀ a, a < n → ∀ b, b < n → a ≠ b → (T a).2.1 ≠ (T b).2.1) ∧ (T k).2.2.2 = false ∧ parseFieldDescriptor (T k).2.2.1 = some ty)
def ux_LA (own : String) (idx : Nat) : Prop := Cond.methodLink own idx arraycopyName ∈ lw_gt ∧ Cond.native arraycopyName ∈ lw_gt ∧ Cond.static arraycopyName ∈ lw_gt ∧ Cond.initialized "java/lang/System" ∈ lw_gt
/-! guards and loops of the pure side -/
def ux_in (i : Int32) (n : Nat) : Bool := decide (¬ (i < 0 ∨ n ≤ i.toNatClampNeg))
theorem ux_in_p {i : Int32} {n : Nat} (h : ux_in i n = true) : vp_in i n := of_decide_eq_true (p := ¬ (i < 0 ∨ n ≤ i.toNatClampNeg)) h
def ux_b (v : Int32) : Bool := decide (v = 0 ∨ v = 1)
theorem ux_b_n {v : Int32} (h : ux_b v = true) : narrow .boolean (.int v) = .int v ∧ fits .boolean (.int v) = true := by
  rcases of_decide_eq_true h with rfl | rfl <;> exact ⟨by decide, by decide⟩
theorem ux_guard {α : Type} {b : Bool} {a : Option α} {o : α} (h : (if b = true then a else none) = some o) : b = true ∧ a = some o := by
  cases b with
  | true => exact ⟨rfl, by rw [if_pos rfl] at h; exact h⟩
  | false => rw [if_neg (by decide)] at h; cases h
def ux_lp {S E : Type} (b : S → Option (S ⊕ E)) : Nat → S → Option E
  | 0, _ => none
  | n + 1, s => (b s).bind (Sum.elim (ux_lp b n) some)
def ux_fu : Nat := 1048576
theorem ux_loop {S E : Type} (b : S → Option (S ⊕ E)) (Wh : S → Prop) {e : E} (hb : ∀ s o, b s = some o → (∀ s', o = .inl s' → Wh s') → (∀ e', o = .inr e' → e' = e) → Wh s) : ∀ {n : Nat} {s : S}, ux_lp b n s = some e → Wh s := by
  intro n
  induction n with
  | zero => intro s h; cases h
  | succ n ih =>
    intro s h
    obtain ⟨o, h1, h2⟩ := Option.bind_eq_some_iff.mp h
    refine hb s o h1 (fun s' hs => ?_) (fun e' he => ?_)
    · subst hs; exact ih h2
    · subst he; exact Option.some.inj h2
/-! a method under way -/
abbrev ux_X : Type := Program × Launch × Env × Room × State × MethodId × Array Value × List Frame × Method × Code × ux_G × (State → Prop)
abbrev xp (X : ux_X) : Program := X.1
abbrev xl (X : ux_X) : Launch := X.2.1
abbrev xe (X : ux_X) : Env := X.2.2.1
abbrev xR (X : ux_X) : Room := X.2.2.2.1
abbrev xs (X : ux_X) : State := X.2.2.2.2.1
abbrev xm (X : ux_X) : MethodId := X.2.2.2.2.2.1
abbrev xa (X : ux_X) : Array Value := X.2.2.2.2.2.2.1
abbrev xb (X : ux_X) : List Frame := X.2.2.2.2.2.2.2.1
abbrev xme (X : ux_X) : Method := X.2.2.2.2.2.2.2.2.1
abbrev xc (X : ux_X) : Code := X.2.2.2.2.2.2.2.2.2.1
abbrev xG (X : ux_X) : ux_G := X.2.2.2.2.2.2.2.2.2.2.1
abbrev xQ (X : ux_X) : State → Prop := X.2.2.2.2.2.2.2.2.2.2.2
def ux_ad (X : ux_X) (h : Nat) : Nat := gad (xG X) h
abbrev ux_Wx (X : ux_X) (H : Heap) (locs : List Loc) (g : JFrame) : Prop := W (xp X) (xl X) (xe X) (xR X) (xs X) (xm X) (xa X) (xb X) (xme X) (xc X) H locs 0 0 (xQ X) g
def ux_Wt (X : ux_X) (nL pc : Nat) (lv : List (Nat × Value)) (st : List Value) (N : ux_N) (L : ux_L) : Prop :=
  ∀ (H : Heap) (locs : List Loc) (ls : Array Slot), va_P (xG X).2.1 vwCl (ux_wl (xG X) N L) H → va_S (ux_A (xG X)) (xs X).heap H locs → lv_has ls nL lv → ux_Wx X H locs (F0 (xm X) pc ls st)
def ux_C (X : ux_X) (cc : ByteArray) (own : String) (nL : Nat) (ret : Option FieldType) (fr lo : Nat) (sh : List ux_Sh) : Prop :=
  ((xp X).tables.exec = Jvm.exec ∧ (xc X).code = cc) ∧ (xme X).sig.returnType = ret ∧ (xc X).maxLocals = nL ∧ (xs X).vm.findClass own = some (xm X).cls ∧ (∀ w ∈ lw_gt, w.before (xa X) (xs X) = true) ∧ (xme X).locks = false ∧ (fr ≤ (xR X).frames ∧ lo ≤ (xR X).locals) ∧ ux_ok (xG X) sh ∧ va_K (xG X).2.1 vwCl (ux_tys (xG X)) (xs X) ∧ ux_Z (ux_A (xG X)) (xG X).2.2.2.2 (xs X)
section UXC
variable {X : ux_X} {cc : ByteArray} {own : String} {nL : Nat} {ret : Option FieldType} {fr lo : Nat} {sh : List ux_Sh}
theorem cx_x (C : ux_C X cc own nL ret fr lo sh) : (xp X).tables.exec = Jvm.exec := C.1.1
theorem cx_b (C : ux_C X cc own nL ret fr lo sh) : (xc X).code = cc := C.1.2
theorem cx_r (C : ux_C X cc own nL ret fr lo sh) : (xme X).sig.returnType = ret := C.2.1
theorem cx_m (C : ux_C X cc own nL ret fr lo sh) : (xc X).maxLocals = nL := C.2.2.1
theorem cx_o (C : ux_C X cc own nL ret fr lo sh) : (xs X).vm.findClass own = some (xm X).cls := C.2.2.2.1
theorem cx_t (C : ux_C X cc own nL ret fr lo sh) : ∀ w ∈ lw_gt, w.before (xa X) (xs X) = true := C.2.2.2.2.1
theorem cx_l (C : ux_C X cc own nL ret fr lo sh) : (xme X).locks = false := C.2.2.2.2.2.1
theorem cx_fr (C : ux_C X cc own nL ret fr lo sh) : fr ≤ (xR X).frames := C.2.2.2.2.2.2.1.1
theorem cx_lo (C : ux_C X cc own nL ret fr lo sh) : lo ≤ (xR X).locals := C.2.2.2.2.2.2.1.2
theorem cx_ok (C : ux_C X cc own nL ret fr lo sh) : ux_ok (xG X) sh := C.2.2.2.2.2.2.2.1
theorem cx_K (C : ux_C X cc own nL ret fr lo sh) : va_K (xG X).2.1 vwCl (ux_tys (xG X)) (xs X) := C.2.2.2.2.2.2.2.2.1
theorem cx_Z (C : ux_C X cc own nL ret fr lo sh) : ux_Z (ux_A (xG X)) (xG X).2.2.2.2 (xs X) := C.2.2.2.2.2.2.2.2.2
theorem cx_s (C : ux_C X cc own nL ret fr lo sh) {h : Nat} {q : ux_Sh} (hs : sh[h]? = some q) : (xG X).1[h]? = some q := by rw [(cx_ok C).1]; exact hs
variable {pc : Nat} {lv lv' : List (Nat × Value)} {st : List Value} {N : ux_N} {L : ux_L}
theorem wt_sub (ks : List Nat) (h : lv_pick lv ks = lv') (k : ux_Wt X nL pc lv' st N L) : ux_Wt X nL pc lv st N L := fun H locs ls hP hS hl => k H locs ls hP hS (lv_sub hl ks h)
theorem wt_iconst (q : Nat) {n : Int} (v : Int32) (C : ux_C X cc own nL ret fr lo sh) (hd : decode cc pc = .ok (.iconst n, 1)) (hq : pc + 1 = q) (hv : Int32.ofInt n = v) (k : ux_Wt X nL q lv (.int v :: st) N L) : ux_Wt X nL pc lv st N L := by
  subst hq; exact fun H locs ls hP hS hl => lv_iconst (cx_x C) (cx_b C) hd hv (k H locs ls hP hS hl)
theorem wt_bipush (q : Nat) {n : Int} (v : Int32) (C : ux_C X cc own nL ret fr lo sh) (hd : decode cc pc = .ok (.bipush n, 2)) (hq : pc + 2 = q) (hv : (Int8.ofInt n).toInt32 = v) (k : ux_Wt X nL q lv (.int v :: st) N L) : ux_Wt X nL pc lv st N L := by
  subst hq; exact fun H locs ls hP hS hl => lv_bipush (cx_x C) (cx_b C) hd hv (k H locs ls hP hS hl)
theorem wt_sipush (q : Nat) {n : Int} (v : Int32) (C : ux_C X cc own nL ret fr lo sh) (hd : decode cc pc = .ok (.sipush n, 3)) (hq : pc + 3 = q) (hv : (Int16.ofInt n).toInt32 = v) (k : ux_Wt X nL q lv (.int v :: st) N L) : ux_Wt X nL pc lv st N L := by
  subst hq; exact fun H locs ls hP hS hl => lv_sipush (cx_x C) (cx_b C) hd hv (k H locs ls hP hS hl)
theorem wt_lconst (q : Nat) {n : Fin 2} (v : Int64) (C : ux_C X cc own nL ret fr lo sh) (hd : decode cc pc = .ok (.lconst n, 1)) (hq : pc + 1 = q) (hv : Int64.ofNat (n : Nat) = v) (k : ux_Wt X nL q lv (.long v :: st) N L) : ux_Wt X nL pc lv st N L := by
  subst hq; exact fun H locs ls hP hS hl => lv_lconst (cx_x C) (cx_b C) hd hv (k H locs ls hP hS hl)
theorem wt_ldc (q : Nat) {i : Nat} {v : Int32} (C : ux_C X cc own nL ret fr lo sh) (hc : Cond.constant own i v ∈ lw_gt) (hd : decode cc pc = .ok (.ldc i, 2)) (hq : pc + 2 = q) (k : ux_Wt X nL q lv (.int v :: st) N L) : ux_Wt X nL pc lv st N L := by
  subst hq; exact fun H locs ls hP hS hl => lv_ldc (cx_x C) (cx_b C) (cx_o C) (cx_t C _ hc) hd (k H locs ls hP hS hl)
theorem wt_ldcw (q : Nat) {i : Nat} {v : Int32} (C : ux_C X cc own nL ret fr lo sh) (hc : Cond.constant own i v ∈ lw_gt) (hd : decode cc pc = .ok (.ldc_w i, 3)) (hq : pc + 3 = q) (k : ux_Wt X nL q lv (.int v :: st) N L) : ux_Wt X nL pc lv st N L := by
  subst hq; exact fun H locs ls hP hS hl => lv_ldcw (cx_x C) (cx_b C) (cx_o C) (cx_t C _ hc) hd (k H locs ls hP hS hl)
theorem wt_ldc2 (q : Nat) {i : Nat} {v : Int64} (C : ux_C X cc own nL ret fr lo sh) (hc : Cond.constantLong own i v ∈ lw_gt) (hd : decode cc pc = .ok (.ldc2_w i, 3)) (hq : pc + 3 = q) (k : ux_Wt X nL q lv (.long v :: st) N L) : ux_Wt X nL pc lv st N L := by
  subst hq; exact fun H locs ls hP hS hl => lv_ldc2 (cx_x C) (cx_b C) (cx_o C) (cx_t C _ hc) hd (k H locs ls hP hS hl)
theorem wt_iload_n (q j : Nat) {i : Fin 4} {x : Int32} (C : ux_C X cc own nL ret fr lo sh) (hd : decode cc pc = .ok (.iload_n i, 1)) (hq : pc + 1 = q) (hl : lv[j]? = some ((i : Nat), .int x)) (k : ux_Wt X nL q lv (.int x :: st) N L) : ux_Wt X nL pc lv st N L := by
  subst hq; exact fun H locs ls hP hS hv => lv_iload_n (cx_x C) (cx_b C) hd rfl (lv_at hv j hl) (k H locs ls hP hS hv)
theorem wt_iload (q j : Nat) {i : Nat} {x : Int32} (C : ux_C X cc own nL ret fr lo sh) (hd : decode cc pc = .ok (.iload i, 2)) (hq : pc + 2 = q) (hl : lv[j]? = some (i, .int x)) (k : ux_Wt X nL q lv (.int x :: st) N L) : ux_Wt X nL pc lv st N L := by
  subst hq; exact fun H locs ls hP hS hv => lv_iload (cx_x C) (cx_b C) hd (lv_at hv j hl) (k H locs ls hP hS hv)
theorem wt_lload_n (q j : Nat) {i : Fin 4} {x : Int64} (C : ux_C X cc own nL ret fr lo sh) (hd : decode cc pc = .ok (.lload_n i, 1)) (hq : pc + 1 = q) (hl : lv[j]? = some ((i : Nat), .long x)) (k : ux_Wt X nL q lv (.long x :: st) N L) : ux_Wt X nL pc lv st N L := by
  subst hq; exact fun H locs ls hP hS hv => lv_lload_n (cx_x C) (cx_b C) hd rfl (lv_at hv j hl) (k H locs ls hP hS hv)
theorem wt_lload (q j : Nat) {i : Nat} {x : Int64} (C : ux_C X cc own nL ret fr lo sh) (hd : decode cc pc = .ok (.lload i, 2)) (hq : pc + 2 = q) (hl : lv[j]? = some (i, .long x)) (k : ux_Wt X nL q lv (.long x :: st) N L) : ux_Wt X nL pc lv st N L := by
  subst hq; exact fun H locs ls hP hS hv => lv_lload (cx_x C) (cx_b C) hd (lv_at hv j hl) (k H locs ls hP hS hv)
theorem wt_aload_n (q j : Nat) {i : Fin 4} {x : Nat} (C : ux_C X cc own nL ret fr lo sh) (hd : decode cc pc = .ok (.aload_n i, 1)) (hq : pc + 1 = q) (hl : lv[j]? = some ((i : Nat), .ref x)) (k : ux_Wt X nL q lv (.ref x :: st) N L) : ux_Wt X nL pc lv st N L := by
  subst hq; exact fun H locs ls hP hS hv => lv_aload_n (cx_x C) (cx_b C) hd rfl (lv_at hv j hl) (k H locs ls hP hS hv)
theorem wt_aload (q j : Nat) {i : Nat} {x : Nat} (C : ux_C X cc own nL ret fr lo sh) (hd : decode cc pc = .ok (.aload i, 2)) (hq : pc + 2 = q) (hl : lv[j]? = some (i, .ref x)) (k : ux_Wt X nL q lv (.ref x :: st) N L) : ux_Wt X nL pc lv st N L := by
  subst hq; exact fun H locs ls hP hS hv => lv_aload (cx_x C) (cx_b C) hd (lv_at hv j hl) (k H locs ls hP hS hv)
abbrev ux_st1 (i : Nat) (v : Value) (lv : List (Nat × Value)) : List (Nat × Value) := (i, v) :: lv.filter (fun q => !(q.1 == i) && !(q.1 + 1 == i && q.2.category == 2))
abbrev ux_st2 (i : Nat) (v : Value) (lv : List (Nat × Value)) : List (Nat × Value) := (i, v) :: lv.filter (fun q => !(q.1 == i) && (!(q.1 == i + 1) && !(q.1 + 1 == i && q.2.category == 2)))
theorem wt_istore_n (q : Nat) (lv' : List (Nat × Value)) {i : Fin 4} {x : Int32} (C : ux_C X cc own nL ret fr lo sh) (hd : decode cc pc = .ok (.istore_n i, 1)) (hq : pc + 1 = q) (hn : (i : Nat) < nL) (hl : ux_st1 (i : Nat) (.int x) lv = lv') (k : ux_Wt X nL q lv' st N L) : ux_Wt X nL pc lv (.int x :: st) N L := by
  subst hq; exact fun H locs ls hP hS hv => lv_istore_n (cx_x C) (cx_b C) hd rfl hv hn hl (fun ls' hv' => k H locs ls' hP hS hv')
theorem wt_istore (q : Nat) (lv' : List (Nat × Value)) {i : Nat} {x : Int32} (C : ux_C X cc own nL ret fr lo sh) (hd : decode cc pc = .ok (.istore i, 2)) (hq : pc + 2 = q) (hn : i < nL) (hl : ux_st1 i (.int x) lv = lv') (k : ux_Wt X nL q lv' st N L) : ux_Wt X nL pc lv (.int x :: st) N L := by
  subst hq; exact fun H locs ls hP hS hv => lv_istore (cx_x C) (cx_b C) hd hv hn hl (fun ls' hv' => k H locs ls' hP hS hv')
theorem wt_lstore (q : Nat) (lv' : List (Nat × Value)) {i : Nat} {x : Int64} (C : ux_C X cc own nL ret fr lo sh) (hd : decode cc pc = .ok (.lstore i, 2)) (hq : pc + 2 = q) (hn : i + 1 < nL) (hl : ux_st2 i (.long x) lv = lv') (k : ux_Wt X nL q lv' st N L) : ux_Wt X nL pc lv (.long x :: st) N L := by
  subst hq; exact fun H locs ls hP hS hv => lv_lstore (cx_x C) (cx_b C) hd hv hn hl (fun ls' hv' => k H locs ls' hP hS hv')
theorem wt_lstore_n (q : Nat) (lv' : List (Nat × Value)) {i : Fin 4} {x : Int64} (C : ux_C X cc own nL ret fr lo sh) (hd : decode cc pc = .ok (.lstore_n i, 1)) (hq : pc + 1 = q) (hn : (i : Nat) + 1 < nL) (hl : ux_st2 (i : Nat) (.long x) lv = lv') (k : ux_Wt X nL q lv' st N L) : ux_Wt X nL pc lv (.long x :: st) N L := by
  subst hq; exact fun H locs ls hP hS hv => lv_lstore_n (cx_x C) (cx_b C) hd rfl hv hn hl (fun ls' hv' => k H locs ls' hP hS hv')
theorem wt_astore_n (q : Nat) (lv' : List (Nat × Value)) {i : Fin 4} {x : Nat} (C : ux_C X cc own nL ret fr lo sh) (hd : decode cc pc = .ok (.astore_n i, 1)) (hq : pc + 1 = q) (hn : (i : Nat) < nL) (hl : ux_st1 (i : Nat) (.ref x) lv = lv') (k : ux_Wt X nL q lv' st N L) : ux_Wt X nL pc lv (.ref x :: st) N L := by
  subst hq; exact fun H locs ls hP hS hv => lv_astore_n (cx_x C) (cx_b C) hd rfl hv hn hl (fun ls' hv' => k H locs ls' hP hS hv')
theorem wt_astore (q : Nat) (lv' : List (Nat × Value)) {i : Nat} {x : Nat} (C : ux_C X cc own nL ret fr lo sh) (hd : decode cc pc = .ok (.astore i, 2)) (hq : pc + 2 = q) (hn : i < nL) (hl : ux_st1 i (.ref x) lv = lv') (k : ux_Wt X nL q lv' st N L) : ux_Wt X nL pc lv (.ref x :: st) N L := by
  subst hq; exact fun H locs ls hP hS hv => lv_astore (cx_x C) (cx_b C) hd hv hn hl (fun ls' hv' => k H locs ls' hP hS hv')
theorem wt_iinc (q j : Nat) (lv' : List (Nat × Value)) {i : Nat} {n : Int} {x : Int32} (v : Int32) (C : ux_C X cc own nL ret fr lo sh) (hd : decode cc pc = .ok (.iinc i n, 3)) (hq : pc + 3 = q) (hk : lv[j]? = some (i, .int x)) (hv : x + Int32.ofInt n = v) (hn : i < nL) (hl : ux_st1 i (.int v) lv = lv') (k : ux_Wt X nL q lv' st N L) : ux_Wt X nL pc lv st N L := by
  subst hq; exact fun H locs ls hP hS hl' => lv_iinc (cx_x C) (cx_b C) hd hl' hk hv hn hl (fun ls' hv' => k H locs ls' hP hS hv')
theorem wt_iadd (q : Nat) {x y : Int32} (C : ux_C X cc own nL ret fr lo sh) (hd : decode cc pc = .ok (.iadd, 1)) (hq : pc + 1 = q) (k : ux_Wt X nL q lv (.int (x + y) :: st) N L) : ux_Wt X nL pc lv (.int y :: .int x :: st) N L := by
  subst hq; exact fun H locs ls hP hS hl => lv_iadd (cx_x C) (cx_b C) hd (k H locs ls hP hS hl)
theorem wt_isub (q : Nat) {x y : Int32} (C : ux_C X cc own nL ret fr lo sh) (hd : decode cc pc = .ok (.isub, 1)) (hq : pc + 1 = q) (k : ux_Wt X nL q lv (.int (x - y) :: st) N L) : ux_Wt X nL pc lv (.int y :: .int x :: st) N L := by
  subst hq; exact fun H locs ls hP hS hl => lv_isub (cx_x C) (cx_b C) hd (k H locs ls hP hS hl)
theorem wt_imul (q : Nat) {x y : Int32} (C : ux_C X cc own nL ret fr lo sh) (hd : decode cc pc = .ok (.imul, 1)) (hq : pc + 1 = q) (k : ux_Wt X nL q lv (.int (x * y) :: st) N L) : ux_Wt X nL pc lv (.int y :: .int x :: st) N L := by
  subst hq; exact fun H locs ls hP hS hl => lv_imul (cx_x C) (cx_b C) hd (k H locs ls hP hS hl)
theorem wt_iand (q : Nat) {x y : Int32} (C : ux_C X cc own nL ret fr lo sh) (hd : decode cc pc = .ok (.iand, 1)) (hq : pc + 1 = q) (k : ux_Wt X nL q lv (.int (x &&& y) :: st) N L) : ux_Wt X nL pc lv (.int y :: .int x :: st) N L := by
  subst hq; exact fun H locs ls hP hS hl => lv_iand (cx_x C) (cx_b C) hd (k H locs ls hP hS hl)
theorem wt_ior (q : Nat) {x y : Int32} (C : ux_C X cc own nL ret fr lo sh) (hd : decode cc pc = .ok (.ior, 1)) (hq : pc + 1 = q) (k : ux_Wt X nL q lv (.int (x ||| y) :: st) N L) : ux_Wt X nL pc lv (.int y :: .int x :: st) N L := by
  subst hq; exact fun H locs ls hP hS hl => lv_ior (cx_x C) (cx_b C) hd (k H locs ls hP hS hl)
theorem wt_ixor (q : Nat) {x y : Int32} (C : ux_C X cc own nL ret fr lo sh) (hd : decode cc pc = .ok (.ixor, 1)) (hq : pc + 1 = q) (k : ux_Wt X nL q lv (.int (x ^^^ y) :: st) N L) : ux_Wt X nL pc lv (.int y :: .int x :: st) N L := by
  subst hq; exact fun H locs ls hP hS hl => lv_ixor (cx_x C) (cx_b C) hd (k H locs ls hP hS hl)
theorem wt_ishl (q : Nat) {x y : Int32} (C : ux_C X cc own nL ret fr lo sh) (hd : decode cc pc = .ok (.ishl, 1)) (hq : pc + 1 = q) (k : ux_Wt X nL q lv (.int (x <<< (y &&& 31)) :: st) N L) : ux_Wt X nL pc lv (.int y :: .int x :: st) N L := by
  subst hq; exact fun H locs ls hP hS hl => lv_ishl (cx_x C) (cx_b C) hd (k H locs ls hP hS hl)
theorem wt_ishr (q : Nat) {x y : Int32} (C : ux_C X cc own nL ret fr lo sh) (hd : decode cc pc = .ok (.ishr, 1)) (hq : pc + 1 = q) (k : ux_Wt X nL q lv (.int (x >>> (y &&& 31)) :: st) N L) : ux_Wt X nL pc lv (.int y :: .int x :: st) N L := by
  subst hq; exact fun H locs ls hP hS hl => lv_ishr (cx_x C) (cx_b C) hd (k H locs ls hP hS hl)
theorem wt_idiv (q : Nat) {x y : Int32} (C : ux_C X cc own nL ret fr lo sh) (hd : decode cc pc = .ok (.idiv, 1)) (hq : pc + 1 = q) (hne : ¬ y = 0) (k : ux_Wt X nL q lv (.int (x / y) :: st) N L) : ux_Wt X nL pc lv (.int y :: .int x :: st) N L := by
  subst hq; exact fun H locs ls hP hS hl => lv_idiv (cx_x C) (cx_b C) hd hne (k H locs ls hP hS hl)
theorem wt_irem (q : Nat) {x y : Int32} (C : ux_C X cc own nL ret fr lo sh) (hd : decode cc pc = .ok (.irem, 1)) (hq : pc + 1 = q) (hne : ¬ y = 0) (k : ux_Wt X nL q lv (.int (x - x / y * y) :: st) N L) : ux_Wt X nL pc lv (.int y :: .int x :: st) N L := by
  subst hq; exact fun H locs ls hP hS hl => lv_irem (cx_x C) (cx_b C) hd hne (k H locs ls hP hS hl)
theorem wt_lsub (q : Nat) {x y : Int64} (C : ux_C X cc own nL ret fr lo sh) (hd : decode cc pc = .ok (.lsub, 1)) (hq : pc + 1 = q) (k : ux_Wt X nL q lv (.long (x - y) :: st) N L) : ux_Wt X nL pc lv (.long y :: .long x :: st) N L := by
  subst hq; exact fun H locs ls hP hS hl => lv_lsub (cx_x C) (cx_b C) hd (k H locs ls hP hS hl)
theorem wt_land (q : Nat) {x y : Int64} (C : ux_C X cc own nL ret fr lo sh) (hd : decode cc pc = .ok (.land, 1)) (hq : pc + 1 = q) (k : ux_Wt X nL q lv (.long (x &&& y) :: st) N L) : ux_Wt X nL pc lv (.long y :: .long x :: st) N L := by
  subst hq; exact fun H locs ls hP hS hl => lv_land (cx_x C) (cx_b C) hd (k H locs ls hP hS hl)
theorem wt_lor (q : Nat) {x y : Int64} (C : ux_C X cc own nL ret fr lo sh) (hd : decode cc pc = .ok (.lor, 1)) (hq : pc + 1 = q) (k : ux_Wt X nL q lv (.long (x ||| y) :: st) N L) : ux_Wt X nL pc lv (.long y :: .long x :: st) N L := by
  subst hq; exact fun H locs ls hP hS hl => lv_lor (cx_x C) (cx_b C) hd (k H locs ls hP hS hl)
theorem wt_ladd (q : Nat) {x y : Int64} (C : ux_C X cc own nL ret fr lo sh) (hd : decode cc pc = .ok (.ladd, 1)) (hq : pc + 1 = q) (k : ux_Wt X nL q lv (.long (x + y) :: st) N L) : ux_Wt X nL pc lv (.long y :: .long x :: st) N L := by
  subst hq; exact fun H locs ls hP hS hl => lv_ladd (cx_x C) (cx_b C) hd (k H locs ls hP hS hl)
theorem wt_ineg (q : Nat) {x : Int32} (C : ux_C X cc own nL ret fr lo sh) (hd : decode cc pc = .ok (.ineg, 1)) (hq : pc + 1 = q) (k : ux_Wt X nL q lv (.int (-x) :: st) N L) : ux_Wt X nL pc lv (.int x :: st) N L := by
  subst hq; exact fun H locs ls hP hS hl => lv_ineg (cx_x C) (cx_b C) hd (k H locs ls hP hS hl)
theorem wt_lneg (q : Nat) {x : Int64} (C : ux_C X cc own nL ret fr lo sh) (hd : decode cc pc = .ok (.lneg, 1)) (hq : pc + 1 = q) (k : ux_Wt X nL q lv (.long (-x) :: st) N L) : ux_Wt X nL pc lv (.long x :: st) N L := by
  subst hq; exact fun H locs ls hP hS hl => lv_lneg (cx_x C) (cx_b C) hd (k H locs ls hP hS hl)
theorem wt_i2l (q : Nat) {x : Int32} (C : ux_C X cc own nL ret fr lo sh) (hd : decode cc pc = .ok (.i2l, 1)) (hq : pc + 1 = q) (k : ux_Wt X nL q lv (.long (x.toInt64) :: st) N L) : ux_Wt X nL pc lv (.int x :: st) N L := by
  subst hq; exact fun H locs ls hP hS hl => lv_i2l (cx_x C) (cx_b C) hd rfl (k H locs ls hP hS hl)
theorem wt_l2i (q : Nat) {x : Int64} (C : ux_C X cc own nL ret fr lo sh) (hd : decode cc pc = .ok (.l2i, 1)) (hq : pc + 1 = q) (k : ux_Wt X nL q lv (.int (x.toInt32) :: st) N L) : ux_Wt X nL pc lv (.long x :: st) N L := by
  subst hq; exact fun H locs ls hP hS hl => lv_l2i (cx_x C) (cx_b C) hd rfl (k H locs ls hP hS hl)
theorem wt_i2c (q : Nat) {x : Int32} (C : ux_C X cc own nL ret fr lo sh) (hd : decode cc pc = .ok (.i2c, 1)) (hq : pc + 1 = q) (k : ux_Wt X nL q lv (.int ((x.toUInt32 % 65536).toInt32) :: st) N L) : ux_Wt X nL pc lv (.int x :: st) N L := by
  subst hq; exact fun H locs ls hP hS hl => lv_i2c (cx_x C) (cx_b C) hd rfl (k H locs ls hP hS hl)
theorem wt_iushr (q : Nat) {x y : Int32} (C : ux_C X cc own nL ret fr lo sh) (hd : decode cc pc = .ok (.iushr, 1)) (hq : pc + 1 = q) (k : ux_Wt X nL q lv (.int ((x.toUInt32 >>> (y.toUInt32 &&& Int32.toUInt32 31)).toInt32) :: st) N L) : ux_Wt X nL pc lv (.int y :: .int x :: st) N L := by
  subst hq; exact fun H locs ls hP hS hl => lv_iushr (cx_x C) (cx_b C) hd rfl (k H locs ls hP hS hl)
theorem wt_lushr (q : Nat) {x : Int64} {y : Int32} (C : ux_C X cc own nL ret fr lo sh) (hd : decode cc pc = .ok (.lushr, 1)) (hq : pc + 1 = q) (k : ux_Wt X nL q lv (.long ((x.toUInt64 >>> (y.toInt64.toUInt64 &&& Int64.toUInt64 63)).toInt64) :: st) N L) : ux_Wt X nL pc lv (.int y :: .long x :: st) N L := by
  subst hq; exact fun H locs ls hP hS hl => lv_lushr (cx_x C) (cx_b C) hd rfl (k H locs ls hP hS hl)
theorem wt_lshl (q : Nat) {x : Int64} {y : Int32} (C : ux_C X cc own nL ret fr lo sh) (hd : decode cc pc = .ok (.lshl, 1)) (hq : pc + 1 = q) (k : ux_Wt X nL q lv (.long (x <<< (y.toInt64 &&& 63)) :: st) N L) : ux_Wt X nL pc lv (.int y :: .long x :: st) N L := by
  subst hq; exact fun H locs ls hP hS hl => lv_lshl (cx_x C) (cx_b C) hd rfl (k H locs ls hP hS hl)
theorem wt_lshr (q : Nat) {x : Int64} {y : Int32} (C : ux_C X cc own nL ret fr lo sh) (hd : decode cc pc = .ok (.lshr, 1)) (hq : pc + 1 = q) (k : ux_Wt X nL q lv (.long (x >>> (y.toInt64 &&& 63)) :: st) N L) : ux_Wt X nL pc lv (.int y :: .long x :: st) N L := by
  subst hq; exact fun H locs ls hP hS hl => lv_lshr (cx_x C) (cx_b C) hd rfl (k H locs ls hP hS hl)
theorem wt_lcmp (q : Nat) {x y : Int64} (C : ux_C X cc own nL ret fr lo sh) (hd : decode cc pc = .ok (.lcmp, 1)) (hq : pc + 1 = q) (k : ux_Wt X nL q lv (.int (lg_cmp x y) :: st) N L) : ux_Wt X nL pc lv (.long y :: .long x :: st) N L := by
  subst hq; exact fun H locs ls hP hS hl => W.lcmp (cx_x C) (cx_b C) hd (k H locs ls hP hS hl)
theorem wt_dup (q : Nat) {a : Value} (C : ux_C X cc own nL ret fr lo sh) (hd : decode cc pc = .ok (.dup, 1)) (hq : pc + 1 = q) (ha : a.category = 1) (k : ux_Wt X nL q lv (a :: a :: st) N L) : ux_Wt X nL pc lv (a :: st) N L := by
  subst hq; exact fun H locs ls hP hS hl => lv_dup (cx_x C) (cx_b C) hd ha (k H locs ls hP hS hl)
theorem wt_pop (q : Nat) {a : Value} (C : ux_C X cc own nL ret fr lo sh) (hd : decode cc pc = .ok (.pop, 1)) (hq : pc + 1 = q) (ha : a.category = 1) (k : ux_Wt X nL q lv st N L) : ux_Wt X nL pc lv (a :: st) N L := by
  subst hq; exact fun H locs ls hP hS hl => lv_pop (cx_x C) (cx_b C) hd ha (k H locs ls hP hS hl)
theorem wt_dup2 (q : Nat) {a b : Value} (C : ux_C X cc own nL ret fr lo sh) (hd : decode cc pc = .ok (.dup2, 1)) (hq : pc + 1 = q) (ha : a.category = 1) (hb : b.category = 1) (k : ux_Wt X nL q lv (a :: b :: a :: b :: st) N L) : ux_Wt X nL pc lv (a :: b :: st) N L := by
  subst hq; exact fun H locs ls hP hS hl => lv_dup2_11 (cx_x C) (cx_b C) hd ha hb (k H locs ls hP hS hl)
theorem wt_if_eq (q tgt : Nat) {off : Int} {x : Int32} (C : ux_C X cc own nL ret fr lo sh) (hd : decode cc pc = .ok (.ifCond .eq off, 3)) (hq : pc + 3 = q) (ht : (pc : Int) + off = (tgt : Int)) (kt : x = 0 → ux_Wt X nL tgt lv st N L) (kf : ¬ x = 0 → ux_Wt X nL q lv st N L) : ux_Wt X nL pc lv (.int x :: st) N L := by
  subst hq; exact fun H locs ls hP hS hl => lv_if_eq (cx_x C) (cx_b C) hd ht (fun c => kt c H locs ls hP hS hl) (fun c => kf c H locs ls hP hS hl)
theorem wt_icmp_eq (q tgt : Nat) {off : Int} {x y : Int32} (C : ux_C X cc own nL ret fr lo sh) (hd : decode cc pc = .ok (.if_icmp .eq off, 3)) (hq : pc + 3 = q) (ht : (pc : Int) + off = (tgt : Int)) (kt : x = y → ux_Wt X nL tgt lv st N L) (kf : ¬ x = y → ux_Wt X nL q lv st N L) : ux_Wt X nL pc lv (.int y :: .int x :: st) N L := by
  subst hq; exact fun H locs ls hP hS hl => lv_icmp_eq (cx_x C) (cx_b C) hd ht (fun c => kt c H locs ls hP hS hl) (fun c => kf c H locs ls hP hS hl)
theorem wt_if_ne (q tgt : Nat) {off : Int} {x : Int32} (C : ux_C X cc own nL ret fr lo sh) (hd : decode cc pc = .ok (.ifCond .ne off, 3)) (hq : pc + 3 = q) (ht : (pc : Int) + off = (tgt : Int)) (kt : ¬ x = 0 → ux_Wt X nL tgt lv st N L) (kf : x = 0 → ux_Wt X nL q lv st N L) : ux_Wt X nL pc lv (.int x :: st) N L := by
  subst hq; exact fun H locs ls hP hS hl => lv_if_ne (cx_x C) (cx_b C) hd ht (fun c => kt c H locs ls hP hS hl) (fun c => kf c H locs ls hP hS hl)
theorem wt_icmp_ne (q tgt : Nat) {off : Int} {x y : Int32} (C : ux_C X cc own nL ret fr lo sh) (hd : decode cc pc = .ok (.if_icmp .ne off, 3)) (hq : pc + 3 = q) (ht : (pc : Int) + off = (tgt : Int)) (kt : ¬ x = y → ux_Wt X nL tgt lv st N L) (kf : x = y → ux_Wt X nL q lv st N L) : ux_Wt X nL pc lv (.int y :: .int x :: st) N L := by
  subst hq; exact fun H locs ls hP hS hl => lv_icmp_ne (cx_x C) (cx_b C) hd ht (fun c => kt c H locs ls hP hS hl) (fun c => kf c H locs ls hP hS hl)
theorem wt_if_lt (q tgt : Nat) {off : Int} {x : Int32} (C : ux_C X cc own nL ret fr lo sh) (hd : decode cc pc = .ok (.ifCond .lt off, 3)) (hq : pc + 3 = q) (ht : (pc : Int) + off = (tgt : Int)) (kt : x < 0 → ux_Wt X nL tgt lv st N L) (kf : ¬ x < 0 → ux_Wt X nL q lv st N L) : ux_Wt X nL pc lv (.int x :: st) N L := by
  subst hq; exact fun H locs ls hP hS hl => lv_if_lt (cx_x C) (cx_b C) hd ht (fun c => kt c H locs ls hP hS hl) (fun c => kf c H locs ls hP hS hl)
theorem wt_icmp_lt (q tgt : Nat) {off : Int} {x y : Int32} (C : ux_C X cc own nL ret fr lo sh) (hd : decode cc pc = .ok (.if_icmp .lt off, 3)) (hq : pc + 3 = q) (ht : (pc : Int) + off = (tgt : Int)) (kt : x < y → ux_Wt X nL tgt lv st N L) (kf : ¬ x < y → ux_Wt X nL q lv st N L) : ux_Wt X nL pc lv (.int y :: .int x :: st) N L := by
  subst hq; exact fun H locs ls hP hS hl => lv_icmp_lt (cx_x C) (cx_b C) hd ht (fun c => kt c H locs ls hP hS hl) (fun c => kf c H locs ls hP hS hl)
theorem wt_if_ge (q tgt : Nat) {off : Int} {x : Int32} (C : ux_C X cc own nL ret fr lo sh) (hd : decode cc pc = .ok (.ifCond .ge off, 3)) (hq : pc + 3 = q) (ht : (pc : Int) + off = (tgt : Int)) (kt : 0 ≤ x → ux_Wt X nL tgt lv st N L) (kf : ¬ 0 ≤ x → ux_Wt X nL q lv st N L) : ux_Wt X nL pc lv (.int x :: st) N L := by
  subst hq; exact fun H locs ls hP hS hl => lv_if_ge (cx_x C) (cx_b C) hd ht (fun c => kt c H locs ls hP hS hl) (fun c => kf c H locs ls hP hS hl)
theorem wt_icmp_ge (q tgt : Nat) {off : Int} {x y : Int32} (C : ux_C X cc own nL ret fr lo sh) (hd : decode cc pc = .ok (.if_icmp .ge off, 3)) (hq : pc + 3 = q) (ht : (pc : Int) + off = (tgt : Int)) (kt : y ≤ x → ux_Wt X nL tgt lv st N L) (kf : ¬ y ≤ x → ux_Wt X nL q lv st N L) : ux_Wt X nL pc lv (.int y :: .int x :: st) N L := by
  subst hq; exact fun H locs ls hP hS hl => lv_icmp_ge (cx_x C) (cx_b C) hd ht (fun c => kt c H locs ls hP hS hl) (fun c => kf c H locs ls hP hS hl)
theorem wt_if_gt (q tgt : Nat) {off : Int} {x : Int32} (C : ux_C X cc own nL ret fr lo sh) (hd : decode cc pc = .ok (.ifCond .gt off, 3)) (hq : pc + 3 = q) (ht : (pc : Int) + off = (tgt : Int)) (kt : 0 < x → ux_Wt X nL tgt lv st N L) (kf : ¬ 0 < x → ux_Wt X nL q lv st N L) : ux_Wt X nL pc lv (.int x :: st) N L := by
  subst hq; exact fun H locs ls hP hS hl => lv_if_gt (cx_x C) (cx_b C) hd ht (fun c => kt c H locs ls hP hS hl) (fun c => kf c H locs ls hP hS hl)
theorem wt_icmp_gt (q tgt : Nat) {off : Int} {x y : Int32} (C : ux_C X cc own nL ret fr lo sh) (hd : decode cc pc = .ok (.if_icmp .gt off, 3)) (hq : pc + 3 = q) (ht : (pc : Int) + off = (tgt : Int)) (kt : y < x → ux_Wt X nL tgt lv st N L) (kf : ¬ y < x → ux_Wt X nL q lv st N L) : ux_Wt X nL pc lv (.int y :: .int x :: st) N L := by
  subst hq; exact fun H locs ls hP hS hl => lv_icmp_gt (cx_x C) (cx_b C) hd ht (fun c => kt c H locs ls hP hS hl) (fun c => kf c H locs ls hP hS hl)
theorem wt_if_le (q tgt : Nat) {off : Int} {x : Int32} (C : ux_C X cc own nL ret fr lo sh) (hd : decode cc pc = .ok (.ifCond .le off, 3)) (hq : pc + 3 = q) (ht : (pc : Int) + off = (tgt : Int)) (kt : x ≤ 0 → ux_Wt X nL tgt lv st N L) (kf : ¬ x ≤ 0 → ux_Wt X nL q lv st N L) : ux_Wt X nL pc lv (.int x :: st) N L := by
  subst hq; exact fun H locs ls hP hS hl => lv_if_le (cx_x C) (cx_b C) hd ht (fun c => kt c H locs ls hP hS hl) (fun c => kf c H locs ls hP hS hl)
theorem wt_icmp_le (q tgt : Nat) {off : Int} {x y : Int32} (C : ux_C X cc own nL ret fr lo sh) (hd : decode cc pc = .ok (.if_icmp .le off, 3)) (hq : pc + 3 = q) (ht : (pc : Int) + off = (tgt : Int)) (kt : x ≤ y → ux_Wt X nL tgt lv st N L) (kf : ¬ x ≤ y → ux_Wt X nL q lv st N L) : ux_Wt X nL pc lv (.int y :: .int x :: st) N L := by
  subst hq; exact fun H locs ls hP hS hl => lv_icmp_le (cx_x C) (cx_b C) hd ht (fun c => kt c H locs ls hP hS hl) (fun c => kf c H locs ls hP hS hl)
theorem wt_goto (tgt : Nat) {off : Int} (C : ux_C X cc own nL ret fr lo sh) (hd : decode cc pc = .ok (.goto off, 3)) (ht : (pc : Int) + off = (tgt : Int)) (k : ux_Wt X nL tgt lv st N L) : ux_Wt X nL pc lv st N L :=
  fun H locs ls hP hS hl => lv_goto (cx_x C) (cx_b C) hd ht (k H locs ls hP hS hl)
theorem wt_tin (tgt : Nat) (v : Int32) {dflt a b off : Int} {offs : Array Int} {len : Nat} {x : Int32} (C : ux_C X cc own nL ret fr lo sh) (hd : decode cc pc = .ok (.tableswitch dflt a b offs, len)) (hx : x = v) (h1 : ¬ v.toInt < a) (h2 : ¬ b < v.toInt) (ho : offs[(v.toInt - a).toNat]? = some off) (ht : (pc : Int) + off = (tgt : Int)) (k : ux_Wt X nL tgt lv st N L) : ux_Wt X nL pc lv (.int x :: st) N L := by
  subst hx; exact fun H locs ls hP hS hl => lv_tableIn (cx_x C) (cx_b C) hd h1 h2 ho ht (k H locs ls hP hS hl)
theorem wt_tout (tgt : Nat) {dflt a b : Int} {offs : Array Int} {len : Nat} {x : Int32} (C : ux_C X cc own nL ret fr lo sh) (hd : decode cc pc = .ok (.tableswitch dflt a b offs, len)) (h : x.toInt < a ∨ b < x.toInt) (ht : (pc : Int) + dflt = (tgt : Int)) (k : ux_Wt X nL tgt lv st N L) : ux_Wt X nL pc lv (.int x :: st) N L :=
  fun H locs ls hP hS hl => lv_tableOut (cx_x C) (cx_b C) hd h ht (k H locs ls hP hS hl)
theorem wt_lsw (tgt : Nat) {dflt off : Int} {ps : Array (Int × Int)} {len : Nat} {x : Int32} (C : ux_C X cc own nL ret fr lo sh) (hd : decode cc pc = .ok (.lookupswitch dflt ps, len)) (hp : (ps.toList.zip (ps.toList.drop 1)).all (fun (a, next) => a.1 < next.1) = true) (ho : Op.lookupswitch.offset ps.toList dflt x.toInt = off) (ht : (pc : Int) + off = (tgt : Int)) (k : ux_Wt X nL tgt lv st N L) : ux_Wt X nL pc lv (.int x :: st) N L :=
  fun H locs ls hP hS hl => lv_lookup (cx_x C) (cx_b C) hd hp ho ht (k H locs ls hP hS hl)
theorem wt_getI (q : Nat) {ci k idx h n0 : Nat} {fks : List (Option Nat)} (C : ux_C X cc own nL ret fr lo sh) (hl : ux_FL own idx ci k) (hs : sh[h]? = some (0, ci, n0, fks)) (hk : fks[k]? = some none) (hd : decode cc pc = .ok (.getfield idx, 3)) (hq : pc + 3 = q) (kk : ux_Wt X nL q lv (.int (N h k) :: st) N L) : ux_Wt X nL pc lv (.ref (ux_ad X h) :: st) N L := by
  subst hq
  obtain ⟨CN, T, n, h1, h2, h3, h4⟩ := hl
  exact fun H locs ls hP hS hv => va_get (cx_x C) (cx_b C) (cx_t C) h2 (cx_o C) (cx_K C) hP h (ux_at (cx_s C hs)) h1 k h3 (cx_t C _ h4) (fun _ h9 => h9) (by show (fks.mapIdx _)[k]? = _; rw [List.getElem?_mapIdx, hk]; rfl) hd (kk H locs ls hP hS hv)
theorem wt_getR (q : Nat) {ci k idx h n0 j : Nat} {fks : List (Option Nat)} (C : ux_C X cc own nL ret fr lo sh) (hl : ux_FL own idx ci k) (hs : sh[h]? = some (0, ci, n0, fks)) (hk : fks[k]? = some (some j)) (hd : decode cc pc = .ok (.getfield idx, 3)) (hq : pc + 3 = q) (kk : ux_Wt X nL q lv (.ref (ux_ad X j) :: st) N L) : ux_Wt X nL pc lv (.ref (ux_ad X h) :: st) N L := by
  subst hq
  obtain ⟨CN, T, n, h1, h2, h3, h4⟩ := hl
  exact fun H locs ls hP hS hv => va_get (cx_x C) (cx_b C) (cx_t C) h2 (cx_o C) (cx_K C) hP h (ux_at (cx_s C hs)) h1 k h3 (cx_t C _ h4) (fun _ h9 => h9) (by show (fks.mapIdx _)[k]? = _; rw [List.getElem?_mapIdx, hk]; rfl) hd (kk H locs ls hP hS hv)
theorem wt_putI (q : Nat) {ci k idx h n0 : Nat} {ty : FieldType} {fks : List (Option Nat)} {v : Int32} (C : ux_C X cc own nL ret fr lo sh) (hl : ux_FP own idx ci k ty) (hs : sh[h]? = some (0, ci, n0, fks)) (hk : fks[k]? = some none) (hn : narrow ty (.int v) = .int v) (hf : fits ty (.int v) = true) (hd : decode cc pc = .ok (.putfield idx, 3)) (hq : pc + 3 = q) (kk : ux_Wt X nL q lv st (ux_u N h k v) L) : ux_Wt X nL pc lv (.int v :: .ref (ux_ad X h) :: st) N L := by
  subst hq
  obtain ⟨CN, T, n, h1, h2, h3, h4, ty0, h5, h6, h7, h8⟩ := hl
  refine fun H locs ls hP hS hv => va_put (cx_x C) (cx_b C) (cx_t C) h2 ty0 h5 h6 (cx_o C) (cx_K C) hP (ux_D (cx_ok C) N L) hS h (ux_at (cx_s C hs)) h1 k h3 (cx_t C _ h4) (fun _ h9 => h9) h7 h8 hn hf ?_ hd (fun H1 locs1 hP1 _ hS1 => kk H1 locs1 ls ?_ hS1 hv)
  · show k < (fks.mapIdx _).length
    rw [List.length_mapIdx]; exact (List.getElem?_eq_some_iff.mp hk).1
  · rw [← ux_set (N := N) (L := L) (N' := ux_u N h k v) (L' := L) (cx_s C hs) (e := .inr (ci, (fks.mapIdx (ux_v (gad (xG X)) (N h))).set k (.int v))) ?_ (fun j hj => if_neg hj) (fun j _ => rfl)]
    · exact hP1
    · rw [ux_fset hk]; show Sum.inr (ci, fks.mapIdx (ux_v _ (ux_u N h k v h))) = _; rw [ux_u, if_pos rfl]
theorem wt_iald (q : Nat) {h n : Nat} {r : List (Option Nat)} {i : Int32} (C : ux_C X cc own nL ret fr lo sh) (hs : sh[h]? = some (1, 0, n, r)) (hi : ux_in i n = true) (hd : decode cc pc = .ok (.iaload, 1)) (hq : pc + 1 = q) (kk : ux_Wt X nL q lv (.int (N h i.toNatClampNeg) :: st) N L) : ux_Wt X nL pc lv (.int i :: .ref (ux_ad X h) :: st) N L := by
  subst hq
  exact fun H locs ls hP hS hv => va_iald (cx_x C) (cx_b C) (cx_K C) hP h 0 (ux_at (cx_s C hs)) rfl (ux_in_p hi) hd (kk H locs ls hP hS hv)
theorem wt_iast (q : Nat) {h n : Nat} {r : List (Option Nat)} {i x : Int32} (C : ux_C X cc own nL ret fr lo sh) (hs : sh[h]? = some (1, 0, n, r)) (hi : ux_in i n = true) (hd : decode cc pc = .ok (.iastore, 1)) (hq : pc + 1 = q) (kk : ux_Wt X nL q lv st (ux_u N h i.toNatClampNeg x) L) : ux_Wt X nL pc lv (.int x :: .int i :: .ref (ux_ad X h) :: st) N L := by
  subst hq
  refine fun H locs ls hP hS hv => va_iast (cx_x C) (cx_b C) (cx_K C) hP (ux_D (cx_ok C) N L) hS h 0 (ux_at (cx_s C hs)) rfl (ux_in_p hi) hd (fun H1 locs1 hP1 _ hS1 => kk H1 locs1 ls ?_ hS1 hv)
  rw [← ux_set (N := N) (L := L) (N' := ux_u N h i.toNatClampNeg x) (L' := L) (cx_s C hs) (e := .inl (gcy (xG X) 0, n, .inl (upd (N h) i.toNatClampNeg x))) ?_ (fun j hj => if_neg hj) (fun j _ => rfl)]
  · exact hP1
  · show Sum.inl (gcy (xG X) 0, n, Sum.inl (ux_u N h i.toNatClampNeg x h)) = _; rw [ux_u, if_pos rfl]
theorem wt_zald (q : Nat) {h n : Nat} {r : List (Option Nat)} {i : Int32} (C : ux_C X cc own nL ret fr lo sh) (hs : sh[h]? = some (1, 1, n, r)) (hi : ux_in i n = true) (hd : decode cc pc = .ok (.baload, 1)) (hq : pc + 1 = q) (kk : ux_Wt X nL q lv (.int (N h i.toNatClampNeg) :: st) N L) : ux_Wt X nL pc lv (.int i :: .ref (ux_ad X h) :: st) N L := by
  subst hq
  exact fun H locs ls hP hS hv => va_zald (cx_x C) (cx_b C) (cx_K C) hP h 1 (ux_at (cx_s C hs)) rfl (ux_in_p hi) hd (kk H locs ls hP hS hv)
theorem wt_zast (q : Nat) {h n : Nat} {r : List (Option Nat)} {i x : Int32} (C : ux_C X cc own nL ret fr lo sh) (hs : sh[h]? = some (1, 1, n, r)) (hi : ux_in i n = true) (hd : decode cc pc = .ok (.bastore, 1)) (hq : pc + 1 = q) (kk : ux_Wt X nL q lv st (ux_u N h i.toNatClampNeg (vp_nar .boolean x)) L) : ux_Wt X nL pc lv (.int x :: .int i :: .ref (ux_ad X h) :: st) N L := by
  subst hq
  refine fun H locs ls hP hS hv => va_zast (cx_x C) (cx_b C) (cx_K C) hP (ux_D (cx_ok C) N L) hS h 1 (ux_at (cx_s C hs)) rfl (ux_in_p hi) hd (fun H1 locs1 hP1 _ hS1 => kk H1 locs1 ls ?_ hS1 hv)
  rw [← ux_set (N := N) (L := L) (N' := ux_u N h i.toNatClampNeg (vp_nar .boolean x)) (L' := L) (cx_s C hs) (e := .inl (gcy (xG X) 1, n, .inl (upd (N h) i.toNatClampNeg (vp_nar .boolean x)))) ?_ (fun j hj => if_neg hj) (fun j _ => rfl)]
  · exact hP1
  · show Sum.inl (gcy (xG X) 1, n, Sum.inl (ux_u N h i.toNatClampNeg (vp_nar .boolean x) h)) = _; rw [ux_u, if_pos rfl]
theorem wt_cald (q : Nat) {h n : Nat} {r : List (Option Nat)} {i : Int32} (C : ux_C X cc own nL ret fr lo sh) (hs : sh[h]? = some (1, 2, n, r)) (hi : ux_in i n = true) (hd : decode cc pc = .ok (.caload, 1)) (hq : pc + 1 = q) (kk : ux_Wt X nL q lv (.int (N h i.toNatClampNeg) :: st) N L) : ux_Wt X nL pc lv (.int i :: .ref (ux_ad X h) :: st) N L := by
  subst hq
  exact fun H locs ls hP hS hv => va_cald (cx_x C) (cx_b C) (cx_K C) hP h 2 (ux_at (cx_s C hs)) rfl (ux_in_p hi) hd (kk H locs ls hP hS hv)
theorem wt_cast (q : Nat) {h n : Nat} {r : List (Option Nat)} {i x : Int32} (C : ux_C X cc own nL ret fr lo sh) (hs : sh[h]? = some (1, 2, n, r)) (hi : ux_in i n = true) (hd : decode cc pc = .ok (.castore, 1)) (hq : pc + 1 = q) (kk : ux_Wt X nL q lv st (ux_u N h i.toNatClampNeg (vp_nar .char x)) L) : ux_Wt X nL pc lv (.int x :: .int i :: .ref (ux_ad X h) :: st) N L := by
  subst hq
  refine fun H locs ls hP hS hv => va_cast (cx_x C) (cx_b C) (cx_K C) hP (ux_D (cx_ok C) N L) hS h 2 (ux_at (cx_s C hs)) rfl (ux_in_p hi) hd (fun H1 locs1 hP1 _ hS1 => kk H1 locs1 ls ?_ hS1 hv)
  rw [← ux_set (N := N) (L := L) (N' := ux_u N h i.toNatClampNeg (vp_nar .char x)) (L' := L) (cx_s C hs) (e := .inl (gcy (xG X) 2, n, .inl (upd (N h) i.toNatClampNeg (vp_nar .char x)))) ?_ (fun j hj => if_neg hj) (fun j _ => rfl)]
  · exact hP1
  · show Sum.inl (gcy (xG X) 2, n, Sum.inl (ux_u N h i.toNatClampNeg (vp_nar .char x) h)) = _; rw [ux_u, if_pos rfl]
theorem wt_lald (q : Nat) {h n : Nat} {r : List (Option Nat)} {i : Int32} (C : ux_C X cc own nL ret fr lo sh) (hs : sh[h]? = some (2, 3, n, r)) (hi : ux_in i n = true) (hd : decode cc pc = .ok (.laload, 1)) (hq : pc + 1 = q) (kk : ux_Wt X nL q lv (.long (L h i.toNatClampNeg) :: st) N L) : ux_Wt X nL pc lv (.int i :: .ref (ux_ad X h) :: st) N L := by
  subst hq
  exact fun H locs ls hP hS hv => va_lald (cx_x C) (cx_b C) (cx_K C) hP h 3 (ux_at (cx_s C hs)) rfl (ux_in_p hi) hd (kk H locs ls hP hS hv)
theorem wt_last (q : Nat) {h n : Nat} {r : List (Option Nat)} {i : Int32} {x : Int64} (C : ux_C X cc own nL ret fr lo sh) (hs : sh[h]? = some (2, 3, n, r)) (hi : ux_in i n = true) (hd : decode cc pc = .ok (.lastore, 1)) (hq : pc + 1 = q) (kk : ux_Wt X nL q lv st N (ux_w L h i.toNatClampNeg x)) : ux_Wt X nL pc lv (.long x :: .int i :: .ref (ux_ad X h) :: st) N L := by
  subst hq
  refine fun H locs ls hP hS hv => va_last (cx_x C) (cx_b C) (cx_K C) hP (ux_D (cx_ok C) N L) hS h 3 (ux_at (cx_s C hs)) rfl (ux_in_p hi) hd (fun H1 locs1 hP1 _ hS1 => kk H1 locs1 ls ?_ hS1 hv)
  rw [← ux_set (N := N) (L := L) (N' := N) (L' := ux_w L h i.toNatClampNeg x) (cx_s C hs) (e := .inl (gcy (xG X) 3, n, .inr (.inl (vp_updL (L h) i.toNatClampNeg x)))) ?_ (fun j _ => rfl) (fun j hj => if_neg hj)]
  · exact hP1
  · show Sum.inl (gcy (xG X) 3, n, Sum.inr (Sum.inl (ux_w L h i.toNatClampNeg x h))) = _; rw [ux_w, if_pos rfl]
theorem wt_aald (q : Nat) {h n t : Nat} (b w : Nat) {CN : String} {cs : List (Option Nat)} {i : Int32} (C : ux_C X cc own nL ret fr lo sh) (hs : sh[h]? = some (3, t, n, cs)) (ht : (ux_tys (xG X))[t]? = some (gcy (xG X) t, .object CN)) (hcs : ∀ j, j < n → cs.getD j none = some (b + w * j)) (hi : ux_in i n = true) (hd : decode cc pc = .ok (.aaload, 1)) (hq : pc + 1 = q) (kk : ux_Wt X nL q lv (.ref (ux_ad X (b + w * i.toNatClampNeg)) :: st) N L) : ux_Wt X nL pc lv (.int i :: .ref (ux_ad X h) :: st) N L := by
  subst hq
  have hin := ux_in_p hi
  have hlt : i.toNatClampNeg < n := Nat.not_le.mp fun z => hin (Or.inr z)
  refine fun H locs ls hP hS hv => va_aldq (cx_x C) (cx_b C) (cx_K C) hP h t (ux_at (cx_s C hs)) ht hin hd ?_
  show ux_Wx X H locs (F0 (xm X) (pc + 1) ls (va_rf ((cs.getD i.toNatClampNeg none).map (gad (xG X))) :: st))
  rw [hcs _ hlt]
  exact kk H locs ls hP hS hv
theorem wt_alenI (q : Nat) {h n : Nat} {r : List (Option Nat)} {v : Int32} (C : ux_C X cc own nL ret fr lo sh) (hs : sh[h]? = some (1, 0, n, r)) (hv : Int32.ofNat n = v) (hd : decode cc pc = .ok (.arraylength, 1)) (hq : pc + 1 = q) (kk : ux_Wt X nL q lv (.int v :: st) N L) : ux_Wt X nL pc lv (.ref (ux_ad X h) :: st) N L := by
  subst hq
  exact fun H locs ls hP hS hl => va_alen (x := (n, .inl (N h))) (cx_x C) (cx_b C) (cx_K C) hP h 0 (ux_at (cx_s C hs)) rfl hv hd (kk H locs ls hP hS hl)
theorem wt_copyI (q : Nat) {idx h0 h1 n0 n1 : Nat} {r0 r1 : List (Option Nat)} {sp dp n : Int32} (C : ux_C X cc own nL ret fr lo sh) (hw : ux_LA own idx) (hs0 : sh[h0]? = some (1, 0, n0, r0)) (hs1 : sh[h1]? = some (1, 0, n1, r1)) (g1 : ¬ sp < 0) (g2 : ¬ dp < 0) (g3 : ¬ n < 0) (g4 : sp.toNatClampNeg + n.toNatClampNeg ≤ n0) (g5 : dp.toNatClampNeg + n.toNatClampNeg ≤ n1) (hfr : 1 ≤ fr) (hlo : (st.map fun v => v.category).sum + (nativeFrameWords "java/lang/System" "arraycopy" 5 + 11) ≤ lo) (hd : decode cc pc = .ok (.invokestatic idx, 3)) (hq : pc + 3 = q) (kk : ux_Wt X nL q lv st (ux_cpN N h0 h1 sp.toNatClampNeg dp.toNatClampNeg n.toNatClampNeg) L) : ux_Wt X nL pc lv (.int n :: .int dp :: .ref (ux_ad X h1) :: .int sp :: .ref (ux_ad X h0) :: st) N L := by
  subst hq
  obtain ⟨w1, w2, w3, w4⟩ := hw
  refine fun H locs ls hP hS hv => va_copyi (ty := .int) (cx_x C) (cx_b C) ((cx_m C).trans hv.1.symm) (cx_o C) (cx_t C _ w1) (cx_t C _ w2) (cx_t C _ w3) (cx_t C _ w4) (cx_K C) hP (ux_D (cx_ok C) N L) hS h0 h1 0 0 (ux_at (cx_s C hs0)) (ux_at (cx_s C hs1)) rfl rfl rfl g1 g2 g3 g4 g5 (fun _ _ => rfl) (Nat.le_trans hfr (cx_fr C)) (Nat.le_trans hlo (cx_lo C)) hd (fun H1 locs1 hP1 _ hS1 => kk H1 locs1 ls ?_ hS1 hv)
  rw [← ux_set (N := N) (L := L) (N' := ux_cpN N h0 h1 sp.toNatClampNeg dp.toNatClampNeg n.toNatClampNeg) (L' := L) (cx_s C hs1) (e := .inl (gcy (xG X) 0, n1, .inl (va_cpy (N h0) (N h1) sp.toNatClampNeg dp.toNatClampNeg n.toNatClampNeg))) ?_ (fun j hj => if_neg hj) (fun j _ => rfl)]
  · exact hP1
  · show Sum.inl (gcy (xG X) 0, n1, Sum.inl (ux_cpN N h0 h1 _ _ _ h1)) = _; rw [ux_cpN, if_pos rfl]
theorem wt_copyL (q : Nat) {idx h0 h1 n0 n1 : Nat} {r0 r1 : List (Option Nat)} {sp dp n : Int32} (C : ux_C X cc own nL ret fr lo sh) (hw : ux_LA own idx) (hs0 : sh[h0]? = some (2, 3, n0, r0)) (hs1 : sh[h1]? = some (2, 3, n1, r1)) (g1 : ¬ sp < 0) (g2 : ¬ dp < 0) (g3 : ¬ n < 0) (g4 : sp.toNatClampNeg + n.toNatClampNeg ≤ n0) (g5 : dp.toNatClampNeg + n.toNatClampNeg ≤ n1) (hfr : 1 ≤ fr) (hlo : (st.map fun v => v.category).sum + (nativeFrameWords "java/lang/System" "arraycopy" 5 + 11) ≤ lo) (hd : decode cc pc = .ok (.invokestatic idx, 3)) (hq : pc + 3 = q) (kk : ux_Wt X nL q lv st N (ux_cpL L h0 h1 sp.toNatClampNeg dp.toNatClampNeg n.toNatClampNeg)) : ux_Wt X nL pc lv (.int n :: .int dp :: .ref (ux_ad X h1) :: .int sp :: .ref (ux_ad X h0) :: st) N L := by
  subst hq
  obtain ⟨w1, w2, w3, w4⟩ := hw
  refine fun H locs ls hP hS hv => va_copyl (ty := .long) (cx_x C) (cx_b C) ((cx_m C).trans hv.1.symm) (cx_o C) (cx_t C _ w1) (cx_t C _ w2) (cx_t C _ w3) (cx_t C _ w4) (cx_K C) hP (ux_D (cx_ok C) N L) hS h0 h1 3 3 (ux_at (cx_s C hs0)) (ux_at (cx_s C hs1)) rfl rfl rfl g1 g2 g3 g4 g5 (fun _ _ => rfl) (Nat.le_trans hfr (cx_fr C)) (Nat.le_trans hlo (cx_lo C)) hd (fun H1 locs1 hP1 _ hS1 => kk H1 locs1 ls ?_ hS1 hv)
  rw [← ux_set (N := N) (L := L) (N' := N) (L' := ux_cpL L h0 h1 sp.toNatClampNeg dp.toNatClampNeg n.toNatClampNeg) (cx_s C hs1) (e := .inl (gcy (xG X) 3, n1, .inr (.inl (va_cpy (L h0) (L h1) sp.toNatClampNeg dp.toNatClampNeg n.toNatClampNeg)))) ?_ (fun j _ => rfl) (fun j hj => if_neg hj)]
  · exact hP1
  · show Sum.inl (gcy (xG X) 3, n1, Sum.inr (Sum.inl (ux_cpL L h0 h1 _ _ _ h1))) = _; rw [ux_cpL, if_pos rfl]
/-! the static tables: table k lies at a fixed place -/
theorem wt_getsL (q : Nat) {idx : Nat} (C : ux_C X cc own nL ret fr lo sh) (hl : Cond.fieldLink own idx "MeterDesk$Family" "LACKING" "[J" ∈ lw_gt) (hd : decode cc pc = .ok (.getstatic idx, 3)) (hq : pc + 3 = q) (kk : ux_Wt X nL q lv (.ref ((xG X).2.2.2.2 0) :: st) N L) : ux_Wt X nL pc lv st N L := by
  subst hq
  exact fun H locs ls hP hS hv => va_gets (cx_x C) (cx_b C) (cx_Z C).1.1 hS (cx_o C) (cx_t C _ hl) (fun _ h9 => h9) hd (kk H locs ls hP hS hv)
theorem wt_getsS (q : Nat) {idx : Nat} (C : ux_C X cc own nL ret fr lo sh) (hl : Cond.fieldLink own idx "MeterDesk$Family" "SIZED" "[J" ∈ lw_gt) (hd : decode cc pc = .ok (.getstatic idx, 3)) (hq : pc + 3 = q) (kk : ux_Wt X nL q lv (.ref ((xG X).2.2.2.2 1) :: st) N L) : ux_Wt X nL pc lv st N L := by
  subst hq
  exact fun H locs ls hP hS hv => va_gets (cx_x C) (cx_b C) (cx_Z C).2.1.1 hS (cx_o C) (cx_t C _ hl) (fun _ h9 => h9) hd (kk H locs ls hP hS hv)
theorem wt_tldL (q : Nat) {i : Int32} (C : ux_C X cc own nL ret fr lo sh) (hi : ux_in i 6 = true) (hd : decode cc pc = .ok (.laload, 1)) (hq : pc + 1 = q) (kk : ux_Wt X nL q lv (.long (tb_lack.getD i.toNatClampNeg 0) :: st) N L) : ux_Wt X nL pc lv (.int i :: .ref ((xG X).2.2.2.2 0) :: st) N L := by
  subst hq
  exact fun H locs ls hP hS hv => va_tl (cx_x C) (cx_b C) (cx_Z C).1.2 hS (ux_in_p hi) rfl hd (kk H locs ls hP hS hv)
theorem wt_tldS (q : Nat) {i : Int32} (C : ux_C X cc own nL ret fr lo sh) (hi : ux_in i 7 = true) (hd : decode cc pc = .ok (.laload, 1)) (hq : pc + 1 = q) (kk : ux_Wt X nL q lv (.long (tb_sized.getD i.toNatClampNeg 0) :: st) N L) : ux_Wt X nL pc lv (.int i :: .ref ((xG X).2.2.2.2 1) :: st) N L := by
  subst hq
  exact fun H locs ls hP hS hv => va_tl (cx_x C) (cx_b C) (cx_Z C).2.1.2 hS (ux_in_p hi) rfl hd (kk H locs ls hP hS hv)
end UXC
/-! contracts: from the world N, L with the arguments As a method answers r and leaves the world N', L' -/
abbrev ux_rm (fr lo : Nat) : Room := { frames := fr, cells := 0, slots := 0, locals := lo }
def ux_Pre (G : ux_G) (As : List Value) (N : ux_N) (L : ux_L) : Array Value → State → Prop := va_Pc As (fun U => va_P G.2.1 vwCl (ux_wl G N L) U.heap ∧ va_K G.2.1 vwCl (ux_tys G) U ∧ ux_Z (ux_A G) G.2.2.2.2 U)
def ux_Qci (G : ux_G) (r : Int32) (N : ux_N) (L : ux_L) : Array Value → State → Outcome → State → Prop := va_Qi (fun (r' : Int32) (_ : Unit) => r' = r) (fun _ t => va_P G.2.1 vwCl (ux_wl G N L) t.heap) (ux_A G)
def ux_Qcv (G : ux_G) (N : ux_N) (L : ux_L) : Array Value → State → Outcome → State → Prop := va_Qv (fun (_ : Unit) => True) (fun _ t => va_P G.2.1 vwCl (ux_wl G N L) t.heap) (ux_A G)
def ux_Mi (l : Launch) (G : ux_G) (y : MethodName) (cc : ByteArray) (nL : Nat) (ret : Option FieldType) (fr lo : Nat) (As : List Value) (N : ux_N) (L : ux_L) (r : Int32) (N' : ux_N) (L' : ux_L) : Prop :=
  Met l y (.code y cc nL ret :: lw_gt) (ux_rm fr lo) (ux_Pre G As N L) (ux_Qci G r N' L') 0 0 (ux_A G)
def ux_Mv (l : Launch) (G : ux_G) (y : MethodName) (cc : ByteArray) (nL : Nat) (fr lo : Nat) (As : List Value) (N : ux_N) (L : ux_L) (N' : ux_N) (L' : ux_L) : Prop :=
  Met l y (.code y cc nL none :: lw_gt) (ux_rm fr lo) (ux_Pre G As N L) (ux_Qcv G N' L') 0 0 (ux_A G)
def ux_Qi (X : ux_X) (r : Int32) (N : ux_N) (L : ux_L) : Prop := xQ X = MQ (xb X) (ux_Qci (xG X) r N L) (xa X) (xs X) 0 0 (ux_A (xG X))
def ux_Qv (X : ux_X) (N : ux_N) (L : ux_L) : Prop := xQ X = MQ (xb X) (ux_Qcv (xG X) N L) (xa X) (xs X) 0 0 (ux_A (xG X))
theorem ux_Pre.blind {G : ux_G} {As : List Value} {N : ux_N} {L : ux_L} : FrameBlind (ux_Pre G As N L) := by
  intro a U g mk h
  obtain ⟨h0, h1, h2, h3⟩ := h
  exact ⟨h0, h1, va_K.moved (u := U) (U := U.calling g mk a) (Vm.Alike.refl U.vm) h2, ux_Z.same (u := U) rfl rfl h3⟩
theorem ux_ofi {l : Launch} {G : ux_G} {y : MethodName} {cc : ByteArray} {nL : Nat} {ret : Option FieldType} {fr lo : Nat} {As : List Value} {N N' : ux_N} {L L' : ux_L} {r : Int32} (sh : List ux_Sh) (hok : ux_ok G sh) (hy : plainName y.cls = true) (hn : (lg_sl As).length ≤ nL)
    (body : ∀ X : ux_X, xG X = G → xl X = l → ux_C X cc y.cls nL ret fr lo sh → ux_Qi X r N' L' → ux_Wt X nL 0 (lv_args 0 As) [] N L) : ux_Mi l G y cc nL ret fr lo As N L r N' L' := by
  refine Met.ofW (cc := cc) (maxL := nL) (ret := ret) hy rfl ?_
  intro p e s m args below meth c s₁ B hml hv
  obtain ⟨rfl, hP, hK, hZ⟩ := hv
  have hts := atoms_spec (ws := Cond.code y cc nL ret :: lw_gt) B.pre
  have K := body (p, l, e, (headSpec (Cond.code y cc nL ret :: lw_gt) (ux_rm fr lo)).room, s, m, As.toArray, below, meth, c, G, MQ below (ux_Qci G r N' L') As.toArray s 0 0 (ux_A G)) rfl rfl
    ⟨⟨B.exec, B.bytes⟩, B.returns, hml, findClass_of_methodNamed B.named, fun w hw => hts w (List.mem_cons_of_mem _ hw), B.notSynchronized, ⟨Nat.le_refl _, Nat.le_refl _⟩, hok, hK, hZ⟩ rfl
  rw [lg_entry_eq]
  exact K s.heap [] _ hP va_S.rf (lv_entry As hn)
theorem ux_ofv {l : Launch} {G : ux_G} {y : MethodName} {cc : ByteArray} {nL : Nat} {fr lo : Nat} {As : List Value} {N N' : ux_N} {L L' : ux_L} (sh : List ux_Sh) (hok : ux_ok G sh) (hy : plainName y.cls = true) (hn : (lg_sl As).length ≤ nL)
    (body : ∀ X : ux_X, xG X = G → xl X = l → ux_C X cc y.cls nL none fr lo sh → ux_Qv X N' L' → ux_Wt X nL 0 (lv_args 0 As) [] N L) : ux_Mv l G y cc nL fr lo As N L N' L' := by
  refine Met.ofW (cc := cc) (maxL := nL) (ret := none) hy rfl ?_
  intro p e s m args below meth c s₁ B hml hv
  obtain ⟨rfl, hP, hK, hZ⟩ := hv
  have hts := atoms_spec (ws := Cond.code y cc nL none :: lw_gt) B.pre
  have K := body (p, l, e, (headSpec (Cond.code y cc nL none :: lw_gt) (ux_rm fr lo)).room, s, m, As.toArray, below, meth, c, G, MQ below (ux_Qcv G N' L') As.toArray s 0 0 (ux_A G)) rfl rfl
    ⟨⟨B.exec, B.bytes⟩, B.returns, hml, findClass_of_methodNamed B.named, fun w hw => hts w (List.mem_cons_of_mem _ hw), B.notSynchronized, ⟨Nat.le_refl _, Nat.le_refl _⟩, hok, hK, hZ⟩ rfl
  rw [lg_entry_eq]
  exact K s.heap [] _ hP va_S.rf (lv_entry As hn)
/-- what a call of a method of an object, by entry idx of own's pool, needs of the tables -/
def ux_LV (own : String) (idx ci : Nat) (y : MethodName) (cc : ByteArray) (maxL : Nat) (ret : Option FieldType) (n : Nat) : Prop :=
  (∃ T k, vwCl[ci]? = some (y.cls, T, k)) ∧ Cond.methodLink own idx y ∈ lw_gt ∧ Cond.instanceMethod y ∈ lw_gt ∧ Cond.selects y.cls y y ∈ lw_gt ∧ Cond.initialized y.cls ∈ lw_gt ∧ Cond.code y cc maxL ret ∈ lw_gt ∧ (y.cls ≠ "java/lang/invoke/MethodHandle" ∧ y.cls ≠ "java/lang/invoke/VarHandle" ∧ (parseMethodDescriptor y.desc).map (fun d => d.parameters.length) = some n)
def ux_LS (own : String) (idx : Nat) (y : MethodName) (cc : ByteArray) (maxL : Nat) (ret : Option FieldType) (n : Nat) : Prop :=
  Cond.methodLink own idx y ∈ lw_gt ∧ Cond.static y ∈ lw_gt ∧ Cond.initialized y.cls ∈ lw_gt ∧ Cond.code y cc maxL ret ∈ lw_gt ∧ (y.cls ≠ "java/lang/invoke/MethodHandle" ∧ y.cls ≠ "java/lang/invoke/VarHandle" ∧ (parseMethodDescriptor y.desc).map (fun d => d.parameters.length) = some n)
def ux_LSN (own : String) (idx : Nat) (host : String) (y : MethodName) (cc : ByteArray) (maxL : Nat) (ret : Option FieldType) (n : Nat) : Prop :=
  (own, idx, y, host) ∈ tb_nest ∧ Cond.static y ∈ lw_gt ∧ Cond.initialized y.cls ∈ lw_gt ∧ Cond.code y cc maxL ret ∈ lw_gt ∧ (y.cls ≠ "java/lang/invoke/MethodHandle" ∧ y.cls ≠ "java/lang/invoke/VarHandle" ∧ (parseMethodDescriptor y.desc).map (fun d => d.parameters.length) = some n)
section UXK
variable {X : ux_X} {cc : ByteArray} {own : String} {nL : Nat} {ret : Option FieldType} {fr lo : Nat} {sh : List ux_Sh} {pc : Nat} {lv : List (Nat × Value)} {st rest As : List Value} {N N' : ux_N} {L L' : ux_L}
  {idx ci n h n0 maxL fr' lo' : Nat} {fks : List (Option Nat)} {y : MethodName} {cb : ByteArray} {rt : Option FieldType} {r : Int32}
theorem wt_pre {H : Heap} {locs : List Loc} (C : ux_C X cc own nL ret fr lo sh) (hP : va_P (xG X).2.1 vwCl (ux_wl (xG X) N L) H) (hS : va_S (ux_A (xG X)) (xs X).heap H locs) (U : State) (hU : U.heap = H) (hW : (xs X).WarmedH U.vm) : ux_Pre (xG X) As N L As.toArray U :=
  ⟨rfl, by rw [hU]; exact hP, va_K.moved hW.alike (cx_K C), ux_Z.call hW hS hU (cx_Z C)⟩
theorem wt_cb (C : ux_C X cc own nL ret fr lo sh) (m1 : Cond.methodLink own idx y ∈ lw_gt) (m4 : Cond.initialized y.cls ∈ lw_gt) (m5 : Cond.code y cb maxL rt ∈ lw_gt) (m6 : y.cls ≠ "java/lang/invoke/MethodHandle" ∧ y.cls ≠ "java/lang/invoke/VarHandle" ∧ (parseMethodDescriptor y.desc).map (fun d => d.parameters.length) = some n) (hR : fr' + 1 ≤ fr ∧ 8 + (maxL + 11) + lo' ≤ lo) : CallB (xR X) (xs X) (xa X) own idx y cb maxL rt (.code y cb maxL rt :: lw_gt) (ux_rm fr' lo') 0 0 n :=
  callB_of n (cx_t C) (gt_good m5) rfl rfl rfl (cx_t C _ m4) (cx_t C _ m1) m6 ⟨Nat.le_trans hR.1 (cx_fr C), Nat.le_trans hR.2 (cx_lo C)⟩
theorem wt_callVi (q : Nat) (rest : List Value) (C : ux_C X cc own nL ret fr lo sh) (kl : ux_LV own idx ci y cb maxL rt n) (hs : sh[h]? = some (0, ci, n0, fks)) (hM : ux_Mi (xl X) (xG X) y cb maxL rt fr' lo' (.ref (ux_ad X h) :: As) N L r N' L') (hn : As.length = n) (hst : st = As.reverse ++ .ref (ux_ad X h) :: rest) (hR : fr' + 1 ≤ fr ∧ 8 + (maxL + 11) + lo' ≤ lo) (hr : (rest.map fun v => v.category).sum ≤ 8) (hd : decode cc pc = .ok (.invokevirtual idx, 3)) (hq : pc + 3 = q) (kk : ux_Wt X nL q lv (.int r :: rest) N' L') : ux_Wt X nL pc lv st N L := by
  subst hq
  obtain ⟨⟨T, k, h1⟩, m1, m2, m3, m4, m5, m6⟩ := kl
  refine fun H locs ls hP hS hv => va_calli (va_runV (As := As) (rest := rest) ⟨cx_x C, cx_b C, cx_m C, cx_o C, cx_t C⟩ hM ⟨wt_cb C m1 m4 m5 m6 hR, cx_t C _ m2, cx_t C _ m3⟩ ⟨ux_Pre.blind, va_recv (cx_K C) hP h1 (ux_at (cx_s C hs)), fun U hU hW => wt_pre C hP hS U hU hW⟩ rfl hn hv.1 hst (lv_room hr) hd ⟨Nat.zero_le _, Nat.zero_le _⟩) hS (fun _ _ z => z) (fun _ z => z) (fun r' u t H1 locs1 ht hvm hw hB hz1 hk1 hS1 => ?_)
  cases hw
  exact kk H1 locs1 ls (by rw [← ht]; exact hB) hS1 hv
theorem wt_callVv (q : Nat) (rest : List Value) (C : ux_C X cc own nL ret fr lo sh) (kl : ux_LV own idx ci y cb maxL none n) (hs : sh[h]? = some (0, ci, n0, fks)) (hM : ux_Mv (xl X) (xG X) y cb maxL fr' lo' (.ref (ux_ad X h) :: As) N L N' L') (hn : As.length = n) (hst : st = As.reverse ++ .ref (ux_ad X h) :: rest) (hR : fr' + 1 ≤ fr ∧ 8 + (maxL + 11) + lo' ≤ lo) (hr : (rest.map fun v => v.category).sum ≤ 8) (hd : decode cc pc = .ok (.invokevirtual idx, 3)) (hq : pc + 3 = q) (kk : ux_Wt X nL q lv rest N' L') : ux_Wt X nL pc lv st N L := by
  subst hq
  obtain ⟨⟨T, k, h1⟩, m1, m2, m3, m4, m5, m6⟩ := kl
  refine fun H locs ls hP hS hv => va_callv (va_runV (As := As) (rest := rest) ⟨cx_x C, cx_b C, cx_m C, cx_o C, cx_t C⟩ hM ⟨wt_cb C m1 m4 m5 m6 hR, cx_t C _ m2, cx_t C _ m3⟩ ⟨ux_Pre.blind, va_recv (cx_K C) hP h1 (ux_at (cx_s C hs)), fun U hU hW => wt_pre C hP hS U hU hW⟩ rfl hn hv.1 hst (lv_room hr) hd ⟨Nat.zero_le _, Nat.zero_le _⟩) hS (fun _ _ z => z) (fun _ z => z) (fun u t H1 locs1 ht hvm hw hB hz1 hk1 hS1 => ?_)
  exact kk H1 locs1 ls (by rw [← ht]; exact hB) hS1 hv
theorem wt_callSi (q : Nat) (rest : List Value) (C : ux_C X cc own nL ret fr lo sh) (kl : ux_LS own idx y cb maxL rt n) (hM : ux_Mi (xl X) (xG X) y cb maxL rt fr' lo' As N L r N' L') (hn : As.length = n) (hst : st = As.reverse ++ rest) (hR : fr' + 1 ≤ fr ∧ 8 + (maxL + 11) + lo' ≤ lo) (hr : (rest.map fun v => v.category).sum ≤ 8) (hd : decode cc pc = .ok (.invokestatic idx, 3)) (hq : pc + 3 = q) (kk : ux_Wt X nL q lv (.int r :: rest) N' L') : ux_Wt X nL pc lv st N L := by
  subst hq
  obtain ⟨m1, m2, m4, m5, m6⟩ := kl
  refine fun H locs ls hP hS hv => va_calli (va_runS (As := As) (rest := rest) ⟨cx_x C, cx_b C, cx_m C, cx_o C, cx_t C⟩ hM ⟨wt_cb C m1 m4 m5 m6 hR, cx_t C _ m2⟩ ⟨ux_Pre.blind, fun U hU hW => wt_pre C hP hS U hU hW⟩ rfl hn hv.1 hst (lv_room hr) hd ⟨Nat.zero_le _, Nat.zero_le _⟩) hS (fun _ _ z => z) (fun _ z => z) (fun r' u t H1 locs1 ht hvm hw hB hz1 hk1 hS1 => ?_)
  cases hw
  exact kk H1 locs1 ls (by rw [← ht]; exact hB) hS1 hv
theorem wt_callSNi (q : Nat) (rest : List Value) {host : String} (C : ux_C X cc own nL ret fr lo sh) (kl : ux_LSN own idx host y cb maxL rt n) (hM : ux_Mi (xl X) (xG X) y cb maxL rt fr' lo' As N L r N' L') (hn : As.length = n) (hst : st = As.reverse ++ rest) (hR : fr' + 1 ≤ fr ∧ 8 + (maxL + 11) + lo' ≤ lo) (hr : (rest.map fun v => v.category).sum ≤ 8) (hd : decode cc pc = .ok (.invokestatic idx, 3)) (hq : pc + 3 = q) (kk : ux_Wt X nL q lv (.int r :: rest) N' L') : ux_Wt X nL pc lv st N L := by
  subst hq
  obtain ⟨m1, m2, m4, m5, m6⟩ := kl
  have hN : va_Nw (.methodLinkNest own idx y host) (xs X) := (cx_Z C).2.2.2.2.2 _ m1
  refine fun H locs ls hP hS hv => va_calli (va_runSN (As := As) (rest := rest) ⟨cx_x C, cx_b C, cx_m C, cx_o C, cx_t C⟩ hM ⟨va_cnB n (cx_t C) (gt_good m5) rfl rfl rfl hN (cx_t C _ m4) m6 ⟨Nat.le_trans hR.1 (cx_fr C), Nat.le_trans hR.2 (cx_lo C)⟩, cx_t C _ m2, trivial⟩ ⟨ux_Pre.blind, fun U hU hW => wt_pre C hP hS U hU hW⟩ rfl hn hv.1 hst (lv_room hr) hd ⟨Nat.zero_le _, Nat.zero_le _⟩) hS (fun _ _ z => z) (fun _ z => z) (fun r' u t H1 locs1 ht hvm hw hB hz1 hk1 hS1 => ?_)
  cases hw
  exact kk H1 locs1 ls (by rw [← ht]; exact hB) hS1 hv
theorem wt_iret {v : Int32} (C : ux_C X cc own nL (some .int) fr lo sh) (hq : ux_Qi X v N L) (hd : decode cc pc = .ok (.ireturn, 1)) : ux_Wt X nL pc lv [.int v] N L := by
  intro H locs ls hP hS hv
  show W _ _ _ _ _ _ _ _ _ _ _ _ _ _ (xQ X) _
  rw [hq]
  exact W.iret (cx_x C) (cx_b C) (cx_r C) (fun t ht hW => ⟨⟨v, (), rfl, rfl, by show va_P _ _ _ _; rw [ht]; exact hP⟩, hS.F ht⟩) hS.2.2 hd (cx_l C)
theorem wt_zret {v : Int32} {ty : FieldType} (C : ux_C X cc own nL (some ty) fr lo sh) (hn : narrow ty (.int v) = .int v) (hq : ux_Qi X v N L) (hd : decode cc pc = .ok (.ireturn, 1)) : ux_Wt X nL pc lv [.int v] N L := by
  intro H locs ls hP hS hv
  show W _ _ _ _ _ _ _ _ _ _ _ _ _ _ (xQ X) _
  rw [hq]
  exact W.zret (cx_x C) (cx_b C) (cx_r C) hn (fun t ht hW => ⟨⟨v, (), rfl, rfl, by show va_P _ _ _ _; rw [ht]; exact hP⟩, hS.F ht⟩) hS.2.2 hd (cx_l C)
theorem wt_vret (C : ux_C X cc own nL none fr lo sh) (hq : ux_Qv X N L) (hd : decode cc pc = .ok (.return_, 1)) : ux_Wt X nL pc lv [] N L := by
  intro H locs ls hP hS hv
  show W _ _ _ _ _ _ _ _ _ _ _ _ _ _ (xQ X) _
  rw [hq]
  exact W.vret (cx_x C) (cx_b C) (cx_r C) (fun t ht hW => ⟨⟨(), rfl, trivial, by show va_P _ _ _ _; rw [ht]; exact hP⟩, hS.F ht⟩) hS.2.2 hd (cx_l C)
end UXK
end
