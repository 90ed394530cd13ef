section
-- ===== PART A: goes FIRST, ahead of the names: the tables' words, and 'selects' of the private methods out of them =====
/-- a private method of a class that the tables say can be made, by its rows of tables_1 -/
def lw_okq (q : MethodName × Nat) : Prop := (q.1.cls ≠ "java/lang/invoke/MethodHandle" ∧ q.1.cls ≠ "java/lang/invoke/VarHandle") ∧ Cond.instantiable q.1.cls q.2 ∈ tables_1 ∧ Cond.privateMethod q.1 ∈ tables_1 ∧ Cond.instanceMethod q.1 ∈ tables_1
theorem lw_p0 : lw_okq (⟨"MeterDesk$Sight", "openLines", "()I"⟩, 19) := ⟨⟨by decide +kernel, by decide +kernel⟩, List.mem_of_getElem? (i := 182) (by decide +kernel), List.mem_of_getElem? (i := 403) (by decide +kernel), List.mem_of_getElem? (i := 404) (by decide +kernel)⟩
theorem lw_p1 : lw_okq (⟨"MeterDesk$Sight", "reachOf", "(II)I"⟩, 19) := ⟨⟨by decide +kernel, by decide +kernel⟩, List.mem_of_getElem? (i := 182) (by decide +kernel), List.mem_of_getElem? (i := 407) (by decide +kernel), List.mem_of_getElem? (i := 408) (by decide +kernel)⟩
theorem lw_p2 : lw_okq (⟨"MeterDesk$Plan", "linesBeside", "(I)I"⟩, 11) := ⟨⟨by decide +kernel, by decide +kernel⟩, List.mem_of_getElem? (i := 31) (by decide +kernel), List.mem_of_getElem? (i := 423) (by decide +kernel), List.mem_of_getElem? (i := 424) (by decide +kernel)⟩
theorem lw_p3 : lw_okq (⟨"MeterDesk$Plan", "linesAt", "(II)I"⟩, 11) := ⟨⟨by decide +kernel, by decide +kernel⟩, List.mem_of_getElem? (i := 31) (by decide +kernel), List.mem_of_getElem? (i := 427) (by decide +kernel), List.mem_of_getElem? (i := 428) (by decide +kernel)⟩
theorem lw_p4 : lw_okq (⟨"MeterDesk$Plan", "linesNear", "(II)I"⟩, 11) := ⟨⟨by decide +kernel, by decide +kernel⟩, List.mem_of_getElem? (i := 31) (by decide +kernel), List.mem_of_getElem? (i := 431) (by decide +kernel), List.mem_of_getElem? (i := 432) (by decide +kernel)⟩
theorem lw_p5 : lw_okq (⟨"MeterDesk$Family", "joinLine", "(ILMeterDesk$Family;)V"⟩, 2) := ⟨⟨by decide +kernel, by decide +kernel⟩, List.mem_of_getElem? (i := 188) (by decide +kernel), List.mem_of_getElem? (i := 443) (by decide +kernel), List.mem_of_getElem? (i := 444) (by decide +kernel)⟩
theorem lw_p6 : lw_okq (⟨"MeterDesk$Sight", "joinAll", "(I)I"⟩, 19) := ⟨⟨by decide +kernel, by decide +kernel⟩, List.mem_of_getElem? (i := 182) (by decide +kernel), List.mem_of_getElem? (i := 466) (by decide +kernel), List.mem_of_getElem? (i := 467) (by decide +kernel)⟩
theorem lw_p7 : lw_okq (⟨"MeterDesk$Reader", "readClause", "()Z"⟩, 7) := ⟨⟨by decide +kernel, by decide +kernel⟩, List.mem_of_getElem? (i := 94) (by decide +kernel), List.mem_of_getElem? (i := 527) (by decide +kernel), List.mem_of_getElem? (i := 528) (by decide +kernel)⟩
theorem lw_p8 : lw_okq (⟨"MeterDesk$Reader", "advance", "()V"⟩, 7) := ⟨⟨by decide +kernel, by decide +kernel⟩, List.mem_of_getElem? (i := 94) (by decide +kernel), List.mem_of_getElem? (i := 531) (by decide +kernel), List.mem_of_getElem? (i := 532) (by decide +kernel)⟩
theorem lw_p9 : lw_okq (⟨"MeterDesk$Reader", "isWord", "(Ljava/lang/String;)Z"⟩, 7) := ⟨⟨by decide +kernel, by decide +kernel⟩, List.mem_of_getElem? (i := 94) (by decide +kernel), List.mem_of_getElem? (i := 539) (by decide +kernel), List.mem_of_getElem? (i := 540) (by decide +kernel)⟩
theorem lw_p10 : lw_okq (⟨"MeterDesk$Reader", "readGrid", "()Z"⟩, 7) := ⟨⟨by decide +kernel, by decide +kernel⟩, List.mem_of_getElem? (i := 94) (by decide +kernel), List.mem_of_getElem? (i := 591) (by decide +kernel), List.mem_of_getElem? (i := 592) (by decide +kernel)⟩
theorem lw_p11 : lw_okq (⟨"MeterDesk$Reader", "readNumber", "(II)I"⟩, 7) := ⟨⟨by decide +kernel, by decide +kernel⟩, List.mem_of_getElem? (i := 94) (by decide +kernel), List.mem_of_getElem? (i := 595) (by decide +kernel), List.mem_of_getElem? (i := 596) (by decide +kernel)⟩
theorem lw_p12 : lw_okq (⟨"MeterDesk$Reader", "readLine", "()Z"⟩, 7) := ⟨⟨by decide +kernel, by decide +kernel⟩, List.mem_of_getElem? (i := 94) (by decide +kernel), List.mem_of_getElem? (i := 604) (by decide +kernel), List.mem_of_getElem? (i := 605) (by decide +kernel)⟩
theorem lw_p13 : lw_okq (⟨"MeterDesk$Reader", "readOffer", "()Z"⟩, 7) := ⟨⟨by decide +kernel, by decide +kernel⟩, List.mem_of_getElem? (i := 94) (by decide +kernel), List.mem_of_getElem? (i := 619) (by decide +kernel), List.mem_of_getElem? (i := 620) (by decide +kernel)⟩
theorem lw_p14 : lw_okq (⟨"MeterDesk$Reader", "readSortName", "()I"⟩, 7) := ⟨⟨by decide +kernel, by decide +kernel⟩, List.mem_of_getElem? (i := 94) (by decide +kernel), List.mem_of_getElem? (i := 628) (by decide +kernel), List.mem_of_getElem? (i := 629) (by decide +kernel)⟩
theorem lw_p15 : lw_okq (⟨"MeterDesk$Reader", "readMeter", "(I)Z"⟩, 7) := ⟨⟨by decide +kernel, by decide +kernel⟩, List.mem_of_getElem? (i := 94) (by decide +kernel), List.mem_of_getElem? (i := 637) (by decide +kernel), List.mem_of_getElem? (i := 638) (by decide +kernel)⟩
def lw_privs_1 : List (MethodName × Nat) := [(⟨"MeterDesk$Sight", "openLines", "()I"⟩, 19), (⟨"MeterDesk$Sight", "reachOf", "(II)I"⟩, 19), (⟨"MeterDesk$Plan", "linesBeside", "(I)I"⟩, 11), (⟨"MeterDesk$Plan", "linesAt", "(II)I"⟩, 11), (⟨"MeterDesk$Plan", "linesNear", "(II)I"⟩, 11), (⟨"MeterDesk$Family", "joinLine", "(ILMeterDesk$Family;)V"⟩, 2), (⟨"MeterDesk$Sight", "joinAll", "(I)I"⟩, 19), (⟨"MeterDesk$Reader", "readClause", "()Z"⟩, 7), (⟨"MeterDesk$Reader", "advance", "()V"⟩, 7), (⟨"MeterDesk$Reader", "isWord", "(Ljava/lang/String;)Z"⟩, 7), (⟨"MeterDesk$Reader", "readGrid", "()Z"⟩, 7), (⟨"MeterDesk$Reader", "readNumber", "(II)I"⟩, 7), (⟨"MeterDesk$Reader", "readLine", "()Z"⟩, 7), (⟨"MeterDesk$Reader", "readOffer", "()Z"⟩, 7), (⟨"MeterDesk$Reader", "readSortName", "()I"⟩, 7), (⟨"MeterDesk$Reader", "readMeter", "(I)Z"⟩, 7)]
theorem lw_r1 : ∀ q ∈ lw_privs_1, lw_okq q := List.forall_mem_cons.mpr ⟨lw_p0, List.forall_mem_cons.mpr ⟨lw_p1, List.forall_mem_cons.mpr ⟨lw_p2, List.forall_mem_cons.mpr ⟨lw_p3, List.forall_mem_cons.mpr ⟨lw_p4, List.forall_mem_cons.mpr ⟨lw_p5, List.forall_mem_cons.mpr ⟨lw_p6, List.forall_mem_cons.mpr ⟨lw_p7, List.forall_mem_cons.mpr ⟨lw_p8, List.forall_mem_cons.mpr ⟨lw_p9, List.forall_mem_cons.mpr ⟨lw_p10, List.forall_mem_cons.mpr ⟨lw_p11, List.forall_mem_cons.mpr ⟨lw_p12, List.forall_mem_cons.mpr ⟨lw_p13, List.forall_mem_cons.mpr ⟨lw_p14, List.forall_mem_cons.mpr ⟨lw_p15, fun _ h => absurd h List.not_mem_nil⟩⟩⟩⟩⟩⟩⟩⟩⟩⟩⟩⟩⟩⟩⟩⟩
theorem lw_p16 : lw_okq (⟨"MeterDesk", "isLine", "(I)Z"⟩, 9) := ⟨⟨by decide +kernel, by decide +kernel⟩, List.mem_of_getElem? (i := 23) (by decide +kernel), List.mem_of_getElem? (i := 664) (by decide +kernel), List.mem_of_getElem? (i := 665) (by decide +kernel)⟩
theorem lw_p17 : lw_okq (⟨"MeterDesk$Sight", "learnServers", "()V"⟩, 19) := ⟨⟨by decide +kernel, by decide +kernel⟩, List.mem_of_getElem? (i := 182) (by decide +kernel), List.mem_of_getElem? (i := 672) (by decide +kernel), List.mem_of_getElem? (i := 673) (by decide +kernel)⟩
theorem lw_p18 : lw_okq (⟨"MeterDesk$Servers", "learnAround", "(I[II)V"⟩, 4) := ⟨⟨by decide +kernel, by decide +kernel⟩, List.mem_of_getElem? (i := 230) (by decide +kernel), List.mem_of_getElem? (i := 684) (by decide +kernel), List.mem_of_getElem? (i := 685) (by decide +kernel)⟩
theorem lw_p19 : lw_okq (⟨"MeterDesk$Servers", "leastMeter", "(II)I"⟩, 4) := ⟨⟨by decide +kernel, by decide +kernel⟩, List.mem_of_getElem? (i := 230) (by decide +kernel), List.mem_of_getElem? (i := 692) (by decide +kernel), List.mem_of_getElem? (i := 693) (by decide +kernel)⟩
theorem lw_p20 : lw_okq (⟨"MeterDesk$Servers", "canAllHaveOne", "(II)Z"⟩, 4) := ⟨⟨by decide +kernel, by decide +kernel⟩, List.mem_of_getElem? (i := 230) (by decide +kernel), List.mem_of_getElem? (i := 696) (by decide +kernel), List.mem_of_getElem? (i := 697) (by decide +kernel)⟩
theorem lw_p21 : lw_okq (⟨"MeterDesk", "isMeter", "(I)Z"⟩, 9) := ⟨⟨by decide +kernel, by decide +kernel⟩, List.mem_of_getElem? (i := 23) (by decide +kernel), List.mem_of_getElem? (i := 705) (by decide +kernel), List.mem_of_getElem? (i := 706) (by decide +kernel)⟩
theorem lw_p22 : lw_okq (⟨"MeterDesk", "refusePlace", "(II)I"⟩, 9) := ⟨⟨by decide +kernel, by decide +kernel⟩, List.mem_of_getElem? (i := 23) (by decide +kernel), List.mem_of_getElem? (i := 733) (by decide +kernel), List.mem_of_getElem? (i := 734) (by decide +kernel)⟩
theorem lw_p23 : lw_okq (⟨"MeterDesk$Sight", "findWeak", "()I"⟩, 19) := ⟨⟨by decide +kernel, by decide +kernel⟩, List.mem_of_getElem? (i := 182) (by decide +kernel), List.mem_of_getElem? (i := 795) (by decide +kernel), List.mem_of_getElem? (i := 796) (by decide +kernel)⟩
theorem lw_p24 : lw_okq (⟨"MeterDesk$Sight", "findDeal", "()I"⟩, 19) := ⟨⟨by decide +kernel, by decide +kernel⟩, List.mem_of_getElem? (i := 182) (by decide +kernel), List.mem_of_getElem? (i := 816) (by decide +kernel), List.mem_of_getElem? (i := 817) (by decide +kernel)⟩
theorem lw_p25 : lw_okq (⟨"MeterDesk$Sight", "isBetterDeal", "(II)Z"⟩, 19) := ⟨⟨by decide +kernel, by decide +kernel⟩, List.mem_of_getElem? (i := 182) (by decide +kernel), List.mem_of_getElem? (i := 820) (by decide +kernel), List.mem_of_getElem? (i := 821) (by decide +kernel)⟩
theorem lw_p26 : lw_okq (⟨"MeterDesk", "openLines", "()I"⟩, 9) := ⟨⟨by decide +kernel, by decide +kernel⟩, List.mem_of_getElem? (i := 23) (by decide +kernel), List.mem_of_getElem? (i := 857) (by decide +kernel), List.mem_of_getElem? (i := 858) (by decide +kernel)⟩
theorem lw_p27 : lw_okq (⟨"MeterDesk$Sightings", "fits", "(ILMeterDesk$Plan;I)Z"⟩, 3) := ⟨⟨by decide +kernel, by decide +kernel⟩, List.mem_of_getElem? (i := 314) (by decide +kernel), List.mem_of_getElem? (i := 866) (by decide +kernel), List.mem_of_getElem? (i := 867) (by decide +kernel)⟩
theorem lw_p28 : lw_okq (⟨"MeterDesk", "thingsOfAllTrays", "()I"⟩, 9) := ⟨⟨by decide +kernel, by decide +kernel⟩, List.mem_of_getElem? (i := 23) (by decide +kernel), List.mem_of_getElem? (i := 952) (by decide +kernel), List.mem_of_getElem? (i := 953) (by decide +kernel)⟩
theorem lw_p29 : lw_okq (⟨"MeterDeskModel", "anew", "(I)V"⟩, 31) := ⟨⟨by decide +kernel, by decide +kernel⟩, List.mem_of_getElem? (i := 956) (by decide +kernel), List.mem_of_getElem? (i := 968) (by decide +kernel), List.mem_of_getElem? (i := 969) (by decide +kernel)⟩
theorem lw_p30 : lw_okq (⟨"MeterDeskModel", "layForests", "()V"⟩, 31) := ⟨⟨by decide +kernel, by decide +kernel⟩, List.mem_of_getElem? (i := 956) (by decide +kernel), List.mem_of_getElem? (i := 972) (by decide +kernel), List.mem_of_getElem? (i := 973) (by decide +kernel)⟩
theorem lw_p31 : lw_okq (⟨"MeterDeskModel", "layParts", "(I)I"⟩, 31) := ⟨⟨by decide +kernel, by decide +kernel⟩, List.mem_of_getElem? (i := 956) (by decide +kernel), List.mem_of_getElem? (i := 979) (by decide +kernel), List.mem_of_getElem? (i := 980) (by decide +kernel)⟩
def lw_privs_2 : List (MethodName × Nat) := [(⟨"MeterDesk", "isLine", "(I)Z"⟩, 9), (⟨"MeterDesk$Sight", "learnServers", "()V"⟩, 19), (⟨"MeterDesk$Servers", "learnAround", "(I[II)V"⟩, 4), (⟨"MeterDesk$Servers", "leastMeter", "(II)I"⟩, 4), (⟨"MeterDesk$Servers", "canAllHaveOne", "(II)Z"⟩, 4), (⟨"MeterDesk", "isMeter", "(I)Z"⟩, 9), (⟨"MeterDesk", "refusePlace", "(II)I"⟩, 9), (⟨"MeterDesk$Sight", "findWeak", "()I"⟩, 19), (⟨"MeterDesk$Sight", "findDeal", "()I"⟩, 19), (⟨"MeterDesk$Sight", "isBetterDeal", "(II)Z"⟩, 19), (⟨"MeterDesk", "openLines", "()I"⟩, 9), (⟨"MeterDesk$Sightings", "fits", "(ILMeterDesk$Plan;I)Z"⟩, 3), (⟨"MeterDesk", "thingsOfAllTrays", "()I"⟩, 9), (⟨"MeterDeskModel", "anew", "(I)V"⟩, 31), (⟨"MeterDeskModel", "layForests", "()V"⟩, 31), (⟨"MeterDeskModel", "layParts", "(I)I"⟩, 31)]
theorem lw_r2 : ∀ q ∈ lw_privs_2, lw_okq q := List.forall_mem_cons.mpr ⟨lw_p16, List.forall_mem_cons.mpr ⟨lw_p17, List.forall_mem_cons.mpr ⟨lw_p18, List.forall_mem_cons.mpr ⟨lw_p19, List.forall_mem_cons.mpr ⟨lw_p20, List.forall_mem_cons.mpr ⟨lw_p21, List.forall_mem_cons.mpr ⟨lw_p22, List.forall_mem_cons.mpr ⟨lw_p23, List.forall_mem_cons.mpr ⟨lw_p24, List.forall_mem_cons.mpr ⟨lw_p25, List.forall_mem_cons.mpr ⟨lw_p26, List.forall_mem_cons.mpr ⟨lw_p27, List.forall_mem_cons.mpr ⟨lw_p28, List.forall_mem_cons.mpr ⟨lw_p29, List.forall_mem_cons.mpr ⟨lw_p30, List.forall_mem_cons.mpr ⟨lw_p31, fun _ h => absurd h List.not_mem_nil⟩⟩⟩⟩⟩⟩⟩⟩⟩⟩⟩⟩⟩⟩⟩⟩
theorem lw_p32 : lw_okq (⟨"MeterDeskModel", "reads", "(Z)Z"⟩, 31) := ⟨⟨by decide +kernel, by decide +kernel⟩, List.mem_of_getElem? (i := 956) (by decide +kernel), List.mem_of_getElem? (i := 1096) (by decide +kernel), List.mem_of_getElem? (i := 1097) (by decide +kernel)⟩
theorem lw_p33 : lw_okq (⟨"MeterDeskModel", "nextToken", "()V"⟩, 31) := ⟨⟨by decide +kernel, by decide +kernel⟩, List.mem_of_getElem? (i := 956) (by decide +kernel), List.mem_of_getElem? (i := 1100) (by decide +kernel), List.mem_of_getElem? (i := 1101) (by decide +kernel)⟩
theorem lw_p34 : lw_okq (⟨"MeterDeskModel", "readsClause", "()Z"⟩, 31) := ⟨⟨by decide +kernel, by decide +kernel⟩, List.mem_of_getElem? (i := 956) (by decide +kernel), List.mem_of_getElem? (i := 1114) (by decide +kernel), List.mem_of_getElem? (i := 1115) (by decide +kernel)⟩
theorem lw_p35 : lw_okq (⟨"MeterDeskModel", "wordHere", "()I"⟩, 31) := ⟨⟨by decide +kernel, by decide +kernel⟩, List.mem_of_getElem? (i := 956) (by decide +kernel), List.mem_of_getElem? (i := 1118) (by decide +kernel), List.mem_of_getElem? (i := 1119) (by decide +kernel)⟩
theorem lw_p36 : lw_okq (⟨"MeterDeskModel", "readsRest", "(I)Z"⟩, 31) := ⟨⟨by decide +kernel, by decide +kernel⟩, List.mem_of_getElem? (i := 956) (by decide +kernel), List.mem_of_getElem? (i := 1122) (by decide +kernel), List.mem_of_getElem? (i := 1123) (by decide +kernel)⟩
theorem lw_p37 : lw_okq (⟨"MeterDeskModel", "number", "(III)Z"⟩, 31) := ⟨⟨by decide +kernel, by decide +kernel⟩, List.mem_of_getElem? (i := 956) (by decide +kernel), List.mem_of_getElem? (i := 1126) (by decide +kernel), List.mem_of_getElem? (i := 1127) (by decide +kernel)⟩
theorem lw_p38 : lw_okq (⟨"MeterDeskModel", "does", "(I)V"⟩, 31) := ⟨⟨by decide +kernel, by decide +kernel⟩, List.mem_of_getElem? (i := 956) (by decide +kernel), List.mem_of_getElem? (i := 1133) (by decide +kernel), List.mem_of_getElem? (i := 1134) (by decide +kernel)⟩
theorem lw_p39 : lw_okq (⟨"MeterDeskModel", "addMeter", "(II)V"⟩, 31) := ⟨⟨by decide +kernel, by decide +kernel⟩, List.mem_of_getElem? (i := 956) (by decide +kernel), List.mem_of_getElem? (i := 1137) (by decide +kernel), List.mem_of_getElem? (i := 1138) (by decide +kernel)⟩
theorem lw_p40 : lw_okq (⟨"MeterDeskModel", "copyRow", "(II)V"⟩, 31) := ⟨⟨by decide +kernel, by decide +kernel⟩, List.mem_of_getElem? (i := 956) (by decide +kernel), List.mem_of_getElem? (i := 1145) (by decide +kernel), List.mem_of_getElem? (i := 1146) (by decide +kernel)⟩
theorem lw_p41 : lw_okq (⟨"MeterDeskModel", "isLine", "(I)Z"⟩, 31) := ⟨⟨by decide +kernel, by decide +kernel⟩, List.mem_of_getElem? (i := 956) (by decide +kernel), List.mem_of_getElem? (i := 1153) (by decide +kernel), List.mem_of_getElem? (i := 1154) (by decide +kernel)⟩
theorem lw_p42 : lw_okq (⟨"MeterDeskModel", "tree", "()I"⟩, 31) := ⟨⟨by decide +kernel, by decide +kernel⟩, List.mem_of_getElem? (i := 956) (by decide +kernel), List.mem_of_getElem? (i := 1157) (by decide +kernel), List.mem_of_getElem? (i := 1158) (by decide +kernel)⟩
theorem lw_p43 : lw_okq (⟨"MeterDeskModel", "rank", "()I"⟩, 31) := ⟨⟨by decide +kernel, by decide +kernel⟩, List.mem_of_getElem? (i := 956) (by decide +kernel), List.mem_of_getElem? (i := 1161) (by decide +kernel), List.mem_of_getElem? (i := 1162) (by decide +kernel)⟩
theorem lw_p44 : lw_okq (⟨"MeterDeskModel", "layTried", "(I)I"⟩, 31) := ⟨⟨by decide +kernel, by decide +kernel⟩, List.mem_of_getElem? (i := 956) (by decide +kernel), List.mem_of_getElem? (i := 1165) (by decide +kernel), List.mem_of_getElem? (i := 1166) (by decide +kernel)⟩
theorem lw_p45 : lw_okq (⟨"MeterDeskModel", "layNone", "(I)V"⟩, 31) := ⟨⟨by decide +kernel, by decide +kernel⟩, List.mem_of_getElem? (i := 956) (by decide +kernel), List.mem_of_getElem? (i := 1169) (by decide +kernel), List.mem_of_getElem? (i := 1170) (by decide +kernel)⟩
theorem lw_p46 : lw_okq (⟨"MeterDeskModel", "mayOf", "(II)I"⟩, 31) := ⟨⟨by decide +kernel, by decide +kernel⟩, List.mem_of_getElem? (i := 956) (by decide +kernel), List.mem_of_getElem? (i := 1173) (by decide +kernel), List.mem_of_getElem? (i := 1174) (by decide +kernel)⟩
theorem lw_p47 : lw_okq (⟨"MeterDeskModel", "mayServe", "(III)I"⟩, 31) := ⟨⟨by decide +kernel, by decide +kernel⟩, List.mem_of_getElem? (i := 956) (by decide +kernel), List.mem_of_getElem? (i := 1177) (by decide +kernel), List.mem_of_getElem? (i := 1178) (by decide +kernel)⟩
def lw_privs_3 : List (MethodName × Nat) := [(⟨"MeterDeskModel", "reads", "(Z)Z"⟩, 31), (⟨"MeterDeskModel", "nextToken", "()V"⟩, 31), (⟨"MeterDeskModel", "readsClause", "()Z"⟩, 31), (⟨"MeterDeskModel", "wordHere", "()I"⟩, 31), (⟨"MeterDeskModel", "readsRest", "(I)Z"⟩, 31), (⟨"MeterDeskModel", "number", "(III)Z"⟩, 31), (⟨"MeterDeskModel", "does", "(I)V"⟩, 31), (⟨"MeterDeskModel", "addMeter", "(II)V"⟩, 31), (⟨"MeterDeskModel", "copyRow", "(II)V"⟩, 31), (⟨"MeterDeskModel", "isLine", "(I)Z"⟩, 31), (⟨"MeterDeskModel", "tree", "()I"⟩, 31), (⟨"MeterDeskModel", "rank", "()I"⟩, 31), (⟨"MeterDeskModel", "layTried", "(I)I"⟩, 31), (⟨"MeterDeskModel", "layNone", "(I)V"⟩, 31), (⟨"MeterDeskModel", "mayOf", "(II)I"⟩, 31), (⟨"MeterDeskModel", "mayServe", "(III)I"⟩, 31)]
theorem lw_r3 : ∀ q ∈ lw_privs_3, lw_okq q := List.forall_mem_cons.mpr ⟨lw_p32, List.forall_mem_cons.mpr ⟨lw_p33, List.forall_mem_cons.mpr ⟨lw_p34, List.forall_mem_cons.mpr ⟨lw_p35, List.forall_mem_cons.mpr ⟨lw_p36, List.forall_mem_cons.mpr ⟨lw_p37, List.forall_mem_cons.mpr ⟨lw_p38, List.forall_mem_cons.mpr ⟨lw_p39, List.forall_mem_cons.mpr ⟨lw_p40, List.forall_mem_cons.mpr ⟨lw_p41, List.forall_mem_cons.mpr ⟨lw_p42, List.forall_mem_cons.mpr ⟨lw_p43, List.forall_mem_cons.mpr ⟨lw_p44, List.forall_mem_cons.mpr ⟨lw_p45, List.forall_mem_cons.mpr ⟨lw_p46, List.forall_mem_cons.mpr ⟨lw_p47, fun _ h => absurd h List.not_mem_nil⟩⟩⟩⟩⟩⟩⟩⟩⟩⟩⟩⟩⟩⟩⟩⟩
theorem lw_p48 : lw_okq (⟨"MeterDeskModel", "between", "(II)I"⟩, 31) := ⟨⟨by decide +kernel, by decide +kernel⟩, List.mem_of_getElem? (i := 956) (by decide +kernel), List.mem_of_getElem? (i := 1181) (by decide +kernel), List.mem_of_getElem? (i := 1182) (by decide +kernel)⟩
theorem lw_p49 : lw_okq (⟨"MeterDeskModel", "linesAt", "(II)I"⟩, 31) := ⟨⟨by decide +kernel, by decide +kernel⟩, List.mem_of_getElem? (i := 956) (by decide +kernel), List.mem_of_getElem? (i := 1185) (by decide +kernel), List.mem_of_getElem? (i := 1186) (by decide +kernel)⟩
theorem lw_p50 : lw_okq (⟨"MeterDeskModel", "isEnd", "(II)Z"⟩, 31) := ⟨⟨by decide +kernel, by decide +kernel⟩, List.mem_of_getElem? (i := 956) (by decide +kernel), List.mem_of_getElem? (i := 1189) (by decide +kernel), List.mem_of_getElem? (i := 1190) (by decide +kernel)⟩
theorem lw_p51 : lw_okq (⟨"MeterDeskModel", "wide", "(II)I"⟩, 31) := ⟨⟨by decide +kernel, by decide +kernel⟩, List.mem_of_getElem? (i := 956) (by decide +kernel), List.mem_of_getElem? (i := 1193) (by decide +kernel), List.mem_of_getElem? (i := 1194) (by decide +kernel)⟩
theorem lw_p52 : lw_okq (⟨"MeterDeskModel", "layMore", "(III)V"⟩, 31) := ⟨⟨by decide +kernel, by decide +kernel⟩, List.mem_of_getElem? (i := 956) (by decide +kernel), List.mem_of_getElem? (i := 1197) (by decide +kernel), List.mem_of_getElem? (i := 1198) (by decide +kernel)⟩
theorem lw_p53 : lw_okq (⟨"MeterDeskModel", "rankAt", "(I)I"⟩, 31) := ⟨⟨by decide +kernel, by decide +kernel⟩, List.mem_of_getElem? (i := 956) (by decide +kernel), List.mem_of_getElem? (i := 1201) (by decide +kernel), List.mem_of_getElem? (i := 1202) (by decide +kernel)⟩
theorem lw_p54 : lw_okq (⟨"MeterDeskModel", "layServes", "()V"⟩, 31) := ⟨⟨by decide +kernel, by decide +kernel⟩, List.mem_of_getElem? (i := 956) (by decide +kernel), List.mem_of_getElem? (i := 1205) (by decide +kernel), List.mem_of_getElem? (i := 1206) (by decide +kernel)⟩
theorem lw_p55 : lw_okq (⟨"MeterDeskModel", "layAll", "()V"⟩, 31) := ⟨⟨by decide +kernel, by decide +kernel⟩, List.mem_of_getElem? (i := 956) (by decide +kernel), List.mem_of_getElem? (i := 1209) (by decide +kernel), List.mem_of_getElem? (i := 1210) (by decide +kernel)⟩
theorem lw_p56 : lw_okq (⟨"MeterDeskModel", "canDo", "(IIII)Z"⟩, 31) := ⟨⟨by decide +kernel, by decide +kernel⟩, List.mem_of_getElem? (i := 956) (by decide +kernel), List.mem_of_getElem? (i := 1213) (by decide +kernel), List.mem_of_getElem? (i := 1214) (by decide +kernel)⟩
theorem lw_p57 : lw_okq (⟨"MeterDeskModel", "isMeter", "(I)Z"⟩, 31) := ⟨⟨by decide +kernel, by decide +kernel⟩, List.mem_of_getElem? (i := 956) (by decide +kernel), List.mem_of_getElem? (i := 1221) (by decide +kernel), List.mem_of_getElem? (i := 1222) (by decide +kernel)⟩
theorem lw_p58 : lw_okq (⟨"MeterDeskModel", "lineOf", "(I)I"⟩, 31) := ⟨⟨by decide +kernel, by decide +kernel⟩, List.mem_of_getElem? (i := 956) (by decide +kernel), List.mem_of_getElem? (i := 1225) (by decide +kernel), List.mem_of_getElem? (i := 1226) (by decide +kernel)⟩
theorem lw_p59 : lw_okq (⟨"MeterDeskModel", "isCritical", "(I)I"⟩, 31) := ⟨⟨by decide +kernel, by decide +kernel⟩, List.mem_of_getElem? (i := 956) (by decide +kernel), List.mem_of_getElem? (i := 1229) (by decide +kernel), List.mem_of_getElem? (i := 1230) (by decide +kernel)⟩
theorem lw_p60 : lw_okq (⟨"MeterDeskModel", "bringsOf", "(II)I"⟩, 31) := ⟨⟨by decide +kernel, by decide +kernel⟩, List.mem_of_getElem? (i := 956) (by decide +kernel), List.mem_of_getElem? (i := 1238) (by decide +kernel), List.mem_of_getElem? (i := 1239) (by decide +kernel)⟩
theorem lw_p61 : lw_okq (⟨"MeterDeskModel", "isThere", "(II)Z"⟩, 31) := ⟨⟨by decide +kernel, by decide +kernel⟩, List.mem_of_getElem? (i := 956) (by decide +kernel), List.mem_of_getElem? (i := 1247) (by decide +kernel), List.mem_of_getElem? (i := 1248) (by decide +kernel)⟩
theorem lw_p62 : lw_okq (⟨"MeterDeskModel", "isNode", "(I)Z"⟩, 31) := ⟨⟨by decide +kernel, by decide +kernel⟩, List.mem_of_getElem? (i := 956) (by decide +kernel), List.mem_of_getElem? (i := 1251) (by decide +kernel), List.mem_of_getElem? (i := 1252) (by decide +kernel)⟩
theorem lw_p63 : lw_okq (⟨"MeterDeskModel", "keepPast", "()V"⟩, 31) := ⟨⟨by decide +kernel, by decide +kernel⟩, List.mem_of_getElem? (i := 956) (by decide +kernel), List.mem_of_getElem? (i := 1255) (by decide +kernel), List.mem_of_getElem? (i := 1256) (by decide +kernel)⟩
def lw_privs_4 : List (MethodName × Nat) := [(⟨"MeterDeskModel", "between", "(II)I"⟩, 31), (⟨"MeterDeskModel", "linesAt", "(II)I"⟩, 31), (⟨"MeterDeskModel", "isEnd", "(II)Z"⟩, 31), (⟨"MeterDeskModel", "wide", "(II)I"⟩, 31), (⟨"MeterDeskModel", "layMore", "(III)V"⟩, 31), (⟨"MeterDeskModel", "rankAt", "(I)I"⟩, 31), (⟨"MeterDeskModel", "layServes", "()V"⟩, 31), (⟨"MeterDeskModel", "layAll", "()V"⟩, 31), (⟨"MeterDeskModel", "canDo", "(IIII)Z"⟩, 31), (⟨"MeterDeskModel", "isMeter", "(I)Z"⟩, 31), (⟨"MeterDeskModel", "lineOf", "(I)I"⟩, 31), (⟨"MeterDeskModel", "isCritical", "(I)I"⟩, 31), (⟨"MeterDeskModel", "bringsOf", "(II)I"⟩, 31), (⟨"MeterDeskModel", "isThere", "(II)Z"⟩, 31), (⟨"MeterDeskModel", "isNode", "(I)Z"⟩, 31), (⟨"MeterDeskModel", "keepPast", "()V"⟩, 31)]
theorem lw_r4 : ∀ q ∈ lw_privs_4, lw_okq q := List.forall_mem_cons.mpr ⟨lw_p48, List.forall_mem_cons.mpr ⟨lw_p49, List.forall_mem_cons.mpr ⟨lw_p50, List.forall_mem_cons.mpr ⟨lw_p51, List.forall_mem_cons.mpr ⟨lw_p52, List.forall_mem_cons.mpr ⟨lw_p53, List.forall_mem_cons.mpr ⟨lw_p54, List.forall_mem_cons.mpr ⟨lw_p55, List.forall_mem_cons.mpr ⟨lw_p56, List.forall_mem_cons.mpr ⟨lw_p57, List.forall_mem_cons.mpr ⟨lw_p58, List.forall_mem_cons.mpr ⟨lw_p59, List.forall_mem_cons.mpr ⟨lw_p60, List.forall_mem_cons.mpr ⟨lw_p61, List.forall_mem_cons.mpr ⟨lw_p62, List.forall_mem_cons.mpr ⟨lw_p63, fun _ h => absurd h List.not_mem_nil⟩⟩⟩⟩⟩⟩⟩⟩⟩⟩⟩⟩⟩⟩⟩⟩
theorem lw_p64 : lw_okq (⟨"MeterDeskModel", "turn", "(II)I"⟩, 31) := ⟨⟨by decide +kernel, by decide +kernel⟩, List.mem_of_getElem? (i := 956) (by decide +kernel), List.mem_of_getElem? (i := 1263) (by decide +kernel), List.mem_of_getElem? (i := 1264) (by decide +kernel)⟩
theorem lw_p65 : lw_okq (⟨"MeterDeskModel", "wholeRank", "()I"⟩, 31) := ⟨⟨by decide +kernel, by decide +kernel⟩, List.mem_of_getElem? (i := 956) (by decide +kernel), List.mem_of_getElem? (i := 1299) (by decide +kernel), List.mem_of_getElem? (i := 1300) (by decide +kernel)⟩
theorem lw_p66 : lw_okq (⟨"MeterDeskModel", "costOf", "(I)I"⟩, 31) := ⟨⟨by decide +kernel, by decide +kernel⟩, List.mem_of_getElem? (i := 956) (by decide +kernel), List.mem_of_getElem? (i := 1303) (by decide +kernel), List.mem_of_getElem? (i := 1304) (by decide +kernel)⟩
theorem lw_p67 : lw_okq (⟨"MeterDeskModel", "isWhole", "(II)Z"⟩, 31) := ⟨⟨by decide +kernel, by decide +kernel⟩, List.mem_of_getElem? (i := 956) (by decide +kernel), List.mem_of_getElem? (i := 1307) (by decide +kernel), List.mem_of_getElem? (i := 1308) (by decide +kernel)⟩
theorem lw_p68 : lw_okq (⟨"MeterDeskModel", "wouldServe", "(II)I"⟩, 31) := ⟨⟨by decide +kernel, by decide +kernel⟩, List.mem_of_getElem? (i := 956) (by decide +kernel), List.mem_of_getElem? (i := 1338) (by decide +kernel), List.mem_of_getElem? (i := 1339) (by decide +kernel)⟩
theorem lw_p69 : lw_okq (⟨"MeterDeskModel", "spare", "()I"⟩, 31) := ⟨⟨by decide +kernel, by decide +kernel⟩, List.mem_of_getElem? (i := 956) (by decide +kernel), List.mem_of_getElem? (i := 1374) (by decide +kernel), List.mem_of_getElem? (i := 1375) (by decide +kernel)⟩
theorem lw_p70 : lw_okq (⟨"MeterDeskModel", "allThings", "()I"⟩, 31) := ⟨⟨by decide +kernel, by decide +kernel⟩, List.mem_of_getElem? (i := 956) (by decide +kernel), List.mem_of_getElem? (i := 1378) (by decide +kernel), List.mem_of_getElem? (i := 1379) (by decide +kernel)⟩
def lw_privs_5 : List (MethodName × Nat) := [(⟨"MeterDeskModel", "turn", "(II)I"⟩, 31), (⟨"MeterDeskModel", "wholeRank", "()I"⟩, 31), (⟨"MeterDeskModel", "costOf", "(I)I"⟩, 31), (⟨"MeterDeskModel", "isWhole", "(II)Z"⟩, 31), (⟨"MeterDeskModel", "wouldServe", "(II)I"⟩, 31), (⟨"MeterDeskModel", "spare", "()I"⟩, 31), (⟨"MeterDeskModel", "allThings", "()I"⟩, 31)]
theorem lw_r5 : ∀ q ∈ lw_privs_5, lw_okq q := List.forall_mem_cons.mpr ⟨lw_p64, List.forall_mem_cons.mpr ⟨lw_p65, List.forall_mem_cons.mpr ⟨lw_p66, List.forall_mem_cons.mpr ⟨lw_p67, List.forall_mem_cons.mpr ⟨lw_p68, List.forall_mem_cons.mpr ⟨lw_p69, List.forall_mem_cons.mpr ⟨lw_p70, fun _ h => absurd h List.not_mem_nil⟩⟩⟩⟩⟩⟩⟩
def lw_privs : List (MethodName × Nat) := lw_privs_1 ++ (lw_privs_2 ++ (lw_privs_3 ++ (lw_privs_4 ++ (lw_privs_5))))
def lw_tbl : List Cond := k2_sels lw_privs ++ tables_1
theorem lw_privs_ok : ∀ q ∈ lw_privs, lw_okq q := by
  show ∀ q ∈ lw_privs_1 ++ (lw_privs_2 ++ (lw_privs_3 ++ (lw_privs_4 ++ (lw_privs_5)))), lw_okq q
  exact List.forall_mem_append.mpr ⟨lw_r1, List.forall_mem_append.mpr ⟨lw_r2, List.forall_mem_append.mpr ⟨lw_r3, List.forall_mem_append.mpr ⟨lw_r4, lw_r5⟩⟩⟩⟩
end
section
def RX0 : String := "MeterDesk$Family"
def TX0 : u_T := fun k => match k with
  | 0 => ("MeterDesk$Family", "sets", "[J", true)
  | _ => ("MeterDesk$Family", "before", "[J", true)
def tyX0 : Nat → FieldType := fun k => match k with
  | 0 => .array .long
  | _ => .array .long
theorem nmX0 : ∀ a, a < 2 → ∀ b, b < 2 → a ≠ b → (TX0 a).2.1 ≠ (TX0 b).2.1 := by decide +kernel
theorem tyX0_ok : ∀ k, k < 2 → parseFieldDescriptor (TX0 k).2.2.1 = some (tyX0 k) := by decide +kernel
abbrev cX0_init : ByteArray := prog_2_method_1_code
def yX0_init : MethodName := ⟨RX0, "<init>", "()V"⟩
abbrev cX0_startWithEmptySet : ByteArray := prog_2_method_2_code
def yX0_startWithEmptySet : MethodName := ⟨RX0, "startWithEmptySet", "()V"⟩
abbrev cX0_copyFrom : ByteArray := prog_2_method_3_code
def yX0_copyFrom : MethodName := ⟨RX0, "copyFrom", "(LMeterDesk$Family;)V"⟩
abbrev cX0_include : ByteArray := prog_2_method_4_code
def yX0_include : MethodName := ⟨RX0, "include", "(I)V"⟩
abbrev cX0_holds : ByteArray := prog_2_method_5_code
def yX0_holds : MethodName := ⟨RX0, "holds", "(I)Z"⟩
abbrev cX0_joinMeter : ByteArray := prog_2_method_6_code
def yX0_joinMeter : MethodName := ⟨RX0, "joinMeter", "(ILMeterDesk$Family;)V"⟩
abbrev cX0_joinLine : ByteArray := prog_2_method_7_code
def yX0_joinLine : MethodName := ⟨RX0, "joinLine", "(ILMeterDesk$Family;)V"⟩
abbrev cX0_mostLines : ByteArray := prog_2_method_8_code
def yX0_mostLines : MethodName := ⟨RX0, "mostLines", "()I"⟩
abbrev cX0_leastSet : ByteArray := prog_2_method_9_code
def yX0_leastSet : MethodName := ⟨RX0, "leastSet", "(I)I"⟩
def RX1 : String := "MeterDesk$History"
def TX1 : u_T := fun k => match k with
  | 0 => ("MeterDesk$History", "size", "I", false)
  | 1 => ("MeterDesk$History", "deed", "[I", true)
  | _ => ("MeterDesk$History", "which", "[I", true)
def tyX1 : Nat → FieldType := fun k => match k with
  | 0 => .int
  | 1 => .array .int
  | _ => .array .int
theorem nmX1 : ∀ a, a < 3 → ∀ b, b < 3 → a ≠ b → (TX1 a).2.1 ≠ (TX1 b).2.1 := by decide +kernel
theorem tyX1_ok : ∀ k, k < 3 → parseFieldDescriptor (TX1 k).2.2.1 = some (tyX1 k) := by decide +kernel
abbrev cX1_init : ByteArray := prog_3_method_1_code
def yX1_init : MethodName := ⟨RX1, "<init>", "()V"⟩
abbrev cX1_note : ByteArray := prog_3_method_2_code
def yX1_note : MethodName := ⟨RX1, "note", "(II)V"⟩
abbrev cX1_revertLatest : ByteArray := prog_3_method_3_code
def yX1_revertLatest : MethodName := ⟨RX1, "revertLatest", "(LMeterDesk$Standing;)V"⟩
def RX2 : String := "MeterDesk$Parts"
def TX2 : u_T := fun k => match k with
  | _ => ("MeterDesk$Parts", "label", "[I", true)
def tyX2 : Nat → FieldType := fun k => match k with
  | _ => .array .int
theorem nmX2 : ∀ a, a < 1 → ∀ b, b < 1 → a ≠ b → (TX2 a).2.1 ≠ (TX2 b).2.1 := by decide +kernel
theorem tyX2_ok : ∀ k, k < 1 → parseFieldDescriptor (TX2 k).2.2.1 = some (tyX2 k) := by decide +kernel
abbrev cX2_init : ByteArray := prog_4_method_1_code
def yX2_init : MethodName := ⟨RX2, "<init>", "()V"⟩
abbrev cX2_separate : ByteArray := prog_4_method_2_code
def yX2_separate : MethodName := ⟨RX2, "separate", "()V"⟩
abbrev cX2_copyFrom : ByteArray := prog_4_method_3_code
def yX2_copyFrom : MethodName := ⟨RX2, "copyFrom", "(LMeterDesk$Parts;)V"⟩
abbrev cX2_areOne : ByteArray := prog_4_method_4_code
def yX2_areOne : MethodName := ⟨RX2, "areOne", "(II)Z"⟩
abbrev cX2_join : ByteArray := prog_4_method_5_code
def yX2_join : MethodName := ⟨RX2, "join", "(II)V"⟩
def RX3 : String := "MeterDesk$Plan"
def TX3 : u_T := fun k => match k with
  | 0 => ("MeterDesk$Plan", "nodes", "I", false)
  | 1 => ("MeterDesk$Plan", "lines", "I", false)
  | 2 => ("MeterDesk$Plan", "meters", "I", false)
  | 3 => ("MeterDesk$Plan", "offers", "I", false)
  | 4 => ("MeterDesk$Plan", "low", "[I", true)
  | 5 => ("MeterDesk$Plan", "high", "[I", true)
  | 6 => ("MeterDesk$Plan", "meterSort", "[I", true)
  | 7 => ("MeterDesk$Plan", "meterAt", "[I", true)
  | 8 => ("MeterDesk$Plan", "offerSort", "[I", true)
  | 9 => ("MeterDesk$Plan", "offerAt", "[I", true)
  | _ => ("MeterDesk$Plan", "offerPrice", "[I", true)
def tyX3 : Nat → FieldType := fun k => match k with
  | 0 => .int
  | 1 => .int
  | 2 => .int
  | 3 => .int
  | 4 => .array .int
  | 5 => .array .int
  | 6 => .array .int
  | 7 => .array .int
  | 8 => .array .int
  | 9 => .array .int
  | _ => .array .int
theorem nmX3 : ∀ a, a < 11 → ∀ b, b < 11 → a ≠ b → (TX3 a).2.1 ≠ (TX3 b).2.1 := by decide +kernel
theorem tyX3_ok : ∀ k, k < 11 → parseFieldDescriptor (TX3 k).2.2.1 = some (tyX3 k) := by decide +kernel
abbrev cX3_init : ByteArray := prog_5_method_1_code
def yX3_init : MethodName := ⟨RX3, "<init>", "()V"⟩
abbrev cX3_copyFrom : ByteArray := prog_5_method_2_code
def yX3_copyFrom : MethodName := ⟨RX3, "copyFrom", "(LMeterDesk$Plan;)V"⟩
abbrev cX3_beginAnew : ByteArray := prog_5_method_3_code
def yX3_beginAnew : MethodName := ⟨RX3, "beginAnew", "(I)V"⟩
abbrev cX3_addLine : ByteArray := prog_5_method_4_code
def yX3_addLine : MethodName := ⟨RX3, "addLine", "(II)V"⟩
abbrev cX3_addMeter : ByteArray := prog_5_method_5_code
def yX3_addMeter : MethodName := ⟨RX3, "addMeter", "(II)V"⟩
abbrev cX3_addOffer : ByteArray := prog_5_method_6_code
def yX3_addOffer : MethodName := ⟨RX3, "addOffer", "(III)V"⟩
abbrev cX3_placesFor : ByteArray := prog_5_method_7_code
def yX3_placesFor : MethodName := ⟨RX3, "placesFor", "(I)I"⟩
abbrev cX3_hasPlace : ByteArray := prog_5_method_8_code
def yX3_hasPlace : MethodName := ⟨RX3, "hasPlace", "(II)Z"⟩
abbrev cX3_allLines : ByteArray := prog_5_method_9_code
def yX3_allLines : MethodName := ⟨RX3, "allLines", "()I"⟩
abbrev cX3_linesFor : ByteArray := prog_5_method_10_code
def yX3_linesFor : MethodName := ⟨RX3, "linesFor", "(III)I"⟩
abbrev cX3_withoutLeast : ByteArray := prog_5_method_11_code
def yX3_withoutLeast : MethodName := ⟨RX3, "withoutLeast", "(I)I"⟩
abbrev cX3_linesBeside : ByteArray := prog_5_method_12_code
def yX3_linesBeside : MethodName := ⟨RX3, "linesBeside", "(I)I"⟩
abbrev cX3_linesAt : ByteArray := prog_5_method_13_code
def yX3_linesAt : MethodName := ⟨RX3, "linesAt", "(II)I"⟩
abbrev cX3_linesNear : ByteArray := prog_5_method_14_code
def yX3_linesNear : MethodName := ⟨RX3, "linesNear", "(II)I"⟩
abbrev cX3_priceOf : ByteArray := prog_5_method_15_code
def yX3_priceOf : MethodName := ⟨RX3, "priceOf", "(I)I"⟩
def RX4 : String := "MeterDesk$Reader"
def TX4 : u_T := fun k => match k with
  | 0 => ("MeterDesk$Reader", "length", "I", false)
  | 1 => ("MeterDesk$Reader", "clauses", "I", false)
  | 2 => ("MeterDesk$Reader", "draft", "LMeterDesk$Plan;", true)
  | 3 => ("MeterDesk$Reader", "text", "[C", true)
  | 4 => ("MeterDesk$Reader", "kind", "I", false)
  | 5 => ("MeterDesk$Reader", "start", "I", false)
  | _ => ("MeterDesk$Reader", "end", "I", false)
def tyX4 : Nat → FieldType := fun k => match k with
  | 0 => .int
  | 1 => .int
  | 2 => .object "MeterDesk$Plan"
  | 3 => .array .char
  | 4 => .int
  | 5 => .int
  | _ => .int
theorem nmX4 : ∀ a, a < 7 → ∀ b, b < 7 → a ≠ b → (TX4 a).2.1 ≠ (TX4 b).2.1 := by decide +kernel
theorem tyX4_ok : ∀ k, k < 7 → parseFieldDescriptor (TX4 k).2.2.1 = some (tyX4 k) := by decide +kernel
abbrev cX4_init : ByteArray := prog_6_method_1_code
def yX4_init : MethodName := ⟨RX4, "<init>", "()V"⟩
abbrev cX4_append : ByteArray := prog_6_method_2_code
def yX4_append : MethodName := ⟨RX4, "append", "(C)Z"⟩
abbrev cX4_empty : ByteArray := prog_6_method_3_code
def yX4_empty : MethodName := ⟨RX4, "empty", "()I"⟩
abbrev cX4_findFault : ByteArray := prog_6_method_4_code
def yX4_findFault : MethodName := ⟨RX4, "findFault", "(LMeterDesk$Plan;)I"⟩
abbrev cX4_kindOf : ByteArray := prog_6_method_5_code
def yX4_kindOf : MethodName := ⟨RX4, "kindOf", "(C)I"⟩
abbrev cX4_advance : ByteArray := prog_6_method_6_code
def yX4_advance : MethodName := ⟨RX4, "advance", "()V"⟩
abbrev cX4_isWord : ByteArray := prog_6_method_7_code
def yX4_isWord : MethodName := ⟨RX4, "isWord", "(Ljava/lang/String;)Z"⟩
abbrev cX4_readNumber : ByteArray := prog_6_method_8_code
def yX4_readNumber : MethodName := ⟨RX4, "readNumber", "(II)I"⟩
abbrev cX4_readClause : ByteArray := prog_6_method_9_code
def yX4_readClause : MethodName := ⟨RX4, "readClause", "()Z"⟩
abbrev cX4_readSortName : ByteArray := prog_6_method_10_code
def yX4_readSortName : MethodName := ⟨RX4, "readSortName", "()I"⟩
abbrev cX4_readGrid : ByteArray := prog_6_method_11_code
def yX4_readGrid : MethodName := ⟨RX4, "readGrid", "()Z"⟩
abbrev cX4_readLine : ByteArray := prog_6_method_12_code
def yX4_readLine : MethodName := ⟨RX4, "readLine", "()Z"⟩
abbrev cX4_readMeter : ByteArray := prog_6_method_13_code
def yX4_readMeter : MethodName := ⟨RX4, "readMeter", "(I)Z"⟩
abbrev cX4_readOffer : ByteArray := prog_6_method_14_code
def yX4_readOffer : MethodName := ⟨RX4, "readOffer", "()Z"⟩
def RX5 : String := "MeterDesk$Servers"
def TX5 : u_T := fun k => match k with
  | 0 => ("MeterDesk$Servers", "spare", "I", false)
  | 1 => ("MeterDesk$Servers", "meterOf", "[I", true)
  | 2 => ("MeterDesk$Servers", "lineOf", "[I", true)
  | _ => ("MeterDesk$Servers", "around", "[I", true)
def tyX5 : Nat → FieldType := fun k => match k with
  | 0 => .int
  | 1 => .array .int
  | 2 => .array .int
  | _ => .array .int
theorem nmX5 : ∀ a, a < 4 → ∀ b, b < 4 → a ≠ b → (TX5 a).2.1 ≠ (TX5 b).2.1 := by decide +kernel
theorem tyX5_ok : ∀ k, k < 4 → parseFieldDescriptor (TX5 k).2.2.1 = some (tyX5 k) := by decide +kernel
abbrev cX5_init : ByteArray := prog_7_method_1_code
def yX5_init : MethodName := ⟨RX5, "<init>", "()V"⟩
abbrev cX5_assign : ByteArray := prog_7_method_2_code
def yX5_assign : MethodName := ⟨RX5, "assign", "(I[II)V"⟩
abbrev cX5_learnAround : ByteArray := prog_7_method_3_code
def yX5_learnAround : MethodName := ⟨RX5, "learnAround", "(I[II)V"⟩
abbrev cX5_metersFor : ByteArray := prog_7_method_4_code
def yX5_metersFor : MethodName := ⟨RX5, "metersFor", "(I[II)I"⟩
abbrev cX5_leastMeter : ByteArray := prog_7_method_5_code
def yX5_leastMeter : MethodName := ⟨RX5, "leastMeter", "(II)I"⟩
abbrev cX5_canAllHaveOne : ByteArray := prog_7_method_6_code
def yX5_canAllHaveOne : MethodName := ⟨RX5, "canAllHaveOne", "(II)Z"⟩
def RX6 : String := "MeterDesk$Sight"
def TX6 : u_T := fun k => match k with
  | 0 => ("MeterDesk$Sight", "rank", "I", false)
  | 1 => ("MeterDesk$Sight", "wholeRank", "I", false)
  | 2 => ("MeterDesk$Sight", "tree", "I", false)
  | 3 => ("MeterDesk$Sight", "reach", "[I", true)
  | 4 => ("MeterDesk$Sight", "plan", "LMeterDesk$Plan;", true)
  | 5 => ("MeterDesk$Sight", "now", "LMeterDesk$Standing;", true)
  | 6 => ("MeterDesk$Sight", "forests", "LMeterDesk$Family;", true)
  | 7 => ("MeterDesk$Sight", "served", "LMeterDesk$Family;", true)
  | 8 => ("MeterDesk$Sight", "scratch", "LMeterDesk$Family;", true)
  | 9 => ("MeterDesk$Sight", "trials", "LMeterDesk$Trials;", true)
  | 10 => ("MeterDesk$Sight", "parts", "[LMeterDesk$Parts;", true)
  | 11 => ("MeterDesk$Sight", "islands", "LMeterDesk$Parts;", true)
  | 12 => ("MeterDesk$Sight", "offerReach", "[I", true)
  | 13 => ("MeterDesk$Sight", "servers", "LMeterDesk$Servers;", true)
  | 14 => ("MeterDesk$Sight", "serversKnown", "Z", false)
  | 15 => ("MeterDesk$Sight", "weakKnown", "Z", false)
  | 16 => ("MeterDesk$Sight", "weakest", "I", false)
  | 17 => ("MeterDesk$Sight", "dealKnown", "Z", false)
  | _ => ("MeterDesk$Sight", "cheapest", "I", false)
def tyX6 : Nat → FieldType := fun k => match k with
  | 0 => .int
  | 1 => .int
  | 2 => .int
  | 3 => .array .int
  | 4 => .object "MeterDesk$Plan"
  | 5 => .object "MeterDesk$Standing"
  | 6 => .object "MeterDesk$Family"
  | 7 => .object "MeterDesk$Family"
  | 8 => .object "MeterDesk$Family"
  | 9 => .object "MeterDesk$Trials"
  | 10 => .array (.object "MeterDesk$Parts")
  | 11 => .object "MeterDesk$Parts"
  | 12 => .array .int
  | 13 => .object "MeterDesk$Servers"
  | 14 => .boolean
  | 15 => .boolean
  | 16 => .int
  | 17 => .boolean
  | _ => .int
theorem nmX6 : ∀ a, a < 19 → ∀ b, b < 19 → a ≠ b → (TX6 a).2.1 ≠ (TX6 b).2.1 := by decide +kernel
theorem tyX6_ok : ∀ k, k < 19 → parseFieldDescriptor (TX6 k).2.2.1 = some (tyX6 k) := by decide +kernel
abbrev cX6_init : ByteArray := prog_8_method_1_code
def yX6_init : MethodName := ⟨RX6, "<init>", "(LMeterDesk$Plan;LMeterDesk$Standing;)V"⟩
abbrev cX6_learnForests : ByteArray := prog_8_method_2_code
def yX6_learnForests : MethodName := ⟨RX6, "learnForests", "()V"⟩
abbrev cX6_refresh : ByteArray := prog_8_method_3_code
def yX6_refresh : MethodName := ⟨RX6, "refresh", "()I"⟩
abbrev cX6_openLines : ByteArray := prog_8_method_4_code
def yX6_openLines : MethodName := ⟨RX6, "openLines", "()I"⟩
abbrev cX6_reachOf : ByteArray := prog_8_method_5_code
def yX6_reachOf : MethodName := ⟨RX6, "reachOf", "(II)I"⟩
abbrev cX6_joinAll : ByteArray := prog_8_method_6_code
def yX6_joinAll : MethodName := ⟨RX6, "joinAll", "(I)I"⟩
abbrev cX6_islandOf : ByteArray := prog_8_method_7_code
def yX6_islandOf : MethodName := ⟨RX6, "islandOf", "(I)I"⟩
abbrev cX6_meterOf : ByteArray := prog_8_method_8_code
def yX6_meterOf : MethodName := ⟨RX6, "meterOf", "(I)I"⟩
abbrev cX6_lineOf : ByteArray := prog_8_method_9_code
def yX6_lineOf : MethodName := ⟨RX6, "lineOf", "(I)I"⟩
abbrev cX6_spares : ByteArray := prog_8_method_10_code
def yX6_spares : MethodName := ⟨RX6, "spares", "()I"⟩
abbrev cX6_learnServers : ByteArray := prog_8_method_11_code
def yX6_learnServers : MethodName := ⟨RX6, "learnServers", "()V"⟩
abbrev cX6_isCritical : ByteArray := prog_8_method_12_code
def yX6_isCritical : MethodName := ⟨RX6, "isCritical", "(I)Z"⟩
abbrev cX6_lossOf : ByteArray := prog_8_method_13_code
def yX6_lossOf : MethodName := ⟨RX6, "lossOf", "(I)I"⟩
abbrev cX6_gain : ByteArray := prog_8_method_14_code
def yX6_gain : MethodName := ⟨RX6, "gain", "(II)I"⟩
abbrev cX6_weakSet : ByteArray := prog_8_method_15_code
def yX6_weakSet : MethodName := ⟨RX6, "weakSet", "()I"⟩
abbrev cX6_findWeak : ByteArray := prog_8_method_16_code
def yX6_findWeak : MethodName := ⟨RX6, "findWeak", "()I"⟩
abbrev cX6_dealSet : ByteArray := prog_8_method_17_code
def yX6_dealSet : MethodName := ⟨RX6, "dealSet", "()I"⟩
abbrev cX6_findDeal : ByteArray := prog_8_method_18_code
def yX6_findDeal : MethodName := ⟨RX6, "findDeal", "()I"⟩
abbrev cX6_isBetterDeal : ByteArray := prog_8_method_19_code
def yX6_isBetterDeal : MethodName := ⟨RX6, "isBetterDeal", "(II)Z"⟩
def RX7 : String := "MeterDesk$Sightings"
def TX7 : u_T := fun k => match k with
  | 0 => ("MeterDesk$Sightings", "size", "I", false)
  | 1 => ("MeterDesk$Sightings", "at", "[I", true)
  | _ => ("MeterDesk$Sightings", "lines", "[I", true)
def tyX7 : Nat → FieldType := fun k => match k with
  | 0 => .int
  | 1 => .array .int
  | _ => .array .int
theorem nmX7 : ∀ a, a < 3 → ∀ b, b < 3 → a ≠ b → (TX7 a).2.1 ≠ (TX7 b).2.1 := by decide +kernel
theorem tyX7_ok : ∀ k, k < 3 → parseFieldDescriptor (TX7 k).2.2.1 = some (tyX7 k) := by decide +kernel
abbrev cX7_init : ByteArray := prog_9_method_1_code
def yX7_init : MethodName := ⟨RX7, "<init>", "()V"⟩
abbrev cX7_add : ByteArray := prog_9_method_2_code
def yX7_add : MethodName := ⟨RX7, "add", "(II)Z"⟩
abbrev cX7_fitting : ByteArray := prog_9_method_3_code
def yX7_fitting : MethodName := ⟨RX7, "fitting", "(LMeterDesk$Plan;I)I"⟩
abbrev cX7_fits : ByteArray := prog_9_method_4_code
def yX7_fits : MethodName := ⟨RX7, "fits", "(ILMeterDesk$Plan;I)Z"⟩
abbrev cX7_bestPlace : ByteArray := prog_9_method_5_code
def yX7_bestPlace : MethodName := ⟨RX7, "bestPlace", "(LMeterDesk$Plan;I)I"⟩
abbrev cX7_greatestPart : ByteArray := prog_9_method_6_code
def yX7_greatestPart : MethodName := ⟨RX7, "greatestPart", "(IILMeterDesk$Plan;I)I"⟩
abbrev cX7_alike : ByteArray := prog_9_method_7_code
def yX7_alike : MethodName := ⟨RX7, "alike", "(IIILMeterDesk$Plan;I)I"⟩
def RX8 : String := "MeterDesk$Standing"
def TX8 : u_T := fun k => match k with
  | 0 => ("MeterDesk$Standing", "meters", "I", false)
  | 1 => ("MeterDesk$Standing", "broken", "I", false)
  | 2 => ("MeterDesk$Standing", "cutLines", "I", false)
  | 3 => ("MeterDesk$Standing", "sort", "[I", true)
  | _ => ("MeterDesk$Standing", "at", "[I", true)
def tyX8 : Nat → FieldType := fun k => match k with
  | 0 => .int
  | 1 => .int
  | 2 => .int
  | 3 => .array .int
  | _ => .array .int
theorem nmX8 : ∀ a, a < 5 → ∀ b, b < 5 → a ≠ b → (TX8 a).2.1 ≠ (TX8 b).2.1 := by decide +kernel
theorem tyX8_ok : ∀ k, k < 5 → parseFieldDescriptor (TX8 k).2.2.1 = some (tyX8 k) := by decide +kernel
abbrev cX8_init : ByteArray := prog_10_method_1_code
def yX8_init : MethodName := ⟨RX8, "<init>", "()V"⟩
abbrev cX8_startFrom : ByteArray := prog_10_method_2_code
def yX8_startFrom : MethodName := ⟨RX8, "startFrom", "(LMeterDesk$Plan;)V"⟩
abbrev cX8_copyFrom : ByteArray := prog_10_method_3_code
def yX8_copyFrom : MethodName := ⟨RX8, "copyFrom", "(LMeterDesk$Standing;)V"⟩
abbrev cX8_addMeter : ByteArray := prog_10_method_4_code
def yX8_addMeter : MethodName := ⟨RX8, "addMeter", "(II)I"⟩
abbrev cX8_wholeMeters : ByteArray := prog_10_method_5_code
def yX8_wholeMeters : MethodName := ⟨RX8, "wholeMeters", "()I"⟩
def RX9 : String := "MeterDesk$Tray"
def TX9 : u_T := fun k => match k with
  | 0 => ("MeterDesk$Tray", "there", "Z", false)
  | 1 => ("MeterDesk$Tray", "size", "I", false)
  | 2 => ("MeterDesk$Tray", "kind", "[I", true)
  | _ => ("MeterDesk$Tray", "value", "[I", true)
def tyX9 : Nat → FieldType := fun k => match k with
  | 0 => .boolean
  | 1 => .int
  | 2 => .array .int
  | _ => .array .int
theorem nmX9 : ∀ a, a < 4 → ∀ b, b < 4 → a ≠ b → (TX9 a).2.1 ≠ (TX9 b).2.1 := by decide +kernel
theorem tyX9_ok : ∀ k, k < 4 → parseFieldDescriptor (TX9 k).2.2.1 = some (tyX9 k) := by decide +kernel
abbrev cX9_init : ByteArray := prog_11_method_1_code
def yX9_init : MethodName := ⟨RX9, "<init>", "()V"⟩
abbrev cX9_renew : ByteArray := prog_11_method_2_code
def yX9_renew : MethodName := ⟨RX9, "renew", "()V"⟩
abbrev cX9_remove : ByteArray := prog_11_method_3_code
def yX9_remove : MethodName := ⟨RX9, "remove", "()V"⟩
abbrev cX9_isMissing : ByteArray := prog_11_method_4_code
def yX9_isMissing : MethodName := ⟨RX9, "isMissing", "()Z"⟩
abbrev cX9_things : ByteArray := prog_11_method_5_code
def yX9_things : MethodName := ⟨RX9, "things", "()I"⟩
abbrev cX9_push : ByteArray := prog_11_method_6_code
def yX9_push : MethodName := ⟨RX9, "push", "(II)I"⟩
abbrev cX9_pop : ByteArray := prog_11_method_7_code
def yX9_pop : MethodName := ⟨RX9, "pop", "(I)I"⟩
abbrev cX9_together : ByteArray := prog_11_method_8_code
def yX9_together : MethodName := ⟨RX9, "together", "(I)I"⟩
def RX10 : String := "MeterDesk$Trials"
def TX10 : u_T := fun k => match k with
  | 0 => ("MeterDesk$Trials", "rankWith", "[I", true)
  | _ => ("MeterDesk$Trials", "families", "[LMeterDesk$Family;", true)
def tyX10 : Nat → FieldType := fun k => match k with
  | 0 => .array .int
  | _ => .array (.object "MeterDesk$Family")
theorem nmX10 : ∀ a, a < 2 → ∀ b, b < 2 → a ≠ b → (TX10 a).2.1 ≠ (TX10 b).2.1 := by decide +kernel
theorem tyX10_ok : ∀ k, k < 2 → parseFieldDescriptor (TX10 k).2.2.1 = some (tyX10 k) := by decide +kernel
abbrev cX10_init : ByteArray := prog_12_method_1_code
def yX10_init : MethodName := ⟨RX10, "<init>", "()V"⟩
abbrev cX10_tryAll : ByteArray := prog_12_method_2_code
def yX10_tryAll : MethodName := ⟨RX10, "tryAll", "(LMeterDesk$Family;[IILMeterDesk$Family;)V"⟩
def RX11 : String := "MeterDesk"
def TX11 : u_T := fun k => match k with
  | 0 => ("MeterDesk", "told", "LMeterDesk$Plan;", true)
  | 1 => ("MeterDesk", "reader", "LMeterDesk$Reader;", true)
  | 2 => ("MeterDesk", "now", "LMeterDesk$Standing;", true)
  | 3 => ("MeterDesk", "kept", "[LMeterDesk$Standing;", true)
  | 4 => ("MeterDesk", "isKept", "[Z", true)
  | 5 => ("MeterDesk", "history", "LMeterDesk$History;", true)
  | 6 => ("MeterDesk", "sight", "LMeterDesk$Sight;", true)
  | 7 => ("MeterDesk", "sightings", "LMeterDesk$Sightings;", true)
  | _ => ("MeterDesk", "trays", "[LMeterDesk$Tray;", true)
def tyX11 : Nat → FieldType := fun k => match k with
  | 0 => .object "MeterDesk$Plan"
  | 1 => .object "MeterDesk$Reader"
  | 2 => .object "MeterDesk$Standing"
  | 3 => .array (.object "MeterDesk$Standing")
  | 4 => .array .boolean
  | 5 => .object "MeterDesk$History"
  | 6 => .object "MeterDesk$Sight"
  | 7 => .object "MeterDesk$Sightings"
  | _ => .array (.object "MeterDesk$Tray")
theorem nmX11 : ∀ a, a < 9 → ∀ b, b < 9 → a ≠ b → (TX11 a).2.1 ≠ (TX11 b).2.1 := by decide +kernel
theorem tyX11_ok : ∀ k, k < 9 → parseFieldDescriptor (TX11 k).2.2.1 = some (tyX11 k) := by decide +kernel
abbrev cX11_init : ByteArray := prog_1_method_1_code
def yX11_init : MethodName := ⟨RX11, "<init>", "()V"⟩
abbrev cX11_write : ByteArray := prog_1_method_2_code
def yX11_write : MethodName := ⟨RX11, "write", "(I)I"⟩
abbrev cX11_erase : ByteArray := prog_1_method_3_code
def yX11_erase : MethodName := ⟨RX11, "erase", "()I"⟩
abbrev cX11_fault : ByteArray := prog_1_method_4_code
def yX11_fault : MethodName := ⟨RX11, "fault", "()I"⟩
abbrev cX11_grid : ByteArray := prog_1_method_5_code
def yX11_grid : MethodName := ⟨RX11, "grid", "()I"⟩
abbrev cX11_line : ByteArray := prog_1_method_6_code
def yX11_line : MethodName := ⟨RX11, "line", "(II)I"⟩
abbrev cX11_meter : ByteArray := prog_1_method_7_code
def yX11_meter : MethodName := ⟨RX11, "meter", "(II)I"⟩
abbrev cX11_offer : ByteArray := prog_1_method_8_code
def yX11_offer : MethodName := ⟨RX11, "offer", "(II)I"⟩
abbrev cX11_put : ByteArray := prog_1_method_9_code
def yX11_put : MethodName := ⟨RX11, "put", "(II)I"⟩
abbrev cX11_spoil : ByteArray := prog_1_method_10_code
def yX11_spoil : MethodName := ⟨RX11, "spoil", "(I)I"⟩
abbrev cX11_mend : ByteArray := prog_1_method_11_code
def yX11_mend : MethodName := ⟨RX11, "mend", "(I)I"⟩
abbrev cX11_cut : ByteArray := prog_1_method_12_code
def yX11_cut : MethodName := ⟨RX11, "cut", "(I)I"⟩
abbrev cX11_undo : ByteArray := prog_1_method_13_code
def yX11_undo : MethodName := ⟨RX11, "undo", "()I"⟩
abbrev cX11_keep : ByteArray := prog_1_method_14_code
def yX11_keep : MethodName := ⟨RX11, "keep", "(I)I"⟩
abbrev cX11_back : ByteArray := prog_1_method_15_code
def yX11_back : MethodName := ⟨RX11, "back", "(I)I"⟩
abbrev cX11_island : ByteArray := prog_1_method_16_code
def yX11_island : MethodName := ⟨RX11, "island", "(I)I"⟩
abbrev cX11_weak : ByteArray := prog_1_method_17_code
def yX11_weak : MethodName := ⟨RX11, "weak", "(I)I"⟩
abbrev cX11_deal : ByteArray := prog_1_method_18_code
def yX11_deal : MethodName := ⟨RX11, "deal", "(I)I"⟩
abbrev cX11_lost : ByteArray := prog_1_method_19_code
def yX11_lost : MethodName := ⟨RX11, "lost", "(I)I"⟩
abbrev cX11_brings : ByteArray := prog_1_method_20_code
def yX11_brings : MethodName := ⟨RX11, "brings", "(II)I"⟩
abbrev cX11_seen : ByteArray := prog_1_method_21_code
def yX11_seen : MethodName := ⟨RX11, "seen", "(II)I"⟩
abbrev cX11_forget : ByteArray := prog_1_method_22_code
def yX11_forget : MethodName := ⟨RX11, "forget", "()I"⟩
abbrev cX11_fit : ByteArray := prog_1_method_23_code
def yX11_fit : MethodName := ⟨RX11, "fit", "()I"⟩
abbrev cX11_ask : ByteArray := prog_1_method_24_code
def yX11_ask : MethodName := ⟨RX11, "ask", "()I"⟩
abbrev cX11_tray : ByteArray := prog_1_method_25_code
def yX11_tray : MethodName := ⟨RX11, "tray", "(I)I"⟩
abbrev cX11_lay : ByteArray := prog_1_method_26_code
def yX11_lay : MethodName := ⟨RX11, "lay", "(III)I"⟩
abbrev cX11_take : ByteArray := prog_1_method_27_code
def yX11_take : MethodName := ⟨RX11, "take", "(II)I"⟩
abbrev cX11_all : ByteArray := prog_1_method_28_code
def yX11_all : MethodName := ⟨RX11, "all", "(II)I"⟩
abbrev cX11_drop : ByteArray := prog_1_method_29_code
def yX11_drop : MethodName := ⟨RX11, "drop", "(I)I"⟩
abbrev cX11_count : ByteArray := prog_1_method_30_code
def yX11_count : MethodName := ⟨RX11, "count", "(I)I"⟩
abbrev cX11_isLine : ByteArray := prog_1_method_31_code
def yX11_isLine : MethodName := ⟨RX11, "isLine", "(I)Z"⟩
abbrev cX11_isMeter : ByteArray := prog_1_method_32_code
def yX11_isMeter : MethodName := ⟨RX11, "isMeter", "(I)Z"⟩
abbrev cX11_isTray : ByteArray := prog_1_method_33_code
def yX11_isTray : MethodName := ⟨RX11, "isTray", "(I)Z"⟩
abbrev cX11_isKind : ByteArray := prog_1_method_34_code
def yX11_isKind : MethodName := ⟨RX11, "isKind", "(I)Z"⟩
abbrev cX11_canBeLaid : ByteArray := prog_1_method_35_code
def yX11_canBeLaid : MethodName := ⟨RX11, "canBeLaid", "(II)Z"⟩
abbrev cX11_refusePlace : ByteArray := prog_1_method_36_code
def yX11_refusePlace : MethodName := ⟨RX11, "refusePlace", "(II)I"⟩
abbrev cX11_openLines : ByteArray := prog_1_method_37_code
def yX11_openLines : MethodName := ⟨RX11, "openLines", "()I"⟩
abbrev cX11_thingsOfAllTrays : ByteArray := prog_1_method_38_code
def yX11_thingsOfAllTrays : MethodName := ⟨RX11, "thingsOfAllTrays", "()I"⟩
abbrev cX11_lowest : ByteArray := prog_1_method_39_code
def yX11_lowest : MethodName := ⟨RX11, "lowest", "(I)I"⟩
def RX12 : String := "MeterDeskModel"
def TX12 : u_T := fun k => match k with
  | 0 => ("MeterDeskModel", "row", "[I", true)
  | 1 => ("MeterDeskModel", "nodes", "I", false)
  | 2 => ("MeterDeskModel", "lines", "I", false)
  | 3 => ("MeterDeskModel", "ends", "[I", true)
  | 4 => ("MeterDeskModel", "offers", "I", false)
  | 5 => ("MeterDeskModel", "offered", "[I", true)
  | 6 => ("MeterDeskModel", "undos", "I", false)
  | 7 => ("MeterDeskModel", "isKept", "[Z", true)
  | 8 => ("MeterDeskModel", "text", "[I", true)
  | 9 => ("MeterDeskModel", "length", "I", false)
  | 10 => ("MeterDeskModel", "seenAt", "[I", true)
  | 11 => ("MeterDeskModel", "seenLines", "[I", true)
  | 12 => ("MeterDeskModel", "seenMany", "I", false)
  | 13 => ("MeterDeskModel", "sizes", "[I", true)
  | 14 => ("MeterDeskModel", "kinds", "[I", true)
  | 15 => ("MeterDeskModel", "values", "[I", true)
  | 16 => ("MeterDeskModel", "first", "I", false)
  | 17 => ("MeterDeskModel", "behind", "I", false)
  | 18 => ("MeterDeskModel", "readNodes", "I", false)
  | 19 => ("MeterDeskModel", "readLines", "I", false)
  | 20 => ("MeterDeskModel", "readMeters", "I", false)
  | 21 => ("MeterDeskModel", "readOffers", "I", false)
  | 22 => ("MeterDeskModel", "clauses", "I", false)
  | 23 => ("MeterDeskModel", "doing", "Z", false)
  | 24 => ("MeterDeskModel", "numbers", "[I", true)
  | 25 => ("MeterDeskModel", "words", "[I", true)
  | 26 => ("MeterDeskModel", "forests", "[J", true)
  | 27 => ("MeterDeskModel", "parts", "[I", true)
  | 28 => ("MeterDeskModel", "served", "[J", true)
  | 29 => ("MeterDeskModel", "without", "[J", true)
  | _ => ("MeterDeskModel", "serves", "[I", true)
def tyX12 : Nat → FieldType := fun k => match k with
  | 0 => .array .int
  | 1 => .int
  | 2 => .int
  | 3 => .array .int
  | 4 => .int
  | 5 => .array .int
  | 6 => .int
  | 7 => .array .boolean
  | 8 => .array .int
  | 9 => .int
  | 10 => .array .int
  | 11 => .array .int
  | 12 => .int
  | 13 => .array .int
  | 14 => .array .int
  | 15 => .array .int
  | 16 => .int
  | 17 => .int
  | 18 => .int
  | 19 => .int
  | 20 => .int
  | 21 => .int
  | 22 => .int
  | 23 => .boolean
  | 24 => .array .int
  | 25 => .array .int
  | 26 => .array .long
  | 27 => .array .int
  | 28 => .array .long
  | 29 => .array .long
  | _ => .array .int
theorem nmX12 : ∀ a, a < 31 → ∀ b, b < 31 → a ≠ b → (TX12 a).2.1 ≠ (TX12 b).2.1 := by decide +kernel
theorem tyX12_ok : ∀ k, k < 31 → parseFieldDescriptor (TX12 k).2.2.1 = some (tyX12 k) := by decide +kernel
abbrev cX12_init : ByteArray := prog_14_method_1_code
def yX12_init : MethodName := ⟨RX12, "<init>", "()V"⟩
abbrev cX12_in : ByteArray := prog_14_method_2_code
def yX12_in : MethodName := ⟨RX12, "in", "(JJJ)Z"⟩
abbrev cX12_has : ByteArray := prog_14_method_3_code
def yX12_has : MethodName := ⟨RX12, "has", "(II)Z"⟩
abbrev cX12_ones : ByteArray := prog_14_method_4_code
def yX12_ones : MethodName := ⟨RX12, "ones", "(I)I"⟩
abbrev cX12_copyRow : ByteArray := prog_14_method_5_code
def yX12_copyRow : MethodName := ⟨RX12, "copyRow", "(II)V"⟩
abbrev cX12_anew : ByteArray := prog_14_method_6_code
def yX12_anew : MethodName := ⟨RX12, "anew", "(I)V"⟩
abbrev cX12_write : ByteArray := prog_14_method_7_code
def yX12_write : MethodName := ⟨RX12, "write", "(I)I"⟩
abbrev cX12_erase : ByteArray := prog_14_method_8_code
def yX12_erase : MethodName := ⟨RX12, "erase", "()I"⟩
abbrev cX12_isLetter : ByteArray := prog_14_method_9_code
def yX12_isLetter : MethodName := ⟨RX12, "isLetter", "(I)Z"⟩
abbrev cX12_isDigit : ByteArray := prog_14_method_10_code
def yX12_isDigit : MethodName := ⟨RX12, "isDigit", "(I)Z"⟩
abbrev cX12_nextToken : ByteArray := prog_14_method_11_code
def yX12_nextToken : MethodName := ⟨RX12, "nextToken", "()V"⟩
abbrev cX12_wordHere : ByteArray := prog_14_method_12_code
def yX12_wordHere : MethodName := ⟨RX12, "wordHere", "()I"⟩
abbrev cX12_number : ByteArray := prog_14_method_13_code
def yX12_number : MethodName := ⟨RX12, "number", "(III)Z"⟩
abbrev cX12_isOnLine : ByteArray := prog_14_method_14_code
def yX12_isOnLine : MethodName := ⟨RX12, "isOnLine", "(I)Z"⟩
abbrev cX12_readsRest : ByteArray := prog_14_method_15_code
def yX12_readsRest : MethodName := ⟨RX12, "readsRest", "(I)Z"⟩
abbrev cX12_addMeter : ByteArray := prog_14_method_16_code
def yX12_addMeter : MethodName := ⟨RX12, "addMeter", "(II)V"⟩
abbrev cX12_does : ByteArray := prog_14_method_17_code
def yX12_does : MethodName := ⟨RX12, "does", "(I)V"⟩
abbrev cX12_readsClause : ByteArray := prog_14_method_18_code
def yX12_readsClause : MethodName := ⟨RX12, "readsClause", "()Z"⟩
abbrev cX12_reads : ByteArray := prog_14_method_19_code
def yX12_reads : MethodName := ⟨RX12, "reads", "(Z)Z"⟩
abbrev cX12_fault : ByteArray := prog_14_method_20_code
def yX12_fault : MethodName := ⟨RX12, "fault", "()I"⟩
abbrev cX12_grid : ByteArray := prog_14_method_21_code
def yX12_grid : MethodName := ⟨RX12, "grid", "()I"⟩
abbrev cX12_layParts : ByteArray := prog_14_method_22_code
def yX12_layParts : MethodName := ⟨RX12, "layParts", "(I)I"⟩
abbrev cX12_layForests : ByteArray := prog_14_method_23_code
def yX12_layForests : MethodName := ⟨RX12, "layForests", "()V"⟩
abbrev cX12_isEnd : ByteArray := prog_14_method_24_code
def yX12_isEnd : MethodName := ⟨RX12, "isEnd", "(II)Z"⟩
abbrev cX12_linesAt : ByteArray := prog_14_method_25_code
def yX12_linesAt : MethodName := ⟨RX12, "linesAt", "(II)I"⟩
abbrev cX12_between : ByteArray := prog_14_method_26_code
def yX12_between : MethodName := ⟨RX12, "between", "(II)I"⟩
abbrev cX12_wide : ByteArray := prog_14_method_27_code
def yX12_wide : MethodName := ⟨RX12, "wide", "(II)I"⟩
abbrev cX12_mayServe : ByteArray := prog_14_method_28_code
def yX12_mayServe : MethodName := ⟨RX12, "mayServe", "(III)I"⟩
abbrev cX12_mayOf : ByteArray := prog_14_method_29_code
def yX12_mayOf : MethodName := ⟨RX12, "mayOf", "(II)I"⟩
abbrev cX12_layMore : ByteArray := prog_14_method_30_code
def yX12_layMore : MethodName := ⟨RX12, "layMore", "(III)V"⟩
abbrev cX12_layNone : ByteArray := prog_14_method_31_code
def yX12_layNone : MethodName := ⟨RX12, "layNone", "(I)V"⟩
abbrev cX12_layAll : ByteArray := prog_14_method_32_code
def yX12_layAll : MethodName := ⟨RX12, "layAll", "()V"⟩
abbrev cX12_rankAt : ByteArray := prog_14_method_33_code
def yX12_rankAt : MethodName := ⟨RX12, "rankAt", "(I)I"⟩
abbrev cX12_layTried : ByteArray := prog_14_method_34_code
def yX12_layTried : MethodName := ⟨RX12, "layTried", "(I)I"⟩
abbrev cX12_rank : ByteArray := prog_14_method_35_code
def yX12_rank : MethodName := ⟨RX12, "rank", "()I"⟩
abbrev cX12_tree : ByteArray := prog_14_method_36_code
def yX12_tree : MethodName := ⟨RX12, "tree", "()I"⟩
abbrev cX12_layServes : ByteArray := prog_14_method_37_code
def yX12_layServes : MethodName := ⟨RX12, "layServes", "()V"⟩
abbrev cX12_canDo : ByteArray := prog_14_method_38_code
def yX12_canDo : MethodName := ⟨RX12, "canDo", "(IIII)Z"⟩
abbrev cX12_isLine : ByteArray := prog_14_method_39_code
def yX12_isLine : MethodName := ⟨RX12, "isLine", "(I)Z"⟩
abbrev cX12_isNode : ByteArray := prog_14_method_40_code
def yX12_isNode : MethodName := ⟨RX12, "isNode", "(I)Z"⟩
abbrev cX12_isMeter : ByteArray := prog_14_method_41_code
def yX12_isMeter : MethodName := ⟨RX12, "isMeter", "(I)Z"⟩
abbrev cX12_isThere : ByteArray := prog_14_method_42_code
def yX12_isThere : MethodName := ⟨RX12, "isThere", "(II)Z"⟩
abbrev cX12_line : ByteArray := prog_14_method_43_code
def yX12_line : MethodName := ⟨RX12, "line", "(II)I"⟩
abbrev cX12_lineOf : ByteArray := prog_14_method_44_code
def yX12_lineOf : MethodName := ⟨RX12, "lineOf", "(I)I"⟩
abbrev cX12_isCritical : ByteArray := prog_14_method_45_code
def yX12_isCritical : MethodName := ⟨RX12, "isCritical", "(I)I"⟩
abbrev cX12_meter : ByteArray := prog_14_method_46_code
def yX12_meter : MethodName := ⟨RX12, "meter", "(II)I"⟩
abbrev cX12_bringsOf : ByteArray := prog_14_method_47_code
def yX12_bringsOf : MethodName := ⟨RX12, "bringsOf", "(II)I"⟩
abbrev cX12_offer : ByteArray := prog_14_method_48_code
def yX12_offer : MethodName := ⟨RX12, "offer", "(II)I"⟩
abbrev cX12_keepPast : ByteArray := prog_14_method_49_code
def yX12_keepPast : MethodName := ⟨RX12, "keepPast", "()V"⟩
abbrev cX12_put : ByteArray := prog_14_method_50_code
def yX12_put : MethodName := ⟨RX12, "put", "(II)I"⟩
abbrev cX12_turn : ByteArray := prog_14_method_51_code
def yX12_turn : MethodName := ⟨RX12, "turn", "(II)I"⟩
abbrev cX12_spoil : ByteArray := prog_14_method_52_code
def yX12_spoil : MethodName := ⟨RX12, "spoil", "(I)I"⟩
abbrev cX12_mend : ByteArray := prog_14_method_53_code
def yX12_mend : MethodName := ⟨RX12, "mend", "(I)I"⟩
abbrev cX12_cut : ByteArray := prog_14_method_54_code
def yX12_cut : MethodName := ⟨RX12, "cut", "(I)I"⟩
abbrev cX12_undo : ByteArray := prog_14_method_55_code
def yX12_undo : MethodName := ⟨RX12, "undo", "()I"⟩
abbrev cX12_keep : ByteArray := prog_14_method_56_code
def yX12_keep : MethodName := ⟨RX12, "keep", "(I)I"⟩
abbrev cX12_back : ByteArray := prog_14_method_57_code
def yX12_back : MethodName := ⟨RX12, "back", "(I)I"⟩
abbrev cX12_island : ByteArray := prog_14_method_58_code
def yX12_island : MethodName := ⟨RX12, "island", "(I)I"⟩
abbrev cX12_weak : ByteArray := prog_14_method_59_code
def yX12_weak : MethodName := ⟨RX12, "weak", "(I)I"⟩
abbrev cX12_wholeRank : ByteArray := prog_14_method_60_code
def yX12_wholeRank : MethodName := ⟨RX12, "wholeRank", "()I"⟩
abbrev cX12_costOf : ByteArray := prog_14_method_61_code
def yX12_costOf : MethodName := ⟨RX12, "costOf", "(I)I"⟩
abbrev cX12_isWhole : ByteArray := prog_14_method_62_code
def yX12_isWhole : MethodName := ⟨RX12, "isWhole", "(II)Z"⟩
abbrev cX12_deal : ByteArray := prog_14_method_63_code
def yX12_deal : MethodName := ⟨RX12, "deal", "(I)I"⟩
abbrev cX12_lost : ByteArray := prog_14_method_64_code
def yX12_lost : MethodName := ⟨RX12, "lost", "(I)I"⟩
abbrev cX12_brings : ByteArray := prog_14_method_65_code
def yX12_brings : MethodName := ⟨RX12, "brings", "(II)I"⟩
abbrev cX12_seen : ByteArray := prog_14_method_66_code
def yX12_seen : MethodName := ⟨RX12, "seen", "(II)I"⟩
abbrev cX12_forget : ByteArray := prog_14_method_67_code
def yX12_forget : MethodName := ⟨RX12, "forget", "()I"⟩
abbrev cX12_fit : ByteArray := prog_14_method_68_code
def yX12_fit : MethodName := ⟨RX12, "fit", "()I"⟩
abbrev cX12_wouldServe : ByteArray := prog_14_method_69_code
def yX12_wouldServe : MethodName := ⟨RX12, "wouldServe", "(II)I"⟩
abbrev cX12_ask : ByteArray := prog_14_method_70_code
def yX12_ask : MethodName := ⟨RX12, "ask", "()I"⟩
abbrev cX12_isTray : ByteArray := prog_14_method_71_code
def yX12_isTray : MethodName := ⟨RX12, "isTray", "(I)Z"⟩
abbrev cX12_tray : ByteArray := prog_14_method_72_code
def yX12_tray : MethodName := ⟨RX12, "tray", "(I)I"⟩
abbrev cX12_lay : ByteArray := prog_14_method_73_code
def yX12_lay : MethodName := ⟨RX12, "lay", "(III)I"⟩
abbrev cX12_take : ByteArray := prog_14_method_74_code
def yX12_take : MethodName := ⟨RX12, "take", "(II)I"⟩
abbrev cX12_all : ByteArray := prog_14_method_75_code
def yX12_all : MethodName := ⟨RX12, "all", "(II)I"⟩
abbrev cX12_drop : ByteArray := prog_14_method_76_code
def yX12_drop : MethodName := ⟨RX12, "drop", "(I)I"⟩
abbrev cX12_spare : ByteArray := prog_14_method_77_code
def yX12_spare : MethodName := ⟨RX12, "spare", "()I"⟩
abbrev cX12_allThings : ByteArray := prog_14_method_78_code
def yX12_allThings : MethodName := ⟨RX12, "allThings", "()I"⟩
abbrev cX12_count : ByteArray := prog_14_method_79_code
def yX12_count : MethodName := ⟨RX12, "count", "(I)I"⟩
def RJ6 : String := "java/lang/Integer"
def TJ6 : u_T := fun k => match k with
  | _ => ("", "", "", false)
def tyJ6 : Nat → FieldType := fun k => match k with
  | _ => .int
theorem nmJ6 : ∀ a, a < 0 → ∀ b, b < 0 → a ≠ b → (TJ6 a).2.1 ≠ (TJ6 b).2.1 := by decide +kernel
theorem tyJ6_ok : ∀ k, k < 0 → parseFieldDescriptor (TJ6 k).2.2.1 = some (tyJ6 k) := by decide +kernel
abbrev cJ6_bitCount_0f7a4 : ByteArray := prog_15_method_49_code
def yJ6_bitCount_0f7a4 : MethodName := ⟨RJ6, "bitCount", "(I)I"⟩
def RJ13 : String := "java/lang/Long"
def TJ13 : u_T := fun k => match k with
  | _ => ("", "", "", false)
def tyJ13 : Nat → FieldType := fun k => match k with
  | _ => .int
theorem nmJ13 : ∀ a, a < 0 → ∀ b, b < 0 → a ≠ b → (TJ13 a).2.1 ≠ (TJ13 b).2.1 := by decide +kernel
theorem tyJ13_ok : ∀ k, k < 0 → parseFieldDescriptor (TJ13 k).2.2.1 = some (tyJ13 k) := by decide +kernel
abbrev cJ13_bitCount_95d88 : ByteArray := prog_16_method_50_code
def yJ13_bitCount_95d88 : MethodName := ⟨RJ13, "bitCount", "(J)I"⟩
def RJ9 : String := "java/lang/Math"
def TJ9 : u_T := fun k => match k with
  | _ => ("", "", "", false)
def tyJ9 : Nat → FieldType := fun k => match k with
  | _ => .int
theorem nmJ9 : ∀ a, a < 0 → ∀ b, b < 0 → a ≠ b → (TJ9 a).2.1 ≠ (TJ9 b).2.1 := by decide +kernel
theorem tyJ9_ok : ∀ k, k < 0 → parseFieldDescriptor (TJ9 k).2.2.1 = some (tyJ9 k) := by decide +kernel
abbrev cJ9_max_7cf53 : ByteArray := prog_17_method_65_code
def yJ9_max_7cf53 : MethodName := ⟨RJ9, "max", "(II)I"⟩
abbrev cJ9_min_7cf53 : ByteArray := prog_17_method_69_code
def yJ9_min_7cf53 : MethodName := ⟨RJ9, "min", "(II)I"⟩
def RJ0 : String := "java/lang/String"
def TJ0 : u_T := fun k => match k with
  | _ => ("", "", "", false)
def tyJ0 : Nat → FieldType := fun k => match k with
  | _ => .int
theorem nmJ0 : ∀ a, a < 0 → ∀ b, b < 0 → a ≠ b → (TJ0 a).2.1 ≠ (TJ0 b).2.1 := by decide +kernel
theorem tyJ0_ok : ∀ k, k < 0 → parseFieldDescriptor (TJ0 k).2.2.1 = some (tyJ0 k) := by decide +kernel
abbrev cJ0_length_8abf5 : ByteArray := prog_18_method_54_code
def yJ0_length_8abf5 : MethodName := ⟨RJ0, "length", "()I"⟩
abbrev cJ0_charAt_5068e : ByteArray := prog_18_method_56_code
def yJ0_charAt_5068e : MethodName := ⟨RJ0, "charAt", "(I)C"⟩
abbrev cJ0_coder_7d493 : ByteArray := prog_18_method_152_code
def yJ0_coder_7d493 : MethodName := ⟨RJ0, "coder", "()B"⟩
abbrev cJ0_isLatin1_aae02 : ByteArray := prog_18_method_154_code
def yJ0_isLatin1_aae02 : MethodName := ⟨RJ0, "isLatin1", "()Z"⟩
abbrev cJ0_checkIndex_df160 : ByteArray := prog_18_method_155_code
def yJ0_checkIndex_df160 : MethodName := ⟨RJ0, "checkIndex", "(II)V"⟩
def RJ1 : String := "java/lang/StringLatin1"
def TJ1 : u_T := fun k => match k with
  | _ => ("", "", "", false)
def tyJ1 : Nat → FieldType := fun k => match k with
  | _ => .int
theorem nmJ1 : ∀ a, a < 0 → ∀ b, b < 0 → a ≠ b → (TJ1 a).2.1 ≠ (TJ1 b).2.1 := by decide +kernel
theorem tyJ1_ok : ∀ k, k < 0 → parseFieldDescriptor (TJ1 k).2.2.1 = some (tyJ1 k) := by decide +kernel
abbrev cJ1_charAt_3b067 : ByteArray := prog_19_method_2_code
def yJ1_charAt_3b067 : MethodName := ⟨RJ1, "charAt", "([BI)C"⟩
def RJ2 : String := "java/lang/StringUTF16"
def TJ2 : u_T := fun k => match k with
  | _ => ("", "", "", false)
def tyJ2 : Nat → FieldType := fun k => match k with
  | _ => .int
theorem nmJ2 : ∀ a, a < 0 → ∀ b, b < 0 → a ≠ b → (TJ2 a).2.1 ≠ (TJ2 b).2.1 := by decide +kernel
theorem tyJ2_ok : ∀ k, k < 0 → parseFieldDescriptor (TJ2 k).2.2.1 = some (tyJ2 k) := by decide +kernel
abbrev cJ2_getChar_3b067 : ByteArray := prog_20_method_5_code
def yJ2_getChar_3b067 : MethodName := ⟨RJ2, "getChar", "([BI)C"⟩
abbrev cJ2_length_9d52b : ByteArray := prog_20_method_6_code
def yJ2_length_9d52b : MethodName := ⟨RJ2, "length", "([B)I"⟩
abbrev cJ2_charAt_3b067 : ByteArray := prog_20_method_83_code
def yJ2_charAt_3b067 : MethodName := ⟨RJ2, "charAt", "([BI)C"⟩
abbrev cJ2_checkIndex_2214a : ByteArray := prog_20_method_91_code
def yJ2_checkIndex_2214a : MethodName := ⟨RJ2, "checkIndex", "(I[B)V"⟩
def RJ10 : String := "java/lang/System"
def TJ10 : u_T := fun k => match k with
  | _ => ("", "", "", false)
def tyJ10 : Nat → FieldType := fun k => match k with
  | _ => .int
theorem nmJ10 : ∀ a, a < 0 → ∀ b, b < 0 → a ≠ b → (TJ10 a).2.1 ≠ (TJ10 b).2.1 := by decide +kernel
theorem tyJ10_ok : ∀ k, k < 0 → parseFieldDescriptor (TJ10 k).2.2.1 = some (tyJ10 k) := by decide +kernel
def RJ3 : String := "jdk/internal/util/Preconditions"
def TJ3 : u_T := fun k => match k with
  | _ => ("", "", "", false)
def tyJ3 : Nat → FieldType := fun k => match k with
  | _ => .int
theorem nmJ3 : ∀ a, a < 0 → ∀ b, b < 0 → a ≠ b → (TJ3 a).2.1 ≠ (TJ3 b).2.1 := by decide +kernel
theorem tyJ3_ok : ∀ k, k < 0 → parseFieldDescriptor (TJ3 k).2.2.1 = some (tyJ3 k) := by decide +kernel
abbrev cJ3_checkIndex_8e157 : ByteArray := prog_22_method_11_code
def yJ3_checkIndex_8e157 : MethodName := ⟨RJ3, "checkIndex", "(IILjava/util/function/BiFunction;)I"⟩
abbrev cL_law : ByteArray := code
abbrev vwCl : List vw_C := [(RX0, TX0, 2), (RX1, TX1, 3), (RX2, TX2, 1), (RX3, TX3, 11), (RX4, TX4, 7), (RX5, TX5, 4), (RX6, TX6, 19), (RX7, TX7, 3), (RX8, TX8, 5), (RX9, TX9, 4), (RX10, TX10, 2), (RX11, TX11, 9), (RX12, TX12, 31)]
end
section
/-! the tables' words that a method may take with it -/
def lw_gt : List Cond := lw_tbl.filter goodWord
theorem gt_of {w : Cond} (i : Nat) (h : lw_tbl[i]? = some w) (hg : goodWord w = true) : w ∈ lw_gt := List.mem_filter.mpr ⟨List.mem_of_getElem? h, hg⟩
theorem gt_good {y : MethodName} {cc : ByteArray} {n : Nat} {r : Option FieldType} (h : Cond.code y cc n r ∈ lw_gt) : GoodIn lw_gt (Cond.code y cc n r :: lw_gt) := by
  intro w hw
  rcases List.mem_cons.mp hw with rfl | hw
  · exact ⟨h, good_of_word (List.mem_filter.mp h).2⟩
  · exact ⟨hw, good_of_word (List.mem_filter.mp hw).2⟩
/-! the world: cells 0 .. n less 1 of a fixed shape; N holds the ints of a cell (an object's int fields by slot, an array's elements by place), L the longs -/
abbrev ux_Sh : Type := Nat × Nat × Nat × List (Option Nat)
abbrev ux_N : Type := Nat → Nat → Int32
abbrev ux_L : Type := Nat → Nat → Int64
abbrev ux_G : Type := List ux_Sh × va_G × (Nat → ClassId) × (Nat → Nat) × (Nat → Nat)
def ux_v (ad : Nat → Nat) (f : Nat → Int32) (k : Nat) (o : Option Nat) : Value := match o with
  | none => .int (f k)
  | some j => .ref (ad j)
def ux_E (cy : Nat → ClassId) (ad : Nat → Nat) (f : Nat → Int32) (g : Nat → Int64) (q : ux_Sh) : va_E := match q.1 with
  | 0 => .inr (q.2.1, q.2.2.2.mapIdx (ux_v ad f))
  | 1 => .inl (cy q.2.1, q.2.2.1, .inl f)
  | 2 => .inl (cy q.2.1, q.2.2.1, .inr (.inl g))
  | _ => .inl (cy q.2.1, q.2.2.1, .inr (.inr (.inr (.inr (fun i => (q.2.2.2.getD i none).map ad)))))
abbrev gad (G : ux_G) : Nat → Nat := G.2.2.2.1
abbrev gcy (G : ux_G) : Nat → ClassId := G.2.2.1
def ux_wl (G : ux_G) (N : ux_N) (L : ux_L) : va_W := G.1.mapIdx (fun k q => (gad G k, ux_E (gcy G) (gad G) (N k) (L k) q))
def ux_A (G : ux_G) : Nat → Prop := fun a => ∃ k, k < G.1.length ∧ a = gad G k
def ux_tys (G : ux_G) : List (ClassId × FieldType) := [(gcy G 0, .int), (gcy G 1, .boolean), (gcy G 2, .char), (gcy G 3, .long), (gcy G 4, .object "MeterDesk$Family"), (gcy G 5, .object "MeterDesk$Parts"), (gcy G 6, .object "MeterDesk$Standing"), (gcy G 7, .object "MeterDesk$Tray")]
def ux_ok (G : ux_G) (sh : List ux_Sh) : Prop := G.1 = sh ∧ (∀ i j, i < G.1.length → j < G.1.length → gad G i = gad G j → i = j)
/-! what the start gives that no cell of the world is: the two tables, the strings, the links among nest mates -/
def tb_lack : List Int64 := [6148914691236517205, 3689348814741910323, 1085102592571150095, 71777214294589695, 281470681808895, 4294967295]
def tb_sized : List Int64 := [1, 4295033110, 282668995843688, 78274679833913472, 1614655367130677248, 7530159316599308288, -9223372036854775808]
def tb_len : List Nat := [4, 4, 5, 4, 4, 4, 4, 4]
def tb_byt : List (List Int32) := [[103, 114, 105, 100], [108, 105, 110, 101], [111, 102, 102, 101, 114], [102, 108, 111, 119], [112, 97, 105, 114], [110, 111, 100, 101], [119, 105, 100, 101], [100, 117, 108, 108]]
def tb_str : List (Nat × String × Nat) := [(62, "grid", 0), (71, "line", 1), (76, "offer", 2), (88, "flow", 3), (90, "pair", 4), (92, "node", 5), (94, "wide", 6), (96, "dull", 7)]
def tb_nest : List (String × Nat × MethodName × String) := [("MeterDesk", 9, ⟨"MeterDesk$Plan", "<init>", "()V"⟩, "MeterDesk"), ("MeterDesk", 18, ⟨"MeterDesk$Reader", "<init>", "()V"⟩, "MeterDesk"), ("MeterDesk$Reader", 11, ⟨"MeterDesk$Plan", "<init>", "()V"⟩, "MeterDesk"), ("MeterDesk", 25, ⟨"MeterDesk$Standing", "<init>", "()V"⟩, "MeterDesk"), ("MeterDesk", 40, ⟨"MeterDesk$History", "<init>", "()V"⟩, "MeterDesk"), ("MeterDesk$Sight", 17, ⟨"MeterDesk$Family", "<init>", "()V"⟩, "MeterDesk"), ("MeterDesk$Trials", 21, ⟨"MeterDesk$Family", "<init>", "()V"⟩, "MeterDesk"), ("MeterDesk$Sight", 41, ⟨"MeterDesk$Parts", "<init>", "()V"⟩, "MeterDesk"), ("MeterDesk$Sight", 51, ⟨"MeterDesk$Servers", "<init>", "()V"⟩, "MeterDesk"), ("MeterDesk", 56, ⟨"MeterDesk$Sightings", "<init>", "()V"⟩, "MeterDesk"), ("MeterDesk", 67, ⟨"MeterDesk$Tray", "<init>", "()V"⟩, "MeterDesk"), ("MeterDesk$Sight", 76, ⟨"MeterDesk", "lowest", "(I)I"⟩, "MeterDesk"), ("MeterDesk$Servers", 33, ⟨"MeterDesk", "lowest", "(I)I"⟩, "MeterDesk"), ("MeterDesk$Trials", 30, ⟨"MeterDesk", "lowest", "(I)I"⟩, "MeterDesk")]
def ux_Z (A : Nat → Prop) (sa : Nat → Nat) (U : State) : Prop :=
  (va_Z "MeterDesk$Family" "LACKING" "[J" (.ref (sa 0)) A U U.heap ∧ va_T .long (sa 0) 6 (fun j => .long (tb_lack.getD j 0)) A U U.heap) ∧ (va_Z "MeterDesk$Family" "SIZED" "[J" (.ref (sa 1)) A U U.heap ∧ va_T .long (sa 1) 7 (fun j => .long (tb_sized.getD j 0)) A U U.heap) ∧
  (va_Z "java/lang/String" "COMPACT_STRINGS" "Z" (.int 1) A U U.heap ∧ va_Zq "jdk/internal/util/Preconditions" "SIOOBE_FORMATTER" "Ljava/util/function/BiFunction;" A U U.heap) ∧
  vk_S 8 tb_len tb_byt (fun i => sa (2 + i)) (fun i => sa (10 + i)) A U U.heap ∧ (∀ q ∈ tb_str, vk_R "MeterDesk$Reader" q.1 q.2.1 (sa (2 + q.2.2)) U) ∧ (∀ q ∈ tb_nest, va_Nw (.methodLinkNest q.1 q.2.1 q.2.2.1 q.2.2.2) U)
theorem ux_Z.same {A : Nat → Prop} {sa : Nat → Nat} {u U : State} (hv : U.vm = u.vm) (hh : U.heap = u.heap) (h : ux_Z A sa u) : ux_Z A sa U := by
  have al : u.vm.Alike U.vm := by rw [hv]; exact Vm.Alike.refl _
  obtain ⟨⟨a1, a2⟩, ⟨a3, a4⟩, ⟨a5, a6⟩, a7, a8, a9⟩ := h
  unfold ux_Z
  rw [hh]
  exact ⟨⟨a1.moved al, a2.moved al⟩, ⟨a3.moved al, a4.moved al⟩, ⟨a5.moved al, a6.moved al⟩, a7.moved al, fun q hq => vk_R.same hv (a8 q hq), fun q hq => va_Nw.same rfl hv.symm (a9 q hq)⟩
theorem ux_Z.call {A : Nat → Prop} {sa : Nat → Nat} {s U : State} {H : Heap} {locs : List Loc} (hW : s.WarmedH U.vm) (hS : va_S A s.heap H locs) (hU : U.heap = H) (h : ux_Z A sa s) : ux_Z A sa U := by
  have al := hW.alike
  have kp : ∀ a : Nat, a < s.heap.size → ¬ A a → U.heap[a]? = s.heap[a]? := by rw [hU]; exact hS.2.1
  obtain ⟨⟨a1, a2⟩, ⟨a3, a4⟩, ⟨a5, a6⟩, a7, a8, a9⟩ := h
  exact ⟨⟨(a1.kept kp).moved al, (a2.kept kp).moved al⟩, ⟨(a3.kept kp).moved al, (a4.kept kp).moved al⟩, ⟨(a5.kept kp).moved al, (a6.kept kp).moved al⟩, (a7.kept kp).moved al, fun q hq => (a8 q hq).warm hW, fun q hq => (a9 q hq).warmM hW⟩
theorem ux_at {G : ux_G} {N : ux_N} {L : ux_L} {k : Nat} {q : ux_Sh} (h : G.1[k]? = some q) : (ux_wl G N L)[k]? = some (gad G k, ux_E (gcy G) (gad G) (N k) (L k) q) := by
  unfold ux_wl
  rw [List.getElem?_mapIdx, h]
  rfl
theorem ux_at_inv {G : ux_G} {N : ux_N} {L : ux_L} {k : Nat} {x : Nat × va_E} (h : (ux_wl G N L)[k]? = some x) : k < G.1.length ∧ x.1 = gad G k := by
  unfold ux_wl at h
  rw [List.getElem?_mapIdx] at h
  cases hq : G.1[k]? with
  | none => rw [hq] at h; cases h
  | some q =>
    rw [hq] at h
    cases h
    exact ⟨(List.getElem?_eq_some_iff.mp hq).1, rfl⟩
theorem ux_D {G : ux_G} {sh : List ux_Sh} (h : ux_ok G sh) (N : ux_N) (L : ux_L) : va_D (ux_A G) (ux_wl G N L) := by
  refine ⟨fun i j x y hi hj hxy => ?_, fun k q hk => ?_⟩
  · obtain ⟨h1, h2⟩ := ux_at_inv hi
    obtain ⟨h3, h4⟩ := ux_at_inv hj
    exact h.2 i j h1 h3 (by rw [← h2, ← h4]; exact hxy)
  · obtain ⟨h1, h2⟩ := ux_at_inv hk
    exact ⟨k, h1, h2⟩
theorem ux_set {G : ux_G} {N N' : ux_N} {L L' : ux_L} {h : Nat} {q : ux_Sh} {e : va_E} (hs : G.1[h]? = some q) (he : ux_E (gcy G) (gad G) (N' h) (L' h) q = e) (hN : ∀ j, j ≠ h → N' j = N j) (hL : ∀ j, j ≠ h → L' j = L j) : (ux_wl G N L).set h (gad G h, e) = ux_wl G N' L' := by
  subst he
  apply List.ext_getElem?
  intro j
  by_cases hj : j = h
  · subst hj
    rw [List.getElem?_set_self (by unfold ux_wl; rw [List.length_mapIdx]; exact (List.getElem?_eq_some_iff.mp hs).1), ux_at hs]
  · rw [List.getElem?_set_ne (Ne.symm hj)]
    unfold ux_wl
    rw [List.getElem?_mapIdx, List.getElem?_mapIdx, hN j hj, hL j hj]
def ux_u (N : ux_N) (h k : Nat) (v : Int32) : ux_N := fun a => if a = h then upd (N h) k v else N a
def ux_w (L : ux_L) (h k : Nat) (v : Int64) : ux_L := fun a => if a = h then vp_updL (L h) k v else L a
def ux_cpN (N : ux_N) (src dst sp dp n : Nat) : ux_N := fun a => if a = dst then va_cpy (N src) (N dst) sp dp n else N a
def ux_cpL (L : ux_L) (src dst sp dp n : Nat) : ux_L := fun a => if a = dst then va_cpy (L src) (L dst) sp dp n else L a
theorem ux_fset {ad : Nat → Nat} {f : Nat → Int32} {fks : List (Option Nat)} {k : Nat} {v : Int32} (hk : fks[k]? = some none) : (fks.mapIdx (ux_v ad f)).set k (.int v) = fks.mapIdx (ux_v ad (upd f k v)) := by
  apply List.ext_getElem?
  intro j
  by_cases hj : j = k
  · subst hj
    rw [List.getElem?_set_self (by rw [List.length_mapIdx]; exact (List.getElem?_eq_some_iff.mp hk).1), List.getElem?_mapIdx, hk]
    simp [ux_v, upd]
  · rw [List.getElem?_set_ne (Ne.symm hj), List.getElem?_mapIdx, List.getElem?_mapIdx]
    cases fks[j]? with
    | none => rfl
    | some o => cases o <;> simp [ux_v, upd, hj]
/-- a field's link: entry idx of own's pool names slot k of kind ci -/
def ux_FL (own : String) (idx ci k : Nat) : Prop := ∃ (CN : String) (T : u_T) (n : Nat), vwCl[ci]? = some (CN, T, n) ∧ (∀ w ∈ u_ws CN T n, w ∈ lw_gt) ∧ k < n ∧ Cond.fieldLink own idx (T k).1 (T k).2.1 (T k).2.2.1 ∈ lw_gt
def ux_FP (own : String) (idx ci k : Nat) (ty : FieldType) : Prop := (∃ (CN : String) (T : u_T) (n : Nat), vwCl[ci]? = some (CN, T, n) ∧ (∀ w ∈ u_ws CN T n, w ∈ lw_gt) ∧ k < n ∧ Cond.fieldLink own idx (T k).1 (T k).2.1 (T k).2.2.1 ∈ lw_gt ∧ ∃ ty0 : Nat → FieldType, (∀ k, k < n → parseFieldDescriptor (T k).2.2.1 = some (ty0 k)) ∧ (∀ a, a < n → ∀ b, b < n → a ≠ b → (T a).2.1 ≠ (T b).2.1) ∧ (T k).2.2.2 = false ∧ parseFieldDescriptor (T k).2.2.1 = some ty)
def ux_LA (own : String) (idx : Nat) : Prop := Cond.methodLink own idx arraycopyName ∈ lw_gt ∧ Cond.native arraycopyName ∈ lw_gt ∧ Cond.static arraycopyName ∈ lw_gt ∧ Cond.initialized "java/lang/System" ∈ lw_gt
/-! guards and loops of the pure side -/
def ux_in (i : Int32) (n : Nat) : Bool := decide (¬ (i < 0 ∨ n ≤ i.toNatClampNeg))
theorem ux_in_p {i : Int32} {n : Nat} (h : ux_in i n = true) : vp_in i n := of_decide_eq_true (p := ¬ (i < 0 ∨ n ≤ i.toNatClampNeg)) h
theorem ux_in_lt {i : Int32} {n : Nat} (h : ux_in i n = true) : i.toNatClampNeg < n := Nat.not_le.mp fun z => ux_in_p h (Or.inr z)
def ux_b (v : Int32) : Bool := decide (v = 0 ∨ v = 1)
theorem ux_b_n {v : Int32} (h : ux_b v = true) : narrow .boolean (.int v) = .int v ∧ fits .boolean (.int v) = true := by
  rcases of_decide_eq_true h with rfl | rfl <;> exact ⟨by decide, by decide⟩
theorem ux_guard {α : Type} {b : Bool} {a : Option α} {o : α} (h : (if b = true then a else none) = some o) : b = true ∧ a = some o := by
  cases b with
  | true => exact ⟨rfl, by rw [if_pos rfl] at h; exact h⟩
  | false => rw [if_neg (by decide)] at h; cases h
def ux_lp {S E : Type} (b : S → Option (S ⊕ E)) : Nat → S → Option E
  | 0, _ => none
  | n + 1, s => (b s).bind (Sum.elim (ux_lp b n) some)
def ux_fu : Nat := 1048576
theorem ux_loop {S E : Type} (b : S → Option (S ⊕ E)) (Wh : S → Prop) {e : E} (hb : ∀ s o, b s = some o → (∀ s', o = .inl s' → Wh s') → (∀ e', o = .inr e' → e' = e) → Wh s) : ∀ {n : Nat} {s : S}, ux_lp b n s = some e → Wh s := by
  intro n
  induction n with
  | zero => intro s h; cases h
  | succ n ih =>
    intro s h
    obtain ⟨o, h1, h2⟩ := Option.bind_eq_some_iff.mp h
    refine hb s o h1 (fun s' hs => ?_) (fun e' he => ?_)
    · subst hs; exact ih h2
    · subst he; exact Option.some.inj h2
/-! a method under way -/
abbrev ux_X : Type := Program × Launch × Env × Room × State × MethodId × Array Value × List Frame × Method × Code × ux_G × (State → Prop)
abbrev xp (X : ux_X) : Program := X.1
abbrev xl (X : ux_X) : Launch := X.2.1
abbrev xe (X : ux_X) : Env := X.2.2.1
abbrev xR (X : ux_X) : Room := X.2.2.2.1
abbrev xs (X : ux_X) : State := X.2.2.2.2.1
abbrev xm (X : ux_X) : MethodId := X.2.2.2.2.2.1
abbrev xa (X : ux_X) : Array Value := X.2.2.2.2.2.2.1
abbrev xb (X : ux_X) : List Frame := X.2.2.2.2.2.2.2.1
abbrev xme (X : ux_X) : Method := X.2.2.2.2.2.2.2.2.1
abbrev xc (X : ux_X) : Code := X.2.2.2.2.2.2.2.2.2.1
abbrev xG (X : ux_X) : ux_G := X.2.2.2.2.2.2.2.2.2.2.1
abbrev xQ (X : ux_X) : State → Prop := X.2.2.2.2.2.2.2.2.2.2.2
def ux_ad (X : ux_X) (h : Nat) : Nat := gad (xG X) h
abbrev ux_Wx (X : ux_X) (H : Heap) (locs : List Loc) (g : JFrame) : Prop := W (xp X) (xl X) (xe X) (xR X) (xs X) (xm X) (xa X) (xb X) (xme X) (xc X) H locs 0 0 (xQ X) g
def ux_Wt (X : ux_X) (nL pc : Nat) (lv : List (Nat × Value)) (st : List Value) (N : ux_N) (L : ux_L) : Prop :=
  ∀ (H : Heap) (locs : List Loc) (ls : Array Slot), va_P (xG X).2.1 vwCl (ux_wl (xG X) N L) H → va_S (ux_A (xG X)) (xs X).heap H locs → lv_has ls nL lv → ux_Wx X H locs (F0 (xm X) pc ls st)
def ux_C (X : ux_X) (cc : ByteArray) (own : String) (nL : Nat) (ret : Option FieldType) (fr lo : Nat) (sh : List ux_Sh) : Prop :=
  ((xp X).tables.exec = Jvm.exec ∧ (xc X).code = cc) ∧ (xme X).sig.returnType = ret ∧ (xc X).maxLocals = nL ∧ (xs X).vm.findClass own = some (xm X).cls ∧ (∀ w ∈ lw_gt, w.before (xa X) (xs X) = true) ∧ (xme X).locks = false ∧ (fr ≤ (xR X).frames ∧ lo ≤ (xR X).locals) ∧ ux_ok (xG X) sh ∧ va_K (xG X).2.1 vwCl (ux_tys (xG X)) (xs X) ∧ ux_Z (ux_A (xG X)) (xG X).2.2.2.2 (xs X)
section UXC
variable {X : ux_X} {cc : ByteArray} {own : String} {nL : Nat} {ret : Option FieldType} {fr lo : Nat} {sh : List ux_Sh}
theorem cx_x (C : ux_C X cc own nL ret fr lo sh) : (xp X).tables.exec = Jvm.exec := C.1.1
theorem cx_b (C : ux_C X cc own nL ret fr lo sh) : (xc X).code = cc := C.1.2
theorem cx_r (C : ux_C X cc own nL ret fr lo sh) : (xme X).sig.returnType = ret := C.2.1
theorem cx_m (C : ux_C X cc own nL ret fr lo sh) : (xc X).maxLocals = nL := C.2.2.1
theorem cx_o (C : ux_C X cc own nL ret fr lo sh) : (xs X).vm.findClass own = some (xm X).cls := C.2.2.2.1
theorem cx_t (C : ux_C X cc own nL ret fr lo sh) : ∀ w ∈ lw_gt, w.before (xa X) (xs X) = true := C.2.2.2.2.1
theorem cx_l (C : ux_C X cc own nL ret fr lo sh) : (xme X).locks = false := C.2.2.2.2.2.1
theorem cx_fr (C : ux_C X cc own nL ret fr lo sh) : fr ≤ (xR X).frames := C.2.2.2.2.2.2.1.1
theorem cx_lo (C : ux_C X cc own nL ret fr lo sh) : lo ≤ (xR X).locals := C.2.2.2.2.2.2.1.2
theorem cx_ok (C : ux_C X cc own nL ret fr lo sh) : ux_ok (xG X) sh := C.2.2.2.2.2.2.2.1
theorem cx_K (C : ux_C X cc own nL ret fr lo sh) : va_K (xG X).2.1 vwCl (ux_tys (xG X)) (xs X) := C.2.2.2.2.2.2.2.2.1
theorem cx_Z (C : ux_C X cc own nL ret fr lo sh) : ux_Z (ux_A (xG X)) (xG X).2.2.2.2 (xs X) := C.2.2.2.2.2.2.2.2.2
theorem cx_s (C : ux_C X cc own nL ret fr lo sh) {h : Nat} {q : ux_Sh} (hs : sh[h]? = some q) : (xG X).1[h]? = some q := by rw [(cx_ok C).1]; exact hs
variable {pc : Nat} {lv lv' : List (Nat × Value)} {st : List Value} {N : ux_N} {L : ux_L}
theorem wt_sub (ks : List Nat) (h : lv_pick lv ks = lv') (k : ux_Wt X nL pc lv' st N L) : ux_Wt X nL pc lv st N L := fun H locs ls hP hS hl => k H locs ls hP hS (lv_sub hl ks h)
theorem wt_iconst (q : Nat) {n : Int} (v : Int32) (C : ux_C X cc own nL ret fr lo sh) (hd : decode cc pc = .ok (.iconst n, 1)) (hq : pc + 1 = q) (hv : Int32.ofInt n = v) (k : ux_Wt X nL q lv (.int v :: st) N L) : ux_Wt X nL pc lv st N L := by
  subst hq; exact fun H locs ls hP hS hl => lv_iconst (cx_x C) (cx_b C) hd hv (k H locs ls hP hS hl)
theorem wt_bipush (q : Nat) {n : Int} (v : Int32) (C : ux_C X cc own nL ret fr lo sh) (hd : decode cc pc = .ok (.bipush n, 2)) (hq : pc + 2 = q) (hv : (Int8.ofInt n).toInt32 = v) (k : ux_Wt X nL q lv (.int v :: st) N L) : ux_Wt X nL pc lv st N L := by
  subst hq; exact fun H locs ls hP hS hl => lv_bipush (cx_x C) (cx_b C) hd hv (k H locs ls hP hS hl)
theorem wt_sipush (q : Nat) {n : Int} (v : Int32) (C : ux_C X cc own nL ret fr lo sh) (hd : decode cc pc = .ok (.sipush n, 3)) (hq : pc + 3 = q) (hv : (Int16.ofInt n).toInt32 = v) (k : ux_Wt X nL q lv (.int v :: st) N L) : ux_Wt X nL pc lv st N L := by
  subst hq; exact fun H locs ls hP hS hl => lv_sipush (cx_x C) (cx_b C) hd hv (k H locs ls hP hS hl)
theorem wt_lconst (q : Nat) {n : Fin 2} (v : Int64) (C : ux_C X cc own nL ret fr lo sh) (hd : decode cc pc = .ok (.lconst n, 1)) (hq : pc + 1 = q) (hv : Int64.ofNat (n : Nat) = v) (k : ux_Wt X nL q lv (.long v :: st) N L) : ux_Wt X nL pc lv st N L := by
  subst hq; exact fun H locs ls hP hS hl => lv_lconst (cx_x C) (cx_b C) hd hv (k H locs ls hP hS hl)
theorem wt_ldc (q : Nat) {i : Nat} {v : Int32} (C : ux_C X cc own nL ret fr lo sh) (hc : Cond.constant own i v ∈ lw_gt) (hd : decode cc pc = .ok (.ldc i, 2)) (hq : pc + 2 = q) (k : ux_Wt X nL q lv (.int v :: st) N L) : ux_Wt X nL pc lv st N L := by
  subst hq; exact fun H locs ls hP hS hl => lv_ldc (cx_x C) (cx_b C) (cx_o C) (cx_t C _ hc) hd (k H locs ls hP hS hl)
theorem wt_ldcw (q : Nat) {i : Nat} {v : Int32} (C : ux_C X cc own nL ret fr lo sh) (hc : Cond.constant own i v ∈ lw_gt) (hd : decode cc pc = .ok (.ldc_w i, 3)) (hq : pc + 3 = q) (k : ux_Wt X nL q lv (.int v :: st) N L) : ux_Wt X nL pc lv st N L := by
  subst hq; exact fun H locs ls hP hS hl => lv_ldcw (cx_x C) (cx_b C) (cx_o C) (cx_t C _ hc) hd (k H locs ls hP hS hl)
theorem wt_ldc2 (q : Nat) {i : Nat} {v : Int64} (C : ux_C X cc own nL ret fr lo sh) (hc : Cond.constantLong own i v ∈ lw_gt) (hd : decode cc pc = .ok (.ldc2_w i, 3)) (hq : pc + 3 = q) (k : ux_Wt X nL q lv (.long v :: st) N L) : ux_Wt X nL pc lv st N L := by
  subst hq; exact fun H locs ls hP hS hl => lv_ldc2 (cx_x C) (cx_b C) (cx_o C) (cx_t C _ hc) hd (k H locs ls hP hS hl)
theorem wt_iload_n (q j : Nat) {i : Fin 4} {x : Int32} (C : ux_C X cc own nL ret fr lo sh) (hd : decode cc pc = .ok (.iload_n i, 1)) (hq : pc + 1 = q) (hl : lv[j]? = some ((i : Nat), .int x)) (k : ux_Wt X nL q lv (.int x :: st) N L) : ux_Wt X nL pc lv st N L := by
  subst hq; exact fun H locs ls hP hS hv => lv_iload_n (cx_x C) (cx_b C) hd rfl (lv_at hv j hl) (k H locs ls hP hS hv)
theorem wt_iload (q j : Nat) {i : Nat} {x : Int32} (C : ux_C X cc own nL ret fr lo sh) (hd : decode cc pc = .ok (.iload i, 2)) (hq : pc + 2 = q) (hl : lv[j]? = some (i, .int x)) (k : ux_Wt X nL q lv (.int x :: st) N L) : ux_Wt X nL pc lv st N L := by
  subst hq; exact fun H locs ls hP hS hv => lv_iload (cx_x C) (cx_b C) hd (lv_at hv j hl) (k H locs ls hP hS hv)
theorem wt_lload_n (q j : Nat) {i : Fin 4} {x : Int64} (C : ux_C X cc own nL ret fr lo sh) (hd : decode cc pc = .ok (.lload_n i, 1)) (hq : pc + 1 = q) (hl : lv[j]? = some ((i : Nat), .long x)) (k : ux_Wt X nL q lv (.long x :: st) N L) : ux_Wt X nL pc lv st N L := by
  subst hq; exact fun H locs ls hP hS hv => lv_lload_n (cx_x C) (cx_b C) hd rfl (lv_at hv j hl) (k H locs ls hP hS hv)
theorem wt_lload (q j : Nat) {i : Nat} {x : Int64} (C : ux_C X cc own nL ret fr lo sh) (hd : decode cc pc = .ok (.lload i, 2)) (hq : pc + 2 = q) (hl : lv[j]? = some (i, .long x)) (k : ux_Wt X nL q lv (.long x :: st) N L) : ux_Wt X nL pc lv st N L := by
  subst hq; exact fun H locs ls hP hS hv => lv_lload (cx_x C) (cx_b C) hd (lv_at hv j hl) (k H locs ls hP hS hv)
theorem wt_aload_n (q j : Nat) {i : Fin 4} {x : Nat} (C : ux_C X cc own nL ret fr lo sh) (hd : decode cc pc = .ok (.aload_n i, 1)) (hq : pc + 1 = q) (hl : lv[j]? = some ((i : Nat), .ref x)) (k : ux_Wt X nL q lv (.ref x :: st) N L) : ux_Wt X nL pc lv st N L := by
  subst hq; exact fun H locs ls hP hS hv => lv_aload_n (cx_x C) (cx_b C) hd rfl (lv_at hv j hl) (k H locs ls hP hS hv)
theorem wt_aload (q j : Nat) {i : Nat} {x : Nat} (C : ux_C X cc own nL ret fr lo sh) (hd : decode cc pc = .ok (.aload i, 2)) (hq : pc + 2 = q) (hl : lv[j]? = some (i, .ref x)) (k : ux_Wt X nL q lv (.ref x :: st) N L) : ux_Wt X nL pc lv st N L := by
  subst hq; exact fun H locs ls hP hS hv => lv_aload (cx_x C) (cx_b C) hd (lv_at hv j hl) (k H locs ls hP hS hv)
abbrev ux_st1 (i : Nat) (v : Value) (lv : List (Nat × Value)) : List (Nat × Value) := (i, v) :: lv.filter (fun q => !(q.1 == i) && !(q.1 + 1 == i && q.2.category == 2))
abbrev ux_st2 (i : Nat) (v : Value) (lv : List (Nat × Value)) : List (Nat × Value) := (i, v) :: lv.filter (fun q => !(q.1 == i) && (!(q.1 == i + 1) && !(q.1 + 1 == i && q.2.category == 2)))
theorem wt_istore_n (q : Nat) (lv' : List (Nat × Value)) {i : Fin 4} {x : Int32} (C : ux_C X cc own nL ret fr lo sh) (hd : decode cc pc = .ok (.istore_n i, 1)) (hq : pc + 1 = q) (hn : (i : Nat) < nL) (hl : ux_st1 (i : Nat) (.int x) lv = lv') (k : ux_Wt X nL q lv' st N L) : ux_Wt X nL pc lv (.int x :: st) N L := by
  subst hq; exact fun H locs ls hP hS hv => lv_istore_n (cx_x C) (cx_b C) hd rfl hv hn hl (fun ls' hv' => k H locs ls' hP hS hv')
theorem wt_istore (q : Nat) (lv' : List (Nat × Value)) {i : Nat} {x : Int32} (C : ux_C X cc own nL ret fr lo sh) (hd : decode cc pc = .ok (.istore i, 2)) (hq : pc + 2 = q) (hn : i < nL) (hl : ux_st1 i (.int x) lv = lv') (k : ux_Wt X nL q lv' st N L) : ux_Wt X nL pc lv (.int x :: st) N L := by
  subst hq; exact fun H locs ls hP hS hv => lv_istore (cx_x C) (cx_b C) hd hv hn hl (fun ls' hv' => k H locs ls' hP hS hv')
theorem wt_lstore (q : Nat) (lv' : List (Nat × Value)) {i : Nat} {x : Int64} (C : ux_C X cc own nL ret fr lo sh) (hd : decode cc pc = .ok (.lstore i, 2)) (hq : pc + 2 = q) (hn : i + 1 < nL) (hl : ux_st2 i (.long x) lv = lv') (k : ux_Wt X nL q lv' st N L) : ux_Wt X nL pc lv (.long x :: st) N L := by
  subst hq; exact fun H locs ls hP hS hv => lv_lstore (cx_x C) (cx_b C) hd hv hn hl (fun ls' hv' => k H locs ls' hP hS hv')
theorem wt_lstore_n (q : Nat) (lv' : List (Nat × Value)) {i : Fin 4} {x : Int64} (C : ux_C X cc own nL ret fr lo sh) (hd : decode cc pc = .ok (.lstore_n i, 1)) (hq : pc + 1 = q) (hn : (i : Nat) + 1 < nL) (hl : ux_st2 (i : Nat) (.long x) lv = lv') (k : ux_Wt X nL q lv' st N L) : ux_Wt X nL pc lv (.long x :: st) N L := by
  subst hq; exact fun H locs ls hP hS hv => lv_lstore_n (cx_x C) (cx_b C) hd rfl hv hn hl (fun ls' hv' => k H locs ls' hP hS hv')
theorem wt_astore_n (q : Nat) (lv' : List (Nat × Value)) {i : Fin 4} {x : Nat} (C : ux_C X cc own nL ret fr lo sh) (hd : decode cc pc = .ok (.astore_n i, 1)) (hq : pc + 1 = q) (hn : (i : Nat) < nL) (hl : ux_st1 (i : Nat) (.ref x) lv = lv') (k : ux_Wt X nL q lv' st N L) : ux_Wt X nL pc lv (.ref x :: st) N L := by
  subst hq; exact fun H locs ls hP hS hv => lv_astore_n (cx_x C) (cx_b C) hd rfl hv hn hl (fun ls' hv' => k H locs ls' hP hS hv')
theorem wt_astore (q : Nat) (lv' : List (Nat × Value)) {i : Nat} {x : Nat} (C : ux_C X cc own nL ret fr lo sh) (hd : decode cc pc = .ok (.astore i, 2)) (hq : pc + 2 = q) (hn : i < nL) (hl : ux_st1 i (.ref x) lv = lv') (k : ux_Wt X nL q lv' st N L) : ux_Wt X nL pc lv (.ref x :: st) N L := by
  subst hq; exact fun H locs ls hP hS hv => lv_astore (cx_x C) (cx_b C) hd hv hn hl (fun ls' hv' => k H locs ls' hP hS hv')
theorem wt_iinc (q j : Nat) (lv' : List (Nat × Value)) {i : Nat} {n : Int} {x : Int32} (v : Int32) (C : ux_C X cc own nL ret fr lo sh) (hd : decode cc pc = .ok (.iinc i n, 3)) (hq : pc + 3 = q) (hk : lv[j]? = some (i, .int x)) (hv : x + Int32.ofInt n = v) (hn : i < nL) (hl : ux_st1 i (.int v) lv = lv') (k : ux_Wt X nL q lv' st N L) : ux_Wt X nL pc lv st N L := by
  subst hq; exact fun H locs ls hP hS hl' => lv_iinc (cx_x C) (cx_b C) hd hl' hk hv hn hl (fun ls' hv' => k H locs ls' hP hS hv')
theorem wt_iadd (q : Nat) {x y : Int32} (C : ux_C X cc own nL ret fr lo sh) (hd : decode cc pc = .ok (.iadd, 1)) (hq : pc + 1 = q) (k : ux_Wt X nL q lv (.int (x + y) :: st) N L) : ux_Wt X nL pc lv (.int y :: .int x :: st) N L := by
  subst hq; exact fun H locs ls hP hS hl => lv_iadd (cx_x C) (cx_b C) hd (k H locs ls hP hS hl)
theorem wt_isub (q : Nat) {x y : Int32} (C : ux_C X cc own nL ret fr lo sh) (hd : decode cc pc = .ok (.isub, 1)) (hq : pc + 1 = q) (k : ux_Wt X nL q lv (.int (x - y) :: st) N L) : ux_Wt X nL pc lv (.int y :: .int x :: st) N L := by
  subst hq; exact fun H locs ls hP hS hl => lv_isub (cx_x C) (cx_b C) hd (k H locs ls hP hS hl)
theorem wt_imul (q : Nat) {x y : Int32} (C : ux_C X cc own nL ret fr lo sh) (hd : decode cc pc = .ok (.imul, 1)) (hq : pc + 1 = q) (k : ux_Wt X nL q lv (.int (x * y) :: st) N L) : ux_Wt X nL pc lv (.int y :: .int x :: st) N L := by
  subst hq; exact fun H locs ls hP hS hl => lv_imul (cx_x C) (cx_b C) hd (k H locs ls hP hS hl)
theorem wt_iand (q : Nat) {x y : Int32} (C : ux_C X cc own nL ret fr lo sh) (hd : decode cc pc = .ok (.iand, 1)) (hq : pc + 1 = q) (k : ux_Wt X nL q lv (.int (x &&& y) :: st) N L) : ux_Wt X nL pc lv (.int y :: .int x :: st) N L := by
  subst hq; exact fun H locs ls hP hS hl => lv_iand (cx_x C) (cx_b C) hd (k H locs ls hP hS hl)
theorem wt_ior (q : Nat) {x y : Int32} (C : ux_C X cc own nL ret fr lo sh) (hd : decode cc pc = .ok (.ior, 1)) (hq : pc + 1 = q) (k : ux_Wt X nL q lv (.int (x ||| y) :: st) N L) : ux_Wt X nL pc lv (.int y :: .int x :: st) N L := by
  subst hq; exact fun H locs ls hP hS hl => lv_ior (cx_x C) (cx_b C) hd (k H locs ls hP hS hl)
theorem wt_ixor (q : Nat) {x y : Int32} (C : ux_C X cc own nL ret fr lo sh) (hd : decode cc pc = .ok (.ixor, 1)) (hq : pc + 1 = q) (k : ux_Wt X nL q lv (.int (x ^^^ y) :: st) N L) : ux_Wt X nL pc lv (.int y :: .int x :: st) N L := by
  subst hq; exact fun H locs ls hP hS hl => lv_ixor (cx_x C) (cx_b C) hd (k H locs ls hP hS hl)
theorem wt_ishl (q : Nat) {x y : Int32} (C : ux_C X cc own nL ret fr lo sh) (hd : decode cc pc = .ok (.ishl, 1)) (hq : pc + 1 = q) (k : ux_Wt X nL q lv (.int (x <<< (y &&& 31)) :: st) N L) : ux_Wt X nL pc lv (.int y :: .int x :: st) N L := by
  subst hq; exact fun H locs ls hP hS hl => lv_ishl (cx_x C) (cx_b C) hd (k H locs ls hP hS hl)
theorem wt_ishr (q : Nat) {x y : Int32} (C : ux_C X cc own nL ret fr lo sh) (hd : decode cc pc = .ok (.ishr, 1)) (hq : pc + 1 = q) (k : ux_Wt X nL q lv (.int (x >>> (y &&& 31)) :: st) N L) : ux_Wt X nL pc lv (.int y :: .int x :: st) N L := by
  subst hq; exact fun H locs ls hP hS hl => lv_ishr (cx_x C) (cx_b C) hd (k H locs ls hP hS hl)
theorem wt_idiv (q : Nat) {x y : Int32} (C : ux_C X cc own nL ret fr lo sh) (hd : decode cc pc = .ok (.idiv, 1)) (hq : pc + 1 = q) (hne : ¬ y = 0) (k : ux_Wt X nL q lv (.int (x / y) :: st) N L) : ux_Wt X nL pc lv (.int y :: .int x :: st) N L := by
  subst hq; exact fun H locs ls hP hS hl => lv_idiv (cx_x C) (cx_b C) hd hne (k H locs ls hP hS hl)
theorem wt_irem (q : Nat) {x y : Int32} (C : ux_C X cc own nL ret fr lo sh) (hd : decode cc pc = .ok (.irem, 1)) (hq : pc + 1 = q) (hne : ¬ y = 0) (k : ux_Wt X nL q lv (.int (x - x / y * y) :: st) N L) : ux_Wt X nL pc lv (.int y :: .int x :: st) N L := by
  subst hq; exact fun H locs ls hP hS hl => lv_irem (cx_x C) (cx_b C) hd hne (k H locs ls hP hS hl)
theorem wt_lsub (q : Nat) {x y : Int64} (C : ux_C X cc own nL ret fr lo sh) (hd : decode cc pc = .ok (.lsub, 1)) (hq : pc + 1 = q) (k : ux_Wt X nL q lv (.long (x - y) :: st) N L) : ux_Wt X nL pc lv (.long y :: .long x :: st) N L := by
  subst hq; exact fun H locs ls hP hS hl => lv_lsub (cx_x C) (cx_b C) hd (k H locs ls hP hS hl)
theorem wt_land (q : Nat) {x y : Int64} (C : ux_C X cc own nL ret fr lo sh) (hd : decode cc pc = .ok (.land, 1)) (hq : pc + 1 = q) (k : ux_Wt X nL q lv (.long (x &&& y) :: st) N L) : ux_Wt X nL pc lv (.long y :: .long x :: st) N L := by
  subst hq; exact fun H locs ls hP hS hl => lv_land (cx_x C) (cx_b C) hd (k H locs ls hP hS hl)
theorem wt_lor (q : Nat) {x y : Int64} (C : ux_C X cc own nL ret fr lo sh) (hd : decode cc pc = .ok (.lor, 1)) (hq : pc + 1 = q) (k : ux_Wt X nL q lv (.long (x ||| y) :: st) N L) : ux_Wt X nL pc lv (.long y :: .long x :: st) N L := by
  subst hq; exact fun H locs ls hP hS hl => lv_lor (cx_x C) (cx_b C) hd (k H locs ls hP hS hl)
theorem wt_ladd (q : Nat) {x y : Int64} (C : ux_C X cc own nL ret fr lo sh) (hd : decode cc pc = .ok (.ladd, 1)) (hq : pc + 1 = q) (k : ux_Wt X nL q lv (.long (x + y) :: st) N L) : ux_Wt X nL pc lv (.long y :: .long x :: st) N L := by
  subst hq; exact fun H locs ls hP hS hl => lv_ladd (cx_x C) (cx_b C) hd (k H locs ls hP hS hl)
theorem wt_ineg (q : Nat) {x : Int32} (C : ux_C X cc own nL ret fr lo sh) (hd : decode cc pc = .ok (.ineg, 1)) (hq : pc + 1 = q) (k : ux_Wt X nL q lv (.int (-x) :: st) N L) : ux_Wt X nL pc lv (.int x :: st) N L := by
  subst hq; exact fun H locs ls hP hS hl => lv_ineg (cx_x C) (cx_b C) hd (k H locs ls hP hS hl)
theorem wt_lneg (q : Nat) {x : Int64} (C : ux_C X cc own nL ret fr lo sh) (hd : decode cc pc = .ok (.lneg, 1)) (hq : pc + 1 = q) (k : ux_Wt X nL q lv (.long (-x) :: st) N L) : ux_Wt X nL pc lv (.long x :: st) N L := by
  subst hq; exact fun H locs ls hP hS hl => lv_lneg (cx_x C) (cx_b C) hd (k H locs ls hP hS hl)
theorem wt_i2l (q : Nat) {x : Int32} (C : ux_C X cc own nL ret fr lo sh) (hd : decode cc pc = .ok (.i2l, 1)) (hq : pc + 1 = q) (k : ux_Wt X nL q lv (.long (x.toInt64) :: st) N L) : ux_Wt X nL pc lv (.int x :: st) N L := by
  subst hq; exact fun H locs ls hP hS hl => lv_i2l (cx_x C) (cx_b C) hd rfl (k H locs ls hP hS hl)
theorem wt_l2i (q : Nat) {x : Int64} (C : ux_C X cc own nL ret fr lo sh) (hd : decode cc pc = .ok (.l2i, 1)) (hq : pc + 1 = q) (k : ux_Wt X nL q lv (.int (x.toInt32) :: st) N L) : ux_Wt X nL pc lv (.long x :: st) N L := by
  subst hq; exact fun H locs ls hP hS hl => lv_l2i (cx_x C) (cx_b C) hd rfl (k H locs ls hP hS hl)
theorem wt_i2c (q : Nat) {x : Int32} (C : ux_C X cc own nL ret fr lo sh) (hd : decode cc pc = .ok (.i2c, 1)) (hq : pc + 1 = q) (k : ux_Wt X nL q lv (.int ((x.toUInt32 % 65536).toInt32) :: st) N L) : ux_Wt X nL pc lv (.int x :: st) N L := by
  subst hq; exact fun H locs ls hP hS hl => lv_i2c (cx_x C) (cx_b C) hd rfl (k H locs ls hP hS hl)
theorem wt_iushr (q : Nat) {x y : Int32} (C : ux_C X cc own nL ret fr lo sh) (hd : decode cc pc = .ok (.iushr, 1)) (hq : pc + 1 = q) (k : ux_Wt X nL q lv (.int ((x.toUInt32 >>> (y.toUInt32 &&& Int32.toUInt32 31)).toInt32) :: st) N L) : ux_Wt X nL pc lv (.int y :: .int x :: st) N L := by
  subst hq; exact fun H locs ls hP hS hl => lv_iushr (cx_x C) (cx_b C) hd rfl (k H locs ls hP hS hl)
theorem wt_lushr (q : Nat) {x : Int64} {y : Int32} (C : ux_C X cc own nL ret fr lo sh) (hd : decode cc pc = .ok (.lushr, 1)) (hq : pc + 1 = q) (k : ux_Wt X nL q lv (.long ((x.toUInt64 >>> (y.toInt64.toUInt64 &&& Int64.toUInt64 63)).toInt64) :: st) N L) : ux_Wt X nL pc lv (.int y :: .long x :: st) N L := by
  subst hq; exact fun H locs ls hP hS hl => lv_lushr (cx_x C) (cx_b C) hd rfl (k H locs ls hP hS hl)
theorem wt_lshl (q : Nat) {x : Int64} {y : Int32} (C : ux_C X cc own nL ret fr lo sh) (hd : decode cc pc = .ok (.lshl, 1)) (hq : pc + 1 = q) (k : ux_Wt X nL q lv (.long (x <<< (y.toInt64 &&& 63)) :: st) N L) : ux_Wt X nL pc lv (.int y :: .long x :: st) N L := by
  subst hq; exact fun H locs ls hP hS hl => lv_lshl (cx_x C) (cx_b C) hd rfl (k H locs ls hP hS hl)
theorem wt_lshr (q : Nat) {x : Int64} {y : Int32} (C : ux_C X cc own nL ret fr lo sh) (hd : decode cc pc = .ok (.lshr, 1)) (hq : pc + 1 = q) (k : ux_Wt X nL q lv (.long (x >>> (y.toInt64 &&& 63)) :: st) N L) : ux_Wt X nL pc lv (.int y :: .long x :: st) N L := by
  subst hq; exact fun H locs ls hP hS hl => lv_lshr (cx_x C) (cx_b C) hd rfl (k H locs ls hP hS hl)
theorem wt_lcmp (q : Nat) {x y : Int64} (C : ux_C X cc own nL ret fr lo sh) (hd : decode cc pc = .ok (.lcmp, 1)) (hq : pc + 1 = q) (k : ux_Wt X nL q lv (.int (lg_cmp x y) :: st) N L) : ux_Wt X nL pc lv (.long y :: .long x :: st) N L := by
  subst hq; exact fun H locs ls hP hS hl => W.lcmp (cx_x C) (cx_b C) hd (k H locs ls hP hS hl)
theorem wt_dup (q : Nat) {a : Value} (C : ux_C X cc own nL ret fr lo sh) (hd : decode cc pc = .ok (.dup, 1)) (hq : pc + 1 = q) (ha : a.category = 1) (k : ux_Wt X nL q lv (a :: a :: st) N L) : ux_Wt X nL pc lv (a :: st) N L := by
  subst hq; exact fun H locs ls hP hS hl => lv_dup (cx_x C) (cx_b C) hd ha (k H locs ls hP hS hl)
theorem wt_pop (q : Nat) {a : Value} (C : ux_C X cc own nL ret fr lo sh) (hd : decode cc pc = .ok (.pop, 1)) (hq : pc + 1 = q) (ha : a.category = 1) (k : ux_Wt X nL q lv st N L) : ux_Wt X nL pc lv (a :: st) N L := by
  subst hq; exact fun H locs ls hP hS hl => lv_pop (cx_x C) (cx_b C) hd ha (k H locs ls hP hS hl)
theorem wt_dup2 (q : Nat) {a b : Value} (C : ux_C X cc own nL ret fr lo sh) (hd : decode cc pc = .ok (.dup2, 1)) (hq : pc + 1 = q) (ha : a.category = 1) (hb : b.category = 1) (k : ux_Wt X nL q lv (a :: b :: a :: b :: st) N L) : ux_Wt X nL pc lv (a :: b :: st) N L := by
  subst hq; exact fun H locs ls hP hS hl => lv_dup2_11 (cx_x C) (cx_b C) hd ha hb (k H locs ls hP hS hl)
theorem wt_if_eq (q tgt : Nat) {off : Int} {x : Int32} (C : ux_C X cc own nL ret fr lo sh) (hd : decode cc pc = .ok (.ifCond .eq off, 3)) (hq : pc + 3 = q) (ht : (pc : Int) + off = (tgt : Int)) (kt : x = 0 → ux_Wt X nL tgt lv st N L) (kf : ¬ x = 0 → ux_Wt X nL q lv st N L) : ux_Wt X nL pc lv (.int x :: st) N L := by
  subst hq; exact fun H locs ls hP hS hl => lv_if_eq (cx_x C) (cx_b C) hd ht (fun c => kt c H locs ls hP hS hl) (fun c => kf c H locs ls hP hS hl)
theorem wt_icmp_eq (q tgt : Nat) {off : Int} {x y : Int32} (C : ux_C X cc own nL ret fr lo sh) (hd : decode cc pc = .ok (.if_icmp .eq off, 3)) (hq : pc + 3 = q) (ht : (pc : Int) + off = (tgt : Int)) (kt : x = y → ux_Wt X nL tgt lv st N L) (kf : ¬ x = y → ux_Wt X nL q lv st N L) : ux_Wt X nL pc lv (.int y :: .int x :: st) N L := by
  subst hq; exact fun H locs ls hP hS hl => lv_icmp_eq (cx_x C) (cx_b C) hd ht (fun c => kt c H locs ls hP hS hl) (fun c => kf c H locs ls hP hS hl)
theorem wt_if_ne (q tgt : Nat) {off : Int} {x : Int32} (C : ux_C X cc own nL ret fr lo sh) (hd : decode cc pc = .ok (.ifCond .ne off, 3)) (hq : pc + 3 = q) (ht : (pc : Int) + off = (tgt : Int)) (kt : ¬ x = 0 → ux_Wt X nL tgt lv st N L) (kf : x = 0 → ux_Wt X nL q lv st N L) : ux_Wt X nL pc lv (.int x :: st) N L := by
  subst hq; exact fun H locs ls hP hS hl => lv_if_ne (cx_x C) (cx_b C) hd ht (fun c => kt c H locs ls hP hS hl) (fun c => kf c H locs ls hP hS hl)
theorem wt_icmp_ne (q tgt : Nat) {off : Int} {x y : Int32} (C : ux_C X cc own nL ret fr lo sh) (hd : decode cc pc = .ok (.if_icmp .ne off, 3)) (hq : pc + 3 = q) (ht : (pc : Int) + off = (tgt : Int)) (kt : ¬ x = y → ux_Wt X nL tgt lv st N L) (kf : x = y → ux_Wt X nL q lv st N L) : ux_Wt X nL pc lv (.int y :: .int x :: st) N L := by
  subst hq; exact fun H locs ls hP hS hl => lv_icmp_ne (cx_x C) (cx_b C) hd ht (fun c => kt c H locs ls hP hS hl) (fun c => kf c H locs ls hP hS hl)
theorem wt_if_lt (q tgt : Nat) {off : Int} {x : Int32} (C : ux_C X cc own nL ret fr lo sh) (hd : decode cc pc = .ok (.ifCond .lt off, 3)) (hq : pc + 3 = q) (ht : (pc : Int) + off = (tgt : Int)) (kt : x < 0 → ux_Wt X nL tgt lv st N L) (kf : ¬ x < 0 → ux_Wt X nL q lv st N L) : ux_Wt X nL pc lv (.int x :: st) N L := by
  subst hq; exact fun H locs ls hP hS hl => lv_if_lt (cx_x C) (cx_b C) hd ht (fun c => kt c H locs ls hP hS hl) (fun c => kf c H locs ls hP hS hl)
theorem wt_icmp_lt (q tgt : Nat) {off : Int} {x y : Int32} (C : ux_C X cc own nL ret fr lo sh) (hd : decode cc pc = .ok (.if_icmp .lt off, 3)) (hq : pc + 3 = q) (ht : (pc : Int) + off = (tgt : Int)) (kt : x < y → ux_Wt X nL tgt lv st N L) (kf : ¬ x < y → ux_Wt X nL q lv st N L) : ux_Wt X nL pc lv (.int y :: .int x :: st) N L := by
  subst hq; exact fun H locs ls hP hS hl => lv_icmp_lt (cx_x C) (cx_b C) hd ht (fun c => kt c H locs ls hP hS hl) (fun c => kf c H locs ls hP hS hl)
theorem wt_if_ge (q tgt : Nat) {off : Int} {x : Int32} (C : ux_C X cc own nL ret fr lo sh) (hd : decode cc pc = .ok (.ifCond .ge off, 3)) (hq : pc + 3 = q) (ht : (pc : Int) + off = (tgt : Int)) (kt : 0 ≤ x → ux_Wt X nL tgt lv st N L) (kf : ¬ 0 ≤ x → ux_Wt X nL q lv st N L) : ux_Wt X nL pc lv (.int x :: st) N L := by
  subst hq; exact fun H locs ls hP hS hl => lv_if_ge (cx_x C) (cx_b C) hd ht (fun c => kt c H locs ls hP hS hl) (fun c => kf c H locs ls hP hS hl)
theorem wt_icmp_ge (q tgt : Nat) {off : Int} {x y : Int32} (C : ux_C X cc own nL ret fr lo sh) (hd : decode cc pc = .ok (.if_icmp .ge off, 3)) (hq : pc + 3 = q) (ht : (pc : Int) + off = (tgt : Int)) (kt : y ≤ x → ux_Wt X nL tgt lv st N L) (kf : ¬ y ≤ x → ux_Wt X nL q lv st N L) : ux_Wt X nL pc lv (.int y :: .int x :: st) N L := by
  subst hq; exact fun H locs ls hP hS hl => lv_icmp_ge (cx_x C) (cx_b C) hd ht (fun c => kt c H locs ls hP hS hl) (fun c => kf c H locs ls hP hS hl)
theorem wt_if_gt (q tgt : Nat) {off : Int} {x : Int32} (C : ux_C X cc own nL ret fr lo sh) (hd : decode cc pc = .ok (.ifCond .gt off, 3)) (hq : pc + 3 = q) (ht : (pc : Int) + off = (tgt : Int)) (kt : 0 < x → ux_Wt X nL tgt lv st N L) (kf : ¬ 0 < x → ux_Wt X nL q lv st N L) : ux_Wt X nL pc lv (.int x :: st) N L := by
  subst hq; exact fun H locs ls hP hS hl => lv_if_gt (cx_x C) (cx_b C) hd ht (fun c => kt c H locs ls hP hS hl) (fun c => kf c H locs ls hP hS hl)
theorem wt_icmp_gt (q tgt : Nat) {off : Int} {x y : Int32} (C : ux_C X cc own nL ret fr lo sh) (hd : decode cc pc = .ok (.if_icmp .gt off, 3)) (hq : pc + 3 = q) (ht : (pc : Int) + off = (tgt : Int)) (kt : y < x → ux_Wt X nL tgt lv st N L) (kf : ¬ y < x → ux_Wt X nL q lv st N L) : ux_Wt X nL pc lv (.int y :: .int x :: st) N L := by
  subst hq; exact fun H locs ls hP hS hl => lv_icmp_gt (cx_x C) (cx_b C) hd ht (fun c => kt c H locs ls hP hS hl) (fun c => kf c H locs ls hP hS hl)
theorem wt_if_le (q tgt : Nat) {off : Int} {x : Int32} (C : ux_C X cc own nL ret fr lo sh) (hd : decode cc pc = .ok (.ifCond .le off, 3)) (hq : pc + 3 = q) (ht : (pc : Int) + off = (tgt : Int)) (kt : x ≤ 0 → ux_Wt X nL tgt lv st N L) (kf : ¬ x ≤ 0 → ux_Wt X nL q lv st N L) : ux_Wt X nL pc lv (.int x :: st) N L := by
  subst hq; exact fun H locs ls hP hS hl => lv_if_le (cx_x C) (cx_b C) hd ht (fun c => kt c H locs ls hP hS hl) (fun c => kf c H locs ls hP hS hl)
theorem wt_icmp_le (q tgt : Nat) {off : Int} {x y : Int32} (C : ux_C X cc own nL ret fr lo sh) (hd : decode cc pc = .ok (.if_icmp .le off, 3)) (hq : pc + 3 = q) (ht : (pc : Int) + off = (tgt : Int)) (kt : x ≤ y → ux_Wt X nL tgt lv st N L) (kf : ¬ x ≤ y → ux_Wt X nL q lv st N L) : ux_Wt X nL pc lv (.int y :: .int x :: st) N L := by
  subst hq; exact fun H locs ls hP hS hl => lv_icmp_le (cx_x C) (cx_b C) hd ht (fun c => kt c H locs ls hP hS hl) (fun c => kf c H locs ls hP hS hl)
theorem wt_goto (tgt : Nat) {off : Int} (C : ux_C X cc own nL ret fr lo sh) (hd : decode cc pc = .ok (.goto off, 3)) (ht : (pc : Int) + off = (tgt : Int)) (k : ux_Wt X nL tgt lv st N L) : ux_Wt X nL pc lv st N L :=
  fun H locs ls hP hS hl => lv_goto (cx_x C) (cx_b C) hd ht (k H locs ls hP hS hl)
theorem wt_tin (tgt : Nat) (v : Int32) {dflt a b off : Int} {offs : Array Int} {len : Nat} {x : Int32} (C : ux_C X cc own nL ret fr lo sh) (hd : decode cc pc = .ok (.tableswitch dflt a b offs, len)) (hx : x = v) (h1 : ¬ v.toInt < a) (h2 : ¬ b < v.toInt) (ho : offs[(v.toInt - a).toNat]? = some off) (ht : (pc : Int) + off = (tgt : Int)) (k : ux_Wt X nL tgt lv st N L) : ux_Wt X nL pc lv (.int x :: st) N L := by
  subst hx; exact fun H locs ls hP hS hl => lv_tableIn (cx_x C) (cx_b C) hd h1 h2 ho ht (k H locs ls hP hS hl)
theorem wt_tout (tgt : Nat) {dflt a b : Int} {offs : Array Int} {len : Nat} {x : Int32} (C : ux_C X cc own nL ret fr lo sh) (hd : decode cc pc = .ok (.tableswitch dflt a b offs, len)) (h : x.toInt < a ∨ b < x.toInt) (ht : (pc : Int) + dflt = (tgt : Int)) (k : ux_Wt X nL tgt lv st N L) : ux_Wt X nL pc lv (.int x :: st) N L :=
  fun H locs ls hP hS hl => lv_tableOut (cx_x C) (cx_b C) hd h ht (k H locs ls hP hS hl)
theorem wt_lsw (tgt : Nat) {dflt off : Int} {ps : Array (Int × Int)} {len : Nat} {x : Int32} (C : ux_C X cc own nL ret fr lo sh) (hd : decode cc pc = .ok (.lookupswitch dflt ps, len)) (hp : (ps.toList.zip (ps.toList.drop 1)).all (fun (a, next) => a.1 < next.1) = true) (ho : Op.lookupswitch.offset ps.toList dflt x.toInt = off) (ht : (pc : Int) + off = (tgt : Int)) (k : ux_Wt X nL tgt lv st N L) : ux_Wt X nL pc lv (.int x :: st) N L :=
  fun H locs ls hP hS hl => lv_lookup (cx_x C) (cx_b C) hd hp ho ht (k H locs ls hP hS hl)
theorem wt_getI (q : Nat) {ci k idx h n0 : Nat} {fks : List (Option Nat)} (C : ux_C X cc own nL ret fr lo sh) (hl : ux_FL own idx ci k) (hs : sh[h]? = some (0, ci, n0, fks)) (hk : fks[k]? = some none) (hd : decode cc pc = .ok (.getfield idx, 3)) (hq : pc + 3 = q) (kk : ux_Wt X nL q lv (.int (N h k) :: st) N L) : ux_Wt X nL pc lv (.ref (ux_ad X h) :: st) N L := by
  subst hq
  obtain ⟨CN, T, n, h1, h2, h3, h4⟩ := hl
  exact fun H locs ls hP hS hv => va_get (cx_x C) (cx_b C) (cx_t C) h2 (cx_o C) (cx_K C) hP h (ux_at (cx_s C hs)) h1 k h3 (cx_t C _ h4) (fun _ h9 => h9) (by show (fks.mapIdx _)[k]? = _; rw [List.getElem?_mapIdx, hk]; rfl) hd (kk H locs ls hP hS hv)
theorem wt_getR (q : Nat) {ci k idx h n0 j : Nat} {fks : List (Option Nat)} (C : ux_C X cc own nL ret fr lo sh) (hl : ux_FL own idx ci k) (hs : sh[h]? = some (0, ci, n0, fks)) (hk : fks[k]? = some (some j)) (hd : decode cc pc = .ok (.getfield idx, 3)) (hq : pc + 3 = q) (kk : ux_Wt X nL q lv (.ref (ux_ad X j) :: st) N L) : ux_Wt X nL pc lv (.ref (ux_ad X h) :: st) N L := by
  subst hq
  obtain ⟨CN, T, n, h1, h2, h3, h4⟩ := hl
  exact fun H locs ls hP hS hv => va_get (cx_x C) (cx_b C) (cx_t C) h2 (cx_o C) (cx_K C) hP h (ux_at (cx_s C hs)) h1 k h3 (cx_t C _ h4) (fun _ h9 => h9) (by show (fks.mapIdx _)[k]? = _; rw [List.getElem?_mapIdx, hk]; rfl) hd (kk H locs ls hP hS hv)
theorem wt_putI (q : Nat) {ci k idx h n0 : Nat} {ty : FieldType} {fks : List (Option Nat)} {v : Int32} (C : ux_C X cc own nL ret fr lo sh) (hl : ux_FP own idx ci k ty) (hs : sh[h]? = some (0, ci, n0, fks)) (hk : fks[k]? = some none) (hn : narrow ty (.int v) = .int v) (hf : fits ty (.int v) = true) (hd : decode cc pc = .ok (.putfield idx, 3)) (hq : pc + 3 = q) (kk : ux_Wt X nL q lv st (ux_u N h k v) L) : ux_Wt X nL pc lv (.int v :: .ref (ux_ad X h) :: st) N L := by
  subst hq
  obtain ⟨CN, T, n, h1, h2, h3, h4, ty0, h5, h6, h7, h8⟩ := hl
  refine fun H locs ls hP hS hv => va_put (cx_x C) (cx_b C) (cx_t C) h2 ty0 h5 h6 (cx_o C) (cx_K C) hP (ux_D (cx_ok C) N L) hS h (ux_at (cx_s C hs)) h1 k h3 (cx_t C _ h4) (fun _ h9 => h9) h7 h8 hn hf ?_ hd (fun H1 locs1 hP1 _ hS1 => kk H1 locs1 ls ?_ hS1 hv)
  · show k < (fks.mapIdx _).length
    rw [List.length_mapIdx]; exact (List.getElem?_eq_some_iff.mp hk).1
  · rw [← ux_set (N := N) (L := L) (N' := ux_u N h k v) (L' := L) (cx_s C hs) (e := .inr (ci, (fks.mapIdx (ux_v (gad (xG X)) (N h))).set k (.int v))) ?_ (fun j hj => if_neg hj) (fun j _ => rfl)]
    · exact hP1
    · rw [ux_fset hk]; show Sum.inr (ci, fks.mapIdx (ux_v _ (ux_u N h k v h))) = _; rw [ux_u, if_pos rfl]
theorem wt_iald (q j : Nat) {h n : Nat} {r : List (Option Nat)} {i : Int32} (C : ux_C X cc own nL ret fr lo sh) (hs : sh[h]? = some (1, 0, n, r)) (hj : i.toNatClampNeg = j) (hi : ux_in i n = true) (hd : decode cc pc = .ok (.iaload, 1)) (hq : pc + 1 = q) (kk : ux_Wt X nL q lv (.int (N h j) :: st) N L) : ux_Wt X nL pc lv (.int i :: .ref (ux_ad X h) :: st) N L := by
  subst hq; subst hj
  exact fun H locs ls hP hS hv => va_iald (cx_x C) (cx_b C) (cx_K C) hP h 0 (ux_at (cx_s C hs)) rfl (ux_in_p hi) hd (kk H locs ls hP hS hv)
theorem wt_iast (q j : Nat) {h n : Nat} {r : List (Option Nat)} {i x : Int32} (C : ux_C X cc own nL ret fr lo sh) (hs : sh[h]? = some (1, 0, n, r)) (hj : i.toNatClampNeg = j) (hi : ux_in i n = true) (hd : decode cc pc = .ok (.iastore, 1)) (hq : pc + 1 = q) (kk : ux_Wt X nL q lv st (ux_u N h j x) L) : ux_Wt X nL pc lv (.int x :: .int i :: .ref (ux_ad X h) :: st) N L := by
  subst hq; subst hj
  refine fun H locs ls hP hS hv => va_iast (cx_x C) (cx_b C) (cx_K C) hP (ux_D (cx_ok C) N L) hS h 0 (ux_at (cx_s C hs)) rfl (ux_in_p hi) hd (fun H1 locs1 hP1 _ hS1 => kk H1 locs1 ls ?_ hS1 hv)
  rw [← ux_set (N := N) (L := L) (N' := ux_u N h i.toNatClampNeg x) (L' := L) (cx_s C hs) (e := .inl (gcy (xG X) 0, n, .inl (upd (N h) i.toNatClampNeg x))) ?_ (fun j hj => if_neg hj) (fun j _ => rfl)]
  · exact hP1
  · show Sum.inl (gcy (xG X) 0, n, Sum.inl (ux_u N h i.toNatClampNeg x h)) = _; rw [ux_u, if_pos rfl]
theorem wt_zald (q j : Nat) {h n : Nat} {r : List (Option Nat)} {i : Int32} (C : ux_C X cc own nL ret fr lo sh) (hs : sh[h]? = some (1, 1, n, r)) (hj : i.toNatClampNeg = j) (hi : ux_in i n = true) (hd : decode cc pc = .ok (.baload, 1)) (hq : pc + 1 = q) (kk : ux_Wt X nL q lv (.int (N h j) :: st) N L) : ux_Wt X nL pc lv (.int i :: .ref (ux_ad X h) :: st) N L := by
  subst hq; subst hj
  exact fun H locs ls hP hS hv => va_zald (cx_x C) (cx_b C) (cx_K C) hP h 1 (ux_at (cx_s C hs)) rfl (ux_in_p hi) hd (kk H locs ls hP hS hv)
theorem wt_zast (q j : Nat) {h n : Nat} {r : List (Option Nat)} {i x : Int32} (C : ux_C X cc own nL ret fr lo sh) (hs : sh[h]? = some (1, 1, n, r)) (hj : i.toNatClampNeg = j) (hi : ux_in i n = true) (hd : decode cc pc = .ok (.bastore, 1)) (hq : pc + 1 = q) (kk : ux_Wt X nL q lv st (ux_u N h j (vp_nar .boolean x)) L) : ux_Wt X nL pc lv (.int x :: .int i :: .ref (ux_ad X h) :: st) N L := by
  subst hq; subst hj
  refine fun H locs ls hP hS hv => va_zast (cx_x C) (cx_b C) (cx_K C) hP (ux_D (cx_ok C) N L) hS h 1 (ux_at (cx_s C hs)) rfl (ux_in_p hi) hd (fun H1 locs1 hP1 _ hS1 => kk H1 locs1 ls ?_ hS1 hv)
  rw [← ux_set (N := N) (L := L) (N' := ux_u N h i.toNatClampNeg (vp_nar .boolean x)) (L' := L) (cx_s C hs) (e := .inl (gcy (xG X) 1, n, .inl (upd (N h) i.toNatClampNeg (vp_nar .boolean x)))) ?_ (fun j hj => if_neg hj) (fun j _ => rfl)]
  · exact hP1
  · show Sum.inl (gcy (xG X) 1, n, Sum.inl (ux_u N h i.toNatClampNeg (vp_nar .boolean x) h)) = _; rw [ux_u, if_pos rfl]
theorem wt_cald (q j : Nat) {h n : Nat} {r : List (Option Nat)} {i : Int32} (C : ux_C X cc own nL ret fr lo sh) (hs : sh[h]? = some (1, 2, n, r)) (hj : i.toNatClampNeg = j) (hi : ux_in i n = true) (hd : decode cc pc = .ok (.caload, 1)) (hq : pc + 1 = q) (kk : ux_Wt X nL q lv (.int (N h j) :: st) N L) : ux_Wt X nL pc lv (.int i :: .ref (ux_ad X h) :: st) N L := by
  subst hq; subst hj
  exact fun H locs ls hP hS hv => va_cald (cx_x C) (cx_b C) (cx_K C) hP h 2 (ux_at (cx_s C hs)) rfl (ux_in_p hi) hd (kk H locs ls hP hS hv)
theorem wt_cast (q j : Nat) {h n : Nat} {r : List (Option Nat)} {i x : Int32} (C : ux_C X cc own nL ret fr lo sh) (hs : sh[h]? = some (1, 2, n, r)) (hj : i.toNatClampNeg = j) (hi : ux_in i n = true) (hd : decode cc pc = .ok (.castore, 1)) (hq : pc + 1 = q) (kk : ux_Wt X nL q lv st (ux_u N h j (vp_nar .char x)) L) : ux_Wt X nL pc lv (.int x :: .int i :: .ref (ux_ad X h) :: st) N L := by
  subst hq; subst hj
  refine fun H locs ls hP hS hv => va_cast (cx_x C) (cx_b C) (cx_K C) hP (ux_D (cx_ok C) N L) hS h 2 (ux_at (cx_s C hs)) rfl (ux_in_p hi) hd (fun H1 locs1 hP1 _ hS1 => kk H1 locs1 ls ?_ hS1 hv)
  rw [← ux_set (N := N) (L := L) (N' := ux_u N h i.toNatClampNeg (vp_nar .char x)) (L' := L) (cx_s C hs) (e := .inl (gcy (xG X) 2, n, .inl (upd (N h) i.toNatClampNeg (vp_nar .char x)))) ?_ (fun j hj => if_neg hj) (fun j _ => rfl)]
  · exact hP1
  · show Sum.inl (gcy (xG X) 2, n, Sum.inl (ux_u N h i.toNatClampNeg (vp_nar .char x) h)) = _; rw [ux_u, if_pos rfl]
theorem wt_lald (q j : Nat) {h n : Nat} {r : List (Option Nat)} {i : Int32} (C : ux_C X cc own nL ret fr lo sh) (hs : sh[h]? = some (2, 3, n, r)) (hj : i.toNatClampNeg = j) (hi : ux_in i n = true) (hd : decode cc pc = .ok (.laload, 1)) (hq : pc + 1 = q) (kk : ux_Wt X nL q lv (.long (L h j) :: st) N L) : ux_Wt X nL pc lv (.int i :: .ref (ux_ad X h) :: st) N L := by
  subst hq; subst hj
  exact fun H locs ls hP hS hv => va_lald (cx_x C) (cx_b C) (cx_K C) hP h 3 (ux_at (cx_s C hs)) rfl (ux_in_p hi) hd (kk H locs ls hP hS hv)
theorem wt_last (q j : Nat) {h n : Nat} {r : List (Option Nat)} {i : Int32} {x : Int64} (C : ux_C X cc own nL ret fr lo sh) (hs : sh[h]? = some (2, 3, n, r)) (hj : i.toNatClampNeg = j) (hi : ux_in i n = true) (hd : decode cc pc = .ok (.lastore, 1)) (hq : pc + 1 = q) (kk : ux_Wt X nL q lv st N (ux_w L h j x)) : ux_Wt X nL pc lv (.long x :: .int i :: .ref (ux_ad X h) :: st) N L := by
  subst hq; subst hj
  refine fun H locs ls hP hS hv => va_last (cx_x C) (cx_b C) (cx_K C) hP (ux_D (cx_ok C) N L) hS h 3 (ux_at (cx_s C hs)) rfl (ux_in_p hi) hd (fun H1 locs1 hP1 _ hS1 => kk H1 locs1 ls ?_ hS1 hv)
  rw [← ux_set (N := N) (L := L) (N' := N) (L' := ux_w L h i.toNatClampNeg x) (cx_s C hs) (e := .inl (gcy (xG X) 3, n, .inr (.inl (vp_updL (L h) i.toNatClampNeg x)))) ?_ (fun j _ => rfl) (fun j hj => if_neg hj)]
  · exact hP1
  · show Sum.inl (gcy (xG X) 3, n, Sum.inr (Sum.inl (ux_w L h i.toNatClampNeg x h))) = _; rw [ux_w, if_pos rfl]
theorem wt_aald (q j b w : Nat) {h n t : Nat} {CN : String} {cs : List (Option Nat)} {i : Int32} (C : ux_C X cc own nL ret fr lo sh) (hs : sh[h]? = some (3, t, n, cs)) (ht : (ux_tys (xG X))[t]? = some (gcy (xG X) t, .object CN)) (hcs : ∀ j, j < n → cs.getD j none = some (b + w * j)) (hj : i.toNatClampNeg = j) (hi : ux_in i n = true) (hd : decode cc pc = .ok (.aaload, 1)) (hq : pc + 1 = q) (kk : ux_Wt X nL q lv (.ref (ux_ad X (b + w * j)) :: st) N L) : ux_Wt X nL pc lv (.int i :: .ref (ux_ad X h) :: st) N L := by
  subst hq; subst hj
  have hin := ux_in_p hi
  have hlt : i.toNatClampNeg < n := Nat.not_le.mp fun z => hin (Or.inr z)
  refine fun H locs ls hP hS hv => va_aldq (cx_x C) (cx_b C) (cx_K C) hP h t (ux_at (cx_s C hs)) ht hin hd ?_
  show ux_Wx X H locs (F0 (xm X) (pc + 1) ls (va_rf ((cs.getD i.toNatClampNeg none).map (gad (xG X))) :: st))
  rw [hcs _ hlt]
  exact kk H locs ls hP hS hv
theorem wt_alenI (q : Nat) {h n : Nat} {r : List (Option Nat)} {v : Int32} (C : ux_C X cc own nL ret fr lo sh) (hs : sh[h]? = some (1, 0, n, r)) (hv : Int32.ofNat n = v) (hd : decode cc pc = .ok (.arraylength, 1)) (hq : pc + 1 = q) (kk : ux_Wt X nL q lv (.int v :: st) N L) : ux_Wt X nL pc lv (.ref (ux_ad X h) :: st) N L := by
  subst hq
  exact fun H locs ls hP hS hl => va_alen (x := (n, .inl (N h))) (cx_x C) (cx_b C) (cx_K C) hP h 0 (ux_at (cx_s C hs)) rfl hv hd (kk H locs ls hP hS hl)
theorem wt_copyI (q sp' dp' n' : Nat) {idx h0 h1 n0 n1 : Nat} {r0 r1 : List (Option Nat)} {sp dp n : Int32} (C : ux_C X cc own nL ret fr lo sh) (hw : ux_LA own idx) (hs0 : sh[h0]? = some (1, 0, n0, r0)) (hs1 : sh[h1]? = some (1, 0, n1, r1)) (g1 : ¬ sp < 0) (g2 : ¬ dp < 0) (g3 : ¬ n < 0) (e1 : sp.toNatClampNeg = sp') (e2 : dp.toNatClampNeg = dp') (e3 : n.toNatClampNeg = n') (g4 : sp' + n' ≤ n0) (g5 : dp' + n' ≤ n1) (hfr : 1 ≤ fr) (hlo : (st.map fun v => v.category).sum + (nativeFrameWords "java/lang/System" "arraycopy" 5 + 11) ≤ lo) (hd : decode cc pc = .ok (.invokestatic idx, 3)) (hq : pc + 3 = q) (kk : ux_Wt X nL q lv st (ux_cpN N h0 h1 sp' dp' n') L) : ux_Wt X nL pc lv (.int n :: .int dp :: .ref (ux_ad X h1) :: .int sp :: .ref (ux_ad X h0) :: st) N L := by
  subst hq; subst e1; subst e2; subst e3
  obtain ⟨w1, w2, w3, w4⟩ := hw
  refine fun H locs ls hP hS hv => va_copyi (ty := .int) (cx_x C) (cx_b C) ((cx_m C).trans hv.1.symm) (cx_o C) (cx_t C _ w1) (cx_t C _ w2) (cx_t C _ w3) (cx_t C _ w4) (cx_K C) hP (ux_D (cx_ok C) N L) hS h0 h1 0 0 (ux_at (cx_s C hs0)) (ux_at (cx_s C hs1)) rfl rfl rfl g1 g2 g3 g4 g5 (fun _ _ => rfl) (Nat.le_trans hfr (cx_fr C)) (Nat.le_trans hlo (cx_lo C)) hd (fun H1 locs1 hP1 _ hS1 => kk H1 locs1 ls ?_ hS1 hv)
  rw [← ux_set (N := N) (L := L) (N' := ux_cpN N h0 h1 sp.toNatClampNeg dp.toNatClampNeg n.toNatClampNeg) (L' := L) (cx_s C hs1) (e := .inl (gcy (xG X) 0, n1, .inl (va_cpy (N h0) (N h1) sp.toNatClampNeg dp.toNatClampNeg n.toNatClampNeg))) ?_ (fun j hj => if_neg hj) (fun j _ => rfl)]
  · exact hP1
  · show Sum.inl (gcy (xG X) 0, n1, Sum.inl (ux_cpN N h0 h1 _ _ _ h1)) = _; rw [ux_cpN, if_pos rfl]
theorem wt_copyL (q sp' dp' n' : Nat) {idx h0 h1 n0 n1 : Nat} {r0 r1 : List (Option Nat)} {sp dp n : Int32} (C : ux_C X cc own nL ret fr lo sh) (hw : ux_LA own idx) (hs0 : sh[h0]? = some (2, 3, n0, r0)) (hs1 : sh[h1]? = some (2, 3, n1, r1)) (g1 : ¬ sp < 0) (g2 : ¬ dp < 0) (g3 : ¬ n < 0) (e1 : sp.toNatClampNeg = sp') (e2 : dp.toNatClampNeg = dp') (e3 : n.toNatClampNeg = n') (g4 : sp' + n' ≤ n0) (g5 : dp' + n' ≤ n1) (hfr : 1 ≤ fr) (hlo : (st.map fun v => v.category).sum + (nativeFrameWords "java/lang/System" "arraycopy" 5 + 11) ≤ lo) (hd : decode cc pc = .ok (.invokestatic idx, 3)) (hq : pc + 3 = q) (kk : ux_Wt X nL q lv st N (ux_cpL L h0 h1 sp' dp' n')) : ux_Wt X nL pc lv (.int n :: .int dp :: .ref (ux_ad X h1) :: .int sp :: .ref (ux_ad X h0) :: st) N L := by
  subst hq; subst e1; subst e2; subst e3
  obtain ⟨w1, w2, w3, w4⟩ := hw
  refine fun H locs ls hP hS hv => va_copyl (ty := .long) (cx_x C) (cx_b C) ((cx_m C).trans hv.1.symm) (cx_o C) (cx_t C _ w1) (cx_t C _ w2) (cx_t C _ w3) (cx_t C _ w4) (cx_K C) hP (ux_D (cx_ok C) N L) hS h0 h1 3 3 (ux_at (cx_s C hs0)) (ux_at (cx_s C hs1)) rfl rfl rfl g1 g2 g3 g4 g5 (fun _ _ => rfl) (Nat.le_trans hfr (cx_fr C)) (Nat.le_trans hlo (cx_lo C)) hd (fun H1 locs1 hP1 _ hS1 => kk H1 locs1 ls ?_ hS1 hv)
  rw [← ux_set (N := N) (L := L) (N' := N) (L' := ux_cpL L h0 h1 sp.toNatClampNeg dp.toNatClampNeg n.toNatClampNeg) (cx_s C hs1) (e := .inl (gcy (xG X) 3, n1, .inr (.inl (va_cpy (L h0) (L h1) sp.toNatClampNeg dp.toNatClampNeg n.toNatClampNeg)))) ?_ (fun j _ => rfl) (fun j hj => if_neg hj)]
  · exact hP1
  · show Sum.inl (gcy (xG X) 3, n1, Sum.inr (Sum.inl (ux_cpL L h0 h1 _ _ _ h1))) = _; rw [ux_cpL, if_pos rfl]
def ux_LM (own : String) (idx : Nat) (y : MethodName) (cb : ByteArray) : Prop := Cond.methodLink own idx y ∈ lw_gt ∧ Cond.static y ∈ lw_gt ∧ Cond.initialized "java/lang/Math" ∈ lw_gt ∧ Cond.code y cb 2 (some .int) ∈ lw_gt
theorem wt_mmax (q : Nat) {idx : Nat} {x y : Int32} (C : ux_C X cc own nL ret fr lo sh) (hw : ux_LM own idx Lib.Math.max.name Lib.Math.max.code) (hfr : 1 ≤ fr) (hlo : (st.map fun v => v.category).sum + 13 ≤ lo) (hd : decode cc pc = .ok (.invokestatic idx, 3)) (hq : pc + 3 = q) (kk : ux_Wt X nL q lv (.int (if x < y then y else x) :: st) N L) : ux_Wt X nL pc lv (.int y :: .int x :: st) N L := by
  subst hq
  exact fun H locs ls hP hS hv => va_mmax (cx_x C) (cx_b C) ((cx_m C).trans hv.1.symm) (cx_o C) (cx_t C _ hw.1) (cx_t C _ hw.2.1) (cx_t C _ hw.2.2.1) (cx_t C _ hw.2.2.2) (Nat.le_trans hfr (cx_fr C)) (Nat.le_trans hlo (cx_lo C)) (Nat.zero_le _) (Nat.zero_le _) hd (kk H locs ls hP hS hv)
theorem wt_mmin (q : Nat) {idx : Nat} {x y : Int32} (C : ux_C X cc own nL ret fr lo sh) (hw : ux_LM own idx Lib.Math.min.name Lib.Math.min.code) (hfr : 1 ≤ fr) (hlo : (st.map fun v => v.category).sum + 13 ≤ lo) (hd : decode cc pc = .ok (.invokestatic idx, 3)) (hq : pc + 3 = q) (kk : ux_Wt X nL q lv (.int (if y < x then y else x) :: st) N L) : ux_Wt X nL pc lv (.int y :: .int x :: st) N L := by
  subst hq
  exact fun H locs ls hP hS hv => va_mmin (cx_x C) (cx_b C) ((cx_m C).trans hv.1.symm) (cx_o C) (cx_t C _ hw.1) (cx_t C _ hw.2.1) (cx_t C _ hw.2.2.1) (cx_t C _ hw.2.2.2) (Nat.le_trans hfr (cx_fr C)) (Nat.le_trans hlo (cx_lo C)) (Nat.zero_le _) (Nat.zero_le _) hd (kk H locs ls hP hS hv)
/-! the static tables: table k lies at a fixed place -/
theorem wt_getsL (q : Nat) {idx : Nat} (C : ux_C X cc own nL ret fr lo sh) (hl : Cond.fieldLink own idx "MeterDesk$Family" "LACKING" "[J" ∈ lw_gt) (hd : decode cc pc = .ok (.getstatic idx, 3)) (hq : pc + 3 = q) (kk : ux_Wt X nL q lv (.ref ((xG X).2.2.2.2 0) :: st) N L) : ux_Wt X nL pc lv st N L := by
  subst hq
  exact fun H locs ls hP hS hv => va_gets (cx_x C) (cx_b C) (cx_Z C).1.1 hS (cx_o C) (cx_t C _ hl) (fun _ h9 => h9) hd (kk H locs ls hP hS hv)
theorem wt_getsS (q : Nat) {idx : Nat} (C : ux_C X cc own nL ret fr lo sh) (hl : Cond.fieldLink own idx "MeterDesk$Family" "SIZED" "[J" ∈ lw_gt) (hd : decode cc pc = .ok (.getstatic idx, 3)) (hq : pc + 3 = q) (kk : ux_Wt X nL q lv (.ref ((xG X).2.2.2.2 1) :: st) N L) : ux_Wt X nL pc lv st N L := by
  subst hq
  exact fun H locs ls hP hS hv => va_gets (cx_x C) (cx_b C) (cx_Z C).2.1.1 hS (cx_o C) (cx_t C _ hl) (fun _ h9 => h9) hd (kk H locs ls hP hS hv)
theorem wt_tldL (q j : Nat) {i : Int32} (C : ux_C X cc own nL ret fr lo sh) (hj : i.toNatClampNeg = j) (hi : ux_in i 6 = true) (hd : decode cc pc = .ok (.laload, 1)) (hq : pc + 1 = q) (kk : ux_Wt X nL q lv (.long (tb_lack.getD j 0) :: st) N L) : ux_Wt X nL pc lv (.int i :: .ref ((xG X).2.2.2.2 0) :: st) N L := by
  subst hq; subst hj
  exact fun H locs ls hP hS hv => va_tl (cx_x C) (cx_b C) (cx_Z C).1.2 hS (ux_in_p hi) rfl hd (kk H locs ls hP hS hv)
theorem wt_tldS (q j : Nat) {i : Int32} (C : ux_C X cc own nL ret fr lo sh) (hj : i.toNatClampNeg = j) (hi : ux_in i 7 = true) (hd : decode cc pc = .ok (.laload, 1)) (hq : pc + 1 = q) (kk : ux_Wt X nL q lv (.long (tb_sized.getD j 0) :: st) N L) : ux_Wt X nL pc lv (.int i :: .ref ((xG X).2.2.2.2 1) :: st) N L := by
  subst hq; subst hj
  exact fun H locs ls hP hS hv => va_tl (cx_x C) (cx_b C) (cx_Z C).2.1.2 hS (ux_in_p hi) rfl hd (kk H locs ls hP hS hv)
end UXC
/-! contracts: from the world N, L with the arguments As a method answers r and leaves the world N', L' -/
abbrev ux_rm (fr lo : Nat) : Room := { frames := fr, cells := 0, slots := 0, locals := lo }
def ux_Pre (G : ux_G) (As : List Value) (N : ux_N) (L : ux_L) : Array Value → State → Prop := va_Pc As (fun U => va_P G.2.1 vwCl (ux_wl G N L) U.heap ∧ va_K G.2.1 vwCl (ux_tys G) U ∧ ux_Z (ux_A G) G.2.2.2.2 U)
def ux_Qci (G : ux_G) (r : Int32) (N : ux_N) (L : ux_L) : Array Value → State → Outcome → State → Prop := va_Qi (fun (r' : Int32) (_ : Unit) => r' = r) (fun _ t => va_P G.2.1 vwCl (ux_wl G N L) t.heap) (ux_A G)
def ux_Qcv (G : ux_G) (N : ux_N) (L : ux_L) : Array Value → State → Outcome → State → Prop := va_Qv (fun (_ : Unit) => True) (fun _ t => va_P G.2.1 vwCl (ux_wl G N L) t.heap) (ux_A G)
def ux_Mi (l : Launch) (G : ux_G) (y : MethodName) (cc : ByteArray) (nL : Nat) (ret : Option FieldType) (fr lo : Nat) (As : List Value) (N : ux_N) (L : ux_L) (r : Int32) (N' : ux_N) (L' : ux_L) : Prop :=
  Met l y (.code y cc nL ret :: lw_gt) (ux_rm fr lo) (ux_Pre G As N L) (ux_Qci G r N' L') 0 0 (ux_A G)
def ux_Mv (l : Launch) (G : ux_G) (y : MethodName) (cc : ByteArray) (nL : Nat) (fr lo : Nat) (As : List Value) (N : ux_N) (L : ux_L) (N' : ux_N) (L' : ux_L) : Prop :=
  Met l y (.code y cc nL none :: lw_gt) (ux_rm fr lo) (ux_Pre G As N L) (ux_Qcv G N' L') 0 0 (ux_A G)
def ux_Qi (X : ux_X) (r : Int32) (N : ux_N) (L : ux_L) : Prop := xQ X = MQ (xb X) (ux_Qci (xG X) r N L) (xa X) (xs X) 0 0 (ux_A (xG X))
def ux_Qv (X : ux_X) (N : ux_N) (L : ux_L) : Prop := xQ X = MQ (xb X) (ux_Qcv (xG X) N L) (xa X) (xs X) 0 0 (ux_A (xG X))
theorem ux_Pre.blind {G : ux_G} {As : List Value} {N : ux_N} {L : ux_L} : FrameBlind (ux_Pre G As N L) := by
  intro a U g mk h
  obtain ⟨h0, h1, h2, h3⟩ := h
  exact ⟨h0, h1, va_K.moved (u := U) (U := U.calling g mk a) (Vm.Alike.refl U.vm) h2, ux_Z.same (u := U) rfl rfl h3⟩
theorem ux_ofi {l : Launch} {G : ux_G} {y : MethodName} {cc : ByteArray} {nL : Nat} {ret : Option FieldType} {fr lo : Nat} {As : List Value} {N N' : ux_N} {L L' : ux_L} {r : Int32} (sh : List ux_Sh) (hok : ux_ok G sh) (hy : plainName y.cls = true) (hn : (lg_sl As).length ≤ nL)
    (body : ∀ X : ux_X, xG X = G → xl X = l → ux_C X cc y.cls nL ret fr lo sh → ux_Qi X r N' L' → ux_Wt X nL 0 (lv_args 0 As) [] N L) : ux_Mi l G y cc nL ret fr lo As N L r N' L' := by
  refine Met.ofW (cc := cc) (maxL := nL) (ret := ret) hy rfl ?_
  intro p e s m args below meth c s₁ B hml hv
  obtain ⟨rfl, hP, hK, hZ⟩ := hv
  have hts := atoms_spec (ws := Cond.code y cc nL ret :: lw_gt) B.pre
  have K := body (p, l, e, (headSpec (Cond.code y cc nL ret :: lw_gt) (ux_rm fr lo)).room, s, m, As.toArray, below, meth, c, G, MQ below (ux_Qci G r N' L') As.toArray s 0 0 (ux_A G)) rfl rfl
    ⟨⟨B.exec, B.bytes⟩, B.returns, hml, findClass_of_methodNamed B.named, fun w hw => hts w (List.mem_cons_of_mem _ hw), B.notSynchronized, ⟨Nat.le_refl _, Nat.le_refl _⟩, hok, hK, hZ⟩ rfl
  rw [lg_entry_eq]
  exact K s.heap [] _ hP va_S.rf (lv_entry As hn)
theorem ux_ofv {l : Launch} {G : ux_G} {y : MethodName} {cc : ByteArray} {nL : Nat} {fr lo : Nat} {As : List Value} {N N' : ux_N} {L L' : ux_L} (sh : List ux_Sh) (hok : ux_ok G sh) (hy : plainName y.cls = true) (hn : (lg_sl As).length ≤ nL)
    (body : ∀ X : ux_X, xG X = G → xl X = l → ux_C X cc y.cls nL none fr lo sh → ux_Qv X N' L' → ux_Wt X nL 0 (lv_args 0 As) [] N L) : ux_Mv l G y cc nL fr lo As N L N' L' := by
  refine Met.ofW (cc := cc) (maxL := nL) (ret := none) hy rfl ?_
  intro p e s m args below meth c s₁ B hml hv
  obtain ⟨rfl, hP, hK, hZ⟩ := hv
  have hts := atoms_spec (ws := Cond.code y cc nL none :: lw_gt) B.pre
  have K := body (p, l, e, (headSpec (Cond.code y cc nL none :: lw_gt) (ux_rm fr lo)).room, s, m, As.toArray, below, meth, c, G, MQ below (ux_Qcv G N' L') As.toArray s 0 0 (ux_A G)) rfl rfl
    ⟨⟨B.exec, B.bytes⟩, B.returns, hml, findClass_of_methodNamed B.named, fun w hw => hts w (List.mem_cons_of_mem _ hw), B.notSynchronized, ⟨Nat.le_refl _, Nat.le_refl _⟩, hok, hK, hZ⟩ rfl
  rw [lg_entry_eq]
  exact K s.heap [] _ hP va_S.rf (lv_entry As hn)
/-- what a call of a method of an object, by entry idx of own's pool, needs of the tables -/
def ux_LV (own : String) (idx ci : Nat) (y : MethodName) (cc : ByteArray) (maxL : Nat) (ret : Option FieldType) (n : Nat) : Prop :=
  (∃ T k, vwCl[ci]? = some (y.cls, T, k)) ∧ Cond.methodLink own idx y ∈ lw_gt ∧ Cond.instanceMethod y ∈ lw_gt ∧ Cond.selects y.cls y y ∈ lw_gt ∧ Cond.initialized y.cls ∈ lw_gt ∧ Cond.code y cc maxL ret ∈ lw_gt ∧ (y.cls ≠ "java/lang/invoke/MethodHandle" ∧ y.cls ≠ "java/lang/invoke/VarHandle" ∧ (parseMethodDescriptor y.desc).map (fun d => d.parameters.length) = some n)
def ux_LS (own : String) (idx : Nat) (y : MethodName) (cc : ByteArray) (maxL : Nat) (ret : Option FieldType) (n : Nat) : Prop :=
  Cond.methodLink own idx y ∈ lw_gt ∧ Cond.static y ∈ lw_gt ∧ Cond.initialized y.cls ∈ lw_gt ∧ Cond.code y cc maxL ret ∈ lw_gt ∧ (y.cls ≠ "java/lang/invoke/MethodHandle" ∧ y.cls ≠ "java/lang/invoke/VarHandle" ∧ (parseMethodDescriptor y.desc).map (fun d => d.parameters.length) = some n)
def ux_LSN (own : String) (idx : Nat) (host : String) (y : MethodName) (cc : ByteArray) (maxL : Nat) (ret : Option FieldType) (n : Nat) : Prop :=
  (own, idx, y, host) ∈ tb_nest ∧ Cond.static y ∈ lw_gt ∧ Cond.initialized y.cls ∈ lw_gt ∧ Cond.code y cc maxL ret ∈ lw_gt ∧ (y.cls ≠ "java/lang/invoke/MethodHandle" ∧ y.cls ≠ "java/lang/invoke/VarHandle" ∧ (parseMethodDescriptor y.desc).map (fun d => d.parameters.length) = some n)
section UXK
variable {X : ux_X} {cc : ByteArray} {own : String} {nL : Nat} {ret : Option FieldType} {fr lo : Nat} {sh : List ux_Sh} {pc : Nat} {lv : List (Nat × Value)} {st rest As : List Value} {N N' : ux_N} {L L' : ux_L}
  {idx ci n h n0 maxL fr' lo' : Nat} {fks : List (Option Nat)} {y : MethodName} {cb : ByteArray} {rt : Option FieldType} {r : Int32}
theorem wt_pre {H : Heap} {locs : List Loc} (C : ux_C X cc own nL ret fr lo sh) (hP : va_P (xG X).2.1 vwCl (ux_wl (xG X) N L) H) (hS : va_S (ux_A (xG X)) (xs X).heap H locs) (U : State) (hU : U.heap = H) (hW : (xs X).WarmedH U.vm) : ux_Pre (xG X) As N L As.toArray U :=
  ⟨rfl, by rw [hU]; exact hP, va_K.moved hW.alike (cx_K C), ux_Z.call hW hS hU (cx_Z C)⟩
theorem wt_cb (C : ux_C X cc own nL ret fr lo sh) (m1 : Cond.methodLink own idx y ∈ lw_gt) (m4 : Cond.initialized y.cls ∈ lw_gt) (m5 : Cond.code y cb maxL rt ∈ lw_gt) (m6 : y.cls ≠ "java/lang/invoke/MethodHandle" ∧ y.cls ≠ "java/lang/invoke/VarHandle" ∧ (parseMethodDescriptor y.desc).map (fun d => d.parameters.length) = some n) (hR : fr' + 1 ≤ fr ∧ 8 + (maxL + 11) + lo' ≤ lo) : CallB (xR X) (xs X) (xa X) own idx y cb maxL rt (.code y cb maxL rt :: lw_gt) (ux_rm fr' lo') 0 0 n :=
  callB_of n (cx_t C) (gt_good m5) rfl rfl rfl (cx_t C _ m4) (cx_t C _ m1) m6 ⟨Nat.le_trans hR.1 (cx_fr C), Nat.le_trans hR.2 (cx_lo C)⟩
theorem wt_callVi (q : Nat) (rest : List Value) (C : ux_C X cc own nL ret fr lo sh) (kl : ux_LV own idx ci y cb maxL rt n) (hs : sh[h]? = some (0, ci, n0, fks)) (hM : ux_Mi (xl X) (xG X) y cb maxL rt fr' lo' (.ref (ux_ad X h) :: As) N L r N' L') (hn : As.length = n) (hst : st = As.reverse ++ .ref (ux_ad X h) :: rest) (hR : fr' + 1 ≤ fr ∧ 8 + (maxL + 11) + lo' ≤ lo) (hr : (rest.map fun v => v.category).sum ≤ 8) (hd : decode cc pc = .ok (.invokevirtual idx, 3)) (hq : pc + 3 = q) (kk : ux_Wt X nL q lv (.int r :: rest) N' L') : ux_Wt X nL pc lv st N L := by
  subst hq
  obtain ⟨⟨T, k, h1⟩, m1, m2, m3, m4, m5, m6⟩ := kl
  refine fun H locs ls hP hS hv => va_calli (va_runV (As := As) (rest := rest) ⟨cx_x C, cx_b C, cx_m C, cx_o C, cx_t C⟩ hM ⟨wt_cb C m1 m4 m5 m6 hR, cx_t C _ m2, cx_t C _ m3⟩ ⟨ux_Pre.blind, va_recv (cx_K C) hP h1 (ux_at (cx_s C hs)), fun U hU hW => wt_pre C hP hS U hU hW⟩ rfl hn hv.1 hst (lv_room hr) hd ⟨Nat.zero_le _, Nat.zero_le _⟩) hS (fun _ _ z => z) (fun _ z => z) (fun r' u t H1 locs1 ht hvm hw hB hz1 hk1 hS1 => ?_)
  cases hw
  exact kk H1 locs1 ls (by rw [← ht]; exact hB) hS1 hv
theorem wt_callVv (q : Nat) (rest : List Value) (C : ux_C X cc own nL ret fr lo sh) (kl : ux_LV own idx ci y cb maxL none n) (hs : sh[h]? = some (0, ci, n0, fks)) (hM : ux_Mv (xl X) (xG X) y cb maxL fr' lo' (.ref (ux_ad X h) :: As) N L N' L') (hn : As.length = n) (hst : st = As.reverse ++ .ref (ux_ad X h) :: rest) (hR : fr' + 1 ≤ fr ∧ 8 + (maxL + 11) + lo' ≤ lo) (hr : (rest.map fun v => v.category).sum ≤ 8) (hd : decode cc pc = .ok (.invokevirtual idx, 3)) (hq : pc + 3 = q) (kk : ux_Wt X nL q lv rest N' L') : ux_Wt X nL pc lv st N L := by
  subst hq
  obtain ⟨⟨T, k, h1⟩, m1, m2, m3, m4, m5, m6⟩ := kl
  refine fun H locs ls hP hS hv => va_callv (va_runV (As := As) (rest := rest) ⟨cx_x C, cx_b C, cx_m C, cx_o C, cx_t C⟩ hM ⟨wt_cb C m1 m4 m5 m6 hR, cx_t C _ m2, cx_t C _ m3⟩ ⟨ux_Pre.blind, va_recv (cx_K C) hP h1 (ux_at (cx_s C hs)), fun U hU hW => wt_pre C hP hS U hU hW⟩ rfl hn hv.1 hst (lv_room hr) hd ⟨Nat.zero_le _, Nat.zero_le _⟩) hS (fun _ _ z => z) (fun _ z => z) (fun u t H1 locs1 ht hvm hw hB hz1 hk1 hS1 => ?_)
  exact kk H1 locs1 ls (by rw [← ht]; exact hB) hS1 hv
theorem wt_callSi (q : Nat) (rest : List Value) (C : ux_C X cc own nL ret fr lo sh) (kl : ux_LS own idx y cb maxL rt n) (hM : ux_Mi (xl X) (xG X) y cb maxL rt fr' lo' As N L r N' L') (hn : As.length = n) (hst : st = As.reverse ++ rest) (hR : fr' + 1 ≤ fr ∧ 8 + (maxL + 11) + lo' ≤ lo) (hr : (rest.map fun v => v.category).sum ≤ 8) (hd : decode cc pc = .ok (.invokestatic idx, 3)) (hq : pc + 3 = q) (kk : ux_Wt X nL q lv (.int r :: rest) N' L') : ux_Wt X nL pc lv st N L := by
  subst hq
  obtain ⟨m1, m2, m4, m5, m6⟩ := kl
  refine fun H locs ls hP hS hv => va_calli (va_runS (As := As) (rest := rest) ⟨cx_x C, cx_b C, cx_m C, cx_o C, cx_t C⟩ hM ⟨wt_cb C m1 m4 m5 m6 hR, cx_t C _ m2⟩ ⟨ux_Pre.blind, fun U hU hW => wt_pre C hP hS U hU hW⟩ rfl hn hv.1 hst (lv_room hr) hd ⟨Nat.zero_le _, Nat.zero_le _⟩) hS (fun _ _ z => z) (fun _ z => z) (fun r' u t H1 locs1 ht hvm hw hB hz1 hk1 hS1 => ?_)
  cases hw
  exact kk H1 locs1 ls (by rw [← ht]; exact hB) hS1 hv
theorem wt_callSNi (q : Nat) (rest : List Value) {host : String} (C : ux_C X cc own nL ret fr lo sh) (kl : ux_LSN own idx host y cb maxL rt n) (hM : ux_Mi (xl X) (xG X) y cb maxL rt fr' lo' As N L r N' L') (hn : As.length = n) (hst : st = As.reverse ++ rest) (hR : fr' + 1 ≤ fr ∧ 8 + (maxL + 11) + lo' ≤ lo) (hr : (rest.map fun v => v.category).sum ≤ 8) (hd : decode cc pc = .ok (.invokestatic idx, 3)) (hq : pc + 3 = q) (kk : ux_Wt X nL q lv (.int r :: rest) N' L') : ux_Wt X nL pc lv st N L := by
  subst hq
  obtain ⟨m1, m2, m4, m5, m6⟩ := kl
  have hN : va_Nw (.methodLinkNest own idx y host) (xs X) := (cx_Z C).2.2.2.2.2 _ m1
  refine fun H locs ls hP hS hv => va_calli (va_runSN (As := As) (rest := rest) ⟨cx_x C, cx_b C, cx_m C, cx_o C, cx_t C⟩ hM ⟨va_cnB n (cx_t C) (gt_good m5) rfl rfl rfl hN (cx_t C _ m4) m6 ⟨Nat.le_trans hR.1 (cx_fr C), Nat.le_trans hR.2 (cx_lo C)⟩, cx_t C _ m2, trivial⟩ ⟨ux_Pre.blind, fun U hU hW => wt_pre C hP hS U hU hW⟩ rfl hn hv.1 hst (lv_room hr) hd ⟨Nat.zero_le _, Nat.zero_le _⟩) hS (fun _ _ z => z) (fun _ z => z) (fun r' u t H1 locs1 ht hvm hw hB hz1 hk1 hS1 => ?_)
  cases hw
  exact kk H1 locs1 ls (by rw [← ht]; exact hB) hS1 hv
theorem wt_iret {v : Int32} (C : ux_C X cc own nL (some .int) fr lo sh) (hq : ux_Qi X v N L) (hd : decode cc pc = .ok (.ireturn, 1)) : ux_Wt X nL pc lv [.int v] N L := by
  intro H locs ls hP hS hv
  show W _ _ _ _ _ _ _ _ _ _ _ _ _ _ (xQ X) _
  rw [hq]
  exact W.iret (cx_x C) (cx_b C) (cx_r C) (fun t ht hW => ⟨⟨v, (), rfl, rfl, by show va_P _ _ _ _; rw [ht]; exact hP⟩, hS.F ht⟩) hS.2.2 hd (cx_l C)
theorem wt_zret {v : Int32} {ty : FieldType} (C : ux_C X cc own nL (some ty) fr lo sh) (hn : narrow ty (.int v) = .int v) (hq : ux_Qi X v N L) (hd : decode cc pc = .ok (.ireturn, 1)) : ux_Wt X nL pc lv [.int v] N L := by
  intro H locs ls hP hS hv
  show W _ _ _ _ _ _ _ _ _ _ _ _ _ _ (xQ X) _
  rw [hq]
  exact W.zret (cx_x C) (cx_b C) (cx_r C) hn (fun t ht hW => ⟨⟨v, (), rfl, rfl, by show va_P _ _ _ _; rw [ht]; exact hP⟩, hS.F ht⟩) hS.2.2 hd (cx_l C)
theorem wt_vret (C : ux_C X cc own nL none fr lo sh) (hq : ux_Qv X N L) (hd : decode cc pc = .ok (.return_, 1)) : ux_Wt X nL pc lv [] N L := by
  intro H locs ls hP hS hv
  show W _ _ _ _ _ _ _ _ _ _ _ _ _ _ (xQ X) _
  rw [hq]
  exact W.vret (cx_x C) (cx_b C) (cx_r C) (fun t ht hW => ⟨⟨(), rfl, trivial, by show va_P _ _ _ _; rw [ht]; exact hP⟩, hS.F ht⟩) hS.2.2 hd (cx_l C)
end UXK
end
section
def shC_0 : List ux_Sh := [(0, 11, 0, [some 1, some 9, some 19, some 22, some 29, some 30, some 33, some 107, some 110]), (0, 3, 0, [none, none, none, none, some 2, some 3, some 4, some 5, some 6, some 7, some 8]), (1, 0, 10, []), (1, 0, 10, []), (1, 0, 9, []), (1, 0, 9, []), (1, 0, 6, []), (1, 0, 6, []), (1, 0, 6, []), (0, 4, 0, [none, none, some 10, some 18, none, none, none]), (0, 3, 0, [none, none, none, none, some 11, some 12, some 13, some 14, some 15, some 16, some 17]), (1, 0, 10, []), (1, 0, 10, []), (1, 0, 9, []), (1, 0, 9, []), (1, 0, 6, []), (1, 0, 6, []), (1, 0, 6, []), (1, 2, 200, []), (0, 8, 0, [none, none, none, some 20, some 21])]
def shC_1 : List ux_Sh := [(1, 0, 9, []), (1, 0, 9, []), (3, 6, 2, [some 23, some 26]), (0, 8, 0, [none, none, none, some 24, some 25]), (1, 0, 9, []), (1, 0, 9, []), (0, 8, 0, [none, none, none, some 27, some 28]), (1, 0, 9, []), (1, 0, 9, []), (1, 1, 2, []), (0, 1, 0, [none, some 31, some 32]), (1, 0, 8, []), (1, 0, 8, []), (0, 6, 0, [none, none, none, some 34, some 1, some 19, some 35, some 38, some 41, some 44, some 77, some 100, some 102, some 103, none, none, none, none, none]), (1, 0, 9, []), (0, 0, 0, [some 36, some 37]), (2, 3, 16, []), (2, 3, 16, []), (0, 0, 0, [some 39, some 40]), (2, 3, 16, [])]
def shC_2 : List ux_Sh := [(2, 3, 16, []), (0, 0, 0, [some 42, some 43]), (2, 3, 16, []), (2, 3, 16, []), (0, 10, 0, [some 45, some 46]), (1, 0, 512, []), (3, 4, 10, [some 47, some 50, some 53, some 56, some 59, some 62, some 65, some 68, some 71, some 74]), (0, 0, 0, [some 48, some 49]), (2, 3, 16, []), (2, 3, 16, []), (0, 0, 0, [some 51, some 52]), (2, 3, 16, []), (2, 3, 16, []), (0, 0, 0, [some 54, some 55]), (2, 3, 16, []), (2, 3, 16, []), (0, 0, 0, [some 57, some 58]), (2, 3, 16, []), (2, 3, 16, []), (0, 0, 0, [some 60, some 61])]
def shC_3 : List ux_Sh := [(2, 3, 16, []), (2, 3, 16, []), (0, 0, 0, [some 63, some 64]), (2, 3, 16, []), (2, 3, 16, []), (0, 0, 0, [some 66, some 67]), (2, 3, 16, []), (2, 3, 16, []), (0, 0, 0, [some 69, some 70]), (2, 3, 16, []), (2, 3, 16, []), (0, 0, 0, [some 72, some 73]), (2, 3, 16, []), (2, 3, 16, []), (0, 0, 0, [some 75, some 76]), (2, 3, 16, []), (2, 3, 16, []), (3, 5, 11, [some 78, some 80, some 82, some 84, some 86, some 88, some 90, some 92, some 94, some 96, some 98]), (0, 2, 0, [some 79]), (1, 0, 8, [])]
def shC_4 : List ux_Sh := [(0, 2, 0, [some 81]), (1, 0, 8, []), (0, 2, 0, [some 83]), (1, 0, 8, []), (0, 2, 0, [some 85]), (1, 0, 8, []), (0, 2, 0, [some 87]), (1, 0, 8, []), (0, 2, 0, [some 89]), (1, 0, 8, []), (0, 2, 0, [some 91]), (1, 0, 8, []), (0, 2, 0, [some 93]), (1, 0, 8, []), (0, 2, 0, [some 95]), (1, 0, 8, []), (0, 2, 0, [some 97]), (1, 0, 8, []), (0, 2, 0, [some 99]), (1, 0, 8, [])]
def shC_5 : List ux_Sh := [(0, 2, 0, [some 101]), (1, 0, 8, []), (1, 0, 6, []), (0, 5, 0, [none, some 104, some 105, some 106]), (1, 0, 10, []), (1, 0, 9, []), (1, 0, 1024, []), (0, 7, 0, [none, some 108, some 109]), (1, 0, 6, []), (1, 0, 6, []), (3, 7, 3, [some 111, some 114, some 117]), (0, 9, 0, [none, none, some 112, some 113]), (1, 0, 8, []), (1, 0, 8, []), (0, 9, 0, [none, none, some 115, some 116]), (1, 0, 8, []), (1, 0, 8, []), (0, 9, 0, [none, none, some 118, some 119]), (1, 0, 8, []), (1, 0, 8, [])]
def shC : List ux_Sh := shC_0 ++ (shC_1 ++ (shC_2 ++ (shC_3 ++ (shC_4 ++ (shC_5)))))
def shM_0 : List ux_Sh := [(0, 12, 0, [some 1, none, none, some 2, none, some 3, none, some 4, some 5, none, some 6, some 7, none, some 8, some 9, some 10, none, none, none, none, none, none, none, none, some 11, some 12, some 13, some 14, some 15, some 16, some 17]), (1, 0, 252, []), (1, 0, 20, []), (1, 0, 18, []), (1, 1, 2, []), (1, 0, 200, []), (1, 0, 6, []), (1, 0, 6, []), (1, 0, 3, []), (1, 0, 24, []), (1, 0, 24, []), (1, 0, 3, []), (1, 0, 40, []), (2, 3, 128, []), (1, 0, 8, []), (2, 3, 8224, []), (2, 3, 6, []), (1, 0, 10, [])]
def shM : List ux_Sh := shM_0
theorem sc_0 : shC[0]? = some (0, 11, 0, [some 1, some 9, some 19, some 22, some 29, some 30, some 33, some 107, some 110]) := by decide +kernel
theorem sc_1 : shC[1]? = some (0, 3, 0, [none, none, none, none, some 2, some 3, some 4, some 5, some 6, some 7, some 8]) := by decide +kernel
theorem sc_2 : shC[2]? = some (1, 0, 10, []) := by decide +kernel
theorem sc_3 : shC[3]? = some (1, 0, 10, []) := by decide +kernel
theorem sc_4 : shC[4]? = some (1, 0, 9, []) := by decide +kernel
theorem sc_5 : shC[5]? = some (1, 0, 9, []) := by decide +kernel
theorem sc_6 : shC[6]? = some (1, 0, 6, []) := by decide +kernel
theorem sc_7 : shC[7]? = some (1, 0, 6, []) := by decide +kernel
theorem sc_8 : shC[8]? = some (1, 0, 6, []) := by decide +kernel
theorem sc_9 : shC[9]? = some (0, 4, 0, [none, none, some 10, some 18, none, none, none]) := by decide +kernel
theorem sc_10 : shC[10]? = some (0, 3, 0, [none, none, none, none, some 11, some 12, some 13, some 14, some 15, some 16, some 17]) := by decide +kernel
theorem sc_11 : shC[11]? = some (1, 0, 10, []) := by decide +kernel
theorem sc_12 : shC[12]? = some (1, 0, 10, []) := by decide +kernel
theorem sc_13 : shC[13]? = some (1, 0, 9, []) := by decide +kernel
theorem sc_14 : shC[14]? = some (1, 0, 9, []) := by decide +kernel
theorem sc_15 : shC[15]? = some (1, 0, 6, []) := by decide +kernel
theorem sc_16 : shC[16]? = some (1, 0, 6, []) := by decide +kernel
theorem sc_17 : shC[17]? = some (1, 0, 6, []) := by decide +kernel
theorem sc_18 : shC[18]? = some (1, 2, 200, []) := by decide +kernel
theorem sc_19 : shC[19]? = some (0, 8, 0, [none, none, none, some 20, some 21]) := by decide +kernel
theorem sc_20 : shC[20]? = some (1, 0, 9, []) := by decide +kernel
theorem sc_21 : shC[21]? = some (1, 0, 9, []) := by decide +kernel
theorem sc_22 : shC[22]? = some (3, 6, 2, [some 23, some 26]) := by decide +kernel
theorem sc_23 : shC[23]? = some (0, 8, 0, [none, none, none, some 24, some 25]) := by decide +kernel
theorem sc_24 : shC[24]? = some (1, 0, 9, []) := by decide +kernel
theorem sc_25 : shC[25]? = some (1, 0, 9, []) := by decide +kernel
theorem sc_26 : shC[26]? = some (0, 8, 0, [none, none, none, some 27, some 28]) := by decide +kernel
theorem sc_27 : shC[27]? = some (1, 0, 9, []) := by decide +kernel
theorem sc_28 : shC[28]? = some (1, 0, 9, []) := by decide +kernel
theorem sc_29 : shC[29]? = some (1, 1, 2, []) := by decide +kernel
theorem sc_30 : shC[30]? = some (0, 1, 0, [none, some 31, some 32]) := by decide +kernel
theorem sc_31 : shC[31]? = some (1, 0, 8, []) := by decide +kernel
theorem sc_32 : shC[32]? = some (1, 0, 8, []) := by decide +kernel
theorem sc_33 : shC[33]? = some (0, 6, 0, [none, none, none, some 34, some 1, some 19, some 35, some 38, some 41, some 44, some 77, some 100, some 102, some 103, none, none, none, none, none]) := by decide +kernel
theorem sc_34 : shC[34]? = some (1, 0, 9, []) := by decide +kernel
theorem sc_35 : shC[35]? = some (0, 0, 0, [some 36, some 37]) := by decide +kernel
theorem sc_36 : shC[36]? = some (2, 3, 16, []) := by decide +kernel
theorem sc_37 : shC[37]? = some (2, 3, 16, []) := by decide +kernel
theorem sc_38 : shC[38]? = some (0, 0, 0, [some 39, some 40]) := by decide +kernel
theorem sc_39 : shC[39]? = some (2, 3, 16, []) := by decide +kernel
theorem sc_40 : shC[40]? = some (2, 3, 16, []) := by decide +kernel
theorem sc_41 : shC[41]? = some (0, 0, 0, [some 42, some 43]) := by decide +kernel
theorem sc_42 : shC[42]? = some (2, 3, 16, []) := by decide +kernel
theorem sc_43 : shC[43]? = some (2, 3, 16, []) := by decide +kernel
theorem sc_44 : shC[44]? = some (0, 10, 0, [some 45, some 46]) := by decide +kernel
theorem sc_45 : shC[45]? = some (1, 0, 512, []) := by decide +kernel
theorem sc_46 : shC[46]? = some (3, 4, 10, [some 47, some 50, some 53, some 56, some 59, some 62, some 65, some 68, some 71, some 74]) := by decide +kernel
theorem sc_47 : shC[47]? = some (0, 0, 0, [some 48, some 49]) := by decide +kernel
theorem sc_48 : shC[48]? = some (2, 3, 16, []) := by decide +kernel
theorem sc_49 : shC[49]? = some (2, 3, 16, []) := by decide +kernel
theorem sc_50 : shC[50]? = some (0, 0, 0, [some 51, some 52]) := by decide +kernel
theorem sc_51 : shC[51]? = some (2, 3, 16, []) := by decide +kernel
theorem sc_52 : shC[52]? = some (2, 3, 16, []) := by decide +kernel
theorem sc_53 : shC[53]? = some (0, 0, 0, [some 54, some 55]) := by decide +kernel
theorem sc_54 : shC[54]? = some (2, 3, 16, []) := by decide +kernel
theorem sc_55 : shC[55]? = some (2, 3, 16, []) := by decide +kernel
theorem sc_56 : shC[56]? = some (0, 0, 0, [some 57, some 58]) := by decide +kernel
theorem sc_57 : shC[57]? = some (2, 3, 16, []) := by decide +kernel
theorem sc_58 : shC[58]? = some (2, 3, 16, []) := by decide +kernel
theorem sc_59 : shC[59]? = some (0, 0, 0, [some 60, some 61]) := by decide +kernel
theorem sc_60 : shC[60]? = some (2, 3, 16, []) := by decide +kernel
theorem sc_61 : shC[61]? = some (2, 3, 16, []) := by decide +kernel
theorem sc_62 : shC[62]? = some (0, 0, 0, [some 63, some 64]) := by decide +kernel
theorem sc_63 : shC[63]? = some (2, 3, 16, []) := by decide +kernel
theorem sc_64 : shC[64]? = some (2, 3, 16, []) := by decide +kernel
theorem sc_65 : shC[65]? = some (0, 0, 0, [some 66, some 67]) := by decide +kernel
theorem sc_66 : shC[66]? = some (2, 3, 16, []) := by decide +kernel
theorem sc_67 : shC[67]? = some (2, 3, 16, []) := by decide +kernel
theorem sc_68 : shC[68]? = some (0, 0, 0, [some 69, some 70]) := by decide +kernel
theorem sc_69 : shC[69]? = some (2, 3, 16, []) := by decide +kernel
theorem sc_70 : shC[70]? = some (2, 3, 16, []) := by decide +kernel
theorem sc_71 : shC[71]? = some (0, 0, 0, [some 72, some 73]) := by decide +kernel
theorem sc_72 : shC[72]? = some (2, 3, 16, []) := by decide +kernel
theorem sc_73 : shC[73]? = some (2, 3, 16, []) := by decide +kernel
theorem sc_74 : shC[74]? = some (0, 0, 0, [some 75, some 76]) := by decide +kernel
theorem sc_75 : shC[75]? = some (2, 3, 16, []) := by decide +kernel
theorem sc_76 : shC[76]? = some (2, 3, 16, []) := by decide +kernel
theorem sc_77 : shC[77]? = some (3, 5, 11, [some 78, some 80, some 82, some 84, some 86, some 88, some 90, some 92, some 94, some 96, some 98]) := by decide +kernel
theorem sc_78 : shC[78]? = some (0, 2, 0, [some 79]) := by decide +kernel
theorem sc_79 : shC[79]? = some (1, 0, 8, []) := by decide +kernel
theorem sc_80 : shC[80]? = some (0, 2, 0, [some 81]) := by decide +kernel
theorem sc_81 : shC[81]? = some (1, 0, 8, []) := by decide +kernel
theorem sc_82 : shC[82]? = some (0, 2, 0, [some 83]) := by decide +kernel
theorem sc_83 : shC[83]? = some (1, 0, 8, []) := by decide +kernel
theorem sc_84 : shC[84]? = some (0, 2, 0, [some 85]) := by decide +kernel
theorem sc_85 : shC[85]? = some (1, 0, 8, []) := by decide +kernel
theorem sc_86 : shC[86]? = some (0, 2, 0, [some 87]) := by decide +kernel
theorem sc_87 : shC[87]? = some (1, 0, 8, []) := by decide +kernel
theorem sc_88 : shC[88]? = some (0, 2, 0, [some 89]) := by decide +kernel
theorem sc_89 : shC[89]? = some (1, 0, 8, []) := by decide +kernel
theorem sc_90 : shC[90]? = some (0, 2, 0, [some 91]) := by decide +kernel
theorem sc_91 : shC[91]? = some (1, 0, 8, []) := by decide +kernel
theorem sc_92 : shC[92]? = some (0, 2, 0, [some 93]) := by decide +kernel
theorem sc_93 : shC[93]? = some (1, 0, 8, []) := by decide +kernel
theorem sc_94 : shC[94]? = some (0, 2, 0, [some 95]) := by decide +kernel
theorem sc_95 : shC[95]? = some (1, 0, 8, []) := by decide +kernel
theorem sc_96 : shC[96]? = some (0, 2, 0, [some 97]) := by decide +kernel
theorem sc_97 : shC[97]? = some (1, 0, 8, []) := by decide +kernel
theorem sc_98 : shC[98]? = some (0, 2, 0, [some 99]) := by decide +kernel
theorem sc_99 : shC[99]? = some (1, 0, 8, []) := by decide +kernel
theorem sc_100 : shC[100]? = some (0, 2, 0, [some 101]) := by decide +kernel
theorem sc_101 : shC[101]? = some (1, 0, 8, []) := by decide +kernel
theorem sc_102 : shC[102]? = some (1, 0, 6, []) := by decide +kernel
theorem sc_103 : shC[103]? = some (0, 5, 0, [none, some 104, some 105, some 106]) := by decide +kernel
theorem sc_104 : shC[104]? = some (1, 0, 10, []) := by decide +kernel
theorem sc_105 : shC[105]? = some (1, 0, 9, []) := by decide +kernel
theorem sc_106 : shC[106]? = some (1, 0, 1024, []) := by decide +kernel
theorem sc_107 : shC[107]? = some (0, 7, 0, [none, some 108, some 109]) := by decide +kernel
theorem sc_108 : shC[108]? = some (1, 0, 6, []) := by decide +kernel
theorem sc_109 : shC[109]? = some (1, 0, 6, []) := by decide +kernel
theorem sc_110 : shC[110]? = some (3, 7, 3, [some 111, some 114, some 117]) := by decide +kernel
theorem sc_111 : shC[111]? = some (0, 9, 0, [none, none, some 112, some 113]) := by decide +kernel
theorem sc_112 : shC[112]? = some (1, 0, 8, []) := by decide +kernel
theorem sc_113 : shC[113]? = some (1, 0, 8, []) := by decide +kernel
theorem sc_114 : shC[114]? = some (0, 9, 0, [none, none, some 115, some 116]) := by decide +kernel
theorem sc_115 : shC[115]? = some (1, 0, 8, []) := by decide +kernel
theorem sc_116 : shC[116]? = some (1, 0, 8, []) := by decide +kernel
theorem sc_117 : shC[117]? = some (0, 9, 0, [none, none, some 118, some 119]) := by decide +kernel
theorem sc_118 : shC[118]? = some (1, 0, 8, []) := by decide +kernel
theorem sc_119 : shC[119]? = some (1, 0, 8, []) := by decide +kernel
theorem sm_0 : shM[0]? = some (0, 12, 0, [some 1, none, none, some 2, none, some 3, none, some 4, some 5, none, some 6, some 7, none, some 8, some 9, some 10, none, none, none, none, none, none, none, none, some 11, some 12, some 13, some 14, some 15, some 16, some 17]) := by decide +kernel
theorem sm_1 : shM[1]? = some (1, 0, 252, []) := by decide +kernel
theorem sm_2 : shM[2]? = some (1, 0, 20, []) := by decide +kernel
theorem sm_3 : shM[3]? = some (1, 0, 18, []) := by decide +kernel
theorem sm_4 : shM[4]? = some (1, 1, 2, []) := by decide +kernel
theorem sm_5 : shM[5]? = some (1, 0, 200, []) := by decide +kernel
theorem sm_6 : shM[6]? = some (1, 0, 6, []) := by decide +kernel
theorem sm_7 : shM[7]? = some (1, 0, 6, []) := by decide +kernel
theorem sm_8 : shM[8]? = some (1, 0, 3, []) := by decide +kernel
theorem sm_9 : shM[9]? = some (1, 0, 24, []) := by decide +kernel
theorem sm_10 : shM[10]? = some (1, 0, 24, []) := by decide +kernel
theorem sm_11 : shM[11]? = some (1, 0, 3, []) := by decide +kernel
theorem sm_12 : shM[12]? = some (1, 0, 40, []) := by decide +kernel
theorem sm_13 : shM[13]? = some (2, 3, 128, []) := by decide +kernel
theorem sm_14 : shM[14]? = some (1, 0, 8, []) := by decide +kernel
theorem sm_15 : shM[15]? = some (2, 3, 8224, []) := by decide +kernel
theorem sm_16 : shM[16]? = some (2, 3, 6, []) := by decide +kernel
theorem sm_17 : shM[17]? = some (1, 0, 10, []) := by decide +kernel
def is_X0 (h : Nat) : Prop := shC[h]? = some (0, 0, 0, [some (h + 1), some (h + 2)]) ∧ shC[h + 1]? = some (2, 3, 16, []) ∧ shC[h + 2]? = some (2, 3, 16, [])
def is_X2 (h : Nat) : Prop := shC[h]? = some (0, 2, 0, [some (h + 1)]) ∧ shC[h + 1]? = some (1, 0, 8, [])
def is_X3 (h : Nat) : Prop := shC[h]? = some (0, 3, 0, [none, none, none, none, some (h + 1), some (h + 2), some (h + 3), some (h + 4), some (h + 5), some (h + 6), some (h + 7)]) ∧ shC[h + 1]? = some (1, 0, 10, []) ∧ shC[h + 2]? = some (1, 0, 10, []) ∧ shC[h + 3]? = some (1, 0, 9, []) ∧ shC[h + 4]? = some (1, 0, 9, []) ∧ shC[h + 5]? = some (1, 0, 6, []) ∧ shC[h + 6]? = some (1, 0, 6, []) ∧ shC[h + 7]? = some (1, 0, 6, [])
def is_X8 (h : Nat) : Prop := shC[h]? = some (0, 8, 0, [none, none, none, some (h + 1), some (h + 2)]) ∧ shC[h + 1]? = some (1, 0, 9, []) ∧ shC[h + 2]? = some (1, 0, 9, [])
def is_X9 (h : Nat) : Prop := shC[h]? = some (0, 9, 0, [none, none, some (h + 1), some (h + 2)]) ∧ shC[h + 1]? = some (1, 0, 8, []) ∧ shC[h + 2]? = some (1, 0, 8, [])
theorem is3_1 : is_X3 1 := ⟨rfl, rfl, rfl, rfl, rfl, rfl, rfl, rfl⟩
theorem is3_10 : is_X3 10 := ⟨rfl, rfl, rfl, rfl, rfl, rfl, rfl, rfl⟩
theorem is8_19 : is_X8 19 := ⟨rfl, rfl, rfl⟩
theorem is8_23 : is_X8 23 := ⟨rfl, rfl, rfl⟩
theorem is8_26 : is_X8 26 := ⟨rfl, rfl, rfl⟩
theorem is0_35 : is_X0 35 := ⟨rfl, rfl, rfl⟩
theorem is0_38 : is_X0 38 := ⟨rfl, rfl, rfl⟩
theorem is0_41 : is_X0 41 := ⟨rfl, rfl, rfl⟩
theorem is2_100 : is_X2 100 := ⟨rfl, rfl⟩
theorem is8_arr23 : ∀ j, j < 2 → is_X8 (23 + 3 * j) := by
  intro j hj
  rcases (show j = 0 ∨ j = 1 by omega) with rfl | rfl <;> exact ⟨rfl, rfl, rfl⟩
theorem is0_arr47 : ∀ j, j < 10 → is_X0 (47 + 3 * j) := by
  intro j hj
  rcases (show j = 0 ∨ j = 1 ∨ j = 2 ∨ j = 3 ∨ j = 4 ∨ j = 5 ∨ j = 6 ∨ j = 7 ∨ j = 8 ∨ j = 9 by omega) with rfl | rfl | rfl | rfl | rfl | rfl | rfl | rfl | rfl | rfl <;> exact ⟨rfl, rfl, rfl⟩
theorem is2_arr78 : ∀ j, j < 11 → is_X2 (78 + 2 * j) := by
  intro j hj
  rcases (show j = 0 ∨ j = 1 ∨ j = 2 ∨ j = 3 ∨ j = 4 ∨ j = 5 ∨ j = 6 ∨ j = 7 ∨ j = 8 ∨ j = 9 ∨ j = 10 by omega) with rfl | rfl | rfl | rfl | rfl | rfl | rfl | rfl | rfl | rfl | rfl <;> exact ⟨rfl, rfl⟩
theorem is9_arr111 : ∀ j, j < 3 → is_X9 (111 + 3 * j) := by
  intro j hj
  rcases (show j = 0 ∨ j = 1 ∨ j = 2 by omega) with rfl | rfl | rfl <;> exact ⟨rfl, rfl, rfl⟩
end
section
theorem tw_0 : (Cond.selects "MeterDesk$Sight" (⟨"MeterDesk$Sight", "openLines", "()I"⟩ : MethodName) (⟨"MeterDesk$Sight", "openLines", "()I"⟩ : MethodName)) ∈ lw_gt := gt_of 0 (by decide +kernel) (by decide +kernel)
theorem tw_1 : (Cond.selects "MeterDesk$Sight" (⟨"MeterDesk$Sight", "reachOf", "(II)I"⟩ : MethodName) (⟨"MeterDesk$Sight", "reachOf", "(II)I"⟩ : MethodName)) ∈ lw_gt := gt_of 1 (by decide +kernel) (by decide +kernel)
theorem tw_2 : (Cond.selects "MeterDesk$Plan" (⟨"MeterDesk$Plan", "linesBeside", "(I)I"⟩ : MethodName) (⟨"MeterDesk$Plan", "linesBeside", "(I)I"⟩ : MethodName)) ∈ lw_gt := gt_of 2 (by decide +kernel) (by decide +kernel)
theorem tw_3 : (Cond.selects "MeterDesk$Plan" (⟨"MeterDesk$Plan", "linesAt", "(II)I"⟩ : MethodName) (⟨"MeterDesk$Plan", "linesAt", "(II)I"⟩ : MethodName)) ∈ lw_gt := gt_of 3 (by decide +kernel) (by decide +kernel)
theorem tw_4 : (Cond.selects "MeterDesk$Plan" (⟨"MeterDesk$Plan", "linesNear", "(II)I"⟩ : MethodName) (⟨"MeterDesk$Plan", "linesNear", "(II)I"⟩ : MethodName)) ∈ lw_gt := gt_of 4 (by decide +kernel) (by decide +kernel)
theorem tw_5 : (Cond.selects "MeterDesk$Family" (⟨"MeterDesk$Family", "joinLine", "(ILMeterDesk$Family;)V"⟩ : MethodName) (⟨"MeterDesk$Family", "joinLine", "(ILMeterDesk$Family;)V"⟩ : MethodName)) ∈ lw_gt := gt_of 5 (by decide +kernel) (by decide +kernel)
theorem tw_6 : (Cond.selects "MeterDesk$Sight" (⟨"MeterDesk$Sight", "joinAll", "(I)I"⟩ : MethodName) (⟨"MeterDesk$Sight", "joinAll", "(I)I"⟩ : MethodName)) ∈ lw_gt := gt_of 6 (by decide +kernel) (by decide +kernel)
theorem tw_7 : (Cond.selects "MeterDesk$Reader" (⟨"MeterDesk$Reader", "readClause", "()Z"⟩ : MethodName) (⟨"MeterDesk$Reader", "readClause", "()Z"⟩ : MethodName)) ∈ lw_gt := gt_of 7 (by decide +kernel) (by decide +kernel)
theorem tw_8 : (Cond.selects "MeterDesk$Reader" (⟨"MeterDesk$Reader", "advance", "()V"⟩ : MethodName) (⟨"MeterDesk$Reader", "advance", "()V"⟩ : MethodName)) ∈ lw_gt := gt_of 8 (by decide +kernel) (by decide +kernel)
theorem tw_9 : (Cond.selects "MeterDesk$Reader" (⟨"MeterDesk$Reader", "isWord", "(Ljava/lang/String;)Z"⟩ : MethodName) (⟨"MeterDesk$Reader", "isWord", "(Ljava/lang/String;)Z"⟩ : MethodName)) ∈ lw_gt := gt_of 9 (by decide +kernel) (by decide +kernel)
theorem tw_10 : (Cond.selects "MeterDesk$Reader" (⟨"MeterDesk$Reader", "readGrid", "()Z"⟩ : MethodName) (⟨"MeterDesk$Reader", "readGrid", "()Z"⟩ : MethodName)) ∈ lw_gt := gt_of 10 (by decide +kernel) (by decide +kernel)
theorem tw_11 : (Cond.selects "MeterDesk$Reader" (⟨"MeterDesk$Reader", "readNumber", "(II)I"⟩ : MethodName) (⟨"MeterDesk$Reader", "readNumber", "(II)I"⟩ : MethodName)) ∈ lw_gt := gt_of 11 (by decide +kernel) (by decide +kernel)
theorem tw_12 : (Cond.selects "MeterDesk$Reader" (⟨"MeterDesk$Reader", "readLine", "()Z"⟩ : MethodName) (⟨"MeterDesk$Reader", "readLine", "()Z"⟩ : MethodName)) ∈ lw_gt := gt_of 12 (by decide +kernel) (by decide +kernel)
theorem tw_13 : (Cond.selects "MeterDesk$Reader" (⟨"MeterDesk$Reader", "readOffer", "()Z"⟩ : MethodName) (⟨"MeterDesk$Reader", "readOffer", "()Z"⟩ : MethodName)) ∈ lw_gt := gt_of 13 (by decide +kernel) (by decide +kernel)
theorem tw_14 : (Cond.selects "MeterDesk$Reader" (⟨"MeterDesk$Reader", "readSortName", "()I"⟩ : MethodName) (⟨"MeterDesk$Reader", "readSortName", "()I"⟩ : MethodName)) ∈ lw_gt := gt_of 14 (by decide +kernel) (by decide +kernel)
theorem tw_15 : (Cond.selects "MeterDesk$Reader" (⟨"MeterDesk$Reader", "readMeter", "(I)Z"⟩ : MethodName) (⟨"MeterDesk$Reader", "readMeter", "(I)Z"⟩ : MethodName)) ∈ lw_gt := gt_of 15 (by decide +kernel) (by decide +kernel)
theorem tw_16 : (Cond.selects "MeterDesk" (⟨"MeterDesk", "isLine", "(I)Z"⟩ : MethodName) (⟨"MeterDesk", "isLine", "(I)Z"⟩ : MethodName)) ∈ lw_gt := gt_of 16 (by decide +kernel) (by decide +kernel)
theorem tw_17 : (Cond.selects "MeterDesk$Sight" (⟨"MeterDesk$Sight", "learnServers", "()V"⟩ : MethodName) (⟨"MeterDesk$Sight", "learnServers", "()V"⟩ : MethodName)) ∈ lw_gt := gt_of 17 (by decide +kernel) (by decide +kernel)
theorem tw_18 : (Cond.selects "MeterDesk$Servers" (⟨"MeterDesk$Servers", "learnAround", "(I[II)V"⟩ : MethodName) (⟨"MeterDesk$Servers", "learnAround", "(I[II)V"⟩ : MethodName)) ∈ lw_gt := gt_of 18 (by decide +kernel) (by decide +kernel)
theorem tw_19 : (Cond.selects "MeterDesk$Servers" (⟨"MeterDesk$Servers", "leastMeter", "(II)I"⟩ : MethodName) (⟨"MeterDesk$Servers", "leastMeter", "(II)I"⟩ : MethodName)) ∈ lw_gt := gt_of 19 (by decide +kernel) (by decide +kernel)
theorem tw_20 : (Cond.selects "MeterDesk$Servers" (⟨"MeterDesk$Servers", "canAllHaveOne", "(II)Z"⟩ : MethodName) (⟨"MeterDesk$Servers", "canAllHaveOne", "(II)Z"⟩ : MethodName)) ∈ lw_gt := gt_of 20 (by decide +kernel) (by decide +kernel)
theorem tw_21 : (Cond.selects "MeterDesk" (⟨"MeterDesk", "isMeter", "(I)Z"⟩ : MethodName) (⟨"MeterDesk", "isMeter", "(I)Z"⟩ : MethodName)) ∈ lw_gt := gt_of 21 (by decide +kernel) (by decide +kernel)
theorem tw_22 : (Cond.selects "MeterDesk" (⟨"MeterDesk", "refusePlace", "(II)I"⟩ : MethodName) (⟨"MeterDesk", "refusePlace", "(II)I"⟩ : MethodName)) ∈ lw_gt := gt_of 22 (by decide +kernel) (by decide +kernel)
theorem tw_23 : (Cond.selects "MeterDesk$Sight" (⟨"MeterDesk$Sight", "findWeak", "()I"⟩ : MethodName) (⟨"MeterDesk$Sight", "findWeak", "()I"⟩ : MethodName)) ∈ lw_gt := gt_of 23 (by decide +kernel) (by decide +kernel)
theorem tw_24 : (Cond.selects "MeterDesk$Sight" (⟨"MeterDesk$Sight", "findDeal", "()I"⟩ : MethodName) (⟨"MeterDesk$Sight", "findDeal", "()I"⟩ : MethodName)) ∈ lw_gt := gt_of 24 (by decide +kernel) (by decide +kernel)
theorem tw_25 : (Cond.selects "MeterDesk$Sight" (⟨"MeterDesk$Sight", "isBetterDeal", "(II)Z"⟩ : MethodName) (⟨"MeterDesk$Sight", "isBetterDeal", "(II)Z"⟩ : MethodName)) ∈ lw_gt := gt_of 25 (by decide +kernel) (by decide +kernel)
theorem tw_26 : (Cond.selects "MeterDesk" (⟨"MeterDesk", "openLines", "()I"⟩ : MethodName) (⟨"MeterDesk", "openLines", "()I"⟩ : MethodName)) ∈ lw_gt := gt_of 26 (by decide +kernel) (by decide +kernel)
theorem tw_27 : (Cond.selects "MeterDesk$Sightings" (⟨"MeterDesk$Sightings", "fits", "(ILMeterDesk$Plan;I)Z"⟩ : MethodName) (⟨"MeterDesk$Sightings", "fits", "(ILMeterDesk$Plan;I)Z"⟩ : MethodName)) ∈ lw_gt := gt_of 27 (by decide +kernel) (by decide +kernel)
theorem tw_28 : (Cond.selects "MeterDesk" (⟨"MeterDesk", "thingsOfAllTrays", "()I"⟩ : MethodName) (⟨"MeterDesk", "thingsOfAllTrays", "()I"⟩ : MethodName)) ∈ lw_gt := gt_of 28 (by decide +kernel) (by decide +kernel)
theorem tw_29 : (Cond.selects "MeterDeskModel" (⟨"MeterDeskModel", "anew", "(I)V"⟩ : MethodName) (⟨"MeterDeskModel", "anew", "(I)V"⟩ : MethodName)) ∈ lw_gt := gt_of 29 (by decide +kernel) (by decide +kernel)
theorem tw_30 : (Cond.selects "MeterDeskModel" (⟨"MeterDeskModel", "layForests", "()V"⟩ : MethodName) (⟨"MeterDeskModel", "layForests", "()V"⟩ : MethodName)) ∈ lw_gt := gt_of 30 (by decide +kernel) (by decide +kernel)
theorem tw_31 : (Cond.selects "MeterDeskModel" (⟨"MeterDeskModel", "layParts", "(I)I"⟩ : MethodName) (⟨"MeterDeskModel", "layParts", "(I)I"⟩ : MethodName)) ∈ lw_gt := gt_of 31 (by decide +kernel) (by decide +kernel)
theorem tw_32 : (Cond.selects "MeterDeskModel" (⟨"MeterDeskModel", "reads", "(Z)Z"⟩ : MethodName) (⟨"MeterDeskModel", "reads", "(Z)Z"⟩ : MethodName)) ∈ lw_gt := gt_of 32 (by decide +kernel) (by decide +kernel)
theorem tw_33 : (Cond.selects "MeterDeskModel" (⟨"MeterDeskModel", "nextToken", "()V"⟩ : MethodName) (⟨"MeterDeskModel", "nextToken", "()V"⟩ : MethodName)) ∈ lw_gt := gt_of 33 (by decide +kernel) (by decide +kernel)
theorem tw_34 : (Cond.selects "MeterDeskModel" (⟨"MeterDeskModel", "readsClause", "()Z"⟩ : MethodName) (⟨"MeterDeskModel", "readsClause", "()Z"⟩ : MethodName)) ∈ lw_gt := gt_of 34 (by decide +kernel) (by decide +kernel)
theorem tw_35 : (Cond.selects "MeterDeskModel" (⟨"MeterDeskModel", "wordHere", "()I"⟩ : MethodName) (⟨"MeterDeskModel", "wordHere", "()I"⟩ : MethodName)) ∈ lw_gt := gt_of 35 (by decide +kernel) (by decide +kernel)
theorem tw_36 : (Cond.selects "MeterDeskModel" (⟨"MeterDeskModel", "readsRest", "(I)Z"⟩ : MethodName) (⟨"MeterDeskModel", "readsRest", "(I)Z"⟩ : MethodName)) ∈ lw_gt := gt_of 36 (by decide +kernel) (by decide +kernel)
theorem tw_37 : (Cond.selects "MeterDeskModel" (⟨"MeterDeskModel", "number", "(III)Z"⟩ : MethodName) (⟨"MeterDeskModel", "number", "(III)Z"⟩ : MethodName)) ∈ lw_gt := gt_of 37 (by decide +kernel) (by decide +kernel)
theorem tw_38 : (Cond.selects "MeterDeskModel" (⟨"MeterDeskModel", "does", "(I)V"⟩ : MethodName) (⟨"MeterDeskModel", "does", "(I)V"⟩ : MethodName)) ∈ lw_gt := gt_of 38 (by decide +kernel) (by decide +kernel)
theorem tw_39 : (Cond.selects "MeterDeskModel" (⟨"MeterDeskModel", "addMeter", "(II)V"⟩ : MethodName) (⟨"MeterDeskModel", "addMeter", "(II)V"⟩ : MethodName)) ∈ lw_gt := gt_of 39 (by decide +kernel) (by decide +kernel)
theorem tw_40 : (Cond.selects "MeterDeskModel" (⟨"MeterDeskModel", "copyRow", "(II)V"⟩ : MethodName) (⟨"MeterDeskModel", "copyRow", "(II)V"⟩ : MethodName)) ∈ lw_gt := gt_of 40 (by decide +kernel) (by decide +kernel)
theorem tw_41 : (Cond.selects "MeterDeskModel" (⟨"MeterDeskModel", "isLine", "(I)Z"⟩ : MethodName) (⟨"MeterDeskModel", "isLine", "(I)Z"⟩ : MethodName)) ∈ lw_gt := gt_of 41 (by decide +kernel) (by decide +kernel)
theorem tw_42 : (Cond.selects "MeterDeskModel" (⟨"MeterDeskModel", "tree", "()I"⟩ : MethodName) (⟨"MeterDeskModel", "tree", "()I"⟩ : MethodName)) ∈ lw_gt := gt_of 42 (by decide +kernel) (by decide +kernel)
theorem tw_43 : (Cond.selects "MeterDeskModel" (⟨"MeterDeskModel", "rank", "()I"⟩ : MethodName) (⟨"MeterDeskModel", "rank", "()I"⟩ : MethodName)) ∈ lw_gt := gt_of 43 (by decide +kernel) (by decide +kernel)
theorem tw_44 : (Cond.selects "MeterDeskModel" (⟨"MeterDeskModel", "layTried", "(I)I"⟩ : MethodName) (⟨"MeterDeskModel", "layTried", "(I)I"⟩ : MethodName)) ∈ lw_gt := gt_of 44 (by decide +kernel) (by decide +kernel)
theorem tw_45 : (Cond.selects "MeterDeskModel" (⟨"MeterDeskModel", "layNone", "(I)V"⟩ : MethodName) (⟨"MeterDeskModel", "layNone", "(I)V"⟩ : MethodName)) ∈ lw_gt := gt_of 45 (by decide +kernel) (by decide +kernel)
theorem tw_46 : (Cond.selects "MeterDeskModel" (⟨"MeterDeskModel", "mayOf", "(II)I"⟩ : MethodName) (⟨"MeterDeskModel", "mayOf", "(II)I"⟩ : MethodName)) ∈ lw_gt := gt_of 46 (by decide +kernel) (by decide +kernel)
theorem tw_47 : (Cond.selects "MeterDeskModel" (⟨"MeterDeskModel", "mayServe", "(III)I"⟩ : MethodName) (⟨"MeterDeskModel", "mayServe", "(III)I"⟩ : MethodName)) ∈ lw_gt := gt_of 47 (by decide +kernel) (by decide +kernel)
theorem tw_48 : (Cond.selects "MeterDeskModel" (⟨"MeterDeskModel", "between", "(II)I"⟩ : MethodName) (⟨"MeterDeskModel", "between", "(II)I"⟩ : MethodName)) ∈ lw_gt := gt_of 48 (by decide +kernel) (by decide +kernel)
theorem tw_49 : (Cond.selects "MeterDeskModel" (⟨"MeterDeskModel", "linesAt", "(II)I"⟩ : MethodName) (⟨"MeterDeskModel", "linesAt", "(II)I"⟩ : MethodName)) ∈ lw_gt := gt_of 49 (by decide +kernel) (by decide +kernel)
theorem tw_50 : (Cond.selects "MeterDeskModel" (⟨"MeterDeskModel", "isEnd", "(II)Z"⟩ : MethodName) (⟨"MeterDeskModel", "isEnd", "(II)Z"⟩ : MethodName)) ∈ lw_gt := gt_of 50 (by decide +kernel) (by decide +kernel)
theorem tw_51 : (Cond.selects "MeterDeskModel" (⟨"MeterDeskModel", "wide", "(II)I"⟩ : MethodName) (⟨"MeterDeskModel", "wide", "(II)I"⟩ : MethodName)) ∈ lw_gt := gt_of 51 (by decide +kernel) (by decide +kernel)
theorem tw_52 : (Cond.selects "MeterDeskModel" (⟨"MeterDeskModel", "layMore", "(III)V"⟩ : MethodName) (⟨"MeterDeskModel", "layMore", "(III)V"⟩ : MethodName)) ∈ lw_gt := gt_of 52 (by decide +kernel) (by decide +kernel)
theorem tw_53 : (Cond.selects "MeterDeskModel" (⟨"MeterDeskModel", "rankAt", "(I)I"⟩ : MethodName) (⟨"MeterDeskModel", "rankAt", "(I)I"⟩ : MethodName)) ∈ lw_gt := gt_of 53 (by decide +kernel) (by decide +kernel)
theorem tw_54 : (Cond.selects "MeterDeskModel" (⟨"MeterDeskModel", "layServes", "()V"⟩ : MethodName) (⟨"MeterDeskModel", "layServes", "()V"⟩ : MethodName)) ∈ lw_gt := gt_of 54 (by decide +kernel) (by decide +kernel)
theorem tw_55 : (Cond.selects "MeterDeskModel" (⟨"MeterDeskModel", "layAll", "()V"⟩ : MethodName) (⟨"MeterDeskModel", "layAll", "()V"⟩ : MethodName)) ∈ lw_gt := gt_of 55 (by decide +kernel) (by decide +kernel)
theorem tw_56 : (Cond.selects "MeterDeskModel" (⟨"MeterDeskModel", "canDo", "(IIII)Z"⟩ : MethodName) (⟨"MeterDeskModel", "canDo", "(IIII)Z"⟩ : MethodName)) ∈ lw_gt := gt_of 56 (by decide +kernel) (by decide +kernel)
theorem tw_57 : (Cond.selects "MeterDeskModel" (⟨"MeterDeskModel", "isMeter", "(I)Z"⟩ : MethodName) (⟨"MeterDeskModel", "isMeter", "(I)Z"⟩ : MethodName)) ∈ lw_gt := gt_of 57 (by decide +kernel) (by decide +kernel)
theorem tw_58 : (Cond.selects "MeterDeskModel" (⟨"MeterDeskModel", "lineOf", "(I)I"⟩ : MethodName) (⟨"MeterDeskModel", "lineOf", "(I)I"⟩ : MethodName)) ∈ lw_gt := gt_of 58 (by decide +kernel) (by decide +kernel)
theorem tw_59 : (Cond.selects "MeterDeskModel" (⟨"MeterDeskModel", "isCritical", "(I)I"⟩ : MethodName) (⟨"MeterDeskModel", "isCritical", "(I)I"⟩ : MethodName)) ∈ lw_gt := gt_of 59 (by decide +kernel) (by decide +kernel)
theorem tw_60 : (Cond.selects "MeterDeskModel" (⟨"MeterDeskModel", "bringsOf", "(II)I"⟩ : MethodName) (⟨"MeterDeskModel", "bringsOf", "(II)I"⟩ : MethodName)) ∈ lw_gt := gt_of 60 (by decide +kernel) (by decide +kernel)
theorem tw_61 : (Cond.selects "MeterDeskModel" (⟨"MeterDeskModel", "isThere", "(II)Z"⟩ : MethodName) (⟨"MeterDeskModel", "isThere", "(II)Z"⟩ : MethodName)) ∈ lw_gt := gt_of 61 (by decide +kernel) (by decide +kernel)
theorem tw_62 : (Cond.selects "MeterDeskModel" (⟨"MeterDeskModel", "isNode", "(I)Z"⟩ : MethodName) (⟨"MeterDeskModel", "isNode", "(I)Z"⟩ : MethodName)) ∈ lw_gt := gt_of 62 (by decide +kernel) (by decide +kernel)
theorem tw_63 : (Cond.selects "MeterDeskModel" (⟨"MeterDeskModel", "keepPast", "()V"⟩ : MethodName) (⟨"MeterDeskModel", "keepPast", "()V"⟩ : MethodName)) ∈ lw_gt := gt_of 63 (by decide +kernel) (by decide +kernel)
theorem tw_64 : (Cond.selects "MeterDeskModel" (⟨"MeterDeskModel", "turn", "(II)I"⟩ : MethodName) (⟨"MeterDeskModel", "turn", "(II)I"⟩ : MethodName)) ∈ lw_gt := gt_of 64 (by decide +kernel) (by decide +kernel)
theorem tw_65 : (Cond.selects "MeterDeskModel" (⟨"MeterDeskModel", "wholeRank", "()I"⟩ : MethodName) (⟨"MeterDeskModel", "wholeRank", "()I"⟩ : MethodName)) ∈ lw_gt := gt_of 65 (by decide +kernel) (by decide +kernel)
theorem tw_66 : (Cond.selects "MeterDeskModel" (⟨"MeterDeskModel", "costOf", "(I)I"⟩ : MethodName) (⟨"MeterDeskModel", "costOf", "(I)I"⟩ : MethodName)) ∈ lw_gt := gt_of 66 (by decide +kernel) (by decide +kernel)
theorem tw_67 : (Cond.selects "MeterDeskModel" (⟨"MeterDeskModel", "isWhole", "(II)Z"⟩ : MethodName) (⟨"MeterDeskModel", "isWhole", "(II)Z"⟩ : MethodName)) ∈ lw_gt := gt_of 67 (by decide +kernel) (by decide +kernel)
theorem tw_68 : (Cond.selects "MeterDeskModel" (⟨"MeterDeskModel", "wouldServe", "(II)I"⟩ : MethodName) (⟨"MeterDeskModel", "wouldServe", "(II)I"⟩ : MethodName)) ∈ lw_gt := gt_of 68 (by decide +kernel) (by decide +kernel)
theorem tw_69 : (Cond.selects "MeterDeskModel" (⟨"MeterDeskModel", "spare", "()I"⟩ : MethodName) (⟨"MeterDeskModel", "spare", "()I"⟩ : MethodName)) ∈ lw_gt := gt_of 69 (by decide +kernel) (by decide +kernel)
theorem tw_70 : (Cond.selects "MeterDeskModel" (⟨"MeterDeskModel", "allThings", "()I"⟩ : MethodName) (⟨"MeterDeskModel", "allThings", "()I"⟩ : MethodName)) ∈ lw_gt := gt_of 70 (by decide +kernel) (by decide +kernel)
theorem tw_72 : ((Jvm.Cond.initialized "MeterDesk")) ∈ lw_gt := gt_of 72 (by decide +kernel) (by decide +kernel)
theorem tw_73 : ((Jvm.Cond.initialized "MeterDesk$Plan")) ∈ lw_gt := gt_of 73 (by decide +kernel) (by decide +kernel)
theorem tw_74 : ((Jvm.Cond.initialized "MeterDesk$Reader")) ∈ lw_gt := gt_of 74 (by decide +kernel) (by decide +kernel)
theorem tw_75 : ((Jvm.Cond.initialized "MeterDesk$Standing")) ∈ lw_gt := gt_of 75 (by decide +kernel) (by decide +kernel)
theorem tw_76 : ((Jvm.Cond.initialized "MeterDesk$History")) ∈ lw_gt := gt_of 76 (by decide +kernel) (by decide +kernel)
theorem tw_77 : ((Jvm.Cond.initialized "MeterDesk$Sight")) ∈ lw_gt := gt_of 77 (by decide +kernel) (by decide +kernel)
theorem tw_78 : ((Jvm.Cond.initialized "MeterDesk$Family")) ∈ lw_gt := gt_of 78 (by decide +kernel) (by decide +kernel)
theorem tw_79 : ((Jvm.Cond.initialized "MeterDesk$Trials")) ∈ lw_gt := gt_of 79 (by decide +kernel) (by decide +kernel)
theorem tw_80 : ((Jvm.Cond.initialized "MeterDesk$Parts")) ∈ lw_gt := gt_of 80 (by decide +kernel) (by decide +kernel)
theorem tw_81 : ((Jvm.Cond.initialized "MeterDesk$Servers")) ∈ lw_gt := gt_of 81 (by decide +kernel) (by decide +kernel)
theorem tw_82 : ((Jvm.Cond.initialized "MeterDesk$Sightings")) ∈ lw_gt := gt_of 82 (by decide +kernel) (by decide +kernel)
theorem tw_83 : ((Jvm.Cond.initialized "MeterDesk$Tray")) ∈ lw_gt := gt_of 83 (by decide +kernel) (by decide +kernel)
theorem tw_84 : ((Jvm.Cond.initialized "java/lang/Integer")) ∈ lw_gt := gt_of 84 (by decide +kernel) (by decide +kernel)
theorem tw_85 : ((Jvm.Cond.initialized "java/lang/System")) ∈ lw_gt := gt_of 85 (by decide +kernel) (by decide +kernel)
theorem tw_86 : ((Jvm.Cond.initialized "java/lang/Long")) ∈ lw_gt := gt_of 86 (by decide +kernel) (by decide +kernel)
theorem tw_87 : ((Jvm.Cond.initialized "MeterDeskModel")) ∈ lw_gt := gt_of 87 (by decide +kernel) (by decide +kernel)
theorem tw_92 : ((Jvm.Cond.initialized "java/lang/Math")) ∈ lw_gt := gt_of 92 (by decide +kernel) (by decide +kernel)
theorem tw_107 : ((Jvm.Cond.fieldLink "MeterDesk$Plan" (9 : Nat) "MeterDesk$Plan" "nodes" "I")) ∈ lw_gt := gt_of 107 (by decide +kernel) (by decide +kernel)
theorem tw_108 : ((Jvm.Cond.fieldLink "MeterDesk$Sight" (170 : Nat) "MeterDesk$Plan" "nodes" "I")) ∈ lw_gt := gt_of 108 (by decide +kernel) (by decide +kernel)
theorem tw_109 : ((Jvm.Cond.fieldLink "MeterDesk$Reader" (109 : Nat) "MeterDesk$Plan" "nodes" "I")) ∈ lw_gt := gt_of 109 (by decide +kernel) (by decide +kernel)
theorem tw_110 : ((Jvm.Cond.fieldLink "MeterDesk" (189 : Nat) "MeterDesk$Plan" "nodes" "I")) ∈ lw_gt := gt_of 110 (by decide +kernel) (by decide +kernel)
theorem tw_111 : ((Jvm.Cond.fieldLink "MeterDesk$Plan" (37 : Nat) "MeterDesk$Plan" "lines" "I")) ∈ lw_gt := gt_of 111 (by decide +kernel) (by decide +kernel)
theorem tw_112 : ((Jvm.Cond.fieldLink "MeterDesk$Sight" (167 : Nat) "MeterDesk$Plan" "lines" "I")) ∈ lw_gt := gt_of 112 (by decide +kernel) (by decide +kernel)
theorem tw_113 : ((Jvm.Cond.fieldLink "MeterDesk$Reader" (106 : Nat) "MeterDesk$Plan" "lines" "I")) ∈ lw_gt := gt_of 113 (by decide +kernel) (by decide +kernel)
theorem tw_114 : ((Jvm.Cond.fieldLink "MeterDesk" (255 : Nat) "MeterDesk$Plan" "lines" "I")) ∈ lw_gt := gt_of 114 (by decide +kernel) (by decide +kernel)
theorem tw_115 : ((Jvm.Cond.fieldLink "MeterDesk$Standing" (18 : Nat) "MeterDesk$Plan" "meters" "I")) ∈ lw_gt := gt_of 115 (by decide +kernel) (by decide +kernel)
theorem tw_116 : ((Jvm.Cond.fieldLink "MeterDesk$Plan" (40 : Nat) "MeterDesk$Plan" "meters" "I")) ∈ lw_gt := gt_of 116 (by decide +kernel) (by decide +kernel)
theorem tw_117 : ((Jvm.Cond.fieldLink "MeterDesk$Reader" (116 : Nat) "MeterDesk$Plan" "meters" "I")) ∈ lw_gt := gt_of 117 (by decide +kernel) (by decide +kernel)
theorem tw_118 : ((Jvm.Cond.fieldLink "MeterDesk$Plan" (43 : Nat) "MeterDesk$Plan" "offers" "I")) ∈ lw_gt := gt_of 118 (by decide +kernel) (by decide +kernel)
theorem tw_119 : ((Jvm.Cond.fieldLink "MeterDesk" (151 : Nat) "MeterDesk$Plan" "offers" "I")) ∈ lw_gt := gt_of 119 (by decide +kernel) (by decide +kernel)
theorem tw_120 : ((Jvm.Cond.fieldLink "MeterDesk$Reader" (126 : Nat) "MeterDesk$Plan" "offers" "I")) ∈ lw_gt := gt_of 120 (by decide +kernel) (by decide +kernel)
theorem tw_121 : ((Jvm.Cond.fieldLink "MeterDesk$Sight" (219 : Nat) "MeterDesk$Plan" "offers" "I")) ∈ lw_gt := gt_of 121 (by decide +kernel) (by decide +kernel)
theorem tw_122 : ((Jvm.Cond.fieldLink "MeterDesk$Plan" (15 : Nat) "MeterDesk$Plan" "low" "[I")) ∈ lw_gt := gt_of 122 (by decide +kernel) (by decide +kernel)
theorem tw_123 : ((Jvm.Cond.fieldLink "MeterDesk$Sight" (84 : Nat) "MeterDesk$Plan" "low" "[I")) ∈ lw_gt := gt_of 123 (by decide +kernel) (by decide +kernel)
theorem tw_124 : ((Jvm.Cond.fieldLink "MeterDesk" (113 : Nat) "MeterDesk$Plan" "low" "[I")) ∈ lw_gt := gt_of 124 (by decide +kernel) (by decide +kernel)
theorem tw_125 : ((Jvm.Cond.fieldLink "MeterDesk$Plan" (19 : Nat) "MeterDesk$Plan" "high" "[I")) ∈ lw_gt := gt_of 125 (by decide +kernel) (by decide +kernel)
theorem tw_126 : ((Jvm.Cond.fieldLink "MeterDesk$Sight" (87 : Nat) "MeterDesk$Plan" "high" "[I")) ∈ lw_gt := gt_of 126 (by decide +kernel) (by decide +kernel)
theorem tw_127 : ((Jvm.Cond.fieldLink "MeterDesk" (117 : Nat) "MeterDesk$Plan" "high" "[I")) ∈ lw_gt := gt_of 127 (by decide +kernel) (by decide +kernel)
theorem tw_128 : ((Jvm.Cond.fieldLink "MeterDesk$Plan" (22 : Nat) "MeterDesk$Plan" "meterSort" "[I")) ∈ lw_gt := gt_of 128 (by decide +kernel) (by decide +kernel)
theorem tw_129 : ((Jvm.Cond.fieldLink "MeterDesk$Standing" (31 : Nat) "MeterDesk$Plan" "meterSort" "[I")) ∈ lw_gt := gt_of 129 (by decide +kernel) (by decide +kernel)
theorem tw_130 : ((Jvm.Cond.fieldLink "MeterDesk$Plan" (25 : Nat) "MeterDesk$Plan" "meterAt" "[I")) ∈ lw_gt := gt_of 130 (by decide +kernel) (by decide +kernel)
theorem tw_131 : ((Jvm.Cond.fieldLink "MeterDesk$Standing" (40 : Nat) "MeterDesk$Plan" "meterAt" "[I")) ∈ lw_gt := gt_of 131 (by decide +kernel) (by decide +kernel)
theorem tw_132 : ((Jvm.Cond.fieldLink "MeterDesk$Plan" (28 : Nat) "MeterDesk$Plan" "offerSort" "[I")) ∈ lw_gt := gt_of 132 (by decide +kernel) (by decide +kernel)
theorem tw_133 : ((Jvm.Cond.fieldLink "MeterDesk" (154 : Nat) "MeterDesk$Plan" "offerSort" "[I")) ∈ lw_gt := gt_of 133 (by decide +kernel) (by decide +kernel)
theorem tw_134 : ((Jvm.Cond.fieldLink "MeterDesk$Sight" (222 : Nat) "MeterDesk$Plan" "offerSort" "[I")) ∈ lw_gt := gt_of 134 (by decide +kernel) (by decide +kernel)
theorem tw_135 : ((Jvm.Cond.fieldLink "MeterDesk$Plan" (31 : Nat) "MeterDesk$Plan" "offerAt" "[I")) ∈ lw_gt := gt_of 135 (by decide +kernel) (by decide +kernel)
theorem tw_136 : ((Jvm.Cond.fieldLink "MeterDesk" (157 : Nat) "MeterDesk$Plan" "offerAt" "[I")) ∈ lw_gt := gt_of 136 (by decide +kernel) (by decide +kernel)
theorem tw_137 : ((Jvm.Cond.fieldLink "MeterDesk$Sight" (225 : Nat) "MeterDesk$Plan" "offerAt" "[I")) ∈ lw_gt := gt_of 137 (by decide +kernel) (by decide +kernel)
theorem tw_138 : ((Jvm.Cond.fieldLink "MeterDesk$Plan" (34 : Nat) "MeterDesk$Plan" "offerPrice" "[I")) ∈ lw_gt := gt_of 138 (by decide +kernel) (by decide +kernel)
theorem tw_139 : ((Jvm.Cond.fieldLink "MeterDesk" (160 : Nat) "MeterDesk$Plan" "offerPrice" "[I")) ∈ lw_gt := gt_of 139 (by decide +kernel) (by decide +kernel)
theorem tw_140 : ((Jvm.Cond.lays "MeterDesk$Plan" "MeterDesk$Plan" "nodes" "I")) ∈ lw_gt := gt_of 140 (by decide +kernel) (by decide +kernel)
theorem tw_142 : ((Jvm.Cond.lays "MeterDesk$Plan" "MeterDesk$Plan" "lines" "I")) ∈ lw_gt := gt_of 142 (by decide +kernel) (by decide +kernel)
theorem tw_144 : ((Jvm.Cond.lays "MeterDesk$Plan" "MeterDesk$Plan" "meters" "I")) ∈ lw_gt := gt_of 144 (by decide +kernel) (by decide +kernel)
theorem tw_146 : ((Jvm.Cond.lays "MeterDesk$Plan" "MeterDesk$Plan" "offers" "I")) ∈ lw_gt := gt_of 146 (by decide +kernel) (by decide +kernel)
theorem tw_148 : ((Jvm.Cond.laysFinal "MeterDesk$Plan" "MeterDesk$Plan" "low" "[I")) ∈ lw_gt := gt_of 148 (by decide +kernel) (by decide +kernel)
theorem tw_150 : ((Jvm.Cond.laysFinal "MeterDesk$Plan" "MeterDesk$Plan" "high" "[I")) ∈ lw_gt := gt_of 150 (by decide +kernel) (by decide +kernel)
theorem tw_152 : ((Jvm.Cond.laysFinal "MeterDesk$Plan" "MeterDesk$Plan" "meterSort" "[I")) ∈ lw_gt := gt_of 152 (by decide +kernel) (by decide +kernel)
theorem tw_154 : ((Jvm.Cond.laysFinal "MeterDesk$Plan" "MeterDesk$Plan" "meterAt" "[I")) ∈ lw_gt := gt_of 154 (by decide +kernel) (by decide +kernel)
theorem tw_156 : ((Jvm.Cond.laysFinal "MeterDesk$Plan" "MeterDesk$Plan" "offerSort" "[I")) ∈ lw_gt := gt_of 156 (by decide +kernel) (by decide +kernel)
theorem tw_158 : ((Jvm.Cond.laysFinal "MeterDesk$Plan" "MeterDesk$Plan" "offerAt" "[I")) ∈ lw_gt := gt_of 158 (by decide +kernel) (by decide +kernel)
theorem tw_160 : ((Jvm.Cond.laysFinal "MeterDesk$Plan" "MeterDesk$Plan" "offerPrice" "[I")) ∈ lw_gt := gt_of 160 (by decide +kernel) (by decide +kernel)
theorem tw_172 : ((Jvm.Cond.fieldLink "MeterDesk$Reader" (22 : Nat) "MeterDesk$Reader" "length" "I")) ∈ lw_gt := gt_of 172 (by decide +kernel) (by decide +kernel)
theorem tw_173 : ((Jvm.Cond.fieldLink "MeterDesk" (79 : Nat) "MeterDesk$Reader" "length" "I")) ∈ lw_gt := gt_of 173 (by decide +kernel) (by decide +kernel)
theorem tw_174 : ((Jvm.Cond.fieldLink "MeterDesk$Reader" (46 : Nat) "MeterDesk$Reader" "clauses" "I")) ∈ lw_gt := gt_of 174 (by decide +kernel) (by decide +kernel)
theorem tw_175 : ((Jvm.Cond.fieldLink "MeterDesk" (106 : Nat) "MeterDesk$Reader" "clauses" "I")) ∈ lw_gt := gt_of 175 (by decide +kernel) (by decide +kernel)
theorem tw_176 : ((Jvm.Cond.fieldLink "MeterDesk$Reader" (12 : Nat) "MeterDesk$Reader" "draft" "LMeterDesk$Plan;")) ∈ lw_gt := gt_of 176 (by decide +kernel) (by decide +kernel)
theorem tw_177 : ((Jvm.Cond.fieldLink "MeterDesk" (90 : Nat) "MeterDesk$Reader" "draft" "LMeterDesk$Plan;")) ∈ lw_gt := gt_of 177 (by decide +kernel) (by decide +kernel)
theorem tw_178 : ((Jvm.Cond.fieldLink "MeterDesk$Reader" (18 : Nat) "MeterDesk$Reader" "text" "[C")) ∈ lw_gt := gt_of 178 (by decide +kernel) (by decide +kernel)
theorem tw_179 : ((Jvm.Cond.fieldLink "MeterDesk$Reader" (43 : Nat) "MeterDesk$Reader" "kind" "I")) ∈ lw_gt := gt_of 179 (by decide +kernel) (by decide +kernel)
theorem tw_180 : ((Jvm.Cond.fieldLink "MeterDesk$Reader" (37 : Nat) "MeterDesk$Reader" "start" "I")) ∈ lw_gt := gt_of 180 (by decide +kernel) (by decide +kernel)
theorem tw_181 : ((Jvm.Cond.fieldLink "MeterDesk$Reader" (30 : Nat) "MeterDesk$Reader" "end" "I")) ∈ lw_gt := gt_of 181 (by decide +kernel) (by decide +kernel)
theorem tw_182 : ((Jvm.Cond.lays "MeterDesk$Reader" "MeterDesk$Reader" "length" "I")) ∈ lw_gt := gt_of 182 (by decide +kernel) (by decide +kernel)
theorem tw_184 : ((Jvm.Cond.lays "MeterDesk$Reader" "MeterDesk$Reader" "clauses" "I")) ∈ lw_gt := gt_of 184 (by decide +kernel) (by decide +kernel)
theorem tw_186 : ((Jvm.Cond.laysFinal "MeterDesk$Reader" "MeterDesk$Reader" "draft" "LMeterDesk$Plan;")) ∈ lw_gt := gt_of 186 (by decide +kernel) (by decide +kernel)
theorem tw_188 : ((Jvm.Cond.laysFinal "MeterDesk$Reader" "MeterDesk$Reader" "text" "[C")) ∈ lw_gt := gt_of 188 (by decide +kernel) (by decide +kernel)
theorem tw_190 : ((Jvm.Cond.lays "MeterDesk$Reader" "MeterDesk$Reader" "kind" "I")) ∈ lw_gt := gt_of 190 (by decide +kernel) (by decide +kernel)
theorem tw_192 : ((Jvm.Cond.lays "MeterDesk$Reader" "MeterDesk$Reader" "start" "I")) ∈ lw_gt := gt_of 192 (by decide +kernel) (by decide +kernel)
theorem tw_194 : ((Jvm.Cond.lays "MeterDesk$Reader" "MeterDesk$Reader" "end" "I")) ∈ lw_gt := gt_of 194 (by decide +kernel) (by decide +kernel)
theorem tw_204 : ((Jvm.Cond.fieldLink "MeterDesk$Standing" (24 : Nat) "MeterDesk$Standing" "meters" "I")) ∈ lw_gt := gt_of 204 (by decide +kernel) (by decide +kernel)
theorem tw_205 : ((Jvm.Cond.fieldLink "MeterDesk$Sight" (109 : Nat) "MeterDesk$Standing" "meters" "I")) ∈ lw_gt := gt_of 205 (by decide +kernel) (by decide +kernel)
theorem tw_206 : ((Jvm.Cond.fieldLink "MeterDesk$History" (28 : Nat) "MeterDesk$Standing" "meters" "I")) ∈ lw_gt := gt_of 206 (by decide +kernel) (by decide +kernel)
theorem tw_207 : ((Jvm.Cond.fieldLink "MeterDesk" (170 : Nat) "MeterDesk$Standing" "meters" "I")) ∈ lw_gt := gt_of 207 (by decide +kernel) (by decide +kernel)
theorem tw_208 : ((Jvm.Cond.fieldLink "MeterDesk$Standing" (25 : Nat) "MeterDesk$Standing" "broken" "I")) ∈ lw_gt := gt_of 208 (by decide +kernel) (by decide +kernel)
theorem tw_209 : ((Jvm.Cond.fieldLink "MeterDesk$History" (33 : Nat) "MeterDesk$Standing" "broken" "I")) ∈ lw_gt := gt_of 209 (by decide +kernel) (by decide +kernel)
theorem tw_210 : ((Jvm.Cond.fieldLink "MeterDesk$Sight" (154 : Nat) "MeterDesk$Standing" "broken" "I")) ∈ lw_gt := gt_of 210 (by decide +kernel) (by decide +kernel)
theorem tw_211 : ((Jvm.Cond.fieldLink "MeterDesk" (139 : Nat) "MeterDesk$Standing" "broken" "I")) ∈ lw_gt := gt_of 211 (by decide +kernel) (by decide +kernel)
theorem tw_212 : ((Jvm.Cond.fieldLink "MeterDesk$Standing" (28 : Nat) "MeterDesk$Standing" "cutLines" "I")) ∈ lw_gt := gt_of 212 (by decide +kernel) (by decide +kernel)
theorem tw_213 : ((Jvm.Cond.fieldLink "MeterDesk$History" (36 : Nat) "MeterDesk$Standing" "cutLines" "I")) ∈ lw_gt := gt_of 213 (by decide +kernel) (by decide +kernel)
theorem tw_214 : ((Jvm.Cond.fieldLink "MeterDesk$Sight" (151 : Nat) "MeterDesk$Standing" "cutLines" "I")) ∈ lw_gt := gt_of 214 (by decide +kernel) (by decide +kernel)
theorem tw_215 : ((Jvm.Cond.fieldLink "MeterDesk" (120 : Nat) "MeterDesk$Standing" "cutLines" "I")) ∈ lw_gt := gt_of 215 (by decide +kernel) (by decide +kernel)
theorem tw_216 : ((Jvm.Cond.fieldLink "MeterDesk$Standing" (9 : Nat) "MeterDesk$Standing" "sort" "[I")) ∈ lw_gt := gt_of 216 (by decide +kernel) (by decide +kernel)
theorem tw_217 : ((Jvm.Cond.fieldLink "MeterDesk$Sight" (157 : Nat) "MeterDesk$Standing" "sort" "[I")) ∈ lw_gt := gt_of 217 (by decide +kernel) (by decide +kernel)
theorem tw_218 : ((Jvm.Cond.fieldLink "MeterDesk" (133 : Nat) "MeterDesk$Standing" "sort" "[I")) ∈ lw_gt := gt_of 218 (by decide +kernel) (by decide +kernel)
theorem tw_219 : ((Jvm.Cond.fieldLink "MeterDesk$Standing" (15 : Nat) "MeterDesk$Standing" "at" "[I")) ∈ lw_gt := gt_of 219 (by decide +kernel) (by decide +kernel)
theorem tw_220 : ((Jvm.Cond.fieldLink "MeterDesk$Sight" (160 : Nat) "MeterDesk$Standing" "at" "[I")) ∈ lw_gt := gt_of 220 (by decide +kernel) (by decide +kernel)
theorem tw_221 : ((Jvm.Cond.fieldLink "MeterDesk" (136 : Nat) "MeterDesk$Standing" "at" "[I")) ∈ lw_gt := gt_of 221 (by decide +kernel) (by decide +kernel)
theorem tw_222 : ((Jvm.Cond.lays "MeterDesk$Standing" "MeterDesk$Standing" "meters" "I")) ∈ lw_gt := gt_of 222 (by decide +kernel) (by decide +kernel)
theorem tw_224 : ((Jvm.Cond.lays "MeterDesk$Standing" "MeterDesk$Standing" "broken" "I")) ∈ lw_gt := gt_of 224 (by decide +kernel) (by decide +kernel)
theorem tw_226 : ((Jvm.Cond.lays "MeterDesk$Standing" "MeterDesk$Standing" "cutLines" "I")) ∈ lw_gt := gt_of 226 (by decide +kernel) (by decide +kernel)
theorem tw_228 : ((Jvm.Cond.laysFinal "MeterDesk$Standing" "MeterDesk$Standing" "sort" "[I")) ∈ lw_gt := gt_of 228 (by decide +kernel) (by decide +kernel)
theorem tw_230 : ((Jvm.Cond.laysFinal "MeterDesk$Standing" "MeterDesk$Standing" "at" "[I")) ∈ lw_gt := gt_of 230 (by decide +kernel) (by decide +kernel)
theorem tw_240 : ((Jvm.Cond.fieldLink "MeterDesk$History" (18 : Nat) "MeterDesk$History" "size" "I")) ∈ lw_gt := gt_of 240 (by decide +kernel) (by decide +kernel)
theorem tw_241 : ((Jvm.Cond.fieldLink "MeterDesk" (100 : Nat) "MeterDesk$History" "size" "I")) ∈ lw_gt := gt_of 241 (by decide +kernel) (by decide +kernel)
theorem tw_242 : ((Jvm.Cond.fieldLink "MeterDesk$History" (9 : Nat) "MeterDesk$History" "deed" "[I")) ∈ lw_gt := gt_of 242 (by decide +kernel) (by decide +kernel)
theorem tw_243 : ((Jvm.Cond.fieldLink "MeterDesk$History" (15 : Nat) "MeterDesk$History" "which" "[I")) ∈ lw_gt := gt_of 243 (by decide +kernel) (by decide +kernel)
theorem tw_244 : ((Jvm.Cond.lays "MeterDesk$History" "MeterDesk$History" "size" "I")) ∈ lw_gt := gt_of 244 (by decide +kernel) (by decide +kernel)
theorem tw_246 : ((Jvm.Cond.laysFinal "MeterDesk$History" "MeterDesk$History" "deed" "[I")) ∈ lw_gt := gt_of 246 (by decide +kernel) (by decide +kernel)
theorem tw_248 : ((Jvm.Cond.laysFinal "MeterDesk$History" "MeterDesk$History" "which" "[I")) ∈ lw_gt := gt_of 248 (by decide +kernel) (by decide +kernel)
theorem tw_264 : ((Jvm.Cond.fieldLink "MeterDesk$Family" (11 : Nat) "MeterDesk$Family" "sets" "[J")) ∈ lw_gt := gt_of 264 (by decide +kernel) (by decide +kernel)
theorem tw_265 : ((Jvm.Cond.fieldLink "MeterDesk$Family" (15 : Nat) "MeterDesk$Family" "before" "[J")) ∈ lw_gt := gt_of 265 (by decide +kernel) (by decide +kernel)
theorem tw_266 : ((Jvm.Cond.laysFinal "MeterDesk$Family" "MeterDesk$Family" "sets" "[J")) ∈ lw_gt := gt_of 266 (by decide +kernel) (by decide +kernel)
theorem tw_268 : ((Jvm.Cond.laysFinal "MeterDesk$Family" "MeterDesk$Family" "before" "[J")) ∈ lw_gt := gt_of 268 (by decide +kernel) (by decide +kernel)
theorem tw_281 : ((Jvm.Cond.fieldLink "MeterDesk$Trials" (9 : Nat) "MeterDesk$Trials" "rankWith" "[I")) ∈ lw_gt := gt_of 281 (by decide +kernel) (by decide +kernel)
theorem tw_282 : ((Jvm.Cond.fieldLink "MeterDesk$Sight" (205 : Nat) "MeterDesk$Trials" "rankWith" "[I")) ∈ lw_gt := gt_of 282 (by decide +kernel) (by decide +kernel)
theorem tw_283 : ((Jvm.Cond.fieldLink "MeterDesk$Trials" (17 : Nat) "MeterDesk$Trials" "families" "[LMeterDesk$Family;")) ∈ lw_gt := gt_of 283 (by decide +kernel) (by decide +kernel)
theorem tw_284 : ((Jvm.Cond.laysFinal "MeterDesk$Trials" "MeterDesk$Trials" "rankWith" "[I")) ∈ lw_gt := gt_of 284 (by decide +kernel) (by decide +kernel)
theorem tw_286 : ((Jvm.Cond.laysFinal "MeterDesk$Trials" "MeterDesk$Trials" "families" "[LMeterDesk$Family;")) ∈ lw_gt := gt_of 286 (by decide +kernel) (by decide +kernel)
theorem tw_296 : ((Jvm.Cond.fieldLink "MeterDesk$Parts" (9 : Nat) "MeterDesk$Parts" "label" "[I")) ∈ lw_gt := gt_of 296 (by decide +kernel) (by decide +kernel)
theorem tw_297 : ((Jvm.Cond.laysFinal "MeterDesk$Parts" "MeterDesk$Parts" "label" "[I")) ∈ lw_gt := gt_of 297 (by decide +kernel) (by decide +kernel)
theorem tw_306 : ((Jvm.Cond.fieldLink "MeterDesk$Servers" (25 : Nat) "MeterDesk$Servers" "spare" "I")) ∈ lw_gt := gt_of 306 (by decide +kernel) (by decide +kernel)
theorem tw_307 : ((Jvm.Cond.fieldLink "MeterDesk$Sight" (182 : Nat) "MeterDesk$Servers" "spare" "I")) ∈ lw_gt := gt_of 307 (by decide +kernel) (by decide +kernel)
theorem tw_308 : ((Jvm.Cond.fieldLink "MeterDesk$Servers" (9 : Nat) "MeterDesk$Servers" "meterOf" "[I")) ∈ lw_gt := gt_of 308 (by decide +kernel) (by decide +kernel)
theorem tw_309 : ((Jvm.Cond.fieldLink "MeterDesk$Sight" (176 : Nat) "MeterDesk$Servers" "meterOf" "[I")) ∈ lw_gt := gt_of 309 (by decide +kernel) (by decide +kernel)
theorem tw_310 : ((Jvm.Cond.fieldLink "MeterDesk$Servers" (15 : Nat) "MeterDesk$Servers" "lineOf" "[I")) ∈ lw_gt := gt_of 310 (by decide +kernel) (by decide +kernel)
theorem tw_311 : ((Jvm.Cond.fieldLink "MeterDesk$Sight" (179 : Nat) "MeterDesk$Servers" "lineOf" "[I")) ∈ lw_gt := gt_of 311 (by decide +kernel) (by decide +kernel)
theorem tw_312 : ((Jvm.Cond.fieldLink "MeterDesk$Servers" (18 : Nat) "MeterDesk$Servers" "around" "[I")) ∈ lw_gt := gt_of 312 (by decide +kernel) (by decide +kernel)
theorem tw_313 : ((Jvm.Cond.lays "MeterDesk$Servers" "MeterDesk$Servers" "spare" "I")) ∈ lw_gt := gt_of 313 (by decide +kernel) (by decide +kernel)
theorem tw_315 : ((Jvm.Cond.laysFinal "MeterDesk$Servers" "MeterDesk$Servers" "meterOf" "[I")) ∈ lw_gt := gt_of 315 (by decide +kernel) (by decide +kernel)
theorem tw_317 : ((Jvm.Cond.laysFinal "MeterDesk$Servers" "MeterDesk$Servers" "lineOf" "[I")) ∈ lw_gt := gt_of 317 (by decide +kernel) (by decide +kernel)
theorem tw_319 : ((Jvm.Cond.laysFinal "MeterDesk$Servers" "MeterDesk$Servers" "around" "[I")) ∈ lw_gt := gt_of 319 (by decide +kernel) (by decide +kernel)
theorem tw_322 : ((Jvm.Cond.fieldLink "MeterDesk$Sight" (126 : Nat) "MeterDesk$Sight" "rank" "I")) ∈ lw_gt := gt_of 322 (by decide +kernel) (by decide +kernel)
theorem tw_323 : ((Jvm.Cond.fieldLink "MeterDesk" (186 : Nat) "MeterDesk$Sight" "rank" "I")) ∈ lw_gt := gt_of 323 (by decide +kernel) (by decide +kernel)
theorem tw_324 : ((Jvm.Cond.fieldLink "MeterDesk$Sight" (138 : Nat) "MeterDesk$Sight" "wholeRank" "I")) ∈ lw_gt := gt_of 324 (by decide +kernel) (by decide +kernel)
theorem tw_325 : ((Jvm.Cond.fieldLink "MeterDesk" (258 : Nat) "MeterDesk$Sight" "wholeRank" "I")) ∈ lw_gt := gt_of 325 (by decide +kernel) (by decide +kernel)
theorem tw_326 : ((Jvm.Cond.fieldLink "MeterDesk$Sight" (132 : Nat) "MeterDesk$Sight" "tree" "I")) ∈ lw_gt := gt_of 326 (by decide +kernel) (by decide +kernel)
theorem tw_327 : ((Jvm.Cond.fieldLink "MeterDesk" (123 : Nat) "MeterDesk$Sight" "tree" "I")) ∈ lw_gt := gt_of 327 (by decide +kernel) (by decide +kernel)
theorem tw_328 : ((Jvm.Cond.fieldLink "MeterDesk$Sight" (9 : Nat) "MeterDesk$Sight" "reach" "[I")) ∈ lw_gt := gt_of 328 (by decide +kernel) (by decide +kernel)
theorem tw_329 : ((Jvm.Cond.fieldLink "MeterDesk" (142 : Nat) "MeterDesk$Sight" "reach" "[I")) ∈ lw_gt := gt_of 329 (by decide +kernel) (by decide +kernel)
theorem tw_330 : ((Jvm.Cond.fieldLink "MeterDesk$Sight" (56 : Nat) "MeterDesk$Sight" "plan" "LMeterDesk$Plan;")) ∈ lw_gt := gt_of 330 (by decide +kernel) (by decide +kernel)
theorem tw_331 : ((Jvm.Cond.fieldLink "MeterDesk$Sight" (60 : Nat) "MeterDesk$Sight" "now" "LMeterDesk$Standing;")) ∈ lw_gt := gt_of 331 (by decide +kernel) (by decide +kernel)
theorem tw_332 : ((Jvm.Cond.fieldLink "MeterDesk$Sight" (18 : Nat) "MeterDesk$Sight" "forests" "LMeterDesk$Family;")) ∈ lw_gt := gt_of 332 (by decide +kernel) (by decide +kernel)
theorem tw_333 : ((Jvm.Cond.fieldLink "MeterDesk$Sight" (22 : Nat) "MeterDesk$Sight" "served" "LMeterDesk$Family;")) ∈ lw_gt := gt_of 333 (by decide +kernel) (by decide +kernel)
theorem tw_334 : ((Jvm.Cond.fieldLink "MeterDesk$Sight" (25 : Nat) "MeterDesk$Sight" "scratch" "LMeterDesk$Family;")) ∈ lw_gt := gt_of 334 (by decide +kernel) (by decide +kernel)
theorem tw_335 : ((Jvm.Cond.fieldLink "MeterDesk$Sight" (31 : Nat) "MeterDesk$Sight" "trials" "LMeterDesk$Trials;")) ∈ lw_gt := gt_of 335 (by decide +kernel) (by decide +kernel)
theorem tw_336 : ((Jvm.Cond.fieldLink "MeterDesk$Sight" (37 : Nat) "MeterDesk$Sight" "parts" "[LMeterDesk$Parts;")) ∈ lw_gt := gt_of 336 (by decide +kernel) (by decide +kernel)
theorem tw_337 : ((Jvm.Cond.fieldLink "MeterDesk$Sight" (42 : Nat) "MeterDesk$Sight" "islands" "LMeterDesk$Parts;")) ∈ lw_gt := gt_of 337 (by decide +kernel) (by decide +kernel)
theorem tw_338 : ((Jvm.Cond.fieldLink "MeterDesk$Sight" (46 : Nat) "MeterDesk$Sight" "offerReach" "[I")) ∈ lw_gt := gt_of 338 (by decide +kernel) (by decide +kernel)
theorem tw_339 : ((Jvm.Cond.fieldLink "MeterDesk$Sight" (52 : Nat) "MeterDesk$Sight" "servers" "LMeterDesk$Servers;")) ∈ lw_gt := gt_of 339 (by decide +kernel) (by decide +kernel)
theorem tw_340 : ((Jvm.Cond.fieldLink "MeterDesk$Sight" (141 : Nat) "MeterDesk$Sight" "serversKnown" "Z")) ∈ lw_gt := gt_of 340 (by decide +kernel) (by decide +kernel)
theorem tw_341 : ((Jvm.Cond.fieldLink "MeterDesk$Sight" (145 : Nat) "MeterDesk$Sight" "weakKnown" "Z")) ∈ lw_gt := gt_of 341 (by decide +kernel) (by decide +kernel)
theorem tw_342 : ((Jvm.Cond.fieldLink "MeterDesk$Sight" (198 : Nat) "MeterDesk$Sight" "weakest" "I")) ∈ lw_gt := gt_of 342 (by decide +kernel) (by decide +kernel)
theorem tw_343 : ((Jvm.Cond.fieldLink "MeterDesk$Sight" (148 : Nat) "MeterDesk$Sight" "dealKnown" "Z")) ∈ lw_gt := gt_of 343 (by decide +kernel) (by decide +kernel)
theorem tw_344 : ((Jvm.Cond.fieldLink "MeterDesk$Sight" (216 : Nat) "MeterDesk$Sight" "cheapest" "I")) ∈ lw_gt := gt_of 344 (by decide +kernel) (by decide +kernel)
theorem tw_345 : ((Jvm.Cond.lays "MeterDesk$Sight" "MeterDesk$Sight" "rank" "I")) ∈ lw_gt := gt_of 345 (by decide +kernel) (by decide +kernel)
theorem tw_347 : ((Jvm.Cond.lays "MeterDesk$Sight" "MeterDesk$Sight" "wholeRank" "I")) ∈ lw_gt := gt_of 347 (by decide +kernel) (by decide +kernel)
theorem tw_349 : ((Jvm.Cond.lays "MeterDesk$Sight" "MeterDesk$Sight" "tree" "I")) ∈ lw_gt := gt_of 349 (by decide +kernel) (by decide +kernel)
theorem tw_351 : ((Jvm.Cond.laysFinal "MeterDesk$Sight" "MeterDesk$Sight" "reach" "[I")) ∈ lw_gt := gt_of 351 (by decide +kernel) (by decide +kernel)
theorem tw_353 : ((Jvm.Cond.laysFinal "MeterDesk$Sight" "MeterDesk$Sight" "plan" "LMeterDesk$Plan;")) ∈ lw_gt := gt_of 353 (by decide +kernel) (by decide +kernel)
theorem tw_355 : ((Jvm.Cond.laysFinal "MeterDesk$Sight" "MeterDesk$Sight" "now" "LMeterDesk$Standing;")) ∈ lw_gt := gt_of 355 (by decide +kernel) (by decide +kernel)
theorem tw_357 : ((Jvm.Cond.laysFinal "MeterDesk$Sight" "MeterDesk$Sight" "forests" "LMeterDesk$Family;")) ∈ lw_gt := gt_of 357 (by decide +kernel) (by decide +kernel)
theorem tw_359 : ((Jvm.Cond.laysFinal "MeterDesk$Sight" "MeterDesk$Sight" "served" "LMeterDesk$Family;")) ∈ lw_gt := gt_of 359 (by decide +kernel) (by decide +kernel)
theorem tw_361 : ((Jvm.Cond.laysFinal "MeterDesk$Sight" "MeterDesk$Sight" "scratch" "LMeterDesk$Family;")) ∈ lw_gt := gt_of 361 (by decide +kernel) (by decide +kernel)
theorem tw_363 : ((Jvm.Cond.laysFinal "MeterDesk$Sight" "MeterDesk$Sight" "trials" "LMeterDesk$Trials;")) ∈ lw_gt := gt_of 363 (by decide +kernel) (by decide +kernel)
theorem tw_365 : ((Jvm.Cond.laysFinal "MeterDesk$Sight" "MeterDesk$Sight" "parts" "[LMeterDesk$Parts;")) ∈ lw_gt := gt_of 365 (by decide +kernel) (by decide +kernel)
theorem tw_367 : ((Jvm.Cond.laysFinal "MeterDesk$Sight" "MeterDesk$Sight" "islands" "LMeterDesk$Parts;")) ∈ lw_gt := gt_of 367 (by decide +kernel) (by decide +kernel)
theorem tw_369 : ((Jvm.Cond.laysFinal "MeterDesk$Sight" "MeterDesk$Sight" "offerReach" "[I")) ∈ lw_gt := gt_of 369 (by decide +kernel) (by decide +kernel)
theorem tw_371 : ((Jvm.Cond.laysFinal "MeterDesk$Sight" "MeterDesk$Sight" "servers" "LMeterDesk$Servers;")) ∈ lw_gt := gt_of 371 (by decide +kernel) (by decide +kernel)
theorem tw_373 : ((Jvm.Cond.lays "MeterDesk$Sight" "MeterDesk$Sight" "serversKnown" "Z")) ∈ lw_gt := gt_of 373 (by decide +kernel) (by decide +kernel)
theorem tw_375 : ((Jvm.Cond.lays "MeterDesk$Sight" "MeterDesk$Sight" "weakKnown" "Z")) ∈ lw_gt := gt_of 375 (by decide +kernel) (by decide +kernel)
theorem tw_377 : ((Jvm.Cond.lays "MeterDesk$Sight" "MeterDesk$Sight" "weakest" "I")) ∈ lw_gt := gt_of 377 (by decide +kernel) (by decide +kernel)
theorem tw_379 : ((Jvm.Cond.lays "MeterDesk$Sight" "MeterDesk$Sight" "dealKnown" "Z")) ∈ lw_gt := gt_of 379 (by decide +kernel) (by decide +kernel)
theorem tw_381 : ((Jvm.Cond.lays "MeterDesk$Sight" "MeterDesk$Sight" "cheapest" "I")) ∈ lw_gt := gt_of 381 (by decide +kernel) (by decide +kernel)
theorem tw_390 : ((Jvm.Cond.fieldLink "MeterDesk$Sightings" (18 : Nat) "MeterDesk$Sightings" "size" "I")) ∈ lw_gt := gt_of 390 (by decide +kernel) (by decide +kernel)
theorem tw_391 : ((Jvm.Cond.fieldLink "MeterDesk" (216 : Nat) "MeterDesk$Sightings" "size" "I")) ∈ lw_gt := gt_of 391 (by decide +kernel) (by decide +kernel)
theorem tw_392 : ((Jvm.Cond.fieldLink "MeterDesk$Sightings" (9 : Nat) "MeterDesk$Sightings" "at" "[I")) ∈ lw_gt := gt_of 392 (by decide +kernel) (by decide +kernel)
theorem tw_393 : ((Jvm.Cond.fieldLink "MeterDesk$Sightings" (15 : Nat) "MeterDesk$Sightings" "lines" "[I")) ∈ lw_gt := gt_of 393 (by decide +kernel) (by decide +kernel)
theorem tw_394 : ((Jvm.Cond.lays "MeterDesk$Sightings" "MeterDesk$Sightings" "size" "I")) ∈ lw_gt := gt_of 394 (by decide +kernel) (by decide +kernel)
theorem tw_396 : ((Jvm.Cond.laysFinal "MeterDesk$Sightings" "MeterDesk$Sightings" "at" "[I")) ∈ lw_gt := gt_of 396 (by decide +kernel) (by decide +kernel)
theorem tw_398 : ((Jvm.Cond.laysFinal "MeterDesk$Sightings" "MeterDesk$Sightings" "lines" "[I")) ∈ lw_gt := gt_of 398 (by decide +kernel) (by decide +kernel)
theorem tw_408 : ((Jvm.Cond.fieldLink "MeterDesk$Tray" (18 : Nat) "MeterDesk$Tray" "there" "Z")) ∈ lw_gt := gt_of 408 (by decide +kernel) (by decide +kernel)
theorem tw_409 : ((Jvm.Cond.fieldLink "MeterDesk$Tray" (22 : Nat) "MeterDesk$Tray" "size" "I")) ∈ lw_gt := gt_of 409 (by decide +kernel) (by decide +kernel)
theorem tw_410 : ((Jvm.Cond.fieldLink "MeterDesk$Tray" (9 : Nat) "MeterDesk$Tray" "kind" "[I")) ∈ lw_gt := gt_of 410 (by decide +kernel) (by decide +kernel)
theorem tw_411 : ((Jvm.Cond.fieldLink "MeterDesk$Tray" (15 : Nat) "MeterDesk$Tray" "value" "[I")) ∈ lw_gt := gt_of 411 (by decide +kernel) (by decide +kernel)
theorem tw_412 : ((Jvm.Cond.lays "MeterDesk$Tray" "MeterDesk$Tray" "there" "Z")) ∈ lw_gt := gt_of 412 (by decide +kernel) (by decide +kernel)
theorem tw_414 : ((Jvm.Cond.lays "MeterDesk$Tray" "MeterDesk$Tray" "size" "I")) ∈ lw_gt := gt_of 414 (by decide +kernel) (by decide +kernel)
theorem tw_416 : ((Jvm.Cond.laysFinal "MeterDesk$Tray" "MeterDesk$Tray" "kind" "[I")) ∈ lw_gt := gt_of 416 (by decide +kernel) (by decide +kernel)
theorem tw_418 : ((Jvm.Cond.laysFinal "MeterDesk$Tray" "MeterDesk$Tray" "value" "[I")) ∈ lw_gt := gt_of 418 (by decide +kernel) (by decide +kernel)
theorem tw_421 : ((Jvm.Cond.methodLink "MeterDesk" (68 : Nat) ({ cls := "MeterDesk$Sight", name := "learnForests", desc := "()V" } : Jvm.MethodName))) ∈ lw_gt := gt_of 421 (by decide +kernel) (by decide +kernel)
theorem tw_422 : ((Jvm.Cond.instanceMethod ({ cls := "MeterDesk$Sight", name := "learnForests", desc := "()V" } : Jvm.MethodName))) ∈ lw_gt := gt_of 422 (by decide +kernel) (by decide +kernel)
theorem tw_423 : ((Jvm.Cond.selects "MeterDesk$Sight" ({ cls := "MeterDesk$Sight", name := "learnForests", desc := "()V" } : Jvm.MethodName) ({ cls := "MeterDesk$Sight", name := "learnForests", desc := "()V" } : Jvm.MethodName))) ∈ lw_gt := gt_of 423 (by decide +kernel) (by decide +kernel)
theorem tw_424 : ((Jvm.Cond.code ({ cls := "MeterDesk$Sight", name := "learnForests", desc := "()V" } : Jvm.MethodName) prog_8_method_2_code (5 : Nat) (Option.none : Option Jvm.ClassFile.FieldType))) ∈ lw_gt := gt_of 424 (by decide +kernel) (by decide +kernel)
theorem tw_425 : ((Jvm.Cond.methodLink "MeterDesk$Sight" (64 : Nat) ({ cls := "MeterDesk$Family", name := "startWithEmptySet", desc := "()V" } : Jvm.MethodName))) ∈ lw_gt := gt_of 425 (by decide +kernel) (by decide +kernel)
theorem tw_426 : ((Jvm.Cond.instanceMethod ({ cls := "MeterDesk$Family", name := "startWithEmptySet", desc := "()V" } : Jvm.MethodName))) ∈ lw_gt := gt_of 426 (by decide +kernel) (by decide +kernel)
theorem tw_427 : ((Jvm.Cond.selects "MeterDesk$Family" ({ cls := "MeterDesk$Family", name := "startWithEmptySet", desc := "()V" } : Jvm.MethodName) ({ cls := "MeterDesk$Family", name := "startWithEmptySet", desc := "()V" } : Jvm.MethodName))) ∈ lw_gt := gt_of 427 (by decide +kernel) (by decide +kernel)
theorem tw_428 : ((Jvm.Cond.code ({ cls := "MeterDesk$Family", name := "startWithEmptySet", desc := "()V" } : Jvm.MethodName) prog_2_method_2_code (2 : Nat) (Option.none : Option Jvm.ClassFile.FieldType))) ∈ lw_gt := gt_of 428 (by decide +kernel) (by decide +kernel)
theorem tw_429 : ((Jvm.Cond.methodLink "MeterDesk$Sight" (67 : Nat) ({ cls := "MeterDesk$Parts", name := "separate", desc := "()V" } : Jvm.MethodName))) ∈ lw_gt := gt_of 429 (by decide +kernel) (by decide +kernel)
theorem tw_430 : ((Jvm.Cond.instanceMethod ({ cls := "MeterDesk$Parts", name := "separate", desc := "()V" } : Jvm.MethodName))) ∈ lw_gt := gt_of 430 (by decide +kernel) (by decide +kernel)
theorem tw_431 : ((Jvm.Cond.selects "MeterDesk$Parts" ({ cls := "MeterDesk$Parts", name := "separate", desc := "()V" } : Jvm.MethodName) ({ cls := "MeterDesk$Parts", name := "separate", desc := "()V" } : Jvm.MethodName))) ∈ lw_gt := gt_of 431 (by decide +kernel) (by decide +kernel)
theorem tw_432 : ((Jvm.Cond.code ({ cls := "MeterDesk$Parts", name := "separate", desc := "()V" } : Jvm.MethodName) prog_4_method_2_code (2 : Nat) (Option.none : Option Jvm.ClassFile.FieldType))) ∈ lw_gt := gt_of 432 (by decide +kernel) (by decide +kernel)
theorem tw_433 : ((Jvm.Cond.methodLink "MeterDesk$Sight" (70 : Nat) ({ cls := "MeterDesk$Plan", name := "allLines", desc := "()I" } : Jvm.MethodName))) ∈ lw_gt := gt_of 433 (by decide +kernel) (by decide +kernel)
theorem tw_434 : ((Jvm.Cond.instanceMethod ({ cls := "MeterDesk$Plan", name := "allLines", desc := "()I" } : Jvm.MethodName))) ∈ lw_gt := gt_of 434 (by decide +kernel) (by decide +kernel)
theorem tw_435 : ((Jvm.Cond.selects "MeterDesk$Plan" ({ cls := "MeterDesk$Plan", name := "allLines", desc := "()I" } : Jvm.MethodName) ({ cls := "MeterDesk$Plan", name := "allLines", desc := "()I" } : Jvm.MethodName))) ∈ lw_gt := gt_of 435 (by decide +kernel) (by decide +kernel)
theorem tw_436 : ((Jvm.Cond.code ({ cls := "MeterDesk$Plan", name := "allLines", desc := "()I" } : Jvm.MethodName) prog_5_method_9_code (1 : Nat) (Option.some Jvm.ClassFile.FieldType.int))) ∈ lw_gt := gt_of 436 (by decide +kernel) (by decide +kernel)
theorem tw_438 : ((Jvm.Cond.static ({ cls := "MeterDesk", name := "lowest", desc := "(I)I" } : Jvm.MethodName))) ∈ lw_gt := gt_of 438 (by decide +kernel) (by decide +kernel)
theorem tw_439 : ((Jvm.Cond.code ({ cls := "MeterDesk", name := "lowest", desc := "(I)I" } : Jvm.MethodName) prog_1_method_39_code (1 : Nat) (Option.some Jvm.ClassFile.FieldType.int))) ∈ lw_gt := gt_of 439 (by decide +kernel) (by decide +kernel)
theorem tw_440 : ((Jvm.Cond.methodLink "MeterDesk" (198 : Nat) ({ cls := "java/lang/Integer", name := "bitCount", desc := "(I)I" } : Jvm.MethodName))) ∈ lw_gt := gt_of 440 (by decide +kernel) (by decide +kernel)
theorem tw_441 : ((Jvm.Cond.static ({ cls := "java/lang/Integer", name := "bitCount", desc := "(I)I" } : Jvm.MethodName))) ∈ lw_gt := gt_of 441 (by decide +kernel) (by decide +kernel)
theorem tw_442 : ((Jvm.Cond.code ({ cls := "java/lang/Integer", name := "bitCount", desc := "(I)I" } : Jvm.MethodName) prog_15_method_49_code (1 : Nat) (Option.some Jvm.ClassFile.FieldType.int))) ∈ lw_gt := gt_of 442 (by decide +kernel) (by decide +kernel)
theorem tw_443 : ((Jvm.Cond.constant "java/lang/Integer" (265 : Nat) (1431655765 : Int32))) ∈ lw_gt := gt_of 443 (by decide +kernel) (by decide +kernel)
theorem tw_444 : ((Jvm.Cond.constant "java/lang/Integer" (266 : Nat) (858993459 : Int32))) ∈ lw_gt := gt_of 444 (by decide +kernel) (by decide +kernel)
theorem tw_445 : ((Jvm.Cond.constant "java/lang/Integer" (267 : Nat) (252645135 : Int32))) ∈ lw_gt := gt_of 445 (by decide +kernel) (by decide +kernel)
theorem tw_446 : ((Jvm.Cond.methodLink "MeterDesk$Sight" (80 : Nat) ({ cls := "MeterDesk$Family", name := "holds", desc := "(I)Z" } : Jvm.MethodName))) ∈ lw_gt := gt_of 446 (by decide +kernel) (by decide +kernel)
theorem tw_447 : ((Jvm.Cond.instanceMethod ({ cls := "MeterDesk$Family", name := "holds", desc := "(I)Z" } : Jvm.MethodName))) ∈ lw_gt := gt_of 447 (by decide +kernel) (by decide +kernel)
theorem tw_448 : ((Jvm.Cond.selects "MeterDesk$Family" ({ cls := "MeterDesk$Family", name := "holds", desc := "(I)Z" } : Jvm.MethodName) ({ cls := "MeterDesk$Family", name := "holds", desc := "(I)Z" } : Jvm.MethodName))) ∈ lw_gt := gt_of 448 (by decide +kernel) (by decide +kernel)
theorem tw_449 : ((Jvm.Cond.code ({ cls := "MeterDesk$Family", name := "holds", desc := "(I)Z" } : Jvm.MethodName) prog_2_method_5_code (3 : Nat) (Option.some Jvm.ClassFile.FieldType.boolean))) ∈ lw_gt := gt_of 449 (by decide +kernel) (by decide +kernel)
theorem tw_450 : ((Jvm.Cond.methodLink "MeterDesk$Sight" (90 : Nat) ({ cls := "MeterDesk$Parts", name := "areOne", desc := "(II)Z" } : Jvm.MethodName))) ∈ lw_gt := gt_of 450 (by decide +kernel) (by decide +kernel)
theorem tw_451 : ((Jvm.Cond.instanceMethod ({ cls := "MeterDesk$Parts", name := "areOne", desc := "(II)Z" } : Jvm.MethodName))) ∈ lw_gt := gt_of 451 (by decide +kernel) (by decide +kernel)
theorem tw_452 : ((Jvm.Cond.selects "MeterDesk$Parts" ({ cls := "MeterDesk$Parts", name := "areOne", desc := "(II)Z" } : Jvm.MethodName) ({ cls := "MeterDesk$Parts", name := "areOne", desc := "(II)Z" } : Jvm.MethodName))) ∈ lw_gt := gt_of 452 (by decide +kernel) (by decide +kernel)
theorem tw_453 : ((Jvm.Cond.code ({ cls := "MeterDesk$Parts", name := "areOne", desc := "(II)Z" } : Jvm.MethodName) prog_4_method_4_code (3 : Nat) (Option.some Jvm.ClassFile.FieldType.boolean))) ∈ lw_gt := gt_of 453 (by decide +kernel) (by decide +kernel)
theorem tw_454 : ((Jvm.Cond.methodLink "MeterDesk$Sight" (94 : Nat) ({ cls := "MeterDesk$Family", name := "include", desc := "(I)V" } : Jvm.MethodName))) ∈ lw_gt := gt_of 454 (by decide +kernel) (by decide +kernel)
theorem tw_455 : ((Jvm.Cond.instanceMethod ({ cls := "MeterDesk$Family", name := "include", desc := "(I)V" } : Jvm.MethodName))) ∈ lw_gt := gt_of 455 (by decide +kernel) (by decide +kernel)
theorem tw_456 : ((Jvm.Cond.selects "MeterDesk$Family" ({ cls := "MeterDesk$Family", name := "include", desc := "(I)V" } : Jvm.MethodName) ({ cls := "MeterDesk$Family", name := "include", desc := "(I)V" } : Jvm.MethodName))) ∈ lw_gt := gt_of 456 (by decide +kernel) (by decide +kernel)
theorem tw_457 : ((Jvm.Cond.code ({ cls := "MeterDesk$Family", name := "include", desc := "(I)V" } : Jvm.MethodName) prog_2_method_4_code (3 : Nat) (Option.none : Option Jvm.ClassFile.FieldType))) ∈ lw_gt := gt_of 457 (by decide +kernel) (by decide +kernel)
theorem tw_458 : ((Jvm.Cond.methodLink "MeterDesk$Sight" (98 : Nat) ({ cls := "MeterDesk$Parts", name := "copyFrom", desc := "(LMeterDesk$Parts;)V" } : Jvm.MethodName))) ∈ lw_gt := gt_of 458 (by decide +kernel) (by decide +kernel)
theorem tw_459 : ((Jvm.Cond.instanceMethod ({ cls := "MeterDesk$Parts", name := "copyFrom", desc := "(LMeterDesk$Parts;)V" } : Jvm.MethodName))) ∈ lw_gt := gt_of 459 (by decide +kernel) (by decide +kernel)
theorem tw_460 : ((Jvm.Cond.selects "MeterDesk$Parts" ({ cls := "MeterDesk$Parts", name := "copyFrom", desc := "(LMeterDesk$Parts;)V" } : Jvm.MethodName) ({ cls := "MeterDesk$Parts", name := "copyFrom", desc := "(LMeterDesk$Parts;)V" } : Jvm.MethodName))) ∈ lw_gt := gt_of 460 (by decide +kernel) (by decide +kernel)
theorem tw_461 : ((Jvm.Cond.code ({ cls := "MeterDesk$Parts", name := "copyFrom", desc := "(LMeterDesk$Parts;)V" } : Jvm.MethodName) prog_4_method_3_code (2 : Nat) (Option.none : Option Jvm.ClassFile.FieldType))) ∈ lw_gt := gt_of 461 (by decide +kernel) (by decide +kernel)
theorem tw_462 : ((Jvm.Cond.methodLink "MeterDesk$Parts" (15 : Nat) ({ cls := "java/lang/System", name := "arraycopy", desc := "(Ljava/lang/Object;ILjava/lang/Object;II)V" } : Jvm.MethodName))) ∈ lw_gt := gt_of 462 (by decide +kernel) (by decide +kernel)
theorem tw_463 : ((Jvm.Cond.static ({ cls := "java/lang/System", name := "arraycopy", desc := "(Ljava/lang/Object;ILjava/lang/Object;II)V" } : Jvm.MethodName))) ∈ lw_gt := gt_of 463 (by decide +kernel) (by decide +kernel)
theorem tw_464 : ((Jvm.Cond.native ({ cls := "java/lang/System", name := "arraycopy", desc := "(Ljava/lang/Object;ILjava/lang/Object;II)V" } : Jvm.MethodName))) ∈ lw_gt := gt_of 464 (by decide +kernel) (by decide +kernel)
theorem tw_465 : ((Jvm.Cond.methodLink "MeterDesk$Sight" (102 : Nat) ({ cls := "MeterDesk$Parts", name := "join", desc := "(II)V" } : Jvm.MethodName))) ∈ lw_gt := gt_of 465 (by decide +kernel) (by decide +kernel)
theorem tw_466 : ((Jvm.Cond.instanceMethod ({ cls := "MeterDesk$Parts", name := "join", desc := "(II)V" } : Jvm.MethodName))) ∈ lw_gt := gt_of 466 (by decide +kernel) (by decide +kernel)
theorem tw_467 : ((Jvm.Cond.selects "MeterDesk$Parts" ({ cls := "MeterDesk$Parts", name := "join", desc := "(II)V" } : Jvm.MethodName) ({ cls := "MeterDesk$Parts", name := "join", desc := "(II)V" } : Jvm.MethodName))) ∈ lw_gt := gt_of 467 (by decide +kernel) (by decide +kernel)
theorem tw_468 : ((Jvm.Cond.code ({ cls := "MeterDesk$Parts", name := "join", desc := "(II)V" } : Jvm.MethodName) prog_4_method_5_code (5 : Nat) (Option.none : Option Jvm.ClassFile.FieldType))) ∈ lw_gt := gt_of 468 (by decide +kernel) (by decide +kernel)
theorem tw_469 : ((Jvm.Cond.methodLink "MeterDesk" (71 : Nat) ({ cls := "MeterDesk$Sight", name := "refresh", desc := "()I" } : Jvm.MethodName))) ∈ lw_gt := gt_of 469 (by decide +kernel) (by decide +kernel)
theorem tw_470 : ((Jvm.Cond.instanceMethod ({ cls := "MeterDesk$Sight", name := "refresh", desc := "()I" } : Jvm.MethodName))) ∈ lw_gt := gt_of 470 (by decide +kernel) (by decide +kernel)
theorem tw_471 : ((Jvm.Cond.selects "MeterDesk$Sight" ({ cls := "MeterDesk$Sight", name := "refresh", desc := "()I" } : Jvm.MethodName) ({ cls := "MeterDesk$Sight", name := "refresh", desc := "()I" } : Jvm.MethodName))) ∈ lw_gt := gt_of 471 (by decide +kernel) (by decide +kernel)
theorem tw_472 : ((Jvm.Cond.code ({ cls := "MeterDesk$Sight", name := "refresh", desc := "()I" } : Jvm.MethodName) prog_8_method_3_code (3 : Nat) (Option.some Jvm.ClassFile.FieldType.int))) ∈ lw_gt := gt_of 472 (by decide +kernel) (by decide +kernel)
theorem tw_473 : ((Jvm.Cond.methodLink "MeterDesk$Sight" (106 : Nat) ({ cls := "MeterDesk$Sight", name := "openLines", desc := "()I" } : Jvm.MethodName))) ∈ lw_gt := gt_of 473 (by decide +kernel) (by decide +kernel)
theorem tw_475 : ((Jvm.Cond.instanceMethod ({ cls := "MeterDesk$Sight", name := "openLines", desc := "()I" } : Jvm.MethodName))) ∈ lw_gt := gt_of 475 (by decide +kernel) (by decide +kernel)
theorem tw_476 : ((Jvm.Cond.code ({ cls := "MeterDesk$Sight", name := "openLines", desc := "()I" } : Jvm.MethodName) prog_8_method_4_code (1 : Nat) (Option.some Jvm.ClassFile.FieldType.int))) ∈ lw_gt := gt_of 476 (by decide +kernel) (by decide +kernel)
theorem tw_477 : ((Jvm.Cond.methodLink "MeterDesk$Sight" (115 : Nat) ({ cls := "MeterDesk$Sight", name := "reachOf", desc := "(II)I" } : Jvm.MethodName))) ∈ lw_gt := gt_of 477 (by decide +kernel) (by decide +kernel)
theorem tw_479 : ((Jvm.Cond.instanceMethod ({ cls := "MeterDesk$Sight", name := "reachOf", desc := "(II)I" } : Jvm.MethodName))) ∈ lw_gt := gt_of 479 (by decide +kernel) (by decide +kernel)
theorem tw_480 : ((Jvm.Cond.code ({ cls := "MeterDesk$Sight", name := "reachOf", desc := "(II)I" } : Jvm.MethodName) prog_8_method_5_code (4 : Nat) (Option.some Jvm.ClassFile.FieldType.int))) ∈ lw_gt := gt_of 480 (by decide +kernel) (by decide +kernel)
theorem tw_481 : ((Jvm.Cond.methodLink "MeterDesk$Sight" (163 : Nat) ({ cls := "MeterDesk$Plan", name := "linesFor", desc := "(III)I" } : Jvm.MethodName))) ∈ lw_gt := gt_of 481 (by decide +kernel) (by decide +kernel)
theorem tw_482 : ((Jvm.Cond.instanceMethod ({ cls := "MeterDesk$Plan", name := "linesFor", desc := "(III)I" } : Jvm.MethodName))) ∈ lw_gt := gt_of 482 (by decide +kernel) (by decide +kernel)
theorem tw_483 : ((Jvm.Cond.selects "MeterDesk$Plan" ({ cls := "MeterDesk$Plan", name := "linesFor", desc := "(III)I" } : Jvm.MethodName) ({ cls := "MeterDesk$Plan", name := "linesFor", desc := "(III)I" } : Jvm.MethodName))) ∈ lw_gt := gt_of 483 (by decide +kernel) (by decide +kernel)
theorem tw_484 : ((Jvm.Cond.code ({ cls := "MeterDesk$Plan", name := "linesFor", desc := "(III)I" } : Jvm.MethodName) prog_5_method_10_code (4 : Nat) (Option.some Jvm.ClassFile.FieldType.int))) ∈ lw_gt := gt_of 484 (by decide +kernel) (by decide +kernel)
theorem tw_485 : ((Jvm.Cond.methodLink "MeterDesk$Plan" (65 : Nat) ({ cls := "MeterDesk$Plan", name := "hasPlace", desc := "(II)Z" } : Jvm.MethodName))) ∈ lw_gt := gt_of 485 (by decide +kernel) (by decide +kernel)
theorem tw_486 : ((Jvm.Cond.instanceMethod ({ cls := "MeterDesk$Plan", name := "hasPlace", desc := "(II)Z" } : Jvm.MethodName))) ∈ lw_gt := gt_of 486 (by decide +kernel) (by decide +kernel)
theorem tw_487 : ((Jvm.Cond.selects "MeterDesk$Plan" ({ cls := "MeterDesk$Plan", name := "hasPlace", desc := "(II)Z" } : Jvm.MethodName) ({ cls := "MeterDesk$Plan", name := "hasPlace", desc := "(II)Z" } : Jvm.MethodName))) ∈ lw_gt := gt_of 487 (by decide +kernel) (by decide +kernel)
theorem tw_488 : ((Jvm.Cond.code ({ cls := "MeterDesk$Plan", name := "hasPlace", desc := "(II)Z" } : Jvm.MethodName) prog_5_method_8_code (3 : Nat) (Option.some Jvm.ClassFile.FieldType.boolean))) ∈ lw_gt := gt_of 488 (by decide +kernel) (by decide +kernel)
theorem tw_489 : ((Jvm.Cond.methodLink "MeterDesk$Plan" (61 : Nat) ({ cls := "MeterDesk$Plan", name := "placesFor", desc := "(I)I" } : Jvm.MethodName))) ∈ lw_gt := gt_of 489 (by decide +kernel) (by decide +kernel)
theorem tw_490 : ((Jvm.Cond.instanceMethod ({ cls := "MeterDesk$Plan", name := "placesFor", desc := "(I)I" } : Jvm.MethodName))) ∈ lw_gt := gt_of 490 (by decide +kernel) (by decide +kernel)
theorem tw_491 : ((Jvm.Cond.selects "MeterDesk$Plan" ({ cls := "MeterDesk$Plan", name := "placesFor", desc := "(I)I" } : Jvm.MethodName) ({ cls := "MeterDesk$Plan", name := "placesFor", desc := "(I)I" } : Jvm.MethodName))) ∈ lw_gt := gt_of 491 (by decide +kernel) (by decide +kernel)
theorem tw_492 : ((Jvm.Cond.code ({ cls := "MeterDesk$Plan", name := "placesFor", desc := "(I)I" } : Jvm.MethodName) prog_5_method_7_code (2 : Nat) (Option.some Jvm.ClassFile.FieldType.int))) ∈ lw_gt := gt_of 492 (by decide +kernel) (by decide +kernel)
theorem tw_493 : ((Jvm.Cond.methodLink "MeterDesk$Plan" (69 : Nat) ({ cls := "MeterDesk$Plan", name := "linesBeside", desc := "(I)I" } : Jvm.MethodName))) ∈ lw_gt := gt_of 493 (by decide +kernel) (by decide +kernel)
theorem tw_495 : ((Jvm.Cond.instanceMethod ({ cls := "MeterDesk$Plan", name := "linesBeside", desc := "(I)I" } : Jvm.MethodName))) ∈ lw_gt := gt_of 495 (by decide +kernel) (by decide +kernel)
theorem tw_496 : ((Jvm.Cond.code ({ cls := "MeterDesk$Plan", name := "linesBeside", desc := "(I)I" } : Jvm.MethodName) prog_5_method_12_code (4 : Nat) (Option.some Jvm.ClassFile.FieldType.int))) ∈ lw_gt := gt_of 496 (by decide +kernel) (by decide +kernel)
theorem tw_497 : ((Jvm.Cond.methodLink "MeterDesk$Plan" (72 : Nat) ({ cls := "MeterDesk$Plan", name := "linesAt", desc := "(II)I" } : Jvm.MethodName))) ∈ lw_gt := gt_of 497 (by decide +kernel) (by decide +kernel)
theorem tw_499 : ((Jvm.Cond.instanceMethod ({ cls := "MeterDesk$Plan", name := "linesAt", desc := "(II)I" } : Jvm.MethodName))) ∈ lw_gt := gt_of 499 (by decide +kernel) (by decide +kernel)
theorem tw_500 : ((Jvm.Cond.code ({ cls := "MeterDesk$Plan", name := "linesAt", desc := "(II)I" } : Jvm.MethodName) prog_5_method_13_code (5 : Nat) (Option.some Jvm.ClassFile.FieldType.int))) ∈ lw_gt := gt_of 500 (by decide +kernel) (by decide +kernel)
theorem tw_501 : ((Jvm.Cond.methodLink "MeterDesk$Plan" (75 : Nat) ({ cls := "MeterDesk$Plan", name := "linesNear", desc := "(II)I" } : Jvm.MethodName))) ∈ lw_gt := gt_of 501 (by decide +kernel) (by decide +kernel)
theorem tw_503 : ((Jvm.Cond.instanceMethod ({ cls := "MeterDesk$Plan", name := "linesNear", desc := "(II)I" } : Jvm.MethodName))) ∈ lw_gt := gt_of 503 (by decide +kernel) (by decide +kernel)
theorem tw_504 : ((Jvm.Cond.code ({ cls := "MeterDesk$Plan", name := "linesNear", desc := "(II)I" } : Jvm.MethodName) prog_5_method_14_code (6 : Nat) (Option.some Jvm.ClassFile.FieldType.int))) ∈ lw_gt := gt_of 504 (by decide +kernel) (by decide +kernel)
theorem tw_505 : ((Jvm.Cond.methodLink "MeterDesk$Plan" (78 : Nat) ({ cls := "MeterDesk$Plan", name := "withoutLeast", desc := "(I)I" } : Jvm.MethodName))) ∈ lw_gt := gt_of 505 (by decide +kernel) (by decide +kernel)
theorem tw_506 : ((Jvm.Cond.static ({ cls := "MeterDesk$Plan", name := "withoutLeast", desc := "(I)I" } : Jvm.MethodName))) ∈ lw_gt := gt_of 506 (by decide +kernel) (by decide +kernel)
theorem tw_507 : ((Jvm.Cond.code ({ cls := "MeterDesk$Plan", name := "withoutLeast", desc := "(I)I" } : Jvm.MethodName) prog_5_method_11_code (1 : Nat) (Option.some Jvm.ClassFile.FieldType.int))) ∈ lw_gt := gt_of 507 (by decide +kernel) (by decide +kernel)
theorem tw_508 : ((Jvm.Cond.methodLink "MeterDesk$Sight" (119 : Nat) ({ cls := "MeterDesk$Family", name := "joinMeter", desc := "(ILMeterDesk$Family;)V" } : Jvm.MethodName))) ∈ lw_gt := gt_of 508 (by decide +kernel) (by decide +kernel)
theorem tw_509 : ((Jvm.Cond.instanceMethod ({ cls := "MeterDesk$Family", name := "joinMeter", desc := "(ILMeterDesk$Family;)V" } : Jvm.MethodName))) ∈ lw_gt := gt_of 509 (by decide +kernel) (by decide +kernel)
theorem tw_510 : ((Jvm.Cond.selects "MeterDesk$Family" ({ cls := "MeterDesk$Family", name := "joinMeter", desc := "(ILMeterDesk$Family;)V" } : Jvm.MethodName) ({ cls := "MeterDesk$Family", name := "joinMeter", desc := "(ILMeterDesk$Family;)V" } : Jvm.MethodName))) ∈ lw_gt := gt_of 510 (by decide +kernel) (by decide +kernel)
theorem tw_511 : ((Jvm.Cond.code ({ cls := "MeterDesk$Family", name := "joinMeter", desc := "(ILMeterDesk$Family;)V" } : Jvm.MethodName) prog_2_method_6_code (4 : Nat) (Option.none : Option Jvm.ClassFile.FieldType))) ∈ lw_gt := gt_of 511 (by decide +kernel) (by decide +kernel)
theorem tw_512 : ((Jvm.Cond.methodLink "MeterDesk$Family" (18 : Nat) ({ cls := "java/lang/System", name := "arraycopy", desc := "(Ljava/lang/Object;ILjava/lang/Object;II)V" } : Jvm.MethodName))) ∈ lw_gt := gt_of 512 (by decide +kernel) (by decide +kernel)
theorem tw_513 : ((Jvm.Cond.methodLink "MeterDesk$Family" (24 : Nat) ({ cls := "MeterDesk$Family", name := "joinLine", desc := "(ILMeterDesk$Family;)V" } : Jvm.MethodName))) ∈ lw_gt := gt_of 513 (by decide +kernel) (by decide +kernel)
theorem tw_515 : ((Jvm.Cond.instanceMethod ({ cls := "MeterDesk$Family", name := "joinLine", desc := "(ILMeterDesk$Family;)V" } : Jvm.MethodName))) ∈ lw_gt := gt_of 515 (by decide +kernel) (by decide +kernel)
theorem tw_516 : ((Jvm.Cond.code ({ cls := "MeterDesk$Family", name := "joinLine", desc := "(ILMeterDesk$Family;)V" } : Jvm.MethodName) prog_2_method_7_code (5 : Nat) (Option.none : Option Jvm.ClassFile.FieldType))) ∈ lw_gt := gt_of 516 (by decide +kernel) (by decide +kernel)
theorem tw_517 : ((Jvm.Cond.fieldLink "MeterDesk$Family" (28 : Nat) "MeterDesk$Family" "LACKING" "[J")) ∈ lw_gt := gt_of 517 (by decide +kernel) (by decide +kernel)
theorem tw_519 : ((Jvm.Cond.methodLink "MeterDesk$Sight" (123 : Nat) ({ cls := "MeterDesk$Family", name := "mostLines", desc := "()I" } : Jvm.MethodName))) ∈ lw_gt := gt_of 519 (by decide +kernel) (by decide +kernel)
theorem tw_520 : ((Jvm.Cond.instanceMethod ({ cls := "MeterDesk$Family", name := "mostLines", desc := "()I" } : Jvm.MethodName))) ∈ lw_gt := gt_of 520 (by decide +kernel) (by decide +kernel)
theorem tw_521 : ((Jvm.Cond.selects "MeterDesk$Family" ({ cls := "MeterDesk$Family", name := "mostLines", desc := "()I" } : Jvm.MethodName) ({ cls := "MeterDesk$Family", name := "mostLines", desc := "()I" } : Jvm.MethodName))) ∈ lw_gt := gt_of 521 (by decide +kernel) (by decide +kernel)
theorem tw_522 : ((Jvm.Cond.code ({ cls := "MeterDesk$Family", name := "mostLines", desc := "()I" } : Jvm.MethodName) prog_2_method_8_code (5 : Nat) (Option.some Jvm.ClassFile.FieldType.int))) ∈ lw_gt := gt_of 522 (by decide +kernel) (by decide +kernel)
theorem tw_523 : ((Jvm.Cond.methodLink "MeterDesk$Family" (31 : Nat) ({ cls := "java/lang/Integer", name := "bitCount", desc := "(I)I" } : Jvm.MethodName))) ∈ lw_gt := gt_of 523 (by decide +kernel) (by decide +kernel)
theorem tw_524 : ((Jvm.Cond.fieldLink "MeterDesk$Family" (37 : Nat) "MeterDesk$Family" "SIZED" "[J")) ∈ lw_gt := gt_of 524 (by decide +kernel) (by decide +kernel)
theorem tw_526 : ((Jvm.Cond.methodLink "MeterDesk$Sight" (129 : Nat) ({ cls := "MeterDesk$Family", name := "leastSet", desc := "(I)I" } : Jvm.MethodName))) ∈ lw_gt := gt_of 526 (by decide +kernel) (by decide +kernel)
theorem tw_527 : ((Jvm.Cond.instanceMethod ({ cls := "MeterDesk$Family", name := "leastSet", desc := "(I)I" } : Jvm.MethodName))) ∈ lw_gt := gt_of 527 (by decide +kernel) (by decide +kernel)
theorem tw_528 : ((Jvm.Cond.selects "MeterDesk$Family" ({ cls := "MeterDesk$Family", name := "leastSet", desc := "(I)I" } : Jvm.MethodName) ({ cls := "MeterDesk$Family", name := "leastSet", desc := "(I)I" } : Jvm.MethodName))) ∈ lw_gt := gt_of 528 (by decide +kernel) (by decide +kernel)
theorem tw_529 : ((Jvm.Cond.code ({ cls := "MeterDesk$Family", name := "leastSet", desc := "(I)I" } : Jvm.MethodName) prog_2_method_9_code (6 : Nat) (Option.some Jvm.ClassFile.FieldType.int))) ∈ lw_gt := gt_of 529 (by decide +kernel) (by decide +kernel)
theorem tw_530 : ((Jvm.Cond.methodLink "MeterDesk$Family" (40 : Nat) ({ cls := "java/lang/Long", name := "bitCount", desc := "(J)I" } : Jvm.MethodName))) ∈ lw_gt := gt_of 530 (by decide +kernel) (by decide +kernel)
theorem tw_531 : ((Jvm.Cond.static ({ cls := "java/lang/Long", name := "bitCount", desc := "(J)I" } : Jvm.MethodName))) ∈ lw_gt := gt_of 531 (by decide +kernel) (by decide +kernel)
theorem tw_532 : ((Jvm.Cond.code ({ cls := "java/lang/Long", name := "bitCount", desc := "(J)I" } : Jvm.MethodName) prog_16_method_50_code (2 : Nat) (Option.some Jvm.ClassFile.FieldType.int))) ∈ lw_gt := gt_of 532 (by decide +kernel) (by decide +kernel)
theorem tw_533 : ((Jvm.Cond.constantLong "java/lang/Long" (314 : Nat) (6148914691236517205 : Int64))) ∈ lw_gt := gt_of 533 (by decide +kernel) (by decide +kernel)
theorem tw_534 : ((Jvm.Cond.constantLong "java/lang/Long" (316 : Nat) (3689348814741910323 : Int64))) ∈ lw_gt := gt_of 534 (by decide +kernel) (by decide +kernel)
theorem tw_535 : ((Jvm.Cond.constantLong "java/lang/Long" (318 : Nat) (1085102592571150095 : Int64))) ∈ lw_gt := gt_of 535 (by decide +kernel) (by decide +kernel)
theorem tw_536 : ((Jvm.Cond.methodLink "MeterDesk$Sight" (135 : Nat) ({ cls := "MeterDesk$Sight", name := "joinAll", desc := "(I)I" } : Jvm.MethodName))) ∈ lw_gt := gt_of 536 (by decide +kernel) (by decide +kernel)
theorem tw_538 : ((Jvm.Cond.instanceMethod ({ cls := "MeterDesk$Sight", name := "joinAll", desc := "(I)I" } : Jvm.MethodName))) ∈ lw_gt := gt_of 538 (by decide +kernel) (by decide +kernel)
theorem tw_539 : ((Jvm.Cond.code ({ cls := "MeterDesk$Sight", name := "joinAll", desc := "(I)I" } : Jvm.MethodName) prog_8_method_6_code (4 : Nat) (Option.some Jvm.ClassFile.FieldType.int))) ∈ lw_gt := gt_of 539 (by decide +kernel) (by decide +kernel)
theorem tw_540 : ((Jvm.Cond.fieldLink "MeterDesk" (10 : Nat) "MeterDesk" "told" "LMeterDesk$Plan;")) ∈ lw_gt := gt_of 540 (by decide +kernel) (by decide +kernel)
theorem tw_541 : ((Jvm.Cond.fieldLink "MeterDesk" (19 : Nat) "MeterDesk" "reader" "LMeterDesk$Reader;")) ∈ lw_gt := gt_of 541 (by decide +kernel) (by decide +kernel)
theorem tw_542 : ((Jvm.Cond.fieldLink "MeterDesk" (26 : Nat) "MeterDesk" "now" "LMeterDesk$Standing;")) ∈ lw_gt := gt_of 542 (by decide +kernel) (by decide +kernel)
theorem tw_543 : ((Jvm.Cond.fieldLink "MeterDesk" (30 : Nat) "MeterDesk" "kept" "[LMeterDesk$Standing;")) ∈ lw_gt := gt_of 543 (by decide +kernel) (by decide +kernel)
theorem tw_544 : ((Jvm.Cond.fieldLink "MeterDesk" (34 : Nat) "MeterDesk" "isKept" "[Z")) ∈ lw_gt := gt_of 544 (by decide +kernel) (by decide +kernel)
theorem tw_545 : ((Jvm.Cond.fieldLink "MeterDesk" (41 : Nat) "MeterDesk" "history" "LMeterDesk$History;")) ∈ lw_gt := gt_of 545 (by decide +kernel) (by decide +kernel)
theorem tw_546 : ((Jvm.Cond.fieldLink "MeterDesk" (50 : Nat) "MeterDesk" "sight" "LMeterDesk$Sight;")) ∈ lw_gt := gt_of 546 (by decide +kernel) (by decide +kernel)
theorem tw_547 : ((Jvm.Cond.fieldLink "MeterDesk" (57 : Nat) "MeterDesk" "sightings" "LMeterDesk$Sightings;")) ∈ lw_gt := gt_of 547 (by decide +kernel) (by decide +kernel)
theorem tw_548 : ((Jvm.Cond.fieldLink "MeterDesk" (63 : Nat) "MeterDesk" "trays" "[LMeterDesk$Tray;")) ∈ lw_gt := gt_of 548 (by decide +kernel) (by decide +kernel)
theorem tw_549 : ((Jvm.Cond.laysFinal "MeterDesk" "MeterDesk" "told" "LMeterDesk$Plan;")) ∈ lw_gt := gt_of 549 (by decide +kernel) (by decide +kernel)
theorem tw_551 : ((Jvm.Cond.laysFinal "MeterDesk" "MeterDesk" "reader" "LMeterDesk$Reader;")) ∈ lw_gt := gt_of 551 (by decide +kernel) (by decide +kernel)
theorem tw_553 : ((Jvm.Cond.laysFinal "MeterDesk" "MeterDesk" "now" "LMeterDesk$Standing;")) ∈ lw_gt := gt_of 553 (by decide +kernel) (by decide +kernel)
theorem tw_555 : ((Jvm.Cond.laysFinal "MeterDesk" "MeterDesk" "kept" "[LMeterDesk$Standing;")) ∈ lw_gt := gt_of 555 (by decide +kernel) (by decide +kernel)
theorem tw_557 : ((Jvm.Cond.laysFinal "MeterDesk" "MeterDesk" "isKept" "[Z")) ∈ lw_gt := gt_of 557 (by decide +kernel) (by decide +kernel)
theorem tw_559 : ((Jvm.Cond.laysFinal "MeterDesk" "MeterDesk" "history" "LMeterDesk$History;")) ∈ lw_gt := gt_of 559 (by decide +kernel) (by decide +kernel)
theorem tw_561 : ((Jvm.Cond.laysFinal "MeterDesk" "MeterDesk" "sight" "LMeterDesk$Sight;")) ∈ lw_gt := gt_of 561 (by decide +kernel) (by decide +kernel)
theorem tw_563 : ((Jvm.Cond.laysFinal "MeterDesk" "MeterDesk" "sightings" "LMeterDesk$Sightings;")) ∈ lw_gt := gt_of 563 (by decide +kernel) (by decide +kernel)
theorem tw_565 : ((Jvm.Cond.laysFinal "MeterDesk" "MeterDesk" "trays" "[LMeterDesk$Tray;")) ∈ lw_gt := gt_of 565 (by decide +kernel) (by decide +kernel)
theorem tw_572 : ((Jvm.Cond.methodLink "MeterDesk" (75 : Nat) ({ cls := "MeterDesk$Reader", name := "append", desc := "(C)Z" } : Jvm.MethodName))) ∈ lw_gt := gt_of 572 (by decide +kernel) (by decide +kernel)
theorem tw_573 : ((Jvm.Cond.instanceMethod ({ cls := "MeterDesk$Reader", name := "append", desc := "(C)Z" } : Jvm.MethodName))) ∈ lw_gt := gt_of 573 (by decide +kernel) (by decide +kernel)
theorem tw_574 : ((Jvm.Cond.selects "MeterDesk$Reader" ({ cls := "MeterDesk$Reader", name := "append", desc := "(C)Z" } : Jvm.MethodName) ({ cls := "MeterDesk$Reader", name := "append", desc := "(C)Z" } : Jvm.MethodName))) ∈ lw_gt := gt_of 574 (by decide +kernel) (by decide +kernel)
theorem tw_575 : ((Jvm.Cond.code ({ cls := "MeterDesk$Reader", name := "append", desc := "(C)Z" } : Jvm.MethodName) prog_6_method_2_code (2 : Nat) (Option.some Jvm.ClassFile.FieldType.boolean))) ∈ lw_gt := gt_of 575 (by decide +kernel) (by decide +kernel)
theorem tw_580 : ((Jvm.Cond.methodLink "MeterDesk" (83 : Nat) ({ cls := "MeterDesk$Reader", name := "empty", desc := "()I" } : Jvm.MethodName))) ∈ lw_gt := gt_of 580 (by decide +kernel) (by decide +kernel)
theorem tw_581 : ((Jvm.Cond.instanceMethod ({ cls := "MeterDesk$Reader", name := "empty", desc := "()I" } : Jvm.MethodName))) ∈ lw_gt := gt_of 581 (by decide +kernel) (by decide +kernel)
theorem tw_582 : ((Jvm.Cond.selects "MeterDesk$Reader" ({ cls := "MeterDesk$Reader", name := "empty", desc := "()I" } : Jvm.MethodName) ({ cls := "MeterDesk$Reader", name := "empty", desc := "()I" } : Jvm.MethodName))) ∈ lw_gt := gt_of 582 (by decide +kernel) (by decide +kernel)
theorem tw_583 : ((Jvm.Cond.code ({ cls := "MeterDesk$Reader", name := "empty", desc := "()I" } : Jvm.MethodName) prog_6_method_3_code (2 : Nat) (Option.some Jvm.ClassFile.FieldType.int))) ∈ lw_gt := gt_of 583 (by decide +kernel) (by decide +kernel)
theorem tw_588 : ((Jvm.Cond.methodLink "MeterDesk" (86 : Nat) ({ cls := "MeterDesk$Reader", name := "findFault", desc := "(LMeterDesk$Plan;)I" } : Jvm.MethodName))) ∈ lw_gt := gt_of 588 (by decide +kernel) (by decide +kernel)
theorem tw_589 : ((Jvm.Cond.instanceMethod ({ cls := "MeterDesk$Reader", name := "findFault", desc := "(LMeterDesk$Plan;)I" } : Jvm.MethodName))) ∈ lw_gt := gt_of 589 (by decide +kernel) (by decide +kernel)
theorem tw_590 : ((Jvm.Cond.selects "MeterDesk$Reader" ({ cls := "MeterDesk$Reader", name := "findFault", desc := "(LMeterDesk$Plan;)I" } : Jvm.MethodName) ({ cls := "MeterDesk$Reader", name := "findFault", desc := "(LMeterDesk$Plan;)I" } : Jvm.MethodName))) ∈ lw_gt := gt_of 590 (by decide +kernel) (by decide +kernel)
theorem tw_591 : ((Jvm.Cond.code ({ cls := "MeterDesk$Reader", name := "findFault", desc := "(LMeterDesk$Plan;)I" } : Jvm.MethodName) prog_6_method_4_code (3 : Nat) (Option.some Jvm.ClassFile.FieldType.int))) ∈ lw_gt := gt_of 591 (by decide +kernel) (by decide +kernel)
theorem tw_592 : ((Jvm.Cond.methodLink "MeterDesk$Reader" (26 : Nat) ({ cls := "MeterDesk$Plan", name := "copyFrom", desc := "(LMeterDesk$Plan;)V" } : Jvm.MethodName))) ∈ lw_gt := gt_of 592 (by decide +kernel) (by decide +kernel)
theorem tw_593 : ((Jvm.Cond.instanceMethod ({ cls := "MeterDesk$Plan", name := "copyFrom", desc := "(LMeterDesk$Plan;)V" } : Jvm.MethodName))) ∈ lw_gt := gt_of 593 (by decide +kernel) (by decide +kernel)
theorem tw_594 : ((Jvm.Cond.selects "MeterDesk$Plan" ({ cls := "MeterDesk$Plan", name := "copyFrom", desc := "(LMeterDesk$Plan;)V" } : Jvm.MethodName) ({ cls := "MeterDesk$Plan", name := "copyFrom", desc := "(LMeterDesk$Plan;)V" } : Jvm.MethodName))) ∈ lw_gt := gt_of 594 (by decide +kernel) (by decide +kernel)
theorem tw_595 : ((Jvm.Cond.code ({ cls := "MeterDesk$Plan", name := "copyFrom", desc := "(LMeterDesk$Plan;)V" } : Jvm.MethodName) prog_5_method_2_code (2 : Nat) (Option.none : Option Jvm.ClassFile.FieldType))) ∈ lw_gt := gt_of 595 (by decide +kernel) (by decide +kernel)
theorem tw_596 : ((Jvm.Cond.methodLink "MeterDesk$Plan" (46 : Nat) ({ cls := "java/lang/System", name := "arraycopy", desc := "(Ljava/lang/Object;ILjava/lang/Object;II)V" } : Jvm.MethodName))) ∈ lw_gt := gt_of 596 (by decide +kernel) (by decide +kernel)
theorem tw_597 : ((Jvm.Cond.methodLink "MeterDesk$Reader" (33 : Nat) ({ cls := "MeterDesk$Reader", name := "readClause", desc := "()Z" } : Jvm.MethodName))) ∈ lw_gt := gt_of 597 (by decide +kernel) (by decide +kernel)
theorem tw_599 : ((Jvm.Cond.instanceMethod ({ cls := "MeterDesk$Reader", name := "readClause", desc := "()Z" } : Jvm.MethodName))) ∈ lw_gt := gt_of 599 (by decide +kernel) (by decide +kernel)
theorem tw_600 : ((Jvm.Cond.code ({ cls := "MeterDesk$Reader", name := "readClause", desc := "()Z" } : Jvm.MethodName) prog_6_method_9_code (2 : Nat) (Option.some Jvm.ClassFile.FieldType.boolean))) ∈ lw_gt := gt_of 600 (by decide +kernel) (by decide +kernel)
theorem tw_601 : ((Jvm.Cond.methodLink "MeterDesk$Reader" (40 : Nat) ({ cls := "MeterDesk$Reader", name := "advance", desc := "()V" } : Jvm.MethodName))) ∈ lw_gt := gt_of 601 (by decide +kernel) (by decide +kernel)
theorem tw_603 : ((Jvm.Cond.instanceMethod ({ cls := "MeterDesk$Reader", name := "advance", desc := "()V" } : Jvm.MethodName))) ∈ lw_gt := gt_of 603 (by decide +kernel) (by decide +kernel)
theorem tw_604 : ((Jvm.Cond.code ({ cls := "MeterDesk$Reader", name := "advance", desc := "()V" } : Jvm.MethodName) prog_6_method_6_code (1 : Nat) (Option.none : Option Jvm.ClassFile.FieldType))) ∈ lw_gt := gt_of 604 (by decide +kernel) (by decide +kernel)
theorem tw_605 : ((Jvm.Cond.methodLink "MeterDesk$Reader" (49 : Nat) ({ cls := "MeterDesk$Reader", name := "kindOf", desc := "(C)I" } : Jvm.MethodName))) ∈ lw_gt := gt_of 605 (by decide +kernel) (by decide +kernel)
theorem tw_606 : ((Jvm.Cond.static ({ cls := "MeterDesk$Reader", name := "kindOf", desc := "(C)I" } : Jvm.MethodName))) ∈ lw_gt := gt_of 606 (by decide +kernel) (by decide +kernel)
theorem tw_607 : ((Jvm.Cond.code ({ cls := "MeterDesk$Reader", name := "kindOf", desc := "(C)I" } : Jvm.MethodName) prog_6_method_5_code (1 : Nat) (Option.some Jvm.ClassFile.FieldType.int))) ∈ lw_gt := gt_of 607 (by decide +kernel) (by decide +kernel)
theorem tw_609 : ((Jvm.Cond.methodLink "MeterDesk$Reader" (64 : Nat) ({ cls := "MeterDesk$Reader", name := "isWord", desc := "(Ljava/lang/String;)Z" } : Jvm.MethodName))) ∈ lw_gt := gt_of 609 (by decide +kernel) (by decide +kernel)
theorem tw_611 : ((Jvm.Cond.instanceMethod ({ cls := "MeterDesk$Reader", name := "isWord", desc := "(Ljava/lang/String;)Z" } : Jvm.MethodName))) ∈ lw_gt := gt_of 611 (by decide +kernel) (by decide +kernel)
theorem tw_612 : ((Jvm.Cond.code ({ cls := "MeterDesk$Reader", name := "isWord", desc := "(Ljava/lang/String;)Z" } : Jvm.MethodName) prog_6_method_7_code (3 : Nat) (Option.some Jvm.ClassFile.FieldType.boolean))) ∈ lw_gt := gt_of 612 (by decide +kernel) (by decide +kernel)
theorem tw_613 : ((Jvm.Cond.methodLink "MeterDesk$Reader" (53 : Nat) ({ cls := "java/lang/String", name := "length", desc := "()I" } : Jvm.MethodName))) ∈ lw_gt := gt_of 613 (by decide +kernel) (by decide +kernel)
theorem tw_623 : ((Jvm.Cond.methodLink "MeterDesk$Reader" (58 : Nat) ({ cls := "java/lang/String", name := "charAt", desc := "(I)C" } : Jvm.MethodName))) ∈ lw_gt := gt_of 623 (by decide +kernel) (by decide +kernel)
theorem tw_661 : ((Jvm.Cond.methodLink "MeterDesk$Reader" (68 : Nat) ({ cls := "MeterDesk$Reader", name := "readGrid", desc := "()Z" } : Jvm.MethodName))) ∈ lw_gt := gt_of 661 (by decide +kernel) (by decide +kernel)
theorem tw_663 : ((Jvm.Cond.instanceMethod ({ cls := "MeterDesk$Reader", name := "readGrid", desc := "()Z" } : Jvm.MethodName))) ∈ lw_gt := gt_of 663 (by decide +kernel) (by decide +kernel)
theorem tw_664 : ((Jvm.Cond.code ({ cls := "MeterDesk$Reader", name := "readGrid", desc := "()Z" } : Jvm.MethodName) prog_6_method_11_code (2 : Nat) (Option.some Jvm.ClassFile.FieldType.boolean))) ∈ lw_gt := gt_of 664 (by decide +kernel) (by decide +kernel)
theorem tw_665 : ((Jvm.Cond.methodLink "MeterDesk$Reader" (98 : Nat) ({ cls := "MeterDesk$Reader", name := "readNumber", desc := "(II)I" } : Jvm.MethodName))) ∈ lw_gt := gt_of 665 (by decide +kernel) (by decide +kernel)
theorem tw_667 : ((Jvm.Cond.instanceMethod ({ cls := "MeterDesk$Reader", name := "readNumber", desc := "(II)I" } : Jvm.MethodName))) ∈ lw_gt := gt_of 667 (by decide +kernel) (by decide +kernel)
theorem tw_668 : ((Jvm.Cond.code ({ cls := "MeterDesk$Reader", name := "readNumber", desc := "(II)I" } : Jvm.MethodName) prog_6_method_8_code (5 : Nat) (Option.some Jvm.ClassFile.FieldType.int))) ∈ lw_gt := gt_of 668 (by decide +kernel) (by decide +kernel)
theorem tw_669 : ((Jvm.Cond.methodLink "MeterDesk$Reader" (102 : Nat) ({ cls := "MeterDesk$Plan", name := "beginAnew", desc := "(I)V" } : Jvm.MethodName))) ∈ lw_gt := gt_of 669 (by decide +kernel) (by decide +kernel)
theorem tw_670 : ((Jvm.Cond.instanceMethod ({ cls := "MeterDesk$Plan", name := "beginAnew", desc := "(I)V" } : Jvm.MethodName))) ∈ lw_gt := gt_of 670 (by decide +kernel) (by decide +kernel)
theorem tw_671 : ((Jvm.Cond.selects "MeterDesk$Plan" ({ cls := "MeterDesk$Plan", name := "beginAnew", desc := "(I)V" } : Jvm.MethodName) ({ cls := "MeterDesk$Plan", name := "beginAnew", desc := "(I)V" } : Jvm.MethodName))) ∈ lw_gt := gt_of 671 (by decide +kernel) (by decide +kernel)
theorem tw_672 : ((Jvm.Cond.code ({ cls := "MeterDesk$Plan", name := "beginAnew", desc := "(I)V" } : Jvm.MethodName) prog_5_method_3_code (2 : Nat) (Option.none : Option Jvm.ClassFile.FieldType))) ∈ lw_gt := gt_of 672 (by decide +kernel) (by decide +kernel)
theorem tw_674 : ((Jvm.Cond.methodLink "MeterDesk$Reader" (73 : Nat) ({ cls := "MeterDesk$Reader", name := "readLine", desc := "()Z" } : Jvm.MethodName))) ∈ lw_gt := gt_of 674 (by decide +kernel) (by decide +kernel)
theorem tw_676 : ((Jvm.Cond.instanceMethod ({ cls := "MeterDesk$Reader", name := "readLine", desc := "()Z" } : Jvm.MethodName))) ∈ lw_gt := gt_of 676 (by decide +kernel) (by decide +kernel)
theorem tw_677 : ((Jvm.Cond.code ({ cls := "MeterDesk$Reader", name := "readLine", desc := "()Z" } : Jvm.MethodName) prog_6_method_12_code (3 : Nat) (Option.some Jvm.ClassFile.FieldType.boolean))) ∈ lw_gt := gt_of 677 (by decide +kernel) (by decide +kernel)
theorem tw_678 : ((Jvm.Cond.methodLink "MeterDesk$Reader" (112 : Nat) ({ cls := "MeterDesk$Plan", name := "addLine", desc := "(II)V" } : Jvm.MethodName))) ∈ lw_gt := gt_of 678 (by decide +kernel) (by decide +kernel)
theorem tw_679 : ((Jvm.Cond.instanceMethod ({ cls := "MeterDesk$Plan", name := "addLine", desc := "(II)V" } : Jvm.MethodName))) ∈ lw_gt := gt_of 679 (by decide +kernel) (by decide +kernel)
theorem tw_680 : ((Jvm.Cond.selects "MeterDesk$Plan" ({ cls := "MeterDesk$Plan", name := "addLine", desc := "(II)V" } : Jvm.MethodName) ({ cls := "MeterDesk$Plan", name := "addLine", desc := "(II)V" } : Jvm.MethodName))) ∈ lw_gt := gt_of 680 (by decide +kernel) (by decide +kernel)
theorem tw_681 : ((Jvm.Cond.code ({ cls := "MeterDesk$Plan", name := "addLine", desc := "(II)V" } : Jvm.MethodName) prog_5_method_4_code (3 : Nat) (Option.none : Option Jvm.ClassFile.FieldType))) ∈ lw_gt := gt_of 681 (by decide +kernel) (by decide +kernel)
theorem tw_682 : ((Jvm.Cond.methodLink "MeterDesk$Plan" (52 : Nat) ({ cls := "java/lang/Math", name := "min", desc := "(II)I" } : Jvm.MethodName))) ∈ lw_gt := gt_of 682 (by decide +kernel) (by decide +kernel)
theorem tw_683 : ((Jvm.Cond.static ({ cls := "java/lang/Math", name := "min", desc := "(II)I" } : Jvm.MethodName))) ∈ lw_gt := gt_of 683 (by decide +kernel) (by decide +kernel)
theorem tw_684 : ((Jvm.Cond.code ({ cls := "java/lang/Math", name := "min", desc := "(II)I" } : Jvm.MethodName) prog_17_method_69_code (2 : Nat) (Option.some Jvm.ClassFile.FieldType.int))) ∈ lw_gt := gt_of 684 (by decide +kernel) (by decide +kernel)
theorem tw_685 : ((Jvm.Cond.methodLink "MeterDesk$Plan" (58 : Nat) ({ cls := "java/lang/Math", name := "max", desc := "(II)I" } : Jvm.MethodName))) ∈ lw_gt := gt_of 685 (by decide +kernel) (by decide +kernel)
theorem tw_686 : ((Jvm.Cond.static ({ cls := "java/lang/Math", name := "max", desc := "(II)I" } : Jvm.MethodName))) ∈ lw_gt := gt_of 686 (by decide +kernel) (by decide +kernel)
theorem tw_687 : ((Jvm.Cond.code ({ cls := "java/lang/Math", name := "max", desc := "(II)I" } : Jvm.MethodName) prog_17_method_65_code (2 : Nat) (Option.some Jvm.ClassFile.FieldType.int))) ∈ lw_gt := gt_of 687 (by decide +kernel) (by decide +kernel)
theorem tw_689 : ((Jvm.Cond.methodLink "MeterDesk$Reader" (78 : Nat) ({ cls := "MeterDesk$Reader", name := "readOffer", desc := "()Z" } : Jvm.MethodName))) ∈ lw_gt := gt_of 689 (by decide +kernel) (by decide +kernel)
theorem tw_691 : ((Jvm.Cond.instanceMethod ({ cls := "MeterDesk$Reader", name := "readOffer", desc := "()Z" } : Jvm.MethodName))) ∈ lw_gt := gt_of 691 (by decide +kernel) (by decide +kernel)
theorem tw_692 : ((Jvm.Cond.code ({ cls := "MeterDesk$Reader", name := "readOffer", desc := "()Z" } : Jvm.MethodName) prog_6_method_14_code (4 : Nat) (Option.some Jvm.ClassFile.FieldType.boolean))) ∈ lw_gt := gt_of 692 (by decide +kernel) (by decide +kernel)
theorem tw_693 : ((Jvm.Cond.methodLink "MeterDesk$Reader" (119 : Nat) ({ cls := "MeterDesk$Plan", name := "placesFor", desc := "(I)I" } : Jvm.MethodName))) ∈ lw_gt := gt_of 693 (by decide +kernel) (by decide +kernel)
theorem tw_694 : ((Jvm.Cond.methodLink "MeterDesk$Reader" (129 : Nat) ({ cls := "MeterDesk$Plan", name := "addOffer", desc := "(III)V" } : Jvm.MethodName))) ∈ lw_gt := gt_of 694 (by decide +kernel) (by decide +kernel)
theorem tw_695 : ((Jvm.Cond.instanceMethod ({ cls := "MeterDesk$Plan", name := "addOffer", desc := "(III)V" } : Jvm.MethodName))) ∈ lw_gt := gt_of 695 (by decide +kernel) (by decide +kernel)
theorem tw_696 : ((Jvm.Cond.selects "MeterDesk$Plan" ({ cls := "MeterDesk$Plan", name := "addOffer", desc := "(III)V" } : Jvm.MethodName) ({ cls := "MeterDesk$Plan", name := "addOffer", desc := "(III)V" } : Jvm.MethodName))) ∈ lw_gt := gt_of 696 (by decide +kernel) (by decide +kernel)
theorem tw_697 : ((Jvm.Cond.code ({ cls := "MeterDesk$Plan", name := "addOffer", desc := "(III)V" } : Jvm.MethodName) prog_5_method_6_code (4 : Nat) (Option.none : Option Jvm.ClassFile.FieldType))) ∈ lw_gt := gt_of 697 (by decide +kernel) (by decide +kernel)
theorem tw_698 : ((Jvm.Cond.methodLink "MeterDesk$Reader" (81 : Nat) ({ cls := "MeterDesk$Reader", name := "readSortName", desc := "()I" } : Jvm.MethodName))) ∈ lw_gt := gt_of 698 (by decide +kernel) (by decide +kernel)
theorem tw_700 : ((Jvm.Cond.instanceMethod ({ cls := "MeterDesk$Reader", name := "readSortName", desc := "()I" } : Jvm.MethodName))) ∈ lw_gt := gt_of 700 (by decide +kernel) (by decide +kernel)
theorem tw_701 : ((Jvm.Cond.code ({ cls := "MeterDesk$Reader", name := "readSortName", desc := "()I" } : Jvm.MethodName) prog_6_method_10_code (1 : Nat) (Option.some Jvm.ClassFile.FieldType.int))) ∈ lw_gt := gt_of 701 (by decide +kernel) (by decide +kernel)
theorem tw_707 : ((Jvm.Cond.methodLink "MeterDesk$Reader" (84 : Nat) ({ cls := "MeterDesk$Reader", name := "readMeter", desc := "(I)Z" } : Jvm.MethodName))) ∈ lw_gt := gt_of 707 (by decide +kernel) (by decide +kernel)
theorem tw_709 : ((Jvm.Cond.instanceMethod ({ cls := "MeterDesk$Reader", name := "readMeter", desc := "(I)Z" } : Jvm.MethodName))) ∈ lw_gt := gt_of 709 (by decide +kernel) (by decide +kernel)
theorem tw_710 : ((Jvm.Cond.code ({ cls := "MeterDesk$Reader", name := "readMeter", desc := "(I)Z" } : Jvm.MethodName) prog_6_method_13_code (3 : Nat) (Option.some Jvm.ClassFile.FieldType.boolean))) ∈ lw_gt := gt_of 710 (by decide +kernel) (by decide +kernel)
theorem tw_711 : ((Jvm.Cond.methodLink "MeterDesk$Reader" (123 : Nat) ({ cls := "MeterDesk$Plan", name := "addMeter", desc := "(II)V" } : Jvm.MethodName))) ∈ lw_gt := gt_of 711 (by decide +kernel) (by decide +kernel)
theorem tw_712 : ((Jvm.Cond.instanceMethod ({ cls := "MeterDesk$Plan", name := "addMeter", desc := "(II)V" } : Jvm.MethodName))) ∈ lw_gt := gt_of 712 (by decide +kernel) (by decide +kernel)
theorem tw_713 : ((Jvm.Cond.selects "MeterDesk$Plan" ({ cls := "MeterDesk$Plan", name := "addMeter", desc := "(II)V" } : Jvm.MethodName) ({ cls := "MeterDesk$Plan", name := "addMeter", desc := "(II)V" } : Jvm.MethodName))) ∈ lw_gt := gt_of 713 (by decide +kernel) (by decide +kernel)
theorem tw_714 : ((Jvm.Cond.code ({ cls := "MeterDesk$Plan", name := "addMeter", desc := "(II)V" } : Jvm.MethodName) prog_5_method_5_code (3 : Nat) (Option.none : Option Jvm.ClassFile.FieldType))) ∈ lw_gt := gt_of 714 (by decide +kernel) (by decide +kernel)
theorem tw_720 : ((Jvm.Cond.methodLink "MeterDesk" (93 : Nat) ({ cls := "MeterDesk$Plan", name := "copyFrom", desc := "(LMeterDesk$Plan;)V" } : Jvm.MethodName))) ∈ lw_gt := gt_of 720 (by decide +kernel) (by decide +kernel)
theorem tw_721 : ((Jvm.Cond.methodLink "MeterDesk" (97 : Nat) ({ cls := "MeterDesk$Standing", name := "startFrom", desc := "(LMeterDesk$Plan;)V" } : Jvm.MethodName))) ∈ lw_gt := gt_of 721 (by decide +kernel) (by decide +kernel)
theorem tw_722 : ((Jvm.Cond.instanceMethod ({ cls := "MeterDesk$Standing", name := "startFrom", desc := "(LMeterDesk$Plan;)V" } : Jvm.MethodName))) ∈ lw_gt := gt_of 722 (by decide +kernel) (by decide +kernel)
theorem tw_723 : ((Jvm.Cond.selects "MeterDesk$Standing" ({ cls := "MeterDesk$Standing", name := "startFrom", desc := "(LMeterDesk$Plan;)V" } : Jvm.MethodName) ({ cls := "MeterDesk$Standing", name := "startFrom", desc := "(LMeterDesk$Plan;)V" } : Jvm.MethodName))) ∈ lw_gt := gt_of 723 (by decide +kernel) (by decide +kernel)
theorem tw_724 : ((Jvm.Cond.code ({ cls := "MeterDesk$Standing", name := "startFrom", desc := "(LMeterDesk$Plan;)V" } : Jvm.MethodName) prog_10_method_2_code (2 : Nat) (Option.none : Option Jvm.ClassFile.FieldType))) ∈ lw_gt := gt_of 724 (by decide +kernel) (by decide +kernel)
theorem tw_725 : ((Jvm.Cond.methodLink "MeterDesk$Standing" (34 : Nat) ({ cls := "java/lang/System", name := "arraycopy", desc := "(Ljava/lang/Object;ILjava/lang/Object;II)V" } : Jvm.MethodName))) ∈ lw_gt := gt_of 725 (by decide +kernel) (by decide +kernel)
theorem tw_726 : ((Jvm.Cond.methodLink "MeterDesk" (103 : Nat) ({ cls := "MeterDesk$Tray", name := "remove", desc := "()V" } : Jvm.MethodName))) ∈ lw_gt := gt_of 726 (by decide +kernel) (by decide +kernel)
theorem tw_727 : ((Jvm.Cond.instanceMethod ({ cls := "MeterDesk$Tray", name := "remove", desc := "()V" } : Jvm.MethodName))) ∈ lw_gt := gt_of 727 (by decide +kernel) (by decide +kernel)
theorem tw_728 : ((Jvm.Cond.selects "MeterDesk$Tray" ({ cls := "MeterDesk$Tray", name := "remove", desc := "()V" } : Jvm.MethodName) ({ cls := "MeterDesk$Tray", name := "remove", desc := "()V" } : Jvm.MethodName))) ∈ lw_gt := gt_of 728 (by decide +kernel) (by decide +kernel)
theorem tw_729 : ((Jvm.Cond.code ({ cls := "MeterDesk$Tray", name := "remove", desc := "()V" } : Jvm.MethodName) prog_11_method_3_code (1 : Nat) (Option.none : Option Jvm.ClassFile.FieldType))) ∈ lw_gt := gt_of 729 (by decide +kernel) (by decide +kernel)
theorem tw_734 : ((Jvm.Cond.methodLink "MeterDesk" (109 : Nat) ({ cls := "MeterDesk", name := "isLine", desc := "(I)Z" } : Jvm.MethodName))) ∈ lw_gt := gt_of 734 (by decide +kernel) (by decide +kernel)
theorem tw_736 : ((Jvm.Cond.instanceMethod ({ cls := "MeterDesk", name := "isLine", desc := "(I)Z" } : Jvm.MethodName))) ∈ lw_gt := gt_of 736 (by decide +kernel) (by decide +kernel)
theorem tw_737 : ((Jvm.Cond.code ({ cls := "MeterDesk", name := "isLine", desc := "(I)Z" } : Jvm.MethodName) prog_1_method_31_code (2 : Nat) (Option.some Jvm.ClassFile.FieldType.boolean))) ∈ lw_gt := gt_of 737 (by decide +kernel) (by decide +kernel)
theorem tw_738 : ((Jvm.Cond.methodLink "MeterDesk" (126 : Nat) ({ cls := "MeterDesk$Sight", name := "meterOf", desc := "(I)I" } : Jvm.MethodName))) ∈ lw_gt := gt_of 738 (by decide +kernel) (by decide +kernel)
theorem tw_739 : ((Jvm.Cond.instanceMethod ({ cls := "MeterDesk$Sight", name := "meterOf", desc := "(I)I" } : Jvm.MethodName))) ∈ lw_gt := gt_of 739 (by decide +kernel) (by decide +kernel)
theorem tw_740 : ((Jvm.Cond.selects "MeterDesk$Sight" ({ cls := "MeterDesk$Sight", name := "meterOf", desc := "(I)I" } : Jvm.MethodName) ({ cls := "MeterDesk$Sight", name := "meterOf", desc := "(I)I" } : Jvm.MethodName))) ∈ lw_gt := gt_of 740 (by decide +kernel) (by decide +kernel)
theorem tw_741 : ((Jvm.Cond.code ({ cls := "MeterDesk$Sight", name := "meterOf", desc := "(I)I" } : Jvm.MethodName) prog_8_method_8_code (2 : Nat) (Option.some Jvm.ClassFile.FieldType.int))) ∈ lw_gt := gt_of 741 (by decide +kernel) (by decide +kernel)
theorem tw_742 : ((Jvm.Cond.methodLink "MeterDesk$Sight" (173 : Nat) ({ cls := "MeterDesk$Sight", name := "learnServers", desc := "()V" } : Jvm.MethodName))) ∈ lw_gt := gt_of 742 (by decide +kernel) (by decide +kernel)
theorem tw_744 : ((Jvm.Cond.instanceMethod ({ cls := "MeterDesk$Sight", name := "learnServers", desc := "()V" } : Jvm.MethodName))) ∈ lw_gt := gt_of 744 (by decide +kernel) (by decide +kernel)
theorem tw_745 : ((Jvm.Cond.code ({ cls := "MeterDesk$Sight", name := "learnServers", desc := "()V" } : Jvm.MethodName) prog_8_method_11_code (1 : Nat) (Option.none : Option Jvm.ClassFile.FieldType))) ∈ lw_gt := gt_of 745 (by decide +kernel) (by decide +kernel)
theorem tw_746 : ((Jvm.Cond.methodLink "MeterDesk$Sight" (185 : Nat) ({ cls := "MeterDesk$Standing", name := "wholeMeters", desc := "()I" } : Jvm.MethodName))) ∈ lw_gt := gt_of 746 (by decide +kernel) (by decide +kernel)
theorem tw_747 : ((Jvm.Cond.instanceMethod ({ cls := "MeterDesk$Standing", name := "wholeMeters", desc := "()I" } : Jvm.MethodName))) ∈ lw_gt := gt_of 747 (by decide +kernel) (by decide +kernel)
theorem tw_748 : ((Jvm.Cond.selects "MeterDesk$Standing" ({ cls := "MeterDesk$Standing", name := "wholeMeters", desc := "()I" } : Jvm.MethodName) ({ cls := "MeterDesk$Standing", name := "wholeMeters", desc := "()I" } : Jvm.MethodName))) ∈ lw_gt := gt_of 748 (by decide +kernel) (by decide +kernel)
theorem tw_749 : ((Jvm.Cond.code ({ cls := "MeterDesk$Standing", name := "wholeMeters", desc := "()I" } : Jvm.MethodName) prog_10_method_5_code (1 : Nat) (Option.some Jvm.ClassFile.FieldType.int))) ∈ lw_gt := gt_of 749 (by decide +kernel) (by decide +kernel)
theorem tw_750 : ((Jvm.Cond.methodLink "MeterDesk$Sight" (188 : Nat) ({ cls := "MeterDesk$Servers", name := "assign", desc := "(I[II)V" } : Jvm.MethodName))) ∈ lw_gt := gt_of 750 (by decide +kernel) (by decide +kernel)
theorem tw_751 : ((Jvm.Cond.instanceMethod ({ cls := "MeterDesk$Servers", name := "assign", desc := "(I[II)V" } : Jvm.MethodName))) ∈ lw_gt := gt_of 751 (by decide +kernel) (by decide +kernel)
theorem tw_752 : ((Jvm.Cond.selects "MeterDesk$Servers" ({ cls := "MeterDesk$Servers", name := "assign", desc := "(I[II)V" } : Jvm.MethodName) ({ cls := "MeterDesk$Servers", name := "assign", desc := "(I[II)V" } : Jvm.MethodName))) ∈ lw_gt := gt_of 752 (by decide +kernel) (by decide +kernel)
theorem tw_753 : ((Jvm.Cond.code ({ cls := "MeterDesk$Servers", name := "assign", desc := "(I[II)V" } : Jvm.MethodName) prog_7_method_2_code (6 : Nat) (Option.none : Option Jvm.ClassFile.FieldType))) ∈ lw_gt := gt_of 753 (by decide +kernel) (by decide +kernel)
theorem tw_754 : ((Jvm.Cond.methodLink "MeterDesk$Servers" (21 : Nat) ({ cls := "MeterDesk$Servers", name := "learnAround", desc := "(I[II)V" } : Jvm.MethodName))) ∈ lw_gt := gt_of 754 (by decide +kernel) (by decide +kernel)
theorem tw_756 : ((Jvm.Cond.instanceMethod ({ cls := "MeterDesk$Servers", name := "learnAround", desc := "(I[II)V" } : Jvm.MethodName))) ∈ lw_gt := gt_of 756 (by decide +kernel) (by decide +kernel)
theorem tw_757 : ((Jvm.Cond.code ({ cls := "MeterDesk$Servers", name := "learnAround", desc := "(I[II)V" } : Jvm.MethodName) prog_7_method_3_code (5 : Nat) (Option.none : Option Jvm.ClassFile.FieldType))) ∈ lw_gt := gt_of 757 (by decide +kernel) (by decide +kernel)
theorem tw_759 : ((Jvm.Cond.methodLink "MeterDesk$Servers" (37 : Nat) ({ cls := "MeterDesk$Servers", name := "metersFor", desc := "(I[II)I" } : Jvm.MethodName))) ∈ lw_gt := gt_of 759 (by decide +kernel) (by decide +kernel)
theorem tw_760 : ((Jvm.Cond.static ({ cls := "MeterDesk$Servers", name := "metersFor", desc := "(I[II)I" } : Jvm.MethodName))) ∈ lw_gt := gt_of 760 (by decide +kernel) (by decide +kernel)
theorem tw_761 : ((Jvm.Cond.code ({ cls := "MeterDesk$Servers", name := "metersFor", desc := "(I[II)I" } : Jvm.MethodName) prog_7_method_4_code (5 : Nat) (Option.some Jvm.ClassFile.FieldType.int))) ∈ lw_gt := gt_of 761 (by decide +kernel) (by decide +kernel)
theorem tw_762 : ((Jvm.Cond.methodLink "MeterDesk$Servers" (29 : Nat) ({ cls := "MeterDesk$Servers", name := "leastMeter", desc := "(II)I" } : Jvm.MethodName))) ∈ lw_gt := gt_of 762 (by decide +kernel) (by decide +kernel)
theorem tw_764 : ((Jvm.Cond.instanceMethod ({ cls := "MeterDesk$Servers", name := "leastMeter", desc := "(II)I" } : Jvm.MethodName))) ∈ lw_gt := gt_of 764 (by decide +kernel) (by decide +kernel)
theorem tw_765 : ((Jvm.Cond.code ({ cls := "MeterDesk$Servers", name := "leastMeter", desc := "(II)I" } : Jvm.MethodName) prog_7_method_5_code (5 : Nat) (Option.some Jvm.ClassFile.FieldType.int))) ∈ lw_gt := gt_of 765 (by decide +kernel) (by decide +kernel)
theorem tw_766 : ((Jvm.Cond.methodLink "MeterDesk$Servers" (41 : Nat) ({ cls := "MeterDesk$Servers", name := "canAllHaveOne", desc := "(II)Z" } : Jvm.MethodName))) ∈ lw_gt := gt_of 766 (by decide +kernel) (by decide +kernel)
theorem tw_768 : ((Jvm.Cond.instanceMethod ({ cls := "MeterDesk$Servers", name := "canAllHaveOne", desc := "(II)Z" } : Jvm.MethodName))) ∈ lw_gt := gt_of 768 (by decide +kernel) (by decide +kernel)
theorem tw_769 : ((Jvm.Cond.code ({ cls := "MeterDesk$Servers", name := "canAllHaveOne", desc := "(II)Z" } : Jvm.MethodName) prog_7_method_6_code (4 : Nat) (Option.some Jvm.ClassFile.FieldType.boolean))) ∈ lw_gt := gt_of 769 (by decide +kernel) (by decide +kernel)
theorem tw_770 : ((Jvm.Cond.methodLink "MeterDesk$Servers" (45 : Nat) ({ cls := "java/lang/Integer", name := "bitCount", desc := "(I)I" } : Jvm.MethodName))) ∈ lw_gt := gt_of 770 (by decide +kernel) (by decide +kernel)
theorem tw_775 : ((Jvm.Cond.methodLink "MeterDesk" (130 : Nat) ({ cls := "MeterDesk", name := "isMeter", desc := "(I)Z" } : Jvm.MethodName))) ∈ lw_gt := gt_of 775 (by decide +kernel) (by decide +kernel)
theorem tw_777 : ((Jvm.Cond.instanceMethod ({ cls := "MeterDesk", name := "isMeter", desc := "(I)Z" } : Jvm.MethodName))) ∈ lw_gt := gt_of 777 (by decide +kernel) (by decide +kernel)
theorem tw_778 : ((Jvm.Cond.code ({ cls := "MeterDesk", name := "isMeter", desc := "(I)Z" } : Jvm.MethodName) prog_1_method_32_code (2 : Nat) (Option.some Jvm.ClassFile.FieldType.boolean))) ∈ lw_gt := gt_of 778 (by decide +kernel) (by decide +kernel)
theorem tw_779 : ((Jvm.Cond.methodLink "MeterDesk" (145 : Nat) ({ cls := "MeterDesk$Sight", name := "lineOf", desc := "(I)I" } : Jvm.MethodName))) ∈ lw_gt := gt_of 779 (by decide +kernel) (by decide +kernel)
theorem tw_780 : ((Jvm.Cond.instanceMethod ({ cls := "MeterDesk$Sight", name := "lineOf", desc := "(I)I" } : Jvm.MethodName))) ∈ lw_gt := gt_of 780 (by decide +kernel) (by decide +kernel)
theorem tw_781 : ((Jvm.Cond.selects "MeterDesk$Sight" ({ cls := "MeterDesk$Sight", name := "lineOf", desc := "(I)I" } : Jvm.MethodName) ({ cls := "MeterDesk$Sight", name := "lineOf", desc := "(I)I" } : Jvm.MethodName))) ∈ lw_gt := gt_of 781 (by decide +kernel) (by decide +kernel)
theorem tw_782 : ((Jvm.Cond.code ({ cls := "MeterDesk$Sight", name := "lineOf", desc := "(I)I" } : Jvm.MethodName) prog_8_method_9_code (2 : Nat) (Option.some Jvm.ClassFile.FieldType.int))) ∈ lw_gt := gt_of 782 (by decide +kernel) (by decide +kernel)
theorem tw_783 : ((Jvm.Cond.methodLink "MeterDesk" (148 : Nat) ({ cls := "MeterDesk$Sight", name := "isCritical", desc := "(I)Z" } : Jvm.MethodName))) ∈ lw_gt := gt_of 783 (by decide +kernel) (by decide +kernel)
theorem tw_784 : ((Jvm.Cond.instanceMethod ({ cls := "MeterDesk$Sight", name := "isCritical", desc := "(I)Z" } : Jvm.MethodName))) ∈ lw_gt := gt_of 784 (by decide +kernel) (by decide +kernel)
theorem tw_785 : ((Jvm.Cond.selects "MeterDesk$Sight" ({ cls := "MeterDesk$Sight", name := "isCritical", desc := "(I)Z" } : Jvm.MethodName) ({ cls := "MeterDesk$Sight", name := "isCritical", desc := "(I)Z" } : Jvm.MethodName))) ∈ lw_gt := gt_of 785 (by decide +kernel) (by decide +kernel)
theorem tw_786 : ((Jvm.Cond.code ({ cls := "MeterDesk$Sight", name := "isCritical", desc := "(I)Z" } : Jvm.MethodName) prog_8_method_12_code (3 : Nat) (Option.some Jvm.ClassFile.FieldType.boolean))) ∈ lw_gt := gt_of 786 (by decide +kernel) (by decide +kernel)
theorem tw_791 : ((Jvm.Cond.methodLink "MeterDesk" (163 : Nat) ({ cls := "MeterDesk$Sight", name := "gain", desc := "(II)I" } : Jvm.MethodName))) ∈ lw_gt := gt_of 791 (by decide +kernel) (by decide +kernel)
theorem tw_792 : ((Jvm.Cond.instanceMethod ({ cls := "MeterDesk$Sight", name := "gain", desc := "(II)I" } : Jvm.MethodName))) ∈ lw_gt := gt_of 792 (by decide +kernel) (by decide +kernel)
theorem tw_793 : ((Jvm.Cond.selects "MeterDesk$Sight" ({ cls := "MeterDesk$Sight", name := "gain", desc := "(II)I" } : Jvm.MethodName) ({ cls := "MeterDesk$Sight", name := "gain", desc := "(II)I" } : Jvm.MethodName))) ∈ lw_gt := gt_of 793 (by decide +kernel) (by decide +kernel)
theorem tw_794 : ((Jvm.Cond.code ({ cls := "MeterDesk$Sight", name := "gain", desc := "(II)I" } : Jvm.MethodName) prog_8_method_14_code (3 : Nat) (Option.some Jvm.ClassFile.FieldType.int))) ∈ lw_gt := gt_of 794 (by decide +kernel) (by decide +kernel)
theorem tw_795 : ((Jvm.Cond.methodLink "MeterDesk$Sight" (192 : Nat) ({ cls := "MeterDesk$Family", name := "copyFrom", desc := "(LMeterDesk$Family;)V" } : Jvm.MethodName))) ∈ lw_gt := gt_of 795 (by decide +kernel) (by decide +kernel)
theorem tw_796 : ((Jvm.Cond.instanceMethod ({ cls := "MeterDesk$Family", name := "copyFrom", desc := "(LMeterDesk$Family;)V" } : Jvm.MethodName))) ∈ lw_gt := gt_of 796 (by decide +kernel) (by decide +kernel)
theorem tw_797 : ((Jvm.Cond.selects "MeterDesk$Family" ({ cls := "MeterDesk$Family", name := "copyFrom", desc := "(LMeterDesk$Family;)V" } : Jvm.MethodName) ({ cls := "MeterDesk$Family", name := "copyFrom", desc := "(LMeterDesk$Family;)V" } : Jvm.MethodName))) ∈ lw_gt := gt_of 797 (by decide +kernel) (by decide +kernel)
theorem tw_798 : ((Jvm.Cond.code ({ cls := "MeterDesk$Family", name := "copyFrom", desc := "(LMeterDesk$Family;)V" } : Jvm.MethodName) prog_2_method_3_code (2 : Nat) (Option.none : Option Jvm.ClassFile.FieldType))) ∈ lw_gt := gt_of 798 (by decide +kernel) (by decide +kernel)
theorem tw_803 : ((Jvm.Cond.methodLink "MeterDesk" (167 : Nat) ({ cls := "MeterDesk", name := "refusePlace", desc := "(II)I" } : Jvm.MethodName))) ∈ lw_gt := gt_of 803 (by decide +kernel) (by decide +kernel)
theorem tw_805 : ((Jvm.Cond.instanceMethod ({ cls := "MeterDesk", name := "refusePlace", desc := "(II)I" } : Jvm.MethodName))) ∈ lw_gt := gt_of 805 (by decide +kernel) (by decide +kernel)
theorem tw_806 : ((Jvm.Cond.code ({ cls := "MeterDesk", name := "refusePlace", desc := "(II)I" } : Jvm.MethodName) prog_1_method_36_code (3 : Nat) (Option.some Jvm.ClassFile.FieldType.int))) ∈ lw_gt := gt_of 806 (by decide +kernel) (by decide +kernel)
theorem tw_807 : ((Jvm.Cond.methodLink "MeterDesk" (267 : Nat) ({ cls := "MeterDesk$Plan", name := "hasPlace", desc := "(II)Z" } : Jvm.MethodName))) ∈ lw_gt := gt_of 807 (by decide +kernel) (by decide +kernel)
theorem tw_808 : ((Jvm.Cond.methodLink "MeterDesk" (173 : Nat) ({ cls := "MeterDesk$Standing", name := "addMeter", desc := "(II)I" } : Jvm.MethodName))) ∈ lw_gt := gt_of 808 (by decide +kernel) (by decide +kernel)
theorem tw_809 : ((Jvm.Cond.instanceMethod ({ cls := "MeterDesk$Standing", name := "addMeter", desc := "(II)I" } : Jvm.MethodName))) ∈ lw_gt := gt_of 809 (by decide +kernel) (by decide +kernel)
theorem tw_810 : ((Jvm.Cond.selects "MeterDesk$Standing" ({ cls := "MeterDesk$Standing", name := "addMeter", desc := "(II)I" } : Jvm.MethodName) ({ cls := "MeterDesk$Standing", name := "addMeter", desc := "(II)I" } : Jvm.MethodName))) ∈ lw_gt := gt_of 810 (by decide +kernel) (by decide +kernel)
theorem tw_811 : ((Jvm.Cond.code ({ cls := "MeterDesk$Standing", name := "addMeter", desc := "(II)I" } : Jvm.MethodName) prog_10_method_4_code (3 : Nat) (Option.some Jvm.ClassFile.FieldType.int))) ∈ lw_gt := gt_of 811 (by decide +kernel) (by decide +kernel)
theorem tw_812 : ((Jvm.Cond.methodLink "MeterDesk" (176 : Nat) ({ cls := "MeterDesk$History", name := "note", desc := "(II)V" } : Jvm.MethodName))) ∈ lw_gt := gt_of 812 (by decide +kernel) (by decide +kernel)
theorem tw_813 : ((Jvm.Cond.instanceMethod ({ cls := "MeterDesk$History", name := "note", desc := "(II)V" } : Jvm.MethodName))) ∈ lw_gt := gt_of 813 (by decide +kernel) (by decide +kernel)
theorem tw_814 : ((Jvm.Cond.selects "MeterDesk$History" ({ cls := "MeterDesk$History", name := "note", desc := "(II)V" } : Jvm.MethodName) ({ cls := "MeterDesk$History", name := "note", desc := "(II)V" } : Jvm.MethodName))) ∈ lw_gt := gt_of 814 (by decide +kernel) (by decide +kernel)
theorem tw_815 : ((Jvm.Cond.code ({ cls := "MeterDesk$History", name := "note", desc := "(II)V" } : Jvm.MethodName) prog_3_method_2_code (3 : Nat) (Option.none : Option Jvm.ClassFile.FieldType))) ∈ lw_gt := gt_of 815 (by decide +kernel) (by decide +kernel)
theorem tw_816 : ((Jvm.Cond.methodLink "MeterDesk$History" (22 : Nat) ({ cls := "java/lang/System", name := "arraycopy", desc := "(Ljava/lang/Object;ILjava/lang/Object;II)V" } : Jvm.MethodName))) ∈ lw_gt := gt_of 816 (by decide +kernel) (by decide +kernel)
theorem tw_833 : ((Jvm.Cond.methodLink "MeterDesk" (180 : Nat) ({ cls := "MeterDesk$History", name := "revertLatest", desc := "(LMeterDesk$Standing;)V" } : Jvm.MethodName))) ∈ lw_gt := gt_of 833 (by decide +kernel) (by decide +kernel)
theorem tw_834 : ((Jvm.Cond.instanceMethod ({ cls := "MeterDesk$History", name := "revertLatest", desc := "(LMeterDesk$Standing;)V" } : Jvm.MethodName))) ∈ lw_gt := gt_of 834 (by decide +kernel) (by decide +kernel)
theorem tw_835 : ((Jvm.Cond.selects "MeterDesk$History" ({ cls := "MeterDesk$History", name := "revertLatest", desc := "(LMeterDesk$Standing;)V" } : Jvm.MethodName) ({ cls := "MeterDesk$History", name := "revertLatest", desc := "(LMeterDesk$Standing;)V" } : Jvm.MethodName))) ∈ lw_gt := gt_of 835 (by decide +kernel) (by decide +kernel)
theorem tw_836 : ((Jvm.Cond.code ({ cls := "MeterDesk$History", name := "revertLatest", desc := "(LMeterDesk$Standing;)V" } : Jvm.MethodName) prog_3_method_3_code (3 : Nat) (Option.none : Option Jvm.ClassFile.FieldType))) ∈ lw_gt := gt_of 836 (by decide +kernel) (by decide +kernel)
theorem tw_841 : ((Jvm.Cond.methodLink "MeterDesk" (184 : Nat) ({ cls := "MeterDesk$Standing", name := "copyFrom", desc := "(LMeterDesk$Standing;)V" } : Jvm.MethodName))) ∈ lw_gt := gt_of 841 (by decide +kernel) (by decide +kernel)
theorem tw_842 : ((Jvm.Cond.instanceMethod ({ cls := "MeterDesk$Standing", name := "copyFrom", desc := "(LMeterDesk$Standing;)V" } : Jvm.MethodName))) ∈ lw_gt := gt_of 842 (by decide +kernel) (by decide +kernel)
theorem tw_843 : ((Jvm.Cond.selects "MeterDesk$Standing" ({ cls := "MeterDesk$Standing", name := "copyFrom", desc := "(LMeterDesk$Standing;)V" } : Jvm.MethodName) ({ cls := "MeterDesk$Standing", name := "copyFrom", desc := "(LMeterDesk$Standing;)V" } : Jvm.MethodName))) ∈ lw_gt := gt_of 843 (by decide +kernel) (by decide +kernel)
theorem tw_844 : ((Jvm.Cond.code ({ cls := "MeterDesk$Standing", name := "copyFrom", desc := "(LMeterDesk$Standing;)V" } : Jvm.MethodName) prog_10_method_3_code (2 : Nat) (Option.none : Option Jvm.ClassFile.FieldType))) ∈ lw_gt := gt_of 844 (by decide +kernel) (by decide +kernel)
theorem tw_853 : ((Jvm.Cond.methodLink "MeterDesk" (192 : Nat) ({ cls := "MeterDesk$Sight", name := "islandOf", desc := "(I)I" } : Jvm.MethodName))) ∈ lw_gt := gt_of 853 (by decide +kernel) (by decide +kernel)
theorem tw_854 : ((Jvm.Cond.instanceMethod ({ cls := "MeterDesk$Sight", name := "islandOf", desc := "(I)I" } : Jvm.MethodName))) ∈ lw_gt := gt_of 854 (by decide +kernel) (by decide +kernel)
theorem tw_855 : ((Jvm.Cond.selects "MeterDesk$Sight" ({ cls := "MeterDesk$Sight", name := "islandOf", desc := "(I)I" } : Jvm.MethodName) ({ cls := "MeterDesk$Sight", name := "islandOf", desc := "(I)I" } : Jvm.MethodName))) ∈ lw_gt := gt_of 855 (by decide +kernel) (by decide +kernel)
theorem tw_856 : ((Jvm.Cond.code ({ cls := "MeterDesk$Sight", name := "islandOf", desc := "(I)I" } : Jvm.MethodName) prog_8_method_7_code (4 : Nat) (Option.some Jvm.ClassFile.FieldType.int))) ∈ lw_gt := gt_of 856 (by decide +kernel) (by decide +kernel)
theorem tw_861 : ((Jvm.Cond.methodLink "MeterDesk" (195 : Nat) ({ cls := "MeterDesk$Sight", name := "weakSet", desc := "()I" } : Jvm.MethodName))) ∈ lw_gt := gt_of 861 (by decide +kernel) (by decide +kernel)
theorem tw_862 : ((Jvm.Cond.instanceMethod ({ cls := "MeterDesk$Sight", name := "weakSet", desc := "()I" } : Jvm.MethodName))) ∈ lw_gt := gt_of 862 (by decide +kernel) (by decide +kernel)
theorem tw_863 : ((Jvm.Cond.selects "MeterDesk$Sight" ({ cls := "MeterDesk$Sight", name := "weakSet", desc := "()I" } : Jvm.MethodName) ({ cls := "MeterDesk$Sight", name := "weakSet", desc := "()I" } : Jvm.MethodName))) ∈ lw_gt := gt_of 863 (by decide +kernel) (by decide +kernel)
theorem tw_864 : ((Jvm.Cond.code ({ cls := "MeterDesk$Sight", name := "weakSet", desc := "()I" } : Jvm.MethodName) prog_8_method_15_code (1 : Nat) (Option.some Jvm.ClassFile.FieldType.int))) ∈ lw_gt := gt_of 864 (by decide +kernel) (by decide +kernel)
theorem tw_865 : ((Jvm.Cond.methodLink "MeterDesk$Sight" (195 : Nat) ({ cls := "MeterDesk$Sight", name := "findWeak", desc := "()I" } : Jvm.MethodName))) ∈ lw_gt := gt_of 865 (by decide +kernel) (by decide +kernel)
theorem tw_867 : ((Jvm.Cond.instanceMethod ({ cls := "MeterDesk$Sight", name := "findWeak", desc := "()I" } : Jvm.MethodName))) ∈ lw_gt := gt_of 867 (by decide +kernel) (by decide +kernel)
theorem tw_868 : ((Jvm.Cond.code ({ cls := "MeterDesk$Sight", name := "findWeak", desc := "()I" } : Jvm.MethodName) prog_8_method_16_code (4 : Nat) (Option.some Jvm.ClassFile.FieldType.int))) ∈ lw_gt := gt_of 868 (by decide +kernel) (by decide +kernel)
theorem tw_869 : ((Jvm.Cond.methodLink "MeterDesk$Sight" (201 : Nat) ({ cls := "MeterDesk$Trials", name := "tryAll", desc := "(LMeterDesk$Family;[IILMeterDesk$Family;)V" } : Jvm.MethodName))) ∈ lw_gt := gt_of 869 (by decide +kernel) (by decide +kernel)
theorem tw_870 : ((Jvm.Cond.instanceMethod ({ cls := "MeterDesk$Trials", name := "tryAll", desc := "(LMeterDesk$Family;[IILMeterDesk$Family;)V" } : Jvm.MethodName))) ∈ lw_gt := gt_of 870 (by decide +kernel) (by decide +kernel)
theorem tw_871 : ((Jvm.Cond.selects "MeterDesk$Trials" ({ cls := "MeterDesk$Trials", name := "tryAll", desc := "(LMeterDesk$Family;[IILMeterDesk$Family;)V" } : Jvm.MethodName) ({ cls := "MeterDesk$Trials", name := "tryAll", desc := "(LMeterDesk$Family;[IILMeterDesk$Family;)V" } : Jvm.MethodName))) ∈ lw_gt := gt_of 871 (by decide +kernel) (by decide +kernel)
theorem tw_872 : ((Jvm.Cond.code ({ cls := "MeterDesk$Trials", name := "tryAll", desc := "(LMeterDesk$Family;[IILMeterDesk$Family;)V" } : Jvm.MethodName) prog_12_method_2_code (9 : Nat) (Option.none : Option Jvm.ClassFile.FieldType))) ∈ lw_gt := gt_of 872 (by decide +kernel) (by decide +kernel)
theorem tw_873 : ((Jvm.Cond.methodLink "MeterDesk$Trials" (22 : Nat) ({ cls := "MeterDesk$Family", name := "copyFrom", desc := "(LMeterDesk$Family;)V" } : Jvm.MethodName))) ∈ lw_gt := gt_of 873 (by decide +kernel) (by decide +kernel)
theorem tw_874 : ((Jvm.Cond.methodLink "MeterDesk$Trials" (26 : Nat) ({ cls := "MeterDesk$Family", name := "mostLines", desc := "()I" } : Jvm.MethodName))) ∈ lw_gt := gt_of 874 (by decide +kernel) (by decide +kernel)
theorem tw_876 : ((Jvm.Cond.methodLink "MeterDesk$Trials" (34 : Nat) ({ cls := "MeterDesk$Family", name := "joinMeter", desc := "(ILMeterDesk$Family;)V" } : Jvm.MethodName))) ∈ lw_gt := gt_of 876 (by decide +kernel) (by decide +kernel)
theorem tw_877 : ((Jvm.Cond.methodLink "MeterDesk$Sight" (208 : Nat) ({ cls := "java/lang/Integer", name := "bitCount", desc := "(I)I" } : Jvm.MethodName))) ∈ lw_gt := gt_of 877 (by decide +kernel) (by decide +kernel)
theorem tw_882 : ((Jvm.Cond.methodLink "MeterDesk" (203 : Nat) ({ cls := "MeterDesk$Sight", name := "dealSet", desc := "()I" } : Jvm.MethodName))) ∈ lw_gt := gt_of 882 (by decide +kernel) (by decide +kernel)
theorem tw_883 : ((Jvm.Cond.instanceMethod ({ cls := "MeterDesk$Sight", name := "dealSet", desc := "()I" } : Jvm.MethodName))) ∈ lw_gt := gt_of 883 (by decide +kernel) (by decide +kernel)
theorem tw_884 : ((Jvm.Cond.selects "MeterDesk$Sight" ({ cls := "MeterDesk$Sight", name := "dealSet", desc := "()I" } : Jvm.MethodName) ({ cls := "MeterDesk$Sight", name := "dealSet", desc := "()I" } : Jvm.MethodName))) ∈ lw_gt := gt_of 884 (by decide +kernel) (by decide +kernel)
theorem tw_885 : ((Jvm.Cond.code ({ cls := "MeterDesk$Sight", name := "dealSet", desc := "()I" } : Jvm.MethodName) prog_8_method_17_code (1 : Nat) (Option.some Jvm.ClassFile.FieldType.int))) ∈ lw_gt := gt_of 885 (by decide +kernel) (by decide +kernel)
theorem tw_886 : ((Jvm.Cond.methodLink "MeterDesk$Sight" (213 : Nat) ({ cls := "MeterDesk$Sight", name := "findDeal", desc := "()I" } : Jvm.MethodName))) ∈ lw_gt := gt_of 886 (by decide +kernel) (by decide +kernel)
theorem tw_888 : ((Jvm.Cond.instanceMethod ({ cls := "MeterDesk$Sight", name := "findDeal", desc := "()I" } : Jvm.MethodName))) ∈ lw_gt := gt_of 888 (by decide +kernel) (by decide +kernel)
theorem tw_889 : ((Jvm.Cond.code ({ cls := "MeterDesk$Sight", name := "findDeal", desc := "()I" } : Jvm.MethodName) prog_8_method_18_code (3 : Nat) (Option.some Jvm.ClassFile.FieldType.int))) ∈ lw_gt := gt_of 889 (by decide +kernel) (by decide +kernel)
theorem tw_890 : ((Jvm.Cond.methodLink "MeterDesk$Sight" (228 : Nat) ({ cls := "MeterDesk$Sight", name := "isBetterDeal", desc := "(II)Z" } : Jvm.MethodName))) ∈ lw_gt := gt_of 890 (by decide +kernel) (by decide +kernel)
theorem tw_892 : ((Jvm.Cond.instanceMethod ({ cls := "MeterDesk$Sight", name := "isBetterDeal", desc := "(II)Z" } : Jvm.MethodName))) ∈ lw_gt := gt_of 892 (by decide +kernel) (by decide +kernel)
theorem tw_893 : ((Jvm.Cond.code ({ cls := "MeterDesk$Sight", name := "isBetterDeal", desc := "(II)Z" } : Jvm.MethodName) prog_8_method_19_code (4 : Nat) (Option.some Jvm.ClassFile.FieldType.boolean))) ∈ lw_gt := gt_of 893 (by decide +kernel) (by decide +kernel)
theorem tw_894 : ((Jvm.Cond.methodLink "MeterDesk$Sight" (231 : Nat) ({ cls := "MeterDesk$Plan", name := "priceOf", desc := "(I)I" } : Jvm.MethodName))) ∈ lw_gt := gt_of 894 (by decide +kernel) (by decide +kernel)
theorem tw_895 : ((Jvm.Cond.instanceMethod ({ cls := "MeterDesk$Plan", name := "priceOf", desc := "(I)I" } : Jvm.MethodName))) ∈ lw_gt := gt_of 895 (by decide +kernel) (by decide +kernel)
theorem tw_896 : ((Jvm.Cond.selects "MeterDesk$Plan" ({ cls := "MeterDesk$Plan", name := "priceOf", desc := "(I)I" } : Jvm.MethodName) ({ cls := "MeterDesk$Plan", name := "priceOf", desc := "(I)I" } : Jvm.MethodName))) ∈ lw_gt := gt_of 896 (by decide +kernel) (by decide +kernel)
theorem tw_897 : ((Jvm.Cond.code ({ cls := "MeterDesk$Plan", name := "priceOf", desc := "(I)I" } : Jvm.MethodName) prog_5_method_15_code (4 : Nat) (Option.some Jvm.ClassFile.FieldType.int))) ∈ lw_gt := gt_of 897 (by decide +kernel) (by decide +kernel)
theorem tw_898 : ((Jvm.Cond.methodLink "MeterDesk" (206 : Nat) ({ cls := "MeterDesk$Plan", name := "priceOf", desc := "(I)I" } : Jvm.MethodName))) ∈ lw_gt := gt_of 898 (by decide +kernel) (by decide +kernel)
theorem tw_903 : ((Jvm.Cond.methodLink "MeterDesk" (209 : Nat) ({ cls := "MeterDesk$Sight", name := "lossOf", desc := "(I)I" } : Jvm.MethodName))) ∈ lw_gt := gt_of 903 (by decide +kernel) (by decide +kernel)
theorem tw_904 : ((Jvm.Cond.instanceMethod ({ cls := "MeterDesk$Sight", name := "lossOf", desc := "(I)I" } : Jvm.MethodName))) ∈ lw_gt := gt_of 904 (by decide +kernel) (by decide +kernel)
theorem tw_905 : ((Jvm.Cond.selects "MeterDesk$Sight" ({ cls := "MeterDesk$Sight", name := "lossOf", desc := "(I)I" } : Jvm.MethodName) ({ cls := "MeterDesk$Sight", name := "lossOf", desc := "(I)I" } : Jvm.MethodName))) ∈ lw_gt := gt_of 905 (by decide +kernel) (by decide +kernel)
theorem tw_906 : ((Jvm.Cond.code ({ cls := "MeterDesk$Sight", name := "lossOf", desc := "(I)I" } : Jvm.MethodName) prog_8_method_13_code (4 : Nat) (Option.some Jvm.ClassFile.FieldType.int))) ∈ lw_gt := gt_of 906 (by decide +kernel) (by decide +kernel)
theorem tw_915 : ((Jvm.Cond.methodLink "MeterDesk" (212 : Nat) ({ cls := "MeterDesk$Sightings", name := "add", desc := "(II)Z" } : Jvm.MethodName))) ∈ lw_gt := gt_of 915 (by decide +kernel) (by decide +kernel)
theorem tw_916 : ((Jvm.Cond.instanceMethod ({ cls := "MeterDesk$Sightings", name := "add", desc := "(II)Z" } : Jvm.MethodName))) ∈ lw_gt := gt_of 916 (by decide +kernel) (by decide +kernel)
theorem tw_917 : ((Jvm.Cond.selects "MeterDesk$Sightings" ({ cls := "MeterDesk$Sightings", name := "add", desc := "(II)Z" } : Jvm.MethodName) ({ cls := "MeterDesk$Sightings", name := "add", desc := "(II)Z" } : Jvm.MethodName))) ∈ lw_gt := gt_of 917 (by decide +kernel) (by decide +kernel)
theorem tw_918 : ((Jvm.Cond.code ({ cls := "MeterDesk$Sightings", name := "add", desc := "(II)Z" } : Jvm.MethodName) prog_9_method_2_code (3 : Nat) (Option.some Jvm.ClassFile.FieldType.boolean))) ∈ lw_gt := gt_of 918 (by decide +kernel) (by decide +kernel)
theorem tw_927 : ((Jvm.Cond.methodLink "MeterDesk" (217 : Nat) ({ cls := "MeterDesk", name := "openLines", desc := "()I" } : Jvm.MethodName))) ∈ lw_gt := gt_of 927 (by decide +kernel) (by decide +kernel)
theorem tw_929 : ((Jvm.Cond.instanceMethod ({ cls := "MeterDesk", name := "openLines", desc := "()I" } : Jvm.MethodName))) ∈ lw_gt := gt_of 929 (by decide +kernel) (by decide +kernel)
theorem tw_930 : ((Jvm.Cond.code ({ cls := "MeterDesk", name := "openLines", desc := "()I" } : Jvm.MethodName) prog_1_method_37_code (1 : Nat) (Option.some Jvm.ClassFile.FieldType.int))) ∈ lw_gt := gt_of 930 (by decide +kernel) (by decide +kernel)
theorem tw_931 : ((Jvm.Cond.methodLink "MeterDesk" (270 : Nat) ({ cls := "MeterDesk$Plan", name := "allLines", desc := "()I" } : Jvm.MethodName))) ∈ lw_gt := gt_of 931 (by decide +kernel) (by decide +kernel)
theorem tw_932 : ((Jvm.Cond.methodLink "MeterDesk" (220 : Nat) ({ cls := "MeterDesk$Sightings", name := "fitting", desc := "(LMeterDesk$Plan;I)I" } : Jvm.MethodName))) ∈ lw_gt := gt_of 932 (by decide +kernel) (by decide +kernel)
theorem tw_933 : ((Jvm.Cond.instanceMethod ({ cls := "MeterDesk$Sightings", name := "fitting", desc := "(LMeterDesk$Plan;I)I" } : Jvm.MethodName))) ∈ lw_gt := gt_of 933 (by decide +kernel) (by decide +kernel)
theorem tw_934 : ((Jvm.Cond.selects "MeterDesk$Sightings" ({ cls := "MeterDesk$Sightings", name := "fitting", desc := "(LMeterDesk$Plan;I)I" } : Jvm.MethodName) ({ cls := "MeterDesk$Sightings", name := "fitting", desc := "(LMeterDesk$Plan;I)I" } : Jvm.MethodName))) ∈ lw_gt := gt_of 934 (by decide +kernel) (by decide +kernel)
theorem tw_935 : ((Jvm.Cond.code ({ cls := "MeterDesk$Sightings", name := "fitting", desc := "(LMeterDesk$Plan;I)I" } : Jvm.MethodName) prog_9_method_3_code (5 : Nat) (Option.some Jvm.ClassFile.FieldType.int))) ∈ lw_gt := gt_of 935 (by decide +kernel) (by decide +kernel)
theorem tw_936 : ((Jvm.Cond.methodLink "MeterDesk$Sightings" (22 : Nat) ({ cls := "MeterDesk$Sightings", name := "fits", desc := "(ILMeterDesk$Plan;I)Z" } : Jvm.MethodName))) ∈ lw_gt := gt_of 936 (by decide +kernel) (by decide +kernel)
theorem tw_938 : ((Jvm.Cond.instanceMethod ({ cls := "MeterDesk$Sightings", name := "fits", desc := "(ILMeterDesk$Plan;I)Z" } : Jvm.MethodName))) ∈ lw_gt := gt_of 938 (by decide +kernel) (by decide +kernel)
theorem tw_939 : ((Jvm.Cond.code ({ cls := "MeterDesk$Sightings", name := "fits", desc := "(ILMeterDesk$Plan;I)Z" } : Jvm.MethodName) prog_9_method_4_code (5 : Nat) (Option.some Jvm.ClassFile.FieldType.boolean))) ∈ lw_gt := gt_of 939 (by decide +kernel) (by decide +kernel)
theorem tw_940 : ((Jvm.Cond.methodLink "MeterDesk$Sightings" (26 : Nat) ({ cls := "MeterDesk$Plan", name := "hasPlace", desc := "(II)Z" } : Jvm.MethodName))) ∈ lw_gt := gt_of 940 (by decide +kernel) (by decide +kernel)
theorem tw_941 : ((Jvm.Cond.methodLink "MeterDesk$Sightings" (32 : Nat) ({ cls := "MeterDesk$Plan", name := "linesFor", desc := "(III)I" } : Jvm.MethodName))) ∈ lw_gt := gt_of 941 (by decide +kernel) (by decide +kernel)
theorem tw_946 : ((Jvm.Cond.methodLink "MeterDesk" (224 : Nat) ({ cls := "MeterDesk$Sightings", name := "bestPlace", desc := "(LMeterDesk$Plan;I)I" } : Jvm.MethodName))) ∈ lw_gt := gt_of 946 (by decide +kernel) (by decide +kernel)
theorem tw_947 : ((Jvm.Cond.instanceMethod ({ cls := "MeterDesk$Sightings", name := "bestPlace", desc := "(LMeterDesk$Plan;I)I" } : Jvm.MethodName))) ∈ lw_gt := gt_of 947 (by decide +kernel) (by decide +kernel)
theorem tw_948 : ((Jvm.Cond.selects "MeterDesk$Sightings" ({ cls := "MeterDesk$Sightings", name := "bestPlace", desc := "(LMeterDesk$Plan;I)I" } : Jvm.MethodName) ({ cls := "MeterDesk$Sightings", name := "bestPlace", desc := "(LMeterDesk$Plan;I)I" } : Jvm.MethodName))) ∈ lw_gt := gt_of 948 (by decide +kernel) (by decide +kernel)
theorem tw_949 : ((Jvm.Cond.code ({ cls := "MeterDesk$Sightings", name := "bestPlace", desc := "(LMeterDesk$Plan;I)I" } : Jvm.MethodName) prog_9_method_5_code (8 : Nat) (Option.some Jvm.ClassFile.FieldType.int))) ∈ lw_gt := gt_of 949 (by decide +kernel) (by decide +kernel)
theorem tw_950 : ((Jvm.Cond.methodLink "MeterDesk$Sightings" (36 : Nat) ({ cls := "MeterDesk$Sightings", name := "fitting", desc := "(LMeterDesk$Plan;I)I" } : Jvm.MethodName))) ∈ lw_gt := gt_of 950 (by decide +kernel) (by decide +kernel)
theorem tw_951 : ((Jvm.Cond.methodLink "MeterDesk$Sightings" (40 : Nat) ({ cls := "java/lang/Integer", name := "bitCount", desc := "(I)I" } : Jvm.MethodName))) ∈ lw_gt := gt_of 951 (by decide +kernel) (by decide +kernel)
theorem tw_952 : ((Jvm.Cond.methodLink "MeterDesk$Sightings" (46 : Nat) ({ cls := "MeterDesk$Sightings", name := "greatestPart", desc := "(IILMeterDesk$Plan;I)I" } : Jvm.MethodName))) ∈ lw_gt := gt_of 952 (by decide +kernel) (by decide +kernel)
theorem tw_953 : ((Jvm.Cond.static ({ cls := "MeterDesk$Sightings", name := "greatestPart", desc := "(IILMeterDesk$Plan;I)I" } : Jvm.MethodName))) ∈ lw_gt := gt_of 953 (by decide +kernel) (by decide +kernel)
theorem tw_954 : ((Jvm.Cond.code ({ cls := "MeterDesk$Sightings", name := "greatestPart", desc := "(IILMeterDesk$Plan;I)I" } : Jvm.MethodName) prog_9_method_6_code (6 : Nat) (Option.some Jvm.ClassFile.FieldType.int))) ∈ lw_gt := gt_of 954 (by decide +kernel) (by decide +kernel)
theorem tw_955 : ((Jvm.Cond.methodLink "MeterDesk$Sightings" (50 : Nat) ({ cls := "MeterDesk$Sightings", name := "alike", desc := "(IIILMeterDesk$Plan;I)I" } : Jvm.MethodName))) ∈ lw_gt := gt_of 955 (by decide +kernel) (by decide +kernel)
theorem tw_956 : ((Jvm.Cond.static ({ cls := "MeterDesk$Sightings", name := "alike", desc := "(IIILMeterDesk$Plan;I)I" } : Jvm.MethodName))) ∈ lw_gt := gt_of 956 (by decide +kernel) (by decide +kernel)
theorem tw_957 : ((Jvm.Cond.code ({ cls := "MeterDesk$Sightings", name := "alike", desc := "(IIILMeterDesk$Plan;I)I" } : Jvm.MethodName) prog_9_method_7_code (7 : Nat) (Option.some Jvm.ClassFile.FieldType.int))) ∈ lw_gt := gt_of 957 (by decide +kernel) (by decide +kernel)
theorem tw_958 : ((Jvm.Cond.methodLink "MeterDesk$Sightings" (54 : Nat) ({ cls := "java/lang/Math", name := "max", desc := "(II)I" } : Jvm.MethodName))) ∈ lw_gt := gt_of 958 (by decide +kernel) (by decide +kernel)
theorem tw_963 : ((Jvm.Cond.methodLink "MeterDesk" (227 : Nat) ({ cls := "MeterDesk", name := "isTray", desc := "(I)Z" } : Jvm.MethodName))) ∈ lw_gt := gt_of 963 (by decide +kernel) (by decide +kernel)
theorem tw_964 : ((Jvm.Cond.static ({ cls := "MeterDesk", name := "isTray", desc := "(I)Z" } : Jvm.MethodName))) ∈ lw_gt := gt_of 964 (by decide +kernel) (by decide +kernel)
theorem tw_965 : ((Jvm.Cond.code ({ cls := "MeterDesk", name := "isTray", desc := "(I)Z" } : Jvm.MethodName) prog_1_method_33_code (1 : Nat) (Option.some Jvm.ClassFile.FieldType.boolean))) ∈ lw_gt := gt_of 965 (by decide +kernel) (by decide +kernel)
theorem tw_966 : ((Jvm.Cond.methodLink "MeterDesk" (230 : Nat) ({ cls := "MeterDesk$Tray", name := "renew", desc := "()V" } : Jvm.MethodName))) ∈ lw_gt := gt_of 966 (by decide +kernel) (by decide +kernel)
theorem tw_967 : ((Jvm.Cond.instanceMethod ({ cls := "MeterDesk$Tray", name := "renew", desc := "()V" } : Jvm.MethodName))) ∈ lw_gt := gt_of 967 (by decide +kernel) (by decide +kernel)
theorem tw_968 : ((Jvm.Cond.selects "MeterDesk$Tray" ({ cls := "MeterDesk$Tray", name := "renew", desc := "()V" } : Jvm.MethodName) ({ cls := "MeterDesk$Tray", name := "renew", desc := "()V" } : Jvm.MethodName))) ∈ lw_gt := gt_of 968 (by decide +kernel) (by decide +kernel)
theorem tw_969 : ((Jvm.Cond.code ({ cls := "MeterDesk$Tray", name := "renew", desc := "()V" } : Jvm.MethodName) prog_11_method_2_code (1 : Nat) (Option.none : Option Jvm.ClassFile.FieldType))) ∈ lw_gt := gt_of 969 (by decide +kernel) (by decide +kernel)
theorem tw_974 : ((Jvm.Cond.methodLink "MeterDesk" (233 : Nat) ({ cls := "MeterDesk", name := "canBeLaid", desc := "(II)Z" } : Jvm.MethodName))) ∈ lw_gt := gt_of 974 (by decide +kernel) (by decide +kernel)
theorem tw_975 : ((Jvm.Cond.static ({ cls := "MeterDesk", name := "canBeLaid", desc := "(II)Z" } : Jvm.MethodName))) ∈ lw_gt := gt_of 975 (by decide +kernel) (by decide +kernel)
theorem tw_976 : ((Jvm.Cond.code ({ cls := "MeterDesk", name := "canBeLaid", desc := "(II)Z" } : Jvm.MethodName) prog_1_method_35_code (2 : Nat) (Option.some Jvm.ClassFile.FieldType.boolean))) ∈ lw_gt := gt_of 976 (by decide +kernel) (by decide +kernel)
theorem tw_977 : ((Jvm.Cond.methodLink "MeterDesk" (236 : Nat) ({ cls := "MeterDesk$Tray", name := "push", desc := "(II)I" } : Jvm.MethodName))) ∈ lw_gt := gt_of 977 (by decide +kernel) (by decide +kernel)
theorem tw_978 : ((Jvm.Cond.instanceMethod ({ cls := "MeterDesk$Tray", name := "push", desc := "(II)I" } : Jvm.MethodName))) ∈ lw_gt := gt_of 978 (by decide +kernel) (by decide +kernel)
theorem tw_979 : ((Jvm.Cond.selects "MeterDesk$Tray" ({ cls := "MeterDesk$Tray", name := "push", desc := "(II)I" } : Jvm.MethodName) ({ cls := "MeterDesk$Tray", name := "push", desc := "(II)I" } : Jvm.MethodName))) ∈ lw_gt := gt_of 979 (by decide +kernel) (by decide +kernel)
theorem tw_980 : ((Jvm.Cond.code ({ cls := "MeterDesk$Tray", name := "push", desc := "(II)I" } : Jvm.MethodName) prog_11_method_6_code (3 : Nat) (Option.some Jvm.ClassFile.FieldType.int))) ∈ lw_gt := gt_of 980 (by decide +kernel) (by decide +kernel)
theorem tw_985 : ((Jvm.Cond.methodLink "MeterDesk" (239 : Nat) ({ cls := "MeterDesk", name := "isKind", desc := "(I)Z" } : Jvm.MethodName))) ∈ lw_gt := gt_of 985 (by decide +kernel) (by decide +kernel)
theorem tw_986 : ((Jvm.Cond.static ({ cls := "MeterDesk", name := "isKind", desc := "(I)Z" } : Jvm.MethodName))) ∈ lw_gt := gt_of 986 (by decide +kernel) (by decide +kernel)
theorem tw_987 : ((Jvm.Cond.code ({ cls := "MeterDesk", name := "isKind", desc := "(I)Z" } : Jvm.MethodName) prog_1_method_34_code (1 : Nat) (Option.some Jvm.ClassFile.FieldType.boolean))) ∈ lw_gt := gt_of 987 (by decide +kernel) (by decide +kernel)
theorem tw_988 : ((Jvm.Cond.methodLink "MeterDesk" (242 : Nat) ({ cls := "MeterDesk$Tray", name := "pop", desc := "(I)I" } : Jvm.MethodName))) ∈ lw_gt := gt_of 988 (by decide +kernel) (by decide +kernel)
theorem tw_989 : ((Jvm.Cond.instanceMethod ({ cls := "MeterDesk$Tray", name := "pop", desc := "(I)I" } : Jvm.MethodName))) ∈ lw_gt := gt_of 989 (by decide +kernel) (by decide +kernel)
theorem tw_990 : ((Jvm.Cond.selects "MeterDesk$Tray" ({ cls := "MeterDesk$Tray", name := "pop", desc := "(I)I" } : Jvm.MethodName) ({ cls := "MeterDesk$Tray", name := "pop", desc := "(I)I" } : Jvm.MethodName))) ∈ lw_gt := gt_of 990 (by decide +kernel) (by decide +kernel)
theorem tw_991 : ((Jvm.Cond.code ({ cls := "MeterDesk$Tray", name := "pop", desc := "(I)I" } : Jvm.MethodName) prog_11_method_7_code (2 : Nat) (Option.some Jvm.ClassFile.FieldType.int))) ∈ lw_gt := gt_of 991 (by decide +kernel) (by decide +kernel)
theorem tw_992 : ((Jvm.Cond.constant "MeterDesk$Tray" (26 : Nat) (50000 : Int32))) ∈ lw_gt := gt_of 992 (by decide +kernel) (by decide +kernel)
theorem tw_997 : ((Jvm.Cond.methodLink "MeterDesk" (245 : Nat) ({ cls := "MeterDesk$Tray", name := "together", desc := "(I)I" } : Jvm.MethodName))) ∈ lw_gt := gt_of 997 (by decide +kernel) (by decide +kernel)
theorem tw_998 : ((Jvm.Cond.instanceMethod ({ cls := "MeterDesk$Tray", name := "together", desc := "(I)I" } : Jvm.MethodName))) ∈ lw_gt := gt_of 998 (by decide +kernel) (by decide +kernel)
theorem tw_999 : ((Jvm.Cond.selects "MeterDesk$Tray" ({ cls := "MeterDesk$Tray", name := "together", desc := "(I)I" } : Jvm.MethodName) ({ cls := "MeterDesk$Tray", name := "together", desc := "(I)I" } : Jvm.MethodName))) ∈ lw_gt := gt_of 999 (by decide +kernel) (by decide +kernel)
theorem tw_1000 : ((Jvm.Cond.code ({ cls := "MeterDesk$Tray", name := "together", desc := "(I)I" } : Jvm.MethodName) prog_11_method_8_code (6 : Nat) (Option.some Jvm.ClassFile.FieldType.int))) ∈ lw_gt := gt_of 1000 (by decide +kernel) (by decide +kernel)
theorem tw_1001 : ((Jvm.Cond.constant "MeterDesk$Tray" (27 : Nat) (500000 : Int32))) ∈ lw_gt := gt_of 1001 (by decide +kernel) (by decide +kernel)
theorem tw_1006 : ((Jvm.Cond.methodLink "MeterDesk" (248 : Nat) ({ cls := "MeterDesk$Tray", name := "isMissing", desc := "()Z" } : Jvm.MethodName))) ∈ lw_gt := gt_of 1006 (by decide +kernel) (by decide +kernel)
theorem tw_1007 : ((Jvm.Cond.instanceMethod ({ cls := "MeterDesk$Tray", name := "isMissing", desc := "()Z" } : Jvm.MethodName))) ∈ lw_gt := gt_of 1007 (by decide +kernel) (by decide +kernel)
theorem tw_1008 : ((Jvm.Cond.selects "MeterDesk$Tray" ({ cls := "MeterDesk$Tray", name := "isMissing", desc := "()Z" } : Jvm.MethodName) ({ cls := "MeterDesk$Tray", name := "isMissing", desc := "()Z" } : Jvm.MethodName))) ∈ lw_gt := gt_of 1008 (by decide +kernel) (by decide +kernel)
theorem tw_1009 : ((Jvm.Cond.code ({ cls := "MeterDesk$Tray", name := "isMissing", desc := "()Z" } : Jvm.MethodName) prog_11_method_4_code (1 : Nat) (Option.some Jvm.ClassFile.FieldType.boolean))) ∈ lw_gt := gt_of 1009 (by decide +kernel) (by decide +kernel)
theorem tw_1010 : ((Jvm.Cond.methodLink "MeterDesk" (252 : Nat) ({ cls := "MeterDesk$Tray", name := "things", desc := "()I" } : Jvm.MethodName))) ∈ lw_gt := gt_of 1010 (by decide +kernel) (by decide +kernel)
theorem tw_1011 : ((Jvm.Cond.instanceMethod ({ cls := "MeterDesk$Tray", name := "things", desc := "()I" } : Jvm.MethodName))) ∈ lw_gt := gt_of 1011 (by decide +kernel) (by decide +kernel)
theorem tw_1012 : ((Jvm.Cond.selects "MeterDesk$Tray" ({ cls := "MeterDesk$Tray", name := "things", desc := "()I" } : Jvm.MethodName) ({ cls := "MeterDesk$Tray", name := "things", desc := "()I" } : Jvm.MethodName))) ∈ lw_gt := gt_of 1012 (by decide +kernel) (by decide +kernel)
theorem tw_1013 : ((Jvm.Cond.code ({ cls := "MeterDesk$Tray", name := "things", desc := "()I" } : Jvm.MethodName) prog_11_method_5_code (1 : Nat) (Option.some Jvm.ClassFile.FieldType.int))) ∈ lw_gt := gt_of 1013 (by decide +kernel) (by decide +kernel)
theorem tw_1018 : ((Jvm.Cond.methodLink "MeterDesk" (261 : Nat) ({ cls := "MeterDesk$Sight", name := "spares", desc := "()I" } : Jvm.MethodName))) ∈ lw_gt := gt_of 1018 (by decide +kernel) (by decide +kernel)
theorem tw_1019 : ((Jvm.Cond.instanceMethod ({ cls := "MeterDesk$Sight", name := "spares", desc := "()I" } : Jvm.MethodName))) ∈ lw_gt := gt_of 1019 (by decide +kernel) (by decide +kernel)
theorem tw_1020 : ((Jvm.Cond.selects "MeterDesk$Sight" ({ cls := "MeterDesk$Sight", name := "spares", desc := "()I" } : Jvm.MethodName) ({ cls := "MeterDesk$Sight", name := "spares", desc := "()I" } : Jvm.MethodName))) ∈ lw_gt := gt_of 1020 (by decide +kernel) (by decide +kernel)
theorem tw_1021 : ((Jvm.Cond.code ({ cls := "MeterDesk$Sight", name := "spares", desc := "()I" } : Jvm.MethodName) prog_8_method_10_code (1 : Nat) (Option.some Jvm.ClassFile.FieldType.int))) ∈ lw_gt := gt_of 1021 (by decide +kernel) (by decide +kernel)
theorem tw_1022 : ((Jvm.Cond.methodLink "MeterDesk" (264 : Nat) ({ cls := "MeterDesk", name := "thingsOfAllTrays", desc := "()I" } : Jvm.MethodName))) ∈ lw_gt := gt_of 1022 (by decide +kernel) (by decide +kernel)
theorem tw_1024 : ((Jvm.Cond.instanceMethod ({ cls := "MeterDesk", name := "thingsOfAllTrays", desc := "()I" } : Jvm.MethodName))) ∈ lw_gt := gt_of 1024 (by decide +kernel) (by decide +kernel)
theorem tw_1025 : ((Jvm.Cond.code ({ cls := "MeterDesk", name := "thingsOfAllTrays", desc := "()I" } : Jvm.MethodName) prog_1_method_38_code (3 : Nat) (Option.some Jvm.ClassFile.FieldType.int))) ∈ lw_gt := gt_of 1025 (by decide +kernel) (by decide +kernel)
theorem tw_1038 : ((Jvm.Cond.methodLink "MeterDeskModel" (75 : Nat) ({ cls := "MeterDeskModel", name := "anew", desc := "(I)V" } : Jvm.MethodName))) ∈ lw_gt := gt_of 1038 (by decide +kernel) (by decide +kernel)
theorem tw_1040 : ((Jvm.Cond.instanceMethod ({ cls := "MeterDeskModel", name := "anew", desc := "(I)V" } : Jvm.MethodName))) ∈ lw_gt := gt_of 1040 (by decide +kernel) (by decide +kernel)
theorem tw_1041 : ((Jvm.Cond.code ({ cls := "MeterDeskModel", name := "anew", desc := "(I)V" } : Jvm.MethodName) prog_14_method_6_code (2 : Nat) (Option.none : Option Jvm.ClassFile.FieldType))) ∈ lw_gt := gt_of 1041 (by decide +kernel) (by decide +kernel)
theorem tw_1042 : ((Jvm.Cond.methodLink "MeterDeskModel" (79 : Nat) ({ cls := "MeterDeskModel", name := "layForests", desc := "()V" } : Jvm.MethodName))) ∈ lw_gt := gt_of 1042 (by decide +kernel) (by decide +kernel)
theorem tw_1044 : ((Jvm.Cond.instanceMethod ({ cls := "MeterDeskModel", name := "layForests", desc := "()V" } : Jvm.MethodName))) ∈ lw_gt := gt_of 1044 (by decide +kernel) (by decide +kernel)
theorem tw_1045 : ((Jvm.Cond.code ({ cls := "MeterDeskModel", name := "layForests", desc := "()V" } : Jvm.MethodName) prog_14_method_23_code (3 : Nat) (Option.none : Option Jvm.ClassFile.FieldType))) ∈ lw_gt := gt_of 1045 (by decide +kernel) (by decide +kernel)
theorem tw_1046 : ((Jvm.Cond.methodLink "MeterDeskModel" (183 : Nat) ({ cls := "MeterDeskModel", name := "ones", desc := "(I)I" } : Jvm.MethodName))) ∈ lw_gt := gt_of 1046 (by decide +kernel) (by decide +kernel)
theorem tw_1047 : ((Jvm.Cond.static ({ cls := "MeterDeskModel", name := "ones", desc := "(I)I" } : Jvm.MethodName))) ∈ lw_gt := gt_of 1047 (by decide +kernel) (by decide +kernel)
theorem tw_1048 : ((Jvm.Cond.code ({ cls := "MeterDeskModel", name := "ones", desc := "(I)I" } : Jvm.MethodName) prog_14_method_4_code (3 : Nat) (Option.some Jvm.ClassFile.FieldType.int))) ∈ lw_gt := gt_of 1048 (by decide +kernel) (by decide +kernel)
theorem tw_1049 : ((Jvm.Cond.methodLink "MeterDeskModel" (187 : Nat) ({ cls := "MeterDeskModel", name := "layParts", desc := "(I)I" } : Jvm.MethodName))) ∈ lw_gt := gt_of 1049 (by decide +kernel) (by decide +kernel)
theorem tw_1051 : ((Jvm.Cond.instanceMethod ({ cls := "MeterDeskModel", name := "layParts", desc := "(I)I" } : Jvm.MethodName))) ∈ lw_gt := gt_of 1051 (by decide +kernel) (by decide +kernel)
theorem tw_1052 : ((Jvm.Cond.code ({ cls := "MeterDeskModel", name := "layParts", desc := "(I)I" } : Jvm.MethodName) prog_14_method_22_code (8 : Nat) (Option.some Jvm.ClassFile.FieldType.int))) ∈ lw_gt := gt_of 1052 (by decide +kernel) (by decide +kernel)
theorem tw_1053 : ((Jvm.Cond.methodLink "MeterDeskModel" (179 : Nat) ({ cls := "MeterDeskModel", name := "has", desc := "(II)Z" } : Jvm.MethodName))) ∈ lw_gt := gt_of 1053 (by decide +kernel) (by decide +kernel)
theorem tw_1054 : ((Jvm.Cond.static ({ cls := "MeterDeskModel", name := "has", desc := "(II)Z" } : Jvm.MethodName))) ∈ lw_gt := gt_of 1054 (by decide +kernel) (by decide +kernel)
theorem tw_1055 : ((Jvm.Cond.code ({ cls := "MeterDeskModel", name := "has", desc := "(II)Z" } : Jvm.MethodName) prog_14_method_3_code (2 : Nat) (Option.some Jvm.ClassFile.FieldType.boolean))) ∈ lw_gt := gt_of 1055 (by decide +kernel) (by decide +kernel)
theorem tw_1056 : ((Jvm.Cond.fieldLink "MeterDeskModel" (7 : Nat) "MeterDeskModel" "row" "[I")) ∈ lw_gt := gt_of 1056 (by decide +kernel) (by decide +kernel)
theorem tw_1057 : ((Jvm.Cond.fieldLink "MeterDeskModel" (82 : Nat) "MeterDeskModel" "nodes" "I")) ∈ lw_gt := gt_of 1057 (by decide +kernel) (by decide +kernel)
theorem tw_1058 : ((Jvm.Cond.fieldLink "MeterDeskModel" (86 : Nat) "MeterDeskModel" "lines" "I")) ∈ lw_gt := gt_of 1058 (by decide +kernel) (by decide +kernel)
theorem tw_1059 : ((Jvm.Cond.fieldLink "MeterDeskModel" (13 : Nat) "MeterDeskModel" "ends" "[I")) ∈ lw_gt := gt_of 1059 (by decide +kernel) (by decide +kernel)
theorem tw_1060 : ((Jvm.Cond.fieldLink "MeterDeskModel" (89 : Nat) "MeterDeskModel" "offers" "I")) ∈ lw_gt := gt_of 1060 (by decide +kernel) (by decide +kernel)
theorem tw_1061 : ((Jvm.Cond.fieldLink "MeterDeskModel" (16 : Nat) "MeterDeskModel" "offered" "[I")) ∈ lw_gt := gt_of 1061 (by decide +kernel) (by decide +kernel)
theorem tw_1062 : ((Jvm.Cond.fieldLink "MeterDeskModel" (176 : Nat) "MeterDeskModel" "undos" "I")) ∈ lw_gt := gt_of 1062 (by decide +kernel) (by decide +kernel)
theorem tw_1063 : ((Jvm.Cond.fieldLink "MeterDeskModel" (19 : Nat) "MeterDeskModel" "isKept" "[Z")) ∈ lw_gt := gt_of 1063 (by decide +kernel) (by decide +kernel)
theorem tw_1064 : ((Jvm.Cond.fieldLink "MeterDeskModel" (23 : Nat) "MeterDeskModel" "text" "[I")) ∈ lw_gt := gt_of 1064 (by decide +kernel) (by decide +kernel)
theorem tw_1065 : ((Jvm.Cond.fieldLink "MeterDeskModel" (98 : Nat) "MeterDeskModel" "length" "I")) ∈ lw_gt := gt_of 1065 (by decide +kernel) (by decide +kernel)
theorem tw_1066 : ((Jvm.Cond.fieldLink "MeterDeskModel" (26 : Nat) "MeterDeskModel" "seenAt" "[I")) ∈ lw_gt := gt_of 1066 (by decide +kernel) (by decide +kernel)
theorem tw_1067 : ((Jvm.Cond.fieldLink "MeterDeskModel" (29 : Nat) "MeterDeskModel" "seenLines" "[I")) ∈ lw_gt := gt_of 1067 (by decide +kernel) (by decide +kernel)
theorem tw_1068 : ((Jvm.Cond.fieldLink "MeterDeskModel" (283 : Nat) "MeterDeskModel" "seenMany" "I")) ∈ lw_gt := gt_of 1068 (by decide +kernel) (by decide +kernel)
theorem tw_1069 : ((Jvm.Cond.fieldLink "MeterDeskModel" (32 : Nat) "MeterDeskModel" "sizes" "[I")) ∈ lw_gt := gt_of 1069 (by decide +kernel) (by decide +kernel)
theorem tw_1070 : ((Jvm.Cond.fieldLink "MeterDeskModel" (35 : Nat) "MeterDeskModel" "kinds" "[I")) ∈ lw_gt := gt_of 1070 (by decide +kernel) (by decide +kernel)
theorem tw_1071 : ((Jvm.Cond.fieldLink "MeterDeskModel" (38 : Nat) "MeterDeskModel" "values" "[I")) ∈ lw_gt := gt_of 1071 (by decide +kernel) (by decide +kernel)
theorem tw_1072 : ((Jvm.Cond.fieldLink "MeterDeskModel" (112 : Nat) "MeterDeskModel" "first" "I")) ∈ lw_gt := gt_of 1072 (by decide +kernel) (by decide +kernel)
theorem tw_1073 : ((Jvm.Cond.fieldLink "MeterDeskModel" (109 : Nat) "MeterDeskModel" "behind" "I")) ∈ lw_gt := gt_of 1073 (by decide +kernel) (by decide +kernel)
theorem tw_1074 : ((Jvm.Cond.fieldLink "MeterDeskModel" (129 : Nat) "MeterDeskModel" "readNodes" "I")) ∈ lw_gt := gt_of 1074 (by decide +kernel) (by decide +kernel)
theorem tw_1075 : ((Jvm.Cond.fieldLink "MeterDeskModel" (135 : Nat) "MeterDeskModel" "readLines" "I")) ∈ lw_gt := gt_of 1075 (by decide +kernel) (by decide +kernel)
theorem tw_1076 : ((Jvm.Cond.fieldLink "MeterDeskModel" (149 : Nat) "MeterDeskModel" "readMeters" "I")) ∈ lw_gt := gt_of 1076 (by decide +kernel) (by decide +kernel)
theorem tw_1077 : ((Jvm.Cond.fieldLink "MeterDeskModel" (146 : Nat) "MeterDeskModel" "readOffers" "I")) ∈ lw_gt := gt_of 1077 (by decide +kernel) (by decide +kernel)
theorem tw_1078 : ((Jvm.Cond.fieldLink "MeterDeskModel" (162 : Nat) "MeterDeskModel" "clauses" "I")) ∈ lw_gt := gt_of 1078 (by decide +kernel) (by decide +kernel)
theorem tw_1079 : ((Jvm.Cond.fieldLink "MeterDeskModel" (155 : Nat) "MeterDeskModel" "doing" "Z")) ∈ lw_gt := gt_of 1079 (by decide +kernel) (by decide +kernel)
theorem tw_1080 : ((Jvm.Cond.fieldLink "MeterDeskModel" (41 : Nat) "MeterDeskModel" "numbers" "[I")) ∈ lw_gt := gt_of 1080 (by decide +kernel) (by decide +kernel)
theorem tw_1081 : ((Jvm.Cond.fieldLink "MeterDeskModel" (44 : Nat) "MeterDeskModel" "words" "[I")) ∈ lw_gt := gt_of 1081 (by decide +kernel) (by decide +kernel)
theorem tw_1082 : ((Jvm.Cond.fieldLink "MeterDeskModel" (47 : Nat) "MeterDeskModel" "forests" "[J")) ∈ lw_gt := gt_of 1082 (by decide +kernel) (by decide +kernel)
theorem tw_1083 : ((Jvm.Cond.fieldLink "MeterDeskModel" (51 : Nat) "MeterDeskModel" "parts" "[I")) ∈ lw_gt := gt_of 1083 (by decide +kernel) (by decide +kernel)
theorem tw_1084 : ((Jvm.Cond.fieldLink "MeterDeskModel" (54 : Nat) "MeterDeskModel" "served" "[J")) ∈ lw_gt := gt_of 1084 (by decide +kernel) (by decide +kernel)
theorem tw_1085 : ((Jvm.Cond.fieldLink "MeterDeskModel" (69 : Nat) "MeterDeskModel" "without" "[J")) ∈ lw_gt := gt_of 1085 (by decide +kernel) (by decide +kernel)
theorem tw_1086 : ((Jvm.Cond.fieldLink "MeterDeskModel" (72 : Nat) "MeterDeskModel" "serves" "[I")) ∈ lw_gt := gt_of 1086 (by decide +kernel) (by decide +kernel)
theorem tw_1087 : ((Jvm.Cond.laysFinal "MeterDeskModel" "MeterDeskModel" "row" "[I")) ∈ lw_gt := gt_of 1087 (by decide +kernel) (by decide +kernel)
theorem tw_1089 : ((Jvm.Cond.lays "MeterDeskModel" "MeterDeskModel" "nodes" "I")) ∈ lw_gt := gt_of 1089 (by decide +kernel) (by decide +kernel)
theorem tw_1091 : ((Jvm.Cond.lays "MeterDeskModel" "MeterDeskModel" "lines" "I")) ∈ lw_gt := gt_of 1091 (by decide +kernel) (by decide +kernel)
theorem tw_1093 : ((Jvm.Cond.laysFinal "MeterDeskModel" "MeterDeskModel" "ends" "[I")) ∈ lw_gt := gt_of 1093 (by decide +kernel) (by decide +kernel)
theorem tw_1095 : ((Jvm.Cond.lays "MeterDeskModel" "MeterDeskModel" "offers" "I")) ∈ lw_gt := gt_of 1095 (by decide +kernel) (by decide +kernel)
theorem tw_1097 : ((Jvm.Cond.laysFinal "MeterDeskModel" "MeterDeskModel" "offered" "[I")) ∈ lw_gt := gt_of 1097 (by decide +kernel) (by decide +kernel)
theorem tw_1099 : ((Jvm.Cond.lays "MeterDeskModel" "MeterDeskModel" "undos" "I")) ∈ lw_gt := gt_of 1099 (by decide +kernel) (by decide +kernel)
theorem tw_1101 : ((Jvm.Cond.laysFinal "MeterDeskModel" "MeterDeskModel" "isKept" "[Z")) ∈ lw_gt := gt_of 1101 (by decide +kernel) (by decide +kernel)
theorem tw_1103 : ((Jvm.Cond.laysFinal "MeterDeskModel" "MeterDeskModel" "text" "[I")) ∈ lw_gt := gt_of 1103 (by decide +kernel) (by decide +kernel)
theorem tw_1105 : ((Jvm.Cond.lays "MeterDeskModel" "MeterDeskModel" "length" "I")) ∈ lw_gt := gt_of 1105 (by decide +kernel) (by decide +kernel)
theorem tw_1107 : ((Jvm.Cond.laysFinal "MeterDeskModel" "MeterDeskModel" "seenAt" "[I")) ∈ lw_gt := gt_of 1107 (by decide +kernel) (by decide +kernel)
theorem tw_1109 : ((Jvm.Cond.laysFinal "MeterDeskModel" "MeterDeskModel" "seenLines" "[I")) ∈ lw_gt := gt_of 1109 (by decide +kernel) (by decide +kernel)
theorem tw_1111 : ((Jvm.Cond.lays "MeterDeskModel" "MeterDeskModel" "seenMany" "I")) ∈ lw_gt := gt_of 1111 (by decide +kernel) (by decide +kernel)
theorem tw_1113 : ((Jvm.Cond.laysFinal "MeterDeskModel" "MeterDeskModel" "sizes" "[I")) ∈ lw_gt := gt_of 1113 (by decide +kernel) (by decide +kernel)
theorem tw_1115 : ((Jvm.Cond.laysFinal "MeterDeskModel" "MeterDeskModel" "kinds" "[I")) ∈ lw_gt := gt_of 1115 (by decide +kernel) (by decide +kernel)
theorem tw_1117 : ((Jvm.Cond.laysFinal "MeterDeskModel" "MeterDeskModel" "values" "[I")) ∈ lw_gt := gt_of 1117 (by decide +kernel) (by decide +kernel)
theorem tw_1119 : ((Jvm.Cond.lays "MeterDeskModel" "MeterDeskModel" "first" "I")) ∈ lw_gt := gt_of 1119 (by decide +kernel) (by decide +kernel)
theorem tw_1121 : ((Jvm.Cond.lays "MeterDeskModel" "MeterDeskModel" "behind" "I")) ∈ lw_gt := gt_of 1121 (by decide +kernel) (by decide +kernel)
theorem tw_1123 : ((Jvm.Cond.lays "MeterDeskModel" "MeterDeskModel" "readNodes" "I")) ∈ lw_gt := gt_of 1123 (by decide +kernel) (by decide +kernel)
theorem tw_1125 : ((Jvm.Cond.lays "MeterDeskModel" "MeterDeskModel" "readLines" "I")) ∈ lw_gt := gt_of 1125 (by decide +kernel) (by decide +kernel)
theorem tw_1127 : ((Jvm.Cond.lays "MeterDeskModel" "MeterDeskModel" "readMeters" "I")) ∈ lw_gt := gt_of 1127 (by decide +kernel) (by decide +kernel)
theorem tw_1129 : ((Jvm.Cond.lays "MeterDeskModel" "MeterDeskModel" "readOffers" "I")) ∈ lw_gt := gt_of 1129 (by decide +kernel) (by decide +kernel)
theorem tw_1131 : ((Jvm.Cond.lays "MeterDeskModel" "MeterDeskModel" "clauses" "I")) ∈ lw_gt := gt_of 1131 (by decide +kernel) (by decide +kernel)
theorem tw_1133 : ((Jvm.Cond.lays "MeterDeskModel" "MeterDeskModel" "doing" "Z")) ∈ lw_gt := gt_of 1133 (by decide +kernel) (by decide +kernel)
theorem tw_1135 : ((Jvm.Cond.laysFinal "MeterDeskModel" "MeterDeskModel" "numbers" "[I")) ∈ lw_gt := gt_of 1135 (by decide +kernel) (by decide +kernel)
theorem tw_1137 : ((Jvm.Cond.laysFinal "MeterDeskModel" "MeterDeskModel" "words" "[I")) ∈ lw_gt := gt_of 1137 (by decide +kernel) (by decide +kernel)
theorem tw_1139 : ((Jvm.Cond.laysFinal "MeterDeskModel" "MeterDeskModel" "forests" "[J")) ∈ lw_gt := gt_of 1139 (by decide +kernel) (by decide +kernel)
theorem tw_1141 : ((Jvm.Cond.laysFinal "MeterDeskModel" "MeterDeskModel" "parts" "[I")) ∈ lw_gt := gt_of 1141 (by decide +kernel) (by decide +kernel)
theorem tw_1143 : ((Jvm.Cond.laysFinal "MeterDeskModel" "MeterDeskModel" "served" "[J")) ∈ lw_gt := gt_of 1143 (by decide +kernel) (by decide +kernel)
theorem tw_1145 : ((Jvm.Cond.laysFinal "MeterDeskModel" "MeterDeskModel" "without" "[J")) ∈ lw_gt := gt_of 1145 (by decide +kernel) (by decide +kernel)
theorem tw_1147 : ((Jvm.Cond.laysFinal "MeterDeskModel" "MeterDeskModel" "serves" "[I")) ∈ lw_gt := gt_of 1147 (by decide +kernel) (by decide +kernel)
theorem tw_1154 : ((Jvm.Cond.constantLong "MeterDeskModel" (92 : Nat) (255 : Int64))) ∈ lw_gt := gt_of 1154 (by decide +kernel) (by decide +kernel)
theorem tw_1155 : ((Jvm.Cond.methodLink "MeterDeskModel" (94 : Nat) ({ cls := "MeterDeskModel", name := "in", desc := "(JJJ)Z" } : Jvm.MethodName))) ∈ lw_gt := gt_of 1155 (by decide +kernel) (by decide +kernel)
theorem tw_1156 : ((Jvm.Cond.static ({ cls := "MeterDeskModel", name := "in", desc := "(JJJ)Z" } : Jvm.MethodName))) ∈ lw_gt := gt_of 1156 (by decide +kernel) (by decide +kernel)
theorem tw_1157 : ((Jvm.Cond.code ({ cls := "MeterDeskModel", name := "in", desc := "(JJJ)Z" } : Jvm.MethodName) prog_14_method_2_code (6 : Nat) (Option.some Jvm.ClassFile.FieldType.boolean))) ∈ lw_gt := gt_of 1157 (by decide +kernel) (by decide +kernel)
theorem tw_1166 : ((Jvm.Cond.methodLink "MeterDeskModel" (169 : Nat) ({ cls := "MeterDeskModel", name := "reads", desc := "(Z)Z" } : Jvm.MethodName))) ∈ lw_gt := gt_of 1166 (by decide +kernel) (by decide +kernel)
theorem tw_1168 : ((Jvm.Cond.instanceMethod ({ cls := "MeterDeskModel", name := "reads", desc := "(Z)Z" } : Jvm.MethodName))) ∈ lw_gt := gt_of 1168 (by decide +kernel) (by decide +kernel)
theorem tw_1169 : ((Jvm.Cond.code ({ cls := "MeterDeskModel", name := "reads", desc := "(Z)Z" } : Jvm.MethodName) prog_14_method_19_code (3 : Nat) (Option.some Jvm.ClassFile.FieldType.boolean))) ∈ lw_gt := gt_of 1169 (by decide +kernel) (by decide +kernel)
theorem tw_1170 : ((Jvm.Cond.methodLink "MeterDeskModel" (122 : Nat) ({ cls := "MeterDeskModel", name := "nextToken", desc := "()V" } : Jvm.MethodName))) ∈ lw_gt := gt_of 1170 (by decide +kernel) (by decide +kernel)
theorem tw_1172 : ((Jvm.Cond.instanceMethod ({ cls := "MeterDeskModel", name := "nextToken", desc := "()V" } : Jvm.MethodName))) ∈ lw_gt := gt_of 1172 (by decide +kernel) (by decide +kernel)
theorem tw_1173 : ((Jvm.Cond.code ({ cls := "MeterDeskModel", name := "nextToken", desc := "()V" } : Jvm.MethodName) prog_14_method_11_code (1 : Nat) (Option.none : Option Jvm.ClassFile.FieldType))) ∈ lw_gt := gt_of 1173 (by decide +kernel) (by decide +kernel)
theorem tw_1174 : ((Jvm.Cond.methodLink "MeterDeskModel" (115 : Nat) ({ cls := "MeterDeskModel", name := "isLetter", desc := "(I)Z" } : Jvm.MethodName))) ∈ lw_gt := gt_of 1174 (by decide +kernel) (by decide +kernel)
theorem tw_1175 : ((Jvm.Cond.static ({ cls := "MeterDeskModel", name := "isLetter", desc := "(I)Z" } : Jvm.MethodName))) ∈ lw_gt := gt_of 1175 (by decide +kernel) (by decide +kernel)
theorem tw_1176 : ((Jvm.Cond.code ({ cls := "MeterDeskModel", name := "isLetter", desc := "(I)Z" } : Jvm.MethodName) prog_14_method_9_code (1 : Nat) (Option.some Jvm.ClassFile.FieldType.boolean))) ∈ lw_gt := gt_of 1176 (by decide +kernel) (by decide +kernel)
theorem tw_1177 : ((Jvm.Cond.constantLong "MeterDeskModel" (101 : Nat) (97 : Int64))) ∈ lw_gt := gt_of 1177 (by decide +kernel) (by decide +kernel)
theorem tw_1178 : ((Jvm.Cond.constantLong "MeterDeskModel" (103 : Nat) (122 : Int64))) ∈ lw_gt := gt_of 1178 (by decide +kernel) (by decide +kernel)
theorem tw_1179 : ((Jvm.Cond.methodLink "MeterDeskModel" (119 : Nat) ({ cls := "MeterDeskModel", name := "isDigit", desc := "(I)Z" } : Jvm.MethodName))) ∈ lw_gt := gt_of 1179 (by decide +kernel) (by decide +kernel)
theorem tw_1180 : ((Jvm.Cond.static ({ cls := "MeterDeskModel", name := "isDigit", desc := "(I)Z" } : Jvm.MethodName))) ∈ lw_gt := gt_of 1180 (by decide +kernel) (by decide +kernel)
theorem tw_1181 : ((Jvm.Cond.code ({ cls := "MeterDeskModel", name := "isDigit", desc := "(I)Z" } : Jvm.MethodName) prog_14_method_10_code (1 : Nat) (Option.some Jvm.ClassFile.FieldType.boolean))) ∈ lw_gt := gt_of 1181 (by decide +kernel) (by decide +kernel)
theorem tw_1182 : ((Jvm.Cond.constantLong "MeterDeskModel" (105 : Nat) (48 : Int64))) ∈ lw_gt := gt_of 1182 (by decide +kernel) (by decide +kernel)
theorem tw_1183 : ((Jvm.Cond.constantLong "MeterDeskModel" (107 : Nat) (57 : Int64))) ∈ lw_gt := gt_of 1183 (by decide +kernel) (by decide +kernel)
theorem tw_1184 : ((Jvm.Cond.methodLink "MeterDeskModel" (165 : Nat) ({ cls := "MeterDeskModel", name := "readsClause", desc := "()Z" } : Jvm.MethodName))) ∈ lw_gt := gt_of 1184 (by decide +kernel) (by decide +kernel)
theorem tw_1186 : ((Jvm.Cond.instanceMethod ({ cls := "MeterDeskModel", name := "readsClause", desc := "()Z" } : Jvm.MethodName))) ∈ lw_gt := gt_of 1186 (by decide +kernel) (by decide +kernel)
theorem tw_1187 : ((Jvm.Cond.code ({ cls := "MeterDeskModel", name := "readsClause", desc := "()Z" } : Jvm.MethodName) prog_14_method_18_code (2 : Nat) (Option.some Jvm.ClassFile.FieldType.boolean))) ∈ lw_gt := gt_of 1187 (by decide +kernel) (by decide +kernel)
theorem tw_1188 : ((Jvm.Cond.methodLink "MeterDeskModel" (142 : Nat) ({ cls := "MeterDeskModel", name := "wordHere", desc := "()I" } : Jvm.MethodName))) ∈ lw_gt := gt_of 1188 (by decide +kernel) (by decide +kernel)
theorem tw_1190 : ((Jvm.Cond.instanceMethod ({ cls := "MeterDeskModel", name := "wordHere", desc := "()I" } : Jvm.MethodName))) ∈ lw_gt := gt_of 1190 (by decide +kernel) (by decide +kernel)
theorem tw_1191 : ((Jvm.Cond.code ({ cls := "MeterDeskModel", name := "wordHere", desc := "()I" } : Jvm.MethodName) prog_14_method_12_code (5 : Nat) (Option.some Jvm.ClassFile.FieldType.int))) ∈ lw_gt := gt_of 1191 (by decide +kernel) (by decide +kernel)
theorem tw_1192 : ((Jvm.Cond.methodLink "MeterDeskModel" (152 : Nat) ({ cls := "MeterDeskModel", name := "readsRest", desc := "(I)Z" } : Jvm.MethodName))) ∈ lw_gt := gt_of 1192 (by decide +kernel) (by decide +kernel)
theorem tw_1194 : ((Jvm.Cond.instanceMethod ({ cls := "MeterDeskModel", name := "readsRest", desc := "(I)Z" } : Jvm.MethodName))) ∈ lw_gt := gt_of 1194 (by decide +kernel) (by decide +kernel)
theorem tw_1195 : ((Jvm.Cond.code ({ cls := "MeterDeskModel", name := "readsRest", desc := "(I)Z" } : Jvm.MethodName) prog_14_method_15_code (2 : Nat) (Option.some Jvm.ClassFile.FieldType.boolean))) ∈ lw_gt := gt_of 1195 (by decide +kernel) (by decide +kernel)
theorem tw_1196 : ((Jvm.Cond.methodLink "MeterDeskModel" (125 : Nat) ({ cls := "MeterDeskModel", name := "number", desc := "(III)Z" } : Jvm.MethodName))) ∈ lw_gt := gt_of 1196 (by decide +kernel) (by decide +kernel)
theorem tw_1198 : ((Jvm.Cond.instanceMethod ({ cls := "MeterDeskModel", name := "number", desc := "(III)Z" } : Jvm.MethodName))) ∈ lw_gt := gt_of 1198 (by decide +kernel) (by decide +kernel)
theorem tw_1199 : ((Jvm.Cond.code ({ cls := "MeterDeskModel", name := "number", desc := "(III)Z" } : Jvm.MethodName) prog_14_method_13_code (6 : Nat) (Option.some Jvm.ClassFile.FieldType.boolean))) ∈ lw_gt := gt_of 1199 (by decide +kernel) (by decide +kernel)
theorem tw_1200 : ((Jvm.Cond.methodLink "MeterDeskModel" (132 : Nat) ({ cls := "MeterDeskModel", name := "isOnLine", desc := "(I)Z" } : Jvm.MethodName))) ∈ lw_gt := gt_of 1200 (by decide +kernel) (by decide +kernel)
theorem tw_1201 : ((Jvm.Cond.static ({ cls := "MeterDeskModel", name := "isOnLine", desc := "(I)Z" } : Jvm.MethodName))) ∈ lw_gt := gt_of 1201 (by decide +kernel) (by decide +kernel)
theorem tw_1202 : ((Jvm.Cond.code ({ cls := "MeterDeskModel", name := "isOnLine", desc := "(I)Z" } : Jvm.MethodName) prog_14_method_14_code (1 : Nat) (Option.some Jvm.ClassFile.FieldType.boolean))) ∈ lw_gt := gt_of 1202 (by decide +kernel) (by decide +kernel)
theorem tw_1203 : ((Jvm.Cond.methodLink "MeterDeskModel" (159 : Nat) ({ cls := "MeterDeskModel", name := "does", desc := "(I)V" } : Jvm.MethodName))) ∈ lw_gt := gt_of 1203 (by decide +kernel) (by decide +kernel)
theorem tw_1205 : ((Jvm.Cond.instanceMethod ({ cls := "MeterDeskModel", name := "does", desc := "(I)V" } : Jvm.MethodName))) ∈ lw_gt := gt_of 1205 (by decide +kernel) (by decide +kernel)
theorem tw_1206 : ((Jvm.Cond.code ({ cls := "MeterDeskModel", name := "does", desc := "(I)V" } : Jvm.MethodName) prog_14_method_17_code (3 : Nat) (Option.none : Option Jvm.ClassFile.FieldType))) ∈ lw_gt := gt_of 1206 (by decide +kernel) (by decide +kernel)
theorem tw_1207 : ((Jvm.Cond.methodLink "MeterDeskModel" (138 : Nat) ({ cls := "MeterDeskModel", name := "addMeter", desc := "(II)V" } : Jvm.MethodName))) ∈ lw_gt := gt_of 1207 (by decide +kernel) (by decide +kernel)
theorem tw_1209 : ((Jvm.Cond.instanceMethod ({ cls := "MeterDeskModel", name := "addMeter", desc := "(II)V" } : Jvm.MethodName))) ∈ lw_gt := gt_of 1209 (by decide +kernel) (by decide +kernel)
theorem tw_1210 : ((Jvm.Cond.code ({ cls := "MeterDeskModel", name := "addMeter", desc := "(II)V" } : Jvm.MethodName) prog_14_method_16_code (4 : Nat) (Option.none : Option Jvm.ClassFile.FieldType))) ∈ lw_gt := gt_of 1210 (by decide +kernel) (by decide +kernel)
theorem tw_1215 : ((Jvm.Cond.methodLink "MeterDeskModel" (173 : Nat) ({ cls := "MeterDeskModel", name := "copyRow", desc := "(II)V" } : Jvm.MethodName))) ∈ lw_gt := gt_of 1215 (by decide +kernel) (by decide +kernel)
theorem tw_1217 : ((Jvm.Cond.instanceMethod ({ cls := "MeterDeskModel", name := "copyRow", desc := "(II)V" } : Jvm.MethodName))) ∈ lw_gt := gt_of 1217 (by decide +kernel) (by decide +kernel)
theorem tw_1218 : ((Jvm.Cond.code ({ cls := "MeterDeskModel", name := "copyRow", desc := "(II)V" } : Jvm.MethodName) prog_14_method_5_code (4 : Nat) (Option.none : Option Jvm.ClassFile.FieldType))) ∈ lw_gt := gt_of 1218 (by decide +kernel) (by decide +kernel)
theorem tw_1223 : ((Jvm.Cond.methodLink "MeterDeskModel" (236 : Nat) ({ cls := "MeterDeskModel", name := "isLine", desc := "(I)Z" } : Jvm.MethodName))) ∈ lw_gt := gt_of 1223 (by decide +kernel) (by decide +kernel)
theorem tw_1225 : ((Jvm.Cond.instanceMethod ({ cls := "MeterDeskModel", name := "isLine", desc := "(I)Z" } : Jvm.MethodName))) ∈ lw_gt := gt_of 1225 (by decide +kernel) (by decide +kernel)
theorem tw_1226 : ((Jvm.Cond.code ({ cls := "MeterDeskModel", name := "isLine", desc := "(I)Z" } : Jvm.MethodName) prog_14_method_39_code (2 : Nat) (Option.some Jvm.ClassFile.FieldType.boolean))) ∈ lw_gt := gt_of 1226 (by decide +kernel) (by decide +kernel)
theorem tw_1227 : ((Jvm.Cond.methodLink "MeterDeskModel" (226 : Nat) ({ cls := "MeterDeskModel", name := "tree", desc := "()I" } : Jvm.MethodName))) ∈ lw_gt := gt_of 1227 (by decide +kernel) (by decide +kernel)
theorem tw_1229 : ((Jvm.Cond.instanceMethod ({ cls := "MeterDeskModel", name := "tree", desc := "()I" } : Jvm.MethodName))) ∈ lw_gt := gt_of 1229 (by decide +kernel) (by decide +kernel)
theorem tw_1230 : ((Jvm.Cond.code ({ cls := "MeterDeskModel", name := "tree", desc := "()I" } : Jvm.MethodName) prog_14_method_36_code (3 : Nat) (Option.some Jvm.ClassFile.FieldType.int))) ∈ lw_gt := gt_of 1230 (by decide +kernel) (by decide +kernel)
theorem tw_1231 : ((Jvm.Cond.methodLink "MeterDeskModel" (223 : Nat) ({ cls := "MeterDeskModel", name := "rank", desc := "()I" } : Jvm.MethodName))) ∈ lw_gt := gt_of 1231 (by decide +kernel) (by decide +kernel)
theorem tw_1233 : ((Jvm.Cond.instanceMethod ({ cls := "MeterDeskModel", name := "rank", desc := "()I" } : Jvm.MethodName))) ∈ lw_gt := gt_of 1233 (by decide +kernel) (by decide +kernel)
theorem tw_1234 : ((Jvm.Cond.code ({ cls := "MeterDeskModel", name := "rank", desc := "()I" } : Jvm.MethodName) prog_14_method_35_code (1 : Nat) (Option.some Jvm.ClassFile.FieldType.int))) ∈ lw_gt := gt_of 1234 (by decide +kernel) (by decide +kernel)
theorem tw_1235 : ((Jvm.Cond.methodLink "MeterDeskModel" (220 : Nat) ({ cls := "MeterDeskModel", name := "layTried", desc := "(I)I" } : Jvm.MethodName))) ∈ lw_gt := gt_of 1235 (by decide +kernel) (by decide +kernel)
theorem tw_1237 : ((Jvm.Cond.instanceMethod ({ cls := "MeterDeskModel", name := "layTried", desc := "(I)I" } : Jvm.MethodName))) ∈ lw_gt := gt_of 1237 (by decide +kernel) (by decide +kernel)
theorem tw_1238 : ((Jvm.Cond.code ({ cls := "MeterDeskModel", name := "layTried", desc := "(I)I" } : Jvm.MethodName) prog_14_method_34_code (4 : Nat) (Option.some Jvm.ClassFile.FieldType.int))) ∈ lw_gt := gt_of 1238 (by decide +kernel) (by decide +kernel)
theorem tw_1239 : ((Jvm.Cond.methodLink "MeterDeskModel" (207 : Nat) ({ cls := "MeterDeskModel", name := "layNone", desc := "(I)V" } : Jvm.MethodName))) ∈ lw_gt := gt_of 1239 (by decide +kernel) (by decide +kernel)
theorem tw_1241 : ((Jvm.Cond.instanceMethod ({ cls := "MeterDeskModel", name := "layNone", desc := "(I)V" } : Jvm.MethodName))) ∈ lw_gt := gt_of 1241 (by decide +kernel) (by decide +kernel)
theorem tw_1242 : ((Jvm.Cond.code ({ cls := "MeterDeskModel", name := "layNone", desc := "(I)V" } : Jvm.MethodName) prog_14_method_31_code (3 : Nat) (Option.none : Option Jvm.ClassFile.FieldType))) ∈ lw_gt := gt_of 1242 (by decide +kernel) (by decide +kernel)
theorem tw_1243 : ((Jvm.Cond.methodLink "MeterDeskModel" (210 : Nat) ({ cls := "MeterDeskModel", name := "mayOf", desc := "(II)I" } : Jvm.MethodName))) ∈ lw_gt := gt_of 1243 (by decide +kernel) (by decide +kernel)
theorem tw_1245 : ((Jvm.Cond.instanceMethod ({ cls := "MeterDeskModel", name := "mayOf", desc := "(II)I" } : Jvm.MethodName))) ∈ lw_gt := gt_of 1245 (by decide +kernel) (by decide +kernel)
theorem tw_1246 : ((Jvm.Cond.code ({ cls := "MeterDeskModel", name := "mayOf", desc := "(II)I" } : Jvm.MethodName) prog_14_method_29_code (3 : Nat) (Option.some Jvm.ClassFile.FieldType.int))) ∈ lw_gt := gt_of 1246 (by decide +kernel) (by decide +kernel)
theorem tw_1247 : ((Jvm.Cond.methodLink "MeterDeskModel" (203 : Nat) ({ cls := "MeterDeskModel", name := "mayServe", desc := "(III)I" } : Jvm.MethodName))) ∈ lw_gt := gt_of 1247 (by decide +kernel) (by decide +kernel)
theorem tw_1249 : ((Jvm.Cond.instanceMethod ({ cls := "MeterDeskModel", name := "mayServe", desc := "(III)I" } : Jvm.MethodName))) ∈ lw_gt := gt_of 1249 (by decide +kernel) (by decide +kernel)
theorem tw_1250 : ((Jvm.Cond.code ({ cls := "MeterDeskModel", name := "mayServe", desc := "(III)I" } : Jvm.MethodName) prog_14_method_28_code (5 : Nat) (Option.some Jvm.ClassFile.FieldType.int))) ∈ lw_gt := gt_of 1250 (by decide +kernel) (by decide +kernel)
theorem tw_1251 : ((Jvm.Cond.methodLink "MeterDeskModel" (197 : Nat) ({ cls := "MeterDeskModel", name := "between", desc := "(II)I" } : Jvm.MethodName))) ∈ lw_gt := gt_of 1251 (by decide +kernel) (by decide +kernel)
theorem tw_1253 : ((Jvm.Cond.instanceMethod ({ cls := "MeterDeskModel", name := "between", desc := "(II)I" } : Jvm.MethodName))) ∈ lw_gt := gt_of 1253 (by decide +kernel) (by decide +kernel)
theorem tw_1254 : ((Jvm.Cond.code ({ cls := "MeterDeskModel", name := "between", desc := "(II)I" } : Jvm.MethodName) prog_14_method_26_code (5 : Nat) (Option.some Jvm.ClassFile.FieldType.int))) ∈ lw_gt := gt_of 1254 (by decide +kernel) (by decide +kernel)
theorem tw_1255 : ((Jvm.Cond.methodLink "MeterDeskModel" (193 : Nat) ({ cls := "MeterDeskModel", name := "linesAt", desc := "(II)I" } : Jvm.MethodName))) ∈ lw_gt := gt_of 1255 (by decide +kernel) (by decide +kernel)
theorem tw_1257 : ((Jvm.Cond.instanceMethod ({ cls := "MeterDeskModel", name := "linesAt", desc := "(II)I" } : Jvm.MethodName))) ∈ lw_gt := gt_of 1257 (by decide +kernel) (by decide +kernel)
theorem tw_1258 : ((Jvm.Cond.code ({ cls := "MeterDeskModel", name := "linesAt", desc := "(II)I" } : Jvm.MethodName) prog_14_method_25_code (5 : Nat) (Option.some Jvm.ClassFile.FieldType.int))) ∈ lw_gt := gt_of 1258 (by decide +kernel) (by decide +kernel)
theorem tw_1259 : ((Jvm.Cond.methodLink "MeterDeskModel" (190 : Nat) ({ cls := "MeterDeskModel", name := "isEnd", desc := "(II)Z" } : Jvm.MethodName))) ∈ lw_gt := gt_of 1259 (by decide +kernel) (by decide +kernel)
theorem tw_1261 : ((Jvm.Cond.instanceMethod ({ cls := "MeterDeskModel", name := "isEnd", desc := "(II)Z" } : Jvm.MethodName))) ∈ lw_gt := gt_of 1261 (by decide +kernel) (by decide +kernel)
theorem tw_1262 : ((Jvm.Cond.code ({ cls := "MeterDeskModel", name := "isEnd", desc := "(II)Z" } : Jvm.MethodName) prog_14_method_24_code (3 : Nat) (Option.some Jvm.ClassFile.FieldType.boolean))) ∈ lw_gt := gt_of 1262 (by decide +kernel) (by decide +kernel)
theorem tw_1263 : ((Jvm.Cond.methodLink "MeterDeskModel" (200 : Nat) ({ cls := "MeterDeskModel", name := "wide", desc := "(II)I" } : Jvm.MethodName))) ∈ lw_gt := gt_of 1263 (by decide +kernel) (by decide +kernel)
theorem tw_1265 : ((Jvm.Cond.instanceMethod ({ cls := "MeterDeskModel", name := "wide", desc := "(II)I" } : Jvm.MethodName))) ∈ lw_gt := gt_of 1265 (by decide +kernel) (by decide +kernel)
theorem tw_1266 : ((Jvm.Cond.code ({ cls := "MeterDeskModel", name := "wide", desc := "(II)I" } : Jvm.MethodName) prog_14_method_27_code (6 : Nat) (Option.some Jvm.ClassFile.FieldType.int))) ∈ lw_gt := gt_of 1266 (by decide +kernel) (by decide +kernel)
theorem tw_1267 : ((Jvm.Cond.methodLink "MeterDeskModel" (213 : Nat) ({ cls := "MeterDeskModel", name := "layMore", desc := "(III)V" } : Jvm.MethodName))) ∈ lw_gt := gt_of 1267 (by decide +kernel) (by decide +kernel)
theorem tw_1269 : ((Jvm.Cond.instanceMethod ({ cls := "MeterDeskModel", name := "layMore", desc := "(III)V" } : Jvm.MethodName))) ∈ lw_gt := gt_of 1269 (by decide +kernel) (by decide +kernel)
theorem tw_1270 : ((Jvm.Cond.code ({ cls := "MeterDeskModel", name := "layMore", desc := "(III)V" } : Jvm.MethodName) prog_14_method_30_code (6 : Nat) (Option.none : Option Jvm.ClassFile.FieldType))) ∈ lw_gt := gt_of 1270 (by decide +kernel) (by decide +kernel)
theorem tw_1271 : ((Jvm.Cond.methodLink "MeterDeskModel" (217 : Nat) ({ cls := "MeterDeskModel", name := "rankAt", desc := "(I)I" } : Jvm.MethodName))) ∈ lw_gt := gt_of 1271 (by decide +kernel) (by decide +kernel)
theorem tw_1273 : ((Jvm.Cond.instanceMethod ({ cls := "MeterDeskModel", name := "rankAt", desc := "(I)I" } : Jvm.MethodName))) ∈ lw_gt := gt_of 1273 (by decide +kernel) (by decide +kernel)
theorem tw_1274 : ((Jvm.Cond.code ({ cls := "MeterDeskModel", name := "rankAt", desc := "(I)I" } : Jvm.MethodName) prog_14_method_33_code (4 : Nat) (Option.some Jvm.ClassFile.FieldType.int))) ∈ lw_gt := gt_of 1274 (by decide +kernel) (by decide +kernel)
theorem tw_1275 : ((Jvm.Cond.methodLink "MeterDeskModel" (242 : Nat) ({ cls := "MeterDeskModel", name := "layServes", desc := "()V" } : Jvm.MethodName))) ∈ lw_gt := gt_of 1275 (by decide +kernel) (by decide +kernel)
theorem tw_1277 : ((Jvm.Cond.instanceMethod ({ cls := "MeterDeskModel", name := "layServes", desc := "()V" } : Jvm.MethodName))) ∈ lw_gt := gt_of 1277 (by decide +kernel) (by decide +kernel)
theorem tw_1278 : ((Jvm.Cond.code ({ cls := "MeterDeskModel", name := "layServes", desc := "()V" } : Jvm.MethodName) prog_14_method_37_code (5 : Nat) (Option.none : Option Jvm.ClassFile.FieldType))) ∈ lw_gt := gt_of 1278 (by decide +kernel) (by decide +kernel)
theorem tw_1279 : ((Jvm.Cond.methodLink "MeterDeskModel" (229 : Nat) ({ cls := "MeterDeskModel", name := "layAll", desc := "()V" } : Jvm.MethodName))) ∈ lw_gt := gt_of 1279 (by decide +kernel) (by decide +kernel)
theorem tw_1281 : ((Jvm.Cond.instanceMethod ({ cls := "MeterDeskModel", name := "layAll", desc := "()V" } : Jvm.MethodName))) ∈ lw_gt := gt_of 1281 (by decide +kernel) (by decide +kernel)
theorem tw_1282 : ((Jvm.Cond.code ({ cls := "MeterDeskModel", name := "layAll", desc := "()V" } : Jvm.MethodName) prog_14_method_32_code (4 : Nat) (Option.none : Option Jvm.ClassFile.FieldType))) ∈ lw_gt := gt_of 1282 (by decide +kernel) (by decide +kernel)
theorem tw_1283 : ((Jvm.Cond.methodLink "MeterDeskModel" (232 : Nat) ({ cls := "MeterDeskModel", name := "canDo", desc := "(IIII)Z" } : Jvm.MethodName))) ∈ lw_gt := gt_of 1283 (by decide +kernel) (by decide +kernel)
theorem tw_1285 : ((Jvm.Cond.instanceMethod ({ cls := "MeterDeskModel", name := "canDo", desc := "(IIII)Z" } : Jvm.MethodName))) ∈ lw_gt := gt_of 1285 (by decide +kernel) (by decide +kernel)
theorem tw_1286 : ((Jvm.Cond.code ({ cls := "MeterDeskModel", name := "canDo", desc := "(IIII)Z" } : Jvm.MethodName) prog_14_method_38_code (6 : Nat) (Option.some Jvm.ClassFile.FieldType.boolean))) ∈ lw_gt := gt_of 1286 (by decide +kernel) (by decide +kernel)
theorem tw_1291 : ((Jvm.Cond.methodLink "MeterDeskModel" (245 : Nat) ({ cls := "MeterDeskModel", name := "isMeter", desc := "(I)Z" } : Jvm.MethodName))) ∈ lw_gt := gt_of 1291 (by decide +kernel) (by decide +kernel)
theorem tw_1293 : ((Jvm.Cond.instanceMethod ({ cls := "MeterDeskModel", name := "isMeter", desc := "(I)Z" } : Jvm.MethodName))) ∈ lw_gt := gt_of 1293 (by decide +kernel) (by decide +kernel)
theorem tw_1294 : ((Jvm.Cond.code ({ cls := "MeterDeskModel", name := "isMeter", desc := "(I)Z" } : Jvm.MethodName) prog_14_method_41_code (2 : Nat) (Option.some Jvm.ClassFile.FieldType.boolean))) ∈ lw_gt := gt_of 1294 (by decide +kernel) (by decide +kernel)
theorem tw_1295 : ((Jvm.Cond.methodLink "MeterDeskModel" (248 : Nat) ({ cls := "MeterDeskModel", name := "lineOf", desc := "(I)I" } : Jvm.MethodName))) ∈ lw_gt := gt_of 1295 (by decide +kernel) (by decide +kernel)
theorem tw_1297 : ((Jvm.Cond.instanceMethod ({ cls := "MeterDeskModel", name := "lineOf", desc := "(I)I" } : Jvm.MethodName))) ∈ lw_gt := gt_of 1297 (by decide +kernel) (by decide +kernel)
theorem tw_1298 : ((Jvm.Cond.code ({ cls := "MeterDeskModel", name := "lineOf", desc := "(I)I" } : Jvm.MethodName) prog_14_method_44_code (4 : Nat) (Option.some Jvm.ClassFile.FieldType.int))) ∈ lw_gt := gt_of 1298 (by decide +kernel) (by decide +kernel)
theorem tw_1299 : ((Jvm.Cond.methodLink "MeterDeskModel" (251 : Nat) ({ cls := "MeterDeskModel", name := "isCritical", desc := "(I)I" } : Jvm.MethodName))) ∈ lw_gt := gt_of 1299 (by decide +kernel) (by decide +kernel)
theorem tw_1301 : ((Jvm.Cond.instanceMethod ({ cls := "MeterDeskModel", name := "isCritical", desc := "(I)I" } : Jvm.MethodName))) ∈ lw_gt := gt_of 1301 (by decide +kernel) (by decide +kernel)
theorem tw_1302 : ((Jvm.Cond.code ({ cls := "MeterDeskModel", name := "isCritical", desc := "(I)I" } : Jvm.MethodName) prog_14_method_45_code (3 : Nat) (Option.some Jvm.ClassFile.FieldType.int))) ∈ lw_gt := gt_of 1302 (by decide +kernel) (by decide +kernel)
theorem tw_1307 : ((Jvm.Cond.constantLong "MeterDeskModel" (254 : Nat) (2 : Int64))) ∈ lw_gt := gt_of 1307 (by decide +kernel) (by decide +kernel)
theorem tw_1308 : ((Jvm.Cond.methodLink "MeterDeskModel" (256 : Nat) ({ cls := "MeterDeskModel", name := "bringsOf", desc := "(II)I" } : Jvm.MethodName))) ∈ lw_gt := gt_of 1308 (by decide +kernel) (by decide +kernel)
theorem tw_1310 : ((Jvm.Cond.instanceMethod ({ cls := "MeterDeskModel", name := "bringsOf", desc := "(II)I" } : Jvm.MethodName))) ∈ lw_gt := gt_of 1310 (by decide +kernel) (by decide +kernel)
theorem tw_1311 : ((Jvm.Cond.code ({ cls := "MeterDeskModel", name := "bringsOf", desc := "(II)I" } : Jvm.MethodName) prog_14_method_47_code (4 : Nat) (Option.some Jvm.ClassFile.FieldType.int))) ∈ lw_gt := gt_of 1311 (by decide +kernel) (by decide +kernel)
theorem tw_1316 : ((Jvm.Cond.constantLong "MeterDeskModel" (259 : Nat) (4 : Int64))) ∈ lw_gt := gt_of 1316 (by decide +kernel) (by decide +kernel)
theorem tw_1317 : ((Jvm.Cond.methodLink "MeterDeskModel" (261 : Nat) ({ cls := "MeterDeskModel", name := "isThere", desc := "(II)Z" } : Jvm.MethodName))) ∈ lw_gt := gt_of 1317 (by decide +kernel) (by decide +kernel)
theorem tw_1319 : ((Jvm.Cond.instanceMethod ({ cls := "MeterDeskModel", name := "isThere", desc := "(II)Z" } : Jvm.MethodName))) ∈ lw_gt := gt_of 1319 (by decide +kernel) (by decide +kernel)
theorem tw_1320 : ((Jvm.Cond.code ({ cls := "MeterDeskModel", name := "isThere", desc := "(II)Z" } : Jvm.MethodName) prog_14_method_42_code (3 : Nat) (Option.some Jvm.ClassFile.FieldType.boolean))) ∈ lw_gt := gt_of 1320 (by decide +kernel) (by decide +kernel)
theorem tw_1321 : ((Jvm.Cond.methodLink "MeterDeskModel" (239 : Nat) ({ cls := "MeterDeskModel", name := "isNode", desc := "(I)Z" } : Jvm.MethodName))) ∈ lw_gt := gt_of 1321 (by decide +kernel) (by decide +kernel)
theorem tw_1323 : ((Jvm.Cond.instanceMethod ({ cls := "MeterDeskModel", name := "isNode", desc := "(I)Z" } : Jvm.MethodName))) ∈ lw_gt := gt_of 1323 (by decide +kernel) (by decide +kernel)
theorem tw_1324 : ((Jvm.Cond.code ({ cls := "MeterDeskModel", name := "isNode", desc := "(I)Z" } : Jvm.MethodName) prog_14_method_40_code (2 : Nat) (Option.some Jvm.ClassFile.FieldType.boolean))) ∈ lw_gt := gt_of 1324 (by decide +kernel) (by decide +kernel)
theorem tw_1325 : ((Jvm.Cond.methodLink "MeterDeskModel" (264 : Nat) ({ cls := "MeterDeskModel", name := "keepPast", desc := "()V" } : Jvm.MethodName))) ∈ lw_gt := gt_of 1325 (by decide +kernel) (by decide +kernel)
theorem tw_1327 : ((Jvm.Cond.instanceMethod ({ cls := "MeterDeskModel", name := "keepPast", desc := "()V" } : Jvm.MethodName))) ∈ lw_gt := gt_of 1327 (by decide +kernel) (by decide +kernel)
theorem tw_1328 : ((Jvm.Cond.code ({ cls := "MeterDeskModel", name := "keepPast", desc := "()V" } : Jvm.MethodName) prog_14_method_49_code (2 : Nat) (Option.none : Option Jvm.ClassFile.FieldType))) ∈ lw_gt := gt_of 1328 (by decide +kernel) (by decide +kernel)
theorem tw_1333 : ((Jvm.Cond.methodLink "MeterDeskModel" (267 : Nat) ({ cls := "MeterDeskModel", name := "turn", desc := "(II)I" } : Jvm.MethodName))) ∈ lw_gt := gt_of 1333 (by decide +kernel) (by decide +kernel)
theorem tw_1335 : ((Jvm.Cond.instanceMethod ({ cls := "MeterDeskModel", name := "turn", desc := "(II)I" } : Jvm.MethodName))) ∈ lw_gt := gt_of 1335 (by decide +kernel) (by decide +kernel)
theorem tw_1336 : ((Jvm.Cond.code ({ cls := "MeterDeskModel", name := "turn", desc := "(II)I" } : Jvm.MethodName) prog_14_method_51_code (3 : Nat) (Option.some Jvm.ClassFile.FieldType.int))) ∈ lw_gt := gt_of 1336 (by decide +kernel) (by decide +kernel)
theorem tw_1369 : ((Jvm.Cond.methodLink "MeterDeskModel" (270 : Nat) ({ cls := "MeterDeskModel", name := "wholeRank", desc := "()I" } : Jvm.MethodName))) ∈ lw_gt := gt_of 1369 (by decide +kernel) (by decide +kernel)
theorem tw_1371 : ((Jvm.Cond.instanceMethod ({ cls := "MeterDeskModel", name := "wholeRank", desc := "()I" } : Jvm.MethodName))) ∈ lw_gt := gt_of 1371 (by decide +kernel) (by decide +kernel)
theorem tw_1372 : ((Jvm.Cond.code ({ cls := "MeterDeskModel", name := "wholeRank", desc := "()I" } : Jvm.MethodName) prog_14_method_60_code (1 : Nat) (Option.some Jvm.ClassFile.FieldType.int))) ∈ lw_gt := gt_of 1372 (by decide +kernel) (by decide +kernel)
theorem tw_1373 : ((Jvm.Cond.methodLink "MeterDeskModel" (273 : Nat) ({ cls := "MeterDeskModel", name := "costOf", desc := "(I)I" } : Jvm.MethodName))) ∈ lw_gt := gt_of 1373 (by decide +kernel) (by decide +kernel)
theorem tw_1375 : ((Jvm.Cond.instanceMethod ({ cls := "MeterDeskModel", name := "costOf", desc := "(I)I" } : Jvm.MethodName))) ∈ lw_gt := gt_of 1375 (by decide +kernel) (by decide +kernel)
theorem tw_1376 : ((Jvm.Cond.code ({ cls := "MeterDeskModel", name := "costOf", desc := "(I)I" } : Jvm.MethodName) prog_14_method_61_code (4 : Nat) (Option.some Jvm.ClassFile.FieldType.int))) ∈ lw_gt := gt_of 1376 (by decide +kernel) (by decide +kernel)
theorem tw_1377 : ((Jvm.Cond.methodLink "MeterDeskModel" (276 : Nat) ({ cls := "MeterDeskModel", name := "isWhole", desc := "(II)Z" } : Jvm.MethodName))) ∈ lw_gt := gt_of 1377 (by decide +kernel) (by decide +kernel)
theorem tw_1379 : ((Jvm.Cond.instanceMethod ({ cls := "MeterDeskModel", name := "isWhole", desc := "(II)Z" } : Jvm.MethodName))) ∈ lw_gt := gt_of 1379 (by decide +kernel) (by decide +kernel)
theorem tw_1380 : ((Jvm.Cond.code ({ cls := "MeterDeskModel", name := "isWhole", desc := "(II)Z" } : Jvm.MethodName) prog_14_method_62_code (5 : Nat) (Option.some Jvm.ClassFile.FieldType.boolean))) ∈ lw_gt := gt_of 1380 (by decide +kernel) (by decide +kernel)
theorem tw_1393 : ((Jvm.Cond.constantLong "MeterDeskModel" (279 : Nat) (9 : Int64))) ∈ lw_gt := gt_of 1393 (by decide +kernel) (by decide +kernel)
theorem tw_1394 : ((Jvm.Cond.constantLong "MeterDeskModel" (281 : Nat) (1023 : Int64))) ∈ lw_gt := gt_of 1394 (by decide +kernel) (by decide +kernel)
theorem tw_1400 : ((Jvm.Cond.instanceMethod ({ cls := "MeterDeskModel", name := "fit", desc := "()I" } : Jvm.MethodName))) ∈ lw_gt := gt_of 1400 (by decide +kernel) (by decide +kernel)
theorem tw_1401 : ((Jvm.Cond.selects "MeterDeskModel" ({ cls := "MeterDeskModel", name := "fit", desc := "()I" } : Jvm.MethodName) ({ cls := "MeterDeskModel", name := "fit", desc := "()I" } : Jvm.MethodName))) ∈ lw_gt := gt_of 1401 (by decide +kernel) (by decide +kernel)
theorem tw_1402 : ((Jvm.Cond.code ({ cls := "MeterDeskModel", name := "fit", desc := "()I" } : Jvm.MethodName) prog_14_method_68_code (5 : Nat) (Option.some Jvm.ClassFile.FieldType.int))) ∈ lw_gt := gt_of 1402 (by decide +kernel) (by decide +kernel)
theorem tw_1407 : ((Jvm.Cond.methodLink "MeterDeskModel" (286 : Nat) ({ cls := "MeterDeskModel", name := "fit", desc := "()I" } : Jvm.MethodName))) ∈ lw_gt := gt_of 1407 (by decide +kernel) (by decide +kernel)
theorem tw_1408 : ((Jvm.Cond.methodLink "MeterDeskModel" (289 : Nat) ({ cls := "MeterDeskModel", name := "wouldServe", desc := "(II)I" } : Jvm.MethodName))) ∈ lw_gt := gt_of 1408 (by decide +kernel) (by decide +kernel)
theorem tw_1410 : ((Jvm.Cond.instanceMethod ({ cls := "MeterDeskModel", name := "wouldServe", desc := "(II)I" } : Jvm.MethodName))) ∈ lw_gt := gt_of 1410 (by decide +kernel) (by decide +kernel)
theorem tw_1411 : ((Jvm.Cond.code ({ cls := "MeterDeskModel", name := "wouldServe", desc := "(II)I" } : Jvm.MethodName) prog_14_method_69_code (3 : Nat) (Option.some Jvm.ClassFile.FieldType.int))) ∈ lw_gt := gt_of 1411 (by decide +kernel) (by decide +kernel)
theorem tw_1416 : ((Jvm.Cond.methodLink "MeterDeskModel" (292 : Nat) ({ cls := "MeterDeskModel", name := "isTray", desc := "(I)Z" } : Jvm.MethodName))) ∈ lw_gt := gt_of 1416 (by decide +kernel) (by decide +kernel)
theorem tw_1417 : ((Jvm.Cond.static ({ cls := "MeterDeskModel", name := "isTray", desc := "(I)Z" } : Jvm.MethodName))) ∈ lw_gt := gt_of 1417 (by decide +kernel) (by decide +kernel)
theorem tw_1418 : ((Jvm.Cond.code ({ cls := "MeterDeskModel", name := "isTray", desc := "(I)Z" } : Jvm.MethodName) prog_14_method_71_code (1 : Nat) (Option.some Jvm.ClassFile.FieldType.boolean))) ∈ lw_gt := gt_of 1418 (by decide +kernel) (by decide +kernel)
theorem tw_1423 : ((Jvm.Cond.constantLong "MeterDeskModel" (295 : Nat) (99 : Int64))) ∈ lw_gt := gt_of 1423 (by decide +kernel) (by decide +kernel)
theorem tw_1424 : ((Jvm.Cond.constantLong "MeterDeskModel" (297 : Nat) (-9999 : Int64))) ∈ lw_gt := gt_of 1424 (by decide +kernel) (by decide +kernel)
theorem tw_1425 : ((Jvm.Cond.constantLong "MeterDeskModel" (299 : Nat) (9999 : Int64))) ∈ lw_gt := gt_of 1425 (by decide +kernel) (by decide +kernel)
theorem tw_1430 : ((Jvm.Cond.constant "MeterDeskModel" (301 : Nat) (50000 : Int32))) ∈ lw_gt := gt_of 1430 (by decide +kernel) (by decide +kernel)
theorem tw_1435 : ((Jvm.Cond.constant "MeterDeskModel" (302 : Nat) (500000 : Int32))) ∈ lw_gt := gt_of 1435 (by decide +kernel) (by decide +kernel)
theorem tw_1444 : ((Jvm.Cond.methodLink "MeterDeskModel" (303 : Nat) ({ cls := "MeterDeskModel", name := "spare", desc := "()I" } : Jvm.MethodName))) ∈ lw_gt := gt_of 1444 (by decide +kernel) (by decide +kernel)
theorem tw_1446 : ((Jvm.Cond.instanceMethod ({ cls := "MeterDeskModel", name := "spare", desc := "()I" } : Jvm.MethodName))) ∈ lw_gt := gt_of 1446 (by decide +kernel) (by decide +kernel)
theorem tw_1447 : ((Jvm.Cond.code ({ cls := "MeterDeskModel", name := "spare", desc := "()I" } : Jvm.MethodName) prog_14_method_77_code (3 : Nat) (Option.some Jvm.ClassFile.FieldType.int))) ∈ lw_gt := gt_of 1447 (by decide +kernel) (by decide +kernel)
theorem tw_1448 : ((Jvm.Cond.methodLink "MeterDeskModel" (306 : Nat) ({ cls := "MeterDeskModel", name := "allThings", desc := "()I" } : Jvm.MethodName))) ∈ lw_gt := gt_of 1448 (by decide +kernel) (by decide +kernel)
theorem tw_1450 : ((Jvm.Cond.instanceMethod ({ cls := "MeterDeskModel", name := "allThings", desc := "()I" } : Jvm.MethodName))) ∈ lw_gt := gt_of 1450 (by decide +kernel) (by decide +kernel)
theorem tw_1451 : ((Jvm.Cond.code ({ cls := "MeterDeskModel", name := "allThings", desc := "()I" } : Jvm.MethodName) prog_14_method_78_code (3 : Nat) (Option.some Jvm.ClassFile.FieldType.int))) ∈ lw_gt := gt_of 1451 (by decide +kernel) (by decide +kernel)
theorem lay_X0 : ∀ w ∈ u_ws RX0 TX0 2, w ∈ lw_gt := (List.forall_mem_cons.mpr ⟨tw_266, (List.forall_mem_cons.mpr ⟨tw_268, (fun _ h => absurd h List.not_mem_nil)⟩)⟩)
theorem lay_X1 : ∀ w ∈ u_ws RX1 TX1 3, w ∈ lw_gt := (List.forall_mem_cons.mpr ⟨tw_244, (List.forall_mem_cons.mpr ⟨tw_246, (List.forall_mem_cons.mpr ⟨tw_248, (fun _ h => absurd h List.not_mem_nil)⟩)⟩)⟩)
theorem lay_X2 : ∀ w ∈ u_ws RX2 TX2 1, w ∈ lw_gt := (List.forall_mem_cons.mpr ⟨tw_297, (fun _ h => absurd h List.not_mem_nil)⟩)
theorem lay_X3 : ∀ w ∈ u_ws RX3 TX3 11, w ∈ lw_gt := (List.forall_mem_cons.mpr ⟨tw_140, (List.forall_mem_cons.mpr ⟨tw_142, (List.forall_mem_cons.mpr ⟨tw_144, (List.forall_mem_cons.mpr ⟨tw_146, (List.forall_mem_cons.mpr ⟨tw_148, (List.forall_mem_cons.mpr ⟨tw_150, (List.forall_mem_cons.mpr ⟨tw_152, (List.forall_mem_cons.mpr ⟨tw_154, (List.forall_mem_cons.mpr ⟨tw_156, (List.forall_mem_cons.mpr ⟨tw_158, (List.forall_mem_cons.mpr ⟨tw_160, (fun _ h => absurd h List.not_mem_nil)⟩)⟩)⟩)⟩)⟩)⟩)⟩)⟩)⟩)⟩)⟩)
theorem lay_X4 : ∀ w ∈ u_ws RX4 TX4 7, w ∈ lw_gt := (List.forall_mem_cons.mpr ⟨tw_182, (List.forall_mem_cons.mpr ⟨tw_184, (List.forall_mem_cons.mpr ⟨tw_186, (List.forall_mem_cons.mpr ⟨tw_188, (List.forall_mem_cons.mpr ⟨tw_190, (List.forall_mem_cons.mpr ⟨tw_192, (List.forall_mem_cons.mpr ⟨tw_194, (fun _ h => absurd h List.not_mem_nil)⟩)⟩)⟩)⟩)⟩)⟩)⟩)
theorem lay_X5 : ∀ w ∈ u_ws RX5 TX5 4, w ∈ lw_gt := (List.forall_mem_cons.mpr ⟨tw_313, (List.forall_mem_cons.mpr ⟨tw_315, (List.forall_mem_cons.mpr ⟨tw_317, (List.forall_mem_cons.mpr ⟨tw_319, (fun _ h => absurd h List.not_mem_nil)⟩)⟩)⟩)⟩)
theorem lay_X6 : ∀ w ∈ u_ws RX6 TX6 19, w ∈ lw_gt := (List.forall_mem_cons.mpr ⟨tw_345, (List.forall_mem_cons.mpr ⟨tw_347, (List.forall_mem_cons.mpr ⟨tw_349, (List.forall_mem_cons.mpr ⟨tw_351, (List.forall_mem_cons.mpr ⟨tw_353, (List.forall_mem_cons.mpr ⟨tw_355, (List.forall_mem_cons.mpr ⟨tw_357, (List.forall_mem_cons.mpr ⟨tw_359, (List.forall_mem_cons.mpr ⟨tw_361, (List.forall_mem_cons.mpr ⟨tw_363, (List.forall_mem_cons.mpr ⟨tw_365, (List.forall_mem_cons.mpr ⟨tw_367, (List.forall_mem_cons.mpr ⟨tw_369, (List.forall_mem_cons.mpr ⟨tw_371, (List.forall_mem_cons.mpr ⟨tw_373, (List.forall_mem_cons.mpr ⟨tw_375, (List.forall_mem_cons.mpr ⟨tw_377, (List.forall_mem_cons.mpr ⟨tw_379, (List.forall_mem_cons.mpr ⟨tw_381, (fun _ h => absurd h List.not_mem_nil)⟩)⟩)⟩)⟩)⟩)⟩)⟩)⟩)⟩)⟩)⟩)⟩)⟩)⟩)⟩)⟩)⟩)⟩)⟩)
theorem lay_X7 : ∀ w ∈ u_ws RX7 TX7 3, w ∈ lw_gt := (List.forall_mem_cons.mpr ⟨tw_394, (List.forall_mem_cons.mpr ⟨tw_396, (List.forall_mem_cons.mpr ⟨tw_398, (fun _ h => absurd h List.not_mem_nil)⟩)⟩)⟩)
theorem lay_X8 : ∀ w ∈ u_ws RX8 TX8 5, w ∈ lw_gt := (List.forall_mem_cons.mpr ⟨tw_222, (List.forall_mem_cons.mpr ⟨tw_224, (List.forall_mem_cons.mpr ⟨tw_226, (List.forall_mem_cons.mpr ⟨tw_228, (List.forall_mem_cons.mpr ⟨tw_230, (fun _ h => absurd h List.not_mem_nil)⟩)⟩)⟩)⟩)⟩)
theorem lay_X9 : ∀ w ∈ u_ws RX9 TX9 4, w ∈ lw_gt := (List.forall_mem_cons.mpr ⟨tw_412, (List.forall_mem_cons.mpr ⟨tw_414, (List.forall_mem_cons.mpr ⟨tw_416, (List.forall_mem_cons.mpr ⟨tw_418, (fun _ h => absurd h List.not_mem_nil)⟩)⟩)⟩)⟩)
theorem lay_X10 : ∀ w ∈ u_ws RX10 TX10 2, w ∈ lw_gt := (List.forall_mem_cons.mpr ⟨tw_284, (List.forall_mem_cons.mpr ⟨tw_286, (fun _ h => absurd h List.not_mem_nil)⟩)⟩)
theorem lay_X11 : ∀ w ∈ u_ws RX11 TX11 9, w ∈ lw_gt := (List.forall_mem_cons.mpr ⟨tw_549, (List.forall_mem_cons.mpr ⟨tw_551, (List.forall_mem_cons.mpr ⟨tw_553, (List.forall_mem_cons.mpr ⟨tw_555, (List.forall_mem_cons.mpr ⟨tw_557, (List.forall_mem_cons.mpr ⟨tw_559, (List.forall_mem_cons.mpr ⟨tw_561, (List.forall_mem_cons.mpr ⟨tw_563, (List.forall_mem_cons.mpr ⟨tw_565, (fun _ h => absurd h List.not_mem_nil)⟩)⟩)⟩)⟩)⟩)⟩)⟩)⟩)⟩)
theorem lay_X12 : ∀ w ∈ u_ws RX12 TX12 31, w ∈ lw_gt := (List.forall_mem_cons.mpr ⟨tw_1087, (List.forall_mem_cons.mpr ⟨tw_1089, (List.forall_mem_cons.mpr ⟨tw_1091, (List.forall_mem_cons.mpr ⟨tw_1093, (List.forall_mem_cons.mpr ⟨tw_1095, (List.forall_mem_cons.mpr ⟨tw_1097, (List.forall_mem_cons.mpr ⟨tw_1099, (List.forall_mem_cons.mpr ⟨tw_1101, (List.forall_mem_cons.mpr ⟨tw_1103, (List.forall_mem_cons.mpr ⟨tw_1105, (List.forall_mem_cons.mpr ⟨tw_1107, (List.forall_mem_cons.mpr ⟨tw_1109, (List.forall_mem_cons.mpr ⟨tw_1111, (List.forall_mem_cons.mpr ⟨tw_1113, (List.forall_mem_cons.mpr ⟨tw_1115, (List.forall_mem_cons.mpr ⟨tw_1117, (List.forall_mem_cons.mpr ⟨tw_1119, (List.forall_mem_cons.mpr ⟨tw_1121, (List.forall_mem_cons.mpr ⟨tw_1123, (List.forall_mem_cons.mpr ⟨tw_1125, (List.forall_mem_cons.mpr ⟨tw_1127, (List.forall_mem_cons.mpr ⟨tw_1129, (List.forall_mem_cons.mpr ⟨tw_1131, (List.forall_mem_cons.mpr ⟨tw_1133, (List.forall_mem_cons.mpr ⟨tw_1135, (List.forall_mem_cons.mpr ⟨tw_1137, (List.forall_mem_cons.mpr ⟨tw_1139, (List.forall_mem_cons.mpr ⟨tw_1141, (List.forall_mem_cons.mpr ⟨tw_1143, (List.forall_mem_cons.mpr ⟨tw_1145, (List.forall_mem_cons.mpr ⟨tw_1147, (fun _ h => absurd h List.not_mem_nil)⟩)⟩)⟩)⟩)⟩)⟩)⟩)⟩)⟩)⟩)⟩)⟩)⟩)⟩)⟩)⟩)⟩)⟩)⟩)⟩)⟩)⟩)⟩)⟩)⟩)⟩)⟩)⟩)⟩)⟩)⟩)
end
section
theorem dJ6_bitCount_0f7a4_0 : decode cJ6_bitCount_0f7a4 0 = .ok (.iload_n 0, 1) := by decide +kernel
theorem dJ6_bitCount_0f7a4_1 : decode cJ6_bitCount_0f7a4 1 = .ok (.iload_n 0, 1) := by decide +kernel
theorem dJ6_bitCount_0f7a4_2 : decode cJ6_bitCount_0f7a4 2 = .ok (.iconst 1, 1) := by decide +kernel
theorem dJ6_bitCount_0f7a4_3 : decode cJ6_bitCount_0f7a4 3 = .ok (.iushr, 1) := by decide +kernel
theorem dJ6_bitCount_0f7a4_4 : decode cJ6_bitCount_0f7a4 4 = .ok (.ldc_w 265, 3) := by decide +kernel
theorem dJ6_bitCount_0f7a4_7 : decode cJ6_bitCount_0f7a4 7 = .ok (.iand, 1) := by decide +kernel
theorem dJ6_bitCount_0f7a4_8 : decode cJ6_bitCount_0f7a4 8 = .ok (.isub, 1) := by decide +kernel
theorem dJ6_bitCount_0f7a4_9 : decode cJ6_bitCount_0f7a4 9 = .ok (.istore_n 0, 1) := by decide +kernel
theorem dJ6_bitCount_0f7a4_10 : decode cJ6_bitCount_0f7a4 10 = .ok (.iload_n 0, 1) := by decide +kernel
theorem dJ6_bitCount_0f7a4_11 : decode cJ6_bitCount_0f7a4 11 = .ok (.ldc_w 266, 3) := by decide +kernel
theorem dJ6_bitCount_0f7a4_14 : decode cJ6_bitCount_0f7a4 14 = .ok (.iand, 1) := by decide +kernel
theorem dJ6_bitCount_0f7a4_15 : decode cJ6_bitCount_0f7a4 15 = .ok (.iload_n 0, 1) := by decide +kernel
theorem dJ6_bitCount_0f7a4_16 : decode cJ6_bitCount_0f7a4 16 = .ok (.iconst 2, 1) := by decide +kernel
theorem dJ6_bitCount_0f7a4_17 : decode cJ6_bitCount_0f7a4 17 = .ok (.iushr, 1) := by decide +kernel
theorem dJ6_bitCount_0f7a4_18 : decode cJ6_bitCount_0f7a4 18 = .ok (.ldc_w 266, 3) := by decide +kernel
theorem dJ6_bitCount_0f7a4_21 : decode cJ6_bitCount_0f7a4 21 = .ok (.iand, 1) := by decide +kernel
theorem dJ6_bitCount_0f7a4_22 : decode cJ6_bitCount_0f7a4 22 = .ok (.iadd, 1) := by decide +kernel
theorem dJ6_bitCount_0f7a4_23 : decode cJ6_bitCount_0f7a4 23 = .ok (.istore_n 0, 1) := by decide +kernel
theorem dJ6_bitCount_0f7a4_24 : decode cJ6_bitCount_0f7a4 24 = .ok (.iload_n 0, 1) := by decide +kernel
theorem dJ6_bitCount_0f7a4_25 : decode cJ6_bitCount_0f7a4 25 = .ok (.iload_n 0, 1) := by decide +kernel
theorem dJ6_bitCount_0f7a4_26 : decode cJ6_bitCount_0f7a4 26 = .ok (.iconst 4, 1) := by decide +kernel
theorem dJ6_bitCount_0f7a4_27 : decode cJ6_bitCount_0f7a4 27 = .ok (.iushr, 1) := by decide +kernel
theorem dJ6_bitCount_0f7a4_28 : decode cJ6_bitCount_0f7a4 28 = .ok (.iadd, 1) := by decide +kernel
theorem dJ6_bitCount_0f7a4_29 : decode cJ6_bitCount_0f7a4 29 = .ok (.ldc_w 267, 3) := by decide +kernel
theorem dJ6_bitCount_0f7a4_32 : decode cJ6_bitCount_0f7a4 32 = .ok (.iand, 1) := by decide +kernel
theorem dJ6_bitCount_0f7a4_33 : decode cJ6_bitCount_0f7a4 33 = .ok (.istore_n 0, 1) := by decide +kernel
theorem dJ6_bitCount_0f7a4_34 : decode cJ6_bitCount_0f7a4 34 = .ok (.iload_n 0, 1) := by decide +kernel
theorem dJ6_bitCount_0f7a4_35 : decode cJ6_bitCount_0f7a4 35 = .ok (.iload_n 0, 1) := by decide +kernel
theorem dJ6_bitCount_0f7a4_36 : decode cJ6_bitCount_0f7a4 36 = .ok (.bipush 8, 2) := by decide +kernel
theorem dJ6_bitCount_0f7a4_38 : decode cJ6_bitCount_0f7a4 38 = .ok (.iushr, 1) := by decide +kernel
theorem dJ6_bitCount_0f7a4_39 : decode cJ6_bitCount_0f7a4 39 = .ok (.iadd, 1) := by decide +kernel
theorem dJ6_bitCount_0f7a4_40 : decode cJ6_bitCount_0f7a4 40 = .ok (.istore_n 0, 1) := by decide +kernel
theorem dJ6_bitCount_0f7a4_41 : decode cJ6_bitCount_0f7a4 41 = .ok (.iload_n 0, 1) := by decide +kernel
theorem dJ6_bitCount_0f7a4_42 : decode cJ6_bitCount_0f7a4 42 = .ok (.iload_n 0, 1) := by decide +kernel
theorem dJ6_bitCount_0f7a4_43 : decode cJ6_bitCount_0f7a4 43 = .ok (.bipush 16, 2) := by decide +kernel
theorem dJ6_bitCount_0f7a4_45 : decode cJ6_bitCount_0f7a4 45 = .ok (.iushr, 1) := by decide +kernel
theorem dJ6_bitCount_0f7a4_46 : decode cJ6_bitCount_0f7a4 46 = .ok (.iadd, 1) := by decide +kernel
theorem dJ6_bitCount_0f7a4_47 : decode cJ6_bitCount_0f7a4 47 = .ok (.istore_n 0, 1) := by decide +kernel
theorem dJ6_bitCount_0f7a4_48 : decode cJ6_bitCount_0f7a4 48 = .ok (.iload_n 0, 1) := by decide +kernel
theorem dJ6_bitCount_0f7a4_49 : decode cJ6_bitCount_0f7a4 49 = .ok (.bipush 63, 2) := by decide +kernel
theorem dJ6_bitCount_0f7a4_51 : decode cJ6_bitCount_0f7a4 51 = .ok (.iand, 1) := by decide +kernel
theorem dJ6_bitCount_0f7a4_52 : decode cJ6_bitCount_0f7a4 52 = .ok (.ireturn, 1) := by decide +kernel
theorem dJ13_bitCount_95d88_0 : decode cJ13_bitCount_95d88 0 = .ok (.lload_n 0, 1) := by decide +kernel
theorem dJ13_bitCount_95d88_1 : decode cJ13_bitCount_95d88 1 = .ok (.lload_n 0, 1) := by decide +kernel
theorem dJ13_bitCount_95d88_2 : decode cJ13_bitCount_95d88 2 = .ok (.iconst 1, 1) := by decide +kernel
theorem dJ13_bitCount_95d88_3 : decode cJ13_bitCount_95d88 3 = .ok (.lushr, 1) := by decide +kernel
theorem dJ13_bitCount_95d88_4 : decode cJ13_bitCount_95d88 4 = .ok (.ldc2_w 314, 3) := by decide +kernel
theorem dJ13_bitCount_95d88_7 : decode cJ13_bitCount_95d88 7 = .ok (.land, 1) := by decide +kernel
theorem dJ13_bitCount_95d88_8 : decode cJ13_bitCount_95d88 8 = .ok (.lsub, 1) := by decide +kernel
theorem dJ13_bitCount_95d88_9 : decode cJ13_bitCount_95d88 9 = .ok (.lstore_n 0, 1) := by decide +kernel
theorem dJ13_bitCount_95d88_10 : decode cJ13_bitCount_95d88 10 = .ok (.lload_n 0, 1) := by decide +kernel
theorem dJ13_bitCount_95d88_11 : decode cJ13_bitCount_95d88 11 = .ok (.ldc2_w 316, 3) := by decide +kernel
theorem dJ13_bitCount_95d88_14 : decode cJ13_bitCount_95d88 14 = .ok (.land, 1) := by decide +kernel
theorem dJ13_bitCount_95d88_15 : decode cJ13_bitCount_95d88 15 = .ok (.lload_n 0, 1) := by decide +kernel
theorem dJ13_bitCount_95d88_16 : decode cJ13_bitCount_95d88 16 = .ok (.iconst 2, 1) := by decide +kernel
theorem dJ13_bitCount_95d88_17 : decode cJ13_bitCount_95d88 17 = .ok (.lushr, 1) := by decide +kernel
theorem dJ13_bitCount_95d88_18 : decode cJ13_bitCount_95d88 18 = .ok (.ldc2_w 316, 3) := by decide +kernel
theorem dJ13_bitCount_95d88_21 : decode cJ13_bitCount_95d88 21 = .ok (.land, 1) := by decide +kernel
theorem dJ13_bitCount_95d88_22 : decode cJ13_bitCount_95d88 22 = .ok (.ladd, 1) := by decide +kernel
theorem dJ13_bitCount_95d88_23 : decode cJ13_bitCount_95d88 23 = .ok (.lstore_n 0, 1) := by decide +kernel
theorem dJ13_bitCount_95d88_24 : decode cJ13_bitCount_95d88 24 = .ok (.lload_n 0, 1) := by decide +kernel
theorem dJ13_bitCount_95d88_25 : decode cJ13_bitCount_95d88 25 = .ok (.lload_n 0, 1) := by decide +kernel
theorem dJ13_bitCount_95d88_26 : decode cJ13_bitCount_95d88 26 = .ok (.iconst 4, 1) := by decide +kernel
theorem dJ13_bitCount_95d88_27 : decode cJ13_bitCount_95d88 27 = .ok (.lushr, 1) := by decide +kernel
theorem dJ13_bitCount_95d88_28 : decode cJ13_bitCount_95d88 28 = .ok (.ladd, 1) := by decide +kernel
theorem dJ13_bitCount_95d88_29 : decode cJ13_bitCount_95d88 29 = .ok (.ldc2_w 318, 3) := by decide +kernel
theorem dJ13_bitCount_95d88_32 : decode cJ13_bitCount_95d88 32 = .ok (.land, 1) := by decide +kernel
theorem dJ13_bitCount_95d88_33 : decode cJ13_bitCount_95d88 33 = .ok (.lstore_n 0, 1) := by decide +kernel
theorem dJ13_bitCount_95d88_34 : decode cJ13_bitCount_95d88 34 = .ok (.lload_n 0, 1) := by decide +kernel
theorem dJ13_bitCount_95d88_35 : decode cJ13_bitCount_95d88 35 = .ok (.lload_n 0, 1) := by decide +kernel
theorem dJ13_bitCount_95d88_36 : decode cJ13_bitCount_95d88 36 = .ok (.bipush 8, 2) := by decide +kernel
theorem dJ13_bitCount_95d88_38 : decode cJ13_bitCount_95d88 38 = .ok (.lushr, 1) := by decide +kernel
theorem dJ13_bitCount_95d88_39 : decode cJ13_bitCount_95d88 39 = .ok (.ladd, 1) := by decide +kernel
theorem dJ13_bitCount_95d88_40 : decode cJ13_bitCount_95d88 40 = .ok (.lstore_n 0, 1) := by decide +kernel
theorem dJ13_bitCount_95d88_41 : decode cJ13_bitCount_95d88 41 = .ok (.lload_n 0, 1) := by decide +kernel
theorem dJ13_bitCount_95d88_42 : decode cJ13_bitCount_95d88 42 = .ok (.lload_n 0, 1) := by decide +kernel
theorem dJ13_bitCount_95d88_43 : decode cJ13_bitCount_95d88 43 = .ok (.bipush 16, 2) := by decide +kernel
theorem dJ13_bitCount_95d88_45 : decode cJ13_bitCount_95d88 45 = .ok (.lushr, 1) := by decide +kernel
theorem dJ13_bitCount_95d88_46 : decode cJ13_bitCount_95d88 46 = .ok (.ladd, 1) := by decide +kernel
theorem dJ13_bitCount_95d88_47 : decode cJ13_bitCount_95d88 47 = .ok (.lstore_n 0, 1) := by decide +kernel
theorem dJ13_bitCount_95d88_48 : decode cJ13_bitCount_95d88 48 = .ok (.lload_n 0, 1) := by decide +kernel
theorem dJ13_bitCount_95d88_49 : decode cJ13_bitCount_95d88 49 = .ok (.lload_n 0, 1) := by decide +kernel
theorem dJ13_bitCount_95d88_50 : decode cJ13_bitCount_95d88 50 = .ok (.bipush 32, 2) := by decide +kernel
theorem dJ13_bitCount_95d88_52 : decode cJ13_bitCount_95d88 52 = .ok (.lushr, 1) := by decide +kernel
theorem dJ13_bitCount_95d88_53 : decode cJ13_bitCount_95d88 53 = .ok (.ladd, 1) := by decide +kernel
theorem dJ13_bitCount_95d88_54 : decode cJ13_bitCount_95d88 54 = .ok (.lstore_n 0, 1) := by decide +kernel
theorem dJ13_bitCount_95d88_55 : decode cJ13_bitCount_95d88 55 = .ok (.lload_n 0, 1) := by decide +kernel
theorem dJ13_bitCount_95d88_56 : decode cJ13_bitCount_95d88 56 = .ok (.l2i, 1) := by decide +kernel
theorem dJ13_bitCount_95d88_57 : decode cJ13_bitCount_95d88 57 = .ok (.bipush 127, 2) := by decide +kernel
theorem dJ13_bitCount_95d88_59 : decode cJ13_bitCount_95d88 59 = .ok (.iand, 1) := by decide +kernel
theorem dJ13_bitCount_95d88_60 : decode cJ13_bitCount_95d88 60 = .ok (.ireturn, 1) := by decide +kernel
theorem dX11_lowest_0 : decode cX11_lowest 0 = .ok (.iload_n 0, 1) := by decide +kernel
theorem dX11_lowest_1 : decode cX11_lowest 1 = .ok (.iload_n 0, 1) := by decide +kernel
theorem dX11_lowest_2 : decode cX11_lowest 2 = .ok (.ineg, 1) := by decide +kernel
theorem dX11_lowest_3 : decode cX11_lowest 3 = .ok (.iand, 1) := by decide +kernel
theorem dX11_lowest_4 : decode cX11_lowest 4 = .ok (.iconst 1, 1) := by decide +kernel
theorem dX11_lowest_5 : decode cX11_lowest 5 = .ok (.isub, 1) := by decide +kernel
theorem dX11_lowest_6 : decode cX11_lowest 6 = .ok (.invokestatic 198, 3) := by decide +kernel
theorem dX11_lowest_9 : decode cX11_lowest 9 = .ok (.ireturn, 1) := by decide +kernel
theorem ksX11_198 : ux_LS RX11 198 yJ6_bitCount_0f7a4 cJ6_bitCount_0f7a4 1 (some .int) 1 := ⟨tw_440, tw_441, tw_84, tw_442, ⟨by decide, by decide, by decide +kernel⟩⟩
def fJ6_bitCount_0f7a4_47 (s0 : Int32) : Option (Int32) :=
  some (s0 &&& (63 : Int32))
set_option maxHeartbeats 4000000 in
set_option maxRecDepth 20000 in
theorem wJ6_bitCount_0f7a4_47 {X : ux_X} {sh : List ux_Sh} (C : ux_C X cJ6_bitCount_0f7a4 RJ6 1 (some .int) 0 0 sh) {s0 : Int32}  {N : ux_N} {L : ux_L} {o : Int32} (hq : ux_Qi X o N L) (h : fJ6_bitCount_0f7a4_47 s0 = some o) : ux_Wt X 1 47 [] [.int s0] N L := by
  refine wt_istore_n 48 [(0, .int s0)] C dJ6_bitCount_0f7a4_47 rfl (by decide) rfl ?_
  refine wt_iload_n 49 0 C dJ6_bitCount_0f7a4_48 rfl rfl ?_
  refine wt_bipush 51 63 C dJ6_bitCount_0f7a4_49 rfl (by decide) ?_
  refine wt_iand 52 C dJ6_bitCount_0f7a4_51 rfl ?_
  cases h
  exact wt_iret C hq dJ6_bitCount_0f7a4_52
def fJ6_bitCount_0f7a4_33 (s0 : Int32) : Option (Int32) :=
  fJ6_bitCount_0f7a4_47 ((s0 + ((s0.toUInt32 >>> ((8 : Int32).toUInt32 &&& Int32.toUInt32 31)).toInt32)) + (((s0 + ((s0.toUInt32 >>> ((8 : Int32).toUInt32 &&& Int32.toUInt32 31)).toInt32)).toUInt32 >>> ((16 : Int32).toUInt32 &&& Int32.toUInt32 31)).toInt32))
set_option maxHeartbeats 4000000 in
set_option maxRecDepth 20000 in
theorem wJ6_bitCount_0f7a4_33 {X : ux_X} {sh : List ux_Sh} (C : ux_C X cJ6_bitCount_0f7a4 RJ6 1 (some .int) 0 0 sh) {s0 : Int32}  {N : ux_N} {L : ux_L} {o : Int32} (hq : ux_Qi X o N L) (h : fJ6_bitCount_0f7a4_33 s0 = some o) : ux_Wt X 1 33 [] [.int s0] N L := by
  refine wt_istore_n 34 [(0, .int s0)] C dJ6_bitCount_0f7a4_33 rfl (by decide) rfl ?_
  refine wt_iload_n 35 0 C dJ6_bitCount_0f7a4_34 rfl rfl ?_
  refine wt_iload_n 36 0 C dJ6_bitCount_0f7a4_35 rfl rfl ?_
  refine wt_bipush 38 8 C dJ6_bitCount_0f7a4_36 rfl (by decide) ?_
  refine wt_iushr 39 C dJ6_bitCount_0f7a4_38 rfl ?_
  refine wt_iadd 40 C dJ6_bitCount_0f7a4_39 rfl ?_
  refine wt_istore_n 41 [(0, .int (s0 + ((s0.toUInt32 >>> ((8 : Int32).toUInt32 &&& Int32.toUInt32 31)).toInt32)))] C dJ6_bitCount_0f7a4_40 rfl (by decide) rfl ?_
  refine wt_iload_n 42 0 C dJ6_bitCount_0f7a4_41 rfl rfl ?_
  refine wt_iload_n 43 0 C dJ6_bitCount_0f7a4_42 rfl rfl ?_
  refine wt_bipush 45 16 C dJ6_bitCount_0f7a4_43 rfl (by decide) ?_
  refine wt_iushr 46 C dJ6_bitCount_0f7a4_45 rfl ?_
  refine wt_iadd 47 C dJ6_bitCount_0f7a4_46 rfl ?_
  refine wt_sub [] rfl ?_
  exact wJ6_bitCount_0f7a4_47 C hq h
def fJ6_bitCount_0f7a4_18 (s0 : Int32) (s1 : Int32) : Option (Int32) :=
  fJ6_bitCount_0f7a4_33 (((s1 + (s0 &&& (858993459 : Int32))) + (((s1 + (s0 &&& (858993459 : Int32))).toUInt32 >>> ((4 : Int32).toUInt32 &&& Int32.toUInt32 31)).toInt32)) &&& (252645135 : Int32))
set_option maxHeartbeats 4000000 in
set_option maxRecDepth 20000 in
theorem wJ6_bitCount_0f7a4_18 {X : ux_X} {sh : List ux_Sh} (C : ux_C X cJ6_bitCount_0f7a4 RJ6 1 (some .int) 0 0 sh) {s0 : Int32} {s1 : Int32}  {N : ux_N} {L : ux_L} {o : Int32} (hq : ux_Qi X o N L) (h : fJ6_bitCount_0f7a4_18 s0 s1 = some o) : ux_Wt X 1 18 [] [.int s0, .int s1] N L := by
  refine wt_ldcw 21 C tw_444 dJ6_bitCount_0f7a4_18 rfl ?_
  refine wt_iand 22 C dJ6_bitCount_0f7a4_21 rfl ?_
  refine wt_iadd 23 C dJ6_bitCount_0f7a4_22 rfl ?_
  refine wt_istore_n 24 [(0, .int (s1 + (s0 &&& (858993459 : Int32))))] C dJ6_bitCount_0f7a4_23 rfl (by decide) rfl ?_
  refine wt_iload_n 25 0 C dJ6_bitCount_0f7a4_24 rfl rfl ?_
  refine wt_iload_n 26 0 C dJ6_bitCount_0f7a4_25 rfl rfl ?_
  refine wt_iconst 27 4 C dJ6_bitCount_0f7a4_26 rfl (by decide) ?_
  refine wt_iushr 28 C dJ6_bitCount_0f7a4_27 rfl ?_
  refine wt_iadd 29 C dJ6_bitCount_0f7a4_28 rfl ?_
  refine wt_ldcw 32 C tw_445 dJ6_bitCount_0f7a4_29 rfl ?_
  refine wt_iand 33 C dJ6_bitCount_0f7a4_32 rfl ?_
  refine wt_sub [] rfl ?_
  exact wJ6_bitCount_0f7a4_33 C hq h
def fJ6_bitCount_0f7a4 (v0 : Int32) : Option (Int32) :=
  fJ6_bitCount_0f7a4_18 (((v0 - (((v0.toUInt32 >>> ((1 : Int32).toUInt32 &&& Int32.toUInt32 31)).toInt32) &&& (1431655765 : Int32))).toUInt32 >>> ((2 : Int32).toUInt32 &&& Int32.toUInt32 31)).toInt32) ((v0 - (((v0.toUInt32 >>> ((1 : Int32).toUInt32 &&& Int32.toUInt32 31)).toInt32) &&& (1431655765 : Int32))) &&& (858993459 : Int32))
set_option maxHeartbeats 4000000 in
set_option maxRecDepth 20000 in
theorem wJ6_bitCount_0f7a4 {X : ux_X} {sh : List ux_Sh} (C : ux_C X cJ6_bitCount_0f7a4 RJ6 1 (some .int) 0 0 sh) {v0 : Int32}  {N : ux_N} {L : ux_L} {o : Int32} (hq : ux_Qi X o N L) (h : fJ6_bitCount_0f7a4 v0 = some o) : ux_Wt X 1 0 [(0, .int v0)] [] N L := by
  refine wt_iload_n 1 0 C dJ6_bitCount_0f7a4_0 rfl rfl ?_
  refine wt_iload_n 2 0 C dJ6_bitCount_0f7a4_1 rfl rfl ?_
  refine wt_iconst 3 1 C dJ6_bitCount_0f7a4_2 rfl (by decide) ?_
  refine wt_iushr 4 C dJ6_bitCount_0f7a4_3 rfl ?_
  refine wt_ldcw 7 C tw_443 dJ6_bitCount_0f7a4_4 rfl ?_
  refine wt_iand 8 C dJ6_bitCount_0f7a4_7 rfl ?_
  refine wt_isub 9 C dJ6_bitCount_0f7a4_8 rfl ?_
  refine wt_istore_n 10 [(0, .int (v0 - (((v0.toUInt32 >>> ((1 : Int32).toUInt32 &&& Int32.toUInt32 31)).toInt32) &&& (1431655765 : Int32))))] C dJ6_bitCount_0f7a4_9 rfl (by decide) rfl ?_
  refine wt_iload_n 11 0 C dJ6_bitCount_0f7a4_10 rfl rfl ?_
  refine wt_ldcw 14 C tw_444 dJ6_bitCount_0f7a4_11 rfl ?_
  refine wt_iand 15 C dJ6_bitCount_0f7a4_14 rfl ?_
  refine wt_iload_n 16 0 C dJ6_bitCount_0f7a4_15 rfl rfl ?_
  refine wt_iconst 17 2 C dJ6_bitCount_0f7a4_16 rfl (by decide) ?_
  refine wt_iushr 18 C dJ6_bitCount_0f7a4_17 rfl ?_
  refine wt_sub [] rfl ?_
  exact wJ6_bitCount_0f7a4_18 C hq h
theorem mJ6_bitCount_0f7a4 {l : Launch} {G : ux_G} {sh : List ux_Sh} (hok : ux_ok G sh) {v0 : Int32}  {N : ux_N} {L : ux_L} {o : Int32} (h : fJ6_bitCount_0f7a4 v0 = some o) : ux_Mi l G yJ6_bitCount_0f7a4 cJ6_bitCount_0f7a4 1 (some .int) 0 0 [.int v0] N L o N L :=
  ux_ofi sh hok (by decide +kernel) (Nat.le_of_ble_eq_true rfl) (fun X hG hl C hq => by subst hG; subst hl; exact wJ6_bitCount_0f7a4 C  hq h)
def fJ13_bitCount_95d88_46 (s0 : Int64) (s1 : Int64) : Option (Int32) :=
  some ((((s1 + s0) + (((s1 + s0).toUInt64 >>> ((32 : Int32).toInt64.toUInt64 &&& Int64.toUInt64 63)).toInt64)).toInt32) &&& (127 : Int32))
set_option maxHeartbeats 4000000 in
set_option maxRecDepth 20000 in
theorem wJ13_bitCount_95d88_46 {X : ux_X} {sh : List ux_Sh} (C : ux_C X cJ13_bitCount_95d88 RJ13 2 (some .int) 0 0 sh) {s0 : Int64} {s1 : Int64}  {N : ux_N} {L : ux_L} {o : Int32} (hq : ux_Qi X o N L) (h : fJ13_bitCount_95d88_46 s0 s1 = some o) : ux_Wt X 2 46 [] [.long s0, .long s1] N L := by
  refine wt_ladd 47 C dJ13_bitCount_95d88_46 rfl ?_
  refine wt_lstore_n 48 [(0, .long (s1 + s0))] C dJ13_bitCount_95d88_47 rfl (by decide) rfl ?_
  refine wt_lload_n 49 0 C dJ13_bitCount_95d88_48 rfl rfl ?_
  refine wt_lload_n 50 0 C dJ13_bitCount_95d88_49 rfl rfl ?_
  refine wt_bipush 52 32 C dJ13_bitCount_95d88_50 rfl (by decide) ?_
  refine wt_lushr 53 C dJ13_bitCount_95d88_52 rfl ?_
  refine wt_ladd 54 C dJ13_bitCount_95d88_53 rfl ?_
  refine wt_lstore_n 55 [(0, .long ((s1 + s0) + (((s1 + s0).toUInt64 >>> ((32 : Int32).toInt64.toUInt64 &&& Int64.toUInt64 63)).toInt64)))] C dJ13_bitCount_95d88_54 rfl (by decide) rfl ?_
  refine wt_lload_n 56 0 C dJ13_bitCount_95d88_55 rfl rfl ?_
  refine wt_l2i 57 C dJ13_bitCount_95d88_56 rfl ?_
  refine wt_bipush 59 127 C dJ13_bitCount_95d88_57 rfl (by decide) ?_
  refine wt_iand 60 C dJ13_bitCount_95d88_59 rfl ?_
  cases h
  exact wt_iret C hq dJ13_bitCount_95d88_60
def fJ13_bitCount_95d88_29 (s0 : Int64) : Option (Int32) :=
  fJ13_bitCount_95d88_46 ((((s0 &&& (1085102592571150095 : Int64)) + (((s0 &&& (1085102592571150095 : Int64)).toUInt64 >>> ((8 : Int32).toInt64.toUInt64 &&& Int64.toUInt64 63)).toInt64)).toUInt64 >>> ((16 : Int32).toInt64.toUInt64 &&& Int64.toUInt64 63)).toInt64) ((s0 &&& (1085102592571150095 : Int64)) + (((s0 &&& (1085102592571150095 : Int64)).toUInt64 >>> ((8 : Int32).toInt64.toUInt64 &&& Int64.toUInt64 63)).toInt64))
set_option maxHeartbeats 4000000 in
set_option maxRecDepth 20000 in
theorem wJ13_bitCount_95d88_29 {X : ux_X} {sh : List ux_Sh} (C : ux_C X cJ13_bitCount_95d88 RJ13 2 (some .int) 0 0 sh) {s0 : Int64}  {N : ux_N} {L : ux_L} {o : Int32} (hq : ux_Qi X o N L) (h : fJ13_bitCount_95d88_29 s0 = some o) : ux_Wt X 2 29 [] [.long s0] N L := by
  refine wt_ldc2 32 C tw_535 dJ13_bitCount_95d88_29 rfl ?_
  refine wt_land 33 C dJ13_bitCount_95d88_32 rfl ?_
  refine wt_lstore_n 34 [(0, .long (s0 &&& (1085102592571150095 : Int64)))] C dJ13_bitCount_95d88_33 rfl (by decide) rfl ?_
  refine wt_lload_n 35 0 C dJ13_bitCount_95d88_34 rfl rfl ?_
  refine wt_lload_n 36 0 C dJ13_bitCount_95d88_35 rfl rfl ?_
  refine wt_bipush 38 8 C dJ13_bitCount_95d88_36 rfl (by decide) ?_
  refine wt_lushr 39 C dJ13_bitCount_95d88_38 rfl ?_
  refine wt_ladd 40 C dJ13_bitCount_95d88_39 rfl ?_
  refine wt_lstore_n 41 [(0, .long ((s0 &&& (1085102592571150095 : Int64)) + (((s0 &&& (1085102592571150095 : Int64)).toUInt64 >>> ((8 : Int32).toInt64.toUInt64 &&& Int64.toUInt64 63)).toInt64)))] C dJ13_bitCount_95d88_40 rfl (by decide) rfl ?_
  refine wt_lload_n 42 0 C dJ13_bitCount_95d88_41 rfl rfl ?_
  refine wt_lload_n 43 0 C dJ13_bitCount_95d88_42 rfl rfl ?_
  refine wt_bipush 45 16 C dJ13_bitCount_95d88_43 rfl (by decide) ?_
  refine wt_lushr 46 C dJ13_bitCount_95d88_45 rfl ?_
  refine wt_sub [] rfl ?_
  exact wJ13_bitCount_95d88_46 C hq h
def fJ13_bitCount_95d88_18 (s0 : Int64) (s1 : Int64) : Option (Int32) :=
  fJ13_bitCount_95d88_29 ((s1 + (s0 &&& (3689348814741910323 : Int64))) + (((s1 + (s0 &&& (3689348814741910323 : Int64))).toUInt64 >>> ((4 : Int32).toInt64.toUInt64 &&& Int64.toUInt64 63)).toInt64))
set_option maxHeartbeats 4000000 in
set_option maxRecDepth 20000 in
theorem wJ13_bitCount_95d88_18 {X : ux_X} {sh : List ux_Sh} (C : ux_C X cJ13_bitCount_95d88 RJ13 2 (some .int) 0 0 sh) {s0 : Int64} {s1 : Int64}  {N : ux_N} {L : ux_L} {o : Int32} (hq : ux_Qi X o N L) (h : fJ13_bitCount_95d88_18 s0 s1 = some o) : ux_Wt X 2 18 [] [.long s0, .long s1] N L := by
  refine wt_ldc2 21 C tw_534 dJ13_bitCount_95d88_18 rfl ?_
  refine wt_land 22 C dJ13_bitCount_95d88_21 rfl ?_
  refine wt_ladd 23 C dJ13_bitCount_95d88_22 rfl ?_
  refine wt_lstore_n 24 [(0, .long (s1 + (s0 &&& (3689348814741910323 : Int64))))] C dJ13_bitCount_95d88_23 rfl (by decide) rfl ?_
  refine wt_lload_n 25 0 C dJ13_bitCount_95d88_24 rfl rfl ?_
  refine wt_lload_n 26 0 C dJ13_bitCount_95d88_25 rfl rfl ?_
  refine wt_iconst 27 4 C dJ13_bitCount_95d88_26 rfl (by decide) ?_
  refine wt_lushr 28 C dJ13_bitCount_95d88_27 rfl ?_
  refine wt_ladd 29 C dJ13_bitCount_95d88_28 rfl ?_
  refine wt_sub [] rfl ?_
  exact wJ13_bitCount_95d88_29 C hq h
def fJ13_bitCount_95d88 (v0 : Int64) : Option (Int32) :=
  fJ13_bitCount_95d88_18 (((v0 - (((v0.toUInt64 >>> ((1 : Int32).toInt64.toUInt64 &&& Int64.toUInt64 63)).toInt64) &&& (6148914691236517205 : Int64))).toUInt64 >>> ((2 : Int32).toInt64.toUInt64 &&& Int64.toUInt64 63)).toInt64) ((v0 - (((v0.toUInt64 >>> ((1 : Int32).toInt64.toUInt64 &&& Int64.toUInt64 63)).toInt64) &&& (6148914691236517205 : Int64))) &&& (3689348814741910323 : Int64))
set_option maxHeartbeats 4000000 in
set_option maxRecDepth 20000 in
theorem wJ13_bitCount_95d88 {X : ux_X} {sh : List ux_Sh} (C : ux_C X cJ13_bitCount_95d88 RJ13 2 (some .int) 0 0 sh) {v0 : Int64}  {N : ux_N} {L : ux_L} {o : Int32} (hq : ux_Qi X o N L) (h : fJ13_bitCount_95d88 v0 = some o) : ux_Wt X 2 0 [(0, .long v0)] [] N L := by
  refine wt_lload_n 1 0 C dJ13_bitCount_95d88_0 rfl rfl ?_
  refine wt_lload_n 2 0 C dJ13_bitCount_95d88_1 rfl rfl ?_
  refine wt_iconst 3 1 C dJ13_bitCount_95d88_2 rfl (by decide) ?_
  refine wt_lushr 4 C dJ13_bitCount_95d88_3 rfl ?_
  refine wt_ldc2 7 C tw_533 dJ13_bitCount_95d88_4 rfl ?_
  refine wt_land 8 C dJ13_bitCount_95d88_7 rfl ?_
  refine wt_lsub 9 C dJ13_bitCount_95d88_8 rfl ?_
  refine wt_lstore_n 10 [(0, .long (v0 - (((v0.toUInt64 >>> ((1 : Int32).toInt64.toUInt64 &&& Int64.toUInt64 63)).toInt64) &&& (6148914691236517205 : Int64))))] C dJ13_bitCount_95d88_9 rfl (by decide) rfl ?_
  refine wt_lload_n 11 0 C dJ13_bitCount_95d88_10 rfl rfl ?_
  refine wt_ldc2 14 C tw_534 dJ13_bitCount_95d88_11 rfl ?_
  refine wt_land 15 C dJ13_bitCount_95d88_14 rfl ?_
  refine wt_lload_n 16 0 C dJ13_bitCount_95d88_15 rfl rfl ?_
  refine wt_iconst 17 2 C dJ13_bitCount_95d88_16 rfl (by decide) ?_
  refine wt_lushr 18 C dJ13_bitCount_95d88_17 rfl ?_
  refine wt_sub [] rfl ?_
  exact wJ13_bitCount_95d88_18 C hq h
theorem mJ13_bitCount_95d88 {l : Launch} {G : ux_G} {sh : List ux_Sh} (hok : ux_ok G sh) {v0 : Int64}  {N : ux_N} {L : ux_L} {o : Int32} (h : fJ13_bitCount_95d88 v0 = some o) : ux_Mi l G yJ13_bitCount_95d88 cJ13_bitCount_95d88 2 (some .int) 0 0 [.long v0] N L o N L :=
  ux_ofi sh hok (by decide +kernel) (Nat.le_of_ble_eq_true rfl) (fun X hG hl C hq => by subst hG; subst hl; exact wJ13_bitCount_95d88 C  hq h)
def fX11_lowest (v0 : Int32) : Option (Int32) :=
  (fJ6_bitCount_0f7a4 ((v0 &&& (-v0)) - (1 : Int32))).bind (fun o1 => some o1)
set_option maxHeartbeats 4000000 in
set_option maxRecDepth 20000 in
theorem wX11_lowest {X : ux_X} (C : ux_C X cX11_lowest RX11 1 (some .int) 1 20 shC) {v0 : Int32}  {N : ux_N} {L : ux_L} {o : Int32} (hq : ux_Qi X o N L) (h : fX11_lowest v0 = some o) : ux_Wt X 1 0 [(0, .int v0)] [] N L := by
  refine wt_iload_n 1 0 C dX11_lowest_0 rfl rfl ?_
  refine wt_iload_n 2 0 C dX11_lowest_1 rfl rfl ?_
  refine wt_ineg 3 C dX11_lowest_2 rfl ?_
  refine wt_iand 4 C dX11_lowest_3 rfl ?_
  refine wt_iconst 5 1 C dX11_lowest_4 rfl (by decide) ?_
  refine wt_isub 6 C dX11_lowest_5 rfl ?_
  obtain ⟨o1, hc2, h⟩ := Option.bind_eq_some_iff.mp h
  refine wt_callSi 9 [] C ksX11_198 (mJ6_bitCount_0f7a4 (cx_ok C)  hc2) rfl rfl ⟨Nat.le_of_ble_eq_true rfl, Nat.le_of_ble_eq_true rfl⟩ (Nat.le_of_ble_eq_true rfl) dX11_lowest_6 rfl ?_
  cases h
  exact wt_iret C hq dX11_lowest_9
theorem mX11_lowest {l : Launch} {G : ux_G} (hok : ux_ok G shC) {v0 : Int32}  {N : ux_N} {L : ux_L} {o : Int32} (h : fX11_lowest v0 = some o) : ux_Mi l G yX11_lowest cX11_lowest 1 (some .int) 1 20 [.int v0] N L o N L :=
  ux_ofi shC hok (by decide +kernel) (Nat.le_of_ble_eq_true rfl) (fun X hG hl C hq => by subst hG; subst hl; exact wX11_lowest C  hq h)
end
section
theorem dX0_startWithEmptySet_0 : decode cX0_startWithEmptySet 0 = .ok (.aload_n 0, 1) := by decide +kernel
theorem dX0_startWithEmptySet_1 : decode cX0_startWithEmptySet 1 = .ok (.getfield 11, 3) := by decide +kernel
theorem dX0_startWithEmptySet_4 : decode cX0_startWithEmptySet 4 = .ok (.iconst 0, 1) := by decide +kernel
theorem dX0_startWithEmptySet_5 : decode cX0_startWithEmptySet 5 = .ok (.lconst 1, 1) := by decide +kernel
theorem dX0_startWithEmptySet_6 : decode cX0_startWithEmptySet 6 = .ok (.lastore, 1) := by decide +kernel
theorem dX0_startWithEmptySet_7 : decode cX0_startWithEmptySet 7 = .ok (.iconst 1, 1) := by decide +kernel
theorem dX0_startWithEmptySet_8 : decode cX0_startWithEmptySet 8 = .ok (.istore_n 1, 1) := by decide +kernel
theorem dX0_startWithEmptySet_9 : decode cX0_startWithEmptySet 9 = .ok (.iload_n 1, 1) := by decide +kernel
theorem dX0_startWithEmptySet_10 : decode cX0_startWithEmptySet 10 = .ok (.bipush 16, 2) := by decide +kernel
theorem dX0_startWithEmptySet_12 : decode cX0_startWithEmptySet 12 = .ok (.if_icmp .ge 16, 3) := by decide +kernel
theorem dX0_startWithEmptySet_15 : decode cX0_startWithEmptySet 15 = .ok (.aload_n 0, 1) := by decide +kernel
theorem dX0_startWithEmptySet_16 : decode cX0_startWithEmptySet 16 = .ok (.getfield 11, 3) := by decide +kernel
theorem dX0_startWithEmptySet_19 : decode cX0_startWithEmptySet 19 = .ok (.iload_n 1, 1) := by decide +kernel
theorem dX0_startWithEmptySet_20 : decode cX0_startWithEmptySet 20 = .ok (.lconst 0, 1) := by decide +kernel
theorem dX0_startWithEmptySet_21 : decode cX0_startWithEmptySet 21 = .ok (.lastore, 1) := by decide +kernel
theorem dX0_startWithEmptySet_22 : decode cX0_startWithEmptySet 22 = .ok (.iinc 1 1, 3) := by decide +kernel
theorem dX0_startWithEmptySet_25 : decode cX0_startWithEmptySet 25 = .ok (.goto (-16), 3) := by decide +kernel
theorem dX0_startWithEmptySet_28 : decode cX0_startWithEmptySet 28 = .ok (.return_, 1) := by decide +kernel
theorem dX0_copyFrom_0 : decode cX0_copyFrom 0 = .ok (.aload_n 1, 1) := by decide +kernel
theorem dX0_copyFrom_1 : decode cX0_copyFrom 1 = .ok (.getfield 11, 3) := by decide +kernel
theorem dX0_copyFrom_4 : decode cX0_copyFrom 4 = .ok (.iconst 0, 1) := by decide +kernel
theorem dX0_copyFrom_5 : decode cX0_copyFrom 5 = .ok (.aload_n 0, 1) := by decide +kernel
theorem dX0_copyFrom_6 : decode cX0_copyFrom 6 = .ok (.getfield 11, 3) := by decide +kernel
theorem dX0_copyFrom_9 : decode cX0_copyFrom 9 = .ok (.iconst 0, 1) := by decide +kernel
theorem dX0_copyFrom_10 : decode cX0_copyFrom 10 = .ok (.bipush 16, 2) := by decide +kernel
theorem dX0_copyFrom_12 : decode cX0_copyFrom 12 = .ok (.invokestatic 18, 3) := by decide +kernel
theorem dX0_copyFrom_15 : decode cX0_copyFrom 15 = .ok (.return_, 1) := by decide +kernel
theorem dX0_include_0 : decode cX0_include 0 = .ok (.iload_n 1, 1) := by decide +kernel
theorem dX0_include_1 : decode cX0_include 1 = .ok (.bipush 64, 2) := by decide +kernel
theorem dX0_include_3 : decode cX0_include 3 = .ok (.idiv, 1) := by decide +kernel
theorem dX0_include_4 : decode cX0_include 4 = .ok (.istore_n 2, 1) := by decide +kernel
theorem dX0_include_5 : decode cX0_include 5 = .ok (.iload_n 2, 1) := by decide +kernel
theorem dX0_include_6 : decode cX0_include 6 = .ok (.ifCond .lt 24, 3) := by decide +kernel
theorem dX0_include_9 : decode cX0_include 9 = .ok (.iload_n 2, 1) := by decide +kernel
theorem dX0_include_10 : decode cX0_include 10 = .ok (.bipush 16, 2) := by decide +kernel
theorem dX0_include_12 : decode cX0_include 12 = .ok (.if_icmp .ge 18, 3) := by decide +kernel
theorem dX0_include_15 : decode cX0_include 15 = .ok (.aload_n 0, 1) := by decide +kernel
theorem dX0_include_16 : decode cX0_include 16 = .ok (.getfield 11, 3) := by decide +kernel
theorem dX0_include_19 : decode cX0_include 19 = .ok (.iload_n 2, 1) := by decide +kernel
theorem dX0_include_20 : decode cX0_include 20 = .ok (.dup2, 1) := by decide +kernel
theorem dX0_include_21 : decode cX0_include 21 = .ok (.laload, 1) := by decide +kernel
theorem dX0_include_22 : decode cX0_include 22 = .ok (.lconst 1, 1) := by decide +kernel
theorem dX0_include_23 : decode cX0_include 23 = .ok (.iload_n 1, 1) := by decide +kernel
theorem dX0_include_24 : decode cX0_include 24 = .ok (.bipush 64, 2) := by decide +kernel
theorem dX0_include_26 : decode cX0_include 26 = .ok (.irem, 1) := by decide +kernel
theorem dX0_include_27 : decode cX0_include 27 = .ok (.lshl, 1) := by decide +kernel
theorem dX0_include_28 : decode cX0_include 28 = .ok (.lor, 1) := by decide +kernel
theorem dX0_include_29 : decode cX0_include 29 = .ok (.lastore, 1) := by decide +kernel
theorem dX0_include_30 : decode cX0_include 30 = .ok (.return_, 1) := by decide +kernel
theorem dX0_holds_0 : decode cX0_holds 0 = .ok (.iload_n 1, 1) := by decide +kernel
theorem dX0_holds_1 : decode cX0_holds 1 = .ok (.bipush 64, 2) := by decide +kernel
theorem dX0_holds_3 : decode cX0_holds 3 = .ok (.idiv, 1) := by decide +kernel
theorem dX0_holds_4 : decode cX0_holds 4 = .ok (.istore_n 2, 1) := by decide +kernel
theorem dX0_holds_5 : decode cX0_holds 5 = .ok (.iload_n 2, 1) := by decide +kernel
theorem dX0_holds_6 : decode cX0_holds 6 = .ok (.ifCond .lt 31, 3) := by decide +kernel
theorem dX0_holds_9 : decode cX0_holds 9 = .ok (.iload_n 2, 1) := by decide +kernel
theorem dX0_holds_10 : decode cX0_holds 10 = .ok (.bipush 16, 2) := by decide +kernel
theorem dX0_holds_12 : decode cX0_holds 12 = .ok (.if_icmp .ge 25, 3) := by decide +kernel
theorem dX0_holds_15 : decode cX0_holds 15 = .ok (.aload_n 0, 1) := by decide +kernel
theorem dX0_holds_16 : decode cX0_holds 16 = .ok (.getfield 11, 3) := by decide +kernel
theorem dX0_holds_19 : decode cX0_holds 19 = .ok (.iload_n 2, 1) := by decide +kernel
theorem dX0_holds_20 : decode cX0_holds 20 = .ok (.laload, 1) := by decide +kernel
theorem dX0_holds_21 : decode cX0_holds 21 = .ok (.iload_n 1, 1) := by decide +kernel
theorem dX0_holds_22 : decode cX0_holds 22 = .ok (.bipush 64, 2) := by decide +kernel
theorem dX0_holds_24 : decode cX0_holds 24 = .ok (.irem, 1) := by decide +kernel
theorem dX0_holds_25 : decode cX0_holds 25 = .ok (.lshr, 1) := by decide +kernel
theorem dX0_holds_26 : decode cX0_holds 26 = .ok (.lconst 1, 1) := by decide +kernel
theorem dX0_holds_27 : decode cX0_holds 27 = .ok (.land, 1) := by decide +kernel
theorem dX0_holds_28 : decode cX0_holds 28 = .ok (.lconst 1, 1) := by decide +kernel
theorem dX0_holds_29 : decode cX0_holds 29 = .ok (.lcmp, 1) := by decide +kernel
theorem dX0_holds_30 : decode cX0_holds 30 = .ok (.ifCond .ne 7, 3) := by decide +kernel
theorem dX0_holds_33 : decode cX0_holds 33 = .ok (.iconst 1, 1) := by decide +kernel
theorem dX0_holds_34 : decode cX0_holds 34 = .ok (.goto 4, 3) := by decide +kernel
theorem dX0_holds_37 : decode cX0_holds 37 = .ok (.iconst 0, 1) := by decide +kernel
theorem dX0_holds_38 : decode cX0_holds 38 = .ok (.ireturn, 1) := by decide +kernel
theorem dX0_joinLine_0 : decode cX0_joinLine 0 = .ok (.iload_n 1, 1) := by decide +kernel
theorem dX0_joinLine_1 : decode cX0_joinLine 1 = .ok (.bipush 6, 2) := by decide +kernel
theorem dX0_joinLine_3 : decode cX0_joinLine 3 = .ok (.if_icmp .ge 50, 3) := by decide +kernel
theorem dX0_joinLine_6 : decode cX0_joinLine 6 = .ok (.iconst 0, 1) := by decide +kernel
theorem dX0_joinLine_7 : decode cX0_joinLine 7 = .ok (.istore_n 3, 1) := by decide +kernel
theorem dX0_joinLine_8 : decode cX0_joinLine 8 = .ok (.iload_n 3, 1) := by decide +kernel
theorem dX0_joinLine_9 : decode cX0_joinLine 9 = .ok (.bipush 16, 2) := by decide +kernel
theorem dX0_joinLine_11 : decode cX0_joinLine 11 = .ok (.if_icmp .ge 41, 3) := by decide +kernel
theorem dX0_joinLine_14 : decode cX0_joinLine 14 = .ok (.aload_n 0, 1) := by decide +kernel
theorem dX0_joinLine_15 : decode cX0_joinLine 15 = .ok (.getfield 11, 3) := by decide +kernel
theorem dX0_joinLine_18 : decode cX0_joinLine 18 = .ok (.iload_n 3, 1) := by decide +kernel
theorem dX0_joinLine_19 : decode cX0_joinLine 19 = .ok (.dup2, 1) := by decide +kernel
theorem dX0_joinLine_20 : decode cX0_joinLine 20 = .ok (.laload, 1) := by decide +kernel
theorem dX0_joinLine_21 : decode cX0_joinLine 21 = .ok (.aload_n 0, 1) := by decide +kernel
theorem dX0_joinLine_22 : decode cX0_joinLine 22 = .ok (.getfield 15, 3) := by decide +kernel
theorem dX0_joinLine_25 : decode cX0_joinLine 25 = .ok (.iload_n 3, 1) := by decide +kernel
theorem dX0_joinLine_26 : decode cX0_joinLine 26 = .ok (.laload, 1) := by decide +kernel
theorem dX0_joinLine_27 : decode cX0_joinLine 27 = .ok (.getstatic 28, 3) := by decide +kernel
theorem dX0_joinLine_30 : decode cX0_joinLine 30 = .ok (.iload_n 1, 1) := by decide +kernel
theorem dX0_joinLine_31 : decode cX0_joinLine 31 = .ok (.laload, 1) := by decide +kernel
theorem dX0_joinLine_32 : decode cX0_joinLine 32 = .ok (.land, 1) := by decide +kernel
theorem dX0_joinLine_33 : decode cX0_joinLine 33 = .ok (.iconst 1, 1) := by decide +kernel
theorem dX0_joinLine_34 : decode cX0_joinLine 34 = .ok (.iload_n 1, 1) := by decide +kernel
theorem dX0_joinLine_35 : decode cX0_joinLine 35 = .ok (.ishl, 1) := by decide +kernel
theorem dX0_joinLine_36 : decode cX0_joinLine 36 = .ok (.lshl, 1) := by decide +kernel
theorem dX0_joinLine_37 : decode cX0_joinLine 37 = .ok (.aload_n 2, 1) := by decide +kernel
theorem dX0_joinLine_38 : decode cX0_joinLine 38 = .ok (.getfield 11, 3) := by decide +kernel
theorem dX0_joinLine_41 : decode cX0_joinLine 41 = .ok (.iload_n 3, 1) := by decide +kernel
theorem dX0_joinLine_42 : decode cX0_joinLine 42 = .ok (.laload, 1) := by decide +kernel
theorem dX0_joinLine_43 : decode cX0_joinLine 43 = .ok (.land, 1) := by decide +kernel
theorem dX0_joinLine_44 : decode cX0_joinLine 44 = .ok (.lor, 1) := by decide +kernel
theorem dX0_joinLine_45 : decode cX0_joinLine 45 = .ok (.lastore, 1) := by decide +kernel
theorem dX0_joinLine_46 : decode cX0_joinLine 46 = .ok (.iinc 3 1, 3) := by decide +kernel
theorem dX0_joinLine_49 : decode cX0_joinLine 49 = .ok (.goto (-41), 3) := by decide +kernel
theorem dX0_joinLine_52 : decode cX0_joinLine 52 = .ok (.return_, 1) := by decide +kernel
theorem dX0_joinLine_53 : decode cX0_joinLine 53 = .ok (.iconst 1, 1) := by decide +kernel
theorem dX0_joinLine_54 : decode cX0_joinLine 54 = .ok (.iload_n 1, 1) := by decide +kernel
theorem dX0_joinLine_55 : decode cX0_joinLine 55 = .ok (.bipush 6, 2) := by decide +kernel
theorem dX0_joinLine_57 : decode cX0_joinLine 57 = .ok (.isub, 1) := by decide +kernel
theorem dX0_joinLine_58 : decode cX0_joinLine 58 = .ok (.ishl, 1) := by decide +kernel
theorem dX0_joinLine_59 : decode cX0_joinLine 59 = .ok (.istore_n 3, 1) := by decide +kernel
theorem dX0_joinLine_60 : decode cX0_joinLine 60 = .ok (.iconst 0, 1) := by decide +kernel
theorem dX0_joinLine_61 : decode cX0_joinLine 61 = .ok (.istore 4, 2) := by decide +kernel
theorem dX0_joinLine_63 : decode cX0_joinLine 63 = .ok (.iload 4, 2) := by decide +kernel
theorem dX0_joinLine_65 : decode cX0_joinLine 65 = .ok (.iload_n 3, 1) := by decide +kernel
theorem dX0_joinLine_66 : decode cX0_joinLine 66 = .ok (.iadd, 1) := by decide +kernel
theorem dX0_joinLine_67 : decode cX0_joinLine 67 = .ok (.bipush 16, 2) := by decide +kernel
theorem dX0_joinLine_69 : decode cX0_joinLine 69 = .ok (.if_icmp .ge 45, 3) := by decide +kernel
theorem dX0_joinLine_72 : decode cX0_joinLine 72 = .ok (.iload 4, 2) := by decide +kernel
theorem dX0_joinLine_74 : decode cX0_joinLine 74 = .ok (.iload_n 3, 1) := by decide +kernel
theorem dX0_joinLine_75 : decode cX0_joinLine 75 = .ok (.iand, 1) := by decide +kernel
theorem dX0_joinLine_76 : decode cX0_joinLine 76 = .ok (.ifCond .ne 32, 3) := by decide +kernel
theorem dX0_joinLine_79 : decode cX0_joinLine 79 = .ok (.aload_n 0, 1) := by decide +kernel
theorem dX0_joinLine_80 : decode cX0_joinLine 80 = .ok (.getfield 11, 3) := by decide +kernel
theorem dX0_joinLine_83 : decode cX0_joinLine 83 = .ok (.iload 4, 2) := by decide +kernel
theorem dX0_joinLine_85 : decode cX0_joinLine 85 = .ok (.iload_n 3, 1) := by decide +kernel
theorem dX0_joinLine_86 : decode cX0_joinLine 86 = .ok (.iadd, 1) := by decide +kernel
theorem dX0_joinLine_87 : decode cX0_joinLine 87 = .ok (.dup2, 1) := by decide +kernel
theorem dX0_joinLine_88 : decode cX0_joinLine 88 = .ok (.laload, 1) := by decide +kernel
theorem dX0_joinLine_89 : decode cX0_joinLine 89 = .ok (.aload_n 0, 1) := by decide +kernel
theorem dX0_joinLine_90 : decode cX0_joinLine 90 = .ok (.getfield 15, 3) := by decide +kernel
theorem dX0_joinLine_93 : decode cX0_joinLine 93 = .ok (.iload 4, 2) := by decide +kernel
theorem dX0_joinLine_95 : decode cX0_joinLine 95 = .ok (.laload, 1) := by decide +kernel
theorem dX0_joinLine_96 : decode cX0_joinLine 96 = .ok (.aload_n 2, 1) := by decide +kernel
theorem dX0_joinLine_97 : decode cX0_joinLine 97 = .ok (.getfield 11, 3) := by decide +kernel
theorem dX0_joinLine_100 : decode cX0_joinLine 100 = .ok (.iload 4, 2) := by decide +kernel
theorem dX0_joinLine_102 : decode cX0_joinLine 102 = .ok (.iload_n 3, 1) := by decide +kernel
theorem dX0_joinLine_103 : decode cX0_joinLine 103 = .ok (.iadd, 1) := by decide +kernel
theorem dX0_joinLine_104 : decode cX0_joinLine 104 = .ok (.laload, 1) := by decide +kernel
theorem dX0_joinLine_105 : decode cX0_joinLine 105 = .ok (.land, 1) := by decide +kernel
theorem dX0_joinLine_106 : decode cX0_joinLine 106 = .ok (.lor, 1) := by decide +kernel
theorem dX0_joinLine_107 : decode cX0_joinLine 107 = .ok (.lastore, 1) := by decide +kernel
theorem dX0_joinLine_108 : decode cX0_joinLine 108 = .ok (.iinc 4 1, 3) := by decide +kernel
theorem dX0_joinLine_111 : decode cX0_joinLine 111 = .ok (.goto (-48), 3) := by decide +kernel
theorem dX0_joinLine_114 : decode cX0_joinLine 114 = .ok (.return_, 1) := by decide +kernel
theorem dX0_joinMeter_0 : decode cX0_joinMeter 0 = .ok (.aload_n 0, 1) := by decide +kernel
theorem dX0_joinMeter_1 : decode cX0_joinMeter 1 = .ok (.getfield 11, 3) := by decide +kernel
theorem dX0_joinMeter_4 : decode cX0_joinMeter 4 = .ok (.iconst 0, 1) := by decide +kernel
theorem dX0_joinMeter_5 : decode cX0_joinMeter 5 = .ok (.aload_n 0, 1) := by decide +kernel
theorem dX0_joinMeter_6 : decode cX0_joinMeter 6 = .ok (.getfield 15, 3) := by decide +kernel
theorem dX0_joinMeter_9 : decode cX0_joinMeter 9 = .ok (.iconst 0, 1) := by decide +kernel
theorem dX0_joinMeter_10 : decode cX0_joinMeter 10 = .ok (.bipush 16, 2) := by decide +kernel
theorem dX0_joinMeter_12 : decode cX0_joinMeter 12 = .ok (.invokestatic 18, 3) := by decide +kernel
theorem dX0_joinMeter_15 : decode cX0_joinMeter 15 = .ok (.iconst 0, 1) := by decide +kernel
theorem dX0_joinMeter_16 : decode cX0_joinMeter 16 = .ok (.istore_n 3, 1) := by decide +kernel
theorem dX0_joinMeter_17 : decode cX0_joinMeter 17 = .ok (.iload_n 3, 1) := by decide +kernel
theorem dX0_joinMeter_18 : decode cX0_joinMeter 18 = .ok (.bipush 10, 2) := by decide +kernel
theorem dX0_joinMeter_20 : decode cX0_joinMeter 20 = .ok (.if_icmp .ge 24, 3) := by decide +kernel
theorem dX0_joinMeter_23 : decode cX0_joinMeter 23 = .ok (.iload_n 1, 1) := by decide +kernel
theorem dX0_joinMeter_24 : decode cX0_joinMeter 24 = .ok (.iload_n 3, 1) := by decide +kernel
theorem dX0_joinMeter_25 : decode cX0_joinMeter 25 = .ok (.ishr, 1) := by decide +kernel
theorem dX0_joinMeter_26 : decode cX0_joinMeter 26 = .ok (.iconst 1, 1) := by decide +kernel
theorem dX0_joinMeter_27 : decode cX0_joinMeter 27 = .ok (.iand, 1) := by decide +kernel
theorem dX0_joinMeter_28 : decode cX0_joinMeter 28 = .ok (.iconst 1, 1) := by decide +kernel
theorem dX0_joinMeter_29 : decode cX0_joinMeter 29 = .ok (.if_icmp .ne 9, 3) := by decide +kernel
theorem dX0_joinMeter_32 : decode cX0_joinMeter 32 = .ok (.aload_n 0, 1) := by decide +kernel
theorem dX0_joinMeter_33 : decode cX0_joinMeter 33 = .ok (.iload_n 3, 1) := by decide +kernel
theorem dX0_joinMeter_34 : decode cX0_joinMeter 34 = .ok (.aload_n 2, 1) := by decide +kernel
theorem dX0_joinMeter_35 : decode cX0_joinMeter 35 = .ok (.invokevirtual 24, 3) := by decide +kernel
theorem dX0_joinMeter_38 : decode cX0_joinMeter 38 = .ok (.iinc 3 1, 3) := by decide +kernel
theorem dX0_joinMeter_41 : decode cX0_joinMeter 41 = .ok (.goto (-24), 3) := by decide +kernel
theorem dX0_joinMeter_44 : decode cX0_joinMeter 44 = .ok (.return_, 1) := by decide +kernel
theorem dX0_mostLines_0 : decode cX0_mostLines 0 = .ok (.iconst 0, 1) := by decide +kernel
theorem dX0_mostLines_1 : decode cX0_mostLines 1 = .ok (.istore_n 1, 1) := by decide +kernel
theorem dX0_mostLines_2 : decode cX0_mostLines 2 = .ok (.iconst 0, 1) := by decide +kernel
theorem dX0_mostLines_3 : decode cX0_mostLines 3 = .ok (.istore_n 2, 1) := by decide +kernel
theorem dX0_mostLines_4 : decode cX0_mostLines 4 = .ok (.iload_n 2, 1) := by decide +kernel
theorem dX0_mostLines_5 : decode cX0_mostLines 5 = .ok (.bipush 16, 2) := by decide +kernel
theorem dX0_mostLines_7 : decode cX0_mostLines 7 = .ok (.if_icmp .ge 60, 3) := by decide +kernel
theorem dX0_mostLines_10 : decode cX0_mostLines 10 = .ok (.iload_n 2, 1) := by decide +kernel
theorem dX0_mostLines_11 : decode cX0_mostLines 11 = .ok (.invokestatic 31, 3) := by decide +kernel
theorem dX0_mostLines_14 : decode cX0_mostLines 14 = .ok (.istore_n 3, 1) := by decide +kernel
theorem dX0_mostLines_15 : decode cX0_mostLines 15 = .ok (.bipush 6, 2) := by decide +kernel
theorem dX0_mostLines_17 : decode cX0_mostLines 17 = .ok (.istore 4, 2) := by decide +kernel
theorem dX0_mostLines_19 : decode cX0_mostLines 19 = .ok (.iload 4, 2) := by decide +kernel
theorem dX0_mostLines_21 : decode cX0_mostLines 21 = .ok (.ifCond .lt 40, 3) := by decide +kernel
theorem dX0_mostLines_24 : decode cX0_mostLines 24 = .ok (.iload_n 3, 1) := by decide +kernel
theorem dX0_mostLines_25 : decode cX0_mostLines 25 = .ok (.iload 4, 2) := by decide +kernel
theorem dX0_mostLines_27 : decode cX0_mostLines 27 = .ok (.iadd, 1) := by decide +kernel
theorem dX0_mostLines_28 : decode cX0_mostLines 28 = .ok (.iload_n 1, 1) := by decide +kernel
theorem dX0_mostLines_29 : decode cX0_mostLines 29 = .ok (.if_icmp .le 32, 3) := by decide +kernel
theorem dX0_mostLines_32 : decode cX0_mostLines 32 = .ok (.aload_n 0, 1) := by decide +kernel
theorem dX0_mostLines_33 : decode cX0_mostLines 33 = .ok (.getfield 11, 3) := by decide +kernel
theorem dX0_mostLines_36 : decode cX0_mostLines 36 = .ok (.iload_n 2, 1) := by decide +kernel
theorem dX0_mostLines_37 : decode cX0_mostLines 37 = .ok (.laload, 1) := by decide +kernel
theorem dX0_mostLines_38 : decode cX0_mostLines 38 = .ok (.getstatic 37, 3) := by decide +kernel
theorem dX0_mostLines_41 : decode cX0_mostLines 41 = .ok (.iload 4, 2) := by decide +kernel
theorem dX0_mostLines_43 : decode cX0_mostLines 43 = .ok (.laload, 1) := by decide +kernel
theorem dX0_mostLines_44 : decode cX0_mostLines 44 = .ok (.land, 1) := by decide +kernel
theorem dX0_mostLines_45 : decode cX0_mostLines 45 = .ok (.lconst 0, 1) := by decide +kernel
theorem dX0_mostLines_46 : decode cX0_mostLines 46 = .ok (.lcmp, 1) := by decide +kernel
theorem dX0_mostLines_47 : decode cX0_mostLines 47 = .ok (.ifCond .eq 8, 3) := by decide +kernel
theorem dX0_mostLines_50 : decode cX0_mostLines 50 = .ok (.iload_n 3, 1) := by decide +kernel
theorem dX0_mostLines_51 : decode cX0_mostLines 51 = .ok (.iload 4, 2) := by decide +kernel
theorem dX0_mostLines_53 : decode cX0_mostLines 53 = .ok (.iadd, 1) := by decide +kernel
theorem dX0_mostLines_54 : decode cX0_mostLines 54 = .ok (.istore_n 1, 1) := by decide +kernel
theorem dX0_mostLines_55 : decode cX0_mostLines 55 = .ok (.iinc 4 (-1), 3) := by decide +kernel
theorem dX0_mostLines_58 : decode cX0_mostLines 58 = .ok (.goto (-39), 3) := by decide +kernel
theorem dX0_mostLines_61 : decode cX0_mostLines 61 = .ok (.iinc 2 1, 3) := by decide +kernel
theorem dX0_mostLines_64 : decode cX0_mostLines 64 = .ok (.goto (-60), 3) := by decide +kernel
theorem dX0_mostLines_67 : decode cX0_mostLines 67 = .ok (.iload_n 1, 1) := by decide +kernel
theorem dX0_mostLines_68 : decode cX0_mostLines 68 = .ok (.ireturn, 1) := by decide +kernel
theorem dX0_leastSet_0 : decode cX0_leastSet 0 = .ok (.iconst 0, 1) := by decide +kernel
theorem dX0_leastSet_1 : decode cX0_leastSet 1 = .ok (.istore_n 2, 1) := by decide +kernel
theorem dX0_leastSet_2 : decode cX0_leastSet 2 = .ok (.iload_n 2, 1) := by decide +kernel
theorem dX0_leastSet_3 : decode cX0_leastSet 3 = .ok (.bipush 16, 2) := by decide +kernel
theorem dX0_leastSet_5 : decode cX0_leastSet 5 = .ok (.if_icmp .ge 74, 3) := by decide +kernel
theorem dX0_leastSet_8 : decode cX0_leastSet 8 = .ok (.iload_n 1, 1) := by decide +kernel
theorem dX0_leastSet_9 : decode cX0_leastSet 9 = .ok (.iload_n 2, 1) := by decide +kernel
theorem dX0_leastSet_10 : decode cX0_leastSet 10 = .ok (.invokestatic 31, 3) := by decide +kernel
theorem dX0_leastSet_13 : decode cX0_leastSet 13 = .ok (.isub, 1) := by decide +kernel
theorem dX0_leastSet_14 : decode cX0_leastSet 14 = .ok (.istore_n 3, 1) := by decide +kernel
theorem dX0_leastSet_15 : decode cX0_leastSet 15 = .ok (.iload_n 3, 1) := by decide +kernel
theorem dX0_leastSet_16 : decode cX0_leastSet 16 = .ok (.ifCond .lt 57, 3) := by decide +kernel
theorem dX0_leastSet_19 : decode cX0_leastSet 19 = .ok (.iload_n 3, 1) := by decide +kernel
theorem dX0_leastSet_20 : decode cX0_leastSet 20 = .ok (.bipush 6, 2) := by decide +kernel
theorem dX0_leastSet_22 : decode cX0_leastSet 22 = .ok (.if_icmp .gt 51, 3) := by decide +kernel
theorem dX0_leastSet_25 : decode cX0_leastSet 25 = .ok (.aload_n 0, 1) := by decide +kernel
theorem dX0_leastSet_26 : decode cX0_leastSet 26 = .ok (.getfield 11, 3) := by decide +kernel
theorem dX0_leastSet_29 : decode cX0_leastSet 29 = .ok (.iload_n 2, 1) := by decide +kernel
theorem dX0_leastSet_30 : decode cX0_leastSet 30 = .ok (.laload, 1) := by decide +kernel
theorem dX0_leastSet_31 : decode cX0_leastSet 31 = .ok (.getstatic 37, 3) := by decide +kernel
theorem dX0_leastSet_34 : decode cX0_leastSet 34 = .ok (.iload_n 3, 1) := by decide +kernel
theorem dX0_leastSet_35 : decode cX0_leastSet 35 = .ok (.laload, 1) := by decide +kernel
theorem dX0_leastSet_36 : decode cX0_leastSet 36 = .ok (.land, 1) := by decide +kernel
theorem dX0_leastSet_37 : decode cX0_leastSet 37 = .ok (.lconst 0, 1) := by decide +kernel
theorem dX0_leastSet_38 : decode cX0_leastSet 38 = .ok (.lcmp, 1) := by decide +kernel
theorem dX0_leastSet_39 : decode cX0_leastSet 39 = .ok (.ifCond .eq 34, 3) := by decide +kernel
theorem dX0_leastSet_42 : decode cX0_leastSet 42 = .ok (.aload_n 0, 1) := by decide +kernel
theorem dX0_leastSet_43 : decode cX0_leastSet 43 = .ok (.getfield 11, 3) := by decide +kernel
theorem dX0_leastSet_46 : decode cX0_leastSet 46 = .ok (.iload_n 2, 1) := by decide +kernel
theorem dX0_leastSet_47 : decode cX0_leastSet 47 = .ok (.laload, 1) := by decide +kernel
theorem dX0_leastSet_48 : decode cX0_leastSet 48 = .ok (.getstatic 37, 3) := by decide +kernel
theorem dX0_leastSet_51 : decode cX0_leastSet 51 = .ok (.iload_n 3, 1) := by decide +kernel
theorem dX0_leastSet_52 : decode cX0_leastSet 52 = .ok (.laload, 1) := by decide +kernel
theorem dX0_leastSet_53 : decode cX0_leastSet 53 = .ok (.land, 1) := by decide +kernel
theorem dX0_leastSet_54 : decode cX0_leastSet 54 = .ok (.lstore 4, 2) := by decide +kernel
theorem dX0_leastSet_56 : decode cX0_leastSet 56 = .ok (.iload_n 2, 1) := by decide +kernel
theorem dX0_leastSet_57 : decode cX0_leastSet 57 = .ok (.bipush 64, 2) := by decide +kernel
theorem dX0_leastSet_59 : decode cX0_leastSet 59 = .ok (.imul, 1) := by decide +kernel
theorem dX0_leastSet_60 : decode cX0_leastSet 60 = .ok (.lload 4, 2) := by decide +kernel
theorem dX0_leastSet_62 : decode cX0_leastSet 62 = .ok (.lload 4, 2) := by decide +kernel
theorem dX0_leastSet_64 : decode cX0_leastSet 64 = .ok (.lneg, 1) := by decide +kernel
theorem dX0_leastSet_65 : decode cX0_leastSet 65 = .ok (.land, 1) := by decide +kernel
theorem dX0_leastSet_66 : decode cX0_leastSet 66 = .ok (.lconst 1, 1) := by decide +kernel
theorem dX0_leastSet_67 : decode cX0_leastSet 67 = .ok (.lsub, 1) := by decide +kernel
theorem dX0_leastSet_68 : decode cX0_leastSet 68 = .ok (.invokestatic 40, 3) := by decide +kernel
theorem dX0_leastSet_71 : decode cX0_leastSet 71 = .ok (.iadd, 1) := by decide +kernel
theorem dX0_leastSet_72 : decode cX0_leastSet 72 = .ok (.ireturn, 1) := by decide +kernel
theorem dX0_leastSet_73 : decode cX0_leastSet 73 = .ok (.iinc 2 1, 3) := by decide +kernel
theorem dX0_leastSet_76 : decode cX0_leastSet 76 = .ok (.goto (-74), 3) := by decide +kernel
theorem dX0_leastSet_79 : decode cX0_leastSet 79 = .ok (.iconst 0, 1) := by decide +kernel
theorem dX0_leastSet_80 : decode cX0_leastSet 80 = .ok (.ireturn, 1) := by decide +kernel
theorem kfX0_11 : ux_FL RX0 11 0 0 := ⟨RX0, TX0, 2, rfl, lay_X0, by decide, tw_264⟩
theorem kaX0_18 : ux_LA RX0 18 := ⟨tw_512, tw_464, tw_463, tw_85⟩
theorem kfX0_15 : ux_FL RX0 15 0 1 := ⟨RX0, TX0, 2, rfl, lay_X0, by decide, tw_265⟩
theorem kvX0_24 : ux_LV RX0 24 0 yX0_joinLine cX0_joinLine 5 none 2 := ⟨⟨TX0, 2, rfl⟩, tw_513, tw_515, tw_5, tw_78, tw_516, ⟨by decide, by decide, by decide +kernel⟩⟩
theorem ksX0_31 : ux_LS RX0 31 yJ6_bitCount_0f7a4 cJ6_bitCount_0f7a4 1 (some .int) 1 := ⟨tw_523, tw_441, tw_84, tw_442, ⟨by decide, by decide, by decide +kernel⟩⟩
theorem ksX0_40 : ux_LS RX0 40 yJ13_bitCount_95d88 cJ13_bitCount_95d88 2 (some .int) 1 := ⟨tw_530, tw_531, tw_86, tw_532, ⟨by decide, by decide, by decide +kernel⟩⟩
def fX0_startWithEmptySet_9b (c0 : Nat) (v1 : Int32) (L : ux_L) : Option ((Int32 × ux_L) ⊕ (ux_L)) :=
  if (16 : Int32) ≤ v1 then (some (.inr (L))) else (if ux_in v1 16 then (some (.inl ((v1 + 1), (ux_w L (c0 + 1) (v1.toNatClampNeg) (0 : Int64))))) else none)
set_option maxHeartbeats 4000000 in
set_option maxRecDepth 20000 in
theorem wX0_startWithEmptySet_9b {X : ux_X} (C : ux_C X cX0_startWithEmptySet RX0 2 none 0 0 shC) {c0 : Nat} {v1 : Int32} (p0 : is_X0 c0) {N : ux_N} {L : ux_L} {o : (Int32 × ux_L) ⊕ (ux_L)} (hin : ∀ s : Int32 × ux_L, o = .inl s → ux_Wt X 2 9 [(0, .ref (ux_ad X c0)), (1, .int s.1)] [] N s.2) (hex0 : ∀ e : ux_L, o = .inr (e) → ux_Wt X 2 28 [] [] N e) (h : fX0_startWithEmptySet_9b c0 v1 L = some o) : ux_Wt X 2 9 [(0, .ref (ux_ad X c0)), (1, .int v1)] [] N L := by
  refine wt_iload_n 10 1 C dX0_startWithEmptySet_9 rfl rfl ?_
  refine wt_bipush 12 16 C dX0_startWithEmptySet_10 rfl (by decide) ?_
  refine wt_icmp_ge 15 28 C dX0_startWithEmptySet_12 rfl (by decide) (fun q1 => ?_) (fun q1 => ?_)
  · have h := (if_pos q1).symm.trans h
    refine wt_sub [] rfl ?_
    exact hex0 _ (Option.some.inj h).symm
  · have h := (if_neg q1).symm.trans h
    refine wt_aload_n 16 0 C dX0_startWithEmptySet_15 rfl rfl ?_
    refine wt_getR 19 C kfX0_11 (p0).1 rfl dX0_startWithEmptySet_16 rfl ?_
    refine wt_iload_n 20 1 C dX0_startWithEmptySet_19 rfl rfl ?_
    refine wt_lconst 21 0 C dX0_startWithEmptySet_20 rfl (by decide) ?_
    obtain ⟨hi2, h⟩ := ux_guard h
    refine wt_last 22 (v1.toNatClampNeg) C (p0).2.1 rfl hi2 dX0_startWithEmptySet_21 rfl ?_
    refine wt_iinc 25 1 [(1, .int (v1 + 1)), (0, .ref (ux_ad X c0))] (v1 + 1) C dX0_startWithEmptySet_22 rfl rfl (by rfl) (by decide) rfl ?_
    refine wt_goto 9 C dX0_startWithEmptySet_25 (by decide) ?_
    refine wt_sub [1, 0] rfl ?_
    exact hin _ (Option.some.inj h).symm
def fX0_startWithEmptySet (c0 : Nat) (L : ux_L) : Option (ux_L) :=
  (ux_lp (fun s : Int32 × ux_L => fX0_startWithEmptySet_9b c0 s.1 s.2) ux_fu ((1 : Int32), (ux_w L (c0 + 1) 0 (1 : Int64)))).bind (fun e8 => some e8)
set_option maxHeartbeats 4000000 in
set_option maxRecDepth 20000 in
theorem wX0_startWithEmptySet {X : ux_X} (C : ux_C X cX0_startWithEmptySet RX0 2 none 0 0 shC) {c0 : Nat} (p0 : is_X0 c0) {N : ux_N} {L : ux_L} {o : ux_L} (hq : ux_Qv X N o) (h : fX0_startWithEmptySet c0 L = some o) : ux_Wt X 2 0 [(0, .ref (ux_ad X c0))] [] N L := by
  refine wt_aload_n 1 0 C dX0_startWithEmptySet_0 rfl rfl ?_
  refine wt_getR 4 C kfX0_11 (p0).1 rfl dX0_startWithEmptySet_1 rfl ?_
  refine wt_iconst 5 0 C dX0_startWithEmptySet_4 rfl (by decide) ?_
  refine wt_lconst 6 1 C dX0_startWithEmptySet_5 rfl (by decide) ?_
  refine wt_last 7 0 C (p0).2.1 (by decide) (by decide) dX0_startWithEmptySet_6 rfl ?_
  refine wt_iconst 8 1 C dX0_startWithEmptySet_7 rfl (by decide) ?_
  refine wt_istore_n 9 [(1, .int (1 : Int32)), (0, .ref (ux_ad X c0))] C dX0_startWithEmptySet_8 rfl (by decide) rfl ?_
  obtain ⟨e1, hl2, h⟩ := Option.bind_eq_some_iff.mp h
  refine wt_sub [1, 0] rfl ?_
  refine ux_loop (fun s : Int32 × ux_L => fX0_startWithEmptySet_9b c0 s.1 s.2) (fun s : Int32 × ux_L => ux_Wt X 2 9 [(0, .ref (ux_ad X c0)), (1, .int s.1)] [] N s.2) (e := e1) ?_ hl2
  intro s3 o4 hb5 hi6 hx7
  refine wX0_startWithEmptySet_9b C p0 hi6 (fun x0 he => ?_) hb5
  · obtain ⟨e8, rfl⟩ : ∃ z, z = x0 := ⟨_, rfl⟩
    have h9 := hx7 _ he
    subst h9
    cases h
    exact wt_vret C hq dX0_startWithEmptySet_28
theorem mX0_startWithEmptySet {l : Launch} {G : ux_G} (hok : ux_ok G shC) {c0 : Nat} (p0 : is_X0 c0) {N : ux_N} {L : ux_L} {o : ux_L} (h : fX0_startWithEmptySet c0 L = some o) : ux_Mv l G yX0_startWithEmptySet cX0_startWithEmptySet 2 0 0 [.ref (gad G c0)] N L N o :=
  ux_ofv shC hok (by decide +kernel) (Nat.le_of_ble_eq_true rfl) (fun X hG hl C hq => by subst hG; subst hl; exact wX0_startWithEmptySet C p0 hq h)
def fX0_copyFrom (c0 : Nat) (c1 : Nat) (L : ux_L) : Option (ux_L) :=
  some (ux_cpL L (c1 + 1) (c0 + 1) 0 0 16)
set_option maxHeartbeats 4000000 in
set_option maxRecDepth 20000 in
theorem wX0_copyFrom {X : ux_X} (C : ux_C X cX0_copyFrom RX0 2 none 1 60 shC) {c0 : Nat} {c1 : Nat} (p0 : is_X0 c0) (p1 : is_X0 c1) {N : ux_N} {L : ux_L} {o : ux_L} (hq : ux_Qv X N o) (h : fX0_copyFrom c0 c1 L = some o) : ux_Wt X 2 0 [(0, .ref (ux_ad X c0)), (1, .ref (ux_ad X c1))] [] N L := by
  refine wt_aload_n 1 1 C dX0_copyFrom_0 rfl rfl ?_
  refine wt_getR 4 C kfX0_11 (p1).1 rfl dX0_copyFrom_1 rfl ?_
  refine wt_iconst 5 0 C dX0_copyFrom_4 rfl (by decide) ?_
  refine wt_aload_n 6 0 C dX0_copyFrom_5 rfl rfl ?_
  refine wt_getR 9 C kfX0_11 (p0).1 rfl dX0_copyFrom_6 rfl ?_
  refine wt_iconst 10 0 C dX0_copyFrom_9 rfl (by decide) ?_
  refine wt_bipush 12 16 C dX0_copyFrom_10 rfl (by decide) ?_
  refine wt_copyL 15 0 0 16 C kaX0_18 (p1).2.1 (p0).2.1 (by decide) (by decide) (by decide) (by decide) (by decide) (by decide) (by decide) (by decide) (by decide) (Nat.le_of_ble_eq_true rfl) dX0_copyFrom_12 rfl ?_
  cases h
  exact wt_vret C hq dX0_copyFrom_15
theorem mX0_copyFrom {l : Launch} {G : ux_G} (hok : ux_ok G shC) {c0 : Nat} {c1 : Nat} (p0 : is_X0 c0) (p1 : is_X0 c1) {N : ux_N} {L : ux_L} {o : ux_L} (h : fX0_copyFrom c0 c1 L = some o) : ux_Mv l G yX0_copyFrom cX0_copyFrom 2 1 60 [.ref (gad G c0), .ref (gad G c1)] N L N o :=
  ux_ofv shC hok (by decide +kernel) (Nat.le_of_ble_eq_true rfl) (fun X hG hl C hq => by subst hG; subst hl; exact wX0_copyFrom C p0 p1 hq h)
def fX0_include_30 (c0 : Nat) (L : ux_L) : Option (ux_L) :=
  some L
set_option maxHeartbeats 4000000 in
set_option maxRecDepth 20000 in
theorem wX0_include_30 {X : ux_X} (C : ux_C X cX0_include RX0 3 none 0 0 shC) {c0 : Nat} (p0 : is_X0 c0) {N : ux_N} {L : ux_L} {o : ux_L} (hq : ux_Qv X N o) (h : fX0_include_30 c0 L = some o) : ux_Wt X 3 30 [] [] N L := by
  cases h
  exact wt_vret C hq dX0_include_30
def fX0_include (c0 : Nat) (v1 : Int32) (L : ux_L) : Option (ux_L) :=
  if (v1 / (64 : Int32)) < 0 then (fX0_include_30 c0 L) else (if (16 : Int32) ≤ (v1 / (64 : Int32)) then (fX0_include_30 c0 L) else (if ux_in (v1 / (64 : Int32)) 16 then (if ux_in (v1 / (64 : Int32)) 16 then (fX0_include_30 c0 (ux_w L (c0 + 1) ((v1 / (64 : Int32)).toNatClampNeg) ((L (c0 + 1) ((v1 / (64 : Int32)).toNatClampNeg)) ||| ((1 : Int64) <<< ((v1 - v1 / (64 : Int32) * (64 : Int32)).toInt64 &&& 63))))) else none) else none))
set_option maxHeartbeats 4000000 in
set_option maxRecDepth 20000 in
theorem wX0_include {X : ux_X} (C : ux_C X cX0_include RX0 3 none 0 0 shC) {c0 : Nat} {v1 : Int32} (p0 : is_X0 c0) {N : ux_N} {L : ux_L} {o : ux_L} (hq : ux_Qv X N o) (h : fX0_include c0 v1 L = some o) : ux_Wt X 3 0 [(0, .ref (ux_ad X c0)), (1, .int v1)] [] N L := by
  refine wt_iload_n 1 1 C dX0_include_0 rfl rfl ?_
  refine wt_bipush 3 64 C dX0_include_1 rfl (by decide) ?_
  refine wt_idiv 4 C dX0_include_3 rfl (by decide) ?_
  refine wt_istore_n 5 [(2, .int (v1 / (64 : Int32))), (0, .ref (ux_ad X c0)), (1, .int v1)] C dX0_include_4 rfl (by decide) rfl ?_
  refine wt_iload_n 6 0 C dX0_include_5 rfl rfl ?_
  refine wt_if_lt 9 30 C dX0_include_6 rfl (by decide) (fun q1 => ?_) (fun q1 => ?_)
  · have h := (if_pos q1).symm.trans h
    refine wt_sub [] rfl ?_
    exact wX0_include_30 C p0 hq h
  · have h := (if_neg q1).symm.trans h
    refine wt_iload_n 10 0 C dX0_include_9 rfl rfl ?_
    refine wt_bipush 12 16 C dX0_include_10 rfl (by decide) ?_
    refine wt_icmp_ge 15 30 C dX0_include_12 rfl (by decide) (fun q2 => ?_) (fun q2 => ?_)
    · have h := (if_pos q2).symm.trans h
      refine wt_sub [] rfl ?_
      exact wX0_include_30 C p0 hq h
    · have h := (if_neg q2).symm.trans h
      refine wt_aload_n 16 1 C dX0_include_15 rfl rfl ?_
      refine wt_getR 19 C kfX0_11 (p0).1 rfl dX0_include_16 rfl ?_
      refine wt_iload_n 20 0 C dX0_include_19 rfl rfl ?_
      refine wt_dup2 21 C dX0_include_20 rfl rfl rfl ?_
      obtain ⟨hi3, h⟩ := ux_guard h
      refine wt_lald 22 ((v1 / (64 : Int32)).toNatClampNeg) C (p0).2.1 rfl hi3 dX0_include_21 rfl ?_
      refine wt_lconst 23 1 C dX0_include_22 rfl (by decide) ?_
      refine wt_iload_n 24 2 C dX0_include_23 rfl rfl ?_
      refine wt_bipush 26 64 C dX0_include_24 rfl (by decide) ?_
      refine wt_irem 27 C dX0_include_26 rfl (by decide) ?_
      refine wt_lshl 28 C dX0_include_27 rfl ?_
      refine wt_lor 29 C dX0_include_28 rfl ?_
      obtain ⟨hi4, h⟩ := ux_guard h
      refine wt_last 30 ((v1 / (64 : Int32)).toNatClampNeg) C (p0).2.1 rfl hi4 dX0_include_29 rfl ?_
      refine wt_sub [] rfl ?_
      exact wX0_include_30 C p0 hq h
theorem mX0_include {l : Launch} {G : ux_G} (hok : ux_ok G shC) {c0 : Nat} {v1 : Int32} (p0 : is_X0 c0) {N : ux_N} {L : ux_L} {o : ux_L} (h : fX0_include c0 v1 L = some o) : ux_Mv l G yX0_include cX0_include 3 0 0 [.ref (gad G c0), .int v1] N L N o :=
  ux_ofv shC hok (by decide +kernel) (Nat.le_of_ble_eq_true rfl) (fun X hG hl C hq => by subst hG; subst hl; exact wX0_include C p0 hq h)
def fX0_holds_38 (c0 : Nat) (s0 : Int32) (L : ux_L) : Option (Int32) :=
  if ux_b s0 then (some s0) else none
set_option maxHeartbeats 4000000 in
set_option maxRecDepth 20000 in
theorem wX0_holds_38 {X : ux_X} (C : ux_C X cX0_holds RX0 3 (some .boolean) 0 0 shC) {c0 : Nat} {s0 : Int32} (p0 : is_X0 c0) {N : ux_N} {L : ux_L} {o : Int32} (hq : ux_Qi X o N L) (h : fX0_holds_38 c0 s0 L = some o) : ux_Wt X 3 38 [] [.int s0] N L := by
  obtain ⟨hb1, h⟩ := ux_guard h
  cases h
  exact wt_zret C (ux_b_n hb1).1 hq dX0_holds_38
def fX0_holds_37 (c0 : Nat) (L : ux_L) : Option (Int32) :=
  fX0_holds_38 c0 (0 : Int32) L
set_option maxHeartbeats 4000000 in
set_option maxRecDepth 20000 in
theorem wX0_holds_37 {X : ux_X} (C : ux_C X cX0_holds RX0 3 (some .boolean) 0 0 shC) {c0 : Nat} (p0 : is_X0 c0) {N : ux_N} {L : ux_L} {o : Int32} (hq : ux_Qi X o N L) (h : fX0_holds_37 c0 L = some o) : ux_Wt X 3 37 [] [] N L := by
  refine wt_iconst 38 0 C dX0_holds_37 rfl (by decide) ?_
  exact wX0_holds_38 C p0 hq h
def fX0_holds (c0 : Nat) (v1 : Int32) (L : ux_L) : Option (Int32) :=
  if (v1 / (64 : Int32)) < 0 then (fX0_holds_37 c0 L) else (if (16 : Int32) ≤ (v1 / (64 : Int32)) then (fX0_holds_37 c0 L) else (if ux_in (v1 / (64 : Int32)) 16 then (if (lg_cmp (((L (c0 + 1) ((v1 / (64 : Int32)).toNatClampNeg)) >>> ((v1 - v1 / (64 : Int32) * (64 : Int32)).toInt64 &&& 63)) &&& (1 : Int64)) (1 : Int64)) = 0 then (fX0_holds_38 c0 (1 : Int32) L) else (fX0_holds_37 c0 L)) else none))
set_option maxHeartbeats 4000000 in
set_option maxRecDepth 20000 in
theorem wX0_holds {X : ux_X} (C : ux_C X cX0_holds RX0 3 (some .boolean) 0 0 shC) {c0 : Nat} {v1 : Int32} (p0 : is_X0 c0) {N : ux_N} {L : ux_L} {o : Int32} (hq : ux_Qi X o N L) (h : fX0_holds c0 v1 L = some o) : ux_Wt X 3 0 [(0, .ref (ux_ad X c0)), (1, .int v1)] [] N L := by
  refine wt_iload_n 1 1 C dX0_holds_0 rfl rfl ?_
  refine wt_bipush 3 64 C dX0_holds_1 rfl (by decide) ?_
  refine wt_idiv 4 C dX0_holds_3 rfl (by decide) ?_
  refine wt_istore_n 5 [(2, .int (v1 / (64 : Int32))), (0, .ref (ux_ad X c0)), (1, .int v1)] C dX0_holds_4 rfl (by decide) rfl ?_
  refine wt_iload_n 6 0 C dX0_holds_5 rfl rfl ?_
  refine wt_if_lt 9 37 C dX0_holds_6 rfl (by decide) (fun q1 => ?_) (fun q1 => ?_)
  · have h := (if_pos q1).symm.trans h
    refine wt_sub [] rfl ?_
    exact wX0_holds_37 C p0 hq h
  · have h := (if_neg q1).symm.trans h
    refine wt_iload_n 10 0 C dX0_holds_9 rfl rfl ?_
    refine wt_bipush 12 16 C dX0_holds_10 rfl (by decide) ?_
    refine wt_icmp_ge 15 37 C dX0_holds_12 rfl (by decide) (fun q2 => ?_) (fun q2 => ?_)
    · have h := (if_pos q2).symm.trans h
      refine wt_sub [] rfl ?_
      exact wX0_holds_37 C p0 hq h
    · have h := (if_neg q2).symm.trans h
      refine wt_aload_n 16 1 C dX0_holds_15 rfl rfl ?_
      refine wt_getR 19 C kfX0_11 (p0).1 rfl dX0_holds_16 rfl ?_
      refine wt_iload_n 20 0 C dX0_holds_19 rfl rfl ?_
      obtain ⟨hi3, h⟩ := ux_guard h
      refine wt_lald 21 ((v1 / (64 : Int32)).toNatClampNeg) C (p0).2.1 rfl hi3 dX0_holds_20 rfl ?_
      refine wt_iload_n 22 2 C dX0_holds_21 rfl rfl ?_
      refine wt_bipush 24 64 C dX0_holds_22 rfl (by decide) ?_
      refine wt_irem 25 C dX0_holds_24 rfl (by decide) ?_
      refine wt_lshr 26 C dX0_holds_25 rfl ?_
      refine wt_lconst 27 1 C dX0_holds_26 rfl (by decide) ?_
      refine wt_land 28 C dX0_holds_27 rfl ?_
      refine wt_lconst 29 1 C dX0_holds_28 rfl (by decide) ?_
      refine wt_lcmp 30 C dX0_holds_29 rfl ?_
      refine wt_if_ne 33 37 C dX0_holds_30 rfl (by decide) (fun q4 => ?_) (fun q4 => ?_)
      · have h := (if_neg q4).symm.trans h
        refine wt_sub [] rfl ?_
        exact wX0_holds_37 C p0 hq h
      · have h := (if_pos q4).symm.trans h
        refine wt_iconst 34 1 C dX0_holds_33 rfl (by decide) ?_
        refine wt_goto 38 C dX0_holds_34 (by decide) ?_
        refine wt_sub [] rfl ?_
        exact wX0_holds_38 C p0 hq h
theorem mX0_holds {l : Launch} {G : ux_G} (hok : ux_ok G shC) {c0 : Nat} {v1 : Int32} (p0 : is_X0 c0) {N : ux_N} {L : ux_L} {o : Int32} (h : fX0_holds c0 v1 L = some o) : ux_Mi l G yX0_holds cX0_holds 3 (some .boolean) 0 0 [.ref (gad G c0), .int v1] N L o N L :=
  ux_ofi shC hok (by decide +kernel) (Nat.le_of_ble_eq_true rfl) (fun X hG hl C hq => by subst hG; subst hl; exact wX0_holds C p0 hq h)
def fX0_joinLine_63b_108 (c0 : Nat) (c2 : Nat) (v3 : Int32) (v4 : Int32) (L : ux_L) : Option ((Int32 × ux_L) ⊕ (ux_L)) :=
  some (.inl ((v4 + 1), L))
set_option maxHeartbeats 4000000 in
set_option maxRecDepth 20000 in
theorem wX0_joinLine_63b_108 {X : ux_X} (C : ux_C X cX0_joinLine RX0 5 none 0 0 shC) {c0 : Nat} {c2 : Nat} {v3 : Int32} {v4 : Int32} (p0 : is_X0 c0) (p2 : is_X0 c2) {N : ux_N} {L : ux_L} {o : (Int32 × ux_L) ⊕ (ux_L)} (hin : ∀ s : Int32 × ux_L, o = .inl s → ux_Wt X 5 63 [(0, .ref (ux_ad X c0)), (2, .ref (ux_ad X c2)), (3, .int v3), (4, .int s.1)] [] N s.2) (hex0 : ∀ e : ux_L, o = .inr (e) → ux_Wt X 5 114 [] [] N e) (h : fX0_joinLine_63b_108 c0 c2 v3 v4 L = some o) : ux_Wt X 5 108 [(0, .ref (ux_ad X c0)), (2, .ref (ux_ad X c2)), (3, .int v3), (4, .int v4)] [] N L := by
  refine wt_iinc 111 3 [(4, .int (v4 + 1)), (0, .ref (ux_ad X c0)), (2, .ref (ux_ad X c2)), (3, .int v3)] (v4 + 1) C dX0_joinLine_108 rfl rfl (by rfl) (by decide) rfl ?_
  refine wt_goto 63 C dX0_joinLine_111 (by decide) ?_
  refine wt_sub [1, 2, 3, 0] rfl ?_
  exact hin _ (Option.some.inj h).symm
def fX0_joinLine_63b (c0 : Nat) (c2 : Nat) (v3 : Int32) (v4 : Int32) (L : ux_L) : Option ((Int32 × ux_L) ⊕ (ux_L)) :=
  if (16 : Int32) ≤ (v4 + v3) then (some (.inr (L))) else (if (v4 &&& v3) = 0 then (if ux_in (v4 + v3) 16 then (if ux_in v4 16 then (if ux_in (v4 + v3) 16 then (if ux_in (v4 + v3) 16 then (fX0_joinLine_63b_108 c0 c2 v3 v4 (ux_w L (c0 + 1) ((v4 + v3).toNatClampNeg) ((L (c0 + 1) ((v4 + v3).toNatClampNeg)) ||| ((L (c0 + 2) (v4.toNatClampNeg)) &&& (L (c2 + 1) ((v4 + v3).toNatClampNeg)))))) else none) else none) else none) else none) else (fX0_joinLine_63b_108 c0 c2 v3 v4 L))
set_option maxHeartbeats 4000000 in
set_option maxRecDepth 20000 in
theorem wX0_joinLine_63b {X : ux_X} (C : ux_C X cX0_joinLine RX0 5 none 0 0 shC) {c0 : Nat} {c2 : Nat} {v3 : Int32} {v4 : Int32} (p0 : is_X0 c0) (p2 : is_X0 c2) {N : ux_N} {L : ux_L} {o : (Int32 × ux_L) ⊕ (ux_L)} (hin : ∀ s : Int32 × ux_L, o = .inl s → ux_Wt X 5 63 [(0, .ref (ux_ad X c0)), (2, .ref (ux_ad X c2)), (3, .int v3), (4, .int s.1)] [] N s.2) (hex0 : ∀ e : ux_L, o = .inr (e) → ux_Wt X 5 114 [] [] N e) (h : fX0_joinLine_63b c0 c2 v3 v4 L = some o) : ux_Wt X 5 63 [(0, .ref (ux_ad X c0)), (2, .ref (ux_ad X c2)), (3, .int v3), (4, .int v4)] [] N L := by
  refine wt_iload 65 3 C dX0_joinLine_63 rfl rfl ?_
  refine wt_iload_n 66 2 C dX0_joinLine_65 rfl rfl ?_
  refine wt_iadd 67 C dX0_joinLine_66 rfl ?_
  refine wt_bipush 69 16 C dX0_joinLine_67 rfl (by decide) ?_
  refine wt_icmp_ge 72 114 C dX0_joinLine_69 rfl (by decide) (fun q1 => ?_) (fun q1 => ?_)
  · have h := (if_pos q1).symm.trans h
    refine wt_sub [] rfl ?_
    exact hex0 _ (Option.some.inj h).symm
  · have h := (if_neg q1).symm.trans h
    refine wt_iload 74 3 C dX0_joinLine_72 rfl rfl ?_
    refine wt_iload_n 75 2 C dX0_joinLine_74 rfl rfl ?_
    refine wt_iand 76 C dX0_joinLine_75 rfl ?_
    refine wt_if_ne 79 108 C dX0_joinLine_76 rfl (by decide) (fun q2 => ?_) (fun q2 => ?_)
    · have h := (if_neg q2).symm.trans h
      exact wX0_joinLine_63b_108 C p0 p2 hin hex0 h
    · have h := (if_pos q2).symm.trans h
      refine wt_aload_n 80 0 C dX0_joinLine_79 rfl rfl ?_
      refine wt_getR 83 C kfX0_11 (p0).1 rfl dX0_joinLine_80 rfl ?_
      refine wt_iload 85 3 C dX0_joinLine_83 rfl rfl ?_
      refine wt_iload_n 86 2 C dX0_joinLine_85 rfl rfl ?_
      refine wt_iadd 87 C dX0_joinLine_86 rfl ?_
      refine wt_dup2 88 C dX0_joinLine_87 rfl rfl rfl ?_
      obtain ⟨hi3, h⟩ := ux_guard h
      refine wt_lald 89 ((v4 + v3).toNatClampNeg) C (p0).2.1 rfl hi3 dX0_joinLine_88 rfl ?_
      refine wt_aload_n 90 0 C dX0_joinLine_89 rfl rfl ?_
      refine wt_getR 93 C kfX0_15 (p0).1 rfl dX0_joinLine_90 rfl ?_
      refine wt_iload 95 3 C dX0_joinLine_93 rfl rfl ?_
      obtain ⟨hi4, h⟩ := ux_guard h
      refine wt_lald 96 (v4.toNatClampNeg) C (p0).2.2 rfl hi4 dX0_joinLine_95 rfl ?_
      refine wt_aload_n 97 1 C dX0_joinLine_96 rfl rfl ?_
      refine wt_getR 100 C kfX0_11 (p2).1 rfl dX0_joinLine_97 rfl ?_
      refine wt_iload 102 3 C dX0_joinLine_100 rfl rfl ?_
      refine wt_iload_n 103 2 C dX0_joinLine_102 rfl rfl ?_
      refine wt_iadd 104 C dX0_joinLine_103 rfl ?_
      obtain ⟨hi5, h⟩ := ux_guard h
      refine wt_lald 105 ((v4 + v3).toNatClampNeg) C (p2).2.1 rfl hi5 dX0_joinLine_104 rfl ?_
      refine wt_land 106 C dX0_joinLine_105 rfl ?_
      refine wt_lor 107 C dX0_joinLine_106 rfl ?_
      obtain ⟨hi6, h⟩ := ux_guard h
      refine wt_last 108 ((v4 + v3).toNatClampNeg) C (p0).2.1 rfl hi6 dX0_joinLine_107 rfl ?_
      exact wX0_joinLine_63b_108 C p0 p2 hin hex0 h
def fX0_joinLine_8b_45 (c0 : Nat) (c2 : Nat) (v1 : Int32) (v3 : Int32) (s0 : Int64) (s1 : Int32) (L : ux_L) : Option ((Int32 × ux_L) ⊕ (ux_L)) :=
  if ux_in s1 16 then (some (.inl ((v3 + 1), (ux_w L (c0 + 1) (s1.toNatClampNeg) s0)))) else none
set_option maxHeartbeats 4000000 in
set_option maxRecDepth 20000 in
theorem wX0_joinLine_8b_45 {X : ux_X} (C : ux_C X cX0_joinLine RX0 5 none 0 0 shC) {c0 : Nat} {c2 : Nat} {v1 : Int32} {v3 : Int32} {s0 : Int64} {s1 : Int32} (p0 : is_X0 c0) (p2 : is_X0 c2) {N : ux_N} {L : ux_L} {o : (Int32 × ux_L) ⊕ (ux_L)} (hin : ∀ s : Int32 × ux_L, o = .inl s → ux_Wt X 5 8 [(0, .ref (ux_ad X c0)), (1, .int v1), (2, .ref (ux_ad X c2)), (3, .int s.1)] [] N s.2) (hex0 : ∀ e : ux_L, o = .inr (e) → ux_Wt X 5 52 [] [] N e) (h : fX0_joinLine_8b_45 c0 c2 v1 v3 s0 s1 L = some o) : ux_Wt X 5 45 [(0, .ref (ux_ad X c0)), (1, .int v1), (2, .ref (ux_ad X c2)), (3, .int v3)] [.long s0, .int s1, .ref (ux_ad X (c0 + 1))] N L := by
  obtain ⟨hi1, h⟩ := ux_guard h
  refine wt_last 46 (s1.toNatClampNeg) C (p0).2.1 rfl hi1 dX0_joinLine_45 rfl ?_
  refine wt_iinc 49 3 [(3, .int (v3 + 1)), (0, .ref (ux_ad X c0)), (1, .int v1), (2, .ref (ux_ad X c2))] (v3 + 1) C dX0_joinLine_46 rfl rfl (by rfl) (by decide) rfl ?_
  refine wt_goto 8 C dX0_joinLine_49 (by decide) ?_
  refine wt_sub [1, 2, 3, 0] rfl ?_
  exact hin _ (Option.some.inj h).symm
def fX0_joinLine_8b (c0 : Nat) (c2 : Nat) (v1 : Int32) (v3 : Int32) (L : ux_L) : Option ((Int32 × ux_L) ⊕ (ux_L)) :=
  if (16 : Int32) ≤ v3 then (some (.inr (L))) else (if ux_in v3 16 then (if ux_in v3 16 then (if ux_in v1 6 then (if ux_in v3 16 then (fX0_joinLine_8b_45 c0 c2 v1 v3 ((L (c0 + 1) (v3.toNatClampNeg)) ||| ((((L (c0 + 2) (v3.toNatClampNeg)) &&& (tb_lack.getD v1.toNatClampNeg 0)) <<< (((1 : Int32) <<< (v1 &&& 31)).toInt64 &&& 63)) &&& (L (c2 + 1) (v3.toNatClampNeg)))) v3 L) else none) else none) else none) else none)
set_option maxHeartbeats 4000000 in
set_option maxRecDepth 20000 in
theorem wX0_joinLine_8b {X : ux_X} (C : ux_C X cX0_joinLine RX0 5 none 0 0 shC) {c0 : Nat} {c2 : Nat} {v1 : Int32} {v3 : Int32} (p0 : is_X0 c0) (p2 : is_X0 c2) {N : ux_N} {L : ux_L} {o : (Int32 × ux_L) ⊕ (ux_L)} (hin : ∀ s : Int32 × ux_L, o = .inl s → ux_Wt X 5 8 [(0, .ref (ux_ad X c0)), (1, .int v1), (2, .ref (ux_ad X c2)), (3, .int s.1)] [] N s.2) (hex0 : ∀ e : ux_L, o = .inr (e) → ux_Wt X 5 52 [] [] N e) (h : fX0_joinLine_8b c0 c2 v1 v3 L = some o) : ux_Wt X 5 8 [(0, .ref (ux_ad X c0)), (1, .int v1), (2, .ref (ux_ad X c2)), (3, .int v3)] [] N L := by
  refine wt_iload_n 9 3 C dX0_joinLine_8 rfl rfl ?_
  refine wt_bipush 11 16 C dX0_joinLine_9 rfl (by decide) ?_
  refine wt_icmp_ge 14 52 C dX0_joinLine_11 rfl (by decide) (fun q1 => ?_) (fun q1 => ?_)
  · have h := (if_pos q1).symm.trans h
    refine wt_sub [] rfl ?_
    exact hex0 _ (Option.some.inj h).symm
  · have h := (if_neg q1).symm.trans h
    refine wt_aload_n 15 0 C dX0_joinLine_14 rfl rfl ?_
    refine wt_getR 18 C kfX0_11 (p0).1 rfl dX0_joinLine_15 rfl ?_
    refine wt_iload_n 19 3 C dX0_joinLine_18 rfl rfl ?_
    refine wt_dup2 20 C dX0_joinLine_19 rfl rfl rfl ?_
    obtain ⟨hi2, h⟩ := ux_guard h
    refine wt_lald 21 (v3.toNatClampNeg) C (p0).2.1 rfl hi2 dX0_joinLine_20 rfl ?_
    refine wt_aload_n 22 0 C dX0_joinLine_21 rfl rfl ?_
    refine wt_getR 25 C kfX0_15 (p0).1 rfl dX0_joinLine_22 rfl ?_
    refine wt_iload_n 26 3 C dX0_joinLine_25 rfl rfl ?_
    obtain ⟨hi3, h⟩ := ux_guard h
    refine wt_lald 27 (v3.toNatClampNeg) C (p0).2.2 rfl hi3 dX0_joinLine_26 rfl ?_
    refine wt_getsL 30 C tw_517 dX0_joinLine_27 rfl ?_
    refine wt_iload_n 31 1 C dX0_joinLine_30 rfl rfl ?_
    obtain ⟨hi4, h⟩ := ux_guard h
    refine wt_tldL 32 (v1.toNatClampNeg) C rfl hi4 dX0_joinLine_31 rfl ?_
    refine wt_land 33 C dX0_joinLine_32 rfl ?_
    refine wt_iconst 34 1 C dX0_joinLine_33 rfl (by decide) ?_
    refine wt_iload_n 35 1 C dX0_joinLine_34 rfl rfl ?_
    refine wt_ishl 36 C dX0_joinLine_35 rfl ?_
    refine wt_lshl 37 C dX0_joinLine_36 rfl ?_
    refine wt_aload_n 38 2 C dX0_joinLine_37 rfl rfl ?_
    refine wt_getR 41 C kfX0_11 (p2).1 rfl dX0_joinLine_38 rfl ?_
    refine wt_iload_n 42 3 C dX0_joinLine_41 rfl rfl ?_
    obtain ⟨hi5, h⟩ := ux_guard h
    refine wt_lald 43 (v3.toNatClampNeg) C (p2).2.1 rfl hi5 dX0_joinLine_42 rfl ?_
    refine wt_land 44 C dX0_joinLine_43 rfl ?_
    refine wt_lor 45 C dX0_joinLine_44 rfl ?_
    exact wX0_joinLine_8b_45 C p0 p2 hin hex0 h
def fX0_joinLine (c0 : Nat) (c2 : Nat) (v1 : Int32) (L : ux_L) : Option (ux_L) :=
  if (6 : Int32) ≤ v1 then ((ux_lp (fun s : Int32 × ux_L => fX0_joinLine_63b c0 c2 ((1 : Int32) <<< ((v1 - (6 : Int32)) &&& 31)) s.1 s.2) ux_fu ((0 : Int32), L)).bind (fun e9 => some e9)) else ((ux_lp (fun s : Int32 × ux_L => fX0_joinLine_8b c0 c2 v1 s.1 s.2) ux_fu ((0 : Int32), L)).bind (fun e17 => some e17))
set_option maxHeartbeats 4000000 in
set_option maxRecDepth 20000 in
theorem wX0_joinLine {X : ux_X} (C : ux_C X cX0_joinLine RX0 5 none 0 0 shC) {c0 : Nat} {c2 : Nat} {v1 : Int32} (p0 : is_X0 c0) (p2 : is_X0 c2) {N : ux_N} {L : ux_L} {o : ux_L} (hq : ux_Qv X N o) (h : fX0_joinLine c0 c2 v1 L = some o) : ux_Wt X 5 0 [(0, .ref (ux_ad X c0)), (1, .int v1), (2, .ref (ux_ad X c2))] [] N L := by
  refine wt_iload_n 1 1 C dX0_joinLine_0 rfl rfl ?_
  refine wt_bipush 3 6 C dX0_joinLine_1 rfl (by decide) ?_
  refine wt_icmp_ge 6 53 C dX0_joinLine_3 rfl (by decide) (fun q1 => ?_) (fun q1 => ?_)
  · have h := (if_pos q1).symm.trans h
    refine wt_iconst 54 1 C dX0_joinLine_53 rfl (by decide) ?_
    refine wt_iload_n 55 1 C dX0_joinLine_54 rfl rfl ?_
    refine wt_bipush 57 6 C dX0_joinLine_55 rfl (by decide) ?_
    refine wt_isub 58 C dX0_joinLine_57 rfl ?_
    refine wt_ishl 59 C dX0_joinLine_58 rfl ?_
    refine wt_istore_n 60 [(3, .int ((1 : Int32) <<< ((v1 - (6 : Int32)) &&& 31))), (0, .ref (ux_ad X c0)), (1, .int v1), (2, .ref (ux_ad X c2))] C dX0_joinLine_59 rfl (by decide) rfl ?_
    refine wt_iconst 61 0 C dX0_joinLine_60 rfl (by decide) ?_
    refine wt_istore 63 [(4, .int (0 : Int32)), (3, .int ((1 : Int32) <<< ((v1 - (6 : Int32)) &&& 31))), (0, .ref (ux_ad X c0)), (1, .int v1), (2, .ref (ux_ad X c2))] C dX0_joinLine_61 rfl (by decide) rfl ?_
    obtain ⟨e2, hl3, h⟩ := Option.bind_eq_some_iff.mp h
    refine wt_sub [2, 4, 1, 0] rfl ?_
    refine ux_loop (fun s : Int32 × ux_L => fX0_joinLine_63b c0 c2 ((1 : Int32) <<< ((v1 - (6 : Int32)) &&& 31)) s.1 s.2) (fun s : Int32 × ux_L => ux_Wt X 5 63 [(0, .ref (ux_ad X c0)), (2, .ref (ux_ad X c2)), (3, .int ((1 : Int32) <<< ((v1 - (6 : Int32)) &&& 31))), (4, .int s.1)] [] N s.2) (e := e2) ?_ hl3
    intro s4 o5 hb6 hi7 hx8
    refine wX0_joinLine_63b C p0 p2 hi7 (fun x0 he => ?_) hb6
    · obtain ⟨e9, rfl⟩ : ∃ z, z = x0 := ⟨_, rfl⟩
      have h9 := hx8 _ he
      subst h9
      cases h
      exact wt_vret C hq dX0_joinLine_114
  · have h := (if_neg q1).symm.trans h
    refine wt_iconst 7 0 C dX0_joinLine_6 rfl (by decide) ?_
    refine wt_istore_n 8 [(3, .int (0 : Int32)), (0, .ref (ux_ad X c0)), (1, .int v1), (2, .ref (ux_ad X c2))] C dX0_joinLine_7 rfl (by decide) rfl ?_
    obtain ⟨e10, hl11, h⟩ := Option.bind_eq_some_iff.mp h
    refine wt_sub [1, 2, 3, 0] rfl ?_
    refine ux_loop (fun s : Int32 × ux_L => fX0_joinLine_8b c0 c2 v1 s.1 s.2) (fun s : Int32 × ux_L => ux_Wt X 5 8 [(0, .ref (ux_ad X c0)), (1, .int v1), (2, .ref (ux_ad X c2)), (3, .int s.1)] [] N s.2) (e := e10) ?_ hl11
    intro s12 o13 hb14 hi15 hx16
    refine wX0_joinLine_8b C p0 p2 hi15 (fun x0 he => ?_) hb14
    · obtain ⟨e17, rfl⟩ : ∃ z, z = x0 := ⟨_, rfl⟩
      have h9 := hx16 _ he
      subst h9
      cases h
      exact wt_vret C hq dX0_joinLine_52
theorem mX0_joinLine {l : Launch} {G : ux_G} (hok : ux_ok G shC) {c0 : Nat} {v1 : Int32} {c2 : Nat} (p0 : is_X0 c0) (p2 : is_X0 c2) {N : ux_N} {L : ux_L} {o : ux_L} (h : fX0_joinLine c0 c2 v1 L = some o) : ux_Mv l G yX0_joinLine cX0_joinLine 5 0 0 [.ref (gad G c0), .int v1, .ref (gad G c2)] N L N o :=
  ux_ofv shC hok (by decide +kernel) (Nat.le_of_ble_eq_true rfl) (fun X hG hl C hq => by subst hG; subst hl; exact wX0_joinLine C p0 p2 hq h)
def fX0_joinMeter_17b_38 (c0 : Nat) (c2 : Nat) (v1 : Int32) (v3 : Int32) (L : ux_L) : Option ((Int32 × ux_L) ⊕ (ux_L)) :=
  some (.inl ((v3 + 1), L))
set_option maxHeartbeats 4000000 in
set_option maxRecDepth 20000 in
theorem wX0_joinMeter_17b_38 {X : ux_X} (C : ux_C X cX0_joinMeter RX0 4 none 1 60 shC) {c0 : Nat} {c2 : Nat} {v1 : Int32} {v3 : Int32} (p0 : is_X0 c0) (p2 : is_X0 c2) {N : ux_N} {L : ux_L} {o : (Int32 × ux_L) ⊕ (ux_L)} (hin : ∀ s : Int32 × ux_L, o = .inl s → ux_Wt X 4 17 [(0, .ref (ux_ad X c0)), (1, .int v1), (2, .ref (ux_ad X c2)), (3, .int s.1)] [] N s.2) (hex0 : ∀ e : ux_L, o = .inr (e) → ux_Wt X 4 44 [] [] N e) (h : fX0_joinMeter_17b_38 c0 c2 v1 v3 L = some o) : ux_Wt X 4 38 [(0, .ref (ux_ad X c0)), (1, .int v1), (2, .ref (ux_ad X c2)), (3, .int v3)] [] N L := by
  refine wt_iinc 41 3 [(3, .int (v3 + 1)), (0, .ref (ux_ad X c0)), (1, .int v1), (2, .ref (ux_ad X c2))] (v3 + 1) C dX0_joinMeter_38 rfl rfl (by rfl) (by decide) rfl ?_
  refine wt_goto 17 C dX0_joinMeter_41 (by decide) ?_
  refine wt_sub [1, 2, 3, 0] rfl ?_
  exact hin _ (Option.some.inj h).symm
def fX0_joinMeter_17b (c0 : Nat) (c2 : Nat) (v1 : Int32) (v3 : Int32) (L : ux_L) : Option ((Int32 × ux_L) ⊕ (ux_L)) :=
  if (10 : Int32) ≤ v3 then (some (.inr (L))) else (if ((v1 >>> (v3 &&& 31)) &&& (1 : Int32)) = (1 : Int32) then ((fX0_joinLine c0 c2 v3 L).bind (fun o3 => fX0_joinMeter_17b_38 c0 c2 v1 v3 o3)) else (fX0_joinMeter_17b_38 c0 c2 v1 v3 L))
set_option maxHeartbeats 4000000 in
set_option maxRecDepth 20000 in
theorem wX0_joinMeter_17b {X : ux_X} (C : ux_C X cX0_joinMeter RX0 4 none 1 60 shC) {c0 : Nat} {c2 : Nat} {v1 : Int32} {v3 : Int32} (p0 : is_X0 c0) (p2 : is_X0 c2) {N : ux_N} {L : ux_L} {o : (Int32 × ux_L) ⊕ (ux_L)} (hin : ∀ s : Int32 × ux_L, o = .inl s → ux_Wt X 4 17 [(0, .ref (ux_ad X c0)), (1, .int v1), (2, .ref (ux_ad X c2)), (3, .int s.1)] [] N s.2) (hex0 : ∀ e : ux_L, o = .inr (e) → ux_Wt X 4 44 [] [] N e) (h : fX0_joinMeter_17b c0 c2 v1 v3 L = some o) : ux_Wt X 4 17 [(0, .ref (ux_ad X c0)), (1, .int v1), (2, .ref (ux_ad X c2)), (3, .int v3)] [] N L := by
  refine wt_iload_n 18 3 C dX0_joinMeter_17 rfl rfl ?_
  refine wt_bipush 20 10 C dX0_joinMeter_18 rfl (by decide) ?_
  refine wt_icmp_ge 23 44 C dX0_joinMeter_20 rfl (by decide) (fun q1 => ?_) (fun q1 => ?_)
  · have h := (if_pos q1).symm.trans h
    refine wt_sub [] rfl ?_
    exact hex0 _ (Option.some.inj h).symm
  · have h := (if_neg q1).symm.trans h
    refine wt_iload_n 24 1 C dX0_joinMeter_23 rfl rfl ?_
    refine wt_iload_n 25 3 C dX0_joinMeter_24 rfl rfl ?_
    refine wt_ishr 26 C dX0_joinMeter_25 rfl ?_
    refine wt_iconst 27 1 C dX0_joinMeter_26 rfl (by decide) ?_
    refine wt_iand 28 C dX0_joinMeter_27 rfl ?_
    refine wt_iconst 29 1 C dX0_joinMeter_28 rfl (by decide) ?_
    refine wt_icmp_ne 32 38 C dX0_joinMeter_29 rfl (by decide) (fun q2 => ?_) (fun q2 => ?_)
    · have h := (if_neg q2).symm.trans h
      exact wX0_joinMeter_17b_38 C p0 p2 hin hex0 h
    · have h := (if_pos q2).symm.trans h
      refine wt_aload_n 33 0 C dX0_joinMeter_32 rfl rfl ?_
      refine wt_iload_n 34 3 C dX0_joinMeter_33 rfl rfl ?_
      refine wt_aload_n 35 2 C dX0_joinMeter_34 rfl rfl ?_
      obtain ⟨o3, hc4, h⟩ := Option.bind_eq_some_iff.mp h
      refine wt_callVv 38 [] C kvX0_24 (p0).1 (mX0_joinLine (cx_ok C) (p0) (p2) hc4) rfl rfl ⟨Nat.le_of_ble_eq_true rfl, Nat.le_of_ble_eq_true rfl⟩ (Nat.le_of_ble_eq_true rfl) dX0_joinMeter_35 rfl ?_
      exact wX0_joinMeter_17b_38 C p0 p2 hin hex0 h
def fX0_joinMeter (c0 : Nat) (c2 : Nat) (v1 : Int32) (L : ux_L) : Option (ux_L) :=
  (ux_lp (fun s : Int32 × ux_L => fX0_joinMeter_17b c0 c2 v1 s.1 s.2) ux_fu ((0 : Int32), (ux_cpL L (c0 + 1) (c0 + 2) 0 0 16))).bind (fun e8 => some e8)
set_option maxHeartbeats 4000000 in
set_option maxRecDepth 20000 in
theorem wX0_joinMeter {X : ux_X} (C : ux_C X cX0_joinMeter RX0 4 none 1 60 shC) {c0 : Nat} {c2 : Nat} {v1 : Int32} (p0 : is_X0 c0) (p2 : is_X0 c2) {N : ux_N} {L : ux_L} {o : ux_L} (hq : ux_Qv X N o) (h : fX0_joinMeter c0 c2 v1 L = some o) : ux_Wt X 4 0 [(0, .ref (ux_ad X c0)), (1, .int v1), (2, .ref (ux_ad X c2))] [] N L := by
  refine wt_aload_n 1 0 C dX0_joinMeter_0 rfl rfl ?_
  refine wt_getR 4 C kfX0_11 (p0).1 rfl dX0_joinMeter_1 rfl ?_
  refine wt_iconst 5 0 C dX0_joinMeter_4 rfl (by decide) ?_
  refine wt_aload_n 6 0 C dX0_joinMeter_5 rfl rfl ?_
  refine wt_getR 9 C kfX0_15 (p0).1 rfl dX0_joinMeter_6 rfl ?_
  refine wt_iconst 10 0 C dX0_joinMeter_9 rfl (by decide) ?_
  refine wt_bipush 12 16 C dX0_joinMeter_10 rfl (by decide) ?_
  refine wt_copyL 15 0 0 16 C kaX0_18 (p0).2.1 (p0).2.2 (by decide) (by decide) (by decide) (by decide) (by decide) (by decide) (by decide) (by decide) (by decide) (Nat.le_of_ble_eq_true rfl) dX0_joinMeter_12 rfl ?_
  refine wt_iconst 16 0 C dX0_joinMeter_15 rfl (by decide) ?_
  refine wt_istore_n 17 [(3, .int (0 : Int32)), (0, .ref (ux_ad X c0)), (1, .int v1), (2, .ref (ux_ad X c2))] C dX0_joinMeter_16 rfl (by decide) rfl ?_
  obtain ⟨e1, hl2, h⟩ := Option.bind_eq_some_iff.mp h
  refine wt_sub [1, 2, 3, 0] rfl ?_
  refine ux_loop (fun s : Int32 × ux_L => fX0_joinMeter_17b c0 c2 v1 s.1 s.2) (fun s : Int32 × ux_L => ux_Wt X 4 17 [(0, .ref (ux_ad X c0)), (1, .int v1), (2, .ref (ux_ad X c2)), (3, .int s.1)] [] N s.2) (e := e1) ?_ hl2
  intro s3 o4 hb5 hi6 hx7
  refine wX0_joinMeter_17b C p0 p2 hi6 (fun x0 he => ?_) hb5
  · obtain ⟨e8, rfl⟩ : ∃ z, z = x0 := ⟨_, rfl⟩
    have h9 := hx7 _ he
    subst h9
    cases h
    exact wt_vret C hq dX0_joinMeter_44
theorem mX0_joinMeter {l : Launch} {G : ux_G} (hok : ux_ok G shC) {c0 : Nat} {v1 : Int32} {c2 : Nat} (p0 : is_X0 c0) (p2 : is_X0 c2) {N : ux_N} {L : ux_L} {o : ux_L} (h : fX0_joinMeter c0 c2 v1 L = some o) : ux_Mv l G yX0_joinMeter cX0_joinMeter 4 1 60 [.ref (gad G c0), .int v1, .ref (gad G c2)] N L N o :=
  ux_ofv shC hok (by decide +kernel) (Nat.le_of_ble_eq_true rfl) (fun X hG hl C hq => by subst hG; subst hl; exact wX0_joinMeter C p0 p2 hq h)
def fX0_mostLines_19b_55 (c0 : Nat) (v1 : Int32) (v2 : Int32) (v3 : Int32) (v4 : Int32) (L : ux_L) : Option ((Int32 × Int32) ⊕ (Int32)) :=
  some (.inl (v1, (v4 + (-1))))
set_option maxHeartbeats 4000000 in
set_option maxRecDepth 20000 in
theorem wX0_mostLines_19b_55 {X : ux_X} (C : ux_C X cX0_mostLines RX0 5 (some .int) 1 20 shC) {c0 : Nat} {v1 : Int32} {v2 : Int32} {v3 : Int32} {v4 : Int32} (p0 : is_X0 c0) {N : ux_N} {L : ux_L} {o : (Int32 × Int32) ⊕ (Int32)} (hin : ∀ s : Int32 × Int32, o = .inl s → ux_Wt X 5 19 [(0, .ref (ux_ad X c0)), (1, .int s.1), (2, .int v2), (3, .int v3), (4, .int s.2)] [] N L) (hex0 : ∀ e : Int32, o = .inr (e) → ux_Wt X 5 61 [(0, .ref (ux_ad X c0)), (1, .int e), (2, .int v2)] [] N L) (h : fX0_mostLines_19b_55 c0 v1 v2 v3 v4 L = some o) : ux_Wt X 5 55 [(0, .ref (ux_ad X c0)), (1, .int v1), (2, .int v2), (3, .int v3), (4, .int v4)] [] N L := by
  refine wt_iinc 58 4 [(4, .int (v4 + (-1))), (0, .ref (ux_ad X c0)), (1, .int v1), (2, .int v2), (3, .int v3)] (v4 + (-1)) C dX0_mostLines_55 rfl rfl (by rfl) (by decide) rfl ?_
  refine wt_goto 19 C dX0_mostLines_58 (by decide) ?_
  refine wt_sub [1, 2, 3, 4, 0] rfl ?_
  exact hin _ (Option.some.inj h).symm
def fX0_mostLines_19b (c0 : Nat) (v1 : Int32) (v2 : Int32) (v3 : Int32) (v4 : Int32) (L : ux_L) : Option ((Int32 × Int32) ⊕ (Int32)) :=
  if v4 < 0 then (some (.inr (v1))) else (if (v3 + v4) ≤ v1 then (some (.inr (v1))) else (if ux_in v2 16 then (if ux_in v4 7 then (if (lg_cmp ((L (c0 + 1) (v2.toNatClampNeg)) &&& (tb_sized.getD v4.toNatClampNeg 0)) (0 : Int64)) = 0 then (fX0_mostLines_19b_55 c0 v1 v2 v3 v4 L) else (fX0_mostLines_19b_55 c0 (v3 + v4) v2 v3 v4 L)) else none) else none))
set_option maxHeartbeats 4000000 in
set_option maxRecDepth 20000 in
theorem wX0_mostLines_19b {X : ux_X} (C : ux_C X cX0_mostLines RX0 5 (some .int) 1 20 shC) {c0 : Nat} {v1 : Int32} {v2 : Int32} {v3 : Int32} {v4 : Int32} (p0 : is_X0 c0) {N : ux_N} {L : ux_L} {o : (Int32 × Int32) ⊕ (Int32)} (hin : ∀ s : Int32 × Int32, o = .inl s → ux_Wt X 5 19 [(0, .ref (ux_ad X c0)), (1, .int s.1), (2, .int v2), (3, .int v3), (4, .int s.2)] [] N L) (hex0 : ∀ e : Int32, o = .inr (e) → ux_Wt X 5 61 [(0, .ref (ux_ad X c0)), (1, .int e), (2, .int v2)] [] N L) (h : fX0_mostLines_19b c0 v1 v2 v3 v4 L = some o) : ux_Wt X 5 19 [(0, .ref (ux_ad X c0)), (1, .int v1), (2, .int v2), (3, .int v3), (4, .int v4)] [] N L := by
  refine wt_iload 21 4 C dX0_mostLines_19 rfl rfl ?_
  refine wt_if_lt 24 61 C dX0_mostLines_21 rfl (by decide) (fun q1 => ?_) (fun q1 => ?_)
  · have h := (if_pos q1).symm.trans h
    refine wt_sub [0, 1, 2] rfl ?_
    exact hex0 _ (Option.some.inj h).symm
  · have h := (if_neg q1).symm.trans h
    refine wt_iload_n 25 3 C dX0_mostLines_24 rfl rfl ?_
    refine wt_iload 27 4 C dX0_mostLines_25 rfl rfl ?_
    refine wt_iadd 28 C dX0_mostLines_27 rfl ?_
    refine wt_iload_n 29 1 C dX0_mostLines_28 rfl rfl ?_
    refine wt_icmp_le 32 61 C dX0_mostLines_29 rfl (by decide) (fun q2 => ?_) (fun q2 => ?_)
    · have h := (if_pos q2).symm.trans h
      refine wt_sub [0, 1, 2] rfl ?_
      exact hex0 _ (Option.some.inj h).symm
    · have h := (if_neg q2).symm.trans h
      refine wt_aload_n 33 0 C dX0_mostLines_32 rfl rfl ?_
      refine wt_getR 36 C kfX0_11 (p0).1 rfl dX0_mostLines_33 rfl ?_
      refine wt_iload_n 37 2 C dX0_mostLines_36 rfl rfl ?_
      obtain ⟨hi3, h⟩ := ux_guard h
      refine wt_lald 38 (v2.toNatClampNeg) C (p0).2.1 rfl hi3 dX0_mostLines_37 rfl ?_
      refine wt_getsS 41 C tw_524 dX0_mostLines_38 rfl ?_
      refine wt_iload 43 4 C dX0_mostLines_41 rfl rfl ?_
      obtain ⟨hi4, h⟩ := ux_guard h
      refine wt_tldS 44 (v4.toNatClampNeg) C rfl hi4 dX0_mostLines_43 rfl ?_
      refine wt_land 45 C dX0_mostLines_44 rfl ?_
      refine wt_lconst 46 0 C dX0_mostLines_45 rfl (by decide) ?_
      refine wt_lcmp 47 C dX0_mostLines_46 rfl ?_
      refine wt_if_eq 50 55 C dX0_mostLines_47 rfl (by decide) (fun q5 => ?_) (fun q5 => ?_)
      · have h := (if_pos q5).symm.trans h
        exact wX0_mostLines_19b_55 C p0 hin hex0 h
      · have h := (if_neg q5).symm.trans h
        refine wt_iload_n 51 3 C dX0_mostLines_50 rfl rfl ?_
        refine wt_iload 53 4 C dX0_mostLines_51 rfl rfl ?_
        refine wt_iadd 54 C dX0_mostLines_53 rfl ?_
        refine wt_istore_n 55 [(1, .int (v3 + v4)), (0, .ref (ux_ad X c0)), (2, .int v2), (3, .int v3), (4, .int v4)] C dX0_mostLines_54 rfl (by decide) rfl ?_
        refine wt_sub [1, 0, 2, 3, 4] rfl ?_
        exact wX0_mostLines_19b_55 C p0 hin hex0 h
def fX0_mostLines_4b_61 (c0 : Nat) (v1 : Int32) (v2 : Int32) (L : ux_L) : Option ((Int32 × Int32) ⊕ (Int32)) :=
  some (.inl (v1, (v2 + 1)))
set_option maxHeartbeats 4000000 in
set_option maxRecDepth 20000 in
theorem wX0_mostLines_4b_61 {X : ux_X} (C : ux_C X cX0_mostLines RX0 5 (some .int) 1 20 shC) {c0 : Nat} {v1 : Int32} {v2 : Int32} (p0 : is_X0 c0) {N : ux_N} {L : ux_L} {o : (Int32 × Int32) ⊕ (Int32)} (hin : ∀ s : Int32 × Int32, o = .inl s → ux_Wt X 5 4 [(0, .ref (ux_ad X c0)), (1, .int s.1), (2, .int s.2)] [] N L) (hex0 : ∀ e : Int32, o = .inr (e) → ux_Wt X 5 67 [(1, .int e)] [] N L) (h : fX0_mostLines_4b_61 c0 v1 v2 L = some o) : ux_Wt X 5 61 [(0, .ref (ux_ad X c0)), (1, .int v1), (2, .int v2)] [] N L := by
  refine wt_iinc 64 2 [(2, .int (v2 + 1)), (0, .ref (ux_ad X c0)), (1, .int v1)] (v2 + 1) C dX0_mostLines_61 rfl rfl (by rfl) (by decide) rfl ?_
  refine wt_goto 4 C dX0_mostLines_64 (by decide) ?_
  refine wt_sub [1, 2, 0] rfl ?_
  exact hin _ (Option.some.inj h).symm
def fX0_mostLines_4b (c0 : Nat) (v1 : Int32) (v2 : Int32) (L : ux_L) : Option ((Int32 × Int32) ⊕ (Int32)) :=
  if (16 : Int32) ≤ v2 then (some (.inr (v1))) else ((fJ6_bitCount_0f7a4 v2).bind (fun o2 => (ux_lp (fun s : Int32 × Int32 => fX0_mostLines_19b c0 s.1 v2 o2 s.2 L) ux_fu (v1, (6 : Int32))).bind (fun e11 => fX0_mostLines_4b_61 c0 e11 v2 L)))
set_option maxHeartbeats 4000000 in
set_option maxRecDepth 20000 in
theorem wX0_mostLines_4b {X : ux_X} (C : ux_C X cX0_mostLines RX0 5 (some .int) 1 20 shC) {c0 : Nat} {v1 : Int32} {v2 : Int32} (p0 : is_X0 c0) {N : ux_N} {L : ux_L} {o : (Int32 × Int32) ⊕ (Int32)} (hin : ∀ s : Int32 × Int32, o = .inl s → ux_Wt X 5 4 [(0, .ref (ux_ad X c0)), (1, .int s.1), (2, .int s.2)] [] N L) (hex0 : ∀ e : Int32, o = .inr (e) → ux_Wt X 5 67 [(1, .int e)] [] N L) (h : fX0_mostLines_4b c0 v1 v2 L = some o) : ux_Wt X 5 4 [(0, .ref (ux_ad X c0)), (1, .int v1), (2, .int v2)] [] N L := by
  refine wt_iload_n 5 2 C dX0_mostLines_4 rfl rfl ?_
  refine wt_bipush 7 16 C dX0_mostLines_5 rfl (by decide) ?_
  refine wt_icmp_ge 10 67 C dX0_mostLines_7 rfl (by decide) (fun q1 => ?_) (fun q1 => ?_)
  · have h := (if_pos q1).symm.trans h
    refine wt_sub [1] rfl ?_
    exact hex0 _ (Option.some.inj h).symm
  · have h := (if_neg q1).symm.trans h
    refine wt_iload_n 11 2 C dX0_mostLines_10 rfl rfl ?_
    obtain ⟨o2, hc3, h⟩ := Option.bind_eq_some_iff.mp h
    refine wt_callSi 14 [] C ksX0_31 (mJ6_bitCount_0f7a4 (cx_ok C)  hc3) rfl rfl ⟨Nat.le_of_ble_eq_true rfl, Nat.le_of_ble_eq_true rfl⟩ (Nat.le_of_ble_eq_true rfl) dX0_mostLines_11 rfl ?_
    refine wt_istore_n 15 [(3, .int o2), (0, .ref (ux_ad X c0)), (1, .int v1), (2, .int v2)] C dX0_mostLines_14 rfl (by decide) rfl ?_
    refine wt_bipush 17 6 C dX0_mostLines_15 rfl (by decide) ?_
    refine wt_istore 19 [(4, .int (6 : Int32)), (3, .int o2), (0, .ref (ux_ad X c0)), (1, .int v1), (2, .int v2)] C dX0_mostLines_17 rfl (by decide) rfl ?_
    obtain ⟨e4, hl5, h⟩ := Option.bind_eq_some_iff.mp h
    refine wt_sub [2, 3, 4, 1, 0] rfl ?_
    refine ux_loop (fun s : Int32 × Int32 => fX0_mostLines_19b c0 s.1 v2 o2 s.2 L) (fun s : Int32 × Int32 => ux_Wt X 5 19 [(0, .ref (ux_ad X c0)), (1, .int s.1), (2, .int v2), (3, .int o2), (4, .int s.2)] [] N L) (e := e4) ?_ hl5
    intro s6 o7 hb8 hi9 hx10
    refine wX0_mostLines_19b C p0 hi9 (fun x0 he => ?_) hb8
    · obtain ⟨e11, rfl⟩ : ∃ z, z = x0 := ⟨_, rfl⟩
      have h9 := hx10 _ he
      subst h9
      exact wX0_mostLines_4b_61 C p0 hin hex0 h
def fX0_mostLines (c0 : Nat) (L : ux_L) : Option (Int32) :=
  (ux_lp (fun s : Int32 × Int32 => fX0_mostLines_4b c0 s.1 s.2 L) ux_fu ((0 : Int32), (0 : Int32))).bind (fun e8 => some e8)
set_option maxHeartbeats 4000000 in
set_option maxRecDepth 20000 in
theorem wX0_mostLines {X : ux_X} (C : ux_C X cX0_mostLines RX0 5 (some .int) 1 20 shC) {c0 : Nat} (p0 : is_X0 c0) {N : ux_N} {L : ux_L} {o : Int32} (hq : ux_Qi X o N L) (h : fX0_mostLines c0 L = some o) : ux_Wt X 5 0 [(0, .ref (ux_ad X c0))] [] N L := by
  refine wt_iconst 1 0 C dX0_mostLines_0 rfl (by decide) ?_
  refine wt_istore_n 2 [(1, .int (0 : Int32)), (0, .ref (ux_ad X c0))] C dX0_mostLines_1 rfl (by decide) rfl ?_
  refine wt_iconst 3 0 C dX0_mostLines_2 rfl (by decide) ?_
  refine wt_istore_n 4 [(2, .int (0 : Int32)), (1, .int (0 : Int32)), (0, .ref (ux_ad X c0))] C dX0_mostLines_3 rfl (by decide) rfl ?_
  obtain ⟨e1, hl2, h⟩ := Option.bind_eq_some_iff.mp h
  refine wt_sub [2, 1, 0] rfl ?_
  refine ux_loop (fun s : Int32 × Int32 => fX0_mostLines_4b c0 s.1 s.2 L) (fun s : Int32 × Int32 => ux_Wt X 5 4 [(0, .ref (ux_ad X c0)), (1, .int s.1), (2, .int s.2)] [] N L) (e := e1) ?_ hl2
  intro s3 o4 hb5 hi6 hx7
  refine wX0_mostLines_4b C p0 hi6 (fun x0 he => ?_) hb5
  · obtain ⟨e8, rfl⟩ : ∃ z, z = x0 := ⟨_, rfl⟩
    have h9 := hx7 _ he
    subst h9
    refine wt_iload_n 68 0 C dX0_mostLines_67 rfl rfl ?_
    cases h
    exact wt_iret C hq dX0_mostLines_68
theorem mX0_mostLines {l : Launch} {G : ux_G} (hok : ux_ok G shC) {c0 : Nat} (p0 : is_X0 c0) {N : ux_N} {L : ux_L} {o : Int32} (h : fX0_mostLines c0 L = some o) : ux_Mi l G yX0_mostLines cX0_mostLines 5 (some .int) 1 20 [.ref (gad G c0)] N L o N L :=
  ux_ofi shC hok (by decide +kernel) (Nat.le_of_ble_eq_true rfl) (fun X hG hl C hq => by subst hG; subst hl; exact wX0_mostLines C p0 hq h)
def fX0_leastSet_2b_73 (c0 : Nat) (v1 : Int32) (v2 : Int32) (L : ux_L) : Option ((Int32) ⊕ ((Int32 × Int32) ⊕ (Unit))) :=
  some (.inl (v2 + 1))
set_option maxHeartbeats 4000000 in
set_option maxRecDepth 20000 in
theorem wX0_leastSet_2b_73 {X : ux_X} (C : ux_C X cX0_leastSet RX0 6 (some .int) 1 21 shC) {c0 : Nat} {v1 : Int32} {v2 : Int32} (p0 : is_X0 c0) {N : ux_N} {L : ux_L} {o : (Int32) ⊕ ((Int32 × Int32) ⊕ (Unit))} (hin : ∀ s : Int32, o = .inl s → ux_Wt X 6 2 [(0, .ref (ux_ad X c0)), (1, .int v1), (2, .int s)] [] N L) (hex0 : ∀ e : Int32 × Int32, o = .inr (.inl e) → ux_Wt X 6 42 [(0, .ref (ux_ad X c0)), (2, .int e.1), (3, .int e.2)] [] N L) (hex1 : ∀ e : Unit, o = .inr (.inr e) → ux_Wt X 6 79 [] [] N L) (h : fX0_leastSet_2b_73 c0 v1 v2 L = some o) : ux_Wt X 6 73 [(0, .ref (ux_ad X c0)), (1, .int v1), (2, .int v2)] [] N L := by
  refine wt_iinc 76 2 [(2, .int (v2 + 1)), (0, .ref (ux_ad X c0)), (1, .int v1)] (v2 + 1) C dX0_leastSet_73 rfl rfl (by rfl) (by decide) rfl ?_
  refine wt_goto 2 C dX0_leastSet_76 (by decide) ?_
  refine wt_sub [1, 2, 0] rfl ?_
  exact hin _ (Option.some.inj h).symm
def fX0_leastSet_2b (c0 : Nat) (v1 : Int32) (v2 : Int32) (L : ux_L) : Option ((Int32) ⊕ ((Int32 × Int32) ⊕ (Unit))) :=
  if (16 : Int32) ≤ v2 then (some (.inr (.inr ()))) else ((fJ6_bitCount_0f7a4 v2).bind (fun o2 => if (v1 - o2) < 0 then (fX0_leastSet_2b_73 c0 v1 v2 L) else (if (6 : Int32) < (v1 - o2) then (fX0_leastSet_2b_73 c0 v1 v2 L) else (if ux_in v2 16 then (if ux_in (v1 - o2) 7 then (if (lg_cmp ((L (c0 + 1) (v2.toNatClampNeg)) &&& (tb_sized.getD (v1 - o2).toNatClampNeg 0)) (0 : Int64)) = 0 then (fX0_leastSet_2b_73 c0 v1 v2 L) else (some (.inr (.inl (v2, (v1 - o2)))))) else none) else none))))
set_option maxHeartbeats 4000000 in
set_option maxRecDepth 20000 in
theorem wX0_leastSet_2b {X : ux_X} (C : ux_C X cX0_leastSet RX0 6 (some .int) 1 21 shC) {c0 : Nat} {v1 : Int32} {v2 : Int32} (p0 : is_X0 c0) {N : ux_N} {L : ux_L} {o : (Int32) ⊕ ((Int32 × Int32) ⊕ (Unit))} (hin : ∀ s : Int32, o = .inl s → ux_Wt X 6 2 [(0, .ref (ux_ad X c0)), (1, .int v1), (2, .int s)] [] N L) (hex0 : ∀ e : Int32 × Int32, o = .inr (.inl e) → ux_Wt X 6 42 [(0, .ref (ux_ad X c0)), (2, .int e.1), (3, .int e.2)] [] N L) (hex1 : ∀ e : Unit, o = .inr (.inr e) → ux_Wt X 6 79 [] [] N L) (h : fX0_leastSet_2b c0 v1 v2 L = some o) : ux_Wt X 6 2 [(0, .ref (ux_ad X c0)), (1, .int v1), (2, .int v2)] [] N L := by
  refine wt_iload_n 3 2 C dX0_leastSet_2 rfl rfl ?_
  refine wt_bipush 5 16 C dX0_leastSet_3 rfl (by decide) ?_
  refine wt_icmp_ge 8 79 C dX0_leastSet_5 rfl (by decide) (fun q1 => ?_) (fun q1 => ?_)
  · have h := (if_pos q1).symm.trans h
    refine wt_sub [] rfl ?_
    exact hex1 _ (Option.some.inj h).symm
  · have h := (if_neg q1).symm.trans h
    refine wt_iload_n 9 1 C dX0_leastSet_8 rfl rfl ?_
    refine wt_iload_n 10 2 C dX0_leastSet_9 rfl rfl ?_
    obtain ⟨o2, hc3, h⟩ := Option.bind_eq_some_iff.mp h
    refine wt_callSi 13 [.int v1] C ksX0_31 (mJ6_bitCount_0f7a4 (cx_ok C)  hc3) rfl rfl ⟨Nat.le_of_ble_eq_true rfl, Nat.le_of_ble_eq_true rfl⟩ (Nat.le_of_ble_eq_true rfl) dX0_leastSet_10 rfl ?_
    refine wt_isub 14 C dX0_leastSet_13 rfl ?_
    refine wt_istore_n 15 [(3, .int (v1 - o2)), (0, .ref (ux_ad X c0)), (1, .int v1), (2, .int v2)] C dX0_leastSet_14 rfl (by decide) rfl ?_
    refine wt_iload_n 16 0 C dX0_leastSet_15 rfl rfl ?_
    refine wt_if_lt 19 73 C dX0_leastSet_16 rfl (by decide) (fun q4 => ?_) (fun q4 => ?_)
    · have h := (if_pos q4).symm.trans h
      refine wt_sub [1, 2, 3] rfl ?_
      exact wX0_leastSet_2b_73 C p0 hin hex0 hex1 h
    · have h := (if_neg q4).symm.trans h
      refine wt_iload_n 20 0 C dX0_leastSet_19 rfl rfl ?_
      refine wt_bipush 22 6 C dX0_leastSet_20 rfl (by decide) ?_
      refine wt_icmp_gt 25 73 C dX0_leastSet_22 rfl (by decide) (fun q5 => ?_) (fun q5 => ?_)
      · have h := (if_pos q5).symm.trans h
        refine wt_sub [1, 2, 3] rfl ?_
        exact wX0_leastSet_2b_73 C p0 hin hex0 hex1 h
      · have h := (if_neg q5).symm.trans h
        refine wt_aload_n 26 1 C dX0_leastSet_25 rfl rfl ?_
        refine wt_getR 29 C kfX0_11 (p0).1 rfl dX0_leastSet_26 rfl ?_
        refine wt_iload_n 30 3 C dX0_leastSet_29 rfl rfl ?_
        obtain ⟨hi6, h⟩ := ux_guard h
        refine wt_lald 31 (v2.toNatClampNeg) C (p0).2.1 rfl hi6 dX0_leastSet_30 rfl ?_
        refine wt_getsS 34 C tw_524 dX0_leastSet_31 rfl ?_
        refine wt_iload_n 35 0 C dX0_leastSet_34 rfl rfl ?_
        obtain ⟨hi7, h⟩ := ux_guard h
        refine wt_tldS 36 ((v1 - o2).toNatClampNeg) C rfl hi7 dX0_leastSet_35 rfl ?_
        refine wt_land 37 C dX0_leastSet_36 rfl ?_
        refine wt_lconst 38 0 C dX0_leastSet_37 rfl (by decide) ?_
        refine wt_lcmp 39 C dX0_leastSet_38 rfl ?_
        refine wt_if_eq 42 73 C dX0_leastSet_39 rfl (by decide) (fun q8 => ?_) (fun q8 => ?_)
        · have h := (if_pos q8).symm.trans h
          refine wt_sub [1, 2, 3] rfl ?_
          exact wX0_leastSet_2b_73 C p0 hin hex0 hex1 h
        · have h := (if_neg q8).symm.trans h
          refine wt_sub [1, 3, 0] rfl ?_
          exact hex0 _ (Option.some.inj h).symm
def fX0_leastSet_68 (c0 : Nat) (s0 : Int64) (s1 : Int32) (L : ux_L) : Option (Int32) :=
  (fJ13_bitCount_95d88 s0).bind (fun o1 => some (s1 + o1))
set_option maxHeartbeats 4000000 in
set_option maxRecDepth 20000 in
theorem wX0_leastSet_68 {X : ux_X} (C : ux_C X cX0_leastSet RX0 6 (some .int) 1 21 shC) {c0 : Nat} {s0 : Int64} {s1 : Int32} (p0 : is_X0 c0) {N : ux_N} {L : ux_L} {o : Int32} (hq : ux_Qi X o N L) (h : fX0_leastSet_68 c0 s0 s1 L = some o) : ux_Wt X 6 68 [] [.long s0, .int s1] N L := by
  obtain ⟨o1, hc2, h⟩ := Option.bind_eq_some_iff.mp h
  refine wt_callSi 71 [.int s1] C ksX0_40 (mJ13_bitCount_95d88 (cx_ok C)  hc2) rfl rfl ⟨Nat.le_of_ble_eq_true rfl, Nat.le_of_ble_eq_true rfl⟩ (Nat.le_of_ble_eq_true rfl) dX0_leastSet_68 rfl ?_
  refine wt_iadd 72 C dX0_leastSet_71 rfl ?_
  cases h
  exact wt_iret C hq dX0_leastSet_72
def fX0_leastSet (c0 : Nat) (v1 : Int32) (L : ux_L) : Option (Int32) :=
  (ux_lp (fun s : Int32 => fX0_leastSet_2b c0 v1 s L) ux_fu (0 : Int32)).bind (Sum.elim (fun e8 => if ux_in e8.1 16 then (if ux_in e8.2 7 then (fX0_leastSet_68 c0 ((((L (c0 + 1) (e8.1.toNatClampNeg)) &&& (tb_sized.getD e8.2.toNatClampNeg 0)) &&& (-((L (c0 + 1) (e8.1.toNatClampNeg)) &&& (tb_sized.getD e8.2.toNatClampNeg 0)))) - (1 : Int64)) (e8.1 * (64 : Int32)) L) else none) else none) (fun e11 => some (0 : Int32)))
set_option maxHeartbeats 4000000 in
set_option maxRecDepth 20000 in
theorem wX0_leastSet {X : ux_X} (C : ux_C X cX0_leastSet RX0 6 (some .int) 1 21 shC) {c0 : Nat} {v1 : Int32} (p0 : is_X0 c0) {N : ux_N} {L : ux_L} {o : Int32} (hq : ux_Qi X o N L) (h : fX0_leastSet c0 v1 L = some o) : ux_Wt X 6 0 [(0, .ref (ux_ad X c0)), (1, .int v1)] [] N L := by
  refine wt_iconst 1 0 C dX0_leastSet_0 rfl (by decide) ?_
  refine wt_istore_n 2 [(2, .int (0 : Int32)), (0, .ref (ux_ad X c0)), (1, .int v1)] C dX0_leastSet_1 rfl (by decide) rfl ?_
  obtain ⟨e1, hl2, h⟩ := Option.bind_eq_some_iff.mp h
  refine wt_sub [1, 2, 0] rfl ?_
  refine ux_loop (fun s : Int32 => fX0_leastSet_2b c0 v1 s L) (fun s : Int32 => ux_Wt X 6 2 [(0, .ref (ux_ad X c0)), (1, .int v1), (2, .int s)] [] N L) (e := e1) ?_ hl2
  intro s3 o4 hb5 hi6 hx7
  refine wX0_leastSet_2b C p0 hi6 (fun x0 he => ?_) (fun x1 he => ?_) hb5
  · obtain ⟨e8, rfl⟩ : ∃ z, z = x0 := ⟨_, rfl⟩
    have h9 := hx7 _ he
    subst h9
    refine wt_aload_n 43 0 C dX0_leastSet_42 rfl rfl ?_
    refine wt_getR 46 C kfX0_11 (p0).1 rfl dX0_leastSet_43 rfl ?_
    refine wt_iload_n 47 1 C dX0_leastSet_46 rfl rfl ?_
    obtain ⟨hi9, h⟩ := ux_guard h
    refine wt_lald 48 (e8.1.toNatClampNeg) C (p0).2.1 rfl hi9 dX0_leastSet_47 rfl ?_
    refine wt_getsS 51 C tw_524 dX0_leastSet_48 rfl ?_
    refine wt_iload_n 52 2 C dX0_leastSet_51 rfl rfl ?_
    obtain ⟨hi10, h⟩ := ux_guard h
    refine wt_tldS 53 (e8.2.toNatClampNeg) C rfl hi10 dX0_leastSet_52 rfl ?_
    refine wt_land 54 C dX0_leastSet_53 rfl ?_
    refine wt_lstore 56 [(4, .long ((L (c0 + 1) (e8.1.toNatClampNeg)) &&& (tb_sized.getD e8.2.toNatClampNeg 0))), (0, .ref (ux_ad X c0)), (2, .int e8.1), (3, .int e8.2)] C dX0_leastSet_54 rfl (by decide) rfl ?_
    refine wt_iload_n 57 2 C dX0_leastSet_56 rfl rfl ?_
    refine wt_bipush 59 64 C dX0_leastSet_57 rfl (by decide) ?_
    refine wt_imul 60 C dX0_leastSet_59 rfl ?_
    refine wt_lload 62 0 C dX0_leastSet_60 rfl rfl ?_
    refine wt_lload 64 0 C dX0_leastSet_62 rfl rfl ?_
    refine wt_lneg 65 C dX0_leastSet_64 rfl ?_
    refine wt_land 66 C dX0_leastSet_65 rfl ?_
    refine wt_lconst 67 1 C dX0_leastSet_66 rfl (by decide) ?_
    refine wt_lsub 68 C dX0_leastSet_67 rfl ?_
    refine wt_sub [] rfl ?_
    exact wX0_leastSet_68 C p0 hq h
  · obtain ⟨e11, rfl⟩ : ∃ z, z = x1 := ⟨_, rfl⟩
    have h9 := hx7 _ he
    subst h9
    refine wt_iconst 80 0 C dX0_leastSet_79 rfl (by decide) ?_
    cases h
    exact wt_iret C hq dX0_leastSet_80
theorem mX0_leastSet {l : Launch} {G : ux_G} (hok : ux_ok G shC) {c0 : Nat} {v1 : Int32} (p0 : is_X0 c0) {N : ux_N} {L : ux_L} {o : Int32} (h : fX0_leastSet c0 v1 L = some o) : ux_Mi l G yX0_leastSet cX0_leastSet 6 (some .int) 1 21 [.ref (gad G c0), .int v1] N L o N L :=
  ux_ofi shC hok (by decide +kernel) (Nat.le_of_ble_eq_true rfl) (fun X hG hl C hq => by subst hG; subst hl; exact wX0_leastSet C p0 hq h)
end
section
theorem dX1_note_0 : decode cX1_note 0 = .ok (.aload_n 0, 1) := by decide +kernel
theorem dX1_note_1 : decode cX1_note 1 = .ok (.getfield 18, 3) := by decide +kernel
theorem dX1_note_4 : decode cX1_note 4 = .ok (.bipush 8, 2) := by decide +kernel
theorem dX1_note_6 : decode cX1_note 6 = .ok (.if_icmp .lt 39, 3) := by decide +kernel
theorem dX1_note_9 : decode cX1_note 9 = .ok (.aload_n 0, 1) := by decide +kernel
theorem dX1_note_10 : decode cX1_note 10 = .ok (.getfield 9, 3) := by decide +kernel
theorem dX1_note_13 : decode cX1_note 13 = .ok (.iconst 1, 1) := by decide +kernel
theorem dX1_note_14 : decode cX1_note 14 = .ok (.aload_n 0, 1) := by decide +kernel
theorem dX1_note_15 : decode cX1_note 15 = .ok (.getfield 9, 3) := by decide +kernel
theorem dX1_note_18 : decode cX1_note 18 = .ok (.iconst 0, 1) := by decide +kernel
theorem dX1_note_19 : decode cX1_note 19 = .ok (.bipush 7, 2) := by decide +kernel
theorem dX1_note_21 : decode cX1_note 21 = .ok (.invokestatic 22, 3) := by decide +kernel
theorem dX1_note_24 : decode cX1_note 24 = .ok (.aload_n 0, 1) := by decide +kernel
theorem dX1_note_25 : decode cX1_note 25 = .ok (.getfield 15, 3) := by decide +kernel
theorem dX1_note_28 : decode cX1_note 28 = .ok (.iconst 1, 1) := by decide +kernel
theorem dX1_note_29 : decode cX1_note 29 = .ok (.aload_n 0, 1) := by decide +kernel
theorem dX1_note_30 : decode cX1_note 30 = .ok (.getfield 15, 3) := by decide +kernel
theorem dX1_note_33 : decode cX1_note 33 = .ok (.iconst 0, 1) := by decide +kernel
theorem dX1_note_34 : decode cX1_note 34 = .ok (.bipush 7, 2) := by decide +kernel
theorem dX1_note_36 : decode cX1_note 36 = .ok (.invokestatic 22, 3) := by decide +kernel
theorem dX1_note_39 : decode cX1_note 39 = .ok (.aload_n 0, 1) := by decide +kernel
theorem dX1_note_40 : decode cX1_note 40 = .ok (.bipush 7, 2) := by decide +kernel
theorem dX1_note_42 : decode cX1_note 42 = .ok (.putfield 18, 3) := by decide +kernel
theorem dX1_note_45 : decode cX1_note 45 = .ok (.aload_n 0, 1) := by decide +kernel
theorem dX1_note_46 : decode cX1_note 46 = .ok (.getfield 9, 3) := by decide +kernel
theorem dX1_note_49 : decode cX1_note 49 = .ok (.aload_n 0, 1) := by decide +kernel
theorem dX1_note_50 : decode cX1_note 50 = .ok (.getfield 18, 3) := by decide +kernel
theorem dX1_note_53 : decode cX1_note 53 = .ok (.iload_n 1, 1) := by decide +kernel
theorem dX1_note_54 : decode cX1_note 54 = .ok (.iastore, 1) := by decide +kernel
theorem dX1_note_55 : decode cX1_note 55 = .ok (.aload_n 0, 1) := by decide +kernel
theorem dX1_note_56 : decode cX1_note 56 = .ok (.getfield 15, 3) := by decide +kernel
theorem dX1_note_59 : decode cX1_note 59 = .ok (.aload_n 0, 1) := by decide +kernel
theorem dX1_note_60 : decode cX1_note 60 = .ok (.getfield 18, 3) := by decide +kernel
theorem dX1_note_63 : decode cX1_note 63 = .ok (.iload_n 2, 1) := by decide +kernel
theorem dX1_note_64 : decode cX1_note 64 = .ok (.iastore, 1) := by decide +kernel
theorem dX1_note_65 : decode cX1_note 65 = .ok (.aload_n 0, 1) := by decide +kernel
theorem dX1_note_66 : decode cX1_note 66 = .ok (.dup, 1) := by decide +kernel
theorem dX1_note_67 : decode cX1_note 67 = .ok (.getfield 18, 3) := by decide +kernel
theorem dX1_note_70 : decode cX1_note 70 = .ok (.iconst 1, 1) := by decide +kernel
theorem dX1_note_71 : decode cX1_note 71 = .ok (.iadd, 1) := by decide +kernel
theorem dX1_note_72 : decode cX1_note 72 = .ok (.putfield 18, 3) := by decide +kernel
theorem dX1_note_75 : decode cX1_note 75 = .ok (.return_, 1) := by decide +kernel
theorem dX1_revertLatest_0 : decode cX1_revertLatest 0 = .ok (.aload_n 0, 1) := by decide +kernel
theorem dX1_revertLatest_1 : decode cX1_revertLatest 1 = .ok (.getfield 18, 3) := by decide +kernel
theorem dX1_revertLatest_4 : decode cX1_revertLatest 4 = .ok (.ifCond .gt 4, 3) := by decide +kernel
theorem dX1_revertLatest_7 : decode cX1_revertLatest 7 = .ok (.return_, 1) := by decide +kernel
theorem dX1_revertLatest_8 : decode cX1_revertLatest 8 = .ok (.aload_n 0, 1) := by decide +kernel
theorem dX1_revertLatest_9 : decode cX1_revertLatest 9 = .ok (.dup, 1) := by decide +kernel
theorem dX1_revertLatest_10 : decode cX1_revertLatest 10 = .ok (.getfield 18, 3) := by decide +kernel
theorem dX1_revertLatest_13 : decode cX1_revertLatest 13 = .ok (.iconst 1, 1) := by decide +kernel
theorem dX1_revertLatest_14 : decode cX1_revertLatest 14 = .ok (.isub, 1) := by decide +kernel
theorem dX1_revertLatest_15 : decode cX1_revertLatest 15 = .ok (.putfield 18, 3) := by decide +kernel
theorem dX1_revertLatest_18 : decode cX1_revertLatest 18 = .ok (.iconst 1, 1) := by decide +kernel
theorem dX1_revertLatest_19 : decode cX1_revertLatest 19 = .ok (.aload_n 0, 1) := by decide +kernel
theorem dX1_revertLatest_20 : decode cX1_revertLatest 20 = .ok (.getfield 15, 3) := by decide +kernel
theorem dX1_revertLatest_23 : decode cX1_revertLatest 23 = .ok (.aload_n 0, 1) := by decide +kernel
theorem dX1_revertLatest_24 : decode cX1_revertLatest 24 = .ok (.getfield 18, 3) := by decide +kernel
theorem dX1_revertLatest_27 : decode cX1_revertLatest 27 = .ok (.iaload, 1) := by decide +kernel
theorem dX1_revertLatest_28 : decode cX1_revertLatest 28 = .ok (.ishl, 1) := by decide +kernel
theorem dX1_revertLatest_29 : decode cX1_revertLatest 29 = .ok (.istore_n 2, 1) := by decide +kernel
theorem dX1_revertLatest_30 : decode cX1_revertLatest 30 = .ok (.aload_n 0, 1) := by decide +kernel
theorem dX1_revertLatest_31 : decode cX1_revertLatest 31 = .ok (.getfield 9, 3) := by decide +kernel
theorem dX1_revertLatest_34 : decode cX1_revertLatest 34 = .ok (.aload_n 0, 1) := by decide +kernel
theorem dX1_revertLatest_35 : decode cX1_revertLatest 35 = .ok (.getfield 18, 3) := by decide +kernel
theorem dX1_revertLatest_38 : decode cX1_revertLatest 38 = .ok (.iaload, 1) := by decide +kernel
theorem dX1_revertLatest_39 : decode cX1_revertLatest 39 = .ok (.tableswitch 69 0 2 #[25, 41, 56], 25) := by decide +kernel
theorem dX1_revertLatest_64 : decode cX1_revertLatest 64 = .ok (.aload_n 1, 1) := by decide +kernel
theorem dX1_revertLatest_65 : decode cX1_revertLatest 65 = .ok (.aload_n 0, 1) := by decide +kernel
theorem dX1_revertLatest_66 : decode cX1_revertLatest 66 = .ok (.getfield 15, 3) := by decide +kernel
theorem dX1_revertLatest_69 : decode cX1_revertLatest 69 = .ok (.aload_n 0, 1) := by decide +kernel
theorem dX1_revertLatest_70 : decode cX1_revertLatest 70 = .ok (.getfield 18, 3) := by decide +kernel
theorem dX1_revertLatest_73 : decode cX1_revertLatest 73 = .ok (.iaload, 1) := by decide +kernel
theorem dX1_revertLatest_74 : decode cX1_revertLatest 74 = .ok (.putfield 28, 3) := by decide +kernel
theorem dX1_revertLatest_77 : decode cX1_revertLatest 77 = .ok (.goto 43, 3) := by decide +kernel
theorem dX1_revertLatest_80 : decode cX1_revertLatest 80 = .ok (.aload_n 1, 1) := by decide +kernel
theorem dX1_revertLatest_81 : decode cX1_revertLatest 81 = .ok (.dup, 1) := by decide +kernel
theorem dX1_revertLatest_82 : decode cX1_revertLatest 82 = .ok (.getfield 33, 3) := by decide +kernel
theorem dX1_revertLatest_85 : decode cX1_revertLatest 85 = .ok (.iload_n 2, 1) := by decide +kernel
theorem dX1_revertLatest_86 : decode cX1_revertLatest 86 = .ok (.iconst (-1), 1) := by decide +kernel
theorem dX1_revertLatest_87 : decode cX1_revertLatest 87 = .ok (.ixor, 1) := by decide +kernel
theorem dX1_revertLatest_88 : decode cX1_revertLatest 88 = .ok (.iand, 1) := by decide +kernel
theorem dX1_revertLatest_89 : decode cX1_revertLatest 89 = .ok (.putfield 33, 3) := by decide +kernel
theorem dX1_revertLatest_92 : decode cX1_revertLatest 92 = .ok (.goto 28, 3) := by decide +kernel
theorem dX1_revertLatest_95 : decode cX1_revertLatest 95 = .ok (.aload_n 1, 1) := by decide +kernel
theorem dX1_revertLatest_96 : decode cX1_revertLatest 96 = .ok (.dup, 1) := by decide +kernel
theorem dX1_revertLatest_97 : decode cX1_revertLatest 97 = .ok (.getfield 33, 3) := by decide +kernel
theorem dX1_revertLatest_100 : decode cX1_revertLatest 100 = .ok (.iload_n 2, 1) := by decide +kernel
theorem dX1_revertLatest_101 : decode cX1_revertLatest 101 = .ok (.ior, 1) := by decide +kernel
theorem dX1_revertLatest_102 : decode cX1_revertLatest 102 = .ok (.putfield 33, 3) := by decide +kernel
theorem dX1_revertLatest_105 : decode cX1_revertLatest 105 = .ok (.goto 15, 3) := by decide +kernel
theorem dX1_revertLatest_108 : decode cX1_revertLatest 108 = .ok (.aload_n 1, 1) := by decide +kernel
theorem dX1_revertLatest_109 : decode cX1_revertLatest 109 = .ok (.dup, 1) := by decide +kernel
theorem dX1_revertLatest_110 : decode cX1_revertLatest 110 = .ok (.getfield 36, 3) := by decide +kernel
theorem dX1_revertLatest_113 : decode cX1_revertLatest 113 = .ok (.iload_n 2, 1) := by decide +kernel
theorem dX1_revertLatest_114 : decode cX1_revertLatest 114 = .ok (.iconst (-1), 1) := by decide +kernel
theorem dX1_revertLatest_115 : decode cX1_revertLatest 115 = .ok (.ixor, 1) := by decide +kernel
theorem dX1_revertLatest_116 : decode cX1_revertLatest 116 = .ok (.iand, 1) := by decide +kernel
theorem dX1_revertLatest_117 : decode cX1_revertLatest 117 = .ok (.putfield 36, 3) := by decide +kernel
theorem dX1_revertLatest_120 : decode cX1_revertLatest 120 = .ok (.return_, 1) := by decide +kernel
theorem kfX1_18 : ux_FL RX1 18 1 0 := ⟨RX1, TX1, 3, rfl, lay_X1, by decide, tw_240⟩
theorem kfX1_9 : ux_FL RX1 9 1 1 := ⟨RX1, TX1, 3, rfl, lay_X1, by decide, tw_242⟩
theorem kfX1_15 : ux_FL RX1 15 1 2 := ⟨RX1, TX1, 3, rfl, lay_X1, by decide, tw_243⟩
theorem kpX1_18 : ux_FP RX1 18 1 0 .int := ⟨RX1, TX1, 3, rfl, lay_X1, by decide, tw_240, tyX1, tyX1_ok, nmX1, rfl, by decide +kernel⟩
theorem kaX1_22 : ux_LA RX1 22 := ⟨tw_816, tw_464, tw_463, tw_85⟩
theorem kpX1_28 : ux_FP RX1 28 8 0 .int := ⟨RX8, TX8, 5, rfl, lay_X8, by decide, tw_206, tyX8, tyX8_ok, nmX8, rfl, by decide +kernel⟩
theorem kfX1_33 : ux_FL RX1 33 8 1 := ⟨RX8, TX8, 5, rfl, lay_X8, by decide, tw_209⟩
theorem kpX1_33 : ux_FP RX1 33 8 1 .int := ⟨RX8, TX8, 5, rfl, lay_X8, by decide, tw_209, tyX8, tyX8_ok, nmX8, rfl, by decide +kernel⟩
theorem kfX1_36 : ux_FL RX1 36 8 2 := ⟨RX8, TX8, 5, rfl, lay_X8, by decide, tw_213⟩
theorem kpX1_36 : ux_FP RX1 36 8 2 .int := ⟨RX8, TX8, 5, rfl, lay_X8, by decide, tw_213, tyX8, tyX8_ok, nmX8, rfl, by decide +kernel⟩
def fX1_note_75 (N : ux_N) : Option (ux_N) :=
  some N
set_option maxHeartbeats 4000000 in
set_option maxRecDepth 20000 in
theorem wX1_note_75 {X : ux_X} (C : ux_C X cX1_note RX1 3 none 1 60 shC)   {N : ux_N} {L : ux_L} {o : ux_N} (hq : ux_Qv X o L) (h : fX1_note_75 N = some o) : ux_Wt X 3 75 [] [] N L := by
  cases h
  exact wt_vret C hq dX1_note_75
def fX1_note_45 (v1 : Int32) (v2 : Int32) (N : ux_N) : Option (ux_N) :=
  if ux_in (N 30 0) 8 then (if ux_in ((ux_u N 31 ((N 30 0).toNatClampNeg) v1) 30 0) 8 then (fX1_note_75 (ux_u (ux_u (ux_u N 31 ((N 30 0).toNatClampNeg) v1) 32 (((ux_u N 31 ((N 30 0).toNatClampNeg) v1) 30 0).toNatClampNeg) v2) 30 0 (((ux_u (ux_u N 31 ((N 30 0).toNatClampNeg) v1) 32 (((ux_u N 31 ((N 30 0).toNatClampNeg) v1) 30 0).toNatClampNeg) v2) 30 0) + (1 : Int32)))) else none) else none
set_option maxHeartbeats 4000000 in
set_option maxRecDepth 20000 in
theorem wX1_note_45 {X : ux_X} (C : ux_C X cX1_note RX1 3 none 1 60 shC) {v1 : Int32} {v2 : Int32}  {N : ux_N} {L : ux_L} {o : ux_N} (hq : ux_Qv X o L) (h : fX1_note_45 v1 v2 N = some o) : ux_Wt X 3 45 [(0, .ref (ux_ad X 30)), (1, .int v1), (2, .int v2)] [] N L := by
  refine wt_aload_n 46 0 C dX1_note_45 rfl rfl ?_
  refine wt_getR 49 C kfX1_9 sc_30 rfl dX1_note_46 rfl ?_
  refine wt_aload_n 50 0 C dX1_note_49 rfl rfl ?_
  refine wt_getI 53 C kfX1_18 sc_30 rfl dX1_note_50 rfl ?_
  refine wt_iload_n 54 1 C dX1_note_53 rfl rfl ?_
  obtain ⟨hi1, h⟩ := ux_guard h
  refine wt_iast 55 ((N 30 0).toNatClampNeg) C sc_31 rfl hi1 dX1_note_54 rfl ?_
  refine wt_aload_n 56 0 C dX1_note_55 rfl rfl ?_
  refine wt_getR 59 C kfX1_15 sc_30 rfl dX1_note_56 rfl ?_
  refine wt_aload_n 60 0 C dX1_note_59 rfl rfl ?_
  refine wt_getI 63 C kfX1_18 sc_30 rfl dX1_note_60 rfl ?_
  refine wt_iload_n 64 2 C dX1_note_63 rfl rfl ?_
  obtain ⟨hi2, h⟩ := ux_guard h
  refine wt_iast 65 (((ux_u N 31 ((N 30 0).toNatClampNeg) v1) 30 0).toNatClampNeg) C sc_32 rfl hi2 dX1_note_64 rfl ?_
  refine wt_aload_n 66 0 C dX1_note_65 rfl rfl ?_
  refine wt_dup 67 C dX1_note_66 rfl rfl ?_
  refine wt_getI 70 C kfX1_18 sc_30 rfl dX1_note_67 rfl ?_
  refine wt_iconst 71 1 C dX1_note_70 rfl (by decide) ?_
  refine wt_iadd 72 C dX1_note_71 rfl ?_
  refine wt_putI 75 C kpX1_18 sc_30 rfl rfl rfl dX1_note_72 rfl ?_
  refine wt_sub [] rfl ?_
  exact wX1_note_75 C hq h
def fX1_note (v1 : Int32) (v2 : Int32) (N : ux_N) : Option (ux_N) :=
  if (N 30 0) < (8 : Int32) then (fX1_note_45 v1 v2 N) else (fX1_note_45 v1 v2 (ux_u (ux_cpN (ux_cpN N 31 31 1 0 7) 32 32 1 0 7) 30 0 (7 : Int32)))
set_option maxHeartbeats 4000000 in
set_option maxRecDepth 20000 in
theorem wX1_note {X : ux_X} (C : ux_C X cX1_note RX1 3 none 1 60 shC) {v1 : Int32} {v2 : Int32}  {N : ux_N} {L : ux_L} {o : ux_N} (hq : ux_Qv X o L) (h : fX1_note v1 v2 N = some o) : ux_Wt X 3 0 [(0, .ref (ux_ad X 30)), (1, .int v1), (2, .int v2)] [] N L := by
  refine wt_aload_n 1 0 C dX1_note_0 rfl rfl ?_
  refine wt_getI 4 C kfX1_18 sc_30 rfl dX1_note_1 rfl ?_
  refine wt_bipush 6 8 C dX1_note_4 rfl (by decide) ?_
  refine wt_icmp_lt 9 45 C dX1_note_6 rfl (by decide) (fun q1 => ?_) (fun q1 => ?_)
  · have h := (if_pos q1).symm.trans h
    exact wX1_note_45 C hq h
  · have h := (if_neg q1).symm.trans h
    refine wt_aload_n 10 0 C dX1_note_9 rfl rfl ?_
    refine wt_getR 13 C kfX1_9 sc_30 rfl dX1_note_10 rfl ?_
    refine wt_iconst 14 1 C dX1_note_13 rfl (by decide) ?_
    refine wt_aload_n 15 0 C dX1_note_14 rfl rfl ?_
    refine wt_getR 18 C kfX1_9 sc_30 rfl dX1_note_15 rfl ?_
    refine wt_iconst 19 0 C dX1_note_18 rfl (by decide) ?_
    refine wt_bipush 21 7 C dX1_note_19 rfl (by decide) ?_
    refine wt_copyI 24 1 0 7 C kaX1_22 sc_31 sc_31 (by decide) (by decide) (by decide) (by decide) (by decide) (by decide) (by decide) (by decide) (by decide) (Nat.le_of_ble_eq_true rfl) dX1_note_21 rfl ?_
    refine wt_aload_n 25 0 C dX1_note_24 rfl rfl ?_
    refine wt_getR 28 C kfX1_15 sc_30 rfl dX1_note_25 rfl ?_
    refine wt_iconst 29 1 C dX1_note_28 rfl (by decide) ?_
    refine wt_aload_n 30 0 C dX1_note_29 rfl rfl ?_
    refine wt_getR 33 C kfX1_15 sc_30 rfl dX1_note_30 rfl ?_
    refine wt_iconst 34 0 C dX1_note_33 rfl (by decide) ?_
    refine wt_bipush 36 7 C dX1_note_34 rfl (by decide) ?_
    refine wt_copyI 39 1 0 7 C kaX1_22 sc_32 sc_32 (by decide) (by decide) (by decide) (by decide) (by decide) (by decide) (by decide) (by decide) (by decide) (Nat.le_of_ble_eq_true rfl) dX1_note_36 rfl ?_
    refine wt_aload_n 40 0 C dX1_note_39 rfl rfl ?_
    refine wt_bipush 42 7 C dX1_note_40 rfl (by decide) ?_
    refine wt_putI 45 C kpX1_18 sc_30 rfl rfl rfl dX1_note_42 rfl ?_
    exact wX1_note_45 C hq h
theorem mX1_note {l : Launch} {G : ux_G} (hok : ux_ok G shC) {v1 : Int32} {v2 : Int32}  {N : ux_N} {L : ux_L} {o : ux_N} (h : fX1_note v1 v2 N = some o) : ux_Mv l G yX1_note cX1_note 3 1 60 [.ref (gad G 30), .int v1, .int v2] N L o L :=
  ux_ofv shC hok (by decide +kernel) (Nat.le_of_ble_eq_true rfl) (fun X hG hl C hq => by subst hG; subst hl; exact wX1_note C  hq h)
def fX1_revertLatest_120 (c1 : Nat) (N : ux_N) : Option (ux_N) :=
  some N
set_option maxHeartbeats 4000000 in
set_option maxRecDepth 20000 in
theorem wX1_revertLatest_120 {X : ux_X} (C : ux_C X cX1_revertLatest RX1 3 none 0 0 shC) {c1 : Nat} (p1 : is_X8 c1) {N : ux_N} {L : ux_L} {o : ux_N} (hq : ux_Qv X o L) (h : fX1_revertLatest_120 c1 N = some o) : ux_Wt X 3 120 [] [] N L := by
  cases h
  exact wt_vret C hq dX1_revertLatest_120
def fX1_revertLatest_77 (c1 : Nat) (N : ux_N) : Option (ux_N) :=
  fX1_revertLatest_120 c1 N
set_option maxHeartbeats 4000000 in
set_option maxRecDepth 20000 in
theorem wX1_revertLatest_77 {X : ux_X} (C : ux_C X cX1_revertLatest RX1 3 none 0 0 shC) {c1 : Nat} (p1 : is_X8 c1) {N : ux_N} {L : ux_L} {o : ux_N} (hq : ux_Qv X o L) (h : fX1_revertLatest_77 c1 N = some o) : ux_Wt X 3 77 [] [] N L := by
  refine wt_goto 120 C dX1_revertLatest_77 (by decide) ?_
  exact wX1_revertLatest_120 C p1 hq h
def fX1_revertLatest_89 (c1 : Nat) (s0 : Int32) (N : ux_N) : Option (ux_N) :=
  fX1_revertLatest_120 c1 (ux_u N c1 1 s0)
set_option maxHeartbeats 4000000 in
set_option maxRecDepth 20000 in
theorem wX1_revertLatest_89 {X : ux_X} (C : ux_C X cX1_revertLatest RX1 3 none 0 0 shC) {c1 : Nat} {s0 : Int32} (p1 : is_X8 c1) {N : ux_N} {L : ux_L} {o : ux_N} (hq : ux_Qv X o L) (h : fX1_revertLatest_89 c1 s0 N = some o) : ux_Wt X 3 89 [] [.int s0, .ref (ux_ad X c1)] N L := by
  refine wt_putI 92 C kpX1_33 (p1).1 rfl rfl rfl dX1_revertLatest_89 rfl ?_
  refine wt_goto 120 C dX1_revertLatest_92 (by decide) ?_
  exact wX1_revertLatest_120 C p1 hq h
def fX1_revertLatest_102 (c1 : Nat) (s0 : Int32) (N : ux_N) : Option (ux_N) :=
  fX1_revertLatest_120 c1 (ux_u N c1 1 s0)
set_option maxHeartbeats 4000000 in
set_option maxRecDepth 20000 in
theorem wX1_revertLatest_102 {X : ux_X} (C : ux_C X cX1_revertLatest RX1 3 none 0 0 shC) {c1 : Nat} {s0 : Int32} (p1 : is_X8 c1) {N : ux_N} {L : ux_L} {o : ux_N} (hq : ux_Qv X o L) (h : fX1_revertLatest_102 c1 s0 N = some o) : ux_Wt X 3 102 [] [.int s0, .ref (ux_ad X c1)] N L := by
  refine wt_putI 105 C kpX1_33 (p1).1 rfl rfl rfl dX1_revertLatest_102 rfl ?_
  refine wt_goto 120 C dX1_revertLatest_105 (by decide) ?_
  exact wX1_revertLatest_120 C p1 hq h
def fX1_revertLatest_117 (c1 : Nat) (s0 : Int32) (N : ux_N) : Option (ux_N) :=
  fX1_revertLatest_120 c1 (ux_u N c1 2 s0)
set_option maxHeartbeats 4000000 in
set_option maxRecDepth 20000 in
theorem wX1_revertLatest_117 {X : ux_X} (C : ux_C X cX1_revertLatest RX1 3 none 0 0 shC) {c1 : Nat} {s0 : Int32} (p1 : is_X8 c1) {N : ux_N} {L : ux_L} {o : ux_N} (hq : ux_Qv X o L) (h : fX1_revertLatest_117 c1 s0 N = some o) : ux_Wt X 3 117 [] [.int s0, .ref (ux_ad X c1)] N L := by
  refine wt_putI 120 C kpX1_36 (p1).1 rfl rfl rfl dX1_revertLatest_117 rfl ?_
  exact wX1_revertLatest_120 C p1 hq h
def fX1_revertLatest (c1 : Nat) (N : ux_N) : Option (ux_N) :=
  if 0 < (N 30 0) then (if ux_in ((ux_u N 30 0 ((N 30 0) - (1 : Int32))) 30 0) 8 then (if ux_in ((ux_u N 30 0 ((N 30 0) - (1 : Int32))) 30 0) 8 then (if ((ux_u N 30 0 ((N 30 0) - (1 : Int32))) 31 (((ux_u N 30 0 ((N 30 0) - (1 : Int32))) 30 0).toNatClampNeg)) = (0 : Int32) then (if ux_in ((ux_u N 30 0 ((N 30 0) - (1 : Int32))) 30 0) 8 then (fX1_revertLatest_77 c1 (ux_u (ux_u N 30 0 ((N 30 0) - (1 : Int32))) c1 0 ((ux_u N 30 0 ((N 30 0) - (1 : Int32))) 32 (((ux_u N 30 0 ((N 30 0) - (1 : Int32))) 30 0).toNatClampNeg)))) else none) else (if ((ux_u N 30 0 ((N 30 0) - (1 : Int32))) 31 (((ux_u N 30 0 ((N 30 0) - (1 : Int32))) 30 0).toNatClampNeg)) = (1 : Int32) then (fX1_revertLatest_89 c1 (((ux_u N 30 0 ((N 30 0) - (1 : Int32))) c1 1) &&& (((1 : Int32) <<< (((ux_u N 30 0 ((N 30 0) - (1 : Int32))) 32 (((ux_u N 30 0 ((N 30 0) - (1 : Int32))) 30 0).toNatClampNeg)) &&& 31)) ^^^ (-1 : Int32))) (ux_u N 30 0 ((N 30 0) - (1 : Int32)))) else (if ((ux_u N 30 0 ((N 30 0) - (1 : Int32))) 31 (((ux_u N 30 0 ((N 30 0) - (1 : Int32))) 30 0).toNatClampNeg)) = (2 : Int32) then (fX1_revertLatest_102 c1 (((ux_u N 30 0 ((N 30 0) - (1 : Int32))) c1 1) ||| ((1 : Int32) <<< (((ux_u N 30 0 ((N 30 0) - (1 : Int32))) 32 (((ux_u N 30 0 ((N 30 0) - (1 : Int32))) 30 0).toNatClampNeg)) &&& 31))) (ux_u N 30 0 ((N 30 0) - (1 : Int32)))) else (fX1_revertLatest_117 c1 (((ux_u N 30 0 ((N 30 0) - (1 : Int32))) c1 2) &&& (((1 : Int32) <<< (((ux_u N 30 0 ((N 30 0) - (1 : Int32))) 32 (((ux_u N 30 0 ((N 30 0) - (1 : Int32))) 30 0).toNatClampNeg)) &&& 31)) ^^^ (-1 : Int32))) (ux_u N 30 0 ((N 30 0) - (1 : Int32))))))) else none) else none) else (some N)
set_option maxHeartbeats 4000000 in
set_option maxRecDepth 20000 in
theorem wX1_revertLatest {X : ux_X} (C : ux_C X cX1_revertLatest RX1 3 none 0 0 shC) {c1 : Nat} (p1 : is_X8 c1) {N : ux_N} {L : ux_L} {o : ux_N} (hq : ux_Qv X o L) (h : fX1_revertLatest c1 N = some o) : ux_Wt X 3 0 [(0, .ref (ux_ad X 30)), (1, .ref (ux_ad X c1))] [] N L := by
  refine wt_aload_n 1 0 C dX1_revertLatest_0 rfl rfl ?_
  refine wt_getI 4 C kfX1_18 sc_30 rfl dX1_revertLatest_1 rfl ?_
  refine wt_if_gt 7 8 C dX1_revertLatest_4 rfl (by decide) (fun q1 => ?_) (fun q1 => ?_)
  · have h := (if_pos q1).symm.trans h
    refine wt_aload_n 9 0 C dX1_revertLatest_8 rfl rfl ?_
    refine wt_dup 10 C dX1_revertLatest_9 rfl rfl ?_
    refine wt_getI 13 C kfX1_18 sc_30 rfl dX1_revertLatest_10 rfl ?_
    refine wt_iconst 14 1 C dX1_revertLatest_13 rfl (by decide) ?_
    refine wt_isub 15 C dX1_revertLatest_14 rfl ?_
    refine wt_putI 18 C kpX1_18 sc_30 rfl rfl rfl dX1_revertLatest_15 rfl ?_
    refine wt_iconst 19 1 C dX1_revertLatest_18 rfl (by decide) ?_
    refine wt_aload_n 20 0 C dX1_revertLatest_19 rfl rfl ?_
    refine wt_getR 23 C kfX1_15 sc_30 rfl dX1_revertLatest_20 rfl ?_
    refine wt_aload_n 24 0 C dX1_revertLatest_23 rfl rfl ?_
    refine wt_getI 27 C kfX1_18 sc_30 rfl dX1_revertLatest_24 rfl ?_
    obtain ⟨hi2, h⟩ := ux_guard h
    refine wt_iald 28 (((ux_u N 30 0 ((N 30 0) - (1 : Int32))) 30 0).toNatClampNeg) C sc_32 rfl hi2 dX1_revertLatest_27 rfl ?_
    refine wt_ishl 29 C dX1_revertLatest_28 rfl ?_
    refine wt_istore_n 30 [(2, .int ((1 : Int32) <<< (((ux_u N 30 0 ((N 30 0) - (1 : Int32))) 32 (((ux_u N 30 0 ((N 30 0) - (1 : Int32))) 30 0).toNatClampNeg)) &&& 31))), (0, .ref (ux_ad X 30)), (1, .ref (ux_ad X c1))] C dX1_revertLatest_29 rfl (by decide) rfl ?_
    refine wt_aload_n 31 1 C dX1_revertLatest_30 rfl rfl ?_
    refine wt_getR 34 C kfX1_9 sc_30 rfl dX1_revertLatest_31 rfl ?_
    refine wt_aload_n 35 1 C dX1_revertLatest_34 rfl rfl ?_
    refine wt_getI 38 C kfX1_18 sc_30 rfl dX1_revertLatest_35 rfl ?_
    obtain ⟨hi3, h⟩ := ux_guard h
    refine wt_iald 39 (((ux_u N 30 0 ((N 30 0) - (1 : Int32))) 30 0).toNatClampNeg) C sc_31 rfl hi3 dX1_revertLatest_38 rfl ?_
    by_cases q4 : ((ux_u N 30 0 ((N 30 0) - (1 : Int32))) 31 (((ux_u N 30 0 ((N 30 0) - (1 : Int32))) 30 0).toNatClampNeg)) = (0 : Int32)
    · have h := (if_pos q4).symm.trans h
      refine wt_tin 64 (0) C dX1_revertLatest_39 q4 (by decide) (by decide) rfl (by decide) ?_
      refine wt_aload_n 65 2 C dX1_revertLatest_64 rfl rfl ?_
      refine wt_aload_n 66 1 C dX1_revertLatest_65 rfl rfl ?_
      refine wt_getR 69 C kfX1_15 sc_30 rfl dX1_revertLatest_66 rfl ?_
      refine wt_aload_n 70 1 C dX1_revertLatest_69 rfl rfl ?_
      refine wt_getI 73 C kfX1_18 sc_30 rfl dX1_revertLatest_70 rfl ?_
      obtain ⟨hi5, h⟩ := ux_guard h
      refine wt_iald 74 (((ux_u N 30 0 ((N 30 0) - (1 : Int32))) 30 0).toNatClampNeg) C sc_32 rfl hi5 dX1_revertLatest_73 rfl ?_
      refine wt_putI 77 C kpX1_28 (p1).1 rfl rfl rfl dX1_revertLatest_74 rfl ?_
      refine wt_sub [] rfl ?_
      exact wX1_revertLatest_77 C p1 hq h
    have h := (if_neg q4).symm.trans h
    by_cases q6 : ((ux_u N 30 0 ((N 30 0) - (1 : Int32))) 31 (((ux_u N 30 0 ((N 30 0) - (1 : Int32))) 30 0).toNatClampNeg)) = (1 : Int32)
    · have h := (if_pos q6).symm.trans h
      refine wt_tin 80 (1) C dX1_revertLatest_39 q6 (by decide) (by decide) rfl (by decide) ?_
      refine wt_aload_n 81 2 C dX1_revertLatest_80 rfl rfl ?_
      refine wt_dup 82 C dX1_revertLatest_81 rfl rfl ?_
      refine wt_getI 85 C kfX1_33 (p1).1 rfl dX1_revertLatest_82 rfl ?_
      refine wt_iload_n 86 0 C dX1_revertLatest_85 rfl rfl ?_
      refine wt_iconst 87 (-1) C dX1_revertLatest_86 rfl (by decide) ?_
      refine wt_ixor 88 C dX1_revertLatest_87 rfl ?_
      refine wt_iand 89 C dX1_revertLatest_88 rfl ?_
      refine wt_sub [] rfl ?_
      exact wX1_revertLatest_89 C p1 hq h
    have h := (if_neg q6).symm.trans h
    by_cases q7 : ((ux_u N 30 0 ((N 30 0) - (1 : Int32))) 31 (((ux_u N 30 0 ((N 30 0) - (1 : Int32))) 30 0).toNatClampNeg)) = (2 : Int32)
    · have h := (if_pos q7).symm.trans h
      refine wt_tin 95 (2) C dX1_revertLatest_39 q7 (by decide) (by decide) rfl (by decide) ?_
      refine wt_aload_n 96 2 C dX1_revertLatest_95 rfl rfl ?_
      refine wt_dup 97 C dX1_revertLatest_96 rfl rfl ?_
      refine wt_getI 100 C kfX1_33 (p1).1 rfl dX1_revertLatest_97 rfl ?_
      refine wt_iload_n 101 0 C dX1_revertLatest_100 rfl rfl ?_
      refine wt_ior 102 C dX1_revertLatest_101 rfl ?_
      refine wt_sub [] rfl ?_
      exact wX1_revertLatest_102 C p1 hq h
    have h := (if_neg q7).symm.trans h
    refine wt_tout 108 C dX1_revertLatest_39 (by have z0 := lv_neT q4 (show (0 : Int32).toInt = 0 from by decide); have z1 := lv_neT q6 (show (1 : Int32).toInt = 1 from by decide); have z2 := lv_neT q7 (show (2 : Int32).toInt = 2 from by decide); omega) (by decide) ?_
    refine wt_aload_n 109 2 C dX1_revertLatest_108 rfl rfl ?_
    refine wt_dup 110 C dX1_revertLatest_109 rfl rfl ?_
    refine wt_getI 113 C kfX1_36 (p1).1 rfl dX1_revertLatest_110 rfl ?_
    refine wt_iload_n 114 0 C dX1_revertLatest_113 rfl rfl ?_
    refine wt_iconst 115 (-1) C dX1_revertLatest_114 rfl (by decide) ?_
    refine wt_ixor 116 C dX1_revertLatest_115 rfl ?_
    refine wt_iand 117 C dX1_revertLatest_116 rfl ?_
    refine wt_sub [] rfl ?_
    exact wX1_revertLatest_117 C p1 hq h
  · have h := (if_neg q1).symm.trans h
    cases h
    exact wt_vret C hq dX1_revertLatest_7
theorem mX1_revertLatest {l : Launch} {G : ux_G} (hok : ux_ok G shC) {c1 : Nat} (p1 : is_X8 c1) {N : ux_N} {L : ux_L} {o : ux_N} (h : fX1_revertLatest c1 N = some o) : ux_Mv l G yX1_revertLatest cX1_revertLatest 3 0 0 [.ref (gad G 30), .ref (gad G c1)] N L o L :=
  ux_ofv shC hok (by decide +kernel) (Nat.le_of_ble_eq_true rfl) (fun X hG hl C hq => by subst hG; subst hl; exact wX1_revertLatest C p1 hq h)
end
section
theorem dX2_separate_0 : decode cX2_separate 0 = .ok (.iconst 0, 1) := by decide +kernel
theorem dX2_separate_1 : decode cX2_separate 1 = .ok (.istore_n 1, 1) := by decide +kernel
theorem dX2_separate_2 : decode cX2_separate 2 = .ok (.iload_n 1, 1) := by decide +kernel
theorem dX2_separate_3 : decode cX2_separate 3 = .ok (.bipush 8, 2) := by decide +kernel
theorem dX2_separate_5 : decode cX2_separate 5 = .ok (.if_icmp .ge 16, 3) := by decide +kernel
theorem dX2_separate_8 : decode cX2_separate 8 = .ok (.aload_n 0, 1) := by decide +kernel
theorem dX2_separate_9 : decode cX2_separate 9 = .ok (.getfield 9, 3) := by decide +kernel
theorem dX2_separate_12 : decode cX2_separate 12 = .ok (.iload_n 1, 1) := by decide +kernel
theorem dX2_separate_13 : decode cX2_separate 13 = .ok (.iload_n 1, 1) := by decide +kernel
theorem dX2_separate_14 : decode cX2_separate 14 = .ok (.iastore, 1) := by decide +kernel
theorem dX2_separate_15 : decode cX2_separate 15 = .ok (.iinc 1 1, 3) := by decide +kernel
theorem dX2_separate_18 : decode cX2_separate 18 = .ok (.goto (-16), 3) := by decide +kernel
theorem dX2_separate_21 : decode cX2_separate 21 = .ok (.return_, 1) := by decide +kernel
theorem dX2_copyFrom_0 : decode cX2_copyFrom 0 = .ok (.aload_n 1, 1) := by decide +kernel
theorem dX2_copyFrom_1 : decode cX2_copyFrom 1 = .ok (.getfield 9, 3) := by decide +kernel
theorem dX2_copyFrom_4 : decode cX2_copyFrom 4 = .ok (.iconst 0, 1) := by decide +kernel
theorem dX2_copyFrom_5 : decode cX2_copyFrom 5 = .ok (.aload_n 0, 1) := by decide +kernel
theorem dX2_copyFrom_6 : decode cX2_copyFrom 6 = .ok (.getfield 9, 3) := by decide +kernel
theorem dX2_copyFrom_9 : decode cX2_copyFrom 9 = .ok (.iconst 0, 1) := by decide +kernel
theorem dX2_copyFrom_10 : decode cX2_copyFrom 10 = .ok (.bipush 8, 2) := by decide +kernel
theorem dX2_copyFrom_12 : decode cX2_copyFrom 12 = .ok (.invokestatic 15, 3) := by decide +kernel
theorem dX2_copyFrom_15 : decode cX2_copyFrom 15 = .ok (.return_, 1) := by decide +kernel
theorem dX2_areOne_0 : decode cX2_areOne 0 = .ok (.aload_n 0, 1) := by decide +kernel
theorem dX2_areOne_1 : decode cX2_areOne 1 = .ok (.getfield 9, 3) := by decide +kernel
theorem dX2_areOne_4 : decode cX2_areOne 4 = .ok (.iload_n 1, 1) := by decide +kernel
theorem dX2_areOne_5 : decode cX2_areOne 5 = .ok (.iaload, 1) := by decide +kernel
theorem dX2_areOne_6 : decode cX2_areOne 6 = .ok (.aload_n 0, 1) := by decide +kernel
theorem dX2_areOne_7 : decode cX2_areOne 7 = .ok (.getfield 9, 3) := by decide +kernel
theorem dX2_areOne_10 : decode cX2_areOne 10 = .ok (.iload_n 2, 1) := by decide +kernel
theorem dX2_areOne_11 : decode cX2_areOne 11 = .ok (.iaload, 1) := by decide +kernel
theorem dX2_areOne_12 : decode cX2_areOne 12 = .ok (.if_icmp .ne 7, 3) := by decide +kernel
theorem dX2_areOne_15 : decode cX2_areOne 15 = .ok (.iconst 1, 1) := by decide +kernel
theorem dX2_areOne_16 : decode cX2_areOne 16 = .ok (.goto 4, 3) := by decide +kernel
theorem dX2_areOne_19 : decode cX2_areOne 19 = .ok (.iconst 0, 1) := by decide +kernel
theorem dX2_areOne_20 : decode cX2_areOne 20 = .ok (.ireturn, 1) := by decide +kernel
theorem dX2_join_0 : decode cX2_join 0 = .ok (.aload_n 0, 1) := by decide +kernel
theorem dX2_join_1 : decode cX2_join 1 = .ok (.getfield 9, 3) := by decide +kernel
theorem dX2_join_4 : decode cX2_join 4 = .ok (.iload_n 2, 1) := by decide +kernel
theorem dX2_join_5 : decode cX2_join 5 = .ok (.iaload, 1) := by decide +kernel
theorem dX2_join_6 : decode cX2_join 6 = .ok (.istore_n 3, 1) := by decide +kernel
theorem dX2_join_7 : decode cX2_join 7 = .ok (.iconst 0, 1) := by decide +kernel
theorem dX2_join_8 : decode cX2_join 8 = .ok (.istore 4, 2) := by decide +kernel
theorem dX2_join_10 : decode cX2_join 10 = .ok (.iload 4, 2) := by decide +kernel
theorem dX2_join_12 : decode cX2_join 12 = .ok (.bipush 8, 2) := by decide +kernel
theorem dX2_join_14 : decode cX2_join 14 = .ok (.if_icmp .ge 33, 3) := by decide +kernel
theorem dX2_join_17 : decode cX2_join 17 = .ok (.aload_n 0, 1) := by decide +kernel
theorem dX2_join_18 : decode cX2_join 18 = .ok (.getfield 9, 3) := by decide +kernel
theorem dX2_join_21 : decode cX2_join 21 = .ok (.iload 4, 2) := by decide +kernel
theorem dX2_join_23 : decode cX2_join 23 = .ok (.iaload, 1) := by decide +kernel
theorem dX2_join_24 : decode cX2_join 24 = .ok (.iload_n 3, 1) := by decide +kernel
theorem dX2_join_25 : decode cX2_join 25 = .ok (.if_icmp .ne 16, 3) := by decide +kernel
theorem dX2_join_28 : decode cX2_join 28 = .ok (.aload_n 0, 1) := by decide +kernel
theorem dX2_join_29 : decode cX2_join 29 = .ok (.getfield 9, 3) := by decide +kernel
theorem dX2_join_32 : decode cX2_join 32 = .ok (.iload 4, 2) := by decide +kernel
theorem dX2_join_34 : decode cX2_join 34 = .ok (.aload_n 0, 1) := by decide +kernel
theorem dX2_join_35 : decode cX2_join 35 = .ok (.getfield 9, 3) := by decide +kernel
theorem dX2_join_38 : decode cX2_join 38 = .ok (.iload_n 1, 1) := by decide +kernel
theorem dX2_join_39 : decode cX2_join 39 = .ok (.iaload, 1) := by decide +kernel
theorem dX2_join_40 : decode cX2_join 40 = .ok (.iastore, 1) := by decide +kernel
theorem dX2_join_41 : decode cX2_join 41 = .ok (.iinc 4 1, 3) := by decide +kernel
theorem dX2_join_44 : decode cX2_join 44 = .ok (.goto (-34), 3) := by decide +kernel
theorem dX2_join_47 : decode cX2_join 47 = .ok (.return_, 1) := by decide +kernel
theorem kfX2_9 : ux_FL RX2 9 2 0 := ⟨RX2, TX2, 1, rfl, lay_X2, by decide, tw_296⟩
theorem kaX2_15 : ux_LA RX2 15 := ⟨tw_462, tw_464, tw_463, tw_85⟩
def fX2_separate_2b (c0 : Nat) (v1 : Int32) (N : ux_N) : Option ((Int32 × ux_N) ⊕ (ux_N)) :=
  if (8 : Int32) ≤ v1 then (some (.inr (N))) else (if ux_in v1 8 then (some (.inl ((v1 + 1), (ux_u N (c0 + 1) (v1.toNatClampNeg) v1)))) else none)
set_option maxHeartbeats 4000000 in
set_option maxRecDepth 20000 in
theorem wX2_separate_2b {X : ux_X} (C : ux_C X cX2_separate RX2 2 none 0 0 shC) {c0 : Nat} {v1 : Int32} (p0 : is_X2 c0) {N : ux_N} {L : ux_L} {o : (Int32 × ux_N) ⊕ (ux_N)} (hin : ∀ s : Int32 × ux_N, o = .inl s → ux_Wt X 2 2 [(0, .ref (ux_ad X c0)), (1, .int s.1)] [] s.2 L) (hex0 : ∀ e : ux_N, o = .inr (e) → ux_Wt X 2 21 [] [] e L) (h : fX2_separate_2b c0 v1 N = some o) : ux_Wt X 2 2 [(0, .ref (ux_ad X c0)), (1, .int v1)] [] N L := by
  refine wt_iload_n 3 1 C dX2_separate_2 rfl rfl ?_
  refine wt_bipush 5 8 C dX2_separate_3 rfl (by decide) ?_
  refine wt_icmp_ge 8 21 C dX2_separate_5 rfl (by decide) (fun q1 => ?_) (fun q1 => ?_)
  · have h := (if_pos q1).symm.trans h
    refine wt_sub [] rfl ?_
    exact hex0 _ (Option.some.inj h).symm
  · have h := (if_neg q1).symm.trans h
    refine wt_aload_n 9 0 C dX2_separate_8 rfl rfl ?_
    refine wt_getR 12 C kfX2_9 (p0).1 rfl dX2_separate_9 rfl ?_
    refine wt_iload_n 13 1 C dX2_separate_12 rfl rfl ?_
    refine wt_iload_n 14 1 C dX2_separate_13 rfl rfl ?_
    obtain ⟨hi2, h⟩ := ux_guard h
    refine wt_iast 15 (v1.toNatClampNeg) C (p0).2 rfl hi2 dX2_separate_14 rfl ?_
    refine wt_iinc 18 1 [(1, .int (v1 + 1)), (0, .ref (ux_ad X c0))] (v1 + 1) C dX2_separate_15 rfl rfl (by rfl) (by decide) rfl ?_
    refine wt_goto 2 C dX2_separate_18 (by decide) ?_
    refine wt_sub [1, 0] rfl ?_
    exact hin _ (Option.some.inj h).symm
def fX2_separate (c0 : Nat) (N : ux_N) : Option (ux_N) :=
  (ux_lp (fun s : Int32 × ux_N => fX2_separate_2b c0 s.1 s.2) ux_fu ((0 : Int32), N)).bind (fun e8 => some e8)
set_option maxHeartbeats 4000000 in
set_option maxRecDepth 20000 in
theorem wX2_separate {X : ux_X} (C : ux_C X cX2_separate RX2 2 none 0 0 shC) {c0 : Nat} (p0 : is_X2 c0) {N : ux_N} {L : ux_L} {o : ux_N} (hq : ux_Qv X o L) (h : fX2_separate c0 N = some o) : ux_Wt X 2 0 [(0, .ref (ux_ad X c0))] [] N L := by
  refine wt_iconst 1 0 C dX2_separate_0 rfl (by decide) ?_
  refine wt_istore_n 2 [(1, .int (0 : Int32)), (0, .ref (ux_ad X c0))] C dX2_separate_1 rfl (by decide) rfl ?_
  obtain ⟨e1, hl2, h⟩ := Option.bind_eq_some_iff.mp h
  refine wt_sub [1, 0] rfl ?_
  refine ux_loop (fun s : Int32 × ux_N => fX2_separate_2b c0 s.1 s.2) (fun s : Int32 × ux_N => ux_Wt X 2 2 [(0, .ref (ux_ad X c0)), (1, .int s.1)] [] s.2 L) (e := e1) ?_ hl2
  intro s3 o4 hb5 hi6 hx7
  refine wX2_separate_2b C p0 hi6 (fun x0 he => ?_) hb5
  · obtain ⟨e8, rfl⟩ : ∃ z, z = x0 := ⟨_, rfl⟩
    have h9 := hx7 _ he
    subst h9
    cases h
    exact wt_vret C hq dX2_separate_21
theorem mX2_separate {l : Launch} {G : ux_G} (hok : ux_ok G shC) {c0 : Nat} (p0 : is_X2 c0) {N : ux_N} {L : ux_L} {o : ux_N} (h : fX2_separate c0 N = some o) : ux_Mv l G yX2_separate cX2_separate 2 0 0 [.ref (gad G c0)] N L o L :=
  ux_ofv shC hok (by decide +kernel) (Nat.le_of_ble_eq_true rfl) (fun X hG hl C hq => by subst hG; subst hl; exact wX2_separate C p0 hq h)
def fX2_copyFrom (c0 : Nat) (c1 : Nat) (N : ux_N) : Option (ux_N) :=
  some (ux_cpN N (c1 + 1) (c0 + 1) 0 0 8)
set_option maxHeartbeats 4000000 in
set_option maxRecDepth 20000 in
theorem wX2_copyFrom {X : ux_X} (C : ux_C X cX2_copyFrom RX2 2 none 1 60 shC) {c0 : Nat} {c1 : Nat} (p0 : is_X2 c0) (p1 : is_X2 c1) {N : ux_N} {L : ux_L} {o : ux_N} (hq : ux_Qv X o L) (h : fX2_copyFrom c0 c1 N = some o) : ux_Wt X 2 0 [(0, .ref (ux_ad X c0)), (1, .ref (ux_ad X c1))] [] N L := by
  refine wt_aload_n 1 1 C dX2_copyFrom_0 rfl rfl ?_
  refine wt_getR 4 C kfX2_9 (p1).1 rfl dX2_copyFrom_1 rfl ?_
  refine wt_iconst 5 0 C dX2_copyFrom_4 rfl (by decide) ?_
  refine wt_aload_n 6 0 C dX2_copyFrom_5 rfl rfl ?_
  refine wt_getR 9 C kfX2_9 (p0).1 rfl dX2_copyFrom_6 rfl ?_
  refine wt_iconst 10 0 C dX2_copyFrom_9 rfl (by decide) ?_
  refine wt_bipush 12 8 C dX2_copyFrom_10 rfl (by decide) ?_
  refine wt_copyI 15 0 0 8 C kaX2_15 (p1).2 (p0).2 (by decide) (by decide) (by decide) (by decide) (by decide) (by decide) (by decide) (by decide) (by decide) (Nat.le_of_ble_eq_true rfl) dX2_copyFrom_12 rfl ?_
  cases h
  exact wt_vret C hq dX2_copyFrom_15
theorem mX2_copyFrom {l : Launch} {G : ux_G} (hok : ux_ok G shC) {c0 : Nat} {c1 : Nat} (p0 : is_X2 c0) (p1 : is_X2 c1) {N : ux_N} {L : ux_L} {o : ux_N} (h : fX2_copyFrom c0 c1 N = some o) : ux_Mv l G yX2_copyFrom cX2_copyFrom 2 1 60 [.ref (gad G c0), .ref (gad G c1)] N L o L :=
  ux_ofv shC hok (by decide +kernel) (Nat.le_of_ble_eq_true rfl) (fun X hG hl C hq => by subst hG; subst hl; exact wX2_copyFrom C p0 p1 hq h)
def fX2_areOne_20 (c0 : Nat) (s0 : Int32) (N : ux_N) : Option (Int32) :=
  if ux_b s0 then (some s0) else none
set_option maxHeartbeats 4000000 in
set_option maxRecDepth 20000 in
theorem wX2_areOne_20 {X : ux_X} (C : ux_C X cX2_areOne RX2 3 (some .boolean) 0 0 shC) {c0 : Nat} {s0 : Int32} (p0 : is_X2 c0) {N : ux_N} {L : ux_L} {o : Int32} (hq : ux_Qi X o N L) (h : fX2_areOne_20 c0 s0 N = some o) : ux_Wt X 3 20 [] [.int s0] N L := by
  obtain ⟨hb1, h⟩ := ux_guard h
  cases h
  exact wt_zret C (ux_b_n hb1).1 hq dX2_areOne_20
def fX2_areOne (c0 : Nat) (v1 : Int32) (v2 : Int32) (N : ux_N) : Option (Int32) :=
  if ux_in v1 8 then (if ux_in v2 8 then (if (N (c0 + 1) (v1.toNatClampNeg)) = (N (c0 + 1) (v2.toNatClampNeg)) then (fX2_areOne_20 c0 (1 : Int32) N) else (fX2_areOne_20 c0 (0 : Int32) N)) else none) else none
set_option maxHeartbeats 4000000 in
set_option maxRecDepth 20000 in
theorem wX2_areOne {X : ux_X} (C : ux_C X cX2_areOne RX2 3 (some .boolean) 0 0 shC) {c0 : Nat} {v1 : Int32} {v2 : Int32} (p0 : is_X2 c0) {N : ux_N} {L : ux_L} {o : Int32} (hq : ux_Qi X o N L) (h : fX2_areOne c0 v1 v2 N = some o) : ux_Wt X 3 0 [(0, .ref (ux_ad X c0)), (1, .int v1), (2, .int v2)] [] N L := by
  refine wt_aload_n 1 0 C dX2_areOne_0 rfl rfl ?_
  refine wt_getR 4 C kfX2_9 (p0).1 rfl dX2_areOne_1 rfl ?_
  refine wt_iload_n 5 1 C dX2_areOne_4 rfl rfl ?_
  obtain ⟨hi1, h⟩ := ux_guard h
  refine wt_iald 6 (v1.toNatClampNeg) C (p0).2 rfl hi1 dX2_areOne_5 rfl ?_
  refine wt_aload_n 7 0 C dX2_areOne_6 rfl rfl ?_
  refine wt_getR 10 C kfX2_9 (p0).1 rfl dX2_areOne_7 rfl ?_
  refine wt_iload_n 11 2 C dX2_areOne_10 rfl rfl ?_
  obtain ⟨hi2, h⟩ := ux_guard h
  refine wt_iald 12 (v2.toNatClampNeg) C (p0).2 rfl hi2 dX2_areOne_11 rfl ?_
  refine wt_icmp_ne 15 19 C dX2_areOne_12 rfl (by decide) (fun q3 => ?_) (fun q3 => ?_)
  · have h := (if_neg q3).symm.trans h
    refine wt_iconst 20 0 C dX2_areOne_19 rfl (by decide) ?_
    refine wt_sub [] rfl ?_
    exact wX2_areOne_20 C p0 hq h
  · have h := (if_pos q3).symm.trans h
    refine wt_iconst 16 1 C dX2_areOne_15 rfl (by decide) ?_
    refine wt_goto 20 C dX2_areOne_16 (by decide) ?_
    refine wt_sub [] rfl ?_
    exact wX2_areOne_20 C p0 hq h
theorem mX2_areOne {l : Launch} {G : ux_G} (hok : ux_ok G shC) {c0 : Nat} {v1 : Int32} {v2 : Int32} (p0 : is_X2 c0) {N : ux_N} {L : ux_L} {o : Int32} (h : fX2_areOne c0 v1 v2 N = some o) : ux_Mi l G yX2_areOne cX2_areOne 3 (some .boolean) 0 0 [.ref (gad G c0), .int v1, .int v2] N L o N L :=
  ux_ofi shC hok (by decide +kernel) (Nat.le_of_ble_eq_true rfl) (fun X hG hl C hq => by subst hG; subst hl; exact wX2_areOne C p0 hq h)
def fX2_join_10b_41 (c0 : Nat) (v1 : Int32) (v3 : Int32) (v4 : Int32) (N : ux_N) : Option ((Int32 × ux_N) ⊕ (ux_N)) :=
  some (.inl ((v4 + 1), N))
set_option maxHeartbeats 4000000 in
set_option maxRecDepth 20000 in
theorem wX2_join_10b_41 {X : ux_X} (C : ux_C X cX2_join RX2 5 none 0 0 shC) {c0 : Nat} {v1 : Int32} {v3 : Int32} {v4 : Int32} (p0 : is_X2 c0) {N : ux_N} {L : ux_L} {o : (Int32 × ux_N) ⊕ (ux_N)} (hin : ∀ s : Int32 × ux_N, o = .inl s → ux_Wt X 5 10 [(0, .ref (ux_ad X c0)), (1, .int v1), (3, .int v3), (4, .int s.1)] [] s.2 L) (hex0 : ∀ e : ux_N, o = .inr (e) → ux_Wt X 5 47 [] [] e L) (h : fX2_join_10b_41 c0 v1 v3 v4 N = some o) : ux_Wt X 5 41 [(0, .ref (ux_ad X c0)), (1, .int v1), (3, .int v3), (4, .int v4)] [] N L := by
  refine wt_iinc 44 3 [(4, .int (v4 + 1)), (0, .ref (ux_ad X c0)), (1, .int v1), (3, .int v3)] (v4 + 1) C dX2_join_41 rfl rfl (by rfl) (by decide) rfl ?_
  refine wt_goto 10 C dX2_join_44 (by decide) ?_
  refine wt_sub [1, 2, 3, 0] rfl ?_
  exact hin _ (Option.some.inj h).symm
def fX2_join_10b (c0 : Nat) (v1 : Int32) (v3 : Int32) (v4 : Int32) (N : ux_N) : Option ((Int32 × ux_N) ⊕ (ux_N)) :=
  if (8 : Int32) ≤ v4 then (some (.inr (N))) else (if ux_in v4 8 then (if (N (c0 + 1) (v4.toNatClampNeg)) = v3 then (if ux_in v1 8 then (if ux_in v4 8 then (fX2_join_10b_41 c0 v1 v3 v4 (ux_u N (c0 + 1) (v4.toNatClampNeg) (N (c0 + 1) (v1.toNatClampNeg)))) else none) else none) else (fX2_join_10b_41 c0 v1 v3 v4 N)) else none)
set_option maxHeartbeats 4000000 in
set_option maxRecDepth 20000 in
theorem wX2_join_10b {X : ux_X} (C : ux_C X cX2_join RX2 5 none 0 0 shC) {c0 : Nat} {v1 : Int32} {v3 : Int32} {v4 : Int32} (p0 : is_X2 c0) {N : ux_N} {L : ux_L} {o : (Int32 × ux_N) ⊕ (ux_N)} (hin : ∀ s : Int32 × ux_N, o = .inl s → ux_Wt X 5 10 [(0, .ref (ux_ad X c0)), (1, .int v1), (3, .int v3), (4, .int s.1)] [] s.2 L) (hex0 : ∀ e : ux_N, o = .inr (e) → ux_Wt X 5 47 [] [] e L) (h : fX2_join_10b c0 v1 v3 v4 N = some o) : ux_Wt X 5 10 [(0, .ref (ux_ad X c0)), (1, .int v1), (3, .int v3), (4, .int v4)] [] N L := by
  refine wt_iload 12 3 C dX2_join_10 rfl rfl ?_
  refine wt_bipush 14 8 C dX2_join_12 rfl (by decide) ?_
  refine wt_icmp_ge 17 47 C dX2_join_14 rfl (by decide) (fun q1 => ?_) (fun q1 => ?_)
  · have h := (if_pos q1).symm.trans h
    refine wt_sub [] rfl ?_
    exact hex0 _ (Option.some.inj h).symm
  · have h := (if_neg q1).symm.trans h
    refine wt_aload_n 18 0 C dX2_join_17 rfl rfl ?_
    refine wt_getR 21 C kfX2_9 (p0).1 rfl dX2_join_18 rfl ?_
    refine wt_iload 23 3 C dX2_join_21 rfl rfl ?_
    obtain ⟨hi2, h⟩ := ux_guard h
    refine wt_iald 24 (v4.toNatClampNeg) C (p0).2 rfl hi2 dX2_join_23 rfl ?_
    refine wt_iload_n 25 2 C dX2_join_24 rfl rfl ?_
    refine wt_icmp_ne 28 41 C dX2_join_25 rfl (by decide) (fun q3 => ?_) (fun q3 => ?_)
    · have h := (if_neg q3).symm.trans h
      exact wX2_join_10b_41 C p0 hin hex0 h
    · have h := (if_pos q3).symm.trans h
      refine wt_aload_n 29 0 C dX2_join_28 rfl rfl ?_
      refine wt_getR 32 C kfX2_9 (p0).1 rfl dX2_join_29 rfl ?_
      refine wt_iload 34 3 C dX2_join_32 rfl rfl ?_
      refine wt_aload_n 35 0 C dX2_join_34 rfl rfl ?_
      refine wt_getR 38 C kfX2_9 (p0).1 rfl dX2_join_35 rfl ?_
      refine wt_iload_n 39 1 C dX2_join_38 rfl rfl ?_
      obtain ⟨hi4, h⟩ := ux_guard h
      refine wt_iald 40 (v1.toNatClampNeg) C (p0).2 rfl hi4 dX2_join_39 rfl ?_
      obtain ⟨hi5, h⟩ := ux_guard h
      refine wt_iast 41 (v4.toNatClampNeg) C (p0).2 rfl hi5 dX2_join_40 rfl ?_
      exact wX2_join_10b_41 C p0 hin hex0 h
def fX2_join (c0 : Nat) (v1 : Int32) (v2 : Int32) (N : ux_N) : Option (ux_N) :=
  if ux_in v2 8 then ((ux_lp (fun s : Int32 × ux_N => fX2_join_10b c0 v1 (N (c0 + 1) (v2.toNatClampNeg)) s.1 s.2) ux_fu ((0 : Int32), N)).bind (fun e9 => some e9)) else none
set_option maxHeartbeats 4000000 in
set_option maxRecDepth 20000 in
theorem wX2_join {X : ux_X} (C : ux_C X cX2_join RX2 5 none 0 0 shC) {c0 : Nat} {v1 : Int32} {v2 : Int32} (p0 : is_X2 c0) {N : ux_N} {L : ux_L} {o : ux_N} (hq : ux_Qv X o L) (h : fX2_join c0 v1 v2 N = some o) : ux_Wt X 5 0 [(0, .ref (ux_ad X c0)), (1, .int v1), (2, .int v2)] [] N L := by
  refine wt_aload_n 1 0 C dX2_join_0 rfl rfl ?_
  refine wt_getR 4 C kfX2_9 (p0).1 rfl dX2_join_1 rfl ?_
  refine wt_iload_n 5 2 C dX2_join_4 rfl rfl ?_
  obtain ⟨hi1, h⟩ := ux_guard h
  refine wt_iald 6 (v2.toNatClampNeg) C (p0).2 rfl hi1 dX2_join_5 rfl ?_
  refine wt_istore_n 7 [(3, .int (N (c0 + 1) (v2.toNatClampNeg))), (0, .ref (ux_ad X c0)), (1, .int v1), (2, .int v2)] C dX2_join_6 rfl (by decide) rfl ?_
  refine wt_iconst 8 0 C dX2_join_7 rfl (by decide) ?_
  refine wt_istore 10 [(4, .int (0 : Int32)), (3, .int (N (c0 + 1) (v2.toNatClampNeg))), (0, .ref (ux_ad X c0)), (1, .int v1), (2, .int v2)] C dX2_join_8 rfl (by decide) rfl ?_
  obtain ⟨e2, hl3, h⟩ := Option.bind_eq_some_iff.mp h
  refine wt_sub [2, 3, 1, 0] rfl ?_
  refine ux_loop (fun s : Int32 × ux_N => fX2_join_10b c0 v1 (N (c0 + 1) (v2.toNatClampNeg)) s.1 s.2) (fun s : Int32 × ux_N => ux_Wt X 5 10 [(0, .ref (ux_ad X c0)), (1, .int v1), (3, .int (N (c0 + 1) (v2.toNatClampNeg))), (4, .int s.1)] [] s.2 L) (e := e2) ?_ hl3
  intro s4 o5 hb6 hi7 hx8
  refine wX2_join_10b C p0 hi7 (fun x0 he => ?_) hb6
  · obtain ⟨e9, rfl⟩ : ∃ z, z = x0 := ⟨_, rfl⟩
    have h9 := hx8 _ he
    subst h9
    cases h
    exact wt_vret C hq dX2_join_47
theorem mX2_join {l : Launch} {G : ux_G} (hok : ux_ok G shC) {c0 : Nat} {v1 : Int32} {v2 : Int32} (p0 : is_X2 c0) {N : ux_N} {L : ux_L} {o : ux_N} (h : fX2_join c0 v1 v2 N = some o) : ux_Mv l G yX2_join cX2_join 5 0 0 [.ref (gad G c0), .int v1, .int v2] N L o L :=
  ux_ofv shC hok (by decide +kernel) (Nat.le_of_ble_eq_true rfl) (fun X hG hl C hq => by subst hG; subst hl; exact wX2_join C p0 hq h)
end
section
theorem dX3_copyFrom_0 : decode cX3_copyFrom 0 = .ok (.aload_n 0, 1) := by decide +kernel
theorem dX3_copyFrom_1 : decode cX3_copyFrom 1 = .ok (.aload_n 1, 1) := by decide +kernel
theorem dX3_copyFrom_2 : decode cX3_copyFrom 2 = .ok (.getfield 9, 3) := by decide +kernel
theorem dX3_copyFrom_5 : decode cX3_copyFrom 5 = .ok (.putfield 9, 3) := by decide +kernel
theorem dX3_copyFrom_8 : decode cX3_copyFrom 8 = .ok (.aload_n 0, 1) := by decide +kernel
theorem dX3_copyFrom_9 : decode cX3_copyFrom 9 = .ok (.aload_n 1, 1) := by decide +kernel
theorem dX3_copyFrom_10 : decode cX3_copyFrom 10 = .ok (.getfield 37, 3) := by decide +kernel
theorem dX3_copyFrom_13 : decode cX3_copyFrom 13 = .ok (.putfield 37, 3) := by decide +kernel
theorem dX3_copyFrom_16 : decode cX3_copyFrom 16 = .ok (.aload_n 0, 1) := by decide +kernel
theorem dX3_copyFrom_17 : decode cX3_copyFrom 17 = .ok (.aload_n 1, 1) := by decide +kernel
theorem dX3_copyFrom_18 : decode cX3_copyFrom 18 = .ok (.getfield 40, 3) := by decide +kernel
theorem dX3_copyFrom_21 : decode cX3_copyFrom 21 = .ok (.putfield 40, 3) := by decide +kernel
theorem dX3_copyFrom_24 : decode cX3_copyFrom 24 = .ok (.aload_n 0, 1) := by decide +kernel
theorem dX3_copyFrom_25 : decode cX3_copyFrom 25 = .ok (.aload_n 1, 1) := by decide +kernel
theorem dX3_copyFrom_26 : decode cX3_copyFrom 26 = .ok (.getfield 43, 3) := by decide +kernel
theorem dX3_copyFrom_29 : decode cX3_copyFrom 29 = .ok (.putfield 43, 3) := by decide +kernel
theorem dX3_copyFrom_32 : decode cX3_copyFrom 32 = .ok (.aload_n 1, 1) := by decide +kernel
theorem dX3_copyFrom_33 : decode cX3_copyFrom 33 = .ok (.getfield 15, 3) := by decide +kernel
theorem dX3_copyFrom_36 : decode cX3_copyFrom 36 = .ok (.iconst 0, 1) := by decide +kernel
theorem dX3_copyFrom_37 : decode cX3_copyFrom 37 = .ok (.aload_n 0, 1) := by decide +kernel
theorem dX3_copyFrom_38 : decode cX3_copyFrom 38 = .ok (.getfield 15, 3) := by decide +kernel
theorem dX3_copyFrom_41 : decode cX3_copyFrom 41 = .ok (.iconst 0, 1) := by decide +kernel
theorem dX3_copyFrom_42 : decode cX3_copyFrom 42 = .ok (.bipush 10, 2) := by decide +kernel
theorem dX3_copyFrom_44 : decode cX3_copyFrom 44 = .ok (.invokestatic 46, 3) := by decide +kernel
theorem dX3_copyFrom_47 : decode cX3_copyFrom 47 = .ok (.aload_n 1, 1) := by decide +kernel
theorem dX3_copyFrom_48 : decode cX3_copyFrom 48 = .ok (.getfield 19, 3) := by decide +kernel
theorem dX3_copyFrom_51 : decode cX3_copyFrom 51 = .ok (.iconst 0, 1) := by decide +kernel
theorem dX3_copyFrom_52 : decode cX3_copyFrom 52 = .ok (.aload_n 0, 1) := by decide +kernel
theorem dX3_copyFrom_53 : decode cX3_copyFrom 53 = .ok (.getfield 19, 3) := by decide +kernel
theorem dX3_copyFrom_56 : decode cX3_copyFrom 56 = .ok (.iconst 0, 1) := by decide +kernel
theorem dX3_copyFrom_57 : decode cX3_copyFrom 57 = .ok (.bipush 10, 2) := by decide +kernel
theorem dX3_copyFrom_59 : decode cX3_copyFrom 59 = .ok (.invokestatic 46, 3) := by decide +kernel
theorem dX3_copyFrom_62 : decode cX3_copyFrom 62 = .ok (.aload_n 1, 1) := by decide +kernel
theorem dX3_copyFrom_63 : decode cX3_copyFrom 63 = .ok (.getfield 22, 3) := by decide +kernel
theorem dX3_copyFrom_66 : decode cX3_copyFrom 66 = .ok (.iconst 0, 1) := by decide +kernel
theorem dX3_copyFrom_67 : decode cX3_copyFrom 67 = .ok (.aload_n 0, 1) := by decide +kernel
theorem dX3_copyFrom_68 : decode cX3_copyFrom 68 = .ok (.getfield 22, 3) := by decide +kernel
theorem dX3_copyFrom_71 : decode cX3_copyFrom 71 = .ok (.iconst 0, 1) := by decide +kernel
theorem dX3_copyFrom_72 : decode cX3_copyFrom 72 = .ok (.bipush 9, 2) := by decide +kernel
theorem dX3_copyFrom_74 : decode cX3_copyFrom 74 = .ok (.invokestatic 46, 3) := by decide +kernel
theorem dX3_copyFrom_77 : decode cX3_copyFrom 77 = .ok (.aload_n 1, 1) := by decide +kernel
theorem dX3_copyFrom_78 : decode cX3_copyFrom 78 = .ok (.getfield 25, 3) := by decide +kernel
theorem dX3_copyFrom_81 : decode cX3_copyFrom 81 = .ok (.iconst 0, 1) := by decide +kernel
theorem dX3_copyFrom_82 : decode cX3_copyFrom 82 = .ok (.aload_n 0, 1) := by decide +kernel
theorem dX3_copyFrom_83 : decode cX3_copyFrom 83 = .ok (.getfield 25, 3) := by decide +kernel
theorem dX3_copyFrom_86 : decode cX3_copyFrom 86 = .ok (.iconst 0, 1) := by decide +kernel
theorem dX3_copyFrom_87 : decode cX3_copyFrom 87 = .ok (.bipush 9, 2) := by decide +kernel
theorem dX3_copyFrom_89 : decode cX3_copyFrom 89 = .ok (.invokestatic 46, 3) := by decide +kernel
theorem dX3_copyFrom_92 : decode cX3_copyFrom 92 = .ok (.aload_n 1, 1) := by decide +kernel
theorem dX3_copyFrom_93 : decode cX3_copyFrom 93 = .ok (.getfield 28, 3) := by decide +kernel
theorem dX3_copyFrom_96 : decode cX3_copyFrom 96 = .ok (.iconst 0, 1) := by decide +kernel
theorem dX3_copyFrom_97 : decode cX3_copyFrom 97 = .ok (.aload_n 0, 1) := by decide +kernel
theorem dX3_copyFrom_98 : decode cX3_copyFrom 98 = .ok (.getfield 28, 3) := by decide +kernel
theorem dX3_copyFrom_101 : decode cX3_copyFrom 101 = .ok (.iconst 0, 1) := by decide +kernel
theorem dX3_copyFrom_102 : decode cX3_copyFrom 102 = .ok (.bipush 6, 2) := by decide +kernel
theorem dX3_copyFrom_104 : decode cX3_copyFrom 104 = .ok (.invokestatic 46, 3) := by decide +kernel
theorem dX3_copyFrom_107 : decode cX3_copyFrom 107 = .ok (.aload_n 1, 1) := by decide +kernel
theorem dX3_copyFrom_108 : decode cX3_copyFrom 108 = .ok (.getfield 31, 3) := by decide +kernel
theorem dX3_copyFrom_111 : decode cX3_copyFrom 111 = .ok (.iconst 0, 1) := by decide +kernel
theorem dX3_copyFrom_112 : decode cX3_copyFrom 112 = .ok (.aload_n 0, 1) := by decide +kernel
theorem dX3_copyFrom_113 : decode cX3_copyFrom 113 = .ok (.getfield 31, 3) := by decide +kernel
theorem dX3_copyFrom_116 : decode cX3_copyFrom 116 = .ok (.iconst 0, 1) := by decide +kernel
theorem dX3_copyFrom_117 : decode cX3_copyFrom 117 = .ok (.bipush 6, 2) := by decide +kernel
theorem dX3_copyFrom_119 : decode cX3_copyFrom 119 = .ok (.invokestatic 46, 3) := by decide +kernel
theorem dX3_copyFrom_122 : decode cX3_copyFrom 122 = .ok (.aload_n 1, 1) := by decide +kernel
theorem dX3_copyFrom_123 : decode cX3_copyFrom 123 = .ok (.getfield 34, 3) := by decide +kernel
theorem dX3_copyFrom_126 : decode cX3_copyFrom 126 = .ok (.iconst 0, 1) := by decide +kernel
theorem dX3_copyFrom_127 : decode cX3_copyFrom 127 = .ok (.aload_n 0, 1) := by decide +kernel
theorem dX3_copyFrom_128 : decode cX3_copyFrom 128 = .ok (.getfield 34, 3) := by decide +kernel
theorem dX3_copyFrom_131 : decode cX3_copyFrom 131 = .ok (.iconst 0, 1) := by decide +kernel
theorem dX3_copyFrom_132 : decode cX3_copyFrom 132 = .ok (.bipush 6, 2) := by decide +kernel
theorem dX3_copyFrom_134 : decode cX3_copyFrom 134 = .ok (.invokestatic 46, 3) := by decide +kernel
theorem dX3_copyFrom_137 : decode cX3_copyFrom 137 = .ok (.return_, 1) := by decide +kernel
theorem dX3_beginAnew_0 : decode cX3_beginAnew 0 = .ok (.aload_n 0, 1) := by decide +kernel
theorem dX3_beginAnew_1 : decode cX3_beginAnew 1 = .ok (.iload_n 1, 1) := by decide +kernel
theorem dX3_beginAnew_2 : decode cX3_beginAnew 2 = .ok (.putfield 9, 3) := by decide +kernel
theorem dX3_beginAnew_5 : decode cX3_beginAnew 5 = .ok (.aload_n 0, 1) := by decide +kernel
theorem dX3_beginAnew_6 : decode cX3_beginAnew 6 = .ok (.iconst 0, 1) := by decide +kernel
theorem dX3_beginAnew_7 : decode cX3_beginAnew 7 = .ok (.putfield 37, 3) := by decide +kernel
theorem dX3_beginAnew_10 : decode cX3_beginAnew 10 = .ok (.aload_n 0, 1) := by decide +kernel
theorem dX3_beginAnew_11 : decode cX3_beginAnew 11 = .ok (.iconst 0, 1) := by decide +kernel
theorem dX3_beginAnew_12 : decode cX3_beginAnew 12 = .ok (.putfield 40, 3) := by decide +kernel
theorem dX3_beginAnew_15 : decode cX3_beginAnew 15 = .ok (.aload_n 0, 1) := by decide +kernel
theorem dX3_beginAnew_16 : decode cX3_beginAnew 16 = .ok (.iconst 0, 1) := by decide +kernel
theorem dX3_beginAnew_17 : decode cX3_beginAnew 17 = .ok (.putfield 43, 3) := by decide +kernel
theorem dX3_beginAnew_20 : decode cX3_beginAnew 20 = .ok (.return_, 1) := by decide +kernel
theorem dX3_addLine_0 : decode cX3_addLine 0 = .ok (.aload_n 0, 1) := by decide +kernel
theorem dX3_addLine_1 : decode cX3_addLine 1 = .ok (.getfield 37, 3) := by decide +kernel
theorem dX3_addLine_4 : decode cX3_addLine 4 = .ok (.bipush 10, 2) := by decide +kernel
theorem dX3_addLine_6 : decode cX3_addLine 6 = .ok (.if_icmp .ge 41, 3) := by decide +kernel
theorem dX3_addLine_9 : decode cX3_addLine 9 = .ok (.aload_n 0, 1) := by decide +kernel
theorem dX3_addLine_10 : decode cX3_addLine 10 = .ok (.getfield 15, 3) := by decide +kernel
theorem dX3_addLine_13 : decode cX3_addLine 13 = .ok (.aload_n 0, 1) := by decide +kernel
theorem dX3_addLine_14 : decode cX3_addLine 14 = .ok (.getfield 37, 3) := by decide +kernel
theorem dX3_addLine_17 : decode cX3_addLine 17 = .ok (.iload_n 1, 1) := by decide +kernel
theorem dX3_addLine_18 : decode cX3_addLine 18 = .ok (.iload_n 2, 1) := by decide +kernel
theorem dX3_addLine_19 : decode cX3_addLine 19 = .ok (.invokestatic 52, 3) := by decide +kernel
theorem dX3_addLine_22 : decode cX3_addLine 22 = .ok (.iastore, 1) := by decide +kernel
theorem dX3_addLine_23 : decode cX3_addLine 23 = .ok (.aload_n 0, 1) := by decide +kernel
theorem dX3_addLine_24 : decode cX3_addLine 24 = .ok (.getfield 19, 3) := by decide +kernel
theorem dX3_addLine_27 : decode cX3_addLine 27 = .ok (.aload_n 0, 1) := by decide +kernel
theorem dX3_addLine_28 : decode cX3_addLine 28 = .ok (.getfield 37, 3) := by decide +kernel
theorem dX3_addLine_31 : decode cX3_addLine 31 = .ok (.iload_n 1, 1) := by decide +kernel
theorem dX3_addLine_32 : decode cX3_addLine 32 = .ok (.iload_n 2, 1) := by decide +kernel
theorem dX3_addLine_33 : decode cX3_addLine 33 = .ok (.invokestatic 58, 3) := by decide +kernel
theorem dX3_addLine_36 : decode cX3_addLine 36 = .ok (.iastore, 1) := by decide +kernel
theorem dX3_addLine_37 : decode cX3_addLine 37 = .ok (.aload_n 0, 1) := by decide +kernel
theorem dX3_addLine_38 : decode cX3_addLine 38 = .ok (.dup, 1) := by decide +kernel
theorem dX3_addLine_39 : decode cX3_addLine 39 = .ok (.getfield 37, 3) := by decide +kernel
theorem dX3_addLine_42 : decode cX3_addLine 42 = .ok (.iconst 1, 1) := by decide +kernel
theorem dX3_addLine_43 : decode cX3_addLine 43 = .ok (.iadd, 1) := by decide +kernel
theorem dX3_addLine_44 : decode cX3_addLine 44 = .ok (.putfield 37, 3) := by decide +kernel
theorem dX3_addLine_47 : decode cX3_addLine 47 = .ok (.return_, 1) := by decide +kernel
theorem dX3_addMeter_0 : decode cX3_addMeter 0 = .ok (.aload_n 0, 1) := by decide +kernel
theorem dX3_addMeter_1 : decode cX3_addMeter 1 = .ok (.getfield 40, 3) := by decide +kernel
theorem dX3_addMeter_4 : decode cX3_addMeter 4 = .ok (.bipush 9, 2) := by decide +kernel
theorem dX3_addMeter_6 : decode cX3_addMeter 6 = .ok (.if_icmp .ge 33, 3) := by decide +kernel
theorem dX3_addMeter_9 : decode cX3_addMeter 9 = .ok (.aload_n 0, 1) := by decide +kernel
theorem dX3_addMeter_10 : decode cX3_addMeter 10 = .ok (.getfield 22, 3) := by decide +kernel
theorem dX3_addMeter_13 : decode cX3_addMeter 13 = .ok (.aload_n 0, 1) := by decide +kernel
theorem dX3_addMeter_14 : decode cX3_addMeter 14 = .ok (.getfield 40, 3) := by decide +kernel
theorem dX3_addMeter_17 : decode cX3_addMeter 17 = .ok (.iload_n 1, 1) := by decide +kernel
theorem dX3_addMeter_18 : decode cX3_addMeter 18 = .ok (.iastore, 1) := by decide +kernel
theorem dX3_addMeter_19 : decode cX3_addMeter 19 = .ok (.aload_n 0, 1) := by decide +kernel
theorem dX3_addMeter_20 : decode cX3_addMeter 20 = .ok (.getfield 25, 3) := by decide +kernel
theorem dX3_addMeter_23 : decode cX3_addMeter 23 = .ok (.aload_n 0, 1) := by decide +kernel
theorem dX3_addMeter_24 : decode cX3_addMeter 24 = .ok (.getfield 40, 3) := by decide +kernel
theorem dX3_addMeter_27 : decode cX3_addMeter 27 = .ok (.iload_n 2, 1) := by decide +kernel
theorem dX3_addMeter_28 : decode cX3_addMeter 28 = .ok (.iastore, 1) := by decide +kernel
theorem dX3_addMeter_29 : decode cX3_addMeter 29 = .ok (.aload_n 0, 1) := by decide +kernel
theorem dX3_addMeter_30 : decode cX3_addMeter 30 = .ok (.dup, 1) := by decide +kernel
theorem dX3_addMeter_31 : decode cX3_addMeter 31 = .ok (.getfield 40, 3) := by decide +kernel
theorem dX3_addMeter_34 : decode cX3_addMeter 34 = .ok (.iconst 1, 1) := by decide +kernel
theorem dX3_addMeter_35 : decode cX3_addMeter 35 = .ok (.iadd, 1) := by decide +kernel
theorem dX3_addMeter_36 : decode cX3_addMeter 36 = .ok (.putfield 40, 3) := by decide +kernel
theorem dX3_addMeter_39 : decode cX3_addMeter 39 = .ok (.return_, 1) := by decide +kernel
theorem dX3_addOffer_0 : decode cX3_addOffer 0 = .ok (.aload_n 0, 1) := by decide +kernel
theorem dX3_addOffer_1 : decode cX3_addOffer 1 = .ok (.getfield 43, 3) := by decide +kernel
theorem dX3_addOffer_4 : decode cX3_addOffer 4 = .ok (.bipush 6, 2) := by decide +kernel
theorem dX3_addOffer_6 : decode cX3_addOffer 6 = .ok (.if_icmp .ge 43, 3) := by decide +kernel
theorem dX3_addOffer_9 : decode cX3_addOffer 9 = .ok (.aload_n 0, 1) := by decide +kernel
theorem dX3_addOffer_10 : decode cX3_addOffer 10 = .ok (.getfield 28, 3) := by decide +kernel
theorem dX3_addOffer_13 : decode cX3_addOffer 13 = .ok (.aload_n 0, 1) := by decide +kernel
theorem dX3_addOffer_14 : decode cX3_addOffer 14 = .ok (.getfield 43, 3) := by decide +kernel
theorem dX3_addOffer_17 : decode cX3_addOffer 17 = .ok (.iload_n 1, 1) := by decide +kernel
theorem dX3_addOffer_18 : decode cX3_addOffer 18 = .ok (.iastore, 1) := by decide +kernel
theorem dX3_addOffer_19 : decode cX3_addOffer 19 = .ok (.aload_n 0, 1) := by decide +kernel
theorem dX3_addOffer_20 : decode cX3_addOffer 20 = .ok (.getfield 31, 3) := by decide +kernel
theorem dX3_addOffer_23 : decode cX3_addOffer 23 = .ok (.aload_n 0, 1) := by decide +kernel
theorem dX3_addOffer_24 : decode cX3_addOffer 24 = .ok (.getfield 43, 3) := by decide +kernel
theorem dX3_addOffer_27 : decode cX3_addOffer 27 = .ok (.iload_n 2, 1) := by decide +kernel
theorem dX3_addOffer_28 : decode cX3_addOffer 28 = .ok (.iastore, 1) := by decide +kernel
theorem dX3_addOffer_29 : decode cX3_addOffer 29 = .ok (.aload_n 0, 1) := by decide +kernel
theorem dX3_addOffer_30 : decode cX3_addOffer 30 = .ok (.getfield 34, 3) := by decide +kernel
theorem dX3_addOffer_33 : decode cX3_addOffer 33 = .ok (.aload_n 0, 1) := by decide +kernel
theorem dX3_addOffer_34 : decode cX3_addOffer 34 = .ok (.getfield 43, 3) := by decide +kernel
theorem dX3_addOffer_37 : decode cX3_addOffer 37 = .ok (.iload_n 3, 1) := by decide +kernel
theorem dX3_addOffer_38 : decode cX3_addOffer 38 = .ok (.iastore, 1) := by decide +kernel
theorem dX3_addOffer_39 : decode cX3_addOffer 39 = .ok (.aload_n 0, 1) := by decide +kernel
theorem dX3_addOffer_40 : decode cX3_addOffer 40 = .ok (.dup, 1) := by decide +kernel
theorem dX3_addOffer_41 : decode cX3_addOffer 41 = .ok (.getfield 43, 3) := by decide +kernel
theorem dX3_addOffer_44 : decode cX3_addOffer 44 = .ok (.iconst 1, 1) := by decide +kernel
theorem dX3_addOffer_45 : decode cX3_addOffer 45 = .ok (.iadd, 1) := by decide +kernel
theorem dX3_addOffer_46 : decode cX3_addOffer 46 = .ok (.putfield 43, 3) := by decide +kernel
theorem dX3_addOffer_49 : decode cX3_addOffer 49 = .ok (.return_, 1) := by decide +kernel
theorem dX3_placesFor_0 : decode cX3_placesFor 0 = .ok (.iload_n 1, 1) := by decide +kernel
theorem dX3_placesFor_1 : decode cX3_placesFor 1 = .ok (.ifCond .eq 8, 3) := by decide +kernel
theorem dX3_placesFor_4 : decode cX3_placesFor 4 = .ok (.iload_n 1, 1) := by decide +kernel
theorem dX3_placesFor_5 : decode cX3_placesFor 5 = .ok (.iconst 1, 1) := by decide +kernel
theorem dX3_placesFor_6 : decode cX3_placesFor 6 = .ok (.if_icmp .ne 10, 3) := by decide +kernel
theorem dX3_placesFor_9 : decode cX3_placesFor 9 = .ok (.aload_n 0, 1) := by decide +kernel
theorem dX3_placesFor_10 : decode cX3_placesFor 10 = .ok (.getfield 37, 3) := by decide +kernel
theorem dX3_placesFor_13 : decode cX3_placesFor 13 = .ok (.goto 7, 3) := by decide +kernel
theorem dX3_placesFor_16 : decode cX3_placesFor 16 = .ok (.aload_n 0, 1) := by decide +kernel
theorem dX3_placesFor_17 : decode cX3_placesFor 17 = .ok (.getfield 9, 3) := by decide +kernel
theorem dX3_placesFor_20 : decode cX3_placesFor 20 = .ok (.ireturn, 1) := by decide +kernel
theorem dX3_hasPlace_0 : decode cX3_hasPlace 0 = .ok (.iload_n 2, 1) := by decide +kernel
theorem dX3_hasPlace_1 : decode cX3_hasPlace 1 = .ok (.ifCond .lt 16, 3) := by decide +kernel
theorem dX3_hasPlace_4 : decode cX3_hasPlace 4 = .ok (.iload_n 2, 1) := by decide +kernel
theorem dX3_hasPlace_5 : decode cX3_hasPlace 5 = .ok (.aload_n 0, 1) := by decide +kernel
theorem dX3_hasPlace_6 : decode cX3_hasPlace 6 = .ok (.iload_n 1, 1) := by decide +kernel
theorem dX3_hasPlace_7 : decode cX3_hasPlace 7 = .ok (.invokevirtual 61, 3) := by decide +kernel
theorem dX3_hasPlace_10 : decode cX3_hasPlace 10 = .ok (.if_icmp .ge 7, 3) := by decide +kernel
theorem dX3_hasPlace_13 : decode cX3_hasPlace 13 = .ok (.iconst 1, 1) := by decide +kernel
theorem dX3_hasPlace_14 : decode cX3_hasPlace 14 = .ok (.goto 4, 3) := by decide +kernel
theorem dX3_hasPlace_17 : decode cX3_hasPlace 17 = .ok (.iconst 0, 1) := by decide +kernel
theorem dX3_hasPlace_18 : decode cX3_hasPlace 18 = .ok (.ireturn, 1) := by decide +kernel
theorem dX3_allLines_0 : decode cX3_allLines 0 = .ok (.iconst 1, 1) := by decide +kernel
theorem dX3_allLines_1 : decode cX3_allLines 1 = .ok (.aload_n 0, 1) := by decide +kernel
theorem dX3_allLines_2 : decode cX3_allLines 2 = .ok (.getfield 37, 3) := by decide +kernel
theorem dX3_allLines_5 : decode cX3_allLines 5 = .ok (.ishl, 1) := by decide +kernel
theorem dX3_allLines_6 : decode cX3_allLines 6 = .ok (.iconst 1, 1) := by decide +kernel
theorem dX3_allLines_7 : decode cX3_allLines 7 = .ok (.isub, 1) := by decide +kernel
theorem dX3_allLines_8 : decode cX3_allLines 8 = .ok (.ireturn, 1) := by decide +kernel
theorem dX3_linesBeside_0 : decode cX3_linesBeside 0 = .ok (.iconst 0, 1) := by decide +kernel
theorem dX3_linesBeside_1 : decode cX3_linesBeside 1 = .ok (.istore_n 2, 1) := by decide +kernel
theorem dX3_linesBeside_2 : decode cX3_linesBeside 2 = .ok (.iconst 0, 1) := by decide +kernel
theorem dX3_linesBeside_3 : decode cX3_linesBeside 3 = .ok (.istore_n 3, 1) := by decide +kernel
theorem dX3_linesBeside_4 : decode cX3_linesBeside 4 = .ok (.iload_n 3, 1) := by decide +kernel
theorem dX3_linesBeside_5 : decode cX3_linesBeside 5 = .ok (.aload_n 0, 1) := by decide +kernel
theorem dX3_linesBeside_6 : decode cX3_linesBeside 6 = .ok (.getfield 37, 3) := by decide +kernel
theorem dX3_linesBeside_9 : decode cX3_linesBeside 9 = .ok (.if_icmp .ge 45, 3) := by decide +kernel
theorem dX3_linesBeside_12 : decode cX3_linesBeside 12 = .ok (.aload_n 0, 1) := by decide +kernel
theorem dX3_linesBeside_13 : decode cX3_linesBeside 13 = .ok (.getfield 15, 3) := by decide +kernel
theorem dX3_linesBeside_16 : decode cX3_linesBeside 16 = .ok (.iload_n 3, 1) := by decide +kernel
theorem dX3_linesBeside_17 : decode cX3_linesBeside 17 = .ok (.iaload, 1) := by decide +kernel
theorem dX3_linesBeside_18 : decode cX3_linesBeside 18 = .ok (.aload_n 0, 1) := by decide +kernel
theorem dX3_linesBeside_19 : decode cX3_linesBeside 19 = .ok (.getfield 15, 3) := by decide +kernel
theorem dX3_linesBeside_22 : decode cX3_linesBeside 22 = .ok (.iload_n 1, 1) := by decide +kernel
theorem dX3_linesBeside_23 : decode cX3_linesBeside 23 = .ok (.iaload, 1) := by decide +kernel
theorem dX3_linesBeside_24 : decode cX3_linesBeside 24 = .ok (.if_icmp .ne 24, 3) := by decide +kernel
theorem dX3_linesBeside_27 : decode cX3_linesBeside 27 = .ok (.aload_n 0, 1) := by decide +kernel
theorem dX3_linesBeside_28 : decode cX3_linesBeside 28 = .ok (.getfield 19, 3) := by decide +kernel
theorem dX3_linesBeside_31 : decode cX3_linesBeside 31 = .ok (.iload_n 3, 1) := by decide +kernel
theorem dX3_linesBeside_32 : decode cX3_linesBeside 32 = .ok (.iaload, 1) := by decide +kernel
theorem dX3_linesBeside_33 : decode cX3_linesBeside 33 = .ok (.aload_n 0, 1) := by decide +kernel
theorem dX3_linesBeside_34 : decode cX3_linesBeside 34 = .ok (.getfield 19, 3) := by decide +kernel
theorem dX3_linesBeside_37 : decode cX3_linesBeside 37 = .ok (.iload_n 1, 1) := by decide +kernel
theorem dX3_linesBeside_38 : decode cX3_linesBeside 38 = .ok (.iaload, 1) := by decide +kernel
theorem dX3_linesBeside_39 : decode cX3_linesBeside 39 = .ok (.if_icmp .ne 9, 3) := by decide +kernel
theorem dX3_linesBeside_42 : decode cX3_linesBeside 42 = .ok (.iload_n 2, 1) := by decide +kernel
theorem dX3_linesBeside_43 : decode cX3_linesBeside 43 = .ok (.iconst 1, 1) := by decide +kernel
theorem dX3_linesBeside_44 : decode cX3_linesBeside 44 = .ok (.iload_n 3, 1) := by decide +kernel
theorem dX3_linesBeside_45 : decode cX3_linesBeside 45 = .ok (.ishl, 1) := by decide +kernel
theorem dX3_linesBeside_46 : decode cX3_linesBeside 46 = .ok (.ior, 1) := by decide +kernel
theorem dX3_linesBeside_47 : decode cX3_linesBeside 47 = .ok (.istore_n 2, 1) := by decide +kernel
theorem dX3_linesBeside_48 : decode cX3_linesBeside 48 = .ok (.iinc 3 1, 3) := by decide +kernel
theorem dX3_linesBeside_51 : decode cX3_linesBeside 51 = .ok (.goto (-47), 3) := by decide +kernel
theorem dX3_linesBeside_54 : decode cX3_linesBeside 54 = .ok (.iload_n 2, 1) := by decide +kernel
theorem dX3_linesBeside_55 : decode cX3_linesBeside 55 = .ok (.ireturn, 1) := by decide +kernel
theorem dX3_linesAt_0 : decode cX3_linesAt 0 = .ok (.iconst 0, 1) := by decide +kernel
theorem dX3_linesAt_1 : decode cX3_linesAt 1 = .ok (.istore_n 3, 1) := by decide +kernel
theorem dX3_linesAt_2 : decode cX3_linesAt 2 = .ok (.iconst 0, 1) := by decide +kernel
theorem dX3_linesAt_3 : decode cX3_linesAt 3 = .ok (.istore 4, 2) := by decide +kernel
theorem dX3_linesAt_5 : decode cX3_linesAt 5 = .ok (.iload 4, 2) := by decide +kernel
theorem dX3_linesAt_7 : decode cX3_linesAt 7 = .ok (.aload_n 0, 1) := by decide +kernel
theorem dX3_linesAt_8 : decode cX3_linesAt 8 = .ok (.getfield 37, 3) := by decide +kernel
theorem dX3_linesAt_11 : decode cX3_linesAt 11 = .ok (.if_icmp .ge 38, 3) := by decide +kernel
theorem dX3_linesAt_14 : decode cX3_linesAt 14 = .ok (.aload_n 0, 1) := by decide +kernel
theorem dX3_linesAt_15 : decode cX3_linesAt 15 = .ok (.getfield 15, 3) := by decide +kernel
theorem dX3_linesAt_18 : decode cX3_linesAt 18 = .ok (.iload 4, 2) := by decide +kernel
theorem dX3_linesAt_20 : decode cX3_linesAt 20 = .ok (.iaload, 1) := by decide +kernel
theorem dX3_linesAt_21 : decode cX3_linesAt 21 = .ok (.iload_n 1, 1) := by decide +kernel
theorem dX3_linesAt_22 : decode cX3_linesAt 22 = .ok (.if_icmp .eq 14, 3) := by decide +kernel
theorem dX3_linesAt_25 : decode cX3_linesAt 25 = .ok (.aload_n 0, 1) := by decide +kernel
theorem dX3_linesAt_26 : decode cX3_linesAt 26 = .ok (.getfield 19, 3) := by decide +kernel
theorem dX3_linesAt_29 : decode cX3_linesAt 29 = .ok (.iload 4, 2) := by decide +kernel
theorem dX3_linesAt_31 : decode cX3_linesAt 31 = .ok (.iaload, 1) := by decide +kernel
theorem dX3_linesAt_32 : decode cX3_linesAt 32 = .ok (.iload_n 1, 1) := by decide +kernel
theorem dX3_linesAt_33 : decode cX3_linesAt 33 = .ok (.if_icmp .ne 10, 3) := by decide +kernel
theorem dX3_linesAt_36 : decode cX3_linesAt 36 = .ok (.iload_n 3, 1) := by decide +kernel
theorem dX3_linesAt_37 : decode cX3_linesAt 37 = .ok (.iconst 1, 1) := by decide +kernel
theorem dX3_linesAt_38 : decode cX3_linesAt 38 = .ok (.iload 4, 2) := by decide +kernel
theorem dX3_linesAt_40 : decode cX3_linesAt 40 = .ok (.ishl, 1) := by decide +kernel
theorem dX3_linesAt_41 : decode cX3_linesAt 41 = .ok (.ior, 1) := by decide +kernel
theorem dX3_linesAt_42 : decode cX3_linesAt 42 = .ok (.istore_n 3, 1) := by decide +kernel
theorem dX3_linesAt_43 : decode cX3_linesAt 43 = .ok (.iinc 4 1, 3) := by decide +kernel
theorem dX3_linesAt_46 : decode cX3_linesAt 46 = .ok (.goto (-41), 3) := by decide +kernel
theorem dX3_linesAt_49 : decode cX3_linesAt 49 = .ok (.iload_n 3, 1) := by decide +kernel
theorem dX3_linesAt_50 : decode cX3_linesAt 50 = .ok (.iload_n 2, 1) := by decide +kernel
theorem dX3_linesAt_51 : decode cX3_linesAt 51 = .ok (.iand, 1) := by decide +kernel
theorem dX3_linesAt_52 : decode cX3_linesAt 52 = .ok (.ireturn, 1) := by decide +kernel
theorem dX3_linesNear_0 : decode cX3_linesNear 0 = .ok (.aload_n 0, 1) := by decide +kernel
theorem dX3_linesNear_1 : decode cX3_linesNear 1 = .ok (.iload_n 1, 1) := by decide +kernel
theorem dX3_linesNear_2 : decode cX3_linesNear 2 = .ok (.iload_n 2, 1) := by decide +kernel
theorem dX3_linesNear_3 : decode cX3_linesNear 3 = .ok (.invokevirtual 72, 3) := by decide +kernel
theorem dX3_linesNear_6 : decode cX3_linesNear 6 = .ok (.istore_n 3, 1) := by decide +kernel
theorem dX3_linesNear_7 : decode cX3_linesNear 7 = .ok (.iconst 0, 1) := by decide +kernel
theorem dX3_linesNear_8 : decode cX3_linesNear 8 = .ok (.istore 4, 2) := by decide +kernel
theorem dX3_linesNear_10 : decode cX3_linesNear 10 = .ok (.iconst 0, 1) := by decide +kernel
theorem dX3_linesNear_11 : decode cX3_linesNear 11 = .ok (.istore 5, 2) := by decide +kernel
theorem dX3_linesNear_13 : decode cX3_linesNear 13 = .ok (.iload 5, 2) := by decide +kernel
theorem dX3_linesNear_15 : decode cX3_linesNear 15 = .ok (.aload_n 0, 1) := by decide +kernel
theorem dX3_linesNear_16 : decode cX3_linesNear 16 = .ok (.getfield 37, 3) := by decide +kernel
theorem dX3_linesNear_19 : decode cX3_linesNear 19 = .ok (.if_icmp .ge 49, 3) := by decide +kernel
theorem dX3_linesNear_22 : decode cX3_linesNear 22 = .ok (.iload_n 3, 1) := by decide +kernel
theorem dX3_linesNear_23 : decode cX3_linesNear 23 = .ok (.iload 5, 2) := by decide +kernel
theorem dX3_linesNear_25 : decode cX3_linesNear 25 = .ok (.ishr, 1) := by decide +kernel
theorem dX3_linesNear_26 : decode cX3_linesNear 26 = .ok (.iconst 1, 1) := by decide +kernel
theorem dX3_linesNear_27 : decode cX3_linesNear 27 = .ok (.iand, 1) := by decide +kernel
theorem dX3_linesNear_28 : decode cX3_linesNear 28 = .ok (.iconst 1, 1) := by decide +kernel
theorem dX3_linesNear_29 : decode cX3_linesNear 29 = .ok (.if_icmp .ne 33, 3) := by decide +kernel
theorem dX3_linesNear_32 : decode cX3_linesNear 32 = .ok (.iload 4, 2) := by decide +kernel
theorem dX3_linesNear_34 : decode cX3_linesNear 34 = .ok (.aload_n 0, 1) := by decide +kernel
theorem dX3_linesNear_35 : decode cX3_linesNear 35 = .ok (.aload_n 0, 1) := by decide +kernel
theorem dX3_linesNear_36 : decode cX3_linesNear 36 = .ok (.getfield 15, 3) := by decide +kernel
theorem dX3_linesNear_39 : decode cX3_linesNear 39 = .ok (.iload 5, 2) := by decide +kernel
theorem dX3_linesNear_41 : decode cX3_linesNear 41 = .ok (.iaload, 1) := by decide +kernel
theorem dX3_linesNear_42 : decode cX3_linesNear 42 = .ok (.iload_n 2, 1) := by decide +kernel
theorem dX3_linesNear_43 : decode cX3_linesNear 43 = .ok (.invokevirtual 72, 3) := by decide +kernel
theorem dX3_linesNear_46 : decode cX3_linesNear 46 = .ok (.aload_n 0, 1) := by decide +kernel
theorem dX3_linesNear_47 : decode cX3_linesNear 47 = .ok (.aload_n 0, 1) := by decide +kernel
theorem dX3_linesNear_48 : decode cX3_linesNear 48 = .ok (.getfield 19, 3) := by decide +kernel
theorem dX3_linesNear_51 : decode cX3_linesNear 51 = .ok (.iload 5, 2) := by decide +kernel
theorem dX3_linesNear_53 : decode cX3_linesNear 53 = .ok (.iaload, 1) := by decide +kernel
theorem dX3_linesNear_54 : decode cX3_linesNear 54 = .ok (.iload_n 2, 1) := by decide +kernel
theorem dX3_linesNear_55 : decode cX3_linesNear 55 = .ok (.invokevirtual 72, 3) := by decide +kernel
theorem dX3_linesNear_58 : decode cX3_linesNear 58 = .ok (.ior, 1) := by decide +kernel
theorem dX3_linesNear_59 : decode cX3_linesNear 59 = .ok (.ior, 1) := by decide +kernel
theorem dX3_linesNear_60 : decode cX3_linesNear 60 = .ok (.istore 4, 2) := by decide +kernel
theorem dX3_linesNear_62 : decode cX3_linesNear 62 = .ok (.iinc 5 1, 3) := by decide +kernel
theorem dX3_linesNear_65 : decode cX3_linesNear 65 = .ok (.goto (-52), 3) := by decide +kernel
theorem dX3_linesNear_68 : decode cX3_linesNear 68 = .ok (.iload 4, 2) := by decide +kernel
theorem dX3_linesNear_70 : decode cX3_linesNear 70 = .ok (.ireturn, 1) := by decide +kernel
theorem dX3_withoutLeast_0 : decode cX3_withoutLeast 0 = .ok (.iload_n 0, 1) := by decide +kernel
theorem dX3_withoutLeast_1 : decode cX3_withoutLeast 1 = .ok (.iload_n 0, 1) := by decide +kernel
theorem dX3_withoutLeast_2 : decode cX3_withoutLeast 2 = .ok (.iconst 1, 1) := by decide +kernel
theorem dX3_withoutLeast_3 : decode cX3_withoutLeast 3 = .ok (.isub, 1) := by decide +kernel
theorem dX3_withoutLeast_4 : decode cX3_withoutLeast 4 = .ok (.iand, 1) := by decide +kernel
theorem dX3_withoutLeast_5 : decode cX3_withoutLeast 5 = .ok (.ireturn, 1) := by decide +kernel
theorem dX3_linesFor_0 : decode cX3_linesFor 0 = .ok (.aload_n 0, 1) := by decide +kernel
theorem dX3_linesFor_1 : decode cX3_linesFor 1 = .ok (.iload_n 1, 1) := by decide +kernel
theorem dX3_linesFor_2 : decode cX3_linesFor 2 = .ok (.iload_n 2, 1) := by decide +kernel
theorem dX3_linesFor_3 : decode cX3_linesFor 3 = .ok (.invokevirtual 65, 3) := by decide +kernel
theorem dX3_linesFor_6 : decode cX3_linesFor 6 = .ok (.ifCond .ne 5, 3) := by decide +kernel
theorem dX3_linesFor_9 : decode cX3_linesFor 9 = .ok (.iconst 0, 1) := by decide +kernel
theorem dX3_linesFor_10 : decode cX3_linesFor 10 = .ok (.ireturn, 1) := by decide +kernel
theorem dX3_linesFor_11 : decode cX3_linesFor 11 = .ok (.iload_n 1, 1) := by decide +kernel
theorem dX3_linesFor_12 : decode cX3_linesFor 12 = .ok (.tableswitch 74 0 4 #[36, 42, 50, 57, 64], 36) := by decide +kernel
theorem dX3_linesFor_48 : decode cX3_linesFor 48 = .ok (.iconst 1, 1) := by decide +kernel
theorem dX3_linesFor_49 : decode cX3_linesFor 49 = .ok (.iload_n 2, 1) := by decide +kernel
theorem dX3_linesFor_50 : decode cX3_linesFor 50 = .ok (.ishl, 1) := by decide +kernel
theorem dX3_linesFor_51 : decode cX3_linesFor 51 = .ok (.iload_n 3, 1) := by decide +kernel
theorem dX3_linesFor_52 : decode cX3_linesFor 52 = .ok (.iand, 1) := by decide +kernel
theorem dX3_linesFor_53 : decode cX3_linesFor 53 = .ok (.ireturn, 1) := by decide +kernel
theorem dX3_linesFor_54 : decode cX3_linesFor 54 = .ok (.aload_n 0, 1) := by decide +kernel
theorem dX3_linesFor_55 : decode cX3_linesFor 55 = .ok (.iload_n 2, 1) := by decide +kernel
theorem dX3_linesFor_56 : decode cX3_linesFor 56 = .ok (.invokevirtual 69, 3) := by decide +kernel
theorem dX3_linesFor_59 : decode cX3_linesFor 59 = .ok (.iload_n 3, 1) := by decide +kernel
theorem dX3_linesFor_60 : decode cX3_linesFor 60 = .ok (.iand, 1) := by decide +kernel
theorem dX3_linesFor_61 : decode cX3_linesFor 61 = .ok (.ireturn, 1) := by decide +kernel
theorem dX3_linesFor_62 : decode cX3_linesFor 62 = .ok (.aload_n 0, 1) := by decide +kernel
theorem dX3_linesFor_63 : decode cX3_linesFor 63 = .ok (.iload_n 2, 1) := by decide +kernel
theorem dX3_linesFor_64 : decode cX3_linesFor 64 = .ok (.iload_n 3, 1) := by decide +kernel
theorem dX3_linesFor_65 : decode cX3_linesFor 65 = .ok (.invokevirtual 72, 3) := by decide +kernel
theorem dX3_linesFor_68 : decode cX3_linesFor 68 = .ok (.ireturn, 1) := by decide +kernel
theorem dX3_linesFor_69 : decode cX3_linesFor 69 = .ok (.aload_n 0, 1) := by decide +kernel
theorem dX3_linesFor_70 : decode cX3_linesFor 70 = .ok (.iload_n 2, 1) := by decide +kernel
theorem dX3_linesFor_71 : decode cX3_linesFor 71 = .ok (.iload_n 3, 1) := by decide +kernel
theorem dX3_linesFor_72 : decode cX3_linesFor 72 = .ok (.invokevirtual 75, 3) := by decide +kernel
theorem dX3_linesFor_75 : decode cX3_linesFor 75 = .ok (.ireturn, 1) := by decide +kernel
theorem dX3_linesFor_76 : decode cX3_linesFor 76 = .ok (.aload_n 0, 1) := by decide +kernel
theorem dX3_linesFor_77 : decode cX3_linesFor 77 = .ok (.iload_n 2, 1) := by decide +kernel
theorem dX3_linesFor_78 : decode cX3_linesFor 78 = .ok (.iload_n 3, 1) := by decide +kernel
theorem dX3_linesFor_79 : decode cX3_linesFor 79 = .ok (.invokevirtual 72, 3) := by decide +kernel
theorem dX3_linesFor_82 : decode cX3_linesFor 82 = .ok (.invokestatic 78, 3) := by decide +kernel
theorem dX3_linesFor_85 : decode cX3_linesFor 85 = .ok (.ireturn, 1) := by decide +kernel
theorem dX3_linesFor_86 : decode cX3_linesFor 86 = .ok (.iconst 0, 1) := by decide +kernel
theorem dX3_linesFor_87 : decode cX3_linesFor 87 = .ok (.ireturn, 1) := by decide +kernel
theorem dX3_priceOf_0 : decode cX3_priceOf 0 = .ok (.iconst 0, 1) := by decide +kernel
theorem dX3_priceOf_1 : decode cX3_priceOf 1 = .ok (.istore_n 2, 1) := by decide +kernel
theorem dX3_priceOf_2 : decode cX3_priceOf 2 = .ok (.iconst 0, 1) := by decide +kernel
theorem dX3_priceOf_3 : decode cX3_priceOf 3 = .ok (.istore_n 3, 1) := by decide +kernel
theorem dX3_priceOf_4 : decode cX3_priceOf 4 = .ok (.iload_n 3, 1) := by decide +kernel
theorem dX3_priceOf_5 : decode cX3_priceOf 5 = .ok (.aload_n 0, 1) := by decide +kernel
theorem dX3_priceOf_6 : decode cX3_priceOf 6 = .ok (.getfield 43, 3) := by decide +kernel
theorem dX3_priceOf_9 : decode cX3_priceOf 9 = .ok (.if_icmp .ge 27, 3) := by decide +kernel
theorem dX3_priceOf_12 : decode cX3_priceOf 12 = .ok (.iload_n 1, 1) := by decide +kernel
theorem dX3_priceOf_13 : decode cX3_priceOf 13 = .ok (.iload_n 3, 1) := by decide +kernel
theorem dX3_priceOf_14 : decode cX3_priceOf 14 = .ok (.ishr, 1) := by decide +kernel
theorem dX3_priceOf_15 : decode cX3_priceOf 15 = .ok (.iconst 1, 1) := by decide +kernel
theorem dX3_priceOf_16 : decode cX3_priceOf 16 = .ok (.iand, 1) := by decide +kernel
theorem dX3_priceOf_17 : decode cX3_priceOf 17 = .ok (.iconst 1, 1) := by decide +kernel
theorem dX3_priceOf_18 : decode cX3_priceOf 18 = .ok (.if_icmp .ne 12, 3) := by decide +kernel
theorem dX3_priceOf_21 : decode cX3_priceOf 21 = .ok (.iload_n 2, 1) := by decide +kernel
theorem dX3_priceOf_22 : decode cX3_priceOf 22 = .ok (.aload_n 0, 1) := by decide +kernel
theorem dX3_priceOf_23 : decode cX3_priceOf 23 = .ok (.getfield 34, 3) := by decide +kernel
theorem dX3_priceOf_26 : decode cX3_priceOf 26 = .ok (.iload_n 3, 1) := by decide +kernel
theorem dX3_priceOf_27 : decode cX3_priceOf 27 = .ok (.iaload, 1) := by decide +kernel
theorem dX3_priceOf_28 : decode cX3_priceOf 28 = .ok (.iadd, 1) := by decide +kernel
theorem dX3_priceOf_29 : decode cX3_priceOf 29 = .ok (.istore_n 2, 1) := by decide +kernel
theorem dX3_priceOf_30 : decode cX3_priceOf 30 = .ok (.iinc 3 1, 3) := by decide +kernel
theorem dX3_priceOf_33 : decode cX3_priceOf 33 = .ok (.goto (-29), 3) := by decide +kernel
theorem dX3_priceOf_36 : decode cX3_priceOf 36 = .ok (.iload_n 2, 1) := by decide +kernel
theorem dX3_priceOf_37 : decode cX3_priceOf 37 = .ok (.ireturn, 1) := by decide +kernel
theorem kfX3_9 : ux_FL RX3 9 3 0 := ⟨RX3, TX3, 11, rfl, lay_X3, by decide, tw_107⟩
theorem kpX3_9 : ux_FP RX3 9 3 0 .int := ⟨RX3, TX3, 11, rfl, lay_X3, by decide, tw_107, tyX3, tyX3_ok, nmX3, rfl, by decide +kernel⟩
theorem kfX3_37 : ux_FL RX3 37 3 1 := ⟨RX3, TX3, 11, rfl, lay_X3, by decide, tw_111⟩
theorem kpX3_37 : ux_FP RX3 37 3 1 .int := ⟨RX3, TX3, 11, rfl, lay_X3, by decide, tw_111, tyX3, tyX3_ok, nmX3, rfl, by decide +kernel⟩
theorem kfX3_40 : ux_FL RX3 40 3 2 := ⟨RX3, TX3, 11, rfl, lay_X3, by decide, tw_116⟩
theorem kpX3_40 : ux_FP RX3 40 3 2 .int := ⟨RX3, TX3, 11, rfl, lay_X3, by decide, tw_116, tyX3, tyX3_ok, nmX3, rfl, by decide +kernel⟩
theorem kfX3_43 : ux_FL RX3 43 3 3 := ⟨RX3, TX3, 11, rfl, lay_X3, by decide, tw_118⟩
theorem kpX3_43 : ux_FP RX3 43 3 3 .int := ⟨RX3, TX3, 11, rfl, lay_X3, by decide, tw_118, tyX3, tyX3_ok, nmX3, rfl, by decide +kernel⟩
theorem kfX3_15 : ux_FL RX3 15 3 4 := ⟨RX3, TX3, 11, rfl, lay_X3, by decide, tw_122⟩
theorem kaX3_46 : ux_LA RX3 46 := ⟨tw_596, tw_464, tw_463, tw_85⟩
theorem kfX3_19 : ux_FL RX3 19 3 5 := ⟨RX3, TX3, 11, rfl, lay_X3, by decide, tw_125⟩
theorem kfX3_22 : ux_FL RX3 22 3 6 := ⟨RX3, TX3, 11, rfl, lay_X3, by decide, tw_128⟩
theorem kfX3_25 : ux_FL RX3 25 3 7 := ⟨RX3, TX3, 11, rfl, lay_X3, by decide, tw_130⟩
theorem kfX3_28 : ux_FL RX3 28 3 8 := ⟨RX3, TX3, 11, rfl, lay_X3, by decide, tw_132⟩
theorem kfX3_31 : ux_FL RX3 31 3 9 := ⟨RX3, TX3, 11, rfl, lay_X3, by decide, tw_135⟩
theorem kfX3_34 : ux_FL RX3 34 3 10 := ⟨RX3, TX3, 11, rfl, lay_X3, by decide, tw_138⟩
theorem kmX3_52 : ux_LM RX3 52 Lib.Math.min.name Lib.Math.min.code := ⟨tw_682, tw_683, tw_92, tw_684⟩
theorem kmX3_58 : ux_LM RX3 58 Lib.Math.max.name Lib.Math.max.code := ⟨tw_685, tw_686, tw_92, tw_687⟩
theorem kvX3_61 : ux_LV RX3 61 3 yX3_placesFor cX3_placesFor 2 (some .int) 1 := ⟨⟨TX3, 11, rfl⟩, tw_489, tw_490, tw_491, tw_73, tw_492, ⟨by decide, by decide, by decide +kernel⟩⟩
theorem kvX3_72 : ux_LV RX3 72 3 yX3_linesAt cX3_linesAt 5 (some .int) 2 := ⟨⟨TX3, 11, rfl⟩, tw_497, tw_499, tw_3, tw_73, tw_500, ⟨by decide, by decide, by decide +kernel⟩⟩
theorem kvX3_65 : ux_LV RX3 65 3 yX3_hasPlace cX3_hasPlace 3 (some .boolean) 2 := ⟨⟨TX3, 11, rfl⟩, tw_485, tw_486, tw_487, tw_73, tw_488, ⟨by decide, by decide, by decide +kernel⟩⟩
theorem kvX3_69 : ux_LV RX3 69 3 yX3_linesBeside cX3_linesBeside 4 (some .int) 1 := ⟨⟨TX3, 11, rfl⟩, tw_493, tw_495, tw_2, tw_73, tw_496, ⟨by decide, by decide, by decide +kernel⟩⟩
theorem kvX3_75 : ux_LV RX3 75 3 yX3_linesNear cX3_linesNear 6 (some .int) 2 := ⟨⟨TX3, 11, rfl⟩, tw_501, tw_503, tw_4, tw_73, tw_504, ⟨by decide, by decide, by decide +kernel⟩⟩
theorem ksX3_78 : ux_LS RX3 78 yX3_withoutLeast cX3_withoutLeast 1 (some .int) 1 := ⟨tw_505, tw_506, tw_73, tw_507, ⟨by decide, by decide, by decide +kernel⟩⟩
def fX3_copyFrom_107 (c0 : Nat) (c1 : Nat) (N : ux_N) : Option (ux_N) :=
  some (ux_cpN (ux_cpN N (c1 + 6) (c0 + 6) 0 0 6) (c1 + 7) (c0 + 7) 0 0 6)
set_option maxHeartbeats 4000000 in
set_option maxRecDepth 20000 in
theorem wX3_copyFrom_107 {X : ux_X} (C : ux_C X cX3_copyFrom RX3 2 none 1 60 shC) {c0 : Nat} {c1 : Nat} (p0 : is_X3 c0) (p1 : is_X3 c1) {N : ux_N} {L : ux_L} {o : ux_N} (hq : ux_Qv X o L) (h : fX3_copyFrom_107 c0 c1 N = some o) : ux_Wt X 2 107 [(0, .ref (ux_ad X c0)), (1, .ref (ux_ad X c1))] [] N L := by
  refine wt_aload_n 108 1 C dX3_copyFrom_107 rfl rfl ?_
  refine wt_getR 111 C kfX3_31 (p1).1 rfl dX3_copyFrom_108 rfl ?_
  refine wt_iconst 112 0 C dX3_copyFrom_111 rfl (by decide) ?_
  refine wt_aload_n 113 0 C dX3_copyFrom_112 rfl rfl ?_
  refine wt_getR 116 C kfX3_31 (p0).1 rfl dX3_copyFrom_113 rfl ?_
  refine wt_iconst 117 0 C dX3_copyFrom_116 rfl (by decide) ?_
  refine wt_bipush 119 6 C dX3_copyFrom_117 rfl (by decide) ?_
  refine wt_copyI 122 0 0 6 C kaX3_46 (p1).2.2.2.2.2.2.1 (p0).2.2.2.2.2.2.1 (by decide) (by decide) (by decide) (by decide) (by decide) (by decide) (by decide) (by decide) (by decide) (Nat.le_of_ble_eq_true rfl) dX3_copyFrom_119 rfl ?_
  refine wt_aload_n 123 1 C dX3_copyFrom_122 rfl rfl ?_
  refine wt_getR 126 C kfX3_34 (p1).1 rfl dX3_copyFrom_123 rfl ?_
  refine wt_iconst 127 0 C dX3_copyFrom_126 rfl (by decide) ?_
  refine wt_aload_n 128 0 C dX3_copyFrom_127 rfl rfl ?_
  refine wt_getR 131 C kfX3_34 (p0).1 rfl dX3_copyFrom_128 rfl ?_
  refine wt_iconst 132 0 C dX3_copyFrom_131 rfl (by decide) ?_
  refine wt_bipush 134 6 C dX3_copyFrom_132 rfl (by decide) ?_
  refine wt_copyI 137 0 0 6 C kaX3_46 (p1).2.2.2.2.2.2.2 (p0).2.2.2.2.2.2.2 (by decide) (by decide) (by decide) (by decide) (by decide) (by decide) (by decide) (by decide) (by decide) (Nat.le_of_ble_eq_true rfl) dX3_copyFrom_134 rfl ?_
  cases h
  exact wt_vret C hq dX3_copyFrom_137
def fX3_copyFrom_32 (c0 : Nat) (c1 : Nat) (N : ux_N) : Option (ux_N) :=
  fX3_copyFrom_107 c0 c1 (ux_cpN (ux_cpN (ux_cpN (ux_cpN (ux_cpN N (c1 + 1) (c0 + 1) 0 0 10) (c1 + 2) (c0 + 2) 0 0 10) (c1 + 3) (c0 + 3) 0 0 9) (c1 + 4) (c0 + 4) 0 0 9) (c1 + 5) (c0 + 5) 0 0 6)
set_option maxHeartbeats 4000000 in
set_option maxRecDepth 20000 in
theorem wX3_copyFrom_32 {X : ux_X} (C : ux_C X cX3_copyFrom RX3 2 none 1 60 shC) {c0 : Nat} {c1 : Nat} (p0 : is_X3 c0) (p1 : is_X3 c1) {N : ux_N} {L : ux_L} {o : ux_N} (hq : ux_Qv X o L) (h : fX3_copyFrom_32 c0 c1 N = some o) : ux_Wt X 2 32 [(0, .ref (ux_ad X c0)), (1, .ref (ux_ad X c1))] [] N L := by
  refine wt_aload_n 33 1 C dX3_copyFrom_32 rfl rfl ?_
  refine wt_getR 36 C kfX3_15 (p1).1 rfl dX3_copyFrom_33 rfl ?_
  refine wt_iconst 37 0 C dX3_copyFrom_36 rfl (by decide) ?_
  refine wt_aload_n 38 0 C dX3_copyFrom_37 rfl rfl ?_
  refine wt_getR 41 C kfX3_15 (p0).1 rfl dX3_copyFrom_38 rfl ?_
  refine wt_iconst 42 0 C dX3_copyFrom_41 rfl (by decide) ?_
  refine wt_bipush 44 10 C dX3_copyFrom_42 rfl (by decide) ?_
  refine wt_copyI 47 0 0 10 C kaX3_46 (p1).2.1 (p0).2.1 (by decide) (by decide) (by decide) (by decide) (by decide) (by decide) (by decide) (by decide) (by decide) (Nat.le_of_ble_eq_true rfl) dX3_copyFrom_44 rfl ?_
  refine wt_aload_n 48 1 C dX3_copyFrom_47 rfl rfl ?_
  refine wt_getR 51 C kfX3_19 (p1).1 rfl dX3_copyFrom_48 rfl ?_
  refine wt_iconst 52 0 C dX3_copyFrom_51 rfl (by decide) ?_
  refine wt_aload_n 53 0 C dX3_copyFrom_52 rfl rfl ?_
  refine wt_getR 56 C kfX3_19 (p0).1 rfl dX3_copyFrom_53 rfl ?_
  refine wt_iconst 57 0 C dX3_copyFrom_56 rfl (by decide) ?_
  refine wt_bipush 59 10 C dX3_copyFrom_57 rfl (by decide) ?_
  refine wt_copyI 62 0 0 10 C kaX3_46 (p1).2.2.1 (p0).2.2.1 (by decide) (by decide) (by decide) (by decide) (by decide) (by decide) (by decide) (by decide) (by decide) (Nat.le_of_ble_eq_true rfl) dX3_copyFrom_59 rfl ?_
  refine wt_aload_n 63 1 C dX3_copyFrom_62 rfl rfl ?_
  refine wt_getR 66 C kfX3_22 (p1).1 rfl dX3_copyFrom_63 rfl ?_
  refine wt_iconst 67 0 C dX3_copyFrom_66 rfl (by decide) ?_
  refine wt_aload_n 68 0 C dX3_copyFrom_67 rfl rfl ?_
  refine wt_getR 71 C kfX3_22 (p0).1 rfl dX3_copyFrom_68 rfl ?_
  refine wt_iconst 72 0 C dX3_copyFrom_71 rfl (by decide) ?_
  refine wt_bipush 74 9 C dX3_copyFrom_72 rfl (by decide) ?_
  refine wt_copyI 77 0 0 9 C kaX3_46 (p1).2.2.2.1 (p0).2.2.2.1 (by decide) (by decide) (by decide) (by decide) (by decide) (by decide) (by decide) (by decide) (by decide) (Nat.le_of_ble_eq_true rfl) dX3_copyFrom_74 rfl ?_
  refine wt_aload_n 78 1 C dX3_copyFrom_77 rfl rfl ?_
  refine wt_getR 81 C kfX3_25 (p1).1 rfl dX3_copyFrom_78 rfl ?_
  refine wt_iconst 82 0 C dX3_copyFrom_81 rfl (by decide) ?_
  refine wt_aload_n 83 0 C dX3_copyFrom_82 rfl rfl ?_
  refine wt_getR 86 C kfX3_25 (p0).1 rfl dX3_copyFrom_83 rfl ?_
  refine wt_iconst 87 0 C dX3_copyFrom_86 rfl (by decide) ?_
  refine wt_bipush 89 9 C dX3_copyFrom_87 rfl (by decide) ?_
  refine wt_copyI 92 0 0 9 C kaX3_46 (p1).2.2.2.2.1 (p0).2.2.2.2.1 (by decide) (by decide) (by decide) (by decide) (by decide) (by decide) (by decide) (by decide) (by decide) (Nat.le_of_ble_eq_true rfl) dX3_copyFrom_89 rfl ?_
  refine wt_aload_n 93 1 C dX3_copyFrom_92 rfl rfl ?_
  refine wt_getR 96 C kfX3_28 (p1).1 rfl dX3_copyFrom_93 rfl ?_
  refine wt_iconst 97 0 C dX3_copyFrom_96 rfl (by decide) ?_
  refine wt_aload_n 98 0 C dX3_copyFrom_97 rfl rfl ?_
  refine wt_getR 101 C kfX3_28 (p0).1 rfl dX3_copyFrom_98 rfl ?_
  refine wt_iconst 102 0 C dX3_copyFrom_101 rfl (by decide) ?_
  refine wt_bipush 104 6 C dX3_copyFrom_102 rfl (by decide) ?_
  refine wt_copyI 107 0 0 6 C kaX3_46 (p1).2.2.2.2.2.1 (p0).2.2.2.2.2.1 (by decide) (by decide) (by decide) (by decide) (by decide) (by decide) (by decide) (by decide) (by decide) (Nat.le_of_ble_eq_true rfl) dX3_copyFrom_104 rfl ?_
  exact wX3_copyFrom_107 C p0 p1 hq h
def fX3_copyFrom (c0 : Nat) (c1 : Nat) (N : ux_N) : Option (ux_N) :=
  fX3_copyFrom_32 c0 c1 (ux_u (ux_u (ux_u (ux_u N c0 0 (N c1 0)) c0 1 ((ux_u N c0 0 (N c1 0)) c1 1)) c0 2 ((ux_u (ux_u N c0 0 (N c1 0)) c0 1 ((ux_u N c0 0 (N c1 0)) c1 1)) c1 2)) c0 3 ((ux_u (ux_u (ux_u N c0 0 (N c1 0)) c0 1 ((ux_u N c0 0 (N c1 0)) c1 1)) c0 2 ((ux_u (ux_u N c0 0 (N c1 0)) c0 1 ((ux_u N c0 0 (N c1 0)) c1 1)) c1 2)) c1 3))
set_option maxHeartbeats 4000000 in
set_option maxRecDepth 20000 in
theorem wX3_copyFrom {X : ux_X} (C : ux_C X cX3_copyFrom RX3 2 none 1 60 shC) {c0 : Nat} {c1 : Nat} (p0 : is_X3 c0) (p1 : is_X3 c1) {N : ux_N} {L : ux_L} {o : ux_N} (hq : ux_Qv X o L) (h : fX3_copyFrom c0 c1 N = some o) : ux_Wt X 2 0 [(0, .ref (ux_ad X c0)), (1, .ref (ux_ad X c1))] [] N L := by
  refine wt_aload_n 1 0 C dX3_copyFrom_0 rfl rfl ?_
  refine wt_aload_n 2 1 C dX3_copyFrom_1 rfl rfl ?_
  refine wt_getI 5 C kfX3_9 (p1).1 rfl dX3_copyFrom_2 rfl ?_
  refine wt_putI 8 C kpX3_9 (p0).1 rfl rfl rfl dX3_copyFrom_5 rfl ?_
  refine wt_aload_n 9 0 C dX3_copyFrom_8 rfl rfl ?_
  refine wt_aload_n 10 1 C dX3_copyFrom_9 rfl rfl ?_
  refine wt_getI 13 C kfX3_37 (p1).1 rfl dX3_copyFrom_10 rfl ?_
  refine wt_putI 16 C kpX3_37 (p0).1 rfl rfl rfl dX3_copyFrom_13 rfl ?_
  refine wt_aload_n 17 0 C dX3_copyFrom_16 rfl rfl ?_
  refine wt_aload_n 18 1 C dX3_copyFrom_17 rfl rfl ?_
  refine wt_getI 21 C kfX3_40 (p1).1 rfl dX3_copyFrom_18 rfl ?_
  refine wt_putI 24 C kpX3_40 (p0).1 rfl rfl rfl dX3_copyFrom_21 rfl ?_
  refine wt_aload_n 25 0 C dX3_copyFrom_24 rfl rfl ?_
  refine wt_aload_n 26 1 C dX3_copyFrom_25 rfl rfl ?_
  refine wt_getI 29 C kfX3_43 (p1).1 rfl dX3_copyFrom_26 rfl ?_
  refine wt_putI 32 C kpX3_43 (p0).1 rfl rfl rfl dX3_copyFrom_29 rfl ?_
  exact wX3_copyFrom_32 C p0 p1 hq h
theorem mX3_copyFrom {l : Launch} {G : ux_G} (hok : ux_ok G shC) {c0 : Nat} {c1 : Nat} (p0 : is_X3 c0) (p1 : is_X3 c1) {N : ux_N} {L : ux_L} {o : ux_N} (h : fX3_copyFrom c0 c1 N = some o) : ux_Mv l G yX3_copyFrom cX3_copyFrom 2 1 60 [.ref (gad G c0), .ref (gad G c1)] N L o L :=
  ux_ofv shC hok (by decide +kernel) (Nat.le_of_ble_eq_true rfl) (fun X hG hl C hq => by subst hG; subst hl; exact wX3_copyFrom C p0 p1 hq h)
def fX3_beginAnew (c0 : Nat) (v1 : Int32) (N : ux_N) : Option (ux_N) :=
  some (ux_u (ux_u (ux_u (ux_u N c0 0 v1) c0 1 (0 : Int32)) c0 2 (0 : Int32)) c0 3 (0 : Int32))
set_option maxHeartbeats 4000000 in
set_option maxRecDepth 20000 in
theorem wX3_beginAnew {X : ux_X} (C : ux_C X cX3_beginAnew RX3 2 none 0 0 shC) {c0 : Nat} {v1 : Int32} (p0 : is_X3 c0) {N : ux_N} {L : ux_L} {o : ux_N} (hq : ux_Qv X o L) (h : fX3_beginAnew c0 v1 N = some o) : ux_Wt X 2 0 [(0, .ref (ux_ad X c0)), (1, .int v1)] [] N L := by
  refine wt_aload_n 1 0 C dX3_beginAnew_0 rfl rfl ?_
  refine wt_iload_n 2 1 C dX3_beginAnew_1 rfl rfl ?_
  refine wt_putI 5 C kpX3_9 (p0).1 rfl rfl rfl dX3_beginAnew_2 rfl ?_
  refine wt_aload_n 6 0 C dX3_beginAnew_5 rfl rfl ?_
  refine wt_iconst 7 0 C dX3_beginAnew_6 rfl (by decide) ?_
  refine wt_putI 10 C kpX3_37 (p0).1 rfl rfl rfl dX3_beginAnew_7 rfl ?_
  refine wt_aload_n 11 0 C dX3_beginAnew_10 rfl rfl ?_
  refine wt_iconst 12 0 C dX3_beginAnew_11 rfl (by decide) ?_
  refine wt_putI 15 C kpX3_40 (p0).1 rfl rfl rfl dX3_beginAnew_12 rfl ?_
  refine wt_aload_n 16 0 C dX3_beginAnew_15 rfl rfl ?_
  refine wt_iconst 17 0 C dX3_beginAnew_16 rfl (by decide) ?_
  refine wt_putI 20 C kpX3_43 (p0).1 rfl rfl rfl dX3_beginAnew_17 rfl ?_
  cases h
  exact wt_vret C hq dX3_beginAnew_20
theorem mX3_beginAnew {l : Launch} {G : ux_G} (hok : ux_ok G shC) {c0 : Nat} {v1 : Int32} (p0 : is_X3 c0) {N : ux_N} {L : ux_L} {o : ux_N} (h : fX3_beginAnew c0 v1 N = some o) : ux_Mv l G yX3_beginAnew cX3_beginAnew 2 0 0 [.ref (gad G c0), .int v1] N L o L :=
  ux_ofv shC hok (by decide +kernel) (Nat.le_of_ble_eq_true rfl) (fun X hG hl C hq => by subst hG; subst hl; exact wX3_beginAnew C p0 hq h)
def fX3_addLine_47 (c0 : Nat) (N : ux_N) : Option (ux_N) :=
  some N
set_option maxHeartbeats 4000000 in
set_option maxRecDepth 20000 in
theorem wX3_addLine_47 {X : ux_X} (C : ux_C X cX3_addLine RX3 3 none 1 24 shC) {c0 : Nat} (p0 : is_X3 c0) {N : ux_N} {L : ux_L} {o : ux_N} (hq : ux_Qv X o L) (h : fX3_addLine_47 c0 N = some o) : ux_Wt X 3 47 [] [] N L := by
  cases h
  exact wt_vret C hq dX3_addLine_47
def fX3_addLine_37 (c0 : Nat) (N : ux_N) : Option (ux_N) :=
  fX3_addLine_47 c0 (ux_u N c0 1 ((N c0 1) + (1 : Int32)))
set_option maxHeartbeats 4000000 in
set_option maxRecDepth 20000 in
theorem wX3_addLine_37 {X : ux_X} (C : ux_C X cX3_addLine RX3 3 none 1 24 shC) {c0 : Nat} (p0 : is_X3 c0) {N : ux_N} {L : ux_L} {o : ux_N} (hq : ux_Qv X o L) (h : fX3_addLine_37 c0 N = some o) : ux_Wt X 3 37 [(0, .ref (ux_ad X c0))] [] N L := by
  refine wt_aload_n 38 0 C dX3_addLine_37 rfl rfl ?_
  refine wt_dup 39 C dX3_addLine_38 rfl rfl ?_
  refine wt_getI 42 C kfX3_37 (p0).1 rfl dX3_addLine_39 rfl ?_
  refine wt_iconst 43 1 C dX3_addLine_42 rfl (by decide) ?_
  refine wt_iadd 44 C dX3_addLine_43 rfl ?_
  refine wt_putI 47 C kpX3_37 (p0).1 rfl rfl rfl dX3_addLine_44 rfl ?_
  refine wt_sub [] rfl ?_
  exact wX3_addLine_47 C p0 hq h
def fX3_addLine (c0 : Nat) (v1 : Int32) (v2 : Int32) (N : ux_N) : Option (ux_N) :=
  if (10 : Int32) ≤ (N c0 1) then (fX3_addLine_47 c0 N) else (if ux_in (N c0 1) 10 then (if ux_in ((ux_u N (c0 + 1) ((N c0 1).toNatClampNeg) (if v2 < v1 then v2 else v1)) c0 1) 10 then (fX3_addLine_37 c0 (ux_u (ux_u N (c0 + 1) ((N c0 1).toNatClampNeg) (if v2 < v1 then v2 else v1)) (c0 + 2) (((ux_u N (c0 + 1) ((N c0 1).toNatClampNeg) (if v2 < v1 then v2 else v1)) c0 1).toNatClampNeg) (if v1 < v2 then v2 else v1))) else none) else none)
set_option maxHeartbeats 4000000 in
set_option maxRecDepth 20000 in
theorem wX3_addLine {X : ux_X} (C : ux_C X cX3_addLine RX3 3 none 1 24 shC) {c0 : Nat} {v1 : Int32} {v2 : Int32} (p0 : is_X3 c0) {N : ux_N} {L : ux_L} {o : ux_N} (hq : ux_Qv X o L) (h : fX3_addLine c0 v1 v2 N = some o) : ux_Wt X 3 0 [(0, .ref (ux_ad X c0)), (1, .int v1), (2, .int v2)] [] N L := by
  refine wt_aload_n 1 0 C dX3_addLine_0 rfl rfl ?_
  refine wt_getI 4 C kfX3_37 (p0).1 rfl dX3_addLine_1 rfl ?_
  refine wt_bipush 6 10 C dX3_addLine_4 rfl (by decide) ?_
  refine wt_icmp_ge 9 47 C dX3_addLine_6 rfl (by decide) (fun q1 => ?_) (fun q1 => ?_)
  · have h := (if_pos q1).symm.trans h
    refine wt_sub [] rfl ?_
    exact wX3_addLine_47 C p0 hq h
  · have h := (if_neg q1).symm.trans h
    refine wt_aload_n 10 0 C dX3_addLine_9 rfl rfl ?_
    refine wt_getR 13 C kfX3_15 (p0).1 rfl dX3_addLine_10 rfl ?_
    refine wt_aload_n 14 0 C dX3_addLine_13 rfl rfl ?_
    refine wt_getI 17 C kfX3_37 (p0).1 rfl dX3_addLine_14 rfl ?_
    refine wt_iload_n 18 1 C dX3_addLine_17 rfl rfl ?_
    refine wt_iload_n 19 2 C dX3_addLine_18 rfl rfl ?_
    refine wt_mmin 22 C kmX3_52 (by decide) (Nat.le_of_ble_eq_true rfl) dX3_addLine_19 rfl ?_
    obtain ⟨hi2, h⟩ := ux_guard h
    refine wt_iast 23 ((N c0 1).toNatClampNeg) C (p0).2.1 rfl hi2 dX3_addLine_22 rfl ?_
    refine wt_aload_n 24 0 C dX3_addLine_23 rfl rfl ?_
    refine wt_getR 27 C kfX3_19 (p0).1 rfl dX3_addLine_24 rfl ?_
    refine wt_aload_n 28 0 C dX3_addLine_27 rfl rfl ?_
    refine wt_getI 31 C kfX3_37 (p0).1 rfl dX3_addLine_28 rfl ?_
    refine wt_iload_n 32 1 C dX3_addLine_31 rfl rfl ?_
    refine wt_iload_n 33 2 C dX3_addLine_32 rfl rfl ?_
    refine wt_mmax 36 C kmX3_58 (by decide) (Nat.le_of_ble_eq_true rfl) dX3_addLine_33 rfl ?_
    obtain ⟨hi3, h⟩ := ux_guard h
    refine wt_iast 37 (((ux_u N (c0 + 1) ((N c0 1).toNatClampNeg) (if v2 < v1 then v2 else v1)) c0 1).toNatClampNeg) C (p0).2.2.1 rfl hi3 dX3_addLine_36 rfl ?_
    refine wt_sub [0] rfl ?_
    exact wX3_addLine_37 C p0 hq h
theorem mX3_addLine {l : Launch} {G : ux_G} (hok : ux_ok G shC) {c0 : Nat} {v1 : Int32} {v2 : Int32} (p0 : is_X3 c0) {N : ux_N} {L : ux_L} {o : ux_N} (h : fX3_addLine c0 v1 v2 N = some o) : ux_Mv l G yX3_addLine cX3_addLine 3 1 24 [.ref (gad G c0), .int v1, .int v2] N L o L :=
  ux_ofv shC hok (by decide +kernel) (Nat.le_of_ble_eq_true rfl) (fun X hG hl C hq => by subst hG; subst hl; exact wX3_addLine C p0 hq h)
def fX3_addMeter_39 (c0 : Nat) (N : ux_N) : Option (ux_N) :=
  some N
set_option maxHeartbeats 4000000 in
set_option maxRecDepth 20000 in
theorem wX3_addMeter_39 {X : ux_X} (C : ux_C X cX3_addMeter RX3 3 none 0 0 shC) {c0 : Nat} (p0 : is_X3 c0) {N : ux_N} {L : ux_L} {o : ux_N} (hq : ux_Qv X o L) (h : fX3_addMeter_39 c0 N = some o) : ux_Wt X 3 39 [] [] N L := by
  cases h
  exact wt_vret C hq dX3_addMeter_39
def fX3_addMeter (c0 : Nat) (v1 : Int32) (v2 : Int32) (N : ux_N) : Option (ux_N) :=
  if (9 : Int32) ≤ (N c0 2) then (fX3_addMeter_39 c0 N) else (if ux_in (N c0 2) 9 then (if ux_in ((ux_u N (c0 + 3) ((N c0 2).toNatClampNeg) v1) c0 2) 9 then (fX3_addMeter_39 c0 (ux_u (ux_u (ux_u N (c0 + 3) ((N c0 2).toNatClampNeg) v1) (c0 + 4) (((ux_u N (c0 + 3) ((N c0 2).toNatClampNeg) v1) c0 2).toNatClampNeg) v2) c0 2 (((ux_u (ux_u N (c0 + 3) ((N c0 2).toNatClampNeg) v1) (c0 + 4) (((ux_u N (c0 + 3) ((N c0 2).toNatClampNeg) v1) c0 2).toNatClampNeg) v2) c0 2) + (1 : Int32)))) else none) else none)
set_option maxHeartbeats 4000000 in
set_option maxRecDepth 20000 in
theorem wX3_addMeter {X : ux_X} (C : ux_C X cX3_addMeter RX3 3 none 0 0 shC) {c0 : Nat} {v1 : Int32} {v2 : Int32} (p0 : is_X3 c0) {N : ux_N} {L : ux_L} {o : ux_N} (hq : ux_Qv X o L) (h : fX3_addMeter c0 v1 v2 N = some o) : ux_Wt X 3 0 [(0, .ref (ux_ad X c0)), (1, .int v1), (2, .int v2)] [] N L := by
  refine wt_aload_n 1 0 C dX3_addMeter_0 rfl rfl ?_
  refine wt_getI 4 C kfX3_40 (p0).1 rfl dX3_addMeter_1 rfl ?_
  refine wt_bipush 6 9 C dX3_addMeter_4 rfl (by decide) ?_
  refine wt_icmp_ge 9 39 C dX3_addMeter_6 rfl (by decide) (fun q1 => ?_) (fun q1 => ?_)
  · have h := (if_pos q1).symm.trans h
    refine wt_sub [] rfl ?_
    exact wX3_addMeter_39 C p0 hq h
  · have h := (if_neg q1).symm.trans h
    refine wt_aload_n 10 0 C dX3_addMeter_9 rfl rfl ?_
    refine wt_getR 13 C kfX3_22 (p0).1 rfl dX3_addMeter_10 rfl ?_
    refine wt_aload_n 14 0 C dX3_addMeter_13 rfl rfl ?_
    refine wt_getI 17 C kfX3_40 (p0).1 rfl dX3_addMeter_14 rfl ?_
    refine wt_iload_n 18 1 C dX3_addMeter_17 rfl rfl ?_
    obtain ⟨hi2, h⟩ := ux_guard h
    refine wt_iast 19 ((N c0 2).toNatClampNeg) C (p0).2.2.2.1 rfl hi2 dX3_addMeter_18 rfl ?_
    refine wt_aload_n 20 0 C dX3_addMeter_19 rfl rfl ?_
    refine wt_getR 23 C kfX3_25 (p0).1 rfl dX3_addMeter_20 rfl ?_
    refine wt_aload_n 24 0 C dX3_addMeter_23 rfl rfl ?_
    refine wt_getI 27 C kfX3_40 (p0).1 rfl dX3_addMeter_24 rfl ?_
    refine wt_iload_n 28 2 C dX3_addMeter_27 rfl rfl ?_
    obtain ⟨hi3, h⟩ := ux_guard h
    refine wt_iast 29 (((ux_u N (c0 + 3) ((N c0 2).toNatClampNeg) v1) c0 2).toNatClampNeg) C (p0).2.2.2.2.1 rfl hi3 dX3_addMeter_28 rfl ?_
    refine wt_aload_n 30 0 C dX3_addMeter_29 rfl rfl ?_
    refine wt_dup 31 C dX3_addMeter_30 rfl rfl ?_
    refine wt_getI 34 C kfX3_40 (p0).1 rfl dX3_addMeter_31 rfl ?_
    refine wt_iconst 35 1 C dX3_addMeter_34 rfl (by decide) ?_
    refine wt_iadd 36 C dX3_addMeter_35 rfl ?_
    refine wt_putI 39 C kpX3_40 (p0).1 rfl rfl rfl dX3_addMeter_36 rfl ?_
    refine wt_sub [] rfl ?_
    exact wX3_addMeter_39 C p0 hq h
theorem mX3_addMeter {l : Launch} {G : ux_G} (hok : ux_ok G shC) {c0 : Nat} {v1 : Int32} {v2 : Int32} (p0 : is_X3 c0) {N : ux_N} {L : ux_L} {o : ux_N} (h : fX3_addMeter c0 v1 v2 N = some o) : ux_Mv l G yX3_addMeter cX3_addMeter 3 0 0 [.ref (gad G c0), .int v1, .int v2] N L o L :=
  ux_ofv shC hok (by decide +kernel) (Nat.le_of_ble_eq_true rfl) (fun X hG hl C hq => by subst hG; subst hl; exact wX3_addMeter C p0 hq h)
def fX3_addOffer_49 (c0 : Nat) (N : ux_N) : Option (ux_N) :=
  some N
set_option maxHeartbeats 4000000 in
set_option maxRecDepth 20000 in
theorem wX3_addOffer_49 {X : ux_X} (C : ux_C X cX3_addOffer RX3 4 none 0 0 shC) {c0 : Nat} (p0 : is_X3 c0) {N : ux_N} {L : ux_L} {o : ux_N} (hq : ux_Qv X o L) (h : fX3_addOffer_49 c0 N = some o) : ux_Wt X 4 49 [] [] N L := by
  cases h
  exact wt_vret C hq dX3_addOffer_49
def fX3_addOffer_39 (c0 : Nat) (N : ux_N) : Option (ux_N) :=
  fX3_addOffer_49 c0 (ux_u N c0 3 ((N c0 3) + (1 : Int32)))
set_option maxHeartbeats 4000000 in
set_option maxRecDepth 20000 in
theorem wX3_addOffer_39 {X : ux_X} (C : ux_C X cX3_addOffer RX3 4 none 0 0 shC) {c0 : Nat} (p0 : is_X3 c0) {N : ux_N} {L : ux_L} {o : ux_N} (hq : ux_Qv X o L) (h : fX3_addOffer_39 c0 N = some o) : ux_Wt X 4 39 [(0, .ref (ux_ad X c0))] [] N L := by
  refine wt_aload_n 40 0 C dX3_addOffer_39 rfl rfl ?_
  refine wt_dup 41 C dX3_addOffer_40 rfl rfl ?_
  refine wt_getI 44 C kfX3_43 (p0).1 rfl dX3_addOffer_41 rfl ?_
  refine wt_iconst 45 1 C dX3_addOffer_44 rfl (by decide) ?_
  refine wt_iadd 46 C dX3_addOffer_45 rfl ?_
  refine wt_putI 49 C kpX3_43 (p0).1 rfl rfl rfl dX3_addOffer_46 rfl ?_
  refine wt_sub [] rfl ?_
  exact wX3_addOffer_49 C p0 hq h
def fX3_addOffer (c0 : Nat) (v1 : Int32) (v2 : Int32) (v3 : Int32) (N : ux_N) : Option (ux_N) :=
  if (6 : Int32) ≤ (N c0 3) then (fX3_addOffer_49 c0 N) else (if ux_in (N c0 3) 6 then (if ux_in ((ux_u N (c0 + 5) ((N c0 3).toNatClampNeg) v1) c0 3) 6 then (if ux_in ((ux_u (ux_u N (c0 + 5) ((N c0 3).toNatClampNeg) v1) (c0 + 6) (((ux_u N (c0 + 5) ((N c0 3).toNatClampNeg) v1) c0 3).toNatClampNeg) v2) c0 3) 6 then (fX3_addOffer_39 c0 (ux_u (ux_u (ux_u N (c0 + 5) ((N c0 3).toNatClampNeg) v1) (c0 + 6) (((ux_u N (c0 + 5) ((N c0 3).toNatClampNeg) v1) c0 3).toNatClampNeg) v2) (c0 + 7) (((ux_u (ux_u N (c0 + 5) ((N c0 3).toNatClampNeg) v1) (c0 + 6) (((ux_u N (c0 + 5) ((N c0 3).toNatClampNeg) v1) c0 3).toNatClampNeg) v2) c0 3).toNatClampNeg) v3)) else none) else none) else none)
set_option maxHeartbeats 4000000 in
set_option maxRecDepth 20000 in
theorem wX3_addOffer {X : ux_X} (C : ux_C X cX3_addOffer RX3 4 none 0 0 shC) {c0 : Nat} {v1 : Int32} {v2 : Int32} {v3 : Int32} (p0 : is_X3 c0) {N : ux_N} {L : ux_L} {o : ux_N} (hq : ux_Qv X o L) (h : fX3_addOffer c0 v1 v2 v3 N = some o) : ux_Wt X 4 0 [(0, .ref (ux_ad X c0)), (1, .int v1), (2, .int v2), (3, .int v3)] [] N L := by
  refine wt_aload_n 1 0 C dX3_addOffer_0 rfl rfl ?_
  refine wt_getI 4 C kfX3_43 (p0).1 rfl dX3_addOffer_1 rfl ?_
  refine wt_bipush 6 6 C dX3_addOffer_4 rfl (by decide) ?_
  refine wt_icmp_ge 9 49 C dX3_addOffer_6 rfl (by decide) (fun q1 => ?_) (fun q1 => ?_)
  · have h := (if_pos q1).symm.trans h
    refine wt_sub [] rfl ?_
    exact wX3_addOffer_49 C p0 hq h
  · have h := (if_neg q1).symm.trans h
    refine wt_aload_n 10 0 C dX3_addOffer_9 rfl rfl ?_
    refine wt_getR 13 C kfX3_28 (p0).1 rfl dX3_addOffer_10 rfl ?_
    refine wt_aload_n 14 0 C dX3_addOffer_13 rfl rfl ?_
    refine wt_getI 17 C kfX3_43 (p0).1 rfl dX3_addOffer_14 rfl ?_
    refine wt_iload_n 18 1 C dX3_addOffer_17 rfl rfl ?_
    obtain ⟨hi2, h⟩ := ux_guard h
    refine wt_iast 19 ((N c0 3).toNatClampNeg) C (p0).2.2.2.2.2.1 rfl hi2 dX3_addOffer_18 rfl ?_
    refine wt_aload_n 20 0 C dX3_addOffer_19 rfl rfl ?_
    refine wt_getR 23 C kfX3_31 (p0).1 rfl dX3_addOffer_20 rfl ?_
    refine wt_aload_n 24 0 C dX3_addOffer_23 rfl rfl ?_
    refine wt_getI 27 C kfX3_43 (p0).1 rfl dX3_addOffer_24 rfl ?_
    refine wt_iload_n 28 2 C dX3_addOffer_27 rfl rfl ?_
    obtain ⟨hi3, h⟩ := ux_guard h
    refine wt_iast 29 (((ux_u N (c0 + 5) ((N c0 3).toNatClampNeg) v1) c0 3).toNatClampNeg) C (p0).2.2.2.2.2.2.1 rfl hi3 dX3_addOffer_28 rfl ?_
    refine wt_aload_n 30 0 C dX3_addOffer_29 rfl rfl ?_
    refine wt_getR 33 C kfX3_34 (p0).1 rfl dX3_addOffer_30 rfl ?_
    refine wt_aload_n 34 0 C dX3_addOffer_33 rfl rfl ?_
    refine wt_getI 37 C kfX3_43 (p0).1 rfl dX3_addOffer_34 rfl ?_
    refine wt_iload_n 38 3 C dX3_addOffer_37 rfl rfl ?_
    obtain ⟨hi4, h⟩ := ux_guard h
    refine wt_iast 39 (((ux_u (ux_u N (c0 + 5) ((N c0 3).toNatClampNeg) v1) (c0 + 6) (((ux_u N (c0 + 5) ((N c0 3).toNatClampNeg) v1) c0 3).toNatClampNeg) v2) c0 3).toNatClampNeg) C (p0).2.2.2.2.2.2.2 rfl hi4 dX3_addOffer_38 rfl ?_
    refine wt_sub [0] rfl ?_
    exact wX3_addOffer_39 C p0 hq h
theorem mX3_addOffer {l : Launch} {G : ux_G} (hok : ux_ok G shC) {c0 : Nat} {v1 : Int32} {v2 : Int32} {v3 : Int32} (p0 : is_X3 c0) {N : ux_N} {L : ux_L} {o : ux_N} (h : fX3_addOffer c0 v1 v2 v3 N = some o) : ux_Mv l G yX3_addOffer cX3_addOffer 4 0 0 [.ref (gad G c0), .int v1, .int v2, .int v3] N L o L :=
  ux_ofv shC hok (by decide +kernel) (Nat.le_of_ble_eq_true rfl) (fun X hG hl C hq => by subst hG; subst hl; exact wX3_addOffer C p0 hq h)
def fX3_placesFor_20 (c0 : Nat) (s0 : Int32) (N : ux_N) : Option (Int32) :=
  some s0
set_option maxHeartbeats 4000000 in
set_option maxRecDepth 20000 in
theorem wX3_placesFor_20 {X : ux_X} (C : ux_C X cX3_placesFor RX3 2 (some .int) 0 0 shC) {c0 : Nat} {s0 : Int32} (p0 : is_X3 c0) {N : ux_N} {L : ux_L} {o : Int32} (hq : ux_Qi X o N L) (h : fX3_placesFor_20 c0 s0 N = some o) : ux_Wt X 2 20 [] [.int s0] N L := by
  cases h
  exact wt_iret C hq dX3_placesFor_20
def fX3_placesFor_9 (c0 : Nat) (N : ux_N) : Option (Int32) :=
  fX3_placesFor_20 c0 (N c0 1) N
set_option maxHeartbeats 4000000 in
set_option maxRecDepth 20000 in
theorem wX3_placesFor_9 {X : ux_X} (C : ux_C X cX3_placesFor RX3 2 (some .int) 0 0 shC) {c0 : Nat} (p0 : is_X3 c0) {N : ux_N} {L : ux_L} {o : Int32} (hq : ux_Qi X o N L) (h : fX3_placesFor_9 c0 N = some o) : ux_Wt X 2 9 [(0, .ref (ux_ad X c0))] [] N L := by
  refine wt_aload_n 10 0 C dX3_placesFor_9 rfl rfl ?_
  refine wt_getI 13 C kfX3_37 (p0).1 rfl dX3_placesFor_10 rfl ?_
  refine wt_goto 20 C dX3_placesFor_13 (by decide) ?_
  refine wt_sub [] rfl ?_
  exact wX3_placesFor_20 C p0 hq h
def fX3_placesFor (c0 : Nat) (v1 : Int32) (N : ux_N) : Option (Int32) :=
  if v1 = 0 then (fX3_placesFor_9 c0 N) else (if v1 = (1 : Int32) then (fX3_placesFor_9 c0 N) else (fX3_placesFor_20 c0 (N c0 0) N))
set_option maxHeartbeats 4000000 in
set_option maxRecDepth 20000 in
theorem wX3_placesFor {X : ux_X} (C : ux_C X cX3_placesFor RX3 2 (some .int) 0 0 shC) {c0 : Nat} {v1 : Int32} (p0 : is_X3 c0) {N : ux_N} {L : ux_L} {o : Int32} (hq : ux_Qi X o N L) (h : fX3_placesFor c0 v1 N = some o) : ux_Wt X 2 0 [(0, .ref (ux_ad X c0)), (1, .int v1)] [] N L := by
  refine wt_iload_n 1 1 C dX3_placesFor_0 rfl rfl ?_
  refine wt_if_eq 4 9 C dX3_placesFor_1 rfl (by decide) (fun q1 => ?_) (fun q1 => ?_)
  · have h := (if_pos q1).symm.trans h
    refine wt_sub [0] rfl ?_
    exact wX3_placesFor_9 C p0 hq h
  · have h := (if_neg q1).symm.trans h
    refine wt_iload_n 5 1 C dX3_placesFor_4 rfl rfl ?_
    refine wt_iconst 6 1 C dX3_placesFor_5 rfl (by decide) ?_
    refine wt_icmp_ne 9 16 C dX3_placesFor_6 rfl (by decide) (fun q2 => ?_) (fun q2 => ?_)
    · have h := (if_neg q2).symm.trans h
      refine wt_aload_n 17 0 C dX3_placesFor_16 rfl rfl ?_
      refine wt_getI 20 C kfX3_9 (p0).1 rfl dX3_placesFor_17 rfl ?_
      refine wt_sub [] rfl ?_
      exact wX3_placesFor_20 C p0 hq h
    · have h := (if_pos q2).symm.trans h
      refine wt_sub [0] rfl ?_
      exact wX3_placesFor_9 C p0 hq h
theorem mX3_placesFor {l : Launch} {G : ux_G} (hok : ux_ok G shC) {c0 : Nat} {v1 : Int32} (p0 : is_X3 c0) {N : ux_N} {L : ux_L} {o : Int32} (h : fX3_placesFor c0 v1 N = some o) : ux_Mi l G yX3_placesFor cX3_placesFor 2 (some .int) 0 0 [.ref (gad G c0), .int v1] N L o N L :=
  ux_ofi shC hok (by decide +kernel) (Nat.le_of_ble_eq_true rfl) (fun X hG hl C hq => by subst hG; subst hl; exact wX3_placesFor C p0 hq h)
def fX3_hasPlace_18 (c0 : Nat) (s0 : Int32) (N : ux_N) : Option (Int32) :=
  if ux_b s0 then (some s0) else none
set_option maxHeartbeats 4000000 in
set_option maxRecDepth 20000 in
theorem wX3_hasPlace_18 {X : ux_X} (C : ux_C X cX3_hasPlace RX3 3 (some .boolean) 1 21 shC) {c0 : Nat} {s0 : Int32} (p0 : is_X3 c0) {N : ux_N} {L : ux_L} {o : Int32} (hq : ux_Qi X o N L) (h : fX3_hasPlace_18 c0 s0 N = some o) : ux_Wt X 3 18 [] [.int s0] N L := by
  obtain ⟨hb1, h⟩ := ux_guard h
  cases h
  exact wt_zret C (ux_b_n hb1).1 hq dX3_hasPlace_18
def fX3_hasPlace_17 (c0 : Nat) (N : ux_N) : Option (Int32) :=
  fX3_hasPlace_18 c0 (0 : Int32) N
set_option maxHeartbeats 4000000 in
set_option maxRecDepth 20000 in
theorem wX3_hasPlace_17 {X : ux_X} (C : ux_C X cX3_hasPlace RX3 3 (some .boolean) 1 21 shC) {c0 : Nat} (p0 : is_X3 c0) {N : ux_N} {L : ux_L} {o : Int32} (hq : ux_Qi X o N L) (h : fX3_hasPlace_17 c0 N = some o) : ux_Wt X 3 17 [] [] N L := by
  refine wt_iconst 18 0 C dX3_hasPlace_17 rfl (by decide) ?_
  exact wX3_hasPlace_18 C p0 hq h
def fX3_hasPlace (c0 : Nat) (v1 : Int32) (v2 : Int32) (N : ux_N) : Option (Int32) :=
  if v2 < 0 then (fX3_hasPlace_17 c0 N) else ((fX3_placesFor c0 v1 N).bind (fun o2 => if o2 ≤ v2 then (fX3_hasPlace_17 c0 N) else (fX3_hasPlace_18 c0 (1 : Int32) N)))
set_option maxHeartbeats 4000000 in
set_option maxRecDepth 20000 in
theorem wX3_hasPlace {X : ux_X} (C : ux_C X cX3_hasPlace RX3 3 (some .boolean) 1 21 shC) {c0 : Nat} {v1 : Int32} {v2 : Int32} (p0 : is_X3 c0) {N : ux_N} {L : ux_L} {o : Int32} (hq : ux_Qi X o N L) (h : fX3_hasPlace c0 v1 v2 N = some o) : ux_Wt X 3 0 [(0, .ref (ux_ad X c0)), (1, .int v1), (2, .int v2)] [] N L := by
  refine wt_iload_n 1 2 C dX3_hasPlace_0 rfl rfl ?_
  refine wt_if_lt 4 17 C dX3_hasPlace_1 rfl (by decide) (fun q1 => ?_) (fun q1 => ?_)
  · have h := (if_pos q1).symm.trans h
    refine wt_sub [] rfl ?_
    exact wX3_hasPlace_17 C p0 hq h
  · have h := (if_neg q1).symm.trans h
    refine wt_iload_n 5 2 C dX3_hasPlace_4 rfl rfl ?_
    refine wt_aload_n 6 0 C dX3_hasPlace_5 rfl rfl ?_
    refine wt_iload_n 7 1 C dX3_hasPlace_6 rfl rfl ?_
    obtain ⟨o2, hc3, h⟩ := Option.bind_eq_some_iff.mp h
    refine wt_callVi 10 [.int v2] C kvX3_61 (p0).1 (mX3_placesFor (cx_ok C) (p0) hc3) rfl rfl ⟨Nat.le_of_ble_eq_true rfl, Nat.le_of_ble_eq_true rfl⟩ (Nat.le_of_ble_eq_true rfl) dX3_hasPlace_7 rfl ?_
    refine wt_icmp_ge 13 17 C dX3_hasPlace_10 rfl (by decide) (fun q4 => ?_) (fun q4 => ?_)
    · have h := (if_pos q4).symm.trans h
      refine wt_sub [] rfl ?_
      exact wX3_hasPlace_17 C p0 hq h
    · have h := (if_neg q4).symm.trans h
      refine wt_iconst 14 1 C dX3_hasPlace_13 rfl (by decide) ?_
      refine wt_goto 18 C dX3_hasPlace_14 (by decide) ?_
      refine wt_sub [] rfl ?_
      exact wX3_hasPlace_18 C p0 hq h
theorem mX3_hasPlace {l : Launch} {G : ux_G} (hok : ux_ok G shC) {c0 : Nat} {v1 : Int32} {v2 : Int32} (p0 : is_X3 c0) {N : ux_N} {L : ux_L} {o : Int32} (h : fX3_hasPlace c0 v1 v2 N = some o) : ux_Mi l G yX3_hasPlace cX3_hasPlace 3 (some .boolean) 1 21 [.ref (gad G c0), .int v1, .int v2] N L o N L :=
  ux_ofi shC hok (by decide +kernel) (Nat.le_of_ble_eq_true rfl) (fun X hG hl C hq => by subst hG; subst hl; exact wX3_hasPlace C p0 hq h)
def fX3_allLines (c0 : Nat) (N : ux_N) : Option (Int32) :=
  some (((1 : Int32) <<< ((N c0 1) &&& 31)) - (1 : Int32))
set_option maxHeartbeats 4000000 in
set_option maxRecDepth 20000 in
theorem wX3_allLines {X : ux_X} (C : ux_C X cX3_allLines RX3 1 (some .int) 0 0 shC) {c0 : Nat} (p0 : is_X3 c0) {N : ux_N} {L : ux_L} {o : Int32} (hq : ux_Qi X o N L) (h : fX3_allLines c0 N = some o) : ux_Wt X 1 0 [(0, .ref (ux_ad X c0))] [] N L := by
  refine wt_iconst 1 1 C dX3_allLines_0 rfl (by decide) ?_
  refine wt_aload_n 2 0 C dX3_allLines_1 rfl rfl ?_
  refine wt_getI 5 C kfX3_37 (p0).1 rfl dX3_allLines_2 rfl ?_
  refine wt_ishl 6 C dX3_allLines_5 rfl ?_
  refine wt_iconst 7 1 C dX3_allLines_6 rfl (by decide) ?_
  refine wt_isub 8 C dX3_allLines_7 rfl ?_
  cases h
  exact wt_iret C hq dX3_allLines_8
theorem mX3_allLines {l : Launch} {G : ux_G} (hok : ux_ok G shC) {c0 : Nat} (p0 : is_X3 c0) {N : ux_N} {L : ux_L} {o : Int32} (h : fX3_allLines c0 N = some o) : ux_Mi l G yX3_allLines cX3_allLines 1 (some .int) 0 0 [.ref (gad G c0)] N L o N L :=
  ux_ofi shC hok (by decide +kernel) (Nat.le_of_ble_eq_true rfl) (fun X hG hl C hq => by subst hG; subst hl; exact wX3_allLines C p0 hq h)
def fX3_linesBeside_4b_48 (c0 : Nat) (v1 : Int32) (v2 : Int32) (v3 : Int32) (N : ux_N) : Option ((Int32 × Int32) ⊕ (Int32)) :=
  some (.inl (v2, (v3 + 1)))
set_option maxHeartbeats 4000000 in
set_option maxRecDepth 20000 in
theorem wX3_linesBeside_4b_48 {X : ux_X} (C : ux_C X cX3_linesBeside RX3 4 (some .int) 0 0 shC) {c0 : Nat} {v1 : Int32} {v2 : Int32} {v3 : Int32} (p0 : is_X3 c0) {N : ux_N} {L : ux_L} {o : (Int32 × Int32) ⊕ (Int32)} (hin : ∀ s : Int32 × Int32, o = .inl s → ux_Wt X 4 4 [(0, .ref (ux_ad X c0)), (1, .int v1), (2, .int s.1), (3, .int s.2)] [] N L) (hex0 : ∀ e : Int32, o = .inr (e) → ux_Wt X 4 54 [(2, .int e)] [] N L) (h : fX3_linesBeside_4b_48 c0 v1 v2 v3 N = some o) : ux_Wt X 4 48 [(0, .ref (ux_ad X c0)), (1, .int v1), (2, .int v2), (3, .int v3)] [] N L := by
  refine wt_iinc 51 3 [(3, .int (v3 + 1)), (0, .ref (ux_ad X c0)), (1, .int v1), (2, .int v2)] (v3 + 1) C dX3_linesBeside_48 rfl rfl (by rfl) (by decide) rfl ?_
  refine wt_goto 4 C dX3_linesBeside_51 (by decide) ?_
  refine wt_sub [1, 2, 3, 0] rfl ?_
  exact hin _ (Option.some.inj h).symm
def fX3_linesBeside_4b (c0 : Nat) (v1 : Int32) (v2 : Int32) (v3 : Int32) (N : ux_N) : Option ((Int32 × Int32) ⊕ (Int32)) :=
  if (N c0 1) ≤ v3 then (some (.inr (v2))) else (if ux_in v3 10 then (if ux_in v1 10 then (if (N (c0 + 1) (v3.toNatClampNeg)) = (N (c0 + 1) (v1.toNatClampNeg)) then (if ux_in v3 10 then (if ux_in v1 10 then (if (N (c0 + 2) (v3.toNatClampNeg)) = (N (c0 + 2) (v1.toNatClampNeg)) then (fX3_linesBeside_4b_48 c0 v1 (v2 ||| ((1 : Int32) <<< (v3 &&& 31))) v3 N) else (fX3_linesBeside_4b_48 c0 v1 v2 v3 N)) else none) else none) else (fX3_linesBeside_4b_48 c0 v1 v2 v3 N)) else none) else none)
set_option maxHeartbeats 4000000 in
set_option maxRecDepth 20000 in
theorem wX3_linesBeside_4b {X : ux_X} (C : ux_C X cX3_linesBeside RX3 4 (some .int) 0 0 shC) {c0 : Nat} {v1 : Int32} {v2 : Int32} {v3 : Int32} (p0 : is_X3 c0) {N : ux_N} {L : ux_L} {o : (Int32 × Int32) ⊕ (Int32)} (hin : ∀ s : Int32 × Int32, o = .inl s → ux_Wt X 4 4 [(0, .ref (ux_ad X c0)), (1, .int v1), (2, .int s.1), (3, .int s.2)] [] N L) (hex0 : ∀ e : Int32, o = .inr (e) → ux_Wt X 4 54 [(2, .int e)] [] N L) (h : fX3_linesBeside_4b c0 v1 v2 v3 N = some o) : ux_Wt X 4 4 [(0, .ref (ux_ad X c0)), (1, .int v1), (2, .int v2), (3, .int v3)] [] N L := by
  refine wt_iload_n 5 3 C dX3_linesBeside_4 rfl rfl ?_
  refine wt_aload_n 6 0 C dX3_linesBeside_5 rfl rfl ?_
  refine wt_getI 9 C kfX3_37 (p0).1 rfl dX3_linesBeside_6 rfl ?_
  refine wt_icmp_ge 12 54 C dX3_linesBeside_9 rfl (by decide) (fun q1 => ?_) (fun q1 => ?_)
  · have h := (if_pos q1).symm.trans h
    refine wt_sub [2] rfl ?_
    exact hex0 _ (Option.some.inj h).symm
  · have h := (if_neg q1).symm.trans h
    refine wt_aload_n 13 0 C dX3_linesBeside_12 rfl rfl ?_
    refine wt_getR 16 C kfX3_15 (p0).1 rfl dX3_linesBeside_13 rfl ?_
    refine wt_iload_n 17 3 C dX3_linesBeside_16 rfl rfl ?_
    obtain ⟨hi2, h⟩ := ux_guard h
    refine wt_iald 18 (v3.toNatClampNeg) C (p0).2.1 rfl hi2 dX3_linesBeside_17 rfl ?_
    refine wt_aload_n 19 0 C dX3_linesBeside_18 rfl rfl ?_
    refine wt_getR 22 C kfX3_15 (p0).1 rfl dX3_linesBeside_19 rfl ?_
    refine wt_iload_n 23 1 C dX3_linesBeside_22 rfl rfl ?_
    obtain ⟨hi3, h⟩ := ux_guard h
    refine wt_iald 24 (v1.toNatClampNeg) C (p0).2.1 rfl hi3 dX3_linesBeside_23 rfl ?_
    refine wt_icmp_ne 27 48 C dX3_linesBeside_24 rfl (by decide) (fun q4 => ?_) (fun q4 => ?_)
    · have h := (if_neg q4).symm.trans h
      exact wX3_linesBeside_4b_48 C p0 hin hex0 h
    · have h := (if_pos q4).symm.trans h
      refine wt_aload_n 28 0 C dX3_linesBeside_27 rfl rfl ?_
      refine wt_getR 31 C kfX3_19 (p0).1 rfl dX3_linesBeside_28 rfl ?_
      refine wt_iload_n 32 3 C dX3_linesBeside_31 rfl rfl ?_
      obtain ⟨hi5, h⟩ := ux_guard h
      refine wt_iald 33 (v3.toNatClampNeg) C (p0).2.2.1 rfl hi5 dX3_linesBeside_32 rfl ?_
      refine wt_aload_n 34 0 C dX3_linesBeside_33 rfl rfl ?_
      refine wt_getR 37 C kfX3_19 (p0).1 rfl dX3_linesBeside_34 rfl ?_
      refine wt_iload_n 38 1 C dX3_linesBeside_37 rfl rfl ?_
      obtain ⟨hi6, h⟩ := ux_guard h
      refine wt_iald 39 (v1.toNatClampNeg) C (p0).2.2.1 rfl hi6 dX3_linesBeside_38 rfl ?_
      refine wt_icmp_ne 42 48 C dX3_linesBeside_39 rfl (by decide) (fun q7 => ?_) (fun q7 => ?_)
      · have h := (if_neg q7).symm.trans h
        exact wX3_linesBeside_4b_48 C p0 hin hex0 h
      · have h := (if_pos q7).symm.trans h
        refine wt_iload_n 43 2 C dX3_linesBeside_42 rfl rfl ?_
        refine wt_iconst 44 1 C dX3_linesBeside_43 rfl (by decide) ?_
        refine wt_iload_n 45 3 C dX3_linesBeside_44 rfl rfl ?_
        refine wt_ishl 46 C dX3_linesBeside_45 rfl ?_
        refine wt_ior 47 C dX3_linesBeside_46 rfl ?_
        refine wt_istore_n 48 [(2, .int (v2 ||| ((1 : Int32) <<< (v3 &&& 31)))), (0, .ref (ux_ad X c0)), (1, .int v1), (3, .int v3)] C dX3_linesBeside_47 rfl (by decide) rfl ?_
        refine wt_sub [1, 2, 0, 3] rfl ?_
        exact wX3_linesBeside_4b_48 C p0 hin hex0 h
def fX3_linesBeside (c0 : Nat) (v1 : Int32) (N : ux_N) : Option (Int32) :=
  (ux_lp (fun s : Int32 × Int32 => fX3_linesBeside_4b c0 v1 s.1 s.2 N) ux_fu ((0 : Int32), (0 : Int32))).bind (fun e8 => some e8)
set_option maxHeartbeats 4000000 in
set_option maxRecDepth 20000 in
theorem wX3_linesBeside {X : ux_X} (C : ux_C X cX3_linesBeside RX3 4 (some .int) 0 0 shC) {c0 : Nat} {v1 : Int32} (p0 : is_X3 c0) {N : ux_N} {L : ux_L} {o : Int32} (hq : ux_Qi X o N L) (h : fX3_linesBeside c0 v1 N = some o) : ux_Wt X 4 0 [(0, .ref (ux_ad X c0)), (1, .int v1)] [] N L := by
  refine wt_iconst 1 0 C dX3_linesBeside_0 rfl (by decide) ?_
  refine wt_istore_n 2 [(2, .int (0 : Int32)), (0, .ref (ux_ad X c0)), (1, .int v1)] C dX3_linesBeside_1 rfl (by decide) rfl ?_
  refine wt_iconst 3 0 C dX3_linesBeside_2 rfl (by decide) ?_
  refine wt_istore_n 4 [(3, .int (0 : Int32)), (2, .int (0 : Int32)), (0, .ref (ux_ad X c0)), (1, .int v1)] C dX3_linesBeside_3 rfl (by decide) rfl ?_
  obtain ⟨e1, hl2, h⟩ := Option.bind_eq_some_iff.mp h
  refine wt_sub [2, 3, 1, 0] rfl ?_
  refine ux_loop (fun s : Int32 × Int32 => fX3_linesBeside_4b c0 v1 s.1 s.2 N) (fun s : Int32 × Int32 => ux_Wt X 4 4 [(0, .ref (ux_ad X c0)), (1, .int v1), (2, .int s.1), (3, .int s.2)] [] N L) (e := e1) ?_ hl2
  intro s3 o4 hb5 hi6 hx7
  refine wX3_linesBeside_4b C p0 hi6 (fun x0 he => ?_) hb5
  · obtain ⟨e8, rfl⟩ : ∃ z, z = x0 := ⟨_, rfl⟩
    have h9 := hx7 _ he
    subst h9
    refine wt_iload_n 55 0 C dX3_linesBeside_54 rfl rfl ?_
    cases h
    exact wt_iret C hq dX3_linesBeside_55
theorem mX3_linesBeside {l : Launch} {G : ux_G} (hok : ux_ok G shC) {c0 : Nat} {v1 : Int32} (p0 : is_X3 c0) {N : ux_N} {L : ux_L} {o : Int32} (h : fX3_linesBeside c0 v1 N = some o) : ux_Mi l G yX3_linesBeside cX3_linesBeside 4 (some .int) 0 0 [.ref (gad G c0), .int v1] N L o N L :=
  ux_ofi shC hok (by decide +kernel) (Nat.le_of_ble_eq_true rfl) (fun X hG hl C hq => by subst hG; subst hl; exact wX3_linesBeside C p0 hq h)
def fX3_linesAt_5b_43 (c0 : Nat) (v1 : Int32) (v2 : Int32) (v3 : Int32) (v4 : Int32) (N : ux_N) : Option ((Int32 × Int32) ⊕ (Int32)) :=
  some (.inl (v3, (v4 + 1)))
set_option maxHeartbeats 4000000 in
set_option maxRecDepth 20000 in
theorem wX3_linesAt_5b_43 {X : ux_X} (C : ux_C X cX3_linesAt RX3 5 (some .int) 0 0 shC) {c0 : Nat} {v1 : Int32} {v2 : Int32} {v3 : Int32} {v4 : Int32} (p0 : is_X3 c0) {N : ux_N} {L : ux_L} {o : (Int32 × Int32) ⊕ (Int32)} (hin : ∀ s : Int32 × Int32, o = .inl s → ux_Wt X 5 5 [(0, .ref (ux_ad X c0)), (1, .int v1), (2, .int v2), (3, .int s.1), (4, .int s.2)] [] N L) (hex0 : ∀ e : Int32, o = .inr (e) → ux_Wt X 5 49 [(2, .int v2), (3, .int e)] [] N L) (h : fX3_linesAt_5b_43 c0 v1 v2 v3 v4 N = some o) : ux_Wt X 5 43 [(0, .ref (ux_ad X c0)), (1, .int v1), (2, .int v2), (3, .int v3), (4, .int v4)] [] N L := by
  refine wt_iinc 46 4 [(4, .int (v4 + 1)), (0, .ref (ux_ad X c0)), (1, .int v1), (2, .int v2), (3, .int v3)] (v4 + 1) C dX3_linesAt_43 rfl rfl (by rfl) (by decide) rfl ?_
  refine wt_goto 5 C dX3_linesAt_46 (by decide) ?_
  refine wt_sub [1, 2, 3, 4, 0] rfl ?_
  exact hin _ (Option.some.inj h).symm
def fX3_linesAt_5b_36 (c0 : Nat) (v1 : Int32) (v2 : Int32) (v3 : Int32) (v4 : Int32) (N : ux_N) : Option ((Int32 × Int32) ⊕ (Int32)) :=
  fX3_linesAt_5b_43 c0 v1 v2 (v3 ||| ((1 : Int32) <<< (v4 &&& 31))) v4 N
set_option maxHeartbeats 4000000 in
set_option maxRecDepth 20000 in
theorem wX3_linesAt_5b_36 {X : ux_X} (C : ux_C X cX3_linesAt RX3 5 (some .int) 0 0 shC) {c0 : Nat} {v1 : Int32} {v2 : Int32} {v3 : Int32} {v4 : Int32} (p0 : is_X3 c0) {N : ux_N} {L : ux_L} {o : (Int32 × Int32) ⊕ (Int32)} (hin : ∀ s : Int32 × Int32, o = .inl s → ux_Wt X 5 5 [(0, .ref (ux_ad X c0)), (1, .int v1), (2, .int v2), (3, .int s.1), (4, .int s.2)] [] N L) (hex0 : ∀ e : Int32, o = .inr (e) → ux_Wt X 5 49 [(2, .int v2), (3, .int e)] [] N L) (h : fX3_linesAt_5b_36 c0 v1 v2 v3 v4 N = some o) : ux_Wt X 5 36 [(0, .ref (ux_ad X c0)), (1, .int v1), (2, .int v2), (3, .int v3), (4, .int v4)] [] N L := by
  refine wt_iload_n 37 3 C dX3_linesAt_36 rfl rfl ?_
  refine wt_iconst 38 1 C dX3_linesAt_37 rfl (by decide) ?_
  refine wt_iload 40 4 C dX3_linesAt_38 rfl rfl ?_
  refine wt_ishl 41 C dX3_linesAt_40 rfl ?_
  refine wt_ior 42 C dX3_linesAt_41 rfl ?_
  refine wt_istore_n 43 [(3, .int (v3 ||| ((1 : Int32) <<< (v4 &&& 31)))), (0, .ref (ux_ad X c0)), (1, .int v1), (2, .int v2), (4, .int v4)] C dX3_linesAt_42 rfl (by decide) rfl ?_
  refine wt_sub [1, 2, 3, 0, 4] rfl ?_
  exact wX3_linesAt_5b_43 C p0 hin hex0 h
def fX3_linesAt_5b (c0 : Nat) (v1 : Int32) (v2 : Int32) (v3 : Int32) (v4 : Int32) (N : ux_N) : Option ((Int32 × Int32) ⊕ (Int32)) :=
  if (N c0 1) ≤ v4 then (some (.inr (v3))) else (if ux_in v4 10 then (if (N (c0 + 1) (v4.toNatClampNeg)) = v1 then (fX3_linesAt_5b_36 c0 v1 v2 v3 v4 N) else (if ux_in v4 10 then (if (N (c0 + 2) (v4.toNatClampNeg)) = v1 then (fX3_linesAt_5b_36 c0 v1 v2 v3 v4 N) else (fX3_linesAt_5b_43 c0 v1 v2 v3 v4 N)) else none)) else none)
set_option maxHeartbeats 4000000 in
set_option maxRecDepth 20000 in
theorem wX3_linesAt_5b {X : ux_X} (C : ux_C X cX3_linesAt RX3 5 (some .int) 0 0 shC) {c0 : Nat} {v1 : Int32} {v2 : Int32} {v3 : Int32} {v4 : Int32} (p0 : is_X3 c0) {N : ux_N} {L : ux_L} {o : (Int32 × Int32) ⊕ (Int32)} (hin : ∀ s : Int32 × Int32, o = .inl s → ux_Wt X 5 5 [(0, .ref (ux_ad X c0)), (1, .int v1), (2, .int v2), (3, .int s.1), (4, .int s.2)] [] N L) (hex0 : ∀ e : Int32, o = .inr (e) → ux_Wt X 5 49 [(2, .int v2), (3, .int e)] [] N L) (h : fX3_linesAt_5b c0 v1 v2 v3 v4 N = some o) : ux_Wt X 5 5 [(0, .ref (ux_ad X c0)), (1, .int v1), (2, .int v2), (3, .int v3), (4, .int v4)] [] N L := by
  refine wt_iload 7 4 C dX3_linesAt_5 rfl rfl ?_
  refine wt_aload_n 8 0 C dX3_linesAt_7 rfl rfl ?_
  refine wt_getI 11 C kfX3_37 (p0).1 rfl dX3_linesAt_8 rfl ?_
  refine wt_icmp_ge 14 49 C dX3_linesAt_11 rfl (by decide) (fun q1 => ?_) (fun q1 => ?_)
  · have h := (if_pos q1).symm.trans h
    refine wt_sub [2, 3] rfl ?_
    exact hex0 _ (Option.some.inj h).symm
  · have h := (if_neg q1).symm.trans h
    refine wt_aload_n 15 0 C dX3_linesAt_14 rfl rfl ?_
    refine wt_getR 18 C kfX3_15 (p0).1 rfl dX3_linesAt_15 rfl ?_
    refine wt_iload 20 4 C dX3_linesAt_18 rfl rfl ?_
    obtain ⟨hi2, h⟩ := ux_guard h
    refine wt_iald 21 (v4.toNatClampNeg) C (p0).2.1 rfl hi2 dX3_linesAt_20 rfl ?_
    refine wt_iload_n 22 1 C dX3_linesAt_21 rfl rfl ?_
    refine wt_icmp_eq 25 36 C dX3_linesAt_22 rfl (by decide) (fun q3 => ?_) (fun q3 => ?_)
    · have h := (if_pos q3).symm.trans h
      exact wX3_linesAt_5b_36 C p0 hin hex0 h
    · have h := (if_neg q3).symm.trans h
      refine wt_aload_n 26 0 C dX3_linesAt_25 rfl rfl ?_
      refine wt_getR 29 C kfX3_19 (p0).1 rfl dX3_linesAt_26 rfl ?_
      refine wt_iload 31 4 C dX3_linesAt_29 rfl rfl ?_
      obtain ⟨hi4, h⟩ := ux_guard h
      refine wt_iald 32 (v4.toNatClampNeg) C (p0).2.2.1 rfl hi4 dX3_linesAt_31 rfl ?_
      refine wt_iload_n 33 1 C dX3_linesAt_32 rfl rfl ?_
      refine wt_icmp_ne 36 43 C dX3_linesAt_33 rfl (by decide) (fun q5 => ?_) (fun q5 => ?_)
      · have h := (if_neg q5).symm.trans h
        exact wX3_linesAt_5b_43 C p0 hin hex0 h
      · have h := (if_pos q5).symm.trans h
        exact wX3_linesAt_5b_36 C p0 hin hex0 h
def fX3_linesAt (c0 : Nat) (v1 : Int32) (v2 : Int32) (N : ux_N) : Option (Int32) :=
  (ux_lp (fun s : Int32 × Int32 => fX3_linesAt_5b c0 v1 v2 s.1 s.2 N) ux_fu ((0 : Int32), (0 : Int32))).bind (fun e8 => some (e8 &&& v2))
set_option maxHeartbeats 4000000 in
set_option maxRecDepth 20000 in
theorem wX3_linesAt {X : ux_X} (C : ux_C X cX3_linesAt RX3 5 (some .int) 0 0 shC) {c0 : Nat} {v1 : Int32} {v2 : Int32} (p0 : is_X3 c0) {N : ux_N} {L : ux_L} {o : Int32} (hq : ux_Qi X o N L) (h : fX3_linesAt c0 v1 v2 N = some o) : ux_Wt X 5 0 [(0, .ref (ux_ad X c0)), (1, .int v1), (2, .int v2)] [] N L := by
  refine wt_iconst 1 0 C dX3_linesAt_0 rfl (by decide) ?_
  refine wt_istore_n 2 [(3, .int (0 : Int32)), (0, .ref (ux_ad X c0)), (1, .int v1), (2, .int v2)] C dX3_linesAt_1 rfl (by decide) rfl ?_
  refine wt_iconst 3 0 C dX3_linesAt_2 rfl (by decide) ?_
  refine wt_istore 5 [(4, .int (0 : Int32)), (3, .int (0 : Int32)), (0, .ref (ux_ad X c0)), (1, .int v1), (2, .int v2)] C dX3_linesAt_3 rfl (by decide) rfl ?_
  obtain ⟨e1, hl2, h⟩ := Option.bind_eq_some_iff.mp h
  refine wt_sub [2, 3, 4, 1, 0] rfl ?_
  refine ux_loop (fun s : Int32 × Int32 => fX3_linesAt_5b c0 v1 v2 s.1 s.2 N) (fun s : Int32 × Int32 => ux_Wt X 5 5 [(0, .ref (ux_ad X c0)), (1, .int v1), (2, .int v2), (3, .int s.1), (4, .int s.2)] [] N L) (e := e1) ?_ hl2
  intro s3 o4 hb5 hi6 hx7
  refine wX3_linesAt_5b C p0 hi6 (fun x0 he => ?_) hb5
  · obtain ⟨e8, rfl⟩ : ∃ z, z = x0 := ⟨_, rfl⟩
    have h9 := hx7 _ he
    subst h9
    refine wt_iload_n 50 1 C dX3_linesAt_49 rfl rfl ?_
    refine wt_iload_n 51 0 C dX3_linesAt_50 rfl rfl ?_
    refine wt_iand 52 C dX3_linesAt_51 rfl ?_
    cases h
    exact wt_iret C hq dX3_linesAt_52
theorem mX3_linesAt {l : Launch} {G : ux_G} (hok : ux_ok G shC) {c0 : Nat} {v1 : Int32} {v2 : Int32} (p0 : is_X3 c0) {N : ux_N} {L : ux_L} {o : Int32} (h : fX3_linesAt c0 v1 v2 N = some o) : ux_Mi l G yX3_linesAt cX3_linesAt 5 (some .int) 0 0 [.ref (gad G c0), .int v1, .int v2] N L o N L :=
  ux_ofi shC hok (by decide +kernel) (Nat.le_of_ble_eq_true rfl) (fun X hG hl C hq => by subst hG; subst hl; exact wX3_linesAt C p0 hq h)
def fX3_linesNear_13b_62 (c0 : Nat) (v2 : Int32) (v3 : Int32) (v4 : Int32) (v5 : Int32) (N : ux_N) : Option ((Int32 × Int32) ⊕ (Int32)) :=
  some (.inl (v4, (v5 + 1)))
set_option maxHeartbeats 4000000 in
set_option maxRecDepth 20000 in
theorem wX3_linesNear_13b_62 {X : ux_X} (C : ux_C X cX3_linesNear RX3 6 (some .int) 1 24 shC) {c0 : Nat} {v2 : Int32} {v3 : Int32} {v4 : Int32} {v5 : Int32} (p0 : is_X3 c0) {N : ux_N} {L : ux_L} {o : (Int32 × Int32) ⊕ (Int32)} (hin : ∀ s : Int32 × Int32, o = .inl s → ux_Wt X 6 13 [(0, .ref (ux_ad X c0)), (2, .int v2), (3, .int v3), (4, .int s.1), (5, .int s.2)] [] N L) (hex0 : ∀ e : Int32, o = .inr (e) → ux_Wt X 6 68 [(4, .int e)] [] N L) (h : fX3_linesNear_13b_62 c0 v2 v3 v4 v5 N = some o) : ux_Wt X 6 62 [(0, .ref (ux_ad X c0)), (2, .int v2), (3, .int v3), (4, .int v4), (5, .int v5)] [] N L := by
  refine wt_iinc 65 4 [(5, .int (v5 + 1)), (0, .ref (ux_ad X c0)), (2, .int v2), (3, .int v3), (4, .int v4)] (v5 + 1) C dX3_linesNear_62 rfl rfl (by rfl) (by decide) rfl ?_
  refine wt_goto 13 C dX3_linesNear_65 (by decide) ?_
  refine wt_sub [1, 2, 3, 4, 0] rfl ?_
  exact hin _ (Option.some.inj h).symm
def fX3_linesNear_13b (c0 : Nat) (v2 : Int32) (v3 : Int32) (v4 : Int32) (v5 : Int32) (N : ux_N) : Option ((Int32 × Int32) ⊕ (Int32)) :=
  if (N c0 1) ≤ v5 then (some (.inr (v4))) else (if ((v3 >>> (v5 &&& 31)) &&& (1 : Int32)) = (1 : Int32) then (if ux_in v5 10 then ((fX3_linesAt c0 (N (c0 + 1) (v5.toNatClampNeg)) v2 N).bind (fun o4 => if ux_in v5 10 then ((fX3_linesAt c0 (N (c0 + 2) (v5.toNatClampNeg)) v2 N).bind (fun o7 => fX3_linesNear_13b_62 c0 v2 v3 (v4 ||| (o4 ||| o7)) v5 N)) else none)) else none) else (fX3_linesNear_13b_62 c0 v2 v3 v4 v5 N))
set_option maxHeartbeats 4000000 in
set_option maxRecDepth 20000 in
theorem wX3_linesNear_13b {X : ux_X} (C : ux_C X cX3_linesNear RX3 6 (some .int) 1 24 shC) {c0 : Nat} {v2 : Int32} {v3 : Int32} {v4 : Int32} {v5 : Int32} (p0 : is_X3 c0) {N : ux_N} {L : ux_L} {o : (Int32 × Int32) ⊕ (Int32)} (hin : ∀ s : Int32 × Int32, o = .inl s → ux_Wt X 6 13 [(0, .ref (ux_ad X c0)), (2, .int v2), (3, .int v3), (4, .int s.1), (5, .int s.2)] [] N L) (hex0 : ∀ e : Int32, o = .inr (e) → ux_Wt X 6 68 [(4, .int e)] [] N L) (h : fX3_linesNear_13b c0 v2 v3 v4 v5 N = some o) : ux_Wt X 6 13 [(0, .ref (ux_ad X c0)), (2, .int v2), (3, .int v3), (4, .int v4), (5, .int v5)] [] N L := by
  refine wt_iload 15 4 C dX3_linesNear_13 rfl rfl ?_
  refine wt_aload_n 16 0 C dX3_linesNear_15 rfl rfl ?_
  refine wt_getI 19 C kfX3_37 (p0).1 rfl dX3_linesNear_16 rfl ?_
  refine wt_icmp_ge 22 68 C dX3_linesNear_19 rfl (by decide) (fun q1 => ?_) (fun q1 => ?_)
  · have h := (if_pos q1).symm.trans h
    refine wt_sub [3] rfl ?_
    exact hex0 _ (Option.some.inj h).symm
  · have h := (if_neg q1).symm.trans h
    refine wt_iload_n 23 2 C dX3_linesNear_22 rfl rfl ?_
    refine wt_iload 25 4 C dX3_linesNear_23 rfl rfl ?_
    refine wt_ishr 26 C dX3_linesNear_25 rfl ?_
    refine wt_iconst 27 1 C dX3_linesNear_26 rfl (by decide) ?_
    refine wt_iand 28 C dX3_linesNear_27 rfl ?_
    refine wt_iconst 29 1 C dX3_linesNear_28 rfl (by decide) ?_
    refine wt_icmp_ne 32 62 C dX3_linesNear_29 rfl (by decide) (fun q2 => ?_) (fun q2 => ?_)
    · have h := (if_neg q2).symm.trans h
      exact wX3_linesNear_13b_62 C p0 hin hex0 h
    · have h := (if_pos q2).symm.trans h
      refine wt_iload 34 3 C dX3_linesNear_32 rfl rfl ?_
      refine wt_aload_n 35 0 C dX3_linesNear_34 rfl rfl ?_
      refine wt_aload_n 36 0 C dX3_linesNear_35 rfl rfl ?_
      refine wt_getR 39 C kfX3_15 (p0).1 rfl dX3_linesNear_36 rfl ?_
      refine wt_iload 41 4 C dX3_linesNear_39 rfl rfl ?_
      obtain ⟨hi3, h⟩ := ux_guard h
      refine wt_iald 42 (v5.toNatClampNeg) C (p0).2.1 rfl hi3 dX3_linesNear_41 rfl ?_
      refine wt_iload_n 43 1 C dX3_linesNear_42 rfl rfl ?_
      obtain ⟨o4, hc5, h⟩ := Option.bind_eq_some_iff.mp h
      refine wt_callVi 46 [.int v4] C kvX3_72 (p0).1 (mX3_linesAt (cx_ok C) (p0) hc5) rfl rfl ⟨Nat.le_of_ble_eq_true rfl, Nat.le_of_ble_eq_true rfl⟩ (Nat.le_of_ble_eq_true rfl) dX3_linesNear_43 rfl ?_
      refine wt_aload_n 47 0 C dX3_linesNear_46 rfl rfl ?_
      refine wt_aload_n 48 0 C dX3_linesNear_47 rfl rfl ?_
      refine wt_getR 51 C kfX3_19 (p0).1 rfl dX3_linesNear_48 rfl ?_
      refine wt_iload 53 4 C dX3_linesNear_51 rfl rfl ?_
      obtain ⟨hi6, h⟩ := ux_guard h
      refine wt_iald 54 (v5.toNatClampNeg) C (p0).2.2.1 rfl hi6 dX3_linesNear_53 rfl ?_
      refine wt_iload_n 55 1 C dX3_linesNear_54 rfl rfl ?_
      obtain ⟨o7, hc8, h⟩ := Option.bind_eq_some_iff.mp h
      refine wt_callVi 58 [.int o4, .int v4] C kvX3_72 (p0).1 (mX3_linesAt (cx_ok C) (p0) hc8) rfl rfl ⟨Nat.le_of_ble_eq_true rfl, Nat.le_of_ble_eq_true rfl⟩ (Nat.le_of_ble_eq_true rfl) dX3_linesNear_55 rfl ?_
      refine wt_ior 59 C dX3_linesNear_58 rfl ?_
      refine wt_ior 60 C dX3_linesNear_59 rfl ?_
      refine wt_istore 62 [(4, .int (v4 ||| (o4 ||| o7))), (0, .ref (ux_ad X c0)), (2, .int v2), (3, .int v3), (5, .int v5)] C dX3_linesNear_60 rfl (by decide) rfl ?_
      refine wt_sub [1, 2, 3, 0, 4] rfl ?_
      exact wX3_linesNear_13b_62 C p0 hin hex0 h
def fX3_linesNear (c0 : Nat) (v1 : Int32) (v2 : Int32) (N : ux_N) : Option (Int32) :=
  (fX3_linesAt c0 v1 v2 N).bind (fun o1 => (ux_lp (fun s : Int32 × Int32 => fX3_linesNear_13b c0 v2 o1 s.1 s.2 N) ux_fu ((0 : Int32), (0 : Int32))).bind (fun e10 => some e10))
set_option maxHeartbeats 4000000 in
set_option maxRecDepth 20000 in
theorem wX3_linesNear {X : ux_X} (C : ux_C X cX3_linesNear RX3 6 (some .int) 1 24 shC) {c0 : Nat} {v1 : Int32} {v2 : Int32} (p0 : is_X3 c0) {N : ux_N} {L : ux_L} {o : Int32} (hq : ux_Qi X o N L) (h : fX3_linesNear c0 v1 v2 N = some o) : ux_Wt X 6 0 [(0, .ref (ux_ad X c0)), (1, .int v1), (2, .int v2)] [] N L := by
  refine wt_aload_n 1 0 C dX3_linesNear_0 rfl rfl ?_
  refine wt_iload_n 2 1 C dX3_linesNear_1 rfl rfl ?_
  refine wt_iload_n 3 2 C dX3_linesNear_2 rfl rfl ?_
  obtain ⟨o1, hc2, h⟩ := Option.bind_eq_some_iff.mp h
  refine wt_callVi 6 [] C kvX3_72 (p0).1 (mX3_linesAt (cx_ok C) (p0) hc2) rfl rfl ⟨Nat.le_of_ble_eq_true rfl, Nat.le_of_ble_eq_true rfl⟩ (Nat.le_of_ble_eq_true rfl) dX3_linesNear_3 rfl ?_
  refine wt_istore_n 7 [(3, .int o1), (0, .ref (ux_ad X c0)), (1, .int v1), (2, .int v2)] C dX3_linesNear_6 rfl (by decide) rfl ?_
  refine wt_iconst 8 0 C dX3_linesNear_7 rfl (by decide) ?_
  refine wt_istore 10 [(4, .int (0 : Int32)), (3, .int o1), (0, .ref (ux_ad X c0)), (1, .int v1), (2, .int v2)] C dX3_linesNear_8 rfl (by decide) rfl ?_
  refine wt_iconst 11 0 C dX3_linesNear_10 rfl (by decide) ?_
  refine wt_istore 13 [(5, .int (0 : Int32)), (4, .int (0 : Int32)), (3, .int o1), (0, .ref (ux_ad X c0)), (1, .int v1), (2, .int v2)] C dX3_linesNear_11 rfl (by decide) rfl ?_
  obtain ⟨e3, hl4, h⟩ := Option.bind_eq_some_iff.mp h
  refine wt_sub [3, 5, 2, 1, 0] rfl ?_
  refine ux_loop (fun s : Int32 × Int32 => fX3_linesNear_13b c0 v2 o1 s.1 s.2 N) (fun s : Int32 × Int32 => ux_Wt X 6 13 [(0, .ref (ux_ad X c0)), (2, .int v2), (3, .int o1), (4, .int s.1), (5, .int s.2)] [] N L) (e := e3) ?_ hl4
  intro s5 o6 hb7 hi8 hx9
  refine wX3_linesNear_13b C p0 hi8 (fun x0 he => ?_) hb7
  · obtain ⟨e10, rfl⟩ : ∃ z, z = x0 := ⟨_, rfl⟩
    have h9 := hx9 _ he
    subst h9
    refine wt_iload 70 0 C dX3_linesNear_68 rfl rfl ?_
    cases h
    exact wt_iret C hq dX3_linesNear_70
theorem mX3_linesNear {l : Launch} {G : ux_G} (hok : ux_ok G shC) {c0 : Nat} {v1 : Int32} {v2 : Int32} (p0 : is_X3 c0) {N : ux_N} {L : ux_L} {o : Int32} (h : fX3_linesNear c0 v1 v2 N = some o) : ux_Mi l G yX3_linesNear cX3_linesNear 6 (some .int) 1 24 [.ref (gad G c0), .int v1, .int v2] N L o N L :=
  ux_ofi shC hok (by decide +kernel) (Nat.le_of_ble_eq_true rfl) (fun X hG hl C hq => by subst hG; subst hl; exact wX3_linesNear C p0 hq h)
def fX3_withoutLeast (v0 : Int32) : Option (Int32) :=
  some (v0 &&& (v0 - (1 : Int32)))
set_option maxHeartbeats 4000000 in
set_option maxRecDepth 20000 in
theorem wX3_withoutLeast {X : ux_X} (C : ux_C X cX3_withoutLeast RX3 1 (some .int) 0 0 shC) {v0 : Int32}  {N : ux_N} {L : ux_L} {o : Int32} (hq : ux_Qi X o N L) (h : fX3_withoutLeast v0 = some o) : ux_Wt X 1 0 [(0, .int v0)] [] N L := by
  refine wt_iload_n 1 0 C dX3_withoutLeast_0 rfl rfl ?_
  refine wt_iload_n 2 0 C dX3_withoutLeast_1 rfl rfl ?_
  refine wt_iconst 3 1 C dX3_withoutLeast_2 rfl (by decide) ?_
  refine wt_isub 4 C dX3_withoutLeast_3 rfl ?_
  refine wt_iand 5 C dX3_withoutLeast_4 rfl ?_
  cases h
  exact wt_iret C hq dX3_withoutLeast_5
theorem mX3_withoutLeast {l : Launch} {G : ux_G} (hok : ux_ok G shC) {v0 : Int32}  {N : ux_N} {L : ux_L} {o : Int32} (h : fX3_withoutLeast v0 = some o) : ux_Mi l G yX3_withoutLeast cX3_withoutLeast 1 (some .int) 0 0 [.int v0] N L o N L :=
  ux_ofi shC hok (by decide +kernel) (Nat.le_of_ble_eq_true rfl) (fun X hG hl C hq => by subst hG; subst hl; exact wX3_withoutLeast C  hq h)
def fX3_linesFor (c0 : Nat) (v1 : Int32) (v2 : Int32) (v3 : Int32) (N : ux_N) : Option (Int32) :=
  (fX3_hasPlace c0 v1 v2 N).bind (fun o1 => if o1 = 0 then (some (0 : Int32)) else (if v1 = (0 : Int32) then (some (((1 : Int32) <<< (v2 &&& 31)) &&& v3)) else (if v1 = (1 : Int32) then ((fX3_linesBeside c0 v2 N).bind (fun o6 => some (o6 &&& v3))) else (if v1 = (2 : Int32) then ((fX3_linesAt c0 v2 v3 N).bind (fun o9 => some o9)) else (if v1 = (3 : Int32) then ((fX3_linesNear c0 v2 v3 N).bind (fun o12 => some o12)) else (if v1 = (4 : Int32) then ((fX3_linesAt c0 v2 v3 N).bind (fun o15 => (fX3_withoutLeast o15).bind (fun o17 => some o17))) else (some (0 : Int32))))))))
set_option maxHeartbeats 4000000 in
set_option maxRecDepth 20000 in
theorem wX3_linesFor {X : ux_X} (C : ux_C X cX3_linesFor RX3 4 (some .int) 2 49 shC) {c0 : Nat} {v1 : Int32} {v2 : Int32} {v3 : Int32} (p0 : is_X3 c0) {N : ux_N} {L : ux_L} {o : Int32} (hq : ux_Qi X o N L) (h : fX3_linesFor c0 v1 v2 v3 N = some o) : ux_Wt X 4 0 [(0, .ref (ux_ad X c0)), (1, .int v1), (2, .int v2), (3, .int v3)] [] N L := by
  refine wt_aload_n 1 0 C dX3_linesFor_0 rfl rfl ?_
  refine wt_iload_n 2 1 C dX3_linesFor_1 rfl rfl ?_
  refine wt_iload_n 3 2 C dX3_linesFor_2 rfl rfl ?_
  obtain ⟨o1, hc2, h⟩ := Option.bind_eq_some_iff.mp h
  refine wt_callVi 6 [] C kvX3_65 (p0).1 (mX3_hasPlace (cx_ok C) (p0) hc2) rfl rfl ⟨Nat.le_of_ble_eq_true rfl, Nat.le_of_ble_eq_true rfl⟩ (Nat.le_of_ble_eq_true rfl) dX3_linesFor_3 rfl ?_
  refine wt_if_ne 9 11 C dX3_linesFor_6 rfl (by decide) (fun q3 => ?_) (fun q3 => ?_)
  · have h := (if_neg q3).symm.trans h
    refine wt_iload_n 12 1 C dX3_linesFor_11 rfl rfl ?_
    by_cases q4 : v1 = (0 : Int32)
    · have h := (if_pos q4).symm.trans h
      refine wt_tin 48 (0) C dX3_linesFor_12 q4 (by decide) (by decide) rfl (by decide) ?_
      refine wt_iconst 49 1 C dX3_linesFor_48 rfl (by decide) ?_
      refine wt_iload_n 50 2 C dX3_linesFor_49 rfl rfl ?_
      refine wt_ishl 51 C dX3_linesFor_50 rfl ?_
      refine wt_iload_n 52 3 C dX3_linesFor_51 rfl rfl ?_
      refine wt_iand 53 C dX3_linesFor_52 rfl ?_
      cases h
      exact wt_iret C hq dX3_linesFor_53
    have h := (if_neg q4).symm.trans h
    by_cases q5 : v1 = (1 : Int32)
    · have h := (if_pos q5).symm.trans h
      refine wt_tin 54 (1) C dX3_linesFor_12 q5 (by decide) (by decide) rfl (by decide) ?_
      refine wt_aload_n 55 0 C dX3_linesFor_54 rfl rfl ?_
      refine wt_iload_n 56 2 C dX3_linesFor_55 rfl rfl ?_
      obtain ⟨o6, hc7, h⟩ := Option.bind_eq_some_iff.mp h
      refine wt_callVi 59 [] C kvX3_69 (p0).1 (mX3_linesBeside (cx_ok C) (p0) hc7) rfl rfl ⟨Nat.le_of_ble_eq_true rfl, Nat.le_of_ble_eq_true rfl⟩ (Nat.le_of_ble_eq_true rfl) dX3_linesFor_56 rfl ?_
      refine wt_iload_n 60 3 C dX3_linesFor_59 rfl rfl ?_
      refine wt_iand 61 C dX3_linesFor_60 rfl ?_
      cases h
      exact wt_iret C hq dX3_linesFor_61
    have h := (if_neg q5).symm.trans h
    by_cases q8 : v1 = (2 : Int32)
    · have h := (if_pos q8).symm.trans h
      refine wt_tin 62 (2) C dX3_linesFor_12 q8 (by decide) (by decide) rfl (by decide) ?_
      refine wt_aload_n 63 0 C dX3_linesFor_62 rfl rfl ?_
      refine wt_iload_n 64 2 C dX3_linesFor_63 rfl rfl ?_
      refine wt_iload_n 65 3 C dX3_linesFor_64 rfl rfl ?_
      obtain ⟨o9, hc10, h⟩ := Option.bind_eq_some_iff.mp h
      refine wt_callVi 68 [] C kvX3_72 (p0).1 (mX3_linesAt (cx_ok C) (p0) hc10) rfl rfl ⟨Nat.le_of_ble_eq_true rfl, Nat.le_of_ble_eq_true rfl⟩ (Nat.le_of_ble_eq_true rfl) dX3_linesFor_65 rfl ?_
      cases h
      exact wt_iret C hq dX3_linesFor_68
    have h := (if_neg q8).symm.trans h
    by_cases q11 : v1 = (3 : Int32)
    · have h := (if_pos q11).symm.trans h
      refine wt_tin 69 (3) C dX3_linesFor_12 q11 (by decide) (by decide) rfl (by decide) ?_
      refine wt_aload_n 70 0 C dX3_linesFor_69 rfl rfl ?_
      refine wt_iload_n 71 2 C dX3_linesFor_70 rfl rfl ?_
      refine wt_iload_n 72 3 C dX3_linesFor_71 rfl rfl ?_
      obtain ⟨o12, hc13, h⟩ := Option.bind_eq_some_iff.mp h
      refine wt_callVi 75 [] C kvX3_75 (p0).1 (mX3_linesNear (cx_ok C) (p0) hc13) rfl rfl ⟨Nat.le_of_ble_eq_true rfl, Nat.le_of_ble_eq_true rfl⟩ (Nat.le_of_ble_eq_true rfl) dX3_linesFor_72 rfl ?_
      cases h
      exact wt_iret C hq dX3_linesFor_75
    have h := (if_neg q11).symm.trans h
    by_cases q14 : v1 = (4 : Int32)
    · have h := (if_pos q14).symm.trans h
      refine wt_tin 76 (4) C dX3_linesFor_12 q14 (by decide) (by decide) rfl (by decide) ?_
      refine wt_aload_n 77 0 C dX3_linesFor_76 rfl rfl ?_
      refine wt_iload_n 78 2 C dX3_linesFor_77 rfl rfl ?_
      refine wt_iload_n 79 3 C dX3_linesFor_78 rfl rfl ?_
      obtain ⟨o15, hc16, h⟩ := Option.bind_eq_some_iff.mp h
      refine wt_callVi 82 [] C kvX3_72 (p0).1 (mX3_linesAt (cx_ok C) (p0) hc16) rfl rfl ⟨Nat.le_of_ble_eq_true rfl, Nat.le_of_ble_eq_true rfl⟩ (Nat.le_of_ble_eq_true rfl) dX3_linesFor_79 rfl ?_
      obtain ⟨o17, hc18, h⟩ := Option.bind_eq_some_iff.mp h
      refine wt_callSi 85 [] C ksX3_78 (mX3_withoutLeast (cx_ok C)  hc18) rfl rfl ⟨Nat.le_of_ble_eq_true rfl, Nat.le_of_ble_eq_true rfl⟩ (Nat.le_of_ble_eq_true rfl) dX3_linesFor_82 rfl ?_
      cases h
      exact wt_iret C hq dX3_linesFor_85
    have h := (if_neg q14).symm.trans h
    refine wt_tout 86 C dX3_linesFor_12 (by have z0 := lv_neT q4 (show (0 : Int32).toInt = 0 from by decide); have z1 := lv_neT q5 (show (1 : Int32).toInt = 1 from by decide); have z2 := lv_neT q8 (show (2 : Int32).toInt = 2 from by decide); have z3 := lv_neT q11 (show (3 : Int32).toInt = 3 from by decide); have z4 := lv_neT q14 (show (4 : Int32).toInt = 4 from by decide); omega) (by decide) ?_
    refine wt_iconst 87 0 C dX3_linesFor_86 rfl (by decide) ?_
    cases h
    exact wt_iret C hq dX3_linesFor_87
  · have h := (if_pos q3).symm.trans h
    refine wt_iconst 10 0 C dX3_linesFor_9 rfl (by decide) ?_
    cases h
    exact wt_iret C hq dX3_linesFor_10
theorem mX3_linesFor {l : Launch} {G : ux_G} (hok : ux_ok G shC) {c0 : Nat} {v1 : Int32} {v2 : Int32} {v3 : Int32} (p0 : is_X3 c0) {N : ux_N} {L : ux_L} {o : Int32} (h : fX3_linesFor c0 v1 v2 v3 N = some o) : ux_Mi l G yX3_linesFor cX3_linesFor 4 (some .int) 2 49 [.ref (gad G c0), .int v1, .int v2, .int v3] N L o N L :=
  ux_ofi shC hok (by decide +kernel) (Nat.le_of_ble_eq_true rfl) (fun X hG hl C hq => by subst hG; subst hl; exact wX3_linesFor C p0 hq h)
def fX3_priceOf_4b_30 (c0 : Nat) (v1 : Int32) (v2 : Int32) (v3 : Int32) (N : ux_N) : Option ((Int32 × Int32) ⊕ (Int32)) :=
  some (.inl (v2, (v3 + 1)))
set_option maxHeartbeats 4000000 in
set_option maxRecDepth 20000 in
theorem wX3_priceOf_4b_30 {X : ux_X} (C : ux_C X cX3_priceOf RX3 4 (some .int) 0 0 shC) {c0 : Nat} {v1 : Int32} {v2 : Int32} {v3 : Int32} (p0 : is_X3 c0) {N : ux_N} {L : ux_L} {o : (Int32 × Int32) ⊕ (Int32)} (hin : ∀ s : Int32 × Int32, o = .inl s → ux_Wt X 4 4 [(0, .ref (ux_ad X c0)), (1, .int v1), (2, .int s.1), (3, .int s.2)] [] N L) (hex0 : ∀ e : Int32, o = .inr (e) → ux_Wt X 4 36 [(2, .int e)] [] N L) (h : fX3_priceOf_4b_30 c0 v1 v2 v3 N = some o) : ux_Wt X 4 30 [(0, .ref (ux_ad X c0)), (1, .int v1), (2, .int v2), (3, .int v3)] [] N L := by
  refine wt_iinc 33 3 [(3, .int (v3 + 1)), (0, .ref (ux_ad X c0)), (1, .int v1), (2, .int v2)] (v3 + 1) C dX3_priceOf_30 rfl rfl (by rfl) (by decide) rfl ?_
  refine wt_goto 4 C dX3_priceOf_33 (by decide) ?_
  refine wt_sub [1, 2, 3, 0] rfl ?_
  exact hin _ (Option.some.inj h).symm
def fX3_priceOf_4b (c0 : Nat) (v1 : Int32) (v2 : Int32) (v3 : Int32) (N : ux_N) : Option ((Int32 × Int32) ⊕ (Int32)) :=
  if (N c0 3) ≤ v3 then (some (.inr (v2))) else (if ((v1 >>> (v3 &&& 31)) &&& (1 : Int32)) = (1 : Int32) then (if ux_in v3 6 then (fX3_priceOf_4b_30 c0 v1 (v2 + (N (c0 + 7) (v3.toNatClampNeg))) v3 N) else none) else (fX3_priceOf_4b_30 c0 v1 v2 v3 N))
set_option maxHeartbeats 4000000 in
set_option maxRecDepth 20000 in
theorem wX3_priceOf_4b {X : ux_X} (C : ux_C X cX3_priceOf RX3 4 (some .int) 0 0 shC) {c0 : Nat} {v1 : Int32} {v2 : Int32} {v3 : Int32} (p0 : is_X3 c0) {N : ux_N} {L : ux_L} {o : (Int32 × Int32) ⊕ (Int32)} (hin : ∀ s : Int32 × Int32, o = .inl s → ux_Wt X 4 4 [(0, .ref (ux_ad X c0)), (1, .int v1), (2, .int s.1), (3, .int s.2)] [] N L) (hex0 : ∀ e : Int32, o = .inr (e) → ux_Wt X 4 36 [(2, .int e)] [] N L) (h : fX3_priceOf_4b c0 v1 v2 v3 N = some o) : ux_Wt X 4 4 [(0, .ref (ux_ad X c0)), (1, .int v1), (2, .int v2), (3, .int v3)] [] N L := by
  refine wt_iload_n 5 3 C dX3_priceOf_4 rfl rfl ?_
  refine wt_aload_n 6 0 C dX3_priceOf_5 rfl rfl ?_
  refine wt_getI 9 C kfX3_43 (p0).1 rfl dX3_priceOf_6 rfl ?_
  refine wt_icmp_ge 12 36 C dX3_priceOf_9 rfl (by decide) (fun q1 => ?_) (fun q1 => ?_)
  · have h := (if_pos q1).symm.trans h
    refine wt_sub [2] rfl ?_
    exact hex0 _ (Option.some.inj h).symm
  · have h := (if_neg q1).symm.trans h
    refine wt_iload_n 13 1 C dX3_priceOf_12 rfl rfl ?_
    refine wt_iload_n 14 3 C dX3_priceOf_13 rfl rfl ?_
    refine wt_ishr 15 C dX3_priceOf_14 rfl ?_
    refine wt_iconst 16 1 C dX3_priceOf_15 rfl (by decide) ?_
    refine wt_iand 17 C dX3_priceOf_16 rfl ?_
    refine wt_iconst 18 1 C dX3_priceOf_17 rfl (by decide) ?_
    refine wt_icmp_ne 21 30 C dX3_priceOf_18 rfl (by decide) (fun q2 => ?_) (fun q2 => ?_)
    · have h := (if_neg q2).symm.trans h
      exact wX3_priceOf_4b_30 C p0 hin hex0 h
    · have h := (if_pos q2).symm.trans h
      refine wt_iload_n 22 2 C dX3_priceOf_21 rfl rfl ?_
      refine wt_aload_n 23 0 C dX3_priceOf_22 rfl rfl ?_
      refine wt_getR 26 C kfX3_34 (p0).1 rfl dX3_priceOf_23 rfl ?_
      refine wt_iload_n 27 3 C dX3_priceOf_26 rfl rfl ?_
      obtain ⟨hi3, h⟩ := ux_guard h
      refine wt_iald 28 (v3.toNatClampNeg) C (p0).2.2.2.2.2.2.2 rfl hi3 dX3_priceOf_27 rfl ?_
      refine wt_iadd 29 C dX3_priceOf_28 rfl ?_
      refine wt_istore_n 30 [(2, .int (v2 + (N (c0 + 7) (v3.toNatClampNeg)))), (0, .ref (ux_ad X c0)), (1, .int v1), (3, .int v3)] C dX3_priceOf_29 rfl (by decide) rfl ?_
      refine wt_sub [1, 2, 0, 3] rfl ?_
      exact wX3_priceOf_4b_30 C p0 hin hex0 h
def fX3_priceOf (c0 : Nat) (v1 : Int32) (N : ux_N) : Option (Int32) :=
  (ux_lp (fun s : Int32 × Int32 => fX3_priceOf_4b c0 v1 s.1 s.2 N) ux_fu ((0 : Int32), (0 : Int32))).bind (fun e8 => some e8)
set_option maxHeartbeats 4000000 in
set_option maxRecDepth 20000 in
theorem wX3_priceOf {X : ux_X} (C : ux_C X cX3_priceOf RX3 4 (some .int) 0 0 shC) {c0 : Nat} {v1 : Int32} (p0 : is_X3 c0) {N : ux_N} {L : ux_L} {o : Int32} (hq : ux_Qi X o N L) (h : fX3_priceOf c0 v1 N = some o) : ux_Wt X 4 0 [(0, .ref (ux_ad X c0)), (1, .int v1)] [] N L := by
  refine wt_iconst 1 0 C dX3_priceOf_0 rfl (by decide) ?_
  refine wt_istore_n 2 [(2, .int (0 : Int32)), (0, .ref (ux_ad X c0)), (1, .int v1)] C dX3_priceOf_1 rfl (by decide) rfl ?_
  refine wt_iconst 3 0 C dX3_priceOf_2 rfl (by decide) ?_
  refine wt_istore_n 4 [(3, .int (0 : Int32)), (2, .int (0 : Int32)), (0, .ref (ux_ad X c0)), (1, .int v1)] C dX3_priceOf_3 rfl (by decide) rfl ?_
  obtain ⟨e1, hl2, h⟩ := Option.bind_eq_some_iff.mp h
  refine wt_sub [2, 3, 1, 0] rfl ?_
  refine ux_loop (fun s : Int32 × Int32 => fX3_priceOf_4b c0 v1 s.1 s.2 N) (fun s : Int32 × Int32 => ux_Wt X 4 4 [(0, .ref (ux_ad X c0)), (1, .int v1), (2, .int s.1), (3, .int s.2)] [] N L) (e := e1) ?_ hl2
  intro s3 o4 hb5 hi6 hx7
  refine wX3_priceOf_4b C p0 hi6 (fun x0 he => ?_) hb5
  · obtain ⟨e8, rfl⟩ : ∃ z, z = x0 := ⟨_, rfl⟩
    have h9 := hx7 _ he
    subst h9
    refine wt_iload_n 37 0 C dX3_priceOf_36 rfl rfl ?_
    cases h
    exact wt_iret C hq dX3_priceOf_37
theorem mX3_priceOf {l : Launch} {G : ux_G} (hok : ux_ok G shC) {c0 : Nat} {v1 : Int32} (p0 : is_X3 c0) {N : ux_N} {L : ux_L} {o : Int32} (h : fX3_priceOf c0 v1 N = some o) : ux_Mi l G yX3_priceOf cX3_priceOf 4 (some .int) 0 0 [.ref (gad G c0), .int v1] N L o N L :=
  ux_ofi shC hok (by decide +kernel) (Nat.le_of_ble_eq_true rfl) (fun X hG hl C hq => by subst hG; subst hl; exact wX3_priceOf C p0 hq h)
end
section
theorem dX8_startFrom_0 : decode cX8_startFrom 0 = .ok (.aload_n 0, 1) := by decide +kernel
theorem dX8_startFrom_1 : decode cX8_startFrom 1 = .ok (.aload_n 1, 1) := by decide +kernel
theorem dX8_startFrom_2 : decode cX8_startFrom 2 = .ok (.getfield 18, 3) := by decide +kernel
theorem dX8_startFrom_5 : decode cX8_startFrom 5 = .ok (.putfield 24, 3) := by decide +kernel
theorem dX8_startFrom_8 : decode cX8_startFrom 8 = .ok (.aload_n 0, 1) := by decide +kernel
theorem dX8_startFrom_9 : decode cX8_startFrom 9 = .ok (.iconst 0, 1) := by decide +kernel
theorem dX8_startFrom_10 : decode cX8_startFrom 10 = .ok (.putfield 25, 3) := by decide +kernel
theorem dX8_startFrom_13 : decode cX8_startFrom 13 = .ok (.aload_n 0, 1) := by decide +kernel
theorem dX8_startFrom_14 : decode cX8_startFrom 14 = .ok (.iconst 0, 1) := by decide +kernel
theorem dX8_startFrom_15 : decode cX8_startFrom 15 = .ok (.putfield 28, 3) := by decide +kernel
theorem dX8_startFrom_18 : decode cX8_startFrom 18 = .ok (.aload_n 1, 1) := by decide +kernel
theorem dX8_startFrom_19 : decode cX8_startFrom 19 = .ok (.getfield 31, 3) := by decide +kernel
theorem dX8_startFrom_22 : decode cX8_startFrom 22 = .ok (.iconst 0, 1) := by decide +kernel
theorem dX8_startFrom_23 : decode cX8_startFrom 23 = .ok (.aload_n 0, 1) := by decide +kernel
theorem dX8_startFrom_24 : decode cX8_startFrom 24 = .ok (.getfield 9, 3) := by decide +kernel
theorem dX8_startFrom_27 : decode cX8_startFrom 27 = .ok (.iconst 0, 1) := by decide +kernel
theorem dX8_startFrom_28 : decode cX8_startFrom 28 = .ok (.bipush 9, 2) := by decide +kernel
theorem dX8_startFrom_30 : decode cX8_startFrom 30 = .ok (.invokestatic 34, 3) := by decide +kernel
theorem dX8_startFrom_33 : decode cX8_startFrom 33 = .ok (.aload_n 1, 1) := by decide +kernel
theorem dX8_startFrom_34 : decode cX8_startFrom 34 = .ok (.getfield 40, 3) := by decide +kernel
theorem dX8_startFrom_37 : decode cX8_startFrom 37 = .ok (.iconst 0, 1) := by decide +kernel
theorem dX8_startFrom_38 : decode cX8_startFrom 38 = .ok (.aload_n 0, 1) := by decide +kernel
theorem dX8_startFrom_39 : decode cX8_startFrom 39 = .ok (.getfield 15, 3) := by decide +kernel
theorem dX8_startFrom_42 : decode cX8_startFrom 42 = .ok (.iconst 0, 1) := by decide +kernel
theorem dX8_startFrom_43 : decode cX8_startFrom 43 = .ok (.bipush 9, 2) := by decide +kernel
theorem dX8_startFrom_45 : decode cX8_startFrom 45 = .ok (.invokestatic 34, 3) := by decide +kernel
theorem dX8_startFrom_48 : decode cX8_startFrom 48 = .ok (.return_, 1) := by decide +kernel
theorem dX8_copyFrom_0 : decode cX8_copyFrom 0 = .ok (.aload_n 0, 1) := by decide +kernel
theorem dX8_copyFrom_1 : decode cX8_copyFrom 1 = .ok (.aload_n 1, 1) := by decide +kernel
theorem dX8_copyFrom_2 : decode cX8_copyFrom 2 = .ok (.getfield 24, 3) := by decide +kernel
theorem dX8_copyFrom_5 : decode cX8_copyFrom 5 = .ok (.putfield 24, 3) := by decide +kernel
theorem dX8_copyFrom_8 : decode cX8_copyFrom 8 = .ok (.aload_n 0, 1) := by decide +kernel
theorem dX8_copyFrom_9 : decode cX8_copyFrom 9 = .ok (.aload_n 1, 1) := by decide +kernel
theorem dX8_copyFrom_10 : decode cX8_copyFrom 10 = .ok (.getfield 25, 3) := by decide +kernel
theorem dX8_copyFrom_13 : decode cX8_copyFrom 13 = .ok (.putfield 25, 3) := by decide +kernel
theorem dX8_copyFrom_16 : decode cX8_copyFrom 16 = .ok (.aload_n 0, 1) := by decide +kernel
theorem dX8_copyFrom_17 : decode cX8_copyFrom 17 = .ok (.aload_n 1, 1) := by decide +kernel
theorem dX8_copyFrom_18 : decode cX8_copyFrom 18 = .ok (.getfield 28, 3) := by decide +kernel
theorem dX8_copyFrom_21 : decode cX8_copyFrom 21 = .ok (.putfield 28, 3) := by decide +kernel
theorem dX8_copyFrom_24 : decode cX8_copyFrom 24 = .ok (.aload_n 1, 1) := by decide +kernel
theorem dX8_copyFrom_25 : decode cX8_copyFrom 25 = .ok (.getfield 9, 3) := by decide +kernel
theorem dX8_copyFrom_28 : decode cX8_copyFrom 28 = .ok (.iconst 0, 1) := by decide +kernel
theorem dX8_copyFrom_29 : decode cX8_copyFrom 29 = .ok (.aload_n 0, 1) := by decide +kernel
theorem dX8_copyFrom_30 : decode cX8_copyFrom 30 = .ok (.getfield 9, 3) := by decide +kernel
theorem dX8_copyFrom_33 : decode cX8_copyFrom 33 = .ok (.iconst 0, 1) := by decide +kernel
theorem dX8_copyFrom_34 : decode cX8_copyFrom 34 = .ok (.bipush 9, 2) := by decide +kernel
theorem dX8_copyFrom_36 : decode cX8_copyFrom 36 = .ok (.invokestatic 34, 3) := by decide +kernel
theorem dX8_copyFrom_39 : decode cX8_copyFrom 39 = .ok (.aload_n 1, 1) := by decide +kernel
theorem dX8_copyFrom_40 : decode cX8_copyFrom 40 = .ok (.getfield 15, 3) := by decide +kernel
theorem dX8_copyFrom_43 : decode cX8_copyFrom 43 = .ok (.iconst 0, 1) := by decide +kernel
theorem dX8_copyFrom_44 : decode cX8_copyFrom 44 = .ok (.aload_n 0, 1) := by decide +kernel
theorem dX8_copyFrom_45 : decode cX8_copyFrom 45 = .ok (.getfield 15, 3) := by decide +kernel
theorem dX8_copyFrom_48 : decode cX8_copyFrom 48 = .ok (.iconst 0, 1) := by decide +kernel
theorem dX8_copyFrom_49 : decode cX8_copyFrom 49 = .ok (.bipush 9, 2) := by decide +kernel
theorem dX8_copyFrom_51 : decode cX8_copyFrom 51 = .ok (.invokestatic 34, 3) := by decide +kernel
theorem dX8_copyFrom_54 : decode cX8_copyFrom 54 = .ok (.return_, 1) := by decide +kernel
theorem dX8_addMeter_0 : decode cX8_addMeter 0 = .ok (.aload_n 0, 1) := by decide +kernel
theorem dX8_addMeter_1 : decode cX8_addMeter 1 = .ok (.getfield 24, 3) := by decide +kernel
theorem dX8_addMeter_4 : decode cX8_addMeter 4 = .ok (.bipush 9, 2) := by decide +kernel
theorem dX8_addMeter_6 : decode cX8_addMeter 6 = .ok (.if_icmp .lt 5, 3) := by decide +kernel
theorem dX8_addMeter_9 : decode cX8_addMeter 9 = .ok (.iconst (-1), 1) := by decide +kernel
theorem dX8_addMeter_10 : decode cX8_addMeter 10 = .ok (.ireturn, 1) := by decide +kernel
theorem dX8_addMeter_11 : decode cX8_addMeter 11 = .ok (.aload_n 0, 1) := by decide +kernel
theorem dX8_addMeter_12 : decode cX8_addMeter 12 = .ok (.getfield 9, 3) := by decide +kernel
theorem dX8_addMeter_15 : decode cX8_addMeter 15 = .ok (.aload_n 0, 1) := by decide +kernel
theorem dX8_addMeter_16 : decode cX8_addMeter 16 = .ok (.getfield 24, 3) := by decide +kernel
theorem dX8_addMeter_19 : decode cX8_addMeter 19 = .ok (.iload_n 1, 1) := by decide +kernel
theorem dX8_addMeter_20 : decode cX8_addMeter 20 = .ok (.iastore, 1) := by decide +kernel
theorem dX8_addMeter_21 : decode cX8_addMeter 21 = .ok (.aload_n 0, 1) := by decide +kernel
theorem dX8_addMeter_22 : decode cX8_addMeter 22 = .ok (.getfield 15, 3) := by decide +kernel
theorem dX8_addMeter_25 : decode cX8_addMeter 25 = .ok (.aload_n 0, 1) := by decide +kernel
theorem dX8_addMeter_26 : decode cX8_addMeter 26 = .ok (.getfield 24, 3) := by decide +kernel
theorem dX8_addMeter_29 : decode cX8_addMeter 29 = .ok (.iload_n 2, 1) := by decide +kernel
theorem dX8_addMeter_30 : decode cX8_addMeter 30 = .ok (.iastore, 1) := by decide +kernel
theorem dX8_addMeter_31 : decode cX8_addMeter 31 = .ok (.aload_n 0, 1) := by decide +kernel
theorem dX8_addMeter_32 : decode cX8_addMeter 32 = .ok (.dup, 1) := by decide +kernel
theorem dX8_addMeter_33 : decode cX8_addMeter 33 = .ok (.getfield 24, 3) := by decide +kernel
theorem dX8_addMeter_36 : decode cX8_addMeter 36 = .ok (.iconst 1, 1) := by decide +kernel
theorem dX8_addMeter_37 : decode cX8_addMeter 37 = .ok (.iadd, 1) := by decide +kernel
theorem dX8_addMeter_38 : decode cX8_addMeter 38 = .ok (.putfield 24, 3) := by decide +kernel
theorem dX8_addMeter_41 : decode cX8_addMeter 41 = .ok (.aload_n 0, 1) := by decide +kernel
theorem dX8_addMeter_42 : decode cX8_addMeter 42 = .ok (.getfield 24, 3) := by decide +kernel
theorem dX8_addMeter_45 : decode cX8_addMeter 45 = .ok (.iconst 1, 1) := by decide +kernel
theorem dX8_addMeter_46 : decode cX8_addMeter 46 = .ok (.isub, 1) := by decide +kernel
theorem dX8_addMeter_47 : decode cX8_addMeter 47 = .ok (.ireturn, 1) := by decide +kernel
theorem dX8_wholeMeters_0 : decode cX8_wholeMeters 0 = .ok (.iconst 1, 1) := by decide +kernel
theorem dX8_wholeMeters_1 : decode cX8_wholeMeters 1 = .ok (.aload_n 0, 1) := by decide +kernel
theorem dX8_wholeMeters_2 : decode cX8_wholeMeters 2 = .ok (.getfield 24, 3) := by decide +kernel
theorem dX8_wholeMeters_5 : decode cX8_wholeMeters 5 = .ok (.ishl, 1) := by decide +kernel
theorem dX8_wholeMeters_6 : decode cX8_wholeMeters 6 = .ok (.iconst 1, 1) := by decide +kernel
theorem dX8_wholeMeters_7 : decode cX8_wholeMeters 7 = .ok (.isub, 1) := by decide +kernel
theorem dX8_wholeMeters_8 : decode cX8_wholeMeters 8 = .ok (.aload_n 0, 1) := by decide +kernel
theorem dX8_wholeMeters_9 : decode cX8_wholeMeters 9 = .ok (.getfield 25, 3) := by decide +kernel
theorem dX8_wholeMeters_12 : decode cX8_wholeMeters 12 = .ok (.iconst (-1), 1) := by decide +kernel
theorem dX8_wholeMeters_13 : decode cX8_wholeMeters 13 = .ok (.ixor, 1) := by decide +kernel
theorem dX8_wholeMeters_14 : decode cX8_wholeMeters 14 = .ok (.iand, 1) := by decide +kernel
theorem dX8_wholeMeters_15 : decode cX8_wholeMeters 15 = .ok (.ireturn, 1) := by decide +kernel
theorem kfX8_18 : ux_FL RX8 18 3 2 := ⟨RX3, TX3, 11, rfl, lay_X3, by decide, tw_115⟩
theorem kpX8_24 : ux_FP RX8 24 8 0 .int := ⟨RX8, TX8, 5, rfl, lay_X8, by decide, tw_204, tyX8, tyX8_ok, nmX8, rfl, by decide +kernel⟩
theorem kpX8_25 : ux_FP RX8 25 8 1 .int := ⟨RX8, TX8, 5, rfl, lay_X8, by decide, tw_208, tyX8, tyX8_ok, nmX8, rfl, by decide +kernel⟩
theorem kpX8_28 : ux_FP RX8 28 8 2 .int := ⟨RX8, TX8, 5, rfl, lay_X8, by decide, tw_212, tyX8, tyX8_ok, nmX8, rfl, by decide +kernel⟩
theorem kfX8_31 : ux_FL RX8 31 3 6 := ⟨RX3, TX3, 11, rfl, lay_X3, by decide, tw_129⟩
theorem kfX8_9 : ux_FL RX8 9 8 3 := ⟨RX8, TX8, 5, rfl, lay_X8, by decide, tw_216⟩
theorem kaX8_34 : ux_LA RX8 34 := ⟨tw_725, tw_464, tw_463, tw_85⟩
theorem kfX8_40 : ux_FL RX8 40 3 7 := ⟨RX3, TX3, 11, rfl, lay_X3, by decide, tw_131⟩
theorem kfX8_15 : ux_FL RX8 15 8 4 := ⟨RX8, TX8, 5, rfl, lay_X8, by decide, tw_219⟩
theorem kfX8_24 : ux_FL RX8 24 8 0 := ⟨RX8, TX8, 5, rfl, lay_X8, by decide, tw_204⟩
theorem kfX8_25 : ux_FL RX8 25 8 1 := ⟨RX8, TX8, 5, rfl, lay_X8, by decide, tw_208⟩
theorem kfX8_28 : ux_FL RX8 28 8 2 := ⟨RX8, TX8, 5, rfl, lay_X8, by decide, tw_212⟩
def fX8_startFrom (c0 : Nat) (c1 : Nat) (N : ux_N) : Option (ux_N) :=
  some (ux_cpN (ux_cpN (ux_u (ux_u (ux_u N c0 0 (N c1 2)) c0 1 (0 : Int32)) c0 2 (0 : Int32)) (c1 + 3) (c0 + 1) 0 0 9) (c1 + 4) (c0 + 2) 0 0 9)
set_option maxHeartbeats 4000000 in
set_option maxRecDepth 20000 in
theorem wX8_startFrom {X : ux_X} (C : ux_C X cX8_startFrom RX8 2 none 1 60 shC) {c0 : Nat} {c1 : Nat} (p0 : is_X8 c0) (p1 : is_X3 c1) {N : ux_N} {L : ux_L} {o : ux_N} (hq : ux_Qv X o L) (h : fX8_startFrom c0 c1 N = some o) : ux_Wt X 2 0 [(0, .ref (ux_ad X c0)), (1, .ref (ux_ad X c1))] [] N L := by
  refine wt_aload_n 1 0 C dX8_startFrom_0 rfl rfl ?_
  refine wt_aload_n 2 1 C dX8_startFrom_1 rfl rfl ?_
  refine wt_getI 5 C kfX8_18 (p1).1 rfl dX8_startFrom_2 rfl ?_
  refine wt_putI 8 C kpX8_24 (p0).1 rfl rfl rfl dX8_startFrom_5 rfl ?_
  refine wt_aload_n 9 0 C dX8_startFrom_8 rfl rfl ?_
  refine wt_iconst 10 0 C dX8_startFrom_9 rfl (by decide) ?_
  refine wt_putI 13 C kpX8_25 (p0).1 rfl rfl rfl dX8_startFrom_10 rfl ?_
  refine wt_aload_n 14 0 C dX8_startFrom_13 rfl rfl ?_
  refine wt_iconst 15 0 C dX8_startFrom_14 rfl (by decide) ?_
  refine wt_putI 18 C kpX8_28 (p0).1 rfl rfl rfl dX8_startFrom_15 rfl ?_
  refine wt_aload_n 19 1 C dX8_startFrom_18 rfl rfl ?_
  refine wt_getR 22 C kfX8_31 (p1).1 rfl dX8_startFrom_19 rfl ?_
  refine wt_iconst 23 0 C dX8_startFrom_22 rfl (by decide) ?_
  refine wt_aload_n 24 0 C dX8_startFrom_23 rfl rfl ?_
  refine wt_getR 27 C kfX8_9 (p0).1 rfl dX8_startFrom_24 rfl ?_
  refine wt_iconst 28 0 C dX8_startFrom_27 rfl (by decide) ?_
  refine wt_bipush 30 9 C dX8_startFrom_28 rfl (by decide) ?_
  refine wt_copyI 33 0 0 9 C kaX8_34 (p1).2.2.2.1 (p0).2.1 (by decide) (by decide) (by decide) (by decide) (by decide) (by decide) (by decide) (by decide) (by decide) (Nat.le_of_ble_eq_true rfl) dX8_startFrom_30 rfl ?_
  refine wt_aload_n 34 1 C dX8_startFrom_33 rfl rfl ?_
  refine wt_getR 37 C kfX8_40 (p1).1 rfl dX8_startFrom_34 rfl ?_
  refine wt_iconst 38 0 C dX8_startFrom_37 rfl (by decide) ?_
  refine wt_aload_n 39 0 C dX8_startFrom_38 rfl rfl ?_
  refine wt_getR 42 C kfX8_15 (p0).1 rfl dX8_startFrom_39 rfl ?_
  refine wt_iconst 43 0 C dX8_startFrom_42 rfl (by decide) ?_
  refine wt_bipush 45 9 C dX8_startFrom_43 rfl (by decide) ?_
  refine wt_copyI 48 0 0 9 C kaX8_34 (p1).2.2.2.2.1 (p0).2.2 (by decide) (by decide) (by decide) (by decide) (by decide) (by decide) (by decide) (by decide) (by decide) (Nat.le_of_ble_eq_true rfl) dX8_startFrom_45 rfl ?_
  cases h
  exact wt_vret C hq dX8_startFrom_48
theorem mX8_startFrom {l : Launch} {G : ux_G} (hok : ux_ok G shC) {c0 : Nat} {c1 : Nat} (p0 : is_X8 c0) (p1 : is_X3 c1) {N : ux_N} {L : ux_L} {o : ux_N} (h : fX8_startFrom c0 c1 N = some o) : ux_Mv l G yX8_startFrom cX8_startFrom 2 1 60 [.ref (gad G c0), .ref (gad G c1)] N L o L :=
  ux_ofv shC hok (by decide +kernel) (Nat.le_of_ble_eq_true rfl) (fun X hG hl C hq => by subst hG; subst hl; exact wX8_startFrom C p0 p1 hq h)
def fX8_copyFrom_39 (c0 : Nat) (c1 : Nat) (N : ux_N) : Option (ux_N) :=
  some (ux_cpN N (c1 + 2) (c0 + 2) 0 0 9)
set_option maxHeartbeats 4000000 in
set_option maxRecDepth 20000 in
theorem wX8_copyFrom_39 {X : ux_X} (C : ux_C X cX8_copyFrom RX8 2 none 1 60 shC) {c0 : Nat} {c1 : Nat} (p0 : is_X8 c0) (p1 : is_X8 c1) {N : ux_N} {L : ux_L} {o : ux_N} (hq : ux_Qv X o L) (h : fX8_copyFrom_39 c0 c1 N = some o) : ux_Wt X 2 39 [(0, .ref (ux_ad X c0)), (1, .ref (ux_ad X c1))] [] N L := by
  refine wt_aload_n 40 1 C dX8_copyFrom_39 rfl rfl ?_
  refine wt_getR 43 C kfX8_15 (p1).1 rfl dX8_copyFrom_40 rfl ?_
  refine wt_iconst 44 0 C dX8_copyFrom_43 rfl (by decide) ?_
  refine wt_aload_n 45 0 C dX8_copyFrom_44 rfl rfl ?_
  refine wt_getR 48 C kfX8_15 (p0).1 rfl dX8_copyFrom_45 rfl ?_
  refine wt_iconst 49 0 C dX8_copyFrom_48 rfl (by decide) ?_
  refine wt_bipush 51 9 C dX8_copyFrom_49 rfl (by decide) ?_
  refine wt_copyI 54 0 0 9 C kaX8_34 (p1).2.2 (p0).2.2 (by decide) (by decide) (by decide) (by decide) (by decide) (by decide) (by decide) (by decide) (by decide) (Nat.le_of_ble_eq_true rfl) dX8_copyFrom_51 rfl ?_
  cases h
  exact wt_vret C hq dX8_copyFrom_54
def fX8_copyFrom (c0 : Nat) (c1 : Nat) (N : ux_N) : Option (ux_N) :=
  fX8_copyFrom_39 c0 c1 (ux_cpN (ux_u (ux_u (ux_u N c0 0 (N c1 0)) c0 1 ((ux_u N c0 0 (N c1 0)) c1 1)) c0 2 ((ux_u (ux_u N c0 0 (N c1 0)) c0 1 ((ux_u N c0 0 (N c1 0)) c1 1)) c1 2)) (c1 + 1) (c0 + 1) 0 0 9)
set_option maxHeartbeats 4000000 in
set_option maxRecDepth 20000 in
theorem wX8_copyFrom {X : ux_X} (C : ux_C X cX8_copyFrom RX8 2 none 1 60 shC) {c0 : Nat} {c1 : Nat} (p0 : is_X8 c0) (p1 : is_X8 c1) {N : ux_N} {L : ux_L} {o : ux_N} (hq : ux_Qv X o L) (h : fX8_copyFrom c0 c1 N = some o) : ux_Wt X 2 0 [(0, .ref (ux_ad X c0)), (1, .ref (ux_ad X c1))] [] N L := by
  refine wt_aload_n 1 0 C dX8_copyFrom_0 rfl rfl ?_
  refine wt_aload_n 2 1 C dX8_copyFrom_1 rfl rfl ?_
  refine wt_getI 5 C kfX8_24 (p1).1 rfl dX8_copyFrom_2 rfl ?_
  refine wt_putI 8 C kpX8_24 (p0).1 rfl rfl rfl dX8_copyFrom_5 rfl ?_
  refine wt_aload_n 9 0 C dX8_copyFrom_8 rfl rfl ?_
  refine wt_aload_n 10 1 C dX8_copyFrom_9 rfl rfl ?_
  refine wt_getI 13 C kfX8_25 (p1).1 rfl dX8_copyFrom_10 rfl ?_
  refine wt_putI 16 C kpX8_25 (p0).1 rfl rfl rfl dX8_copyFrom_13 rfl ?_
  refine wt_aload_n 17 0 C dX8_copyFrom_16 rfl rfl ?_
  refine wt_aload_n 18 1 C dX8_copyFrom_17 rfl rfl ?_
  refine wt_getI 21 C kfX8_28 (p1).1 rfl dX8_copyFrom_18 rfl ?_
  refine wt_putI 24 C kpX8_28 (p0).1 rfl rfl rfl dX8_copyFrom_21 rfl ?_
  refine wt_aload_n 25 1 C dX8_copyFrom_24 rfl rfl ?_
  refine wt_getR 28 C kfX8_9 (p1).1 rfl dX8_copyFrom_25 rfl ?_
  refine wt_iconst 29 0 C dX8_copyFrom_28 rfl (by decide) ?_
  refine wt_aload_n 30 0 C dX8_copyFrom_29 rfl rfl ?_
  refine wt_getR 33 C kfX8_9 (p0).1 rfl dX8_copyFrom_30 rfl ?_
  refine wt_iconst 34 0 C dX8_copyFrom_33 rfl (by decide) ?_
  refine wt_bipush 36 9 C dX8_copyFrom_34 rfl (by decide) ?_
  refine wt_copyI 39 0 0 9 C kaX8_34 (p1).2.1 (p0).2.1 (by decide) (by decide) (by decide) (by decide) (by decide) (by decide) (by decide) (by decide) (by decide) (Nat.le_of_ble_eq_true rfl) dX8_copyFrom_36 rfl ?_
  exact wX8_copyFrom_39 C p0 p1 hq h
theorem mX8_copyFrom {l : Launch} {G : ux_G} (hok : ux_ok G shC) {c0 : Nat} {c1 : Nat} (p0 : is_X8 c0) (p1 : is_X8 c1) {N : ux_N} {L : ux_L} {o : ux_N} (h : fX8_copyFrom c0 c1 N = some o) : ux_Mv l G yX8_copyFrom cX8_copyFrom 2 1 60 [.ref (gad G c0), .ref (gad G c1)] N L o L :=
  ux_ofv shC hok (by decide +kernel) (Nat.le_of_ble_eq_true rfl) (fun X hG hl C hq => by subst hG; subst hl; exact wX8_copyFrom C p0 p1 hq h)
def fX8_addMeter_41 (c0 : Nat) (N : ux_N) : Option (Int32 × ux_N) :=
  some (((N c0 0) - (1 : Int32)), N)
set_option maxHeartbeats 4000000 in
set_option maxRecDepth 20000 in
theorem wX8_addMeter_41 {X : ux_X} (C : ux_C X cX8_addMeter RX8 3 (some .int) 0 0 shC) {c0 : Nat} (p0 : is_X8 c0) {N : ux_N} {L : ux_L} {o : Int32 × ux_N} (hq : ux_Qi X o.1 o.2 L) (h : fX8_addMeter_41 c0 N = some o) : ux_Wt X 3 41 [(0, .ref (ux_ad X c0))] [] N L := by
  refine wt_aload_n 42 0 C dX8_addMeter_41 rfl rfl ?_
  refine wt_getI 45 C kfX8_24 (p0).1 rfl dX8_addMeter_42 rfl ?_
  refine wt_iconst 46 1 C dX8_addMeter_45 rfl (by decide) ?_
  refine wt_isub 47 C dX8_addMeter_46 rfl ?_
  cases h
  exact wt_iret C hq dX8_addMeter_47
def fX8_addMeter (c0 : Nat) (v1 : Int32) (v2 : Int32) (N : ux_N) : Option (Int32 × ux_N) :=
  if (N c0 0) < (9 : Int32) then (if ux_in (N c0 0) 9 then (if ux_in ((ux_u N (c0 + 1) ((N c0 0).toNatClampNeg) v1) c0 0) 9 then (fX8_addMeter_41 c0 (ux_u (ux_u (ux_u N (c0 + 1) ((N c0 0).toNatClampNeg) v1) (c0 + 2) (((ux_u N (c0 + 1) ((N c0 0).toNatClampNeg) v1) c0 0).toNatClampNeg) v2) c0 0 (((ux_u (ux_u N (c0 + 1) ((N c0 0).toNatClampNeg) v1) (c0 + 2) (((ux_u N (c0 + 1) ((N c0 0).toNatClampNeg) v1) c0 0).toNatClampNeg) v2) c0 0) + (1 : Int32)))) else none) else none) else (some ((-1 : Int32), N))
set_option maxHeartbeats 4000000 in
set_option maxRecDepth 20000 in
theorem wX8_addMeter {X : ux_X} (C : ux_C X cX8_addMeter RX8 3 (some .int) 0 0 shC) {c0 : Nat} {v1 : Int32} {v2 : Int32} (p0 : is_X8 c0) {N : ux_N} {L : ux_L} {o : Int32 × ux_N} (hq : ux_Qi X o.1 o.2 L) (h : fX8_addMeter c0 v1 v2 N = some o) : ux_Wt X 3 0 [(0, .ref (ux_ad X c0)), (1, .int v1), (2, .int v2)] [] N L := by
  refine wt_aload_n 1 0 C dX8_addMeter_0 rfl rfl ?_
  refine wt_getI 4 C kfX8_24 (p0).1 rfl dX8_addMeter_1 rfl ?_
  refine wt_bipush 6 9 C dX8_addMeter_4 rfl (by decide) ?_
  refine wt_icmp_lt 9 11 C dX8_addMeter_6 rfl (by decide) (fun q1 => ?_) (fun q1 => ?_)
  · have h := (if_pos q1).symm.trans h
    refine wt_aload_n 12 0 C dX8_addMeter_11 rfl rfl ?_
    refine wt_getR 15 C kfX8_9 (p0).1 rfl dX8_addMeter_12 rfl ?_
    refine wt_aload_n 16 0 C dX8_addMeter_15 rfl rfl ?_
    refine wt_getI 19 C kfX8_24 (p0).1 rfl dX8_addMeter_16 rfl ?_
    refine wt_iload_n 20 1 C dX8_addMeter_19 rfl rfl ?_
    obtain ⟨hi2, h⟩ := ux_guard h
    refine wt_iast 21 ((N c0 0).toNatClampNeg) C (p0).2.1 rfl hi2 dX8_addMeter_20 rfl ?_
    refine wt_aload_n 22 0 C dX8_addMeter_21 rfl rfl ?_
    refine wt_getR 25 C kfX8_15 (p0).1 rfl dX8_addMeter_22 rfl ?_
    refine wt_aload_n 26 0 C dX8_addMeter_25 rfl rfl ?_
    refine wt_getI 29 C kfX8_24 (p0).1 rfl dX8_addMeter_26 rfl ?_
    refine wt_iload_n 30 2 C dX8_addMeter_29 rfl rfl ?_
    obtain ⟨hi3, h⟩ := ux_guard h
    refine wt_iast 31 (((ux_u N (c0 + 1) ((N c0 0).toNatClampNeg) v1) c0 0).toNatClampNeg) C (p0).2.2 rfl hi3 dX8_addMeter_30 rfl ?_
    refine wt_aload_n 32 0 C dX8_addMeter_31 rfl rfl ?_
    refine wt_dup 33 C dX8_addMeter_32 rfl rfl ?_
    refine wt_getI 36 C kfX8_24 (p0).1 rfl dX8_addMeter_33 rfl ?_
    refine wt_iconst 37 1 C dX8_addMeter_36 rfl (by decide) ?_
    refine wt_iadd 38 C dX8_addMeter_37 rfl ?_
    refine wt_putI 41 C kpX8_24 (p0).1 rfl rfl rfl dX8_addMeter_38 rfl ?_
    refine wt_sub [0] rfl ?_
    exact wX8_addMeter_41 C p0 hq h
  · have h := (if_neg q1).symm.trans h
    refine wt_iconst 10 (-1) C dX8_addMeter_9 rfl (by decide) ?_
    cases h
    exact wt_iret C hq dX8_addMeter_10
theorem mX8_addMeter {l : Launch} {G : ux_G} (hok : ux_ok G shC) {c0 : Nat} {v1 : Int32} {v2 : Int32} (p0 : is_X8 c0) {N : ux_N} {L : ux_L} {o : Int32 × ux_N} (h : fX8_addMeter c0 v1 v2 N = some o) : ux_Mi l G yX8_addMeter cX8_addMeter 3 (some .int) 0 0 [.ref (gad G c0), .int v1, .int v2] N L o.1 o.2 L :=
  ux_ofi shC hok (by decide +kernel) (Nat.le_of_ble_eq_true rfl) (fun X hG hl C hq => by subst hG; subst hl; exact wX8_addMeter C p0 hq h)
def fX8_wholeMeters (c0 : Nat) (N : ux_N) : Option (Int32) :=
  some ((((1 : Int32) <<< ((N c0 0) &&& 31)) - (1 : Int32)) &&& ((N c0 1) ^^^ (-1 : Int32)))
set_option maxHeartbeats 4000000 in
set_option maxRecDepth 20000 in
theorem wX8_wholeMeters {X : ux_X} (C : ux_C X cX8_wholeMeters RX8 1 (some .int) 0 0 shC) {c0 : Nat} (p0 : is_X8 c0) {N : ux_N} {L : ux_L} {o : Int32} (hq : ux_Qi X o N L) (h : fX8_wholeMeters c0 N = some o) : ux_Wt X 1 0 [(0, .ref (ux_ad X c0))] [] N L := by
  refine wt_iconst 1 1 C dX8_wholeMeters_0 rfl (by decide) ?_
  refine wt_aload_n 2 0 C dX8_wholeMeters_1 rfl rfl ?_
  refine wt_getI 5 C kfX8_24 (p0).1 rfl dX8_wholeMeters_2 rfl ?_
  refine wt_ishl 6 C dX8_wholeMeters_5 rfl ?_
  refine wt_iconst 7 1 C dX8_wholeMeters_6 rfl (by decide) ?_
  refine wt_isub 8 C dX8_wholeMeters_7 rfl ?_
  refine wt_aload_n 9 0 C dX8_wholeMeters_8 rfl rfl ?_
  refine wt_getI 12 C kfX8_25 (p0).1 rfl dX8_wholeMeters_9 rfl ?_
  refine wt_iconst 13 (-1) C dX8_wholeMeters_12 rfl (by decide) ?_
  refine wt_ixor 14 C dX8_wholeMeters_13 rfl ?_
  refine wt_iand 15 C dX8_wholeMeters_14 rfl ?_
  cases h
  exact wt_iret C hq dX8_wholeMeters_15
theorem mX8_wholeMeters {l : Launch} {G : ux_G} (hok : ux_ok G shC) {c0 : Nat} (p0 : is_X8 c0) {N : ux_N} {L : ux_L} {o : Int32} (h : fX8_wholeMeters c0 N = some o) : ux_Mi l G yX8_wholeMeters cX8_wholeMeters 1 (some .int) 0 0 [.ref (gad G c0)] N L o N L :=
  ux_ofi shC hok (by decide +kernel) (Nat.le_of_ble_eq_true rfl) (fun X hG hl C hq => by subst hG; subst hl; exact wX8_wholeMeters C p0 hq h)
end
section
theorem dX9_renew_0 : decode cX9_renew 0 = .ok (.aload_n 0, 1) := by decide +kernel
theorem dX9_renew_1 : decode cX9_renew 1 = .ok (.iconst 1, 1) := by decide +kernel
theorem dX9_renew_2 : decode cX9_renew 2 = .ok (.putfield 18, 3) := by decide +kernel
theorem dX9_renew_5 : decode cX9_renew 5 = .ok (.aload_n 0, 1) := by decide +kernel
theorem dX9_renew_6 : decode cX9_renew 6 = .ok (.iconst 0, 1) := by decide +kernel
theorem dX9_renew_7 : decode cX9_renew 7 = .ok (.putfield 22, 3) := by decide +kernel
theorem dX9_renew_10 : decode cX9_renew 10 = .ok (.return_, 1) := by decide +kernel
theorem dX9_remove_0 : decode cX9_remove 0 = .ok (.aload_n 0, 1) := by decide +kernel
theorem dX9_remove_1 : decode cX9_remove 1 = .ok (.iconst 0, 1) := by decide +kernel
theorem dX9_remove_2 : decode cX9_remove 2 = .ok (.putfield 18, 3) := by decide +kernel
theorem dX9_remove_5 : decode cX9_remove 5 = .ok (.aload_n 0, 1) := by decide +kernel
theorem dX9_remove_6 : decode cX9_remove 6 = .ok (.iconst 0, 1) := by decide +kernel
theorem dX9_remove_7 : decode cX9_remove 7 = .ok (.putfield 22, 3) := by decide +kernel
theorem dX9_remove_10 : decode cX9_remove 10 = .ok (.return_, 1) := by decide +kernel
theorem dX9_isMissing_0 : decode cX9_isMissing 0 = .ok (.aload_n 0, 1) := by decide +kernel
theorem dX9_isMissing_1 : decode cX9_isMissing 1 = .ok (.getfield 18, 3) := by decide +kernel
theorem dX9_isMissing_4 : decode cX9_isMissing 4 = .ok (.ifCond .ne 7, 3) := by decide +kernel
theorem dX9_isMissing_7 : decode cX9_isMissing 7 = .ok (.iconst 1, 1) := by decide +kernel
theorem dX9_isMissing_8 : decode cX9_isMissing 8 = .ok (.goto 4, 3) := by decide +kernel
theorem dX9_isMissing_11 : decode cX9_isMissing 11 = .ok (.iconst 0, 1) := by decide +kernel
theorem dX9_isMissing_12 : decode cX9_isMissing 12 = .ok (.ireturn, 1) := by decide +kernel
theorem dX9_things_0 : decode cX9_things 0 = .ok (.aload_n 0, 1) := by decide +kernel
theorem dX9_things_1 : decode cX9_things 1 = .ok (.getfield 22, 3) := by decide +kernel
theorem dX9_things_4 : decode cX9_things 4 = .ok (.ireturn, 1) := by decide +kernel
theorem dX9_push_0 : decode cX9_push 0 = .ok (.aload_n 0, 1) := by decide +kernel
theorem dX9_push_1 : decode cX9_push 1 = .ok (.getfield 18, 3) := by decide +kernel
theorem dX9_push_4 : decode cX9_push 4 = .ok (.ifCond .ne 6, 3) := by decide +kernel
theorem dX9_push_7 : decode cX9_push 7 = .ok (.bipush (-11), 2) := by decide +kernel
theorem dX9_push_9 : decode cX9_push 9 = .ok (.ireturn, 1) := by decide +kernel
theorem dX9_push_10 : decode cX9_push 10 = .ok (.aload_n 0, 1) := by decide +kernel
theorem dX9_push_11 : decode cX9_push 11 = .ok (.getfield 22, 3) := by decide +kernel
theorem dX9_push_14 : decode cX9_push 14 = .ok (.bipush 8, 2) := by decide +kernel
theorem dX9_push_16 : decode cX9_push 16 = .ok (.if_icmp .lt 6, 3) := by decide +kernel
theorem dX9_push_19 : decode cX9_push 19 = .ok (.bipush (-14), 2) := by decide +kernel
theorem dX9_push_21 : decode cX9_push 21 = .ok (.ireturn, 1) := by decide +kernel
theorem dX9_push_22 : decode cX9_push 22 = .ok (.aload_n 0, 1) := by decide +kernel
theorem dX9_push_23 : decode cX9_push 23 = .ok (.getfield 9, 3) := by decide +kernel
theorem dX9_push_26 : decode cX9_push 26 = .ok (.aload_n 0, 1) := by decide +kernel
theorem dX9_push_27 : decode cX9_push 27 = .ok (.getfield 22, 3) := by decide +kernel
theorem dX9_push_30 : decode cX9_push 30 = .ok (.iload_n 1, 1) := by decide +kernel
theorem dX9_push_31 : decode cX9_push 31 = .ok (.iastore, 1) := by decide +kernel
theorem dX9_push_32 : decode cX9_push 32 = .ok (.aload_n 0, 1) := by decide +kernel
theorem dX9_push_33 : decode cX9_push 33 = .ok (.getfield 15, 3) := by decide +kernel
theorem dX9_push_36 : decode cX9_push 36 = .ok (.aload_n 0, 1) := by decide +kernel
theorem dX9_push_37 : decode cX9_push 37 = .ok (.getfield 22, 3) := by decide +kernel
theorem dX9_push_40 : decode cX9_push 40 = .ok (.iload_n 2, 1) := by decide +kernel
theorem dX9_push_41 : decode cX9_push 41 = .ok (.iastore, 1) := by decide +kernel
theorem dX9_push_42 : decode cX9_push 42 = .ok (.aload_n 0, 1) := by decide +kernel
theorem dX9_push_43 : decode cX9_push 43 = .ok (.dup, 1) := by decide +kernel
theorem dX9_push_44 : decode cX9_push 44 = .ok (.getfield 22, 3) := by decide +kernel
theorem dX9_push_47 : decode cX9_push 47 = .ok (.iconst 1, 1) := by decide +kernel
theorem dX9_push_48 : decode cX9_push 48 = .ok (.iadd, 1) := by decide +kernel
theorem dX9_push_49 : decode cX9_push 49 = .ok (.putfield 22, 3) := by decide +kernel
theorem dX9_push_52 : decode cX9_push 52 = .ok (.aload_n 0, 1) := by decide +kernel
theorem dX9_push_53 : decode cX9_push 53 = .ok (.getfield 22, 3) := by decide +kernel
theorem dX9_push_56 : decode cX9_push 56 = .ok (.ireturn, 1) := by decide +kernel
theorem dX9_pop_0 : decode cX9_pop 0 = .ok (.aload_n 0, 1) := by decide +kernel
theorem dX9_pop_1 : decode cX9_pop 1 = .ok (.getfield 18, 3) := by decide +kernel
theorem dX9_pop_4 : decode cX9_pop 4 = .ok (.ifCond .ne 6, 3) := by decide +kernel
theorem dX9_pop_7 : decode cX9_pop 7 = .ok (.bipush (-11), 2) := by decide +kernel
theorem dX9_pop_9 : decode cX9_pop 9 = .ok (.ireturn, 1) := by decide +kernel
theorem dX9_pop_10 : decode cX9_pop 10 = .ok (.aload_n 0, 1) := by decide +kernel
theorem dX9_pop_11 : decode cX9_pop 11 = .ok (.getfield 22, 3) := by decide +kernel
theorem dX9_pop_14 : decode cX9_pop 14 = .ok (.ifCond .gt 6, 3) := by decide +kernel
theorem dX9_pop_17 : decode cX9_pop 17 = .ok (.bipush (-12), 2) := by decide +kernel
theorem dX9_pop_19 : decode cX9_pop 19 = .ok (.ireturn, 1) := by decide +kernel
theorem dX9_pop_20 : decode cX9_pop 20 = .ok (.aload_n 0, 1) := by decide +kernel
theorem dX9_pop_21 : decode cX9_pop 21 = .ok (.getfield 9, 3) := by decide +kernel
theorem dX9_pop_24 : decode cX9_pop 24 = .ok (.aload_n 0, 1) := by decide +kernel
theorem dX9_pop_25 : decode cX9_pop 25 = .ok (.getfield 22, 3) := by decide +kernel
theorem dX9_pop_28 : decode cX9_pop 28 = .ok (.iconst 1, 1) := by decide +kernel
theorem dX9_pop_29 : decode cX9_pop 29 = .ok (.isub, 1) := by decide +kernel
theorem dX9_pop_30 : decode cX9_pop 30 = .ok (.iaload, 1) := by decide +kernel
theorem dX9_pop_31 : decode cX9_pop 31 = .ok (.iload_n 1, 1) := by decide +kernel
theorem dX9_pop_32 : decode cX9_pop 32 = .ok (.if_icmp .eq 6, 3) := by decide +kernel
theorem dX9_pop_35 : decode cX9_pop 35 = .ok (.bipush (-13), 2) := by decide +kernel
theorem dX9_pop_37 : decode cX9_pop 37 = .ok (.ireturn, 1) := by decide +kernel
theorem dX9_pop_38 : decode cX9_pop 38 = .ok (.aload_n 0, 1) := by decide +kernel
theorem dX9_pop_39 : decode cX9_pop 39 = .ok (.dup, 1) := by decide +kernel
theorem dX9_pop_40 : decode cX9_pop 40 = .ok (.getfield 22, 3) := by decide +kernel
theorem dX9_pop_43 : decode cX9_pop 43 = .ok (.iconst 1, 1) := by decide +kernel
theorem dX9_pop_44 : decode cX9_pop 44 = .ok (.isub, 1) := by decide +kernel
theorem dX9_pop_45 : decode cX9_pop 45 = .ok (.putfield 22, 3) := by decide +kernel
theorem dX9_pop_48 : decode cX9_pop 48 = .ok (.iload_n 1, 1) := by decide +kernel
theorem dX9_pop_49 : decode cX9_pop 49 = .ok (.iconst 1, 1) := by decide +kernel
theorem dX9_pop_50 : decode cX9_pop 50 = .ok (.if_icmp .ne 18, 3) := by decide +kernel
theorem dX9_pop_53 : decode cX9_pop 53 = .ok (.aload_n 0, 1) := by decide +kernel
theorem dX9_pop_54 : decode cX9_pop 54 = .ok (.getfield 15, 3) := by decide +kernel
theorem dX9_pop_57 : decode cX9_pop 57 = .ok (.aload_n 0, 1) := by decide +kernel
theorem dX9_pop_58 : decode cX9_pop 58 = .ok (.getfield 22, 3) := by decide +kernel
theorem dX9_pop_61 : decode cX9_pop 61 = .ok (.iaload, 1) := by decide +kernel
theorem dX9_pop_62 : decode cX9_pop 62 = .ok (.ldc 26, 2) := by decide +kernel
theorem dX9_pop_64 : decode cX9_pop 64 = .ok (.iadd, 1) := by decide +kernel
theorem dX9_pop_65 : decode cX9_pop 65 = .ok (.goto 12, 3) := by decide +kernel
theorem dX9_pop_68 : decode cX9_pop 68 = .ok (.aload_n 0, 1) := by decide +kernel
theorem dX9_pop_69 : decode cX9_pop 69 = .ok (.getfield 15, 3) := by decide +kernel
theorem dX9_pop_72 : decode cX9_pop 72 = .ok (.aload_n 0, 1) := by decide +kernel
theorem dX9_pop_73 : decode cX9_pop 73 = .ok (.getfield 22, 3) := by decide +kernel
theorem dX9_pop_76 : decode cX9_pop 76 = .ok (.iaload, 1) := by decide +kernel
theorem dX9_pop_77 : decode cX9_pop 77 = .ok (.ireturn, 1) := by decide +kernel
theorem dX9_together_0 : decode cX9_together 0 = .ok (.aload_n 0, 1) := by decide +kernel
theorem dX9_together_1 : decode cX9_together 1 = .ok (.getfield 18, 3) := by decide +kernel
theorem dX9_together_4 : decode cX9_together 4 = .ok (.ifCond .ne 6, 3) := by decide +kernel
theorem dX9_together_7 : decode cX9_together 7 = .ok (.bipush (-11), 2) := by decide +kernel
theorem dX9_together_9 : decode cX9_together 9 = .ok (.ireturn, 1) := by decide +kernel
theorem dX9_together_10 : decode cX9_together 10 = .ok (.iconst 0, 1) := by decide +kernel
theorem dX9_together_11 : decode cX9_together 11 = .ok (.istore_n 2, 1) := by decide +kernel
theorem dX9_together_12 : decode cX9_together 12 = .ok (.ldc 27, 2) := by decide +kernel
theorem dX9_together_14 : decode cX9_together 14 = .ok (.istore_n 3, 1) := by decide +kernel
theorem dX9_together_15 : decode cX9_together 15 = .ok (.iconst 0, 1) := by decide +kernel
theorem dX9_together_16 : decode cX9_together 16 = .ok (.istore 4, 2) := by decide +kernel
theorem dX9_together_18 : decode cX9_together 18 = .ok (.iconst 0, 1) := by decide +kernel
theorem dX9_together_19 : decode cX9_together 19 = .ok (.istore 5, 2) := by decide +kernel
theorem dX9_together_21 : decode cX9_together 21 = .ok (.iload 5, 2) := by decide +kernel
theorem dX9_together_23 : decode cX9_together 23 = .ok (.aload_n 0, 1) := by decide +kernel
theorem dX9_together_24 : decode cX9_together 24 = .ok (.getfield 22, 3) := by decide +kernel
theorem dX9_together_27 : decode cX9_together 27 = .ok (.if_icmp .ge 76, 3) := by decide +kernel
theorem dX9_together_30 : decode cX9_together 30 = .ok (.aload_n 0, 1) := by decide +kernel
theorem dX9_together_31 : decode cX9_together 31 = .ok (.getfield 9, 3) := by decide +kernel
theorem dX9_together_34 : decode cX9_together 34 = .ok (.iload 5, 2) := by decide +kernel
theorem dX9_together_36 : decode cX9_together 36 = .ok (.iaload, 1) := by decide +kernel
theorem dX9_together_37 : decode cX9_together 37 = .ok (.lookupswitch 46 #[(0, 27), (1, 33)], 27) := by decide +kernel
theorem dX9_together_64 : decode cX9_together 64 = .ok (.iinc 2 1, 3) := by decide +kernel
theorem dX9_together_67 : decode cX9_together 67 = .ok (.goto 30, 3) := by decide +kernel
theorem dX9_together_70 : decode cX9_together 70 = .ok (.iload_n 3, 1) := by decide +kernel
theorem dX9_together_71 : decode cX9_together 71 = .ok (.aload_n 0, 1) := by decide +kernel
theorem dX9_together_72 : decode cX9_together 72 = .ok (.getfield 15, 3) := by decide +kernel
theorem dX9_together_75 : decode cX9_together 75 = .ok (.iload 5, 2) := by decide +kernel
theorem dX9_together_77 : decode cX9_together 77 = .ok (.iaload, 1) := by decide +kernel
theorem dX9_together_78 : decode cX9_together 78 = .ok (.iadd, 1) := by decide +kernel
theorem dX9_together_79 : decode cX9_together 79 = .ok (.istore_n 3, 1) := by decide +kernel
theorem dX9_together_80 : decode cX9_together 80 = .ok (.goto 17, 3) := by decide +kernel
theorem dX9_together_83 : decode cX9_together 83 = .ok (.iload 4, 2) := by decide +kernel
theorem dX9_together_85 : decode cX9_together 85 = .ok (.iconst 1, 1) := by decide +kernel
theorem dX9_together_86 : decode cX9_together 86 = .ok (.aload_n 0, 1) := by decide +kernel
theorem dX9_together_87 : decode cX9_together 87 = .ok (.getfield 15, 3) := by decide +kernel
theorem dX9_together_90 : decode cX9_together 90 = .ok (.iload 5, 2) := by decide +kernel
theorem dX9_together_92 : decode cX9_together 92 = .ok (.iaload, 1) := by decide +kernel
theorem dX9_together_93 : decode cX9_together 93 = .ok (.ishl, 1) := by decide +kernel
theorem dX9_together_94 : decode cX9_together 94 = .ok (.ior, 1) := by decide +kernel
theorem dX9_together_95 : decode cX9_together 95 = .ok (.istore 4, 2) := by decide +kernel
theorem dX9_together_97 : decode cX9_together 97 = .ok (.iinc 5 1, 3) := by decide +kernel
theorem dX9_together_100 : decode cX9_together 100 = .ok (.goto (-79), 3) := by decide +kernel
theorem dX9_together_103 : decode cX9_together 103 = .ok (.iload_n 1, 1) := by decide +kernel
theorem dX9_together_104 : decode cX9_together 104 = .ok (.ifCond .ne 5, 3) := by decide +kernel
theorem dX9_together_107 : decode cX9_together 107 = .ok (.iload_n 2, 1) := by decide +kernel
theorem dX9_together_108 : decode cX9_together 108 = .ok (.ireturn, 1) := by decide +kernel
theorem dX9_together_109 : decode cX9_together 109 = .ok (.iload_n 1, 1) := by decide +kernel
theorem dX9_together_110 : decode cX9_together 110 = .ok (.iconst 1, 1) := by decide +kernel
theorem dX9_together_111 : decode cX9_together 111 = .ok (.if_icmp .ne 7, 3) := by decide +kernel
theorem dX9_together_114 : decode cX9_together 114 = .ok (.iload_n 3, 1) := by decide +kernel
theorem dX9_together_115 : decode cX9_together 115 = .ok (.goto 5, 3) := by decide +kernel
theorem dX9_together_118 : decode cX9_together 118 = .ok (.iload 4, 2) := by decide +kernel
theorem dX9_together_120 : decode cX9_together 120 = .ok (.ireturn, 1) := by decide +kernel
theorem kpX9_18 : ux_FP RX9 18 9 0 .boolean := ⟨RX9, TX9, 4, rfl, lay_X9, by decide, tw_408, tyX9, tyX9_ok, nmX9, rfl, by decide +kernel⟩
theorem kpX9_22 : ux_FP RX9 22 9 1 .int := ⟨RX9, TX9, 4, rfl, lay_X9, by decide, tw_409, tyX9, tyX9_ok, nmX9, rfl, by decide +kernel⟩
theorem kfX9_18 : ux_FL RX9 18 9 0 := ⟨RX9, TX9, 4, rfl, lay_X9, by decide, tw_408⟩
theorem kfX9_22 : ux_FL RX9 22 9 1 := ⟨RX9, TX9, 4, rfl, lay_X9, by decide, tw_409⟩
theorem kfX9_9 : ux_FL RX9 9 9 2 := ⟨RX9, TX9, 4, rfl, lay_X9, by decide, tw_410⟩
theorem kfX9_15 : ux_FL RX9 15 9 3 := ⟨RX9, TX9, 4, rfl, lay_X9, by decide, tw_411⟩
def fX9_renew (c0 : Nat) (N : ux_N) : Option (ux_N) :=
  some (ux_u (ux_u N c0 0 (1 : Int32)) c0 1 (0 : Int32))
set_option maxHeartbeats 4000000 in
set_option maxRecDepth 20000 in
theorem wX9_renew {X : ux_X} (C : ux_C X cX9_renew RX9 1 none 0 0 shC) {c0 : Nat} (p0 : is_X9 c0) {N : ux_N} {L : ux_L} {o : ux_N} (hq : ux_Qv X o L) (h : fX9_renew c0 N = some o) : ux_Wt X 1 0 [(0, .ref (ux_ad X c0))] [] N L := by
  refine wt_aload_n 1 0 C dX9_renew_0 rfl rfl ?_
  refine wt_iconst 2 1 C dX9_renew_1 rfl (by decide) ?_
  refine wt_putI 5 C kpX9_18 (p0).1 rfl (ux_b_n (by decide)).1 (ux_b_n (by decide)).2 dX9_renew_2 rfl ?_
  refine wt_aload_n 6 0 C dX9_renew_5 rfl rfl ?_
  refine wt_iconst 7 0 C dX9_renew_6 rfl (by decide) ?_
  refine wt_putI 10 C kpX9_22 (p0).1 rfl rfl rfl dX9_renew_7 rfl ?_
  cases h
  exact wt_vret C hq dX9_renew_10
theorem mX9_renew {l : Launch} {G : ux_G} (hok : ux_ok G shC) {c0 : Nat} (p0 : is_X9 c0) {N : ux_N} {L : ux_L} {o : ux_N} (h : fX9_renew c0 N = some o) : ux_Mv l G yX9_renew cX9_renew 1 0 0 [.ref (gad G c0)] N L o L :=
  ux_ofv shC hok (by decide +kernel) (Nat.le_of_ble_eq_true rfl) (fun X hG hl C hq => by subst hG; subst hl; exact wX9_renew C p0 hq h)
def fX9_remove (c0 : Nat) (N : ux_N) : Option (ux_N) :=
  some (ux_u (ux_u N c0 0 (0 : Int32)) c0 1 (0 : Int32))
set_option maxHeartbeats 4000000 in
set_option maxRecDepth 20000 in
theorem wX9_remove {X : ux_X} (C : ux_C X cX9_remove RX9 1 none 0 0 shC) {c0 : Nat} (p0 : is_X9 c0) {N : ux_N} {L : ux_L} {o : ux_N} (hq : ux_Qv X o L) (h : fX9_remove c0 N = some o) : ux_Wt X 1 0 [(0, .ref (ux_ad X c0))] [] N L := by
  refine wt_aload_n 1 0 C dX9_remove_0 rfl rfl ?_
  refine wt_iconst 2 0 C dX9_remove_1 rfl (by decide) ?_
  refine wt_putI 5 C kpX9_18 (p0).1 rfl (ux_b_n (by decide)).1 (ux_b_n (by decide)).2 dX9_remove_2 rfl ?_
  refine wt_aload_n 6 0 C dX9_remove_5 rfl rfl ?_
  refine wt_iconst 7 0 C dX9_remove_6 rfl (by decide) ?_
  refine wt_putI 10 C kpX9_22 (p0).1 rfl rfl rfl dX9_remove_7 rfl ?_
  cases h
  exact wt_vret C hq dX9_remove_10
theorem mX9_remove {l : Launch} {G : ux_G} (hok : ux_ok G shC) {c0 : Nat} (p0 : is_X9 c0) {N : ux_N} {L : ux_L} {o : ux_N} (h : fX9_remove c0 N = some o) : ux_Mv l G yX9_remove cX9_remove 1 0 0 [.ref (gad G c0)] N L o L :=
  ux_ofv shC hok (by decide +kernel) (Nat.le_of_ble_eq_true rfl) (fun X hG hl C hq => by subst hG; subst hl; exact wX9_remove C p0 hq h)
def fX9_isMissing_12 (c0 : Nat) (s0 : Int32) (N : ux_N) : Option (Int32) :=
  if ux_b s0 then (some s0) else none
set_option maxHeartbeats 4000000 in
set_option maxRecDepth 20000 in
theorem wX9_isMissing_12 {X : ux_X} (C : ux_C X cX9_isMissing RX9 1 (some .boolean) 0 0 shC) {c0 : Nat} {s0 : Int32} (p0 : is_X9 c0) {N : ux_N} {L : ux_L} {o : Int32} (hq : ux_Qi X o N L) (h : fX9_isMissing_12 c0 s0 N = some o) : ux_Wt X 1 12 [] [.int s0] N L := by
  obtain ⟨hb1, h⟩ := ux_guard h
  cases h
  exact wt_zret C (ux_b_n hb1).1 hq dX9_isMissing_12
def fX9_isMissing (c0 : Nat) (N : ux_N) : Option (Int32) :=
  if (N c0 0) = 0 then (fX9_isMissing_12 c0 (1 : Int32) N) else (fX9_isMissing_12 c0 (0 : Int32) N)
set_option maxHeartbeats 4000000 in
set_option maxRecDepth 20000 in
theorem wX9_isMissing {X : ux_X} (C : ux_C X cX9_isMissing RX9 1 (some .boolean) 0 0 shC) {c0 : Nat} (p0 : is_X9 c0) {N : ux_N} {L : ux_L} {o : Int32} (hq : ux_Qi X o N L) (h : fX9_isMissing c0 N = some o) : ux_Wt X 1 0 [(0, .ref (ux_ad X c0))] [] N L := by
  refine wt_aload_n 1 0 C dX9_isMissing_0 rfl rfl ?_
  refine wt_getI 4 C kfX9_18 (p0).1 rfl dX9_isMissing_1 rfl ?_
  refine wt_if_ne 7 11 C dX9_isMissing_4 rfl (by decide) (fun q1 => ?_) (fun q1 => ?_)
  · have h := (if_neg q1).symm.trans h
    refine wt_iconst 12 0 C dX9_isMissing_11 rfl (by decide) ?_
    refine wt_sub [] rfl ?_
    exact wX9_isMissing_12 C p0 hq h
  · have h := (if_pos q1).symm.trans h
    refine wt_iconst 8 1 C dX9_isMissing_7 rfl (by decide) ?_
    refine wt_goto 12 C dX9_isMissing_8 (by decide) ?_
    refine wt_sub [] rfl ?_
    exact wX9_isMissing_12 C p0 hq h
theorem mX9_isMissing {l : Launch} {G : ux_G} (hok : ux_ok G shC) {c0 : Nat} (p0 : is_X9 c0) {N : ux_N} {L : ux_L} {o : Int32} (h : fX9_isMissing c0 N = some o) : ux_Mi l G yX9_isMissing cX9_isMissing 1 (some .boolean) 0 0 [.ref (gad G c0)] N L o N L :=
  ux_ofi shC hok (by decide +kernel) (Nat.le_of_ble_eq_true rfl) (fun X hG hl C hq => by subst hG; subst hl; exact wX9_isMissing C p0 hq h)
def fX9_things (c0 : Nat) (N : ux_N) : Option (Int32) :=
  some (N c0 1)
set_option maxHeartbeats 4000000 in
set_option maxRecDepth 20000 in
theorem wX9_things {X : ux_X} (C : ux_C X cX9_things RX9 1 (some .int) 0 0 shC) {c0 : Nat} (p0 : is_X9 c0) {N : ux_N} {L : ux_L} {o : Int32} (hq : ux_Qi X o N L) (h : fX9_things c0 N = some o) : ux_Wt X 1 0 [(0, .ref (ux_ad X c0))] [] N L := by
  refine wt_aload_n 1 0 C dX9_things_0 rfl rfl ?_
  refine wt_getI 4 C kfX9_22 (p0).1 rfl dX9_things_1 rfl ?_
  cases h
  exact wt_iret C hq dX9_things_4
theorem mX9_things {l : Launch} {G : ux_G} (hok : ux_ok G shC) {c0 : Nat} (p0 : is_X9 c0) {N : ux_N} {L : ux_L} {o : Int32} (h : fX9_things c0 N = some o) : ux_Mi l G yX9_things cX9_things 1 (some .int) 0 0 [.ref (gad G c0)] N L o N L :=
  ux_ofi shC hok (by decide +kernel) (Nat.le_of_ble_eq_true rfl) (fun X hG hl C hq => by subst hG; subst hl; exact wX9_things C p0 hq h)
def fX9_push_52 (c0 : Nat) (N : ux_N) : Option (Int32 × ux_N) :=
  some ((N c0 1), N)
set_option maxHeartbeats 4000000 in
set_option maxRecDepth 20000 in
theorem wX9_push_52 {X : ux_X} (C : ux_C X cX9_push RX9 3 (some .int) 0 0 shC) {c0 : Nat} (p0 : is_X9 c0) {N : ux_N} {L : ux_L} {o : Int32 × ux_N} (hq : ux_Qi X o.1 o.2 L) (h : fX9_push_52 c0 N = some o) : ux_Wt X 3 52 [(0, .ref (ux_ad X c0))] [] N L := by
  refine wt_aload_n 53 0 C dX9_push_52 rfl rfl ?_
  refine wt_getI 56 C kfX9_22 (p0).1 rfl dX9_push_53 rfl ?_
  cases h
  exact wt_iret C hq dX9_push_56
def fX9_push (c0 : Nat) (v1 : Int32) (v2 : Int32) (N : ux_N) : Option (Int32 × ux_N) :=
  if (N c0 0) = 0 then (some ((-11 : Int32), N)) else (if (N c0 1) < (8 : Int32) then (if ux_in (N c0 1) 8 then (if ux_in ((ux_u N (c0 + 1) ((N c0 1).toNatClampNeg) v1) c0 1) 8 then (fX9_push_52 c0 (ux_u (ux_u (ux_u N (c0 + 1) ((N c0 1).toNatClampNeg) v1) (c0 + 2) (((ux_u N (c0 + 1) ((N c0 1).toNatClampNeg) v1) c0 1).toNatClampNeg) v2) c0 1 (((ux_u (ux_u N (c0 + 1) ((N c0 1).toNatClampNeg) v1) (c0 + 2) (((ux_u N (c0 + 1) ((N c0 1).toNatClampNeg) v1) c0 1).toNatClampNeg) v2) c0 1) + (1 : Int32)))) else none) else none) else (some ((-14 : Int32), N)))
set_option maxHeartbeats 4000000 in
set_option maxRecDepth 20000 in
theorem wX9_push {X : ux_X} (C : ux_C X cX9_push RX9 3 (some .int) 0 0 shC) {c0 : Nat} {v1 : Int32} {v2 : Int32} (p0 : is_X9 c0) {N : ux_N} {L : ux_L} {o : Int32 × ux_N} (hq : ux_Qi X o.1 o.2 L) (h : fX9_push c0 v1 v2 N = some o) : ux_Wt X 3 0 [(0, .ref (ux_ad X c0)), (1, .int v1), (2, .int v2)] [] N L := by
  refine wt_aload_n 1 0 C dX9_push_0 rfl rfl ?_
  refine wt_getI 4 C kfX9_18 (p0).1 rfl dX9_push_1 rfl ?_
  refine wt_if_ne 7 10 C dX9_push_4 rfl (by decide) (fun q1 => ?_) (fun q1 => ?_)
  · have h := (if_neg q1).symm.trans h
    refine wt_aload_n 11 0 C dX9_push_10 rfl rfl ?_
    refine wt_getI 14 C kfX9_22 (p0).1 rfl dX9_push_11 rfl ?_
    refine wt_bipush 16 8 C dX9_push_14 rfl (by decide) ?_
    refine wt_icmp_lt 19 22 C dX9_push_16 rfl (by decide) (fun q2 => ?_) (fun q2 => ?_)
    · have h := (if_pos q2).symm.trans h
      refine wt_aload_n 23 0 C dX9_push_22 rfl rfl ?_
      refine wt_getR 26 C kfX9_9 (p0).1 rfl dX9_push_23 rfl ?_
      refine wt_aload_n 27 0 C dX9_push_26 rfl rfl ?_
      refine wt_getI 30 C kfX9_22 (p0).1 rfl dX9_push_27 rfl ?_
      refine wt_iload_n 31 1 C dX9_push_30 rfl rfl ?_
      obtain ⟨hi3, h⟩ := ux_guard h
      refine wt_iast 32 ((N c0 1).toNatClampNeg) C (p0).2.1 rfl hi3 dX9_push_31 rfl ?_
      refine wt_aload_n 33 0 C dX9_push_32 rfl rfl ?_
      refine wt_getR 36 C kfX9_15 (p0).1 rfl dX9_push_33 rfl ?_
      refine wt_aload_n 37 0 C dX9_push_36 rfl rfl ?_
      refine wt_getI 40 C kfX9_22 (p0).1 rfl dX9_push_37 rfl ?_
      refine wt_iload_n 41 2 C dX9_push_40 rfl rfl ?_
      obtain ⟨hi4, h⟩ := ux_guard h
      refine wt_iast 42 (((ux_u N (c0 + 1) ((N c0 1).toNatClampNeg) v1) c0 1).toNatClampNeg) C (p0).2.2 rfl hi4 dX9_push_41 rfl ?_
      refine wt_aload_n 43 0 C dX9_push_42 rfl rfl ?_
      refine wt_dup 44 C dX9_push_43 rfl rfl ?_
      refine wt_getI 47 C kfX9_22 (p0).1 rfl dX9_push_44 rfl ?_
      refine wt_iconst 48 1 C dX9_push_47 rfl (by decide) ?_
      refine wt_iadd 49 C dX9_push_48 rfl ?_
      refine wt_putI 52 C kpX9_22 (p0).1 rfl rfl rfl dX9_push_49 rfl ?_
      refine wt_sub [0] rfl ?_
      exact wX9_push_52 C p0 hq h
    · have h := (if_neg q2).symm.trans h
      refine wt_bipush 21 (-14) C dX9_push_19 rfl (by decide) ?_
      cases h
      exact wt_iret C hq dX9_push_21
  · have h := (if_pos q1).symm.trans h
    refine wt_bipush 9 (-11) C dX9_push_7 rfl (by decide) ?_
    cases h
    exact wt_iret C hq dX9_push_9
theorem mX9_push {l : Launch} {G : ux_G} (hok : ux_ok G shC) {c0 : Nat} {v1 : Int32} {v2 : Int32} (p0 : is_X9 c0) {N : ux_N} {L : ux_L} {o : Int32 × ux_N} (h : fX9_push c0 v1 v2 N = some o) : ux_Mi l G yX9_push cX9_push 3 (some .int) 0 0 [.ref (gad G c0), .int v1, .int v2] N L o.1 o.2 L :=
  ux_ofi shC hok (by decide +kernel) (Nat.le_of_ble_eq_true rfl) (fun X hG hl C hq => by subst hG; subst hl; exact wX9_push C p0 hq h)
def fX9_pop_77 (c0 : Nat) (s0 : Int32) (N : ux_N) : Option (Int32 × ux_N) :=
  some (s0, N)
set_option maxHeartbeats 4000000 in
set_option maxRecDepth 20000 in
theorem wX9_pop_77 {X : ux_X} (C : ux_C X cX9_pop RX9 2 (some .int) 0 0 shC) {c0 : Nat} {s0 : Int32} (p0 : is_X9 c0) {N : ux_N} {L : ux_L} {o : Int32 × ux_N} (hq : ux_Qi X o.1 o.2 L) (h : fX9_pop_77 c0 s0 N = some o) : ux_Wt X 2 77 [] [.int s0] N L := by
  cases h
  exact wt_iret C hq dX9_pop_77
def fX9_pop (c0 : Nat) (v1 : Int32) (N : ux_N) : Option (Int32 × ux_N) :=
  if (N c0 0) = 0 then (some ((-11 : Int32), N)) else (if 0 < (N c0 1) then (if ux_in ((N c0 1) - (1 : Int32)) 8 then (if (N (c0 + 1) (((N c0 1) - (1 : Int32)).toNatClampNeg)) = v1 then (if v1 = (1 : Int32) then (if ux_in ((ux_u N c0 1 ((N c0 1) - (1 : Int32))) c0 1) 8 then (fX9_pop_77 c0 (((ux_u N c0 1 ((N c0 1) - (1 : Int32))) (c0 + 2) (((ux_u N c0 1 ((N c0 1) - (1 : Int32))) c0 1).toNatClampNeg)) + (50000 : Int32)) (ux_u N c0 1 ((N c0 1) - (1 : Int32)))) else none) else (if ux_in ((ux_u N c0 1 ((N c0 1) - (1 : Int32))) c0 1) 8 then (fX9_pop_77 c0 ((ux_u N c0 1 ((N c0 1) - (1 : Int32))) (c0 + 2) (((ux_u N c0 1 ((N c0 1) - (1 : Int32))) c0 1).toNatClampNeg)) (ux_u N c0 1 ((N c0 1) - (1 : Int32)))) else none)) else (some ((-13 : Int32), N))) else none) else (some ((-12 : Int32), N)))
set_option maxHeartbeats 4000000 in
set_option maxRecDepth 20000 in
theorem wX9_pop {X : ux_X} (C : ux_C X cX9_pop RX9 2 (some .int) 0 0 shC) {c0 : Nat} {v1 : Int32} (p0 : is_X9 c0) {N : ux_N} {L : ux_L} {o : Int32 × ux_N} (hq : ux_Qi X o.1 o.2 L) (h : fX9_pop c0 v1 N = some o) : ux_Wt X 2 0 [(0, .ref (ux_ad X c0)), (1, .int v1)] [] N L := by
  refine wt_aload_n 1 0 C dX9_pop_0 rfl rfl ?_
  refine wt_getI 4 C kfX9_18 (p0).1 rfl dX9_pop_1 rfl ?_
  refine wt_if_ne 7 10 C dX9_pop_4 rfl (by decide) (fun q1 => ?_) (fun q1 => ?_)
  · have h := (if_neg q1).symm.trans h
    refine wt_aload_n 11 0 C dX9_pop_10 rfl rfl ?_
    refine wt_getI 14 C kfX9_22 (p0).1 rfl dX9_pop_11 rfl ?_
    refine wt_if_gt 17 20 C dX9_pop_14 rfl (by decide) (fun q2 => ?_) (fun q2 => ?_)
    · have h := (if_pos q2).symm.trans h
      refine wt_aload_n 21 0 C dX9_pop_20 rfl rfl ?_
      refine wt_getR 24 C kfX9_9 (p0).1 rfl dX9_pop_21 rfl ?_
      refine wt_aload_n 25 0 C dX9_pop_24 rfl rfl ?_
      refine wt_getI 28 C kfX9_22 (p0).1 rfl dX9_pop_25 rfl ?_
      refine wt_iconst 29 1 C dX9_pop_28 rfl (by decide) ?_
      refine wt_isub 30 C dX9_pop_29 rfl ?_
      obtain ⟨hi3, h⟩ := ux_guard h
      refine wt_iald 31 (((N c0 1) - (1 : Int32)).toNatClampNeg) C (p0).2.1 rfl hi3 dX9_pop_30 rfl ?_
      refine wt_iload_n 32 1 C dX9_pop_31 rfl rfl ?_
      refine wt_icmp_eq 35 38 C dX9_pop_32 rfl (by decide) (fun q4 => ?_) (fun q4 => ?_)
      · have h := (if_pos q4).symm.trans h
        refine wt_aload_n 39 0 C dX9_pop_38 rfl rfl ?_
        refine wt_dup 40 C dX9_pop_39 rfl rfl ?_
        refine wt_getI 43 C kfX9_22 (p0).1 rfl dX9_pop_40 rfl ?_
        refine wt_iconst 44 1 C dX9_pop_43 rfl (by decide) ?_
        refine wt_isub 45 C dX9_pop_44 rfl ?_
        refine wt_putI 48 C kpX9_22 (p0).1 rfl rfl rfl dX9_pop_45 rfl ?_
        refine wt_iload_n 49 1 C dX9_pop_48 rfl rfl ?_
        refine wt_iconst 50 1 C dX9_pop_49 rfl (by decide) ?_
        refine wt_icmp_ne 53 68 C dX9_pop_50 rfl (by decide) (fun q5 => ?_) (fun q5 => ?_)
        · have h := (if_neg q5).symm.trans h
          refine wt_aload_n 69 0 C dX9_pop_68 rfl rfl ?_
          refine wt_getR 72 C kfX9_15 (p0).1 rfl dX9_pop_69 rfl ?_
          refine wt_aload_n 73 0 C dX9_pop_72 rfl rfl ?_
          refine wt_getI 76 C kfX9_22 (p0).1 rfl dX9_pop_73 rfl ?_
          obtain ⟨hi6, h⟩ := ux_guard h
          refine wt_iald 77 (((ux_u N c0 1 ((N c0 1) - (1 : Int32))) c0 1).toNatClampNeg) C (p0).2.2 rfl hi6 dX9_pop_76 rfl ?_
          refine wt_sub [] rfl ?_
          exact wX9_pop_77 C p0 hq h
        · have h := (if_pos q5).symm.trans h
          refine wt_aload_n 54 0 C dX9_pop_53 rfl rfl ?_
          refine wt_getR 57 C kfX9_15 (p0).1 rfl dX9_pop_54 rfl ?_
          refine wt_aload_n 58 0 C dX9_pop_57 rfl rfl ?_
          refine wt_getI 61 C kfX9_22 (p0).1 rfl dX9_pop_58 rfl ?_
          obtain ⟨hi7, h⟩ := ux_guard h
          refine wt_iald 62 (((ux_u N c0 1 ((N c0 1) - (1 : Int32))) c0 1).toNatClampNeg) C (p0).2.2 rfl hi7 dX9_pop_61 rfl ?_
          refine wt_ldc 64 C tw_992 dX9_pop_62 rfl ?_
          refine wt_iadd 65 C dX9_pop_64 rfl ?_
          refine wt_goto 77 C dX9_pop_65 (by decide) ?_
          refine wt_sub [] rfl ?_
          exact wX9_pop_77 C p0 hq h
      · have h := (if_neg q4).symm.trans h
        refine wt_bipush 37 (-13) C dX9_pop_35 rfl (by decide) ?_
        cases h
        exact wt_iret C hq dX9_pop_37
    · have h := (if_neg q2).symm.trans h
      refine wt_bipush 19 (-12) C dX9_pop_17 rfl (by decide) ?_
      cases h
      exact wt_iret C hq dX9_pop_19
  · have h := (if_pos q1).symm.trans h
    refine wt_bipush 9 (-11) C dX9_pop_7 rfl (by decide) ?_
    cases h
    exact wt_iret C hq dX9_pop_9
theorem mX9_pop {l : Launch} {G : ux_G} (hok : ux_ok G shC) {c0 : Nat} {v1 : Int32} (p0 : is_X9 c0) {N : ux_N} {L : ux_L} {o : Int32 × ux_N} (h : fX9_pop c0 v1 N = some o) : ux_Mi l G yX9_pop cX9_pop 2 (some .int) 0 0 [.ref (gad G c0), .int v1] N L o.1 o.2 L :=
  ux_ofi shC hok (by decide +kernel) (Nat.le_of_ble_eq_true rfl) (fun X hG hl C hq => by subst hG; subst hl; exact wX9_pop C p0 hq h)
def fX9_together_21b_97 (c0 : Nat) (v1 : Int32) (v2 : Int32) (v3 : Int32) (v4 : Int32) (v5 : Int32) (N : ux_N) : Option ((Int32 × Int32 × Int32 × Int32) ⊕ (Int32 × Int32 × Int32)) :=
  some (.inl (v2, v3, v4, (v5 + 1)))
set_option maxHeartbeats 4000000 in
set_option maxRecDepth 20000 in
theorem wX9_together_21b_97 {X : ux_X} (C : ux_C X cX9_together RX9 6 (some .int) 0 0 shC) {c0 : Nat} {v1 : Int32} {v2 : Int32} {v3 : Int32} {v4 : Int32} {v5 : Int32} (p0 : is_X9 c0) {N : ux_N} {L : ux_L} {o : (Int32 × Int32 × Int32 × Int32) ⊕ (Int32 × Int32 × Int32)} (hin : ∀ s : Int32 × Int32 × Int32 × Int32, o = .inl s → ux_Wt X 6 21 [(0, .ref (ux_ad X c0)), (1, .int v1), (2, .int s.1), (3, .int s.2.1), (4, .int s.2.2.1), (5, .int s.2.2.2)] [] N L) (hex0 : ∀ e : Int32 × Int32 × Int32, o = .inr (e) → ux_Wt X 6 103 [(1, .int v1), (2, .int e.1), (3, .int e.2.1), (4, .int e.2.2)] [] N L) (h : fX9_together_21b_97 c0 v1 v2 v3 v4 v5 N = some o) : ux_Wt X 6 97 [(0, .ref (ux_ad X c0)), (1, .int v1), (2, .int v2), (3, .int v3), (4, .int v4), (5, .int v5)] [] N L := by
  refine wt_iinc 100 5 [(5, .int (v5 + 1)), (0, .ref (ux_ad X c0)), (1, .int v1), (2, .int v2), (3, .int v3), (4, .int v4)] (v5 + 1) C dX9_together_97 rfl rfl (by rfl) (by decide) rfl ?_
  refine wt_goto 21 C dX9_together_100 (by decide) ?_
  refine wt_sub [1, 2, 3, 4, 5, 0] rfl ?_
  exact hin _ (Option.some.inj h).symm
def fX9_together_21b (c0 : Nat) (v1 : Int32) (v2 : Int32) (v3 : Int32) (v4 : Int32) (v5 : Int32) (N : ux_N) : Option ((Int32 × Int32 × Int32 × Int32) ⊕ (Int32 × Int32 × Int32)) :=
  if (N c0 1) ≤ v5 then (some (.inr ((v2, v3, v4)))) else (if ux_in v5 8 then (if (N (c0 + 1) (v5.toNatClampNeg)) = (0 : Int32) then (fX9_together_21b_97 c0 v1 (v2 + 1) v3 v4 v5 N) else (if (N (c0 + 1) (v5.toNatClampNeg)) = (1 : Int32) then (if ux_in v5 8 then (fX9_together_21b_97 c0 v1 v2 (v3 + (N (c0 + 2) (v5.toNatClampNeg))) v4 v5 N) else none) else (if ux_in v5 8 then (fX9_together_21b_97 c0 v1 v2 v3 (v4 ||| ((1 : Int32) <<< ((N (c0 + 2) (v5.toNatClampNeg)) &&& 31))) v5 N) else none))) else none)
set_option maxHeartbeats 4000000 in
set_option maxRecDepth 20000 in
theorem wX9_together_21b {X : ux_X} (C : ux_C X cX9_together RX9 6 (some .int) 0 0 shC) {c0 : Nat} {v1 : Int32} {v2 : Int32} {v3 : Int32} {v4 : Int32} {v5 : Int32} (p0 : is_X9 c0) {N : ux_N} {L : ux_L} {o : (Int32 × Int32 × Int32 × Int32) ⊕ (Int32 × Int32 × Int32)} (hin : ∀ s : Int32 × Int32 × Int32 × Int32, o = .inl s → ux_Wt X 6 21 [(0, .ref (ux_ad X c0)), (1, .int v1), (2, .int s.1), (3, .int s.2.1), (4, .int s.2.2.1), (5, .int s.2.2.2)] [] N L) (hex0 : ∀ e : Int32 × Int32 × Int32, o = .inr (e) → ux_Wt X 6 103 [(1, .int v1), (2, .int e.1), (3, .int e.2.1), (4, .int e.2.2)] [] N L) (h : fX9_together_21b c0 v1 v2 v3 v4 v5 N = some o) : ux_Wt X 6 21 [(0, .ref (ux_ad X c0)), (1, .int v1), (2, .int v2), (3, .int v3), (4, .int v4), (5, .int v5)] [] N L := by
  refine wt_iload 23 5 C dX9_together_21 rfl rfl ?_
  refine wt_aload_n 24 0 C dX9_together_23 rfl rfl ?_
  refine wt_getI 27 C kfX9_22 (p0).1 rfl dX9_together_24 rfl ?_
  refine wt_icmp_ge 30 103 C dX9_together_27 rfl (by decide) (fun q1 => ?_) (fun q1 => ?_)
  · have h := (if_pos q1).symm.trans h
    refine wt_sub [1, 2, 3, 4] rfl ?_
    exact hex0 _ (Option.some.inj h).symm
  · have h := (if_neg q1).symm.trans h
    refine wt_aload_n 31 0 C dX9_together_30 rfl rfl ?_
    refine wt_getR 34 C kfX9_9 (p0).1 rfl dX9_together_31 rfl ?_
    refine wt_iload 36 5 C dX9_together_34 rfl rfl ?_
    obtain ⟨hi2, h⟩ := ux_guard h
    refine wt_iald 37 (v5.toNatClampNeg) C (p0).2.1 rfl hi2 dX9_together_36 rfl ?_
    by_cases q3 : (N (c0 + 1) (v5.toNatClampNeg)) = (0 : Int32)
    · have h := (if_pos q3).symm.trans h
      refine wt_lsw 64 C dX9_together_37 (by decide) (by rw [q3]; rfl) (by decide) ?_
      refine wt_iinc 67 2 [(2, .int (v2 + 1)), (0, .ref (ux_ad X c0)), (1, .int v1), (3, .int v3), (4, .int v4), (5, .int v5)] (v2 + 1) C dX9_together_64 rfl rfl (by rfl) (by decide) rfl ?_
      refine wt_goto 97 C dX9_together_67 (by decide) ?_
      refine wt_sub [1, 2, 0, 3, 4, 5] rfl ?_
      exact wX9_together_21b_97 C p0 hin hex0 h
    have h := (if_neg q3).symm.trans h
    by_cases q4 : (N (c0 + 1) (v5.toNatClampNeg)) = (1 : Int32)
    · have h := (if_pos q4).symm.trans h
      refine wt_lsw 70 C dX9_together_37 (by decide) (by rw [q4]; rfl) (by decide) ?_
      refine wt_iload_n 71 3 C dX9_together_70 rfl rfl ?_
      refine wt_aload_n 72 0 C dX9_together_71 rfl rfl ?_
      refine wt_getR 75 C kfX9_15 (p0).1 rfl dX9_together_72 rfl ?_
      refine wt_iload 77 5 C dX9_together_75 rfl rfl ?_
      obtain ⟨hi5, h⟩ := ux_guard h
      refine wt_iald 78 (v5.toNatClampNeg) C (p0).2.2 rfl hi5 dX9_together_77 rfl ?_
      refine wt_iadd 79 C dX9_together_78 rfl ?_
      refine wt_istore_n 80 [(3, .int (v3 + (N (c0 + 2) (v5.toNatClampNeg)))), (0, .ref (ux_ad X c0)), (1, .int v1), (2, .int v2), (4, .int v4), (5, .int v5)] C dX9_together_79 rfl (by decide) rfl ?_
      refine wt_goto 97 C dX9_together_80 (by decide) ?_
      refine wt_sub [1, 2, 3, 0, 4, 5] rfl ?_
      exact wX9_together_21b_97 C p0 hin hex0 h
    have h := (if_neg q4).symm.trans h
    refine wt_lsw 83 C dX9_together_37 (by decide) (by rw [lv_osw q3 (by decide), lv_osw q4 (by decide)]; rfl) (by decide) ?_
    refine wt_iload 85 4 C dX9_together_83 rfl rfl ?_
    refine wt_iconst 86 1 C dX9_together_85 rfl (by decide) ?_
    refine wt_aload_n 87 0 C dX9_together_86 rfl rfl ?_
    refine wt_getR 90 C kfX9_15 (p0).1 rfl dX9_together_87 rfl ?_
    refine wt_iload 92 5 C dX9_together_90 rfl rfl ?_
    obtain ⟨hi6, h⟩ := ux_guard h
    refine wt_iald 93 (v5.toNatClampNeg) C (p0).2.2 rfl hi6 dX9_together_92 rfl ?_
    refine wt_ishl 94 C dX9_together_93 rfl ?_
    refine wt_ior 95 C dX9_together_94 rfl ?_
    refine wt_istore 97 [(4, .int (v4 ||| ((1 : Int32) <<< ((N (c0 + 2) (v5.toNatClampNeg)) &&& 31)))), (0, .ref (ux_ad X c0)), (1, .int v1), (2, .int v2), (3, .int v3), (5, .int v5)] C dX9_together_95 rfl (by decide) rfl ?_
    refine wt_sub [1, 2, 3, 4, 0, 5] rfl ?_
    exact wX9_together_21b_97 C p0 hin hex0 h
def fX9_together_120 (c0 : Nat) (s0 : Int32) (N : ux_N) : Option (Int32) :=
  some s0
set_option maxHeartbeats 4000000 in
set_option maxRecDepth 20000 in
theorem wX9_together_120 {X : ux_X} (C : ux_C X cX9_together RX9 6 (some .int) 0 0 shC) {c0 : Nat} {s0 : Int32} (p0 : is_X9 c0) {N : ux_N} {L : ux_L} {o : Int32} (hq : ux_Qi X o N L) (h : fX9_together_120 c0 s0 N = some o) : ux_Wt X 6 120 [] [.int s0] N L := by
  cases h
  exact wt_iret C hq dX9_together_120
def fX9_together (c0 : Nat) (v1 : Int32) (N : ux_N) : Option (Int32) :=
  if (N c0 0) = 0 then (some (-11 : Int32)) else ((ux_lp (fun s : Int32 × Int32 × Int32 × Int32 => fX9_together_21b c0 v1 s.1 s.2.1 s.2.2.1 s.2.2.2 N) ux_fu ((0 : Int32), (500000 : Int32), (0 : Int32), (0 : Int32))).bind (fun e9 => if v1 = 0 then (some e9.1) else (if v1 = (1 : Int32) then (fX9_together_120 c0 e9.2.1 N) else (fX9_together_120 c0 e9.2.2 N))))
set_option maxHeartbeats 4000000 in
set_option maxRecDepth 20000 in
theorem wX9_together {X : ux_X} (C : ux_C X cX9_together RX9 6 (some .int) 0 0 shC) {c0 : Nat} {v1 : Int32} (p0 : is_X9 c0) {N : ux_N} {L : ux_L} {o : Int32} (hq : ux_Qi X o N L) (h : fX9_together c0 v1 N = some o) : ux_Wt X 6 0 [(0, .ref (ux_ad X c0)), (1, .int v1)] [] N L := by
  refine wt_aload_n 1 0 C dX9_together_0 rfl rfl ?_
  refine wt_getI 4 C kfX9_18 (p0).1 rfl dX9_together_1 rfl ?_
  refine wt_if_ne 7 10 C dX9_together_4 rfl (by decide) (fun q1 => ?_) (fun q1 => ?_)
  · have h := (if_neg q1).symm.trans h
    refine wt_iconst 11 0 C dX9_together_10 rfl (by decide) ?_
    refine wt_istore_n 12 [(2, .int (0 : Int32)), (0, .ref (ux_ad X c0)), (1, .int v1)] C dX9_together_11 rfl (by decide) rfl ?_
    refine wt_ldc 14 C tw_1001 dX9_together_12 rfl ?_
    refine wt_istore_n 15 [(3, .int (500000 : Int32)), (2, .int (0 : Int32)), (0, .ref (ux_ad X c0)), (1, .int v1)] C dX9_together_14 rfl (by decide) rfl ?_
    refine wt_iconst 16 0 C dX9_together_15 rfl (by decide) ?_
    refine wt_istore 18 [(4, .int (0 : Int32)), (3, .int (500000 : Int32)), (2, .int (0 : Int32)), (0, .ref (ux_ad X c0)), (1, .int v1)] C dX9_together_16 rfl (by decide) rfl ?_
    refine wt_iconst 19 0 C dX9_together_18 rfl (by decide) ?_
    refine wt_istore 21 [(5, .int (0 : Int32)), (4, .int (0 : Int32)), (3, .int (500000 : Int32)), (2, .int (0 : Int32)), (0, .ref (ux_ad X c0)), (1, .int v1)] C dX9_together_19 rfl (by decide) rfl ?_
    obtain ⟨e2, hl3, h⟩ := Option.bind_eq_some_iff.mp h
    refine wt_sub [4, 5, 3, 2, 1, 0] rfl ?_
    refine ux_loop (fun s : Int32 × Int32 × Int32 × Int32 => fX9_together_21b c0 v1 s.1 s.2.1 s.2.2.1 s.2.2.2 N) (fun s : Int32 × Int32 × Int32 × Int32 => ux_Wt X 6 21 [(0, .ref (ux_ad X c0)), (1, .int v1), (2, .int s.1), (3, .int s.2.1), (4, .int s.2.2.1), (5, .int s.2.2.2)] [] N L) (e := e2) ?_ hl3
    intro s4 o5 hb6 hi7 hx8
    refine wX9_together_21b C p0 hi7 (fun x0 he => ?_) hb6
    · obtain ⟨e9, rfl⟩ : ∃ z, z = x0 := ⟨_, rfl⟩
      have h9 := hx8 _ he
      subst h9
      refine wt_iload_n 104 0 C dX9_together_103 rfl rfl ?_
      refine wt_if_ne 107 109 C dX9_together_104 rfl (by decide) (fun q10 => ?_) (fun q10 => ?_)
      · have h := (if_neg q10).symm.trans h
        refine wt_iload_n 110 0 C dX9_together_109 rfl rfl ?_
        refine wt_iconst 111 1 C dX9_together_110 rfl (by decide) ?_
        refine wt_icmp_ne 114 118 C dX9_together_111 rfl (by decide) (fun q11 => ?_) (fun q11 => ?_)
        · have h := (if_neg q11).symm.trans h
          refine wt_iload 120 3 C dX9_together_118 rfl rfl ?_
          refine wt_sub [] rfl ?_
          exact wX9_together_120 C p0 hq h
        · have h := (if_pos q11).symm.trans h
          refine wt_iload_n 115 2 C dX9_together_114 rfl rfl ?_
          refine wt_goto 120 C dX9_together_115 (by decide) ?_
          refine wt_sub [] rfl ?_
          exact wX9_together_120 C p0 hq h
      · have h := (if_pos q10).symm.trans h
        refine wt_iload_n 108 1 C dX9_together_107 rfl rfl ?_
        cases h
        exact wt_iret C hq dX9_together_108
  · have h := (if_pos q1).symm.trans h
    refine wt_bipush 9 (-11) C dX9_together_7 rfl (by decide) ?_
    cases h
    exact wt_iret C hq dX9_together_9
theorem mX9_together {l : Launch} {G : ux_G} (hok : ux_ok G shC) {c0 : Nat} {v1 : Int32} (p0 : is_X9 c0) {N : ux_N} {L : ux_L} {o : Int32} (h : fX9_together c0 v1 N = some o) : ux_Mi l G yX9_together cX9_together 6 (some .int) 0 0 [.ref (gad G c0), .int v1] N L o N L :=
  ux_ofi shC hok (by decide +kernel) (Nat.le_of_ble_eq_true rfl) (fun X hG hl C hq => by subst hG; subst hl; exact wX9_together C p0 hq h)
end
