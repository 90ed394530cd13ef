theorem dX0_startWithEmptySet_0 : decode cX0_startWithEmptySet 0 = .ok (.aload_n 0, 1) := by decide +kernel
theorem dX0_startWithEmptySet_1 : decode cX0_startWithEmptySet 1 = .ok (.getfield 11, 3) := by decide +kernel
theorem dX0_startWithEmptySet_4 : decode cX0_startWithEmptySet 4 = .ok (.iconst 0, 1) := by decide +kernel
theorem dX0_startWithEmptySet_5 : decode cX0_startWithEmptySet 5 = .ok (.lconst 1, 1) := by decide +kernel
theorem dX0_startWithEmptySet_6 : decode cX0_startWithEmptySet 6 = .ok (.lastore, 1) := by decide +kernel
theorem dX0_startWithEmptySet_7 : decode cX0_startWithEmptySet 7 = .ok (.iconst 1, 1) := by decide +kernel
theorem dX0_startWithEmptySet_8 : decode cX0_startWithEmptySet 8 = .ok (.istore_n 1, 1) := by decide +kernel
theorem dX0_startWithEmptySet_9 : decode cX0_startWithEmptySet 9 = .ok (.iload_n 1, 1) := by decide +kernel
theorem dX0_startWithEmptySet_10 : decode cX0_startWithEmptySet 10 = .ok (.bipush 16, 2) := by decide +kernel
theorem dX0_startWithEmptySet_12 : decode cX0_startWithEmptySet 12 = .ok (.if_icmp .ge 16, 3) := by decide +kernel
theorem dX0_startWithEmptySet_15 : decode cX0_startWithEmptySet 15 = .ok (.aload_n 0, 1) := by decide +kernel
theorem dX0_startWithEmptySet_16 : decode cX0_startWithEmptySet 16 = .ok (.getfield 11, 3) := by decide +kernel
theorem dX0_startWithEmptySet_19 : decode cX0_startWithEmptySet 19 = .ok (.iload_n 1, 1) := by decide +kernel
theorem dX0_startWithEmptySet_20 : decode cX0_startWithEmptySet 20 = .ok (.lconst 0, 1) := by decide +kernel
theorem dX0_startWithEmptySet_21 : decode cX0_startWithEmptySet 21 = .ok (.lastore, 1) := by decide +kernel
theorem dX0_startWithEmptySet_22 : decode cX0_startWithEmptySet 22 = .ok (.iinc 1 1, 3) := by decide +kernel
theorem dX0_startWithEmptySet_25 : decode cX0_startWithEmptySet 25 = .ok (.goto (-16), 3) := by decide +kernel
theorem dX0_startWithEmptySet_28 : decode cX0_startWithEmptySet 28 = .ok (.return_, 1) := by decide +kernel
theorem dX0_copyFrom_0 : decode cX0_copyFrom 0 = .ok (.aload_n 1, 1) := by decide +kernel
theorem dX0_copyFrom_1 : decode cX0_copyFrom 1 = .ok (.getfield 11, 3) := by decide +kernel
theorem dX0_copyFrom_4 : decode cX0_copyFrom 4 = .ok (.iconst 0, 1) := by decide +kernel
theorem dX0_copyFrom_5 : decode cX0_copyFrom 5 = .ok (.aload_n 0, 1) := by decide +kernel
theorem dX0_copyFrom_6 : decode cX0_copyFrom 6 = .ok (.getfield 11, 3) := by decide +kernel
theorem dX0_copyFrom_9 : decode cX0_copyFrom 9 = .ok (.iconst 0, 1) := by decide +kernel
theorem dX0_copyFrom_10 : decode cX0_copyFrom 10 = .ok (.bipush 16, 2) := by decide +kernel
theorem dX0_copyFrom_12 : decode cX0_copyFrom 12 = .ok (.invokestatic 18, 3) := by decide +kernel
theorem dX0_copyFrom_15 : decode cX0_copyFrom 15 = .ok (.return_, 1) := by decide +kernel
theorem dX0_include_0 : decode cX0_include 0 = .ok (.iload_n 1, 1) := by decide +kernel
theorem dX0_include_1 : decode cX0_include 1 = .ok (.bipush 64, 2) := by decide +kernel
theorem dX0_include_3 : decode cX0_include 3 = .ok (.idiv, 1) := by decide +kernel
theorem dX0_include_4 : decode cX0_include 4 = .ok (.istore_n 2, 1) := by decide +kernel
theorem dX0_include_5 : decode cX0_include 5 = .ok (.iload_n 2, 1) := by decide +kernel
theorem dX0_include_6 : decode cX0_include 6 = .ok (.ifCond .lt 24, 3) := by decide +kernel
theorem dX0_include_9 : decode cX0_include 9 = .ok (.iload_n 2, 1) := by decide +kernel
theorem dX0_include_10 : decode cX0_include 10 = .ok (.bipush 16, 2) := by decide +kernel
theorem dX0_include_12 : decode cX0_include 12 = .ok (.if_icmp .ge 18, 3) := by decide +kernel
theorem dX0_include_15 : decode cX0_include 15 = .ok (.aload_n 0, 1) := by decide +kernel
theorem dX0_include_16 : decode cX0_include 16 = .ok (.getfield 11, 3) := by decide +kernel
theorem dX0_include_19 : decode cX0_include 19 = .ok (.iload_n 2, 1) := by decide +kernel
theorem dX0_include_20 : decode cX0_include 20 = .ok (.dup2, 1) := by decide +kernel
theorem dX0_include_21 : decode cX0_include 21 = .ok (.laload, 1) := by decide +kernel
theorem dX0_include_22 : decode cX0_include 22 = .ok (.lconst 1, 1) := by decide +kernel
theorem dX0_include_23 : decode cX0_include 23 = .ok (.iload_n 1, 1) := by decide +kernel
theorem dX0_include_24 : decode cX0_include 24 = .ok (.bipush 64, 2) := by decide +kernel
theorem dX0_include_26 : decode cX0_include 26 = .ok (.irem, 1) := by decide +kernel
theorem dX0_include_27 : decode cX0_include 27 = .ok (.lshl, 1) := by decide +kernel
theorem dX0_include_28 : decode cX0_include 28 = .ok (.lor, 1) := by decide +kernel
theorem dX0_include_29 : decode cX0_include 29 = .ok (.lastore, 1) := by decide +kernel
theorem dX0_include_30 : decode cX0_include 30 = .ok (.return_, 1) := by decide +kernel
theorem dX0_holds_0 : decode cX0_holds 0 = .ok (.iload_n 1, 1) := by decide +kernel
theorem dX0_holds_1 : decode cX0_holds 1 = .ok (.bipush 64, 2) := by decide +kernel
theorem dX0_holds_3 : decode cX0_holds 3 = .ok (.idiv, 1) := by decide +kernel
theorem dX0_holds_4 : decode cX0_holds 4 = .ok (.istore_n 2, 1) := by decide +kernel
theorem dX0_holds_5 : decode cX0_holds 5 = .ok (.iload_n 2, 1) := by decide +kernel
theorem dX0_holds_6 : decode cX0_holds 6 = .ok (.ifCond .lt 31, 3) := by decide +kernel
theorem dX0_holds_9 : decode cX0_holds 9 = .ok (.iload_n 2, 1) := by decide +kernel
theorem dX0_holds_10 : decode cX0_holds 10 = .ok (.bipush 16, 2) := by decide +kernel
theorem dX0_holds_12 : decode cX0_holds 12 = .ok (.if_icmp .ge 25, 3) := by decide +kernel
theorem dX0_holds_15 : decode cX0_holds 15 = .ok (.aload_n 0, 1) := by decide +kernel
theorem dX0_holds_16 : decode cX0_holds 16 = .ok (.getfield 11, 3) := by decide +kernel
theorem dX0_holds_19 : decode cX0_holds 19 = .ok (.iload_n 2, 1) := by decide +kernel
theorem dX0_holds_20 : decode cX0_holds 20 = .ok (.laload, 1) := by decide +kernel
theorem dX0_holds_21 : decode cX0_holds 21 = .ok (.iload_n 1, 1) := by decide +kernel
theorem dX0_holds_22 : decode cX0_holds 22 = .ok (.bipush 64, 2) := by decide +kernel
theorem dX0_holds_24 : decode cX0_holds 24 = .ok (.irem, 1) := by decide +kernel
theorem dX0_holds_25 : decode cX0_holds 25 = .ok (.lshr, 1) := by decide +kernel
theorem dX0_holds_26 : decode cX0_holds 26 = .ok (.lconst 1, 1) := by decide +kernel
theorem dX0_holds_27 : decode cX0_holds 27 = .ok (.land, 1) := by decide +kernel
theorem dX0_holds_28 : decode cX0_holds 28 = .ok (.lconst 1, 1) := by decide +kernel
theorem dX0_holds_29 : decode cX0_holds 29 = .ok (.lcmp, 1) := by decide +kernel
theorem dX0_holds_30 : decode cX0_holds 30 = .ok (.ifCond .ne 7, 3) := by decide +kernel
theorem dX0_holds_33 : decode cX0_holds 33 = .ok (.iconst 1, 1) := by decide +kernel
theorem dX0_holds_34 : decode cX0_holds 34 = .ok (.goto 4, 3) := by decide +kernel
theorem dX0_holds_37 : decode cX0_holds 37 = .ok (.iconst 0, 1) := by decide +kernel
theorem dX0_holds_38 : decode cX0_holds 38 = .ok (.ireturn, 1) := by decide +kernel
theorem dX0_joinLine_0 : decode cX0_joinLine 0 = .ok (.iload_n 1, 1) := by decide +kernel
theorem dX0_joinLine_1 : decode cX0_joinLine 1 = .ok (.bipush 6, 2) := by decide +kernel
theorem dX0_joinLine_3 : decode cX0_joinLine 3 = .ok (.if_icmp .ge 50, 3) := by decide +kernel
theorem dX0_joinLine_6 : decode cX0_joinLine 6 = .ok (.iconst 0, 1) := by decide +kernel
theorem dX0_joinLine_7 : decode cX0_joinLine 7 = .ok (.istore_n 3, 1) := by decide +kernel
theorem dX0_joinLine_8 : decode cX0_joinLine 8 = .ok (.iload_n 3, 1) := by decide +kernel
theorem dX0_joinLine_9 : decode cX0_joinLine 9 = .ok (.bipush 16, 2) := by decide +kernel
theorem dX0_joinLine_11 : decode cX0_joinLine 11 = .ok (.if_icmp .ge 41, 3) := by decide +kernel
theorem dX0_joinLine_14 : decode cX0_joinLine 14 = .ok (.aload_n 0, 1) := by decide +kernel
theorem dX0_joinLine_15 : decode cX0_joinLine 15 = .ok (.getfield 11, 3) := by decide +kernel
theorem dX0_joinLine_18 : decode cX0_joinLine 18 = .ok (.iload_n 3, 1) := by decide +kernel
theorem dX0_joinLine_19 : decode cX0_joinLine 19 = .ok (.dup2, 1) := by decide +kernel
theorem dX0_joinLine_20 : decode cX0_joinLine 20 = .ok (.laload, 1) := by decide +kernel
theorem dX0_joinLine_21 : decode cX0_joinLine 21 = .ok (.aload_n 0, 1) := by decide +kernel
theorem dX0_joinLine_22 : decode cX0_joinLine 22 = .ok (.getfield 15, 3) := by decide +kernel
theorem dX0_joinLine_25 : decode cX0_joinLine 25 = .ok (.iload_n 3, 1) := by decide +kernel
theorem dX0_joinLine_26 : decode cX0_joinLine 26 = .ok (.laload, 1) := by decide +kernel
theorem dX0_joinLine_27 : decode cX0_joinLine 27 = .ok (.getstatic 28, 3) := by decide +kernel
theorem dX0_joinLine_30 : decode cX0_joinLine 30 = .ok (.iload_n 1, 1) := by decide +kernel
theorem dX0_joinLine_31 : decode cX0_joinLine 31 = .ok (.laload, 1) := by decide +kernel
theorem dX0_joinLine_32 : decode cX0_joinLine 32 = .ok (.land, 1) := by decide +kernel
theorem dX0_joinLine_33 : decode cX0_joinLine 33 = .ok (.iconst 1, 1) := by decide +kernel
theorem dX0_joinLine_34 : decode cX0_joinLine 34 = .ok (.iload_n 1, 1) := by decide +kernel
theorem dX0_joinLine_35 : decode cX0_joinLine 35 = .ok (.ishl, 1) := by decide +kernel
theorem dX0_joinLine_36 : decode cX0_joinLine 36 = .ok (.lshl, 1) := by decide +kernel
theorem dX0_joinLine_37 : decode cX0_joinLine 37 = .ok (.aload_n 2, 1) := by decide +kernel
theorem dX0_joinLine_38 : decode cX0_joinLine 38 = .ok (.getfield 11, 3) := by decide +kernel
theorem dX0_joinLine_41 : decode cX0_joinLine 41 = .ok (.iload_n 3, 1) := by decide +kernel
theorem dX0_joinLine_42 : decode cX0_joinLine 42 = .ok (.laload, 1) := by decide +kernel
theorem dX0_joinLine_43 : decode cX0_joinLine 43 = .ok (.land, 1) := by decide +kernel
theorem dX0_joinLine_44 : decode cX0_joinLine 44 = .ok (.lor, 1) := by decide +kernel
theorem dX0_joinLine_45 : decode cX0_joinLine 45 = .ok (.lastore, 1) := by decide +kernel
theorem dX0_joinLine_46 : decode cX0_joinLine 46 = .ok (.iinc 3 1, 3) := by decide +kernel
theorem dX0_joinLine_49 : decode cX0_joinLine 49 = .ok (.goto (-41), 3) := by decide +kernel
theorem dX0_joinLine_52 : decode cX0_joinLine 52 = .ok (.return_, 1) := by decide +kernel
theorem dX0_joinLine_53 : decode cX0_joinLine 53 = .ok (.iconst 1, 1) := by decide +kernel
theorem dX0_joinLine_54 : decode cX0_joinLine 54 = .ok (.iload_n 1, 1) := by decide +kernel
theorem dX0_joinLine_55 : decode cX0_joinLine 55 = .ok (.bipush 6, 2) := by decide +kernel
theorem dX0_joinLine_57 : decode cX0_joinLine 57 = .ok (.isub, 1) := by decide +kernel
theorem dX0_joinLine_58 : decode cX0_joinLine 58 = .ok (.ishl, 1) := by decide +kernel
theorem dX0_joinLine_59 : decode cX0_joinLine 59 = .ok (.istore_n 3, 1) := by decide +kernel
theorem dX0_joinLine_60 : decode cX0_joinLine 60 = .ok (.iconst 0, 1) := by decide +kernel
theorem dX0_joinLine_61 : decode cX0_joinLine 61 = .ok (.istore 4, 2) := by decide +kernel
theorem dX0_joinLine_63 : decode cX0_joinLine 63 = .ok (.iload 4, 2) := by decide +kernel
theorem dX0_joinLine_65 : decode cX0_joinLine 65 = .ok (.iload_n 3, 1) := by decide +kernel
theorem dX0_joinLine_66 : decode cX0_joinLine 66 = .ok (.iadd, 1) := by decide +kernel
theorem dX0_joinLine_67 : decode cX0_joinLine 67 = .ok (.bipush 16, 2) := by decide +kernel
theorem dX0_joinLine_69 : decode cX0_joinLine 69 = .ok (.if_icmp .ge 45, 3) := by decide +kernel
theorem dX0_joinLine_72 : decode cX0_joinLine 72 = .ok (.iload 4, 2) := by decide +kernel
theorem dX0_joinLine_74 : decode cX0_joinLine 74 = .ok (.iload_n 3, 1) := by decide +kernel
theorem dX0_joinLine_75 : decode cX0_joinLine 75 = .ok (.iand, 1) := by decide +kernel
theorem dX0_joinLine_76 : decode cX0_joinLine 76 = .ok (.ifCond .ne 32, 3) := by decide +kernel
theorem dX0_joinLine_79 : decode cX0_joinLine 79 = .ok (.aload_n 0, 1) := by decide +kernel
theorem dX0_joinLine_80 : decode cX0_joinLine 80 = .ok (.getfield 11, 3) := by decide +kernel
theorem dX0_joinLine_83 : decode cX0_joinLine 83 = .ok (.iload 4, 2) := by decide +kernel
theorem dX0_joinLine_85 : decode cX0_joinLine 85 = .ok (.iload_n 3, 1) := by decide +kernel
theorem dX0_joinLine_86 : decode cX0_joinLine 86 = .ok (.iadd, 1) := by decide +kernel
theorem dX0_joinLine_87 : decode cX0_joinLine 87 = .ok (.dup2, 1) := by decide +kernel
theorem dX0_joinLine_88 : decode cX0_joinLine 88 = .ok (.laload, 1) := by decide +kernel
theorem dX0_joinLine_89 : decode cX0_joinLine 89 = .ok (.aload_n 0, 1) := by decide +kernel
theorem dX0_joinLine_90 : decode cX0_joinLine 90 = .ok (.getfield 15, 3) := by decide +kernel
theorem dX0_joinLine_93 : decode cX0_joinLine 93 = .ok (.iload 4, 2) := by decide +kernel
theorem dX0_joinLine_95 : decode cX0_joinLine 95 = .ok (.laload, 1) := by decide +kernel
theorem dX0_joinLine_96 : decode cX0_joinLine 96 = .ok (.aload_n 2, 1) := by decide +kernel
theorem dX0_joinLine_97 : decode cX0_joinLine 97 = .ok (.getfield 11, 3) := by decide +kernel
theorem dX0_joinLine_100 : decode cX0_joinLine 100 = .ok (.iload 4, 2) := by decide +kernel
theorem dX0_joinLine_102 : decode cX0_joinLine 102 = .ok (.iload_n 3, 1) := by decide +kernel
theorem dX0_joinLine_103 : decode cX0_joinLine 103 = .ok (.iadd, 1) := by decide +kernel
theorem dX0_joinLine_104 : decode cX0_joinLine 104 = .ok (.laload, 1) := by decide +kernel
theorem dX0_joinLine_105 : decode cX0_joinLine 105 = .ok (.land, 1) := by decide +kernel
theorem dX0_joinLine_106 : decode cX0_joinLine 106 = .ok (.lor, 1) := by decide +kernel
theorem dX0_joinLine_107 : decode cX0_joinLine 107 = .ok (.lastore, 1) := by decide +kernel
theorem dX0_joinLine_108 : decode cX0_joinLine 108 = .ok (.iinc 4 1, 3) := by decide +kernel
theorem dX0_joinLine_111 : decode cX0_joinLine 111 = .ok (.goto (-48), 3) := by decide +kernel
theorem dX0_joinLine_114 : decode cX0_joinLine 114 = .ok (.return_, 1) := by decide +kernel
theorem dX0_joinMeter_0 : decode cX0_joinMeter 0 = .ok (.aload_n 0, 1) := by decide +kernel
theorem dX0_joinMeter_1 : decode cX0_joinMeter 1 = .ok (.getfield 11, 3) := by decide +kernel
theorem dX0_joinMeter_4 : decode cX0_joinMeter 4 = .ok (.iconst 0, 1) := by decide +kernel
theorem dX0_joinMeter_5 : decode cX0_joinMeter 5 = .ok (.aload_n 0, 1) := by decide +kernel
theorem dX0_joinMeter_6 : decode cX0_joinMeter 6 = .ok (.getfield 15, 3) := by decide +kernel
theorem dX0_joinMeter_9 : decode cX0_joinMeter 9 = .ok (.iconst 0, 1) := by decide +kernel
theorem dX0_joinMeter_10 : decode cX0_joinMeter 10 = .ok (.bipush 16, 2) := by decide +kernel
theorem dX0_joinMeter_12 : decode cX0_joinMeter 12 = .ok (.invokestatic 18, 3) := by decide +kernel
theorem dX0_joinMeter_15 : decode cX0_joinMeter 15 = .ok (.iconst 0, 1) := by decide +kernel
theorem dX0_joinMeter_16 : decode cX0_joinMeter 16 = .ok (.istore_n 3, 1) := by decide +kernel
theorem dX0_joinMeter_17 : decode cX0_joinMeter 17 = .ok (.iload_n 3, 1) := by decide +kernel
theorem dX0_joinMeter_18 : decode cX0_joinMeter 18 = .ok (.bipush 10, 2) := by decide +kernel
theorem dX0_joinMeter_20 : decode cX0_joinMeter 20 = .ok (.if_icmp .ge 24, 3) := by decide +kernel
theorem dX0_joinMeter_23 : decode cX0_joinMeter 23 = .ok (.iload_n 1, 1) := by decide +kernel
theorem dX0_joinMeter_24 : decode cX0_joinMeter 24 = .ok (.iload_n 3, 1) := by decide +kernel
theorem dX0_joinMeter_25 : decode cX0_joinMeter 25 = .ok (.ishr, 1) := by decide +kernel
theorem dX0_joinMeter_26 : decode cX0_joinMeter 26 = .ok (.iconst 1, 1) := by decide +kernel
theorem dX0_joinMeter_27 : decode cX0_joinMeter 27 = .ok (.iand, 1) := by decide +kernel
theorem dX0_joinMeter_28 : decode cX0_joinMeter 28 = .ok (.iconst 1, 1) := by decide +kernel
theorem dX0_joinMeter_29 : decode cX0_joinMeter 29 = .ok (.if_icmp .ne 9, 3) := by decide +kernel
theorem dX0_joinMeter_32 : decode cX0_joinMeter 32 = .ok (.aload_n 0, 1) := by decide +kernel
theorem dX0_joinMeter_33 : decode cX0_joinMeter 33 = .ok (.iload_n 3, 1) := by decide +kernel
theorem dX0_joinMeter_34 : decode cX0_joinMeter 34 = .ok (.aload_n 2, 1) := by decide +kernel
theorem dX0_joinMeter_35 : decode cX0_joinMeter 35 = .ok (.invokevirtual 24, 3) := by decide +kernel
theorem dX0_joinMeter_38 : decode cX0_joinMeter 38 = .ok (.iinc 3 1, 3) := by decide +kernel
theorem dX0_joinMeter_41 : decode cX0_joinMeter 41 = .ok (.goto (-24), 3) := by decide +kernel
theorem dX0_joinMeter_44 : decode cX0_joinMeter 44 = .ok (.return_, 1) := by decide +kernel
theorem dX0_mostLines_0 : decode cX0_mostLines 0 = .ok (.iconst 0, 1) := by decide +kernel
theorem dX0_mostLines_1 : decode cX0_mostLines 1 = .ok (.istore_n 1, 1) := by decide +kernel
theorem dX0_mostLines_2 : decode cX0_mostLines 2 = .ok (.iconst 0, 1) := by decide +kernel
theorem dX0_mostLines_3 : decode cX0_mostLines 3 = .ok (.istore_n 2, 1) := by decide +kernel
theorem dX0_mostLines_4 : decode cX0_mostLines 4 = .ok (.iload_n 2, 1) := by decide +kernel
theorem dX0_mostLines_5 : decode cX0_mostLines 5 = .ok (.bipush 16, 2) := by decide +kernel
theorem dX0_mostLines_7 : decode cX0_mostLines 7 = .ok (.if_icmp .ge 60, 3) := by decide +kernel
theorem dX0_mostLines_10 : decode cX0_mostLines 10 = .ok (.iload_n 2, 1) := by decide +kernel
theorem dX0_mostLines_11 : decode cX0_mostLines 11 = .ok (.invokestatic 31, 3) := by decide +kernel
theorem dX0_mostLines_14 : decode cX0_mostLines 14 = .ok (.istore_n 3, 1) := by decide +kernel
theorem dX0_mostLines_15 : decode cX0_mostLines 15 = .ok (.bipush 6, 2) := by decide +kernel
theorem dX0_mostLines_17 : decode cX0_mostLines 17 = .ok (.istore 4, 2) := by decide +kernel
theorem dX0_mostLines_19 : decode cX0_mostLines 19 = .ok (.iload 4, 2) := by decide +kernel
theorem dX0_mostLines_21 : decode cX0_mostLines 21 = .ok (.ifCond .lt 40, 3) := by decide +kernel
theorem dX0_mostLines_24 : decode cX0_mostLines 24 = .ok (.iload_n 3, 1) := by decide +kernel
theorem dX0_mostLines_25 : decode cX0_mostLines 25 = .ok (.iload 4, 2) := by decide +kernel
theorem dX0_mostLines_27 : decode cX0_mostLines 27 = .ok (.iadd, 1) := by decide +kernel
theorem dX0_mostLines_28 : decode cX0_mostLines 28 = .ok (.iload_n 1, 1) := by decide +kernel
theorem dX0_mostLines_29 : decode cX0_mostLines 29 = .ok (.if_icmp .le 32, 3) := by decide +kernel
theorem dX0_mostLines_32 : decode cX0_mostLines 32 = .ok (.aload_n 0, 1) := by decide +kernel
theorem dX0_mostLines_33 : decode cX0_mostLines 33 = .ok (.getfield 11, 3) := by decide +kernel
theorem dX0_mostLines_36 : decode cX0_mostLines 36 = .ok (.iload_n 2, 1) := by decide +kernel
theorem dX0_mostLines_37 : decode cX0_mostLines 37 = .ok (.laload, 1) := by decide +kernel
theorem dX0_mostLines_38 : decode cX0_mostLines 38 = .ok (.getstatic 37, 3) := by decide +kernel
theorem dX0_mostLines_41 : decode cX0_mostLines 41 = .ok (.iload 4, 2) := by decide +kernel
theorem dX0_mostLines_43 : decode cX0_mostLines 43 = .ok (.laload, 1) := by decide +kernel
theorem dX0_mostLines_44 : decode cX0_mostLines 44 = .ok (.land, 1) := by decide +kernel
theorem dX0_mostLines_45 : decode cX0_mostLines 45 = .ok (.lconst 0, 1) := by decide +kernel
theorem dX0_mostLines_46 : decode cX0_mostLines 46 = .ok (.lcmp, 1) := by decide +kernel
theorem dX0_mostLines_47 : decode cX0_mostLines 47 = .ok (.ifCond .eq 8, 3) := by decide +kernel
theorem dX0_mostLines_50 : decode cX0_mostLines 50 = .ok (.iload_n 3, 1) := by decide +kernel
theorem dX0_mostLines_51 : decode cX0_mostLines 51 = .ok (.iload 4, 2) := by decide +kernel
theorem dX0_mostLines_53 : decode cX0_mostLines 53 = .ok (.iadd, 1) := by decide +kernel
theorem dX0_mostLines_54 : decode cX0_mostLines 54 = .ok (.istore_n 1, 1) := by decide +kernel
theorem dX0_mostLines_55 : decode cX0_mostLines 55 = .ok (.iinc 4 (-1), 3) := by decide +kernel
theorem dX0_mostLines_58 : decode cX0_mostLines 58 = .ok (.goto (-39), 3) := by decide +kernel
theorem dX0_mostLines_61 : decode cX0_mostLines 61 = .ok (.iinc 2 1, 3) := by decide +kernel
theorem dX0_mostLines_64 : decode cX0_mostLines 64 = .ok (.goto (-60), 3) := by decide +kernel
theorem dX0_mostLines_67 : decode cX0_mostLines 67 = .ok (.iload_n 1, 1) := by decide +kernel
theorem dX0_mostLines_68 : decode cX0_mostLines 68 = .ok (.ireturn, 1) := by decide +kernel
theorem dX0_leastSet_0 : decode cX0_leastSet 0 = .ok (.iconst 0, 1) := by decide +kernel
theorem dX0_leastSet_1 : decode cX0_leastSet 1 = .ok (.istore_n 2, 1) := by decide +kernel
theorem dX0_leastSet_2 : decode cX0_leastSet 2 = .ok (.iload_n 2, 1) := by decide +kernel
theorem dX0_leastSet_3 : decode cX0_leastSet 3 = .ok (.bipush 16, 2) := by decide +kernel
theorem dX0_leastSet_5 : decode cX0_leastSet 5 = .ok (.if_icmp .ge 74, 3) := by decide +kernel
theorem dX0_leastSet_8 : decode cX0_leastSet 8 = .ok (.iload_n 1, 1) := by decide +kernel
theorem dX0_leastSet_9 : decode cX0_leastSet 9 = .ok (.iload_n 2, 1) := by decide +kernel
theorem dX0_leastSet_10 : decode cX0_leastSet 10 = .ok (.invokestatic 31, 3) := by decide +kernel
theorem dX0_leastSet_13 : decode cX0_leastSet 13 = .ok (.isub, 1) := by decide +kernel
theorem dX0_leastSet_14 : decode cX0_leastSet 14 = .ok (.istore_n 3, 1) := by decide +kernel
theorem dX0_leastSet_15 : decode cX0_leastSet 15 = .ok (.iload_n 3, 1) := by decide +kernel
theorem dX0_leastSet_16 : decode cX0_leastSet 16 = .ok (.ifCond .lt 57, 3) := by decide +kernel
theorem dX0_leastSet_19 : decode cX0_leastSet 19 = .ok (.iload_n 3, 1) := by decide +kernel
theorem dX0_leastSet_20 : decode cX0_leastSet 20 = .ok (.bipush 6, 2) := by decide +kernel
theorem dX0_leastSet_22 : decode cX0_leastSet 22 = .ok (.if_icmp .gt 51, 3) := by decide +kernel
theorem dX0_leastSet_25 : decode cX0_leastSet 25 = .ok (.aload_n 0, 1) := by decide +kernel
theorem dX0_leastSet_26 : decode cX0_leastSet 26 = .ok (.getfield 11, 3) := by decide +kernel
theorem dX0_leastSet_29 : decode cX0_leastSet 29 = .ok (.iload_n 2, 1) := by decide +kernel
theorem dX0_leastSet_30 : decode cX0_leastSet 30 = .ok (.laload, 1) := by decide +kernel
theorem dX0_leastSet_31 : decode cX0_leastSet 31 = .ok (.getstatic 37, 3) := by decide +kernel
theorem dX0_leastSet_34 : decode cX0_leastSet 34 = .ok (.iload_n 3, 1) := by decide +kernel
theorem dX0_leastSet_35 : decode cX0_leastSet 35 = .ok (.laload, 1) := by decide +kernel
theorem dX0_leastSet_36 : decode cX0_leastSet 36 = .ok (.land, 1) := by decide +kernel
theorem dX0_leastSet_37 : decode cX0_leastSet 37 = .ok (.lconst 0, 1) := by decide +kernel
theorem dX0_leastSet_38 : decode cX0_leastSet 38 = .ok (.lcmp, 1) := by decide +kernel
theorem dX0_leastSet_39 : decode cX0_leastSet 39 = .ok (.ifCond .eq 34, 3) := by decide +kernel
theorem dX0_leastSet_42 : decode cX0_leastSet 42 = .ok (.aload_n 0, 1) := by decide +kernel
theorem dX0_leastSet_43 : decode cX0_leastSet 43 = .ok (.getfield 11, 3) := by decide +kernel
theorem dX0_leastSet_46 : decode cX0_leastSet 46 = .ok (.iload_n 2, 1) := by decide +kernel
theorem dX0_leastSet_47 : decode cX0_leastSet 47 = .ok (.laload, 1) := by decide +kernel
theorem dX0_leastSet_48 : decode cX0_leastSet 48 = .ok (.getstatic 37, 3) := by decide +kernel
theorem dX0_leastSet_51 : decode cX0_leastSet 51 = .ok (.iload_n 3, 1) := by decide +kernel
theorem dX0_leastSet_52 : decode cX0_leastSet 52 = .ok (.laload, 1) := by decide +kernel
theorem dX0_leastSet_53 : decode cX0_leastSet 53 = .ok (.land, 1) := by decide +kernel
theorem dX0_leastSet_54 : decode cX0_leastSet 54 = .ok (.lstore 4, 2) := by decide +kernel
theorem dX0_leastSet_56 : decode cX0_leastSet 56 = .ok (.iload_n 2, 1) := by decide +kernel
theorem dX0_leastSet_57 : decode cX0_leastSet 57 = .ok (.bipush 64, 2) := by decide +kernel
theorem dX0_leastSet_59 : decode cX0_leastSet 59 = .ok (.imul, 1) := by decide +kernel
theorem dX0_leastSet_60 : decode cX0_leastSet 60 = .ok (.lload 4, 2) := by decide +kernel
theorem dX0_leastSet_62 : decode cX0_leastSet 62 = .ok (.lload 4, 2) := by decide +kernel
theorem dX0_leastSet_64 : decode cX0_leastSet 64 = .ok (.lneg, 1) := by decide +kernel
theorem dX0_leastSet_65 : decode cX0_leastSet 65 = .ok (.land, 1) := by decide +kernel
theorem dX0_leastSet_66 : decode cX0_leastSet 66 = .ok (.lconst 1, 1) := by decide +kernel
theorem dX0_leastSet_67 : decode cX0_leastSet 67 = .ok (.lsub, 1) := by decide +kernel
theorem dX0_leastSet_68 : decode cX0_leastSet 68 = .ok (.invokestatic 40, 3) := by decide +kernel
theorem dX0_leastSet_71 : decode cX0_leastSet 71 = .ok (.iadd, 1) := by decide +kernel
theorem dX0_leastSet_72 : decode cX0_leastSet 72 = .ok (.ireturn, 1) := by decide +kernel
theorem dX0_leastSet_73 : decode cX0_leastSet 73 = .ok (.iinc 2 1, 3) := by decide +kernel
theorem dX0_leastSet_76 : decode cX0_leastSet 76 = .ok (.goto (-74), 3) := by decide +kernel
theorem dX0_leastSet_79 : decode cX0_leastSet 79 = .ok (.iconst 0, 1) := by decide +kernel
theorem dX0_leastSet_80 : decode cX0_leastSet 80 = .ok (.ireturn, 1) := by decide +kernel
theorem kfX0_11 : ux_FL RX0 11 0 0 := ⟨RX0, TX0, 2, rfl, lay_X0, by decide, tw_264⟩
theorem kaX0_18 : ux_LA RX0 18 := ⟨tw_512, tw_464, tw_463, tw_85⟩
theorem kfX0_15 : ux_FL RX0 15 0 1 := ⟨RX0, TX0, 2, rfl, lay_X0, by decide, tw_265⟩
theorem kvX0_24 : ux_LV RX0 24 0 yX0_joinLine cX0_joinLine 5 none 2 := ⟨⟨TX0, 2, rfl⟩, tw_513, tw_515, tw_5, tw_78, tw_516, ⟨by decide, by decide, by decide +kernel⟩⟩
theorem ksX0_31 : ux_LS RX0 31 yJ6_bitCount_0f7a4 cJ6_bitCount_0f7a4 1 (some .int) 1 := ⟨tw_523, tw_441, tw_84, tw_442, ⟨by decide, by decide, by decide +kernel⟩⟩
theorem ksX0_40 : ux_LS RX0 40 yJ13_bitCount_95d88 cJ13_bitCount_95d88 2 (some .int) 1 := ⟨tw_530, tw_531, tw_86, tw_532, ⟨by decide, by decide, by decide +kernel⟩⟩
def fX0_startWithEmptySet_9b (c0 : Nat) (v1 : Int32) (L : ux_L) : Option ((Int32 × ux_L) ⊕ (ux_L)) :=
  if (16 : Int32) ≤ v1 then (some (.inr (L))) else (if ux_in v1 16 then (some (.inl ((v1 + 1), (ux_w L (c0 + 1) (v1.toNatClampNeg) (0 : Int64))))) else none)
set_option maxHeartbeats 4000000 in
set_option maxRecDepth 20000 in
theorem wX0_startWithEmptySet_9b {X : ux_X} (C : ux_C X cX0_startWithEmptySet RX0 2 none 0 0 shC) {c0 : Nat} {v1 : Int32} (p0 : is_X0 c0) {N : ux_N} {L : ux_L} {o : (Int32 × ux_L) ⊕ (ux_L)} (hin : ∀ s : Int32 × ux_L, o = .inl s → ux_Wt X 2 9 [(0, .ref (ux_ad X c0)), (1, .int s.1)] [] N s.2) (hex0 : ∀ e : ux_L, o = .inr (e) → ux_Wt X 2 28 [] [] N e) (h : fX0_startWithEmptySet_9b c0 v1 L = some o) : ux_Wt X 2 9 [(0, .ref (ux_ad X c0)), (1, .int v1)] [] N L := by
  refine wt_iload_n 10 1 C dX0_startWithEmptySet_9 rfl rfl ?_
  refine wt_bipush 12 16 C dX0_startWithEmptySet_10 rfl (by decide) ?_
  refine wt_icmp_ge 15 28 C dX0_startWithEmptySet_12 rfl (by decide) (fun q1 => ?_) (fun q1 => ?_)
  · have h := (if_pos q1).symm.trans h
    refine wt_sub [] rfl ?_
    exact hex0 _ (Option.some.inj h).symm
  · have h := (if_neg q1).symm.trans h
    refine wt_aload_n 16 0 C dX0_startWithEmptySet_15 rfl rfl ?_
    refine wt_getR 19 C kfX0_11 (p0).1 rfl dX0_startWithEmptySet_16 rfl ?_
    refine wt_iload_n 20 1 C dX0_startWithEmptySet_19 rfl rfl ?_
    refine wt_lconst 21 0 C dX0_startWithEmptySet_20 rfl (by decide) ?_
    obtain ⟨hi2, h⟩ := ux_guard h
    refine wt_last 22 (v1.toNatClampNeg) C (p0).2.1 rfl hi2 dX0_startWithEmptySet_21 rfl ?_
    refine wt_iinc 25 1 [(1, .int (v1 + 1)), (0, .ref (ux_ad X c0))] (v1 + 1) C dX0_startWithEmptySet_22 rfl rfl (by rfl) (by decide) rfl ?_
    refine wt_goto 9 C dX0_startWithEmptySet_25 (by decide) ?_
    refine wt_sub [1, 0] rfl ?_
    exact hin _ (Option.some.inj h).symm
def fX0_startWithEmptySet (c0 : Nat) (L : ux_L) : Option (ux_L) :=
  (ux_lp (fun s : Int32 × ux_L => fX0_startWithEmptySet_9b c0 s.1 s.2) ux_fu ((1 : Int32), (ux_w L (c0 + 1) 0 (1 : Int64)))).bind (fun e8 => some e8)
set_option maxHeartbeats 4000000 in
set_option maxRecDepth 20000 in
theorem wX0_startWithEmptySet {X : ux_X} (C : ux_C X cX0_startWithEmptySet RX0 2 none 0 0 shC) {c0 : Nat} (p0 : is_X0 c0) {N : ux_N} {L : ux_L} {o : ux_L} (hq : ux_Qv X N o) (h : fX0_startWithEmptySet c0 L = some o) : ux_Wt X 2 0 [(0, .ref (ux_ad X c0))] [] N L := by
  refine wt_aload_n 1 0 C dX0_startWithEmptySet_0 rfl rfl ?_
  refine wt_getR 4 C kfX0_11 (p0).1 rfl dX0_startWithEmptySet_1 rfl ?_
  refine wt_iconst 5 0 C dX0_startWithEmptySet_4 rfl (by decide) ?_
  refine wt_lconst 6 1 C dX0_startWithEmptySet_5 rfl (by decide) ?_
  refine wt_last 7 0 C (p0).2.1 (by decide) (by decide) dX0_startWithEmptySet_6 rfl ?_
  refine wt_iconst 8 1 C dX0_startWithEmptySet_7 rfl (by decide) ?_
  refine wt_istore_n 9 [(1, .int (1 : Int32)), (0, .ref (ux_ad X c0))] C dX0_startWithEmptySet_8 rfl (by decide) rfl ?_
  obtain ⟨e1, hl2, h⟩ := Option.bind_eq_some_iff.mp h
  refine wt_sub [1, 0] rfl ?_
  refine ux_loop (fun s : Int32 × ux_L => fX0_startWithEmptySet_9b c0 s.1 s.2) (fun s : Int32 × ux_L => ux_Wt X 2 9 [(0, .ref (ux_ad X c0)), (1, .int s.1)] [] N s.2) (e := e1) ?_ hl2
  intro s3 o4 hb5 hi6 hx7
  refine wX0_startWithEmptySet_9b C p0 hi6 (fun x0 he => ?_) hb5
  · obtain ⟨e8, rfl⟩ : ∃ z, z = x0 := ⟨_, rfl⟩
    have h9 := hx7 _ he
    subst h9
    cases h
    exact wt_vret C hq dX0_startWithEmptySet_28
theorem mX0_startWithEmptySet {l : Launch} {G : ux_G} (hok : ux_ok G shC) {c0 : Nat} (p0 : is_X0 c0) {N : ux_N} {L : ux_L} {o : ux_L} (h : fX0_startWithEmptySet c0 L = some o) : ux_Mv l G yX0_startWithEmptySet cX0_startWithEmptySet 2 0 0 [.ref (gad G c0)] N L N o :=
  ux_ofv shC hok (by decide +kernel) (Nat.le_of_ble_eq_true rfl) (fun X hG hl C hq => by subst hG; subst hl; exact wX0_startWithEmptySet C p0 hq h)
def fX0_copyFrom (c0 : Nat) (c1 : Nat) (L : ux_L) : Option (ux_L) :=
  some (ux_cpL L (c1 + 1) (c0 + 1) 0 0 16)
set_option maxHeartbeats 4000000 in
set_option maxRecDepth 20000 in
theorem wX0_copyFrom {X : ux_X} (C : ux_C X cX0_copyFrom RX0 2 none 1 60 shC) {c0 : Nat} {c1 : Nat} (p0 : is_X0 c0) (p1 : is_X0 c1) {N : ux_N} {L : ux_L} {o : ux_L} (hq : ux_Qv X N o) (h : fX0_copyFrom c0 c1 L = some o) : ux_Wt X 2 0 [(0, .ref (ux_ad X c0)), (1, .ref (ux_ad X c1))] [] N L := by
  refine wt_aload_n 1 1 C dX0_copyFrom_0 rfl rfl ?_
  refine wt_getR 4 C kfX0_11 (p1).1 rfl dX0_copyFrom_1 rfl ?_
  refine wt_iconst 5 0 C dX0_copyFrom_4 rfl (by decide) ?_
  refine wt_aload_n 6 0 C dX0_copyFrom_5 rfl rfl ?_
  refine wt_getR 9 C kfX0_11 (p0).1 rfl dX0_copyFrom_6 rfl ?_
  refine wt_iconst 10 0 C dX0_copyFrom_9 rfl (by decide) ?_
  refine wt_bipush 12 16 C dX0_copyFrom_10 rfl (by decide) ?_
  refine wt_copyL 15 0 0 16 C kaX0_18 (p1).2.1 (p0).2.1 (by decide) (by decide) (by decide) (by decide) (by decide) (by decide) (by decide) (by decide) (by decide) (Nat.le_of_ble_eq_true rfl) dX0_copyFrom_12 rfl ?_
  cases h
  exact wt_vret C hq dX0_copyFrom_15
theorem mX0_copyFrom {l : Launch} {G : ux_G} (hok : ux_ok G shC) {c0 : Nat} {c1 : Nat} (p0 : is_X0 c0) (p1 : is_X0 c1) {N : ux_N} {L : ux_L} {o : ux_L} (h : fX0_copyFrom c0 c1 L = some o) : ux_Mv l G yX0_copyFrom cX0_copyFrom 2 1 60 [.ref (gad G c0), .ref (gad G c1)] N L N o :=
  ux_ofv shC hok (by decide +kernel) (Nat.le_of_ble_eq_true rfl) (fun X hG hl C hq => by subst hG; subst hl; exact wX0_copyFrom C p0 p1 hq h)
def fX0_include_30 (c0 : Nat) (L : ux_L) : Option (ux_L) :=
  some L
set_option maxHeartbeats 4000000 in
set_option maxRecDepth 20000 in
theorem wX0_include_30 {X : ux_X} (C : ux_C X cX0_include RX0 3 none 0 0 shC) {c0 : Nat} (p0 : is_X0 c0) {N : ux_N} {L : ux_L} {o : ux_L} (hq : ux_Qv X N o) (h : fX0_include_30 c0 L = some o) : ux_Wt X 3 30 [] [] N L := by
  cases h
  exact wt_vret C hq dX0_include_30
def fX0_include (c0 : Nat) (v1 : Int32) (L : ux_L) : Option (ux_L) :=
  if (v1 / (64 : Int32)) < 0 then (fX0_include_30 c0 L) else (if (16 : Int32) ≤ (v1 / (64 : Int32)) then (fX0_include_30 c0 L) else (if ux_in (v1 / (64 : Int32)) 16 then (if ux_in (v1 / (64 : Int32)) 16 then (fX0_include_30 c0 (ux_w L (c0 + 1) ((v1 / (64 : Int32)).toNatClampNeg) ((L (c0 + 1) ((v1 / (64 : Int32)).toNatClampNeg)) ||| ((1 : Int64) <<< ((v1 - v1 / (64 : Int32) * (64 : Int32)).toInt64 &&& 63))))) else none) else none))
set_option maxHeartbeats 4000000 in
set_option maxRecDepth 20000 in
theorem wX0_include {X : ux_X} (C : ux_C X cX0_include RX0 3 none 0 0 shC) {c0 : Nat} {v1 : Int32} (p0 : is_X0 c0) {N : ux_N} {L : ux_L} {o : ux_L} (hq : ux_Qv X N o) (h : fX0_include c0 v1 L = some o) : ux_Wt X 3 0 [(0, .ref (ux_ad X c0)), (1, .int v1)] [] N L := by
  refine wt_iload_n 1 1 C dX0_include_0 rfl rfl ?_
  refine wt_bipush 3 64 C dX0_include_1 rfl (by decide) ?_
  refine wt_idiv 4 C dX0_include_3 rfl (by decide) ?_
  refine wt_istore_n 5 [(2, .int (v1 / (64 : Int32))), (0, .ref (ux_ad X c0)), (1, .int v1)] C dX0_include_4 rfl (by decide) rfl ?_
  refine wt_iload_n 6 0 C dX0_include_5 rfl rfl ?_
  refine wt_if_lt 9 30 C dX0_include_6 rfl (by decide) (fun q1 => ?_) (fun q1 => ?_)
  · have h := (if_pos q1).symm.trans h
    refine wt_sub [] rfl ?_
    exact wX0_include_30 C p0 hq h
  · have h := (if_neg q1).symm.trans h
    refine wt_iload_n 10 0 C dX0_include_9 rfl rfl ?_
    refine wt_bipush 12 16 C dX0_include_10 rfl (by decide) ?_
    refine wt_icmp_ge 15 30 C dX0_include_12 rfl (by decide) (fun q2 => ?_) (fun q2 => ?_)
    · have h := (if_pos q2).symm.trans h
      refine wt_sub [] rfl ?_
      exact wX0_include_30 C p0 hq h
    · have h := (if_neg q2).symm.trans h
      refine wt_aload_n 16 1 C dX0_include_15 rfl rfl ?_
      refine wt_getR 19 C kfX0_11 (p0).1 rfl dX0_include_16 rfl ?_
      refine wt_iload_n 20 0 C dX0_include_19 rfl rfl ?_
      refine wt_dup2 21 C dX0_include_20 rfl rfl rfl ?_
      obtain ⟨hi3, h⟩ := ux_guard h
      refine wt_lald 22 ((v1 / (64 : Int32)).toNatClampNeg) C (p0).2.1 rfl hi3 dX0_include_21 rfl ?_
      refine wt_lconst 23 1 C dX0_include_22 rfl (by decide) ?_
      refine wt_iload_n 24 2 C dX0_include_23 rfl rfl ?_
      refine wt_bipush 26 64 C dX0_include_24 rfl (by decide) ?_
      refine wt_irem 27 C dX0_include_26 rfl (by decide) ?_
      refine wt_lshl 28 C dX0_include_27 rfl ?_
      refine wt_lor 29 C dX0_include_28 rfl ?_
      obtain ⟨hi4, h⟩ := ux_guard h
      refine wt_last 30 ((v1 / (64 : Int32)).toNatClampNeg) C (p0).2.1 rfl hi4 dX0_include_29 rfl ?_
      refine wt_sub [] rfl ?_
      exact wX0_include_30 C p0 hq h
theorem mX0_include {l : Launch} {G : ux_G} (hok : ux_ok G shC) {c0 : Nat} {v1 : Int32} (p0 : is_X0 c0) {N : ux_N} {L : ux_L} {o : ux_L} (h : fX0_include c0 v1 L = some o) : ux_Mv l G yX0_include cX0_include 3 0 0 [.ref (gad G c0), .int v1] N L N o :=
  ux_ofv shC hok (by decide +kernel) (Nat.le_of_ble_eq_true rfl) (fun X hG hl C hq => by subst hG; subst hl; exact wX0_include C p0 hq h)
def fX0_holds_38 (c0 : Nat) (s0 : Int32) (L : ux_L) : Option (Int32) :=
  if ux_b s0 then (some s0) else none
set_option maxHeartbeats 4000000 in
set_option maxRecDepth 20000 in
theorem wX0_holds_38 {X : ux_X} (C : ux_C X cX0_holds RX0 3 (some .boolean) 0 0 shC) {c0 : Nat} {s0 : Int32} (p0 : is_X0 c0) {N : ux_N} {L : ux_L} {o : Int32} (hq : ux_Qi X o N L) (h : fX0_holds_38 c0 s0 L = some o) : ux_Wt X 3 38 [] [.int s0] N L := by
  obtain ⟨hb1, h⟩ := ux_guard h
  cases h
  exact wt_zret C (ux_b_n hb1).1 hq dX0_holds_38
def fX0_holds_37 (c0 : Nat) (L : ux_L) : Option (Int32) :=
  fX0_holds_38 c0 (0 : Int32) L
set_option maxHeartbeats 4000000 in
set_option maxRecDepth 20000 in
theorem wX0_holds_37 {X : ux_X} (C : ux_C X cX0_holds RX0 3 (some .boolean) 0 0 shC) {c0 : Nat} (p0 : is_X0 c0) {N : ux_N} {L : ux_L} {o : Int32} (hq : ux_Qi X o N L) (h : fX0_holds_37 c0 L = some o) : ux_Wt X 3 37 [] [] N L := by
  refine wt_iconst 38 0 C dX0_holds_37 rfl (by decide) ?_
  exact wX0_holds_38 C p0 hq h
def fX0_holds (c0 : Nat) (v1 : Int32) (L : ux_L) : Option (Int32) :=
  if (v1 / (64 : Int32)) < 0 then (fX0_holds_37 c0 L) else (if (16 : Int32) ≤ (v1 / (64 : Int32)) then (fX0_holds_37 c0 L) else (if ux_in (v1 / (64 : Int32)) 16 then (if (lg_cmp (((L (c0 + 1) ((v1 / (64 : Int32)).toNatClampNeg)) >>> ((v1 - v1 / (64 : Int32) * (64 : Int32)).toInt64 &&& 63)) &&& (1 : Int64)) (1 : Int64)) = 0 then (fX0_holds_38 c0 (1 : Int32) L) else (fX0_holds_37 c0 L)) else none))
set_option maxHeartbeats 4000000 in
set_option maxRecDepth 20000 in
theorem wX0_holds {X : ux_X} (C : ux_C X cX0_holds RX0 3 (some .boolean) 0 0 shC) {c0 : Nat} {v1 : Int32} (p0 : is_X0 c0) {N : ux_N} {L : ux_L} {o : Int32} (hq : ux_Qi X o N L) (h : fX0_holds c0 v1 L = some o) : ux_Wt X 3 0 [(0, .ref (ux_ad X c0)), (1, .int v1)] [] N L := by
  refine wt_iload_n 1 1 C dX0_holds_0 rfl rfl ?_
  refine wt_bipush 3 64 C dX0_holds_1 rfl (by decide) ?_
  refine wt_idiv 4 C dX0_holds_3 rfl (by decide) ?_
  refine wt_istore_n 5 [(2, .int (v1 / (64 : Int32))), (0, .ref (ux_ad X c0)), (1, .int v1)] C dX0_holds_4 rfl (by decide) rfl ?_
  refine wt_iload_n 6 0 C dX0_holds_5 rfl rfl ?_
  refine wt_if_lt 9 37 C dX0_holds_6 rfl (by decide) (fun q1 => ?_) (fun q1 => ?_)
  · have h := (if_pos q1).symm.trans h
    refine wt_sub [] rfl ?_
    exact wX0_holds_37 C p0 hq h
  · have h := (if_neg q1).symm.trans h
    refine wt_iload_n 10 0 C dX0_holds_9 rfl rfl ?_
    refine wt_bipush 12 16 C dX0_holds_10 rfl (by decide) ?_
    refine wt_icmp_ge 15 37 C dX0_holds_12 rfl (by decide) (fun q2 => ?_) (fun q2 => ?_)
    · have h := (if_pos q2).symm.trans h
      refine wt_sub [] rfl ?_
      exact wX0_holds_37 C p0 hq h
    · have h := (if_neg q2).symm.trans h
      refine wt_aload_n 16 1 C dX0_holds_15 rfl rfl ?_
      refine wt_getR 19 C kfX0_11 (p0).1 rfl dX0_holds_16 rfl ?_
      refine wt_iload_n 20 0 C dX0_holds_19 rfl rfl ?_
      obtain ⟨hi3, h⟩ := ux_guard h
      refine wt_lald 21 ((v1 / (64 : Int32)).toNatClampNeg) C (p0).2.1 rfl hi3 dX0_holds_20 rfl ?_
      refine wt_iload_n 22 2 C dX0_holds_21 rfl rfl ?_
      refine wt_bipush 24 64 C dX0_holds_22 rfl (by decide) ?_
      refine wt_irem 25 C dX0_holds_24 rfl (by decide) ?_
      refine wt_lshr 26 C dX0_holds_25 rfl ?_
      refine wt_lconst 27 1 C dX0_holds_26 rfl (by decide) ?_
      refine wt_land 28 C dX0_holds_27 rfl ?_
      refine wt_lconst 29 1 C dX0_holds_28 rfl (by decide) ?_
      refine wt_lcmp 30 C dX0_holds_29 rfl ?_
      refine wt_if_ne 33 37 C dX0_holds_30 rfl (by decide) (fun q4 => ?_) (fun q4 => ?_)
      · have h := (if_neg q4).symm.trans h
        refine wt_sub [] rfl ?_
        exact wX0_holds_37 C p0 hq h
      · have h := (if_pos q4).symm.trans h
        refine wt_iconst 34 1 C dX0_holds_33 rfl (by decide) ?_
        refine wt_goto 38 C dX0_holds_34 (by decide) ?_
        refine wt_sub [] rfl ?_
        exact wX0_holds_38 C p0 hq h
theorem mX0_holds {l : Launch} {G : ux_G} (hok : ux_ok G shC) {c0 : Nat} {v1 : Int32} (p0 : is_X0 c0) {N : ux_N} {L : ux_L} {o : Int32} (h : fX0_holds c0 v1 L = some o) : ux_Mi l G yX0_holds cX0_holds 3 (some .boolean) 0 0 [.ref (gad G c0), .int v1] N L o N L :=
  ux_ofi shC hok (by decide +kernel) (Nat.le_of_ble_eq_true rfl) (fun X hG hl C hq => by subst hG; subst hl; exact wX0_holds C p0 hq h)
def fX0_joinLine_63b_108 (c0 : Nat) (c2 : Nat) (v3 : Int32) (v4 : Int32) (L : ux_L) : Option ((Int32 × ux_L) ⊕ (ux_L)) :=
  some (.inl ((v4 + 1), L))
set_option maxHeartbeats 4000000 in
set_option maxRecDepth 20000 in
theorem wX0_joinLine_63b_108 {X : ux_X} (C : ux_C X cX0_joinLine RX0 5 none 0 0 shC) {c0 : Nat} {c2 : Nat} {v3 : Int32} {v4 : Int32} (p0 : is_X0 c0) (p2 : is_X0 c2) {N : ux_N} {L : ux_L} {o : (Int32 × ux_L) ⊕ (ux_L)} (hin : ∀ s : Int32 × ux_L, o = .inl s → ux_Wt X 5 63 [(0, .ref (ux_ad X c0)), (2, .ref (ux_ad X c2)), (3, .int v3), (4, .int s.1)] [] N s.2) (hex0 : ∀ e : ux_L, o = .inr (e) → ux_Wt X 5 114 [] [] N e) (h : fX0_joinLine_63b_108 c0 c2 v3 v4 L = some o) : ux_Wt X 5 108 [(0, .ref (ux_ad X c0)), (2, .ref (ux_ad X c2)), (3, .int v3), (4, .int v4)] [] N L := by
  refine wt_iinc 111 3 [(4, .int (v4 + 1)), (0, .ref (ux_ad X c0)), (2, .ref (ux_ad X c2)), (3, .int v3)] (v4 + 1) C dX0_joinLine_108 rfl rfl (by rfl) (by decide) rfl ?_
  refine wt_goto 63 C dX0_joinLine_111 (by decide) ?_
  refine wt_sub [1, 2, 3, 0] rfl ?_
  exact hin _ (Option.some.inj h).symm
def fX0_joinLine_63b (c0 : Nat) (c2 : Nat) (v3 : Int32) (v4 : Int32) (L : ux_L) : Option ((Int32 × ux_L) ⊕ (ux_L)) :=
  if (16 : Int32) ≤ (v4 + v3) then (some (.inr (L))) else (if (v4 &&& v3) = 0 then (if ux_in (v4 + v3) 16 then (if ux_in v4 16 then (if ux_in (v4 + v3) 16 then (if ux_in (v4 + v3) 16 then (fX0_joinLine_63b_108 c0 c2 v3 v4 (ux_w L (c0 + 1) ((v4 + v3).toNatClampNeg) ((L (c0 + 1) ((v4 + v3).toNatClampNeg)) ||| ((L (c0 + 2) (v4.toNatClampNeg)) &&& (L (c2 + 1) ((v4 + v3).toNatClampNeg)))))) else none) else none) else none) else none) else (fX0_joinLine_63b_108 c0 c2 v3 v4 L))
set_option maxHeartbeats 4000000 in
set_option maxRecDepth 20000 in
theorem wX0_joinLine_63b {X : ux_X} (C : ux_C X cX0_joinLine RX0 5 none 0 0 shC) {c0 : Nat} {c2 : Nat} {v3 : Int32} {v4 : Int32} (p0 : is_X0 c0) (p2 : is_X0 c2) {N : ux_N} {L : ux_L} {o : (Int32 × ux_L) ⊕ (ux_L)} (hin : ∀ s : Int32 × ux_L, o = .inl s → ux_Wt X 5 63 [(0, .ref (ux_ad X c0)), (2, .ref (ux_ad X c2)), (3, .int v3), (4, .int s.1)] [] N s.2) (hex0 : ∀ e : ux_L, o = .inr (e) → ux_Wt X 5 114 [] [] N e) (h : fX0_joinLine_63b c0 c2 v3 v4 L = some o) : ux_Wt X 5 63 [(0, .ref (ux_ad X c0)), (2, .ref (ux_ad X c2)), (3, .int v3), (4, .int v4)] [] N L := by
  refine wt_iload 65 3 C dX0_joinLine_63 rfl rfl ?_
  refine wt_iload_n 66 2 C dX0_joinLine_65 rfl rfl ?_
  refine wt_iadd 67 C dX0_joinLine_66 rfl ?_
  refine wt_bipush 69 16 C dX0_joinLine_67 rfl (by decide) ?_
  refine wt_icmp_ge 72 114 C dX0_joinLine_69 rfl (by decide) (fun q1 => ?_) (fun q1 => ?_)
  · have h := (if_pos q1).symm.trans h
    refine wt_sub [] rfl ?_
    exact hex0 _ (Option.some.inj h).symm
  · have h := (if_neg q1).symm.trans h
    refine wt_iload 74 3 C dX0_joinLine_72 rfl rfl ?_
    refine wt_iload_n 75 2 C dX0_joinLine_74 rfl rfl ?_
    refine wt_iand 76 C dX0_joinLine_75 rfl ?_
    refine wt_if_ne 79 108 C dX0_joinLine_76 rfl (by decide) (fun q2 => ?_) (fun q2 => ?_)
    · have h := (if_neg q2).symm.trans h
      exact wX0_joinLine_63b_108 C p0 p2 hin hex0 h
    · have h := (if_pos q2).symm.trans h
      refine wt_aload_n 80 0 C dX0_joinLine_79 rfl rfl ?_
      refine wt_getR 83 C kfX0_11 (p0).1 rfl dX0_joinLine_80 rfl ?_
      refine wt_iload 85 3 C dX0_joinLine_83 rfl rfl ?_
      refine wt_iload_n 86 2 C dX0_joinLine_85 rfl rfl ?_
      refine wt_iadd 87 C dX0_joinLine_86 rfl ?_
      refine wt_dup2 88 C dX0_joinLine_87 rfl rfl rfl ?_
      obtain ⟨hi3, h⟩ := ux_guard h
      refine wt_lald 89 ((v4 + v3).toNatClampNeg) C (p0).2.1 rfl hi3 dX0_joinLine_88 rfl ?_
      refine wt_aload_n 90 0 C dX0_joinLine_89 rfl rfl ?_
      refine wt_getR 93 C kfX0_15 (p0).1 rfl dX0_joinLine_90 rfl ?_
      refine wt_iload 95 3 C dX0_joinLine_93 rfl rfl ?_
      obtain ⟨hi4, h⟩ := ux_guard h
      refine wt_lald 96 (v4.toNatClampNeg) C (p0).2.2 rfl hi4 dX0_joinLine_95 rfl ?_
      refine wt_aload_n 97 1 C dX0_joinLine_96 rfl rfl ?_
      refine wt_getR 100 C kfX0_11 (p2).1 rfl dX0_joinLine_97 rfl ?_
      refine wt_iload 102 3 C dX0_joinLine_100 rfl rfl ?_
      refine wt_iload_n 103 2 C dX0_joinLine_102 rfl rfl ?_
      refine wt_iadd 104 C dX0_joinLine_103 rfl ?_
      obtain ⟨hi5, h⟩ := ux_guard h
      refine wt_lald 105 ((v4 + v3).toNatClampNeg) C (p2).2.1 rfl hi5 dX0_joinLine_104 rfl ?_
      refine wt_land 106 C dX0_joinLine_105 rfl ?_
      refine wt_lor 107 C dX0_joinLine_106 rfl ?_
      obtain ⟨hi6, h⟩ := ux_guard h
      refine wt_last 108 ((v4 + v3).toNatClampNeg) C (p0).2.1 rfl hi6 dX0_joinLine_107 rfl ?_
      exact wX0_joinLine_63b_108 C p0 p2 hin hex0 h
def fX0_joinLine_8b_45 (c0 : Nat) (c2 : Nat) (v1 : Int32) (v3 : Int32) (s0 : Int64) (s1 : Int32) (L : ux_L) : Option ((Int32 × ux_L) ⊕ (ux_L)) :=
  if ux_in s1 16 then (some (.inl ((v3 + 1), (ux_w L (c0 + 1) (s1.toNatClampNeg) s0)))) else none
set_option maxHeartbeats 4000000 in
set_option maxRecDepth 20000 in
theorem wX0_joinLine_8b_45 {X : ux_X} (C : ux_C X cX0_joinLine RX0 5 none 0 0 shC) {c0 : Nat} {c2 : Nat} {v1 : Int32} {v3 : Int32} {s0 : Int64} {s1 : Int32} (p0 : is_X0 c0) (p2 : is_X0 c2) {N : ux_N} {L : ux_L} {o : (Int32 × ux_L) ⊕ (ux_L)} (hin : ∀ s : Int32 × ux_L, o = .inl s → ux_Wt X 5 8 [(0, .ref (ux_ad X c0)), (1, .int v1), (2, .ref (ux_ad X c2)), (3, .int s.1)] [] N s.2) (hex0 : ∀ e : ux_L, o = .inr (e) → ux_Wt X 5 52 [] [] N e) (h : fX0_joinLine_8b_45 c0 c2 v1 v3 s0 s1 L = some o) : ux_Wt X 5 45 [(0, .ref (ux_ad X c0)), (1, .int v1), (2, .ref (ux_ad X c2)), (3, .int v3)] [.long s0, .int s1, .ref (ux_ad X (c0 + 1))] N L := by
  obtain ⟨hi1, h⟩ := ux_guard h
  refine wt_last 46 (s1.toNatClampNeg) C (p0).2.1 rfl hi1 dX0_joinLine_45 rfl ?_
  refine wt_iinc 49 3 [(3, .int (v3 + 1)), (0, .ref (ux_ad X c0)), (1, .int v1), (2, .ref (ux_ad X c2))] (v3 + 1) C dX0_joinLine_46 rfl rfl (by rfl) (by decide) rfl ?_
  refine wt_goto 8 C dX0_joinLine_49 (by decide) ?_
  refine wt_sub [1, 2, 3, 0] rfl ?_
  exact hin _ (Option.some.inj h).symm
def fX0_joinLine_8b (c0 : Nat) (c2 : Nat) (v1 : Int32) (v3 : Int32) (L : ux_L) : Option ((Int32 × ux_L) ⊕ (ux_L)) :=
  if (16 : Int32) ≤ v3 then (some (.inr (L))) else (if ux_in v3 16 then (if ux_in v3 16 then (if ux_in v1 6 then (if ux_in v3 16 then (fX0_joinLine_8b_45 c0 c2 v1 v3 ((L (c0 + 1) (v3.toNatClampNeg)) ||| ((((L (c0 + 2) (v3.toNatClampNeg)) &&& (tb_lack.getD v1.toNatClampNeg 0)) <<< (((1 : Int32) <<< (v1 &&& 31)).toInt64 &&& 63)) &&& (L (c2 + 1) (v3.toNatClampNeg)))) v3 L) else none) else none) else none) else none)
set_option maxHeartbeats 4000000 in
set_option maxRecDepth 20000 in
theorem wX0_joinLine_8b {X : ux_X} (C : ux_C X cX0_joinLine RX0 5 none 0 0 shC) {c0 : Nat} {c2 : Nat} {v1 : Int32} {v3 : Int32} (p0 : is_X0 c0) (p2 : is_X0 c2) {N : ux_N} {L : ux_L} {o : (Int32 × ux_L) ⊕ (ux_L)} (hin : ∀ s : Int32 × ux_L, o = .inl s → ux_Wt X 5 8 [(0, .ref (ux_ad X c0)), (1, .int v1), (2, .ref (ux_ad X c2)), (3, .int s.1)] [] N s.2) (hex0 : ∀ e : ux_L, o = .inr (e) → ux_Wt X 5 52 [] [] N e) (h : fX0_joinLine_8b c0 c2 v1 v3 L = some o) : ux_Wt X 5 8 [(0, .ref (ux_ad X c0)), (1, .int v1), (2, .ref (ux_ad X c2)), (3, .int v3)] [] N L := by
  refine wt_iload_n 9 3 C dX0_joinLine_8 rfl rfl ?_
  refine wt_bipush 11 16 C dX0_joinLine_9 rfl (by decide) ?_
  refine wt_icmp_ge 14 52 C dX0_joinLine_11 rfl (by decide) (fun q1 => ?_) (fun q1 => ?_)
  · have h := (if_pos q1).symm.trans h
    refine wt_sub [] rfl ?_
    exact hex0 _ (Option.some.inj h).symm
  · have h := (if_neg q1).symm.trans h
    refine wt_aload_n 15 0 C dX0_joinLine_14 rfl rfl ?_
    refine wt_getR 18 C kfX0_11 (p0).1 rfl dX0_joinLine_15 rfl ?_
    refine wt_iload_n 19 3 C dX0_joinLine_18 rfl rfl ?_
    refine wt_dup2 20 C dX0_joinLine_19 rfl rfl rfl ?_
    obtain ⟨hi2, h⟩ := ux_guard h
    refine wt_lald 21 (v3.toNatClampNeg) C (p0).2.1 rfl hi2 dX0_joinLine_20 rfl ?_
    refine wt_aload_n 22 0 C dX0_joinLine_21 rfl rfl ?_
    refine wt_getR 25 C kfX0_15 (p0).1 rfl dX0_joinLine_22 rfl ?_
    refine wt_iload_n 26 3 C dX0_joinLine_25 rfl rfl ?_
    obtain ⟨hi3, h⟩ := ux_guard h
    refine wt_lald 27 (v3.toNatClampNeg) C (p0).2.2 rfl hi3 dX0_joinLine_26 rfl ?_
    refine wt_getsL 30 C tw_517 dX0_joinLine_27 rfl ?_
    refine wt_iload_n 31 1 C dX0_joinLine_30 rfl rfl ?_
    obtain ⟨hi4, h⟩ := ux_guard h
    refine wt_tldL 32 (v1.toNatClampNeg) C rfl hi4 dX0_joinLine_31 rfl ?_
    refine wt_land 33 C dX0_joinLine_32 rfl ?_
    refine wt_iconst 34 1 C dX0_joinLine_33 rfl (by decide) ?_
    refine wt_iload_n 35 1 C dX0_joinLine_34 rfl rfl ?_
    refine wt_ishl 36 C dX0_joinLine_35 rfl ?_
    refine wt_lshl 37 C dX0_joinLine_36 rfl ?_
    refine wt_aload_n 38 2 C dX0_joinLine_37 rfl rfl ?_
    refine wt_getR 41 C kfX0_11 (p2).1 rfl dX0_joinLine_38 rfl ?_
    refine wt_iload_n 42 3 C dX0_joinLine_41 rfl rfl ?_
    obtain ⟨hi5, h⟩ := ux_guard h
    refine wt_lald 43 (v3.toNatClampNeg) C (p2).2.1 rfl hi5 dX0_joinLine_42 rfl ?_
    refine wt_land 44 C dX0_joinLine_43 rfl ?_
    refine wt_lor 45 C dX0_joinLine_44 rfl ?_
    exact wX0_joinLine_8b_45 C p0 p2 hin hex0 h
def fX0_joinLine (c0 : Nat) (c2 : Nat) (v1 : Int32) (L : ux_L) : Option (ux_L) :=
  if (6 : Int32) ≤ v1 then ((ux_lp (fun s : Int32 × ux_L => fX0_joinLine_63b c0 c2 ((1 : Int32) <<< ((v1 - (6 : Int32)) &&& 31)) s.1 s.2) ux_fu ((0 : Int32), L)).bind (fun e9 => some e9)) else ((ux_lp (fun s : Int32 × ux_L => fX0_joinLine_8b c0 c2 v1 s.1 s.2) ux_fu ((0 : Int32), L)).bind (fun e17 => some e17))
set_option maxHeartbeats 4000000 in
set_option maxRecDepth 20000 in
theorem wX0_joinLine {X : ux_X} (C : ux_C X cX0_joinLine RX0 5 none 0 0 shC) {c0 : Nat} {c2 : Nat} {v1 : Int32} (p0 : is_X0 c0) (p2 : is_X0 c2) {N : ux_N} {L : ux_L} {o : ux_L} (hq : ux_Qv X N o) (h : fX0_joinLine c0 c2 v1 L = some o) : ux_Wt X 5 0 [(0, .ref (ux_ad X c0)), (1, .int v1), (2, .ref (ux_ad X c2))] [] N L := by
  refine wt_iload_n 1 1 C dX0_joinLine_0 rfl rfl ?_
  refine wt_bipush 3 6 C dX0_joinLine_1 rfl (by decide) ?_
  refine wt_icmp_ge 6 53 C dX0_joinLine_3 rfl (by decide) (fun q1 => ?_) (fun q1 => ?_)
  · have h := (if_pos q1).symm.trans h
    refine wt_iconst 54 1 C dX0_joinLine_53 rfl (by decide) ?_
    refine wt_iload_n 55 1 C dX0_joinLine_54 rfl rfl ?_
    refine wt_bipush 57 6 C dX0_joinLine_55 rfl (by decide) ?_
    refine wt_isub 58 C dX0_joinLine_57 rfl ?_
    refine wt_ishl 59 C dX0_joinLine_58 rfl ?_
    refine wt_istore_n 60 [(3, .int ((1 : Int32) <<< ((v1 - (6 : Int32)) &&& 31))), (0, .ref (ux_ad X c0)), (1, .int v1), (2, .ref (ux_ad X c2))] C dX0_joinLine_59 rfl (by decide) rfl ?_
    refine wt_iconst 61 0 C dX0_joinLine_60 rfl (by decide) ?_
    refine wt_istore 63 [(4, .int (0 : Int32)), (3, .int ((1 : Int32) <<< ((v1 - (6 : Int32)) &&& 31))), (0, .ref (ux_ad X c0)), (1, .int v1), (2, .ref (ux_ad X c2))] C dX0_joinLine_61 rfl (by decide) rfl ?_
    obtain ⟨e2, hl3, h⟩ := Option.bind_eq_some_iff.mp h
    refine wt_sub [2, 4, 1, 0] rfl ?_
    refine ux_loop (fun s : Int32 × ux_L => fX0_joinLine_63b c0 c2 ((1 : Int32) <<< ((v1 - (6 : Int32)) &&& 31)) s.1 s.2) (fun s : Int32 × ux_L => ux_Wt X 5 63 [(0, .ref (ux_ad X c0)), (2, .ref (ux_ad X c2)), (3, .int ((1 : Int32) <<< ((v1 - (6 : Int32)) &&& 31))), (4, .int s.1)] [] N s.2) (e := e2) ?_ hl3
    intro s4 o5 hb6 hi7 hx8
    refine wX0_joinLine_63b C p0 p2 hi7 (fun x0 he => ?_) hb6
    · obtain ⟨e9, rfl⟩ : ∃ z, z = x0 := ⟨_, rfl⟩
      have h9 := hx8 _ he
      subst h9
      cases h
      exact wt_vret C hq dX0_joinLine_114
  · have h := (if_neg q1).symm.trans h
    refine wt_iconst 7 0 C dX0_joinLine_6 rfl (by decide) ?_
    refine wt_istore_n 8 [(3, .int (0 : Int32)), (0, .ref (ux_ad X c0)), (1, .int v1), (2, .ref (ux_ad X c2))] C dX0_joinLine_7 rfl (by decide) rfl ?_
    obtain ⟨e10, hl11, h⟩ := Option.bind_eq_some_iff.mp h
    refine wt_sub [1, 2, 3, 0] rfl ?_
    refine ux_loop (fun s : Int32 × ux_L => fX0_joinLine_8b c0 c2 v1 s.1 s.2) (fun s : Int32 × ux_L => ux_Wt X 5 8 [(0, .ref (ux_ad X c0)), (1, .int v1), (2, .ref (ux_ad X c2)), (3, .int s.1)] [] N s.2) (e := e10) ?_ hl11
    intro s12 o13 hb14 hi15 hx16
    refine wX0_joinLine_8b C p0 p2 hi15 (fun x0 he => ?_) hb14
    · obtain ⟨e17, rfl⟩ : ∃ z, z = x0 := ⟨_, rfl⟩
      have h9 := hx16 _ he
      subst h9
      cases h
      exact wt_vret C hq dX0_joinLine_52
theorem mX0_joinLine {l : Launch} {G : ux_G} (hok : ux_ok G shC) {c0 : Nat} {v1 : Int32} {c2 : Nat} (p0 : is_X0 c0) (p2 : is_X0 c2) {N : ux_N} {L : ux_L} {o : ux_L} (h : fX0_joinLine c0 c2 v1 L = some o) : ux_Mv l G yX0_joinLine cX0_joinLine 5 0 0 [.ref (gad G c0), .int v1, .ref (gad G c2)] N L N o :=
  ux_ofv shC hok (by decide +kernel) (Nat.le_of_ble_eq_true rfl) (fun X hG hl C hq => by subst hG; subst hl; exact wX0_joinLine C p0 p2 hq h)
def fX0_joinMeter_17b_38 (c0 : Nat) (c2 : Nat) (v1 : Int32) (v3 : Int32) (L : ux_L) : Option ((Int32 × ux_L) ⊕ (ux_L)) :=
  some (.inl ((v3 + 1), L))
set_option maxHeartbeats 4000000 in
set_option maxRecDepth 20000 in
theorem wX0_joinMeter_17b_38 {X : ux_X} (C : ux_C X cX0_joinMeter RX0 4 none 1 60 shC) {c0 : Nat} {c2 : Nat} {v1 : Int32} {v3 : Int32} (p0 : is_X0 c0) (p2 : is_X0 c2) {N : ux_N} {L : ux_L} {o : (Int32 × ux_L) ⊕ (ux_L)} (hin : ∀ s : Int32 × ux_L, o = .inl s → ux_Wt X 4 17 [(0, .ref (ux_ad X c0)), (1, .int v1), (2, .ref (ux_ad X c2)), (3, .int s.1)] [] N s.2) (hex0 : ∀ e : ux_L, o = .inr (e) → ux_Wt X 4 44 [] [] N e) (h : fX0_joinMeter_17b_38 c0 c2 v1 v3 L = some o) : ux_Wt X 4 38 [(0, .ref (ux_ad X c0)), (1, .int v1), (2, .ref (ux_ad X c2)), (3, .int v3)] [] N L := by
  refine wt_iinc 41 3 [(3, .int (v3 + 1)), (0, .ref (ux_ad X c0)), (1, .int v1), (2, .ref (ux_ad X c2))] (v3 + 1) C dX0_joinMeter_38 rfl rfl (by rfl) (by decide) rfl ?_
  refine wt_goto 17 C dX0_joinMeter_41 (by decide) ?_
  refine wt_sub [1, 2, 3, 0] rfl ?_
  exact hin _ (Option.some.inj h).symm
def fX0_joinMeter_17b (c0 : Nat) (c2 : Nat) (v1 : Int32) (v3 : Int32) (L : ux_L) : Option ((Int32 × ux_L) ⊕ (ux_L)) :=
  if (10 : Int32) ≤ v3 then (some (.inr (L))) else (if ((v1 >>> (v3 &&& 31)) &&& (1 : Int32)) = (1 : Int32) then ((fX0_joinLine c0 c2 v3 L).bind (fun o3 => fX0_joinMeter_17b_38 c0 c2 v1 v3 o3)) else (fX0_joinMeter_17b_38 c0 c2 v1 v3 L))
set_option maxHeartbeats 4000000 in
set_option maxRecDepth 20000 in
theorem wX0_joinMeter_17b {X : ux_X} (C : ux_C X cX0_joinMeter RX0 4 none 1 60 shC) {c0 : Nat} {c2 : Nat} {v1 : Int32} {v3 : Int32} (p0 : is_X0 c0) (p2 : is_X0 c2) {N : ux_N} {L : ux_L} {o : (Int32 × ux_L) ⊕ (ux_L)} (hin : ∀ s : Int32 × ux_L, o = .inl s → ux_Wt X 4 17 [(0, .ref (ux_ad X c0)), (1, .int v1), (2, .ref (ux_ad X c2)), (3, .int s.1)] [] N s.2) (hex0 : ∀ e : ux_L, o = .inr (e) → ux_Wt X 4 44 [] [] N e) (h : fX0_joinMeter_17b c0 c2 v1 v3 L = some o) : ux_Wt X 4 17 [(0, .ref (ux_ad X c0)), (1, .int v1), (2, .ref (ux_ad X c2)), (3, .int v3)] [] N L := by
  refine wt_iload_n 18 3 C dX0_joinMeter_17 rfl rfl ?_
  refine wt_bipush 20 10 C dX0_joinMeter_18 rfl (by decide) ?_
  refine wt_icmp_ge 23 44 C dX0_joinMeter_20 rfl (by decide) (fun q1 => ?_) (fun q1 => ?_)
  · have h := (if_pos q1).symm.trans h
    refine wt_sub [] rfl ?_
    exact hex0 _ (Option.some.inj h).symm
  · have h := (if_neg q1).symm.trans h
    refine wt_iload_n 24 1 C dX0_joinMeter_23 rfl rfl ?_
    refine wt_iload_n 25 3 C dX0_joinMeter_24 rfl rfl ?_
    refine wt_ishr 26 C dX0_joinMeter_25 rfl ?_
    refine wt_iconst 27 1 C dX0_joinMeter_26 rfl (by decide) ?_
    refine wt_iand 28 C dX0_joinMeter_27 rfl ?_
    refine wt_iconst 29 1 C dX0_joinMeter_28 rfl (by decide) ?_
    refine wt_icmp_ne 32 38 C dX0_joinMeter_29 rfl (by decide) (fun q2 => ?_) (fun q2 => ?_)
    · have h := (if_neg q2).symm.trans h
      exact wX0_joinMeter_17b_38 C p0 p2 hin hex0 h
    · have h := (if_pos q2).symm.trans h
      refine wt_aload_n 33 0 C dX0_joinMeter_32 rfl rfl ?_
      refine wt_iload_n 34 3 C dX0_joinMeter_33 rfl rfl ?_
      refine wt_aload_n 35 2 C dX0_joinMeter_34 rfl rfl ?_
      obtain ⟨o3, hc4, h⟩ := Option.bind_eq_some_iff.mp h
      refine wt_callVv 38 [] C kvX0_24 (p0).1 (mX0_joinLine (cx_ok C) (p0) (p2) hc4) rfl rfl ⟨Nat.le_of_ble_eq_true rfl, Nat.le_of_ble_eq_true rfl⟩ (Nat.le_of_ble_eq_true rfl) dX0_joinMeter_35 rfl ?_
      exact wX0_joinMeter_17b_38 C p0 p2 hin hex0 h
def fX0_joinMeter (c0 : Nat) (c2 : Nat) (v1 : Int32) (L : ux_L) : Option (ux_L) :=
  (ux_lp (fun s : Int32 × ux_L => fX0_joinMeter_17b c0 c2 v1 s.1 s.2) ux_fu ((0 : Int32), (ux_cpL L (c0 + 1) (c0 + 2) 0 0 16))).bind (fun e8 => some e8)
set_option maxHeartbeats 4000000 in
set_option maxRecDepth 20000 in
theorem wX0_joinMeter {X : ux_X} (C : ux_C X cX0_joinMeter RX0 4 none 1 60 shC) {c0 : Nat} {c2 : Nat} {v1 : Int32} (p0 : is_X0 c0) (p2 : is_X0 c2) {N : ux_N} {L : ux_L} {o : ux_L} (hq : ux_Qv X N o) (h : fX0_joinMeter c0 c2 v1 L = some o) : ux_Wt X 4 0 [(0, .ref (ux_ad X c0)), (1, .int v1), (2, .ref (ux_ad X c2))] [] N L := by
  refine wt_aload_n 1 0 C dX0_joinMeter_0 rfl rfl ?_
  refine wt_getR 4 C kfX0_11 (p0).1 rfl dX0_joinMeter_1 rfl ?_
  refine wt_iconst 5 0 C dX0_joinMeter_4 rfl (by decide) ?_
  refine wt_aload_n 6 0 C dX0_joinMeter_5 rfl rfl ?_
  refine wt_getR 9 C kfX0_15 (p0).1 rfl dX0_joinMeter_6 rfl ?_
  refine wt_iconst 10 0 C dX0_joinMeter_9 rfl (by decide) ?_
  refine wt_bipush 12 16 C dX0_joinMeter_10 rfl (by decide) ?_
  refine wt_copyL 15 0 0 16 C kaX0_18 (p0).2.1 (p0).2.2 (by decide) (by decide) (by decide) (by decide) (by decide) (by decide) (by decide) (by decide) (by decide) (Nat.le_of_ble_eq_true rfl) dX0_joinMeter_12 rfl ?_
  refine wt_iconst 16 0 C dX0_joinMeter_15 rfl (by decide) ?_
  refine wt_istore_n 17 [(3, .int (0 : Int32)), (0, .ref (ux_ad X c0)), (1, .int v1), (2, .ref (ux_ad X c2))] C dX0_joinMeter_16 rfl (by decide) rfl ?_
  obtain ⟨e1, hl2, h⟩ := Option.bind_eq_some_iff.mp h
  refine wt_sub [1, 2, 3, 0] rfl ?_
  refine ux_loop (fun s : Int32 × ux_L => fX0_joinMeter_17b c0 c2 v1 s.1 s.2) (fun s : Int32 × ux_L => ux_Wt X 4 17 [(0, .ref (ux_ad X c0)), (1, .int v1), (2, .ref (ux_ad X c2)), (3, .int s.1)] [] N s.2) (e := e1) ?_ hl2
  intro s3 o4 hb5 hi6 hx7
  refine wX0_joinMeter_17b C p0 p2 hi6 (fun x0 he => ?_) hb5
  · obtain ⟨e8, rfl⟩ : ∃ z, z = x0 := ⟨_, rfl⟩
    have h9 := hx7 _ he
    subst h9
    cases h
    exact wt_vret C hq dX0_joinMeter_44
theorem mX0_joinMeter {l : Launch} {G : ux_G} (hok : ux_ok G shC) {c0 : Nat} {v1 : Int32} {c2 : Nat} (p0 : is_X0 c0) (p2 : is_X0 c2) {N : ux_N} {L : ux_L} {o : ux_L} (h : fX0_joinMeter c0 c2 v1 L = some o) : ux_Mv l G yX0_joinMeter cX0_joinMeter 4 1 60 [.ref (gad G c0), .int v1, .ref (gad G c2)] N L N o :=
  ux_ofv shC hok (by decide +kernel) (Nat.le_of_ble_eq_true rfl) (fun X hG hl C hq => by subst hG; subst hl; exact wX0_joinMeter C p0 p2 hq h)
def fX0_mostLines_19b_55 (c0 : Nat) (v1 : Int32) (v2 : Int32) (v3 : Int32) (v4 : Int32) (L : ux_L) : Option ((Int32 × Int32) ⊕ (Int32)) :=
  some (.inl (v1, (v4 + (-1))))
set_option maxHeartbeats 4000000 in
set_option maxRecDepth 20000 in
theorem wX0_mostLines_19b_55 {X : ux_X} (C : ux_C X cX0_mostLines RX0 5 (some .int) 1 20 shC) {c0 : Nat} {v1 : Int32} {v2 : Int32} {v3 : Int32} {v4 : Int32} (p0 : is_X0 c0) {N : ux_N} {L : ux_L} {o : (Int32 × Int32) ⊕ (Int32)} (hin : ∀ s : Int32 × Int32, o = .inl s → ux_Wt X 5 19 [(0, .ref (ux_ad X c0)), (1, .int s.1), (2, .int v2), (3, .int v3), (4, .int s.2)] [] N L) (hex0 : ∀ e : Int32, o = .inr (e) → ux_Wt X 5 61 [(0, .ref (ux_ad X c0)), (1, .int e), (2, .int v2)] [] N L) (h : fX0_mostLines_19b_55 c0 v1 v2 v3 v4 L = some o) : ux_Wt X 5 55 [(0, .ref (ux_ad X c0)), (1, .int v1), (2, .int v2), (3, .int v3), (4, .int v4)] [] N L := by
  refine wt_iinc 58 4 [(4, .int (v4 + (-1))), (0, .ref (ux_ad X c0)), (1, .int v1), (2, .int v2), (3, .int v3)] (v4 + (-1)) C dX0_mostLines_55 rfl rfl (by rfl) (by decide) rfl ?_
  refine wt_goto 19 C dX0_mostLines_58 (by decide) ?_
  refine wt_sub [1, 2, 3, 4, 0] rfl ?_
  exact hin _ (Option.some.inj h).symm
def fX0_mostLines_19b (c0 : Nat) (v1 : Int32) (v2 : Int32) (v3 : Int32) (v4 : Int32) (L : ux_L) : Option ((Int32 × Int32) ⊕ (Int32)) :=
  if v4 < 0 then (some (.inr (v1))) else (if (v3 + v4) ≤ v1 then (some (.inr (v1))) else (if ux_in v2 16 then (if ux_in v4 7 then (if (lg_cmp ((L (c0 + 1) (v2.toNatClampNeg)) &&& (tb_sized.getD v4.toNatClampNeg 0)) (0 : Int64)) = 0 then (fX0_mostLines_19b_55 c0 v1 v2 v3 v4 L) else (fX0_mostLines_19b_55 c0 (v3 + v4) v2 v3 v4 L)) else none) else none))
set_option maxHeartbeats 4000000 in
set_option maxRecDepth 20000 in
theorem wX0_mostLines_19b {X : ux_X} (C : ux_C X cX0_mostLines RX0 5 (some .int) 1 20 shC) {c0 : Nat} {v1 : Int32} {v2 : Int32} {v3 : Int32} {v4 : Int32} (p0 : is_X0 c0) {N : ux_N} {L : ux_L} {o : (Int32 × Int32) ⊕ (Int32)} (hin : ∀ s : Int32 × Int32, o = .inl s → ux_Wt X 5 19 [(0, .ref (ux_ad X c0)), (1, .int s.1), (2, .int v2), (3, .int v3), (4, .int s.2)] [] N L) (hex0 : ∀ e : Int32, o = .inr (e) → ux_Wt X 5 61 [(0, .ref (ux_ad X c0)), (1, .int e), (2, .int v2)] [] N L) (h : fX0_mostLines_19b c0 v1 v2 v3 v4 L = some o) : ux_Wt X 5 19 [(0, .ref (ux_ad X c0)), (1, .int v1), (2, .int v2), (3, .int v3), (4, .int v4)] [] N L := by
  refine wt_iload 21 4 C dX0_mostLines_19 rfl rfl ?_
  refine wt_if_lt 24 61 C dX0_mostLines_21 rfl (by decide) (fun q1 => ?_) (fun q1 => ?_)
  · have h := (if_pos q1).symm.trans h
    refine wt_sub [0, 1, 2] rfl ?_
    exact hex0 _ (Option.some.inj h).symm
  · have h := (if_neg q1).symm.trans h
    refine wt_iload_n 25 3 C dX0_mostLines_24 rfl rfl ?_
    refine wt_iload 27 4 C dX0_mostLines_25 rfl rfl ?_
    refine wt_iadd 28 C dX0_mostLines_27 rfl ?_
    refine wt_iload_n 29 1 C dX0_mostLines_28 rfl rfl ?_
    refine wt_icmp_le 32 61 C dX0_mostLines_29 rfl (by decide) (fun q2 => ?_) (fun q2 => ?_)
    · have h := (if_pos q2).symm.trans h
      refine wt_sub [0, 1, 2] rfl ?_
      exact hex0 _ (Option.some.inj h).symm
    · have h := (if_neg q2).symm.trans h
      refine wt_aload_n 33 0 C dX0_mostLines_32 rfl rfl ?_
      refine wt_getR 36 C kfX0_11 (p0).1 rfl dX0_mostLines_33 rfl ?_
      refine wt_iload_n 37 2 C dX0_mostLines_36 rfl rfl ?_
      obtain ⟨hi3, h⟩ := ux_guard h
      refine wt_lald 38 (v2.toNatClampNeg) C (p0).2.1 rfl hi3 dX0_mostLines_37 rfl ?_
      refine wt_getsS 41 C tw_524 dX0_mostLines_38 rfl ?_
      refine wt_iload 43 4 C dX0_mostLines_41 rfl rfl ?_
      obtain ⟨hi4, h⟩ := ux_guard h
      refine wt_tldS 44 (v4.toNatClampNeg) C rfl hi4 dX0_mostLines_43 rfl ?_
      refine wt_land 45 C dX0_mostLines_44 rfl ?_
      refine wt_lconst 46 0 C dX0_mostLines_45 rfl (by decide) ?_
      refine wt_lcmp 47 C dX0_mostLines_46 rfl ?_
      refine wt_if_eq 50 55 C dX0_mostLines_47 rfl (by decide) (fun q5 => ?_) (fun q5 => ?_)
      · have h := (if_pos q5).symm.trans h
        exact wX0_mostLines_19b_55 C p0 hin hex0 h
      · have h := (if_neg q5).symm.trans h
        refine wt_iload_n 51 3 C dX0_mostLines_50 rfl rfl ?_
        refine wt_iload 53 4 C dX0_mostLines_51 rfl rfl ?_
        refine wt_iadd 54 C dX0_mostLines_53 rfl ?_
        refine wt_istore_n 55 [(1, .int (v3 + v4)), (0, .ref (ux_ad X c0)), (2, .int v2), (3, .int v3), (4, .int v4)] C dX0_mostLines_54 rfl (by decide) rfl ?_
        refine wt_sub [1, 0, 2, 3, 4] rfl ?_
        exact wX0_mostLines_19b_55 C p0 hin hex0 h
def fX0_mostLines_4b_61 (c0 : Nat) (v1 : Int32) (v2 : Int32) (L : ux_L) : Option ((Int32 × Int32) ⊕ (Int32)) :=
  some (.inl (v1, (v2 + 1)))
set_option maxHeartbeats 4000000 in
set_option maxRecDepth 20000 in
theorem wX0_mostLines_4b_61 {X : ux_X} (C : ux_C X cX0_mostLines RX0 5 (some .int) 1 20 shC) {c0 : Nat} {v1 : Int32} {v2 : Int32} (p0 : is_X0 c0) {N : ux_N} {L : ux_L} {o : (Int32 × Int32) ⊕ (Int32)} (hin : ∀ s : Int32 × Int32, o = .inl s → ux_Wt X 5 4 [(0, .ref (ux_ad X c0)), (1, .int s.1), (2, .int s.2)] [] N L) (hex0 : ∀ e : Int32, o = .inr (e) → ux_Wt X 5 67 [(1, .int e)] [] N L) (h : fX0_mostLines_4b_61 c0 v1 v2 L = some o) : ux_Wt X 5 61 [(0, .ref (ux_ad X c0)), (1, .int v1), (2, .int v2)] [] N L := by
  refine wt_iinc 64 2 [(2, .int (v2 + 1)), (0, .ref (ux_ad X c0)), (1, .int v1)] (v2 + 1) C dX0_mostLines_61 rfl rfl (by rfl) (by decide) rfl ?_
  refine wt_goto 4 C dX0_mostLines_64 (by decide) ?_
  refine wt_sub [1, 2, 0] rfl ?_
  exact hin _ (Option.some.inj h).symm
def fX0_mostLines_4b (c0 : Nat) (v1 : Int32) (v2 : Int32) (L : ux_L) : Option ((Int32 × Int32) ⊕ (Int32)) :=
  if (16 : Int32) ≤ v2 then (some (.inr (v1))) else ((fJ6_bitCount_0f7a4 v2).bind (fun o2 => (ux_lp (fun s : Int32 × Int32 => fX0_mostLines_19b c0 s.1 v2 o2 s.2 L) ux_fu (v1, (6 : Int32))).bind (fun e11 => fX0_mostLines_4b_61 c0 e11 v2 L)))
set_option maxHeartbeats 4000000 in
set_option maxRecDepth 20000 in
theorem wX0_mostLines_4b {X : ux_X} (C : ux_C X cX0_mostLines RX0 5 (some .int) 1 20 shC) {c0 : Nat} {v1 : Int32} {v2 : Int32} (p0 : is_X0 c0) {N : ux_N} {L : ux_L} {o : (Int32 × Int32) ⊕ (Int32)} (hin : ∀ s : Int32 × Int32, o = .inl s → ux_Wt X 5 4 [(0, .ref (ux_ad X c0)), (1, .int s.1), (2, .int s.2)] [] N L) (hex0 : ∀ e : Int32, o = .inr (e) → ux_Wt X 5 67 [(1, .int e)] [] N L) (h : fX0_mostLines_4b c0 v1 v2 L = some o) : ux_Wt X 5 4 [(0, .ref (ux_ad X c0)), (1, .int v1), (2, .int v2)] [] N L := by
  refine wt_iload_n 5 2 C dX0_mostLines_4 rfl rfl ?_
  refine wt_bipush 7 16 C dX0_mostLines_5 rfl (by decide) ?_
  refine wt_icmp_ge 10 67 C dX0_mostLines_7 rfl (by decide) (fun q1 => ?_) (fun q1 => ?_)
  · have h := (if_pos q1).symm.trans h
    refine wt_sub [1] rfl ?_
    exact hex0 _ (Option.some.inj h).symm
  · have h := (if_neg q1).symm.trans h
    refine wt_iload_n 11 2 C dX0_mostLines_10 rfl rfl ?_
    obtain ⟨o2, hc3, h⟩ := Option.bind_eq_some_iff.mp h
    refine wt_callSi 14 [] C ksX0_31 (mJ6_bitCount_0f7a4 (cx_ok C)  hc3) rfl rfl ⟨Nat.le_of_ble_eq_true rfl, Nat.le_of_ble_eq_true rfl⟩ (Nat.le_of_ble_eq_true rfl) dX0_mostLines_11 rfl ?_
    refine wt_istore_n 15 [(3, .int o2), (0, .ref (ux_ad X c0)), (1, .int v1), (2, .int v2)] C dX0_mostLines_14 rfl (by decide) rfl ?_
    refine wt_bipush 17 6 C dX0_mostLines_15 rfl (by decide) ?_
    refine wt_istore 19 [(4, .int (6 : Int32)), (3, .int o2), (0, .ref (ux_ad X c0)), (1, .int v1), (2, .int v2)] C dX0_mostLines_17 rfl (by decide) rfl ?_
    obtain ⟨e4, hl5, h⟩ := Option.bind_eq_some_iff.mp h
    refine wt_sub [2, 3, 4, 1, 0] rfl ?_
    refine ux_loop (fun s : Int32 × Int32 => fX0_mostLines_19b c0 s.1 v2 o2 s.2 L) (fun s : Int32 × Int32 => ux_Wt X 5 19 [(0, .ref (ux_ad X c0)), (1, .int s.1), (2, .int v2), (3, .int o2), (4, .int s.2)] [] N L) (e := e4) ?_ hl5
    intro s6 o7 hb8 hi9 hx10
    refine wX0_mostLines_19b C p0 hi9 (fun x0 he => ?_) hb8
    · obtain ⟨e11, rfl⟩ : ∃ z, z = x0 := ⟨_, rfl⟩
      have h9 := hx10 _ he
      subst h9
      exact wX0_mostLines_4b_61 C p0 hin hex0 h
def fX0_mostLines (c0 : Nat) (L : ux_L) : Option (Int32) :=
  (ux_lp (fun s : Int32 × Int32 => fX0_mostLines_4b c0 s.1 s.2 L) ux_fu ((0 : Int32), (0 : Int32))).bind (fun e8 => some e8)
set_option maxHeartbeats 4000000 in
set_option maxRecDepth 20000 in
theorem wX0_mostLines {X : ux_X} (C : ux_C X cX0_mostLines RX0 5 (some .int) 1 20 shC) {c0 : Nat} (p0 : is_X0 c0) {N : ux_N} {L : ux_L} {o : Int32} (hq : ux_Qi X o N L) (h : fX0_mostLines c0 L = some o) : ux_Wt X 5 0 [(0, .ref (ux_ad X c0))] [] N L := by
  refine wt_iconst 1 0 C dX0_mostLines_0 rfl (by decide) ?_
  refine wt_istore_n 2 [(1, .int (0 : Int32)), (0, .ref (ux_ad X c0))] C dX0_mostLines_1 rfl (by decide) rfl ?_
  refine wt_iconst 3 0 C dX0_mostLines_2 rfl (by decide) ?_
  refine wt_istore_n 4 [(2, .int (0 : Int32)), (1, .int (0 : Int32)), (0, .ref (ux_ad X c0))] C dX0_mostLines_3 rfl (by decide) rfl ?_
  obtain ⟨e1, hl2, h⟩ := Option.bind_eq_some_iff.mp h
  refine wt_sub [2, 1, 0] rfl ?_
  refine ux_loop (fun s : Int32 × Int32 => fX0_mostLines_4b c0 s.1 s.2 L) (fun s : Int32 × Int32 => ux_Wt X 5 4 [(0, .ref (ux_ad X c0)), (1, .int s.1), (2, .int s.2)] [] N L) (e := e1) ?_ hl2
  intro s3 o4 hb5 hi6 hx7
  refine wX0_mostLines_4b C p0 hi6 (fun x0 he => ?_) hb5
  · obtain ⟨e8, rfl⟩ : ∃ z, z = x0 := ⟨_, rfl⟩
    have h9 := hx7 _ he
    subst h9
    refine wt_iload_n 68 0 C dX0_mostLines_67 rfl rfl ?_
    cases h
    exact wt_iret C hq dX0_mostLines_68
theorem mX0_mostLines {l : Launch} {G : ux_G} (hok : ux_ok G shC) {c0 : Nat} (p0 : is_X0 c0) {N : ux_N} {L : ux_L} {o : Int32} (h : fX0_mostLines c0 L = some o) : ux_Mi l G yX0_mostLines cX0_mostLines 5 (some .int) 1 20 [.ref (gad G c0)] N L o N L :=
  ux_ofi shC hok (by decide +kernel) (Nat.le_of_ble_eq_true rfl) (fun X hG hl C hq => by subst hG; subst hl; exact wX0_mostLines C p0 hq h)
def fX0_leastSet_2b_73 (c0 : Nat) (v1 : Int32) (v2 : Int32) (L : ux_L) : Option ((Int32) ⊕ ((Int32 × Int32) ⊕ (Unit))) :=
  some (.inl (v2 + 1))
set_option maxHeartbeats 4000000 in
set_option maxRecDepth 20000 in
theorem wX0_leastSet_2b_73 {X : ux_X} (C : ux_C X cX0_leastSet RX0 6 (some .int) 1 21 shC) {c0 : Nat} {v1 : Int32} {v2 : Int32} (p0 : is_X0 c0) {N : ux_N} {L : ux_L} {o : (Int32) ⊕ ((Int32 × Int32) ⊕ (Unit))} (hin : ∀ s : Int32, o = .inl s → ux_Wt X 6 2 [(0, .ref (ux_ad X c0)), (1, .int v1), (2, .int s)] [] N L) (hex0 : ∀ e : Int32 × Int32, o = .inr (.inl e) → ux_Wt X 6 42 [(0, .ref (ux_ad X c0)), (2, .int e.1), (3, .int e.2)] [] N L) (hex1 : ∀ e : Unit, o = .inr (.inr e) → ux_Wt X 6 79 [] [] N L) (h : fX0_leastSet_2b_73 c0 v1 v2 L = some o) : ux_Wt X 6 73 [(0, .ref (ux_ad X c0)), (1, .int v1), (2, .int v2)] [] N L := by
  refine wt_iinc 76 2 [(2, .int (v2 + 1)), (0, .ref (ux_ad X c0)), (1, .int v1)] (v2 + 1) C dX0_leastSet_73 rfl rfl (by rfl) (by decide) rfl ?_
  refine wt_goto 2 C dX0_leastSet_76 (by decide) ?_
  refine wt_sub [1, 2, 0] rfl ?_
  exact hin _ (Option.some.inj h).symm
def fX0_leastSet_2b (c0 : Nat) (v1 : Int32) (v2 : Int32) (L : ux_L) : Option ((Int32) ⊕ ((Int32 × Int32) ⊕ (Unit))) :=
  if (16 : Int32) ≤ v2 then (some (.inr (.inr ()))) else ((fJ6_bitCount_0f7a4 v2).bind (fun o2 => if (v1 - o2) < 0 then (fX0_leastSet_2b_73 c0 v1 v2 L) else (if (6 : Int32) < (v1 - o2) then (fX0_leastSet_2b_73 c0 v1 v2 L) else (if ux_in v2 16 then (if ux_in (v1 - o2) 7 then (if (lg_cmp ((L (c0 + 1) (v2.toNatClampNeg)) &&& (tb_sized.getD (v1 - o2).toNatClampNeg 0)) (0 : Int64)) = 0 then (fX0_leastSet_2b_73 c0 v1 v2 L) else (some (.inr (.inl (v2, (v1 - o2)))))) else none) else none))))
set_option maxHeartbeats 4000000 in
set_option maxRecDepth 20000 in
theorem wX0_leastSet_2b {X : ux_X} (C : ux_C X cX0_leastSet RX0 6 (some .int) 1 21 shC) {c0 : Nat} {v1 : Int32} {v2 : Int32} (p0 : is_X0 c0) {N : ux_N} {L : ux_L} {o : (Int32) ⊕ ((Int32 × Int32) ⊕ (Unit))} (hin : ∀ s : Int32, o = .inl s → ux_Wt X 6 2 [(0, .ref (ux_ad X c0)), (1, .int v1), (2, .int s)] [] N L) (hex0 : ∀ e : Int32 × Int32, o = .inr (.inl e) → ux_Wt X 6 42 [(0, .ref (ux_ad X c0)), (2, .int e.1), (3, .int e.2)] [] N L) (hex1 : ∀ e : Unit, o = .inr (.inr e) → ux_Wt X 6 79 [] [] N L) (h : fX0_leastSet_2b c0 v1 v2 L = some o) : ux_Wt X 6 2 [(0, .ref (ux_ad X c0)), (1, .int v1), (2, .int v2)] [] N L := by
  refine wt_iload_n 3 2 C dX0_leastSet_2 rfl rfl ?_
  refine wt_bipush 5 16 C dX0_leastSet_3 rfl (by decide) ?_
  refine wt_icmp_ge 8 79 C dX0_leastSet_5 rfl (by decide) (fun q1 => ?_) (fun q1 => ?_)
  · have h := (if_pos q1).symm.trans h
    refine wt_sub [] rfl ?_
    exact hex1 _ (Option.some.inj h).symm
  · have h := (if_neg q1).symm.trans h
    refine wt_iload_n 9 1 C dX0_leastSet_8 rfl rfl ?_
    refine wt_iload_n 10 2 C dX0_leastSet_9 rfl rfl ?_
    obtain ⟨o2, hc3, h⟩ := Option.bind_eq_some_iff.mp h
    refine wt_callSi 13 [.int v1] C ksX0_31 (mJ6_bitCount_0f7a4 (cx_ok C)  hc3) rfl rfl ⟨Nat.le_of_ble_eq_true rfl, Nat.le_of_ble_eq_true rfl⟩ (Nat.le_of_ble_eq_true rfl) dX0_leastSet_10 rfl ?_
    refine wt_isub 14 C dX0_leastSet_13 rfl ?_
    refine wt_istore_n 15 [(3, .int (v1 - o2)), (0, .ref (ux_ad X c0)), (1, .int v1), (2, .int v2)] C dX0_leastSet_14 rfl (by decide) rfl ?_
    refine wt_iload_n 16 0 C dX0_leastSet_15 rfl rfl ?_
    refine wt_if_lt 19 73 C dX0_leastSet_16 rfl (by decide) (fun q4 => ?_) (fun q4 => ?_)
    · have h := (if_pos q4).symm.trans h
      refine wt_sub [1, 2, 3] rfl ?_
      exact wX0_leastSet_2b_73 C p0 hin hex0 hex1 h
    · have h := (if_neg q4).symm.trans h
      refine wt_iload_n 20 0 C dX0_leastSet_19 rfl rfl ?_
      refine wt_bipush 22 6 C dX0_leastSet_20 rfl (by decide) ?_
      refine wt_icmp_gt 25 73 C dX0_leastSet_22 rfl (by decide) (fun q5 => ?_) (fun q5 => ?_)
      · have h := (if_pos q5).symm.trans h
        refine wt_sub [1, 2, 3] rfl ?_
        exact wX0_leastSet_2b_73 C p0 hin hex0 hex1 h
      · have h := (if_neg q5).symm.trans h
        refine wt_aload_n 26 1 C dX0_leastSet_25 rfl rfl ?_
        refine wt_getR 29 C kfX0_11 (p0).1 rfl dX0_leastSet_26 rfl ?_
        refine wt_iload_n 30 3 C dX0_leastSet_29 rfl rfl ?_
        obtain ⟨hi6, h⟩ := ux_guard h
        refine wt_lald 31 (v2.toNatClampNeg) C (p0).2.1 rfl hi6 dX0_leastSet_30 rfl ?_
        refine wt_getsS 34 C tw_524 dX0_leastSet_31 rfl ?_
        refine wt_iload_n 35 0 C dX0_leastSet_34 rfl rfl ?_
        obtain ⟨hi7, h⟩ := ux_guard h
        refine wt_tldS 36 ((v1 - o2).toNatClampNeg) C rfl hi7 dX0_leastSet_35 rfl ?_
        refine wt_land 37 C dX0_leastSet_36 rfl ?_
        refine wt_lconst 38 0 C dX0_leastSet_37 rfl (by decide) ?_
        refine wt_lcmp 39 C dX0_leastSet_38 rfl ?_
        refine wt_if_eq 42 73 C dX0_leastSet_39 rfl (by decide) (fun q8 => ?_) (fun q8 => ?_)
        · have h := (if_pos q8).symm.trans h
          refine wt_sub [1, 2, 3] rfl ?_
          exact wX0_leastSet_2b_73 C p0 hin hex0 hex1 h
        · have h := (if_neg q8).symm.trans h
          refine wt_sub [1, 3, 0] rfl ?_
          exact hex0 _ (Option.some.inj h).symm
def fX0_leastSet_68 (c0 : Nat) (s0 : Int64) (s1 : Int32) (L : ux_L) : Option (Int32) :=
  (fJ13_bitCount_95d88 s0).bind (fun o1 => some (s1 + o1))
set_option maxHeartbeats 4000000 in
set_option maxRecDepth 20000 in
theorem wX0_leastSet_68 {X : ux_X} (C : ux_C X cX0_leastSet RX0 6 (some .int) 1 21 shC) {c0 : Nat} {s0 : Int64} {s1 : Int32} (p0 : is_X0 c0) {N : ux_N} {L : ux_L} {o : Int32} (hq : ux_Qi X o N L) (h : fX0_leastSet_68 c0 s0 s1 L = some o) : ux_Wt X 6 68 [] [.long s0, .int s1] N L := by
  obtain ⟨o1, hc2, h⟩ := Option.bind_eq_some_iff.mp h
  refine wt_callSi 71 [.int s1] C ksX0_40 (mJ13_bitCount_95d88 (cx_ok C)  hc2) rfl rfl ⟨Nat.le_of_ble_eq_true rfl, Nat.le_of_ble_eq_true rfl⟩ (Nat.le_of_ble_eq_true rfl) dX0_leastSet_68 rfl ?_
  refine wt_iadd 72 C dX0_leastSet_71 rfl ?_
  cases h
  exact wt_iret C hq dX0_leastSet_72
def fX0_leastSet (c0 : Nat) (v1 : Int32) (L : ux_L) : Option (Int32) :=
  (ux_lp (fun s : Int32 => fX0_leastSet_2b c0 v1 s L) ux_fu (0 : Int32)).bind (Sum.elim (fun e8 => if ux_in e8.1 16 then (if ux_in e8.2 7 then (fX0_leastSet_68 c0 ((((L (c0 + 1) (e8.1.toNatClampNeg)) &&& (tb_sized.getD e8.2.toNatClampNeg 0)) &&& (-((L (c0 + 1) (e8.1.toNatClampNeg)) &&& (tb_sized.getD e8.2.toNatClampNeg 0)))) - (1 : Int64)) (e8.1 * (64 : Int32)) L) else none) else none) (fun e11 => some (0 : Int32)))
set_option maxHeartbeats 4000000 in
set_option maxRecDepth 20000 in
theorem wX0_leastSet {X : ux_X} (C : ux_C X cX0_leastSet RX0 6 (some .int) 1 21 shC) {c0 : Nat} {v1 : Int32} (p0 : is_X0 c0) {N : ux_N} {L : ux_L} {o : Int32} (hq : ux_Qi X o N L) (h : fX0_leastSet c0 v1 L = some o) : ux_Wt X 6 0 [(0, .ref (ux_ad X c0)), (1, .int v1)] [] N L := by
  refine wt_iconst 1 0 C dX0_leastSet_0 rfl (by decide) ?_
  refine wt_istore_n 2 [(2, .int (0 : Int32)), (0, .ref (ux_ad X c0)), (1, .int v1)] C dX0_leastSet_1 rfl (by decide) rfl ?_
  obtain ⟨e1, hl2, h⟩ := Option.bind_eq_some_iff.mp h
  refine wt_sub [1, 2, 0] rfl ?_
  refine ux_loop (fun s : Int32 => fX0_leastSet_2b c0 v1 s L) (fun s : Int32 => ux_Wt X 6 2 [(0, .ref (ux_ad X c0)), (1, .int v1), (2, .int s)] [] N L) (e := e1) ?_ hl2
  intro s3 o4 hb5 hi6 hx7
  refine wX0_leastSet_2b C p0 hi6 (fun x0 he => ?_) (fun x1 he => ?_) hb5
  · obtain ⟨e8, rfl⟩ : ∃ z, z = x0 := ⟨_, rfl⟩
    have h9 := hx7 _ he
    subst h9
    refine wt_aload_n 43 0 C dX0_leastSet_42 rfl rfl ?_
    refine wt_getR 46 C kfX0_11 (p0).1 rfl dX0_leastSet_43 rfl ?_
    refine wt_iload_n 47 1 C dX0_leastSet_46 rfl rfl ?_
    obtain ⟨hi9, h⟩ := ux_guard h
    refine wt_lald 48 (e8.1.toNatClampNeg) C (p0).2.1 rfl hi9 dX0_leastSet_47 rfl ?_
    refine wt_getsS 51 C tw_524 dX0_leastSet_48 rfl ?_
    refine wt_iload_n 52 2 C dX0_leastSet_51 rfl rfl ?_
    obtain ⟨hi10, h⟩ := ux_guard h
    refine wt_tldS 53 (e8.2.toNatClampNeg) C rfl hi10 dX0_leastSet_52 rfl ?_
    refine wt_land 54 C dX0_leastSet_53 rfl ?_
    refine wt_lstore 56 [(4, .long ((L (c0 + 1) (e8.1.toNatClampNeg)) &&& (tb_sized.getD e8.2.toNatClampNeg 0))), (0, .ref (ux_ad X c0)), (2, .int e8.1), (3, .int e8.2)] C dX0_leastSet_54 rfl (by decide) rfl ?_
    refine wt_iload_n 57 2 C dX0_leastSet_56 rfl rfl ?_
    refine wt_bipush 59 64 C dX0_leastSet_57 rfl (by decide) ?_
    refine wt_imul 60 C dX0_leastSet_59 rfl ?_
    refine wt_lload 62 0 C dX0_leastSet_60 rfl rfl ?_
    refine wt_lload 64 0 C dX0_leastSet_62 rfl rfl ?_
    refine wt_lneg 65 C dX0_leastSet_64 rfl ?_
    refine wt_land 66 C dX0_leastSet_65 rfl ?_
    refine wt_lconst 67 1 C dX0_leastSet_66 rfl (by decide) ?_
    refine wt_lsub 68 C dX0_leastSet_67 rfl ?_
    refine wt_sub [] rfl ?_
    exact wX0_leastSet_68 C p0 hq h
  · obtain ⟨e11, rfl⟩ : ∃ z, z = x1 := ⟨_, rfl⟩
    have h9 := hx7 _ he
    subst h9
    refine wt_iconst 80 0 C dX0_leastSet_79 rfl (by decide) ?_
    cases h
    exact wt_iret C hq dX0_leastSet_80
theorem mX0_leastSet {l : Launch} {G : ux_G} (hok : ux_ok G shC) {c0 : Nat} {v1 : Int32} (p0 : is_X0 c0) {N : ux_N} {L : ux_L} {o : Int32} (h : fX0_leastSet c0 v1 L = some o) : ux_Mi l G yX0_leastSet cX0_leastSet 6 (some .int) 1 21 [.ref (gad G c0), .int v1] N L o N L :=
  ux_ofi shC hok (by decide +kernel) (Nat.le_of_ble_eq_true rfl) (fun X hG hl C hq => by subst hG; subst hl; exact wX0_leastSet C p0 hq h)
