theorem dX4_append_0 : decode cX4_append 0 = .ok (.aload_n 0, 1) := by decide +kernel
theorem dX4_append_1 : decode cX4_append 1 = .ok (.getfield 22, 3) := by decide +kernel
theorem dX4_append_4 : decode cX4_append 4 = .ok (.sipush 200, 3) := by decide +kernel
theorem dX4_append_7 : decode cX4_append 7 = .ok (.if_icmp .lt 5, 3) := by decide +kernel
theorem dX4_append_10 : decode cX4_append 10 = .ok (.iconst 0, 1) := by decide +kernel
theorem dX4_append_11 : decode cX4_append 11 = .ok (.ireturn, 1) := by decide +kernel
theorem dX4_append_12 : decode cX4_append 12 = .ok (.aload_n 0, 1) := by decide +kernel
theorem dX4_append_13 : decode cX4_append 13 = .ok (.getfield 18, 3) := by decide +kernel
theorem dX4_append_16 : decode cX4_append 16 = .ok (.aload_n 0, 1) := by decide +kernel
theorem dX4_append_17 : decode cX4_append 17 = .ok (.getfield 22, 3) := by decide +kernel
theorem dX4_append_20 : decode cX4_append 20 = .ok (.iload_n 1, 1) := by decide +kernel
theorem dX4_append_21 : decode cX4_append 21 = .ok (.castore, 1) := by decide +kernel
theorem dX4_append_22 : decode cX4_append 22 = .ok (.aload_n 0, 1) := by decide +kernel
theorem dX4_append_23 : decode cX4_append 23 = .ok (.dup, 1) := by decide +kernel
theorem dX4_append_24 : decode cX4_append 24 = .ok (.getfield 22, 3) := by decide +kernel
theorem dX4_append_27 : decode cX4_append 27 = .ok (.iconst 1, 1) := by decide +kernel
theorem dX4_append_28 : decode cX4_append 28 = .ok (.iadd, 1) := by decide +kernel
theorem dX4_append_29 : decode cX4_append 29 = .ok (.putfield 22, 3) := by decide +kernel
theorem dX4_append_32 : decode cX4_append 32 = .ok (.iconst 1, 1) := by decide +kernel
theorem dX4_append_33 : decode cX4_append 33 = .ok (.ireturn, 1) := by decide +kernel
theorem dX4_empty_0 : decode cX4_empty 0 = .ok (.aload_n 0, 1) := by decide +kernel
theorem dX4_empty_1 : decode cX4_empty 1 = .ok (.getfield 22, 3) := by decide +kernel
theorem dX4_empty_4 : decode cX4_empty 4 = .ok (.istore_n 1, 1) := by decide +kernel
theorem dX4_empty_5 : decode cX4_empty 5 = .ok (.aload_n 0, 1) := by decide +kernel
theorem dX4_empty_6 : decode cX4_empty 6 = .ok (.iconst 0, 1) := by decide +kernel
theorem dX4_empty_7 : decode cX4_empty 7 = .ok (.putfield 22, 3) := by decide +kernel
theorem dX4_empty_10 : decode cX4_empty 10 = .ok (.iload_n 1, 1) := by decide +kernel
theorem dX4_empty_11 : decode cX4_empty 11 = .ok (.ireturn, 1) := by decide +kernel
theorem dX4_kindOf_0 : decode cX4_kindOf 0 = .ok (.iload_n 0, 1) := by decide +kernel
theorem dX4_kindOf_1 : decode cX4_kindOf 1 = .ok (.bipush 97, 2) := by decide +kernel
theorem dX4_kindOf_3 : decode cX4_kindOf 3 = .ok (.if_icmp .lt 11, 3) := by decide +kernel
theorem dX4_kindOf_6 : decode cX4_kindOf 6 = .ok (.iload_n 0, 1) := by decide +kernel
theorem dX4_kindOf_7 : decode cX4_kindOf 7 = .ok (.bipush 122, 2) := by decide +kernel
theorem dX4_kindOf_9 : decode cX4_kindOf 9 = .ok (.if_icmp .gt 5, 3) := by decide +kernel
theorem dX4_kindOf_12 : decode cX4_kindOf 12 = .ok (.iconst 1, 1) := by decide +kernel
theorem dX4_kindOf_13 : decode cX4_kindOf 13 = .ok (.ireturn, 1) := by decide +kernel
theorem dX4_kindOf_14 : decode cX4_kindOf 14 = .ok (.iload_n 0, 1) := by decide +kernel
theorem dX4_kindOf_15 : decode cX4_kindOf 15 = .ok (.bipush 48, 2) := by decide +kernel
theorem dX4_kindOf_17 : decode cX4_kindOf 17 = .ok (.if_icmp .lt 13, 3) := by decide +kernel
theorem dX4_kindOf_20 : decode cX4_kindOf 20 = .ok (.iload_n 0, 1) := by decide +kernel
theorem dX4_kindOf_21 : decode cX4_kindOf 21 = .ok (.bipush 57, 2) := by decide +kernel
theorem dX4_kindOf_23 : decode cX4_kindOf 23 = .ok (.if_icmp .gt 7, 3) := by decide +kernel
theorem dX4_kindOf_26 : decode cX4_kindOf 26 = .ok (.iconst 2, 1) := by decide +kernel
theorem dX4_kindOf_27 : decode cX4_kindOf 27 = .ok (.goto 4, 3) := by decide +kernel
theorem dX4_kindOf_30 : decode cX4_kindOf 30 = .ok (.iconst 3, 1) := by decide +kernel
theorem dX4_kindOf_31 : decode cX4_kindOf 31 = .ok (.ireturn, 1) := by decide +kernel
theorem dX4_advance_0 : decode cX4_advance 0 = .ok (.aload_n 0, 1) := by decide +kernel
theorem dX4_advance_1 : decode cX4_advance 1 = .ok (.aload_n 0, 1) := by decide +kernel
theorem dX4_advance_2 : decode cX4_advance 2 = .ok (.getfield 30, 3) := by decide +kernel
theorem dX4_advance_5 : decode cX4_advance 5 = .ok (.putfield 37, 3) := by decide +kernel
theorem dX4_advance_8 : decode cX4_advance 8 = .ok (.aload_n 0, 1) := by decide +kernel
theorem dX4_advance_9 : decode cX4_advance 9 = .ok (.getfield 37, 3) := by decide +kernel
theorem dX4_advance_12 : decode cX4_advance 12 = .ok (.aload_n 0, 1) := by decide +kernel
theorem dX4_advance_13 : decode cX4_advance 13 = .ok (.getfield 22, 3) := by decide +kernel
theorem dX4_advance_16 : decode cX4_advance 16 = .ok (.if_icmp .ge 30, 3) := by decide +kernel
theorem dX4_advance_19 : decode cX4_advance 19 = .ok (.aload_n 0, 1) := by decide +kernel
theorem dX4_advance_20 : decode cX4_advance 20 = .ok (.getfield 18, 3) := by decide +kernel
theorem dX4_advance_23 : decode cX4_advance 23 = .ok (.aload_n 0, 1) := by decide +kernel
theorem dX4_advance_24 : decode cX4_advance 24 = .ok (.getfield 37, 3) := by decide +kernel
theorem dX4_advance_27 : decode cX4_advance 27 = .ok (.caload, 1) := by decide +kernel
theorem dX4_advance_28 : decode cX4_advance 28 = .ok (.bipush 32, 2) := by decide +kernel
theorem dX4_advance_30 : decode cX4_advance 30 = .ok (.if_icmp .ne 16, 3) := by decide +kernel
theorem dX4_advance_33 : decode cX4_advance 33 = .ok (.aload_n 0, 1) := by decide +kernel
theorem dX4_advance_34 : decode cX4_advance 34 = .ok (.dup, 1) := by decide +kernel
theorem dX4_advance_35 : decode cX4_advance 35 = .ok (.getfield 37, 3) := by decide +kernel
theorem dX4_advance_38 : decode cX4_advance 38 = .ok (.iconst 1, 1) := by decide +kernel
theorem dX4_advance_39 : decode cX4_advance 39 = .ok (.iadd, 1) := by decide +kernel
theorem dX4_advance_40 : decode cX4_advance 40 = .ok (.putfield 37, 3) := by decide +kernel
theorem dX4_advance_43 : decode cX4_advance 43 = .ok (.goto (-35), 3) := by decide +kernel
theorem dX4_advance_46 : decode cX4_advance 46 = .ok (.aload_n 0, 1) := by decide +kernel
theorem dX4_advance_47 : decode cX4_advance 47 = .ok (.aload_n 0, 1) := by decide +kernel
theorem dX4_advance_48 : decode cX4_advance 48 = .ok (.getfield 37, 3) := by decide +kernel
theorem dX4_advance_51 : decode cX4_advance 51 = .ok (.putfield 30, 3) := by decide +kernel
theorem dX4_advance_54 : decode cX4_advance 54 = .ok (.aload_n 0, 1) := by decide +kernel
theorem dX4_advance_55 : decode cX4_advance 55 = .ok (.getfield 37, 3) := by decide +kernel
theorem dX4_advance_58 : decode cX4_advance 58 = .ok (.aload_n 0, 1) := by decide +kernel
theorem dX4_advance_59 : decode cX4_advance 59 = .ok (.getfield 22, 3) := by decide +kernel
theorem dX4_advance_62 : decode cX4_advance 62 = .ok (.if_icmp .lt 9, 3) := by decide +kernel
theorem dX4_advance_65 : decode cX4_advance 65 = .ok (.aload_n 0, 1) := by decide +kernel
theorem dX4_advance_66 : decode cX4_advance 66 = .ok (.iconst 0, 1) := by decide +kernel
theorem dX4_advance_67 : decode cX4_advance 67 = .ok (.putfield 43, 3) := by decide +kernel
theorem dX4_advance_70 : decode cX4_advance 70 = .ok (.return_, 1) := by decide +kernel
theorem dX4_advance_71 : decode cX4_advance 71 = .ok (.aload_n 0, 1) := by decide +kernel
theorem dX4_advance_72 : decode cX4_advance 72 = .ok (.aload_n 0, 1) := by decide +kernel
theorem dX4_advance_73 : decode cX4_advance 73 = .ok (.getfield 18, 3) := by decide +kernel
theorem dX4_advance_76 : decode cX4_advance 76 = .ok (.aload_n 0, 1) := by decide +kernel
theorem dX4_advance_77 : decode cX4_advance 77 = .ok (.getfield 37, 3) := by decide +kernel
theorem dX4_advance_80 : decode cX4_advance 80 = .ok (.caload, 1) := by decide +kernel
theorem dX4_advance_81 : decode cX4_advance 81 = .ok (.invokestatic 49, 3) := by decide +kernel
theorem dX4_advance_84 : decode cX4_advance 84 = .ok (.putfield 43, 3) := by decide +kernel
theorem dX4_advance_87 : decode cX4_advance 87 = .ok (.aload_n 0, 1) := by decide +kernel
theorem dX4_advance_88 : decode cX4_advance 88 = .ok (.dup, 1) := by decide +kernel
theorem dX4_advance_89 : decode cX4_advance 89 = .ok (.getfield 30, 3) := by decide +kernel
theorem dX4_advance_92 : decode cX4_advance 92 = .ok (.iconst 1, 1) := by decide +kernel
theorem dX4_advance_93 : decode cX4_advance 93 = .ok (.iadd, 1) := by decide +kernel
theorem dX4_advance_94 : decode cX4_advance 94 = .ok (.putfield 30, 3) := by decide +kernel
theorem dX4_advance_97 : decode cX4_advance 97 = .ok (.aload_n 0, 1) := by decide +kernel
theorem dX4_advance_98 : decode cX4_advance 98 = .ok (.getfield 43, 3) := by decide +kernel
theorem dX4_advance_101 : decode cX4_advance 101 = .ok (.iconst 3, 1) := by decide +kernel
theorem dX4_advance_102 : decode cX4_advance 102 = .ok (.if_icmp .eq 46, 3) := by decide +kernel
theorem dX4_advance_105 : decode cX4_advance 105 = .ok (.aload_n 0, 1) := by decide +kernel
theorem dX4_advance_106 : decode cX4_advance 106 = .ok (.getfield 30, 3) := by decide +kernel
theorem dX4_advance_109 : decode cX4_advance 109 = .ok (.aload_n 0, 1) := by decide +kernel
theorem dX4_advance_110 : decode cX4_advance 110 = .ok (.getfield 22, 3) := by decide +kernel
theorem dX4_advance_113 : decode cX4_advance 113 = .ok (.if_icmp .ge 35, 3) := by decide +kernel
theorem dX4_advance_116 : decode cX4_advance 116 = .ok (.aload_n 0, 1) := by decide +kernel
theorem dX4_advance_117 : decode cX4_advance 117 = .ok (.getfield 18, 3) := by decide +kernel
theorem dX4_advance_120 : decode cX4_advance 120 = .ok (.aload_n 0, 1) := by decide +kernel
theorem dX4_advance_121 : decode cX4_advance 121 = .ok (.getfield 30, 3) := by decide +kernel
theorem dX4_advance_124 : decode cX4_advance 124 = .ok (.caload, 1) := by decide +kernel
theorem dX4_advance_125 : decode cX4_advance 125 = .ok (.invokestatic 49, 3) := by decide +kernel
theorem dX4_advance_128 : decode cX4_advance 128 = .ok (.aload_n 0, 1) := by decide +kernel
theorem dX4_advance_129 : decode cX4_advance 129 = .ok (.getfield 43, 3) := by decide +kernel
theorem dX4_advance_132 : decode cX4_advance 132 = .ok (.if_icmp .ne 16, 3) := by decide +kernel
theorem dX4_advance_135 : decode cX4_advance 135 = .ok (.aload_n 0, 1) := by decide +kernel
theorem dX4_advance_136 : decode cX4_advance 136 = .ok (.dup, 1) := by decide +kernel
theorem dX4_advance_137 : decode cX4_advance 137 = .ok (.getfield 30, 3) := by decide +kernel
theorem dX4_advance_140 : decode cX4_advance 140 = .ok (.iconst 1, 1) := by decide +kernel
theorem dX4_advance_141 : decode cX4_advance 141 = .ok (.iadd, 1) := by decide +kernel
theorem dX4_advance_142 : decode cX4_advance 142 = .ok (.putfield 30, 3) := by decide +kernel
theorem dX4_advance_145 : decode cX4_advance 145 = .ok (.goto (-48), 3) := by decide +kernel
theorem dX4_advance_148 : decode cX4_advance 148 = .ok (.return_, 1) := by decide +kernel
theorem dX4_isWord_0 : decode cX4_isWord 0 = .ok (.aload_n 0, 1) := by decide +kernel
theorem dX4_isWord_1 : decode cX4_isWord 1 = .ok (.getfield 43, 3) := by decide +kernel
theorem dX4_isWord_4 : decode cX4_isWord 4 = .ok (.iconst 1, 1) := by decide +kernel
theorem dX4_isWord_5 : decode cX4_isWord 5 = .ok (.if_icmp .ne 19, 3) := by decide +kernel
theorem dX4_isWord_8 : decode cX4_isWord 8 = .ok (.aload_n 0, 1) := by decide +kernel
theorem dX4_isWord_9 : decode cX4_isWord 9 = .ok (.getfield 30, 3) := by decide +kernel
theorem dX4_isWord_12 : decode cX4_isWord 12 = .ok (.aload_n 0, 1) := by decide +kernel
theorem dX4_isWord_13 : decode cX4_isWord 13 = .ok (.getfield 37, 3) := by decide +kernel
theorem dX4_isWord_16 : decode cX4_isWord 16 = .ok (.isub, 1) := by decide +kernel
theorem dX4_isWord_17 : decode cX4_isWord 17 = .ok (.aload_n 1, 1) := by decide +kernel
theorem dX4_isWord_18 : decode cX4_isWord 18 = .ok (.invokevirtual 53, 3) := by decide +kernel
theorem dX4_isWord_21 : decode cX4_isWord 21 = .ok (.if_icmp .eq 5, 3) := by decide +kernel
theorem dX4_isWord_24 : decode cX4_isWord 24 = .ok (.iconst 0, 1) := by decide +kernel
theorem dX4_isWord_25 : decode cX4_isWord 25 = .ok (.ireturn, 1) := by decide +kernel
theorem dX4_isWord_26 : decode cX4_isWord 26 = .ok (.iconst 0, 1) := by decide +kernel
theorem dX4_isWord_27 : decode cX4_isWord 27 = .ok (.istore_n 2, 1) := by decide +kernel
theorem dX4_isWord_28 : decode cX4_isWord 28 = .ok (.iload_n 2, 1) := by decide +kernel
theorem dX4_isWord_29 : decode cX4_isWord 29 = .ok (.aload_n 1, 1) := by decide +kernel
theorem dX4_isWord_30 : decode cX4_isWord 30 = .ok (.invokevirtual 53, 3) := by decide +kernel
theorem dX4_isWord_33 : decode cX4_isWord 33 = .ok (.if_icmp .ge 30, 3) := by decide +kernel
theorem dX4_isWord_36 : decode cX4_isWord 36 = .ok (.aload_n 0, 1) := by decide +kernel
theorem dX4_isWord_37 : decode cX4_isWord 37 = .ok (.getfield 18, 3) := by decide +kernel
theorem dX4_isWord_40 : decode cX4_isWord 40 = .ok (.aload_n 0, 1) := by decide +kernel
theorem dX4_isWord_41 : decode cX4_isWord 41 = .ok (.getfield 37, 3) := by decide +kernel
theorem dX4_isWord_44 : decode cX4_isWord 44 = .ok (.iload_n 2, 1) := by decide +kernel
theorem dX4_isWord_45 : decode cX4_isWord 45 = .ok (.iadd, 1) := by decide +kernel
theorem dX4_isWord_46 : decode cX4_isWord 46 = .ok (.caload, 1) := by decide +kernel
theorem dX4_isWord_47 : decode cX4_isWord 47 = .ok (.aload_n 1, 1) := by decide +kernel
theorem dX4_isWord_48 : decode cX4_isWord 48 = .ok (.iload_n 2, 1) := by decide +kernel
theorem dX4_isWord_49 : decode cX4_isWord 49 = .ok (.invokevirtual 58, 3) := by decide +kernel
theorem dX4_isWord_52 : decode cX4_isWord 52 = .ok (.if_icmp .eq 5, 3) := by decide +kernel
theorem dX4_isWord_55 : decode cX4_isWord 55 = .ok (.iconst 0, 1) := by decide +kernel
theorem dX4_isWord_56 : decode cX4_isWord 56 = .ok (.ireturn, 1) := by decide +kernel
theorem dX4_isWord_57 : decode cX4_isWord 57 = .ok (.iinc 2 1, 3) := by decide +kernel
theorem dX4_isWord_60 : decode cX4_isWord 60 = .ok (.goto (-32), 3) := by decide +kernel
theorem dX4_isWord_63 : decode cX4_isWord 63 = .ok (.iconst 1, 1) := by decide +kernel
theorem dX4_isWord_64 : decode cX4_isWord 64 = .ok (.ireturn, 1) := by decide +kernel
theorem dX4_readNumber_0 : decode cX4_readNumber 0 = .ok (.aload_n 0, 1) := by decide +kernel
theorem dX4_readNumber_1 : decode cX4_readNumber 1 = .ok (.invokevirtual 40, 3) := by decide +kernel
theorem dX4_readNumber_4 : decode cX4_readNumber 4 = .ok (.aload_n 0, 1) := by decide +kernel
theorem dX4_readNumber_5 : decode cX4_readNumber 5 = .ok (.getfield 43, 3) := by decide +kernel
theorem dX4_readNumber_8 : decode cX4_readNumber 8 = .ok (.iconst 2, 1) := by decide +kernel
theorem dX4_readNumber_9 : decode cX4_readNumber 9 = .ok (.if_icmp .ne 16, 3) := by decide +kernel
theorem dX4_readNumber_12 : decode cX4_readNumber 12 = .ok (.aload_n 0, 1) := by decide +kernel
theorem dX4_readNumber_13 : decode cX4_readNumber 13 = .ok (.getfield 30, 3) := by decide +kernel
theorem dX4_readNumber_16 : decode cX4_readNumber 16 = .ok (.aload_n 0, 1) := by decide +kernel
theorem dX4_readNumber_17 : decode cX4_readNumber 17 = .ok (.getfield 37, 3) := by decide +kernel
theorem dX4_readNumber_20 : decode cX4_readNumber 20 = .ok (.isub, 1) := by decide +kernel
theorem dX4_readNumber_21 : decode cX4_readNumber 21 = .ok (.iconst 2, 1) := by decide +kernel
theorem dX4_readNumber_22 : decode cX4_readNumber 22 = .ok (.if_icmp .le 5, 3) := by decide +kernel
theorem dX4_readNumber_25 : decode cX4_readNumber 25 = .ok (.iconst (-1), 1) := by decide +kernel
theorem dX4_readNumber_26 : decode cX4_readNumber 26 = .ok (.ireturn, 1) := by decide +kernel
theorem dX4_readNumber_27 : decode cX4_readNumber 27 = .ok (.iconst 0, 1) := by decide +kernel
theorem dX4_readNumber_28 : decode cX4_readNumber 28 = .ok (.istore_n 3, 1) := by decide +kernel
theorem dX4_readNumber_29 : decode cX4_readNumber 29 = .ok (.aload_n 0, 1) := by decide +kernel
theorem dX4_readNumber_30 : decode cX4_readNumber 30 = .ok (.getfield 37, 3) := by decide +kernel
theorem dX4_readNumber_33 : decode cX4_readNumber 33 = .ok (.istore 4, 2) := by decide +kernel
theorem dX4_readNumber_35 : decode cX4_readNumber 35 = .ok (.iload 4, 2) := by decide +kernel
theorem dX4_readNumber_37 : decode cX4_readNumber 37 = .ok (.aload_n 0, 1) := by decide +kernel
theorem dX4_readNumber_38 : decode cX4_readNumber 38 = .ok (.getfield 30, 3) := by decide +kernel
theorem dX4_readNumber_41 : decode cX4_readNumber 41 = .ok (.if_icmp .ge 25, 3) := by decide +kernel
theorem dX4_readNumber_44 : decode cX4_readNumber 44 = .ok (.iload_n 3, 1) := by decide +kernel
theorem dX4_readNumber_45 : decode cX4_readNumber 45 = .ok (.bipush 10, 2) := by decide +kernel
theorem dX4_readNumber_47 : decode cX4_readNumber 47 = .ok (.imul, 1) := by decide +kernel
theorem dX4_readNumber_48 : decode cX4_readNumber 48 = .ok (.aload_n 0, 1) := by decide +kernel
theorem dX4_readNumber_49 : decode cX4_readNumber 49 = .ok (.getfield 18, 3) := by decide +kernel
theorem dX4_readNumber_52 : decode cX4_readNumber 52 = .ok (.iload 4, 2) := by decide +kernel
theorem dX4_readNumber_54 : decode cX4_readNumber 54 = .ok (.caload, 1) := by decide +kernel
theorem dX4_readNumber_55 : decode cX4_readNumber 55 = .ok (.bipush 48, 2) := by decide +kernel
theorem dX4_readNumber_57 : decode cX4_readNumber 57 = .ok (.isub, 1) := by decide +kernel
theorem dX4_readNumber_58 : decode cX4_readNumber 58 = .ok (.iadd, 1) := by decide +kernel
theorem dX4_readNumber_59 : decode cX4_readNumber 59 = .ok (.istore_n 3, 1) := by decide +kernel
theorem dX4_readNumber_60 : decode cX4_readNumber 60 = .ok (.iinc 4 1, 3) := by decide +kernel
theorem dX4_readNumber_63 : decode cX4_readNumber 63 = .ok (.goto (-28), 3) := by decide +kernel
theorem dX4_readNumber_66 : decode cX4_readNumber 66 = .ok (.iload_n 3, 1) := by decide +kernel
theorem dX4_readNumber_67 : decode cX4_readNumber 67 = .ok (.iload_n 1, 1) := by decide +kernel
theorem dX4_readNumber_68 : decode cX4_readNumber 68 = .ok (.if_icmp .lt 8, 3) := by decide +kernel
theorem dX4_readNumber_71 : decode cX4_readNumber 71 = .ok (.iload_n 3, 1) := by decide +kernel
theorem dX4_readNumber_72 : decode cX4_readNumber 72 = .ok (.iload_n 2, 1) := by decide +kernel
theorem dX4_readNumber_73 : decode cX4_readNumber 73 = .ok (.if_icmp .le 7, 3) := by decide +kernel
theorem dX4_readNumber_76 : decode cX4_readNumber 76 = .ok (.iconst (-1), 1) := by decide +kernel
theorem dX4_readNumber_77 : decode cX4_readNumber 77 = .ok (.goto 4, 3) := by decide +kernel
theorem dX4_readNumber_80 : decode cX4_readNumber 80 = .ok (.iload_n 3, 1) := by decide +kernel
theorem dX4_readNumber_81 : decode cX4_readNumber 81 = .ok (.ireturn, 1) := by decide +kernel
theorem dX4_readGrid_0 : decode cX4_readGrid 0 = .ok (.aload_n 0, 1) := by decide +kernel
theorem dX4_readGrid_1 : decode cX4_readGrid 1 = .ok (.iconst 2, 1) := by decide +kernel
theorem dX4_readGrid_2 : decode cX4_readGrid 2 = .ok (.bipush 8, 2) := by decide +kernel
theorem dX4_readGrid_4 : decode cX4_readGrid 4 = .ok (.invokevirtual 98, 3) := by decide +kernel
theorem dX4_readGrid_7 : decode cX4_readGrid 7 = .ok (.istore_n 1, 1) := by decide +kernel
theorem dX4_readGrid_8 : decode cX4_readGrid 8 = .ok (.iload_n 1, 1) := by decide +kernel
theorem dX4_readGrid_9 : decode cX4_readGrid 9 = .ok (.iconst (-1), 1) := by decide +kernel
theorem dX4_readGrid_10 : decode cX4_readGrid 10 = .ok (.if_icmp .ne 5, 3) := by decide +kernel
theorem dX4_readGrid_13 : decode cX4_readGrid 13 = .ok (.iconst 0, 1) := by decide +kernel
theorem dX4_readGrid_14 : decode cX4_readGrid 14 = .ok (.ireturn, 1) := by decide +kernel
theorem dX4_readGrid_15 : decode cX4_readGrid 15 = .ok (.aload_n 0, 1) := by decide +kernel
theorem dX4_readGrid_16 : decode cX4_readGrid 16 = .ok (.getfield 12, 3) := by decide +kernel
theorem dX4_readGrid_19 : decode cX4_readGrid 19 = .ok (.iload_n 1, 1) := by decide +kernel
theorem dX4_readGrid_20 : decode cX4_readGrid 20 = .ok (.invokevirtual 102, 3) := by decide +kernel
theorem dX4_readGrid_23 : decode cX4_readGrid 23 = .ok (.iconst 1, 1) := by decide +kernel
theorem dX4_readGrid_24 : decode cX4_readGrid 24 = .ok (.ireturn, 1) := by decide +kernel
theorem dX4_readLine_0 : decode cX4_readLine 0 = .ok (.aload_n 0, 1) := by decide +kernel
theorem dX4_readLine_1 : decode cX4_readLine 1 = .ok (.getfield 12, 3) := by decide +kernel
theorem dX4_readLine_4 : decode cX4_readLine 4 = .ok (.getfield 106, 3) := by decide +kernel
theorem dX4_readLine_7 : decode cX4_readLine 7 = .ok (.bipush 10, 2) := by decide +kernel
theorem dX4_readLine_9 : decode cX4_readLine 9 = .ok (.if_icmp .lt 5, 3) := by decide +kernel
theorem dX4_readLine_12 : decode cX4_readLine 12 = .ok (.iconst 0, 1) := by decide +kernel
theorem dX4_readLine_13 : decode cX4_readLine 13 = .ok (.ireturn, 1) := by decide +kernel
theorem dX4_readLine_14 : decode cX4_readLine 14 = .ok (.aload_n 0, 1) := by decide +kernel
theorem dX4_readLine_15 : decode cX4_readLine 15 = .ok (.iconst 0, 1) := by decide +kernel
theorem dX4_readLine_16 : decode cX4_readLine 16 = .ok (.aload_n 0, 1) := by decide +kernel
theorem dX4_readLine_17 : decode cX4_readLine 17 = .ok (.getfield 12, 3) := by decide +kernel
theorem dX4_readLine_20 : decode cX4_readLine 20 = .ok (.getfield 109, 3) := by decide +kernel
theorem dX4_readLine_23 : decode cX4_readLine 23 = .ok (.iconst 1, 1) := by decide +kernel
theorem dX4_readLine_24 : decode cX4_readLine 24 = .ok (.isub, 1) := by decide +kernel
theorem dX4_readLine_25 : decode cX4_readLine 25 = .ok (.invokevirtual 98, 3) := by decide +kernel
theorem dX4_readLine_28 : decode cX4_readLine 28 = .ok (.istore_n 1, 1) := by decide +kernel
theorem dX4_readLine_29 : decode cX4_readLine 29 = .ok (.iload_n 1, 1) := by decide +kernel
theorem dX4_readLine_30 : decode cX4_readLine 30 = .ok (.iconst (-1), 1) := by decide +kernel
theorem dX4_readLine_31 : decode cX4_readLine 31 = .ok (.if_icmp .ne 5, 3) := by decide +kernel
theorem dX4_readLine_34 : decode cX4_readLine 34 = .ok (.iconst 0, 1) := by decide +kernel
theorem dX4_readLine_35 : decode cX4_readLine 35 = .ok (.ireturn, 1) := by decide +kernel
theorem dX4_readLine_36 : decode cX4_readLine 36 = .ok (.aload_n 0, 1) := by decide +kernel
theorem dX4_readLine_37 : decode cX4_readLine 37 = .ok (.iconst 0, 1) := by decide +kernel
theorem dX4_readLine_38 : decode cX4_readLine 38 = .ok (.aload_n 0, 1) := by decide +kernel
theorem dX4_readLine_39 : decode cX4_readLine 39 = .ok (.getfield 12, 3) := by decide +kernel
theorem dX4_readLine_42 : decode cX4_readLine 42 = .ok (.getfield 109, 3) := by decide +kernel
theorem dX4_readLine_45 : decode cX4_readLine 45 = .ok (.iconst 1, 1) := by decide +kernel
theorem dX4_readLine_46 : decode cX4_readLine 46 = .ok (.isub, 1) := by decide +kernel
theorem dX4_readLine_47 : decode cX4_readLine 47 = .ok (.invokevirtual 98, 3) := by decide +kernel
theorem dX4_readLine_50 : decode cX4_readLine 50 = .ok (.istore_n 2, 1) := by decide +kernel
theorem dX4_readLine_51 : decode cX4_readLine 51 = .ok (.iload_n 2, 1) := by decide +kernel
theorem dX4_readLine_52 : decode cX4_readLine 52 = .ok (.iconst (-1), 1) := by decide +kernel
theorem dX4_readLine_53 : decode cX4_readLine 53 = .ok (.if_icmp .eq 8, 3) := by decide +kernel
theorem dX4_readLine_56 : decode cX4_readLine 56 = .ok (.iload_n 2, 1) := by decide +kernel
theorem dX4_readLine_57 : decode cX4_readLine 57 = .ok (.iload_n 1, 1) := by decide +kernel
theorem dX4_readLine_58 : decode cX4_readLine 58 = .ok (.if_icmp .ne 5, 3) := by decide +kernel
theorem dX4_readLine_61 : decode cX4_readLine 61 = .ok (.iconst 0, 1) := by decide +kernel
theorem dX4_readLine_62 : decode cX4_readLine 62 = .ok (.ireturn, 1) := by decide +kernel
theorem dX4_readLine_63 : decode cX4_readLine 63 = .ok (.aload_n 0, 1) := by decide +kernel
theorem dX4_readLine_64 : decode cX4_readLine 64 = .ok (.getfield 12, 3) := by decide +kernel
theorem dX4_readLine_67 : decode cX4_readLine 67 = .ok (.iload_n 1, 1) := by decide +kernel
theorem dX4_readLine_68 : decode cX4_readLine 68 = .ok (.iload_n 2, 1) := by decide +kernel
theorem dX4_readLine_69 : decode cX4_readLine 69 = .ok (.invokevirtual 112, 3) := by decide +kernel
theorem dX4_readLine_72 : decode cX4_readLine 72 = .ok (.iconst 1, 1) := by decide +kernel
theorem dX4_readLine_73 : decode cX4_readLine 73 = .ok (.ireturn, 1) := by decide +kernel
theorem dX4_readOffer_0 : decode cX4_readOffer 0 = .ok (.aload_n 0, 1) := by decide +kernel
theorem dX4_readOffer_1 : decode cX4_readOffer 1 = .ok (.getfield 12, 3) := by decide +kernel
theorem dX4_readOffer_4 : decode cX4_readOffer 4 = .ok (.getfield 126, 3) := by decide +kernel
theorem dX4_readOffer_7 : decode cX4_readOffer 7 = .ok (.bipush 6, 2) := by decide +kernel
theorem dX4_readOffer_9 : decode cX4_readOffer 9 = .ok (.if_icmp .lt 5, 3) := by decide +kernel
theorem dX4_readOffer_12 : decode cX4_readOffer 12 = .ok (.iconst 0, 1) := by decide +kernel
theorem dX4_readOffer_13 : decode cX4_readOffer 13 = .ok (.ireturn, 1) := by decide +kernel
theorem dX4_readOffer_14 : decode cX4_readOffer 14 = .ok (.aload_n 0, 1) := by decide +kernel
theorem dX4_readOffer_15 : decode cX4_readOffer 15 = .ok (.iconst 0, 1) := by decide +kernel
theorem dX4_readOffer_16 : decode cX4_readOffer 16 = .ok (.iconst 4, 1) := by decide +kernel
theorem dX4_readOffer_17 : decode cX4_readOffer 17 = .ok (.invokevirtual 98, 3) := by decide +kernel
theorem dX4_readOffer_20 : decode cX4_readOffer 20 = .ok (.istore_n 1, 1) := by decide +kernel
theorem dX4_readOffer_21 : decode cX4_readOffer 21 = .ok (.iload_n 1, 1) := by decide +kernel
theorem dX4_readOffer_22 : decode cX4_readOffer 22 = .ok (.iconst (-1), 1) := by decide +kernel
theorem dX4_readOffer_23 : decode cX4_readOffer 23 = .ok (.if_icmp .ne 5, 3) := by decide +kernel
theorem dX4_readOffer_26 : decode cX4_readOffer 26 = .ok (.iconst 0, 1) := by decide +kernel
theorem dX4_readOffer_27 : decode cX4_readOffer 27 = .ok (.ireturn, 1) := by decide +kernel
theorem dX4_readOffer_28 : decode cX4_readOffer 28 = .ok (.aload_n 0, 1) := by decide +kernel
theorem dX4_readOffer_29 : decode cX4_readOffer 29 = .ok (.iconst 0, 1) := by decide +kernel
theorem dX4_readOffer_30 : decode cX4_readOffer 30 = .ok (.aload_n 0, 1) := by decide +kernel
theorem dX4_readOffer_31 : decode cX4_readOffer 31 = .ok (.getfield 12, 3) := by decide +kernel
theorem dX4_readOffer_34 : decode cX4_readOffer 34 = .ok (.iload_n 1, 1) := by decide +kernel
theorem dX4_readOffer_35 : decode cX4_readOffer 35 = .ok (.invokevirtual 119, 3) := by decide +kernel
theorem dX4_readOffer_38 : decode cX4_readOffer 38 = .ok (.iconst 1, 1) := by decide +kernel
theorem dX4_readOffer_39 : decode cX4_readOffer 39 = .ok (.isub, 1) := by decide +kernel
theorem dX4_readOffer_40 : decode cX4_readOffer 40 = .ok (.invokevirtual 98, 3) := by decide +kernel
theorem dX4_readOffer_43 : decode cX4_readOffer 43 = .ok (.istore_n 2, 1) := by decide +kernel
theorem dX4_readOffer_44 : decode cX4_readOffer 44 = .ok (.iload_n 2, 1) := by decide +kernel
theorem dX4_readOffer_45 : decode cX4_readOffer 45 = .ok (.iconst (-1), 1) := by decide +kernel
theorem dX4_readOffer_46 : decode cX4_readOffer 46 = .ok (.if_icmp .ne 5, 3) := by decide +kernel
theorem dX4_readOffer_49 : decode cX4_readOffer 49 = .ok (.iconst 0, 1) := by decide +kernel
theorem dX4_readOffer_50 : decode cX4_readOffer 50 = .ok (.ireturn, 1) := by decide +kernel
theorem dX4_readOffer_51 : decode cX4_readOffer 51 = .ok (.aload_n 0, 1) := by decide +kernel
theorem dX4_readOffer_52 : decode cX4_readOffer 52 = .ok (.iconst 1, 1) := by decide +kernel
theorem dX4_readOffer_53 : decode cX4_readOffer 53 = .ok (.bipush 9, 2) := by decide +kernel
theorem dX4_readOffer_55 : decode cX4_readOffer 55 = .ok (.invokevirtual 98, 3) := by decide +kernel
theorem dX4_readOffer_58 : decode cX4_readOffer 58 = .ok (.istore_n 3, 1) := by decide +kernel
theorem dX4_readOffer_59 : decode cX4_readOffer 59 = .ok (.iload_n 3, 1) := by decide +kernel
theorem dX4_readOffer_60 : decode cX4_readOffer 60 = .ok (.iconst (-1), 1) := by decide +kernel
theorem dX4_readOffer_61 : decode cX4_readOffer 61 = .ok (.if_icmp .ne 5, 3) := by decide +kernel
theorem dX4_readOffer_64 : decode cX4_readOffer 64 = .ok (.iconst 0, 1) := by decide +kernel
theorem dX4_readOffer_65 : decode cX4_readOffer 65 = .ok (.ireturn, 1) := by decide +kernel
theorem dX4_readOffer_66 : decode cX4_readOffer 66 = .ok (.aload_n 0, 1) := by decide +kernel
theorem dX4_readOffer_67 : decode cX4_readOffer 67 = .ok (.getfield 12, 3) := by decide +kernel
theorem dX4_readOffer_70 : decode cX4_readOffer 70 = .ok (.iload_n 1, 1) := by decide +kernel
theorem dX4_readOffer_71 : decode cX4_readOffer 71 = .ok (.iload_n 2, 1) := by decide +kernel
theorem dX4_readOffer_72 : decode cX4_readOffer 72 = .ok (.iload_n 3, 1) := by decide +kernel
theorem dX4_readOffer_73 : decode cX4_readOffer 73 = .ok (.invokevirtual 129, 3) := by decide +kernel
theorem dX4_readOffer_76 : decode cX4_readOffer 76 = .ok (.iconst 1, 1) := by decide +kernel
theorem dX4_readOffer_77 : decode cX4_readOffer 77 = .ok (.ireturn, 1) := by decide +kernel
theorem dX4_readSortName_0 : decode cX4_readSortName 0 = .ok (.aload_n 0, 1) := by decide +kernel
theorem dX4_readSortName_1 : decode cX4_readSortName 1 = .ok (.ldc 88, 2) := by decide +kernel
theorem dX4_readSortName_3 : decode cX4_readSortName 3 = .ok (.invokevirtual 64, 3) := by decide +kernel
theorem dX4_readSortName_6 : decode cX4_readSortName 6 = .ok (.ifCond .eq 5, 3) := by decide +kernel
theorem dX4_readSortName_9 : decode cX4_readSortName 9 = .ok (.iconst 0, 1) := by decide +kernel
theorem dX4_readSortName_10 : decode cX4_readSortName 10 = .ok (.ireturn, 1) := by decide +kernel
theorem dX4_readSortName_11 : decode cX4_readSortName 11 = .ok (.aload_n 0, 1) := by decide +kernel
theorem dX4_readSortName_12 : decode cX4_readSortName 12 = .ok (.ldc 90, 2) := by decide +kernel
theorem dX4_readSortName_14 : decode cX4_readSortName 14 = .ok (.invokevirtual 64, 3) := by decide +kernel
theorem dX4_readSortName_17 : decode cX4_readSortName 17 = .ok (.ifCond .eq 5, 3) := by decide +kernel
theorem dX4_readSortName_20 : decode cX4_readSortName 20 = .ok (.iconst 1, 1) := by decide +kernel
theorem dX4_readSortName_21 : decode cX4_readSortName 21 = .ok (.ireturn, 1) := by decide +kernel
theorem dX4_readSortName_22 : decode cX4_readSortName 22 = .ok (.aload_n 0, 1) := by decide +kernel
theorem dX4_readSortName_23 : decode cX4_readSortName 23 = .ok (.ldc 92, 2) := by decide +kernel
theorem dX4_readSortName_25 : decode cX4_readSortName 25 = .ok (.invokevirtual 64, 3) := by decide +kernel
theorem dX4_readSortName_28 : decode cX4_readSortName 28 = .ok (.ifCond .eq 5, 3) := by decide +kernel
theorem dX4_readSortName_31 : decode cX4_readSortName 31 = .ok (.iconst 2, 1) := by decide +kernel
theorem dX4_readSortName_32 : decode cX4_readSortName 32 = .ok (.ireturn, 1) := by decide +kernel
theorem dX4_readSortName_33 : decode cX4_readSortName 33 = .ok (.aload_n 0, 1) := by decide +kernel
theorem dX4_readSortName_34 : decode cX4_readSortName 34 = .ok (.ldc 94, 2) := by decide +kernel
theorem dX4_readSortName_36 : decode cX4_readSortName 36 = .ok (.invokevirtual 64, 3) := by decide +kernel
theorem dX4_readSortName_39 : decode cX4_readSortName 39 = .ok (.ifCond .eq 5, 3) := by decide +kernel
theorem dX4_readSortName_42 : decode cX4_readSortName 42 = .ok (.iconst 3, 1) := by decide +kernel
theorem dX4_readSortName_43 : decode cX4_readSortName 43 = .ok (.ireturn, 1) := by decide +kernel
theorem dX4_readSortName_44 : decode cX4_readSortName 44 = .ok (.aload_n 0, 1) := by decide +kernel
theorem dX4_readSortName_45 : decode cX4_readSortName 45 = .ok (.ldc 96, 2) := by decide +kernel
theorem dX4_readSortName_47 : decode cX4_readSortName 47 = .ok (.invokevirtual 64, 3) := by decide +kernel
theorem dX4_readSortName_50 : decode cX4_readSortName 50 = .ok (.ifCond .eq 7, 3) := by decide +kernel
theorem dX4_readSortName_53 : decode cX4_readSortName 53 = .ok (.iconst 4, 1) := by decide +kernel
theorem dX4_readSortName_54 : decode cX4_readSortName 54 = .ok (.goto 4, 3) := by decide +kernel
theorem dX4_readSortName_57 : decode cX4_readSortName 57 = .ok (.iconst (-1), 1) := by decide +kernel
theorem dX4_readSortName_58 : decode cX4_readSortName 58 = .ok (.ireturn, 1) := by decide +kernel
theorem dX4_readMeter_0 : decode cX4_readMeter 0 = .ok (.aload_n 0, 1) := by decide +kernel
theorem dX4_readMeter_1 : decode cX4_readMeter 1 = .ok (.getfield 12, 3) := by decide +kernel
theorem dX4_readMeter_4 : decode cX4_readMeter 4 = .ok (.getfield 116, 3) := by decide +kernel
theorem dX4_readMeter_7 : decode cX4_readMeter 7 = .ok (.bipush 9, 2) := by decide +kernel
theorem dX4_readMeter_9 : decode cX4_readMeter 9 = .ok (.if_icmp .lt 5, 3) := by decide +kernel
theorem dX4_readMeter_12 : decode cX4_readMeter 12 = .ok (.iconst 0, 1) := by decide +kernel
theorem dX4_readMeter_13 : decode cX4_readMeter 13 = .ok (.ireturn, 1) := by decide +kernel
theorem dX4_readMeter_14 : decode cX4_readMeter 14 = .ok (.aload_n 0, 1) := by decide +kernel
theorem dX4_readMeter_15 : decode cX4_readMeter 15 = .ok (.iconst 0, 1) := by decide +kernel
theorem dX4_readMeter_16 : decode cX4_readMeter 16 = .ok (.aload_n 0, 1) := by decide +kernel
theorem dX4_readMeter_17 : decode cX4_readMeter 17 = .ok (.getfield 12, 3) := by decide +kernel
theorem dX4_readMeter_20 : decode cX4_readMeter 20 = .ok (.iload_n 1, 1) := by decide +kernel
theorem dX4_readMeter_21 : decode cX4_readMeter 21 = .ok (.invokevirtual 119, 3) := by decide +kernel
theorem dX4_readMeter_24 : decode cX4_readMeter 24 = .ok (.iconst 1, 1) := by decide +kernel
theorem dX4_readMeter_25 : decode cX4_readMeter 25 = .ok (.isub, 1) := by decide +kernel
theorem dX4_readMeter_26 : decode cX4_readMeter 26 = .ok (.invokevirtual 98, 3) := by decide +kernel
theorem dX4_readMeter_29 : decode cX4_readMeter 29 = .ok (.istore_n 2, 1) := by decide +kernel
theorem dX4_readMeter_30 : decode cX4_readMeter 30 = .ok (.iload_n 2, 1) := by decide +kernel
theorem dX4_readMeter_31 : decode cX4_readMeter 31 = .ok (.iconst (-1), 1) := by decide +kernel
theorem dX4_readMeter_32 : decode cX4_readMeter 32 = .ok (.if_icmp .ne 5, 3) := by decide +kernel
theorem dX4_readMeter_35 : decode cX4_readMeter 35 = .ok (.iconst 0, 1) := by decide +kernel
theorem dX4_readMeter_36 : decode cX4_readMeter 36 = .ok (.ireturn, 1) := by decide +kernel
theorem dX4_readMeter_37 : decode cX4_readMeter 37 = .ok (.aload_n 0, 1) := by decide +kernel
theorem dX4_readMeter_38 : decode cX4_readMeter 38 = .ok (.getfield 12, 3) := by decide +kernel
theorem dX4_readMeter_41 : decode cX4_readMeter 41 = .ok (.iload_n 1, 1) := by decide +kernel
theorem dX4_readMeter_42 : decode cX4_readMeter 42 = .ok (.iload_n 2, 1) := by decide +kernel
theorem dX4_readMeter_43 : decode cX4_readMeter 43 = .ok (.invokevirtual 123, 3) := by decide +kernel
theorem dX4_readMeter_46 : decode cX4_readMeter 46 = .ok (.iconst 1, 1) := by decide +kernel
theorem dX4_readMeter_47 : decode cX4_readMeter 47 = .ok (.ireturn, 1) := by decide +kernel
theorem dX4_readClause_0 : decode cX4_readClause 0 = .ok (.aload_n 0, 1) := by decide +kernel
theorem dX4_readClause_1 : decode cX4_readClause 1 = .ok (.invokevirtual 40, 3) := by decide +kernel
theorem dX4_readClause_4 : decode cX4_readClause 4 = .ok (.aload_n 0, 1) := by decide +kernel
theorem dX4_readClause_5 : decode cX4_readClause 5 = .ok (.ldc 62, 2) := by decide +kernel
theorem dX4_readClause_7 : decode cX4_readClause 7 = .ok (.invokevirtual 64, 3) := by decide +kernel
theorem dX4_readClause_10 : decode cX4_readClause 10 = .ok (.ifCond .eq 8, 3) := by decide +kernel
theorem dX4_readClause_13 : decode cX4_readClause 13 = .ok (.aload_n 0, 1) := by decide +kernel
theorem dX4_readClause_14 : decode cX4_readClause 14 = .ok (.invokevirtual 68, 3) := by decide +kernel
theorem dX4_readClause_17 : decode cX4_readClause 17 = .ok (.ireturn, 1) := by decide +kernel
theorem dX4_readClause_18 : decode cX4_readClause 18 = .ok (.aload_n 0, 1) := by decide +kernel
theorem dX4_readClause_19 : decode cX4_readClause 19 = .ok (.ldc 71, 2) := by decide +kernel
theorem dX4_readClause_21 : decode cX4_readClause 21 = .ok (.invokevirtual 64, 3) := by decide +kernel
theorem dX4_readClause_24 : decode cX4_readClause 24 = .ok (.ifCond .eq 8, 3) := by decide +kernel
theorem dX4_readClause_27 : decode cX4_readClause 27 = .ok (.aload_n 0, 1) := by decide +kernel
theorem dX4_readClause_28 : decode cX4_readClause 28 = .ok (.invokevirtual 73, 3) := by decide +kernel
theorem dX4_readClause_31 : decode cX4_readClause 31 = .ok (.ireturn, 1) := by decide +kernel
theorem dX4_readClause_32 : decode cX4_readClause 32 = .ok (.aload_n 0, 1) := by decide +kernel
theorem dX4_readClause_33 : decode cX4_readClause 33 = .ok (.ldc 76, 2) := by decide +kernel
theorem dX4_readClause_35 : decode cX4_readClause 35 = .ok (.invokevirtual 64, 3) := by decide +kernel
theorem dX4_readClause_38 : decode cX4_readClause 38 = .ok (.ifCond .eq 8, 3) := by decide +kernel
theorem dX4_readClause_41 : decode cX4_readClause 41 = .ok (.aload_n 0, 1) := by decide +kernel
theorem dX4_readClause_42 : decode cX4_readClause 42 = .ok (.invokevirtual 78, 3) := by decide +kernel
theorem dX4_readClause_45 : decode cX4_readClause 45 = .ok (.ireturn, 1) := by decide +kernel
theorem dX4_readClause_46 : decode cX4_readClause 46 = .ok (.aload_n 0, 1) := by decide +kernel
theorem dX4_readClause_47 : decode cX4_readClause 47 = .ok (.invokevirtual 81, 3) := by decide +kernel
theorem dX4_readClause_50 : decode cX4_readClause 50 = .ok (.istore_n 1, 1) := by decide +kernel
theorem dX4_readClause_51 : decode cX4_readClause 51 = .ok (.iload_n 1, 1) := by decide +kernel
theorem dX4_readClause_52 : decode cX4_readClause 52 = .ok (.iconst (-1), 1) := by decide +kernel
theorem dX4_readClause_53 : decode cX4_readClause 53 = .ok (.if_icmp .eq 15, 3) := by decide +kernel
theorem dX4_readClause_56 : decode cX4_readClause 56 = .ok (.aload_n 0, 1) := by decide +kernel
theorem dX4_readClause_57 : decode cX4_readClause 57 = .ok (.iload_n 1, 1) := by decide +kernel
theorem dX4_readClause_58 : decode cX4_readClause 58 = .ok (.invokevirtual 84, 3) := by decide +kernel
theorem dX4_readClause_61 : decode cX4_readClause 61 = .ok (.ifCond .eq 7, 3) := by decide +kernel
theorem dX4_readClause_64 : decode cX4_readClause 64 = .ok (.iconst 1, 1) := by decide +kernel
theorem dX4_readClause_65 : decode cX4_readClause 65 = .ok (.goto 4, 3) := by decide +kernel
theorem dX4_readClause_68 : decode cX4_readClause 68 = .ok (.iconst 0, 1) := by decide +kernel
theorem dX4_readClause_69 : decode cX4_readClause 69 = .ok (.ireturn, 1) := by decide +kernel
theorem dX4_findFault_0 : decode cX4_findFault 0 = .ok (.aload_n 0, 1) := by decide +kernel
theorem dX4_findFault_1 : decode cX4_findFault 1 = .ok (.getfield 12, 3) := by decide +kernel
theorem dX4_findFault_4 : decode cX4_findFault 4 = .ok (.aload_n 1, 1) := by decide +kernel
theorem dX4_findFault_5 : decode cX4_findFault 5 = .ok (.invokevirtual 26, 3) := by decide +kernel
theorem dX4_findFault_8 : decode cX4_findFault 8 = .ok (.aload_n 0, 1) := by decide +kernel
theorem dX4_findFault_9 : decode cX4_findFault 9 = .ok (.iconst 0, 1) := by decide +kernel
theorem dX4_findFault_10 : decode cX4_findFault 10 = .ok (.putfield 30, 3) := by decide +kernel
theorem dX4_findFault_13 : decode cX4_findFault 13 = .ok (.iconst 1, 1) := by decide +kernel
theorem dX4_findFault_14 : decode cX4_findFault 14 = .ok (.istore_n 2, 1) := by decide +kernel
theorem dX4_findFault_15 : decode cX4_findFault 15 = .ok (.iload_n 2, 1) := by decide +kernel
theorem dX4_findFault_16 : decode cX4_findFault 16 = .ok (.bipush 24, 2) := by decide +kernel
theorem dX4_findFault_18 : decode cX4_findFault 18 = .ok (.if_icmp .gt 66, 3) := by decide +kernel
theorem dX4_findFault_21 : decode cX4_findFault 21 = .ok (.aload_n 0, 1) := by decide +kernel
theorem dX4_findFault_22 : decode cX4_findFault 22 = .ok (.invokevirtual 33, 3) := by decide +kernel
theorem dX4_findFault_25 : decode cX4_findFault 25 = .ok (.ifCond .ne 8, 3) := by decide +kernel
theorem dX4_findFault_28 : decode cX4_findFault 28 = .ok (.aload_n 0, 1) := by decide +kernel
theorem dX4_findFault_29 : decode cX4_findFault 29 = .ok (.getfield 37, 3) := by decide +kernel
theorem dX4_findFault_32 : decode cX4_findFault 32 = .ok (.ireturn, 1) := by decide +kernel
theorem dX4_findFault_33 : decode cX4_findFault 33 = .ok (.aload_n 0, 1) := by decide +kernel
theorem dX4_findFault_34 : decode cX4_findFault 34 = .ok (.invokevirtual 40, 3) := by decide +kernel
theorem dX4_findFault_37 : decode cX4_findFault 37 = .ok (.aload_n 0, 1) := by decide +kernel
theorem dX4_findFault_38 : decode cX4_findFault 38 = .ok (.getfield 43, 3) := by decide +kernel
theorem dX4_findFault_41 : decode cX4_findFault 41 = .ok (.ifCond .ne 10, 3) := by decide +kernel
theorem dX4_findFault_44 : decode cX4_findFault 44 = .ok (.aload_n 0, 1) := by decide +kernel
theorem dX4_findFault_45 : decode cX4_findFault 45 = .ok (.iload_n 2, 1) := by decide +kernel
theorem dX4_findFault_46 : decode cX4_findFault 46 = .ok (.putfield 46, 3) := by decide +kernel
theorem dX4_findFault_49 : decode cX4_findFault 49 = .ok (.iconst (-1), 1) := by decide +kernel
theorem dX4_findFault_50 : decode cX4_findFault 50 = .ok (.ireturn, 1) := by decide +kernel
theorem dX4_findFault_51 : decode cX4_findFault 51 = .ok (.aload_n 0, 1) := by decide +kernel
theorem dX4_findFault_52 : decode cX4_findFault 52 = .ok (.getfield 43, 3) := by decide +kernel
theorem dX4_findFault_55 : decode cX4_findFault 55 = .ok (.iconst 3, 1) := by decide +kernel
theorem dX4_findFault_56 : decode cX4_findFault 56 = .ok (.if_icmp .ne 17, 3) := by decide +kernel
theorem dX4_findFault_59 : decode cX4_findFault 59 = .ok (.aload_n 0, 1) := by decide +kernel
theorem dX4_findFault_60 : decode cX4_findFault 60 = .ok (.getfield 18, 3) := by decide +kernel
theorem dX4_findFault_63 : decode cX4_findFault 63 = .ok (.aload_n 0, 1) := by decide +kernel
theorem dX4_findFault_64 : decode cX4_findFault 64 = .ok (.getfield 37, 3) := by decide +kernel
theorem dX4_findFault_67 : decode cX4_findFault 67 = .ok (.caload, 1) := by decide +kernel
theorem dX4_findFault_68 : decode cX4_findFault 68 = .ok (.bipush 59, 2) := by decide +kernel
theorem dX4_findFault_70 : decode cX4_findFault 70 = .ok (.if_icmp .eq 8, 3) := by decide +kernel
theorem dX4_findFault_73 : decode cX4_findFault 73 = .ok (.aload_n 0, 1) := by decide +kernel
theorem dX4_findFault_74 : decode cX4_findFault 74 = .ok (.getfield 37, 3) := by decide +kernel
theorem dX4_findFault_77 : decode cX4_findFault 77 = .ok (.ireturn, 1) := by decide +kernel
theorem dX4_findFault_78 : decode cX4_findFault 78 = .ok (.iinc 2 1, 3) := by decide +kernel
theorem dX4_findFault_81 : decode cX4_findFault 81 = .ok (.goto (-66), 3) := by decide +kernel
theorem dX4_findFault_84 : decode cX4_findFault 84 = .ok (.aload_n 0, 1) := by decide +kernel
theorem dX4_findFault_85 : decode cX4_findFault 85 = .ok (.getfield 37, 3) := by decide +kernel
theorem dX4_findFault_88 : decode cX4_findFault 88 = .ok (.ireturn, 1) := by decide +kernel
theorem kfX4_22 : ux_FL RX4 22 4 0 := ⟨RX4, TX4, 7, rfl, lay_X4, by decide, tw_172⟩
theorem kfX4_18 : ux_FL RX4 18 4 3 := ⟨RX4, TX4, 7, rfl, lay_X4, by decide, tw_178⟩
theorem kpX4_22 : ux_FP RX4 22 4 0 .int := ⟨RX4, TX4, 7, rfl, lay_X4, by decide, tw_172, tyX4, tyX4_ok, nmX4, rfl, by decide +kernel⟩
theorem kfX4_30 : ux_FL RX4 30 4 6 := ⟨RX4, TX4, 7, rfl, lay_X4, by decide, tw_181⟩
theorem kpX4_37 : ux_FP RX4 37 4 5 .int := ⟨RX4, TX4, 7, rfl, lay_X4, by decide, tw_180, tyX4, tyX4_ok, nmX4, rfl, by decide +kernel⟩
theorem kfX4_37 : ux_FL RX4 37 4 5 := ⟨RX4, TX4, 7, rfl, lay_X4, by decide, tw_180⟩
theorem kpX4_30 : ux_FP RX4 30 4 6 .int := ⟨RX4, TX4, 7, rfl, lay_X4, by decide, tw_181, tyX4, tyX4_ok, nmX4, rfl, by decide +kernel⟩
theorem ksX4_49 : ux_LS RX4 49 yX4_kindOf cX4_kindOf 1 (some .int) 1 := ⟨tw_605, tw_606, tw_74, tw_607, ⟨by decide, by decide, by decide +kernel⟩⟩
theorem kpX4_43 : ux_FP RX4 43 4 4 .int := ⟨RX4, TX4, 7, rfl, lay_X4, by decide, tw_179, tyX4, tyX4_ok, nmX4, rfl, by decide +kernel⟩
theorem kfX4_43 : ux_FL RX4 43 4 4 := ⟨RX4, TX4, 7, rfl, lay_X4, by decide, tw_179⟩
theorem klX4_53 : Cond.methodLink RX4 53 yJ0_length_8abf5 ∈ lw_gt := tw_613
theorem kcX4_58 : Cond.methodLink RX4 58 yJ0_charAt_5068e ∈ lw_gt := tw_623
theorem kvX4_40 : ux_LV RX4 40 4 yX4_advance cX4_advance 1 none 0 := ⟨⟨TX4, 7, rfl⟩, tw_601, tw_603, tw_8, tw_74, tw_604, ⟨by decide, by decide, by decide +kernel⟩⟩
theorem kvX4_98 : ux_LV RX4 98 4 yX4_readNumber cX4_readNumber 5 (some .int) 2 := ⟨⟨TX4, 7, rfl⟩, tw_665, tw_667, tw_11, tw_74, tw_668, ⟨by decide, by decide, by decide +kernel⟩⟩
theorem kfX4_12 : ux_FL RX4 12 4 2 := ⟨RX4, TX4, 7, rfl, lay_X4, by decide, tw_176⟩
theorem kvX4_102 : ux_LV RX4 102 3 yX3_beginAnew cX3_beginAnew 2 none 1 := ⟨⟨TX3, 11, rfl⟩, tw_669, tw_670, tw_671, tw_73, tw_672, ⟨by decide, by decide, by decide +kernel⟩⟩
theorem kfX4_106 : ux_FL RX4 106 3 1 := ⟨RX3, TX3, 11, rfl, lay_X3, by decide, tw_113⟩
theorem kfX4_109 : ux_FL RX4 109 3 0 := ⟨RX3, TX3, 11, rfl, lay_X3, by decide, tw_109⟩
theorem kvX4_112 : ux_LV RX4 112 3 yX3_addLine cX3_addLine 3 none 2 := ⟨⟨TX3, 11, rfl⟩, tw_678, tw_679, tw_680, tw_73, tw_681, ⟨by decide, by decide, by decide +kernel⟩⟩
theorem kfX4_126 : ux_FL RX4 126 3 3 := ⟨RX3, TX3, 11, rfl, lay_X3, by decide, tw_120⟩
theorem kvX4_119 : ux_LV RX4 119 3 yX3_placesFor cX3_placesFor 2 (some .int) 1 := ⟨⟨TX3, 11, rfl⟩, tw_693, tw_490, tw_491, tw_73, tw_492, ⟨by decide, by decide, by decide +kernel⟩⟩
theorem kvX4_129 : ux_LV RX4 129 3 yX3_addOffer cX3_addOffer 4 none 3 := ⟨⟨TX3, 11, rfl⟩, tw_694, tw_695, tw_696, tw_73, tw_697, ⟨by decide, by decide, by decide +kernel⟩⟩
theorem kvX4_64 : ux_LV RX4 64 4 yX4_isWord cX4_isWord 3 (some .boolean) 1 := ⟨⟨TX4, 7, rfl⟩, tw_609, tw_611, tw_9, tw_74, tw_612, ⟨by decide, by decide, by decide +kernel⟩⟩
theorem kfX4_116 : ux_FL RX4 116 3 2 := ⟨RX3, TX3, 11, rfl, lay_X3, by decide, tw_117⟩
theorem kvX4_123 : ux_LV RX4 123 3 yX3_addMeter cX3_addMeter 3 none 2 := ⟨⟨TX3, 11, rfl⟩, tw_711, tw_712, tw_713, tw_73, tw_714, ⟨by decide, by decide, by decide +kernel⟩⟩
theorem kvX4_81 : ux_LV RX4 81 4 yX4_readSortName cX4_readSortName 1 (some .int) 0 := ⟨⟨TX4, 7, rfl⟩, tw_698, tw_700, tw_14, tw_74, tw_701, ⟨by decide, by decide, by decide +kernel⟩⟩
theorem kvX4_84 : ux_LV RX4 84 4 yX4_readMeter cX4_readMeter 3 (some .boolean) 1 := ⟨⟨TX4, 7, rfl⟩, tw_707, tw_709, tw_15, tw_74, tw_710, ⟨by decide, by decide, by decide +kernel⟩⟩
theorem kvX4_78 : ux_LV RX4 78 4 yX4_readOffer cX4_readOffer 4 (some .boolean) 0 := ⟨⟨TX4, 7, rfl⟩, tw_689, tw_691, tw_13, tw_74, tw_692, ⟨by decide, by decide, by decide +kernel⟩⟩
theorem kvX4_73 : ux_LV RX4 73 4 yX4_readLine cX4_readLine 3 (some .boolean) 0 := ⟨⟨TX4, 7, rfl⟩, tw_674, tw_676, tw_12, tw_74, tw_677, ⟨by decide, by decide, by decide +kernel⟩⟩
theorem kvX4_68 : ux_LV RX4 68 4 yX4_readGrid cX4_readGrid 2 (some .boolean) 0 := ⟨⟨TX4, 7, rfl⟩, tw_661, tw_663, tw_10, tw_74, tw_664, ⟨by decide, by decide, by decide +kernel⟩⟩
theorem kvX4_26 : ux_LV RX4 26 3 yX3_copyFrom cX3_copyFrom 2 none 1 := ⟨⟨TX3, 11, rfl⟩, tw_592, tw_593, tw_594, tw_73, tw_595, ⟨by decide, by decide, by decide +kernel⟩⟩
theorem kvX4_33 : ux_LV RX4 33 4 yX4_readClause cX4_readClause 2 (some .boolean) 0 := ⟨⟨TX4, 7, rfl⟩, tw_597, tw_599, tw_7, tw_74, tw_600, ⟨by decide, by decide, by decide +kernel⟩⟩
theorem kpX4_46 : ux_FP RX4 46 4 1 .int := ⟨RX4, TX4, 7, rfl, lay_X4, by decide, tw_174, tyX4, tyX4_ok, nmX4, rfl, by decide +kernel⟩
def fX4_append (v1 : Int32) (N : ux_N) : Option (Int32 × ux_N) :=
  if (N 9 0) < (200 : Int32) then (if ux_in (N 9 0) 200 then (some ((1 : Int32), (ux_u (ux_u N 18 ((N 9 0).toNatClampNeg) (vp_nar .char v1)) 9 0 (((ux_u N 18 ((N 9 0).toNatClampNeg) (vp_nar .char v1)) 9 0) + (1 : Int32))))) else none) else (some ((0 : Int32), N))
set_option maxHeartbeats 4000000 in
set_option maxRecDepth 20000 in
theorem wX4_append {X : ux_X} (C : ux_C X cX4_append RX4 2 (some .boolean) 0 0 shC) {v1 : Int32}  {N : ux_N} {L : ux_L} {o : Int32 × ux_N} (hq : ux_Qi X o.1 o.2 L) (h : fX4_append v1 N = some o) : ux_Wt X 2 0 [(0, .ref (ux_ad X 9)), (1, .int v1)] [] N L := by
  refine wt_aload_n 1 0 C dX4_append_0 rfl rfl ?_
  refine wt_getI 4 C kfX4_22 sc_9 rfl dX4_append_1 rfl ?_
  refine wt_sipush 7 200 C dX4_append_4 rfl (by decide) ?_
  refine wt_icmp_lt 10 12 C dX4_append_7 rfl (by decide) (fun q1 => ?_) (fun q1 => ?_)
  · have h := (if_pos q1).symm.trans h
    refine wt_aload_n 13 0 C dX4_append_12 rfl rfl ?_
    refine wt_getR 16 C kfX4_18 sc_9 rfl dX4_append_13 rfl ?_
    refine wt_aload_n 17 0 C dX4_append_16 rfl rfl ?_
    refine wt_getI 20 C kfX4_22 sc_9 rfl dX4_append_17 rfl ?_
    refine wt_iload_n 21 1 C dX4_append_20 rfl rfl ?_
    obtain ⟨hi2, h⟩ := ux_guard h
    refine wt_cast 22 ((N 9 0).toNatClampNeg) C sc_18 rfl hi2 dX4_append_21 rfl ?_
    refine wt_aload_n 23 0 C dX4_append_22 rfl rfl ?_
    refine wt_dup 24 C dX4_append_23 rfl rfl ?_
    refine wt_getI 27 C kfX4_22 sc_9 rfl dX4_append_24 rfl ?_
    refine wt_iconst 28 1 C dX4_append_27 rfl (by decide) ?_
    refine wt_iadd 29 C dX4_append_28 rfl ?_
    refine wt_putI 32 C kpX4_22 sc_9 rfl rfl rfl dX4_append_29 rfl ?_
    refine wt_iconst 33 1 C dX4_append_32 rfl (by decide) ?_
    cases h
    exact wt_zret C (ux_b_n (by decide)).1 hq dX4_append_33
  · have h := (if_neg q1).symm.trans h
    refine wt_iconst 11 0 C dX4_append_10 rfl (by decide) ?_
    cases h
    exact wt_zret C (ux_b_n (by decide)).1 hq dX4_append_11
theorem mX4_append {l : Launch} {G : ux_G} (hok : ux_ok G shC) {v1 : Int32}  {N : ux_N} {L : ux_L} {o : Int32 × ux_N} (h : fX4_append v1 N = some o) : ux_Mi l G yX4_append cX4_append 2 (some .boolean) 0 0 [.ref (gad G 9), .int v1] N L o.1 o.2 L :=
  ux_ofi shC hok (by decide +kernel) (Nat.le_of_ble_eq_true rfl) (fun X hG hl C hq => by subst hG; subst hl; exact wX4_append C  hq h)
def fX4_empty (N : ux_N) : Option (Int32 × ux_N) :=
  some ((N 9 0), (ux_u N 9 0 (0 : Int32)))
set_option maxHeartbeats 4000000 in
set_option maxRecDepth 20000 in
theorem wX4_empty {X : ux_X} (C : ux_C X cX4_empty RX4 2 (some .int) 0 0 shC)   {N : ux_N} {L : ux_L} {o : Int32 × ux_N} (hq : ux_Qi X o.1 o.2 L) (h : fX4_empty N = some o) : ux_Wt X 2 0 [(0, .ref (ux_ad X 9))] [] N L := by
  refine wt_aload_n 1 0 C dX4_empty_0 rfl rfl ?_
  refine wt_getI 4 C kfX4_22 sc_9 rfl dX4_empty_1 rfl ?_
  refine wt_istore_n 5 [(1, .int (N 9 0)), (0, .ref (ux_ad X 9))] C dX4_empty_4 rfl (by decide) rfl ?_
  refine wt_aload_n 6 1 C dX4_empty_5 rfl rfl ?_
  refine wt_iconst 7 0 C dX4_empty_6 rfl (by decide) ?_
  refine wt_putI 10 C kpX4_22 sc_9 rfl rfl rfl dX4_empty_7 rfl ?_
  refine wt_iload_n 11 0 C dX4_empty_10 rfl rfl ?_
  cases h
  exact wt_iret C hq dX4_empty_11
theorem mX4_empty {l : Launch} {G : ux_G} (hok : ux_ok G shC)   {N : ux_N} {L : ux_L} {o : Int32 × ux_N} (h : fX4_empty N = some o) : ux_Mi l G yX4_empty cX4_empty 2 (some .int) 0 0 [.ref (gad G 9)] N L o.1 o.2 L :=
  ux_ofi shC hok (by decide +kernel) (Nat.le_of_ble_eq_true rfl) (fun X hG hl C hq => by subst hG; subst hl; exact wX4_empty C  hq h)
def fX4_kindOf_31 (s0 : Int32) : Option (Int32) :=
  some s0
set_option maxHeartbeats 4000000 in
set_option maxRecDepth 20000 in
theorem wX4_kindOf_31 {X : ux_X} (C : ux_C X cX4_kindOf RX4 1 (some .int) 0 0 shC) {s0 : Int32}  {N : ux_N} {L : ux_L} {o : Int32} (hq : ux_Qi X o N L) (h : fX4_kindOf_31 s0 = some o) : ux_Wt X 1 31 [] [.int s0] N L := by
  cases h
  exact wt_iret C hq dX4_kindOf_31
def fX4_kindOf_30  : Option (Int32) :=
  fX4_kindOf_31 (3 : Int32)
set_option maxHeartbeats 4000000 in
set_option maxRecDepth 20000 in
theorem wX4_kindOf_30 {X : ux_X} (C : ux_C X cX4_kindOf RX4 1 (some .int) 0 0 shC)   {N : ux_N} {L : ux_L} {o : Int32} (hq : ux_Qi X o N L) (h : fX4_kindOf_30  = some o) : ux_Wt X 1 30 [] [] N L := by
  refine wt_iconst 31 3 C dX4_kindOf_30 rfl (by decide) ?_
  exact wX4_kindOf_31 C hq h
def fX4_kindOf_14 (v0 : Int32) : Option (Int32) :=
  if v0 < (48 : Int32) then (fX4_kindOf_30) else (if (57 : Int32) < v0 then (fX4_kindOf_30) else (fX4_kindOf_31 (2 : Int32)))
set_option maxHeartbeats 4000000 in
set_option maxRecDepth 20000 in
theorem wX4_kindOf_14 {X : ux_X} (C : ux_C X cX4_kindOf RX4 1 (some .int) 0 0 shC) {v0 : Int32}  {N : ux_N} {L : ux_L} {o : Int32} (hq : ux_Qi X o N L) (h : fX4_kindOf_14 v0 = some o) : ux_Wt X 1 14 [(0, .int v0)] [] N L := by
  refine wt_iload_n 15 0 C dX4_kindOf_14 rfl rfl ?_
  refine wt_bipush 17 48 C dX4_kindOf_15 rfl (by decide) ?_
  refine wt_icmp_lt 20 30 C dX4_kindOf_17 rfl (by decide) (fun q1 => ?_) (fun q1 => ?_)
  · have h := (if_pos q1).symm.trans h
    refine wt_sub [] rfl ?_
    exact wX4_kindOf_30 C hq h
  · have h := (if_neg q1).symm.trans h
    refine wt_iload_n 21 0 C dX4_kindOf_20 rfl rfl ?_
    refine wt_bipush 23 57 C dX4_kindOf_21 rfl (by decide) ?_
    refine wt_icmp_gt 26 30 C dX4_kindOf_23 rfl (by decide) (fun q2 => ?_) (fun q2 => ?_)
    · have h := (if_pos q2).symm.trans h
      refine wt_sub [] rfl ?_
      exact wX4_kindOf_30 C hq h
    · have h := (if_neg q2).symm.trans h
      refine wt_iconst 27 2 C dX4_kindOf_26 rfl (by decide) ?_
      refine wt_goto 31 C dX4_kindOf_27 (by decide) ?_
      refine wt_sub [] rfl ?_
      exact wX4_kindOf_31 C hq h
def fX4_kindOf (v0 : Int32) : Option (Int32) :=
  if v0 < (97 : Int32) then (fX4_kindOf_14 v0) else (if (122 : Int32) < v0 then (fX4_kindOf_14 v0) else (some (1 : Int32)))
set_option maxHeartbeats 4000000 in
set_option maxRecDepth 20000 in
theorem wX4_kindOf {X : ux_X} (C : ux_C X cX4_kindOf RX4 1 (some .int) 0 0 shC) {v0 : Int32}  {N : ux_N} {L : ux_L} {o : Int32} (hq : ux_Qi X o N L) (h : fX4_kindOf v0 = some o) : ux_Wt X 1 0 [(0, .int v0)] [] N L := by
  refine wt_iload_n 1 0 C dX4_kindOf_0 rfl rfl ?_
  refine wt_bipush 3 97 C dX4_kindOf_1 rfl (by decide) ?_
  refine wt_icmp_lt 6 14 C dX4_kindOf_3 rfl (by decide) (fun q1 => ?_) (fun q1 => ?_)
  · have h := (if_pos q1).symm.trans h
    exact wX4_kindOf_14 C hq h
  · have h := (if_neg q1).symm.trans h
    refine wt_iload_n 7 0 C dX4_kindOf_6 rfl rfl ?_
    refine wt_bipush 9 122 C dX4_kindOf_7 rfl (by decide) ?_
    refine wt_icmp_gt 12 14 C dX4_kindOf_9 rfl (by decide) (fun q2 => ?_) (fun q2 => ?_)
    · have h := (if_pos q2).symm.trans h
      exact wX4_kindOf_14 C hq h
    · have h := (if_neg q2).symm.trans h
      refine wt_iconst 13 1 C dX4_kindOf_12 rfl (by decide) ?_
      cases h
      exact wt_iret C hq dX4_kindOf_13
theorem mX4_kindOf {l : Launch} {G : ux_G} (hok : ux_ok G shC) {v0 : Int32}  {N : ux_N} {L : ux_L} {o : Int32} (h : fX4_kindOf v0 = some o) : ux_Mi l G yX4_kindOf cX4_kindOf 1 (some .int) 0 0 [.int v0] N L o N L :=
  ux_ofi shC hok (by decide +kernel) (Nat.le_of_ble_eq_true rfl) (fun X hG hl C hq => by subst hG; subst hl; exact wX4_kindOf C  hq h)
def fX4_advance_8b (N : ux_N) : Option ((ux_N) ⊕ (ux_N)) :=
  if (N 9 0) ≤ (N 9 5) then (some (.inr (N))) else (if ux_in (N 9 5) 200 then (if (N 18 ((N 9 5).toNatClampNeg)) = (32 : Int32) then (some (.inl (ux_u N 9 5 ((N 9 5) + (1 : Int32))))) else (some (.inr (N)))) else none)
set_option maxHeartbeats 4000000 in
set_option maxRecDepth 20000 in
theorem wX4_advance_8b {X : ux_X} (C : ux_C X cX4_advance RX4 1 none 1 20 shC)   {N : ux_N} {L : ux_L} {o : (ux_N) ⊕ (ux_N)} (hin : ∀ s : ux_N, o = .inl s → ux_Wt X 1 8 [(0, .ref (ux_ad X 9))] [] s L) (hex0 : ∀ e : ux_N, o = .inr (e) → ux_Wt X 1 46 [(0, .ref (ux_ad X 9))] [] e L) (h : fX4_advance_8b N = some o) : ux_Wt X 1 8 [(0, .ref (ux_ad X 9))] [] N L := by
  refine wt_aload_n 9 0 C dX4_advance_8 rfl rfl ?_
  refine wt_getI 12 C kfX4_37 sc_9 rfl dX4_advance_9 rfl ?_
  refine wt_aload_n 13 0 C dX4_advance_12 rfl rfl ?_
  refine wt_getI 16 C kfX4_22 sc_9 rfl dX4_advance_13 rfl ?_
  refine wt_icmp_ge 19 46 C dX4_advance_16 rfl (by decide) (fun q1 => ?_) (fun q1 => ?_)
  · have h := (if_pos q1).symm.trans h
    exact hex0 _ (Option.some.inj h).symm
  · have h := (if_neg q1).symm.trans h
    refine wt_aload_n 20 0 C dX4_advance_19 rfl rfl ?_
    refine wt_getR 23 C kfX4_18 sc_9 rfl dX4_advance_20 rfl ?_
    refine wt_aload_n 24 0 C dX4_advance_23 rfl rfl ?_
    refine wt_getI 27 C kfX4_37 sc_9 rfl dX4_advance_24 rfl ?_
    obtain ⟨hi2, h⟩ := ux_guard h
    refine wt_cald 28 ((N 9 5).toNatClampNeg) C sc_18 rfl hi2 dX4_advance_27 rfl ?_
    refine wt_bipush 30 32 C dX4_advance_28 rfl (by decide) ?_
    refine wt_icmp_ne 33 46 C dX4_advance_30 rfl (by decide) (fun q3 => ?_) (fun q3 => ?_)
    · have h := (if_neg q3).symm.trans h
      exact hex0 _ (Option.some.inj h).symm
    · have h := (if_pos q3).symm.trans h
      refine wt_aload_n 34 0 C dX4_advance_33 rfl rfl ?_
      refine wt_dup 35 C dX4_advance_34 rfl rfl ?_
      refine wt_getI 38 C kfX4_37 sc_9 rfl dX4_advance_35 rfl ?_
      refine wt_iconst 39 1 C dX4_advance_38 rfl (by decide) ?_
      refine wt_iadd 40 C dX4_advance_39 rfl ?_
      refine wt_putI 43 C kpX4_37 sc_9 rfl rfl rfl dX4_advance_40 rfl ?_
      refine wt_goto 8 C dX4_advance_43 (by decide) ?_
      exact hin _ (Option.some.inj h).symm
def fX4_advance_97b (N : ux_N) : Option ((ux_N) ⊕ (ux_N)) :=
  if (N 9 4) = (3 : Int32) then (some (.inr (N))) else (if (N 9 0) ≤ (N 9 6) then (some (.inr (N))) else (if ux_in (N 9 6) 200 then ((fX4_kindOf (N 18 ((N 9 6).toNatClampNeg))).bind (fun o4 => if o4 = (N 9 4) then (some (.inl (ux_u N 9 6 ((N 9 6) + (1 : Int32))))) else (some (.inr (N))))) else none))
set_option maxHeartbeats 4000000 in
set_option maxRecDepth 20000 in
theorem wX4_advance_97b {X : ux_X} (C : ux_C X cX4_advance RX4 1 none 1 20 shC)   {N : ux_N} {L : ux_L} {o : (ux_N) ⊕ (ux_N)} (hin : ∀ s : ux_N, o = .inl s → ux_Wt X 1 97 [(0, .ref (ux_ad X 9))] [] s L) (hex0 : ∀ e : ux_N, o = .inr (e) → ux_Wt X 1 148 [] [] e L) (h : fX4_advance_97b N = some o) : ux_Wt X 1 97 [(0, .ref (ux_ad X 9))] [] N L := by
  refine wt_aload_n 98 0 C dX4_advance_97 rfl rfl ?_
  refine wt_getI 101 C kfX4_43 sc_9 rfl dX4_advance_98 rfl ?_
  refine wt_iconst 102 3 C dX4_advance_101 rfl (by decide) ?_
  refine wt_icmp_eq 105 148 C dX4_advance_102 rfl (by decide) (fun q1 => ?_) (fun q1 => ?_)
  · have h := (if_pos q1).symm.trans h
    refine wt_sub [] rfl ?_
    exact hex0 _ (Option.some.inj h).symm
  · have h := (if_neg q1).symm.trans h
    refine wt_aload_n 106 0 C dX4_advance_105 rfl rfl ?_
    refine wt_getI 109 C kfX4_30 sc_9 rfl dX4_advance_106 rfl ?_
    refine wt_aload_n 110 0 C dX4_advance_109 rfl rfl ?_
    refine wt_getI 113 C kfX4_22 sc_9 rfl dX4_advance_110 rfl ?_
    refine wt_icmp_ge 116 148 C dX4_advance_113 rfl (by decide) (fun q2 => ?_) (fun q2 => ?_)
    · have h := (if_pos q2).symm.trans h
      refine wt_sub [] rfl ?_
      exact hex0 _ (Option.some.inj h).symm
    · have h := (if_neg q2).symm.trans h
      refine wt_aload_n 117 0 C dX4_advance_116 rfl rfl ?_
      refine wt_getR 120 C kfX4_18 sc_9 rfl dX4_advance_117 rfl ?_
      refine wt_aload_n 121 0 C dX4_advance_120 rfl rfl ?_
      refine wt_getI 124 C kfX4_30 sc_9 rfl dX4_advance_121 rfl ?_
      obtain ⟨hi3, h⟩ := ux_guard h
      refine wt_cald 125 ((N 9 6).toNatClampNeg) C sc_18 rfl hi3 dX4_advance_124 rfl ?_
      obtain ⟨o4, hc5, h⟩ := Option.bind_eq_some_iff.mp h
      refine wt_callSi 128 [] C ksX4_49 (mX4_kindOf (cx_ok C)  hc5) rfl rfl ⟨Nat.le_of_ble_eq_true rfl, Nat.le_of_ble_eq_true rfl⟩ (Nat.le_of_ble_eq_true rfl) dX4_advance_125 rfl ?_
      refine wt_aload_n 129 0 C dX4_advance_128 rfl rfl ?_
      refine wt_getI 132 C kfX4_43 sc_9 rfl dX4_advance_129 rfl ?_
      refine wt_icmp_ne 135 148 C dX4_advance_132 rfl (by decide) (fun q6 => ?_) (fun q6 => ?_)
      · have h := (if_neg q6).symm.trans h
        refine wt_sub [] rfl ?_
        exact hex0 _ (Option.some.inj h).symm
      · have h := (if_pos q6).symm.trans h
        refine wt_aload_n 136 0 C dX4_advance_135 rfl rfl ?_
        refine wt_dup 137 C dX4_advance_136 rfl rfl ?_
        refine wt_getI 140 C kfX4_30 sc_9 rfl dX4_advance_137 rfl ?_
        refine wt_iconst 141 1 C dX4_advance_140 rfl (by decide) ?_
        refine wt_iadd 142 C dX4_advance_141 rfl ?_
        refine wt_putI 145 C kpX4_30 sc_9 rfl rfl rfl dX4_advance_142 rfl ?_
        refine wt_goto 97 C dX4_advance_145 (by decide) ?_
        exact hin _ (Option.some.inj h).symm
def fX4_advance_148 (N : ux_N) : Option (ux_N) :=
  some N
set_option maxHeartbeats 4000000 in
set_option maxRecDepth 20000 in
theorem wX4_advance_148 {X : ux_X} (C : ux_C X cX4_advance RX4 1 none 1 20 shC)   {N : ux_N} {L : ux_L} {o : ux_N} (hq : ux_Qv X o L) (h : fX4_advance_148 N = some o) : ux_Wt X 1 148 [] [] N L := by
  cases h
  exact wt_vret C hq dX4_advance_148
def fX4_advance_46 (N : ux_N) : Option (ux_N) :=
  if ((ux_u N 9 6 (N 9 5)) 9 5) < ((ux_u N 9 6 (N 9 5)) 9 0) then (if ux_in ((ux_u N 9 6 (N 9 5)) 9 5) 200 then ((fX4_kindOf ((ux_u N 9 6 (N 9 5)) 18 (((ux_u N 9 6 (N 9 5)) 9 5).toNatClampNeg))).bind (fun o3 => (ux_lp (fun s : ux_N => fX4_advance_97b s) ux_fu (ux_u (ux_u (ux_u N 9 6 (N 9 5)) 9 4 o3) 9 6 (((ux_u (ux_u N 9 6 (N 9 5)) 9 4 o3) 9 6) + (1 : Int32)))).bind (fun e12 => fX4_advance_148 e12))) else none) else (some (ux_u (ux_u N 9 6 (N 9 5)) 9 4 (0 : Int32)))
set_option maxHeartbeats 4000000 in
set_option maxRecDepth 20000 in
theorem wX4_advance_46 {X : ux_X} (C : ux_C X cX4_advance RX4 1 none 1 20 shC)   {N : ux_N} {L : ux_L} {o : ux_N} (hq : ux_Qv X o L) (h : fX4_advance_46 N = some o) : ux_Wt X 1 46 [(0, .ref (ux_ad X 9))] [] N L := by
  refine wt_aload_n 47 0 C dX4_advance_46 rfl rfl ?_
  refine wt_aload_n 48 0 C dX4_advance_47 rfl rfl ?_
  refine wt_getI 51 C kfX4_37 sc_9 rfl dX4_advance_48 rfl ?_
  refine wt_putI 54 C kpX4_30 sc_9 rfl rfl rfl dX4_advance_51 rfl ?_
  refine wt_aload_n 55 0 C dX4_advance_54 rfl rfl ?_
  refine wt_getI 58 C kfX4_37 sc_9 rfl dX4_advance_55 rfl ?_
  refine wt_aload_n 59 0 C dX4_advance_58 rfl rfl ?_
  refine wt_getI 62 C kfX4_22 sc_9 rfl dX4_advance_59 rfl ?_
  refine wt_icmp_lt 65 71 C dX4_advance_62 rfl (by decide) (fun q1 => ?_) (fun q1 => ?_)
  · have h := (if_pos q1).symm.trans h
    refine wt_aload_n 72 0 C dX4_advance_71 rfl rfl ?_
    refine wt_aload_n 73 0 C dX4_advance_72 rfl rfl ?_
    refine wt_getR 76 C kfX4_18 sc_9 rfl dX4_advance_73 rfl ?_
    refine wt_aload_n 77 0 C dX4_advance_76 rfl rfl ?_
    refine wt_getI 80 C kfX4_37 sc_9 rfl dX4_advance_77 rfl ?_
    obtain ⟨hi2, h⟩ := ux_guard h
    refine wt_cald 81 (((ux_u N 9 6 (N 9 5)) 9 5).toNatClampNeg) C sc_18 rfl hi2 dX4_advance_80 rfl ?_
    obtain ⟨o3, hc4, h⟩ := Option.bind_eq_some_iff.mp h
    refine wt_callSi 84 [.ref (ux_ad X 9)] C ksX4_49 (mX4_kindOf (cx_ok C)  hc4) rfl rfl ⟨Nat.le_of_ble_eq_true rfl, Nat.le_of_ble_eq_true rfl⟩ (Nat.le_of_ble_eq_true rfl) dX4_advance_81 rfl ?_
    refine wt_putI 87 C kpX4_43 sc_9 rfl rfl rfl dX4_advance_84 rfl ?_
    refine wt_aload_n 88 0 C dX4_advance_87 rfl rfl ?_
    refine wt_dup 89 C dX4_advance_88 rfl rfl ?_
    refine wt_getI 92 C kfX4_30 sc_9 rfl dX4_advance_89 rfl ?_
    refine wt_iconst 93 1 C dX4_advance_92 rfl (by decide) ?_
    refine wt_iadd 94 C dX4_advance_93 rfl ?_
    refine wt_putI 97 C kpX4_30 sc_9 rfl rfl rfl dX4_advance_94 rfl ?_
    obtain ⟨e5, hl6, h⟩ := Option.bind_eq_some_iff.mp h
    refine ux_loop (fun s : ux_N => fX4_advance_97b s) (fun s : ux_N => ux_Wt X 1 97 [(0, .ref (ux_ad X 9))] [] s L) (e := e5) ?_ hl6
    intro s7 o8 hb9 hi10 hx11
    refine wX4_advance_97b C hi10 (fun x0 he => ?_) hb9
    · obtain ⟨e12, rfl⟩ : ∃ z, z = x0 := ⟨_, rfl⟩
      have h9 := hx11 _ he
      subst h9
      exact wX4_advance_148 C hq h
  · have h := (if_neg q1).symm.trans h
    refine wt_aload_n 66 0 C dX4_advance_65 rfl rfl ?_
    refine wt_iconst 67 0 C dX4_advance_66 rfl (by decide) ?_
    refine wt_putI 70 C kpX4_43 sc_9 rfl rfl rfl dX4_advance_67 rfl ?_
    cases h
    exact wt_vret C hq dX4_advance_70
def fX4_advance (N : ux_N) : Option (ux_N) :=
  (ux_lp (fun s : ux_N => fX4_advance_8b s) ux_fu (ux_u N 9 5 (N 9 6))).bind (fun e8 => fX4_advance_46 e8)
set_option maxHeartbeats 4000000 in
set_option maxRecDepth 20000 in
theorem wX4_advance {X : ux_X} (C : ux_C X cX4_advance RX4 1 none 1 20 shC)   {N : ux_N} {L : ux_L} {o : ux_N} (hq : ux_Qv X o L) (h : fX4_advance N = some o) : ux_Wt X 1 0 [(0, .ref (ux_ad X 9))] [] N L := by
  refine wt_aload_n 1 0 C dX4_advance_0 rfl rfl ?_
  refine wt_aload_n 2 0 C dX4_advance_1 rfl rfl ?_
  refine wt_getI 5 C kfX4_30 sc_9 rfl dX4_advance_2 rfl ?_
  refine wt_putI 8 C kpX4_37 sc_9 rfl rfl rfl dX4_advance_5 rfl ?_
  obtain ⟨e1, hl2, h⟩ := Option.bind_eq_some_iff.mp h
  refine ux_loop (fun s : ux_N => fX4_advance_8b s) (fun s : ux_N => ux_Wt X 1 8 [(0, .ref (ux_ad X 9))] [] s L) (e := e1) ?_ hl2
  intro s3 o4 hb5 hi6 hx7
  refine wX4_advance_8b C hi6 (fun x0 he => ?_) hb5
  · obtain ⟨e8, rfl⟩ : ∃ z, z = x0 := ⟨_, rfl⟩
    have h9 := hx7 _ he
    subst h9
    exact wX4_advance_46 C hq h
theorem mX4_advance {l : Launch} {G : ux_G} (hok : ux_ok G shC)   {N : ux_N} {L : ux_L} {o : ux_N} (h : fX4_advance N = some o) : ux_Mv l G yX4_advance cX4_advance 1 1 20 [.ref (gad G 9)] N L o L :=
  ux_ofv shC hok (by decide +kernel) (Nat.le_of_ble_eq_true rfl) (fun X hG hl C hq => by subst hG; subst hl; exact wX4_advance C  hq h)
def fX4_isWord_24 (c1 : Nat) (N : ux_N) : Option (Int32) :=
  some (0 : Int32)
set_option maxHeartbeats 4000000 in
set_option maxRecDepth 20000 in
theorem wX4_isWord_24 {X : ux_X} (C : ux_C X cX4_isWord RX4 3 (some .boolean) 4 85 shC) {c1 : Nat} (p1 : c1 < 8) {N : ux_N} {L : ux_L} {o : Int32} (hq : ux_Qi X o N L) (h : fX4_isWord_24 c1 N = some o) : ux_Wt X 3 24 [] [] N L := by
  refine wt_iconst 25 0 C dX4_isWord_24 rfl (by decide) ?_
  cases h
  exact wt_zret C (ux_b_n (by decide)).1 hq dX4_isWord_25
def fX4_isWord_28b (c1 : Nat) (v2 : Int32) (N : ux_N) : Option ((Int32) ⊕ ((Unit) ⊕ (Unit))) :=
  if (Int32.ofNat (tb_len.getD c1 0)) ≤ v2 then (some (.inr (.inr ()))) else (if ux_in ((N 9 5) + v2) 200 then (if ux_in v2 (tb_len.getD c1 0) then (if (N 18 (((N 9 5) + v2).toNatClampNeg)) = (ux_ch c1 v2.toNatClampNeg) then (some (.inl (v2 + 1))) else (some (.inr (.inl ())))) else none) else none)
set_option maxHeartbeats 4000000 in
set_option maxRecDepth 20000 in
theorem wX4_isWord_28b {X : ux_X} (C : ux_C X cX4_isWord RX4 3 (some .boolean) 4 85 shC) {c1 : Nat} {v2 : Int32} (p1 : c1 < 8) {N : ux_N} {L : ux_L} {o : (Int32) ⊕ ((Unit) ⊕ (Unit))} (hin : ∀ s : Int32, o = .inl s → ux_Wt X 3 28 [(0, .ref (ux_ad X 9)), (1, .ref ((xG X).2.2.2.2 (2 + c1))), (2, .int s)] [] N L) (hex0 : ∀ e : Unit, o = .inr (.inl e) → ux_Wt X 3 55 [] [] N L) (hex1 : ∀ e : Unit, o = .inr (.inr e) → ux_Wt X 3 63 [] [] N L) (h : fX4_isWord_28b c1 v2 N = some o) : ux_Wt X 3 28 [(0, .ref (ux_ad X 9)), (1, .ref ((xG X).2.2.2.2 (2 + c1))), (2, .int v2)] [] N L := by
  refine wt_iload_n 29 2 C dX4_isWord_28 rfl rfl ?_
  refine wt_aload_n 30 1 C dX4_isWord_29 rfl rfl ?_
  refine wt_slen 33 C p1 klX4_53 ⟨Nat.le_of_ble_eq_true rfl, Nat.le_of_ble_eq_true rfl⟩ (Nat.le_of_ble_eq_true rfl) dX4_isWord_30 rfl ?_
  refine wt_icmp_ge 36 63 C dX4_isWord_33 rfl (by decide) (fun q1 => ?_) (fun q1 => ?_)
  · have h := (if_pos q1).symm.trans h
    refine wt_sub [] rfl ?_
    exact hex1 _ (Option.some.inj h).symm
  · have h := (if_neg q1).symm.trans h
    refine wt_aload_n 37 0 C dX4_isWord_36 rfl rfl ?_
    refine wt_getR 40 C kfX4_18 sc_9 rfl dX4_isWord_37 rfl ?_
    refine wt_aload_n 41 0 C dX4_isWord_40 rfl rfl ?_
    refine wt_getI 44 C kfX4_37 sc_9 rfl dX4_isWord_41 rfl ?_
    refine wt_iload_n 45 2 C dX4_isWord_44 rfl rfl ?_
    refine wt_iadd 46 C dX4_isWord_45 rfl ?_
    obtain ⟨hi2, h⟩ := ux_guard h
    refine wt_cald 47 (((N 9 5) + v2).toNatClampNeg) C sc_18 rfl hi2 dX4_isWord_46 rfl ?_
    refine wt_aload_n 48 1 C dX4_isWord_47 rfl rfl ?_
    refine wt_iload_n 49 2 C dX4_isWord_48 rfl rfl ?_
    obtain ⟨hi3, h⟩ := ux_guard h
    refine wt_schar 52 C p1 hi3 kcX4_58 ⟨Nat.le_of_ble_eq_true rfl, Nat.le_of_ble_eq_true rfl⟩ (Nat.le_of_ble_eq_true rfl) dX4_isWord_49 rfl ?_
    refine wt_icmp_eq 55 57 C dX4_isWord_52 rfl (by decide) (fun q4 => ?_) (fun q4 => ?_)
    · have h := (if_pos q4).symm.trans h
      refine wt_iinc 60 2 [(2, .int (v2 + 1)), (0, .ref (ux_ad X 9)), (1, .ref ((xG X).2.2.2.2 (2 + c1)))] (v2 + 1) C dX4_isWord_57 rfl rfl (by rfl) (by decide) rfl ?_
      refine wt_goto 28 C dX4_isWord_60 (by decide) ?_
      refine wt_sub [1, 2, 0] rfl ?_
      exact hin _ (Option.some.inj h).symm
    · have h := (if_neg q4).symm.trans h
      refine wt_sub [] rfl ?_
      exact hex0 _ (Option.some.inj h).symm
def fX4_isWord (c1 : Nat) (N : ux_N) : Option (Int32) :=
  if (N 9 4) = (1 : Int32) then (if ((N 9 6) - (N 9 5)) = (Int32.ofNat (tb_len.getD c1 0)) then ((ux_lp (fun s : Int32 => fX4_isWord_28b c1 s N) ux_fu (0 : Int32)).bind (Sum.elim (fun e10 => some (0 : Int32)) (fun e11 => some (1 : Int32)))) else (fX4_isWord_24 c1 N)) else (fX4_isWord_24 c1 N)
set_option maxHeartbeats 4000000 in
set_option maxRecDepth 20000 in
theorem wX4_isWord {X : ux_X} (C : ux_C X cX4_isWord RX4 3 (some .boolean) 4 85 shC) {c1 : Nat} (p1 : c1 < 8) {N : ux_N} {L : ux_L} {o : Int32} (hq : ux_Qi X o N L) (h : fX4_isWord c1 N = some o) : ux_Wt X 3 0 [(0, .ref (ux_ad X 9)), (1, .ref ((xG X).2.2.2.2 (2 + c1)))] [] N L := by
  refine wt_aload_n 1 0 C dX4_isWord_0 rfl rfl ?_
  refine wt_getI 4 C kfX4_43 sc_9 rfl dX4_isWord_1 rfl ?_
  refine wt_iconst 5 1 C dX4_isWord_4 rfl (by decide) ?_
  refine wt_icmp_ne 8 24 C dX4_isWord_5 rfl (by decide) (fun q1 => ?_) (fun q1 => ?_)
  · have h := (if_neg q1).symm.trans h
    refine wt_sub [] rfl ?_
    exact wX4_isWord_24 C p1 hq h
  · have h := (if_pos q1).symm.trans h
    refine wt_aload_n 9 0 C dX4_isWord_8 rfl rfl ?_
    refine wt_getI 12 C kfX4_30 sc_9 rfl dX4_isWord_9 rfl ?_
    refine wt_aload_n 13 0 C dX4_isWord_12 rfl rfl ?_
    refine wt_getI 16 C kfX4_37 sc_9 rfl dX4_isWord_13 rfl ?_
    refine wt_isub 17 C dX4_isWord_16 rfl ?_
    refine wt_aload_n 18 1 C dX4_isWord_17 rfl rfl ?_
    refine wt_slen 21 C p1 klX4_53 ⟨Nat.le_of_ble_eq_true rfl, Nat.le_of_ble_eq_true rfl⟩ (Nat.le_of_ble_eq_true rfl) dX4_isWord_18 rfl ?_
    refine wt_icmp_eq 24 26 C dX4_isWord_21 rfl (by decide) (fun q2 => ?_) (fun q2 => ?_)
    · have h := (if_pos q2).symm.trans h
      refine wt_iconst 27 0 C dX4_isWord_26 rfl (by decide) ?_
      refine wt_istore_n 28 [(2, .int (0 : Int32)), (0, .ref (ux_ad X 9)), (1, .ref ((xG X).2.2.2.2 (2 + c1)))] C dX4_isWord_27 rfl (by decide) rfl ?_
      obtain ⟨e3, hl4, h⟩ := Option.bind_eq_some_iff.mp h
      refine wt_sub [1, 2, 0] rfl ?_
      refine ux_loop (fun s : Int32 => fX4_isWord_28b c1 s N) (fun s : Int32 => ux_Wt X 3 28 [(0, .ref (ux_ad X 9)), (1, .ref ((xG X).2.2.2.2 (2 + c1))), (2, .int s)] [] N L) (e := e3) ?_ hl4
      intro s5 o6 hb7 hi8 hx9
      refine wX4_isWord_28b C p1 hi8 (fun x0 he => ?_) (fun x1 he => ?_) hb7
      · obtain ⟨e10, rfl⟩ : ∃ z, z = x0 := ⟨_, rfl⟩
        have h9 := hx9 _ he
        subst h9
        refine wt_iconst 56 0 C dX4_isWord_55 rfl (by decide) ?_
        cases h
        exact wt_zret C (ux_b_n (by decide)).1 hq dX4_isWord_56
      · obtain ⟨e11, rfl⟩ : ∃ z, z = x1 := ⟨_, rfl⟩
        have h9 := hx9 _ he
        subst h9
        refine wt_iconst 64 1 C dX4_isWord_63 rfl (by decide) ?_
        cases h
        exact wt_zret C (ux_b_n (by decide)).1 hq dX4_isWord_64
    · have h := (if_neg q2).symm.trans h
      refine wt_sub [] rfl ?_
      exact wX4_isWord_24 C p1 hq h
theorem mX4_isWord {l : Launch} {G : ux_G} (hok : ux_ok G shC) {c1 : Nat} (p1 : c1 < 8) {N : ux_N} {L : ux_L} {o : Int32} (h : fX4_isWord c1 N = some o) : ux_Mi l G yX4_isWord cX4_isWord 3 (some .boolean) 4 85 [.ref (gad G 9), .ref (G.2.2.2.2 (2 + c1))] N L o N L :=
  ux_ofi shC hok (by decide +kernel) (Nat.le_of_ble_eq_true rfl) (fun X hG hl C hq => by subst hG; subst hl; exact wX4_isWord C p1 hq h)
def fX4_readNumber_25 (N : ux_N) : Option (Int32 × ux_N) :=
  some ((-1 : Int32), N)
set_option maxHeartbeats 4000000 in
set_option maxRecDepth 20000 in
theorem wX4_readNumber_25 {X : ux_X} (C : ux_C X cX4_readNumber RX4 5 (some .int) 2 40 shC)   {N : ux_N} {L : ux_L} {o : Int32 × ux_N} (hq : ux_Qi X o.1 o.2 L) (h : fX4_readNumber_25 N = some o) : ux_Wt X 5 25 [] [] N L := by
  refine wt_iconst 26 (-1) C dX4_readNumber_25 rfl (by decide) ?_
  cases h
  exact wt_iret C hq dX4_readNumber_26
def fX4_readNumber_35b (v1 : Int32) (v2 : Int32) (v3 : Int32) (v4 : Int32) (N : ux_N) : Option ((Int32 × Int32) ⊕ (Int32)) :=
  if (N 9 6) ≤ v4 then (some (.inr (v3))) else (if ux_in v4 200 then (some (.inl (((v3 * (10 : Int32)) + ((N 18 (v4.toNatClampNeg)) - (48 : Int32))), (v4 + 1)))) else none)
set_option maxHeartbeats 4000000 in
set_option maxRecDepth 20000 in
theorem wX4_readNumber_35b {X : ux_X} (C : ux_C X cX4_readNumber RX4 5 (some .int) 2 40 shC) {v1 : Int32} {v2 : Int32} {v3 : Int32} {v4 : Int32}  {N : ux_N} {L : ux_L} {o : (Int32 × Int32) ⊕ (Int32)} (hin : ∀ s : Int32 × Int32, o = .inl s → ux_Wt X 5 35 [(0, .ref (ux_ad X 9)), (1, .int v1), (2, .int v2), (3, .int s.1), (4, .int s.2)] [] N L) (hex0 : ∀ e : Int32, o = .inr (e) → ux_Wt X 5 66 [(1, .int v1), (2, .int v2), (3, .int e)] [] N L) (h : fX4_readNumber_35b v1 v2 v3 v4 N = some o) : ux_Wt X 5 35 [(0, .ref (ux_ad X 9)), (1, .int v1), (2, .int v2), (3, .int v3), (4, .int v4)] [] N L := by
  refine wt_iload 37 4 C dX4_readNumber_35 rfl rfl ?_
  refine wt_aload_n 38 0 C dX4_readNumber_37 rfl rfl ?_
  refine wt_getI 41 C kfX4_30 sc_9 rfl dX4_readNumber_38 rfl ?_
  refine wt_icmp_ge 44 66 C dX4_readNumber_41 rfl (by decide) (fun q1 => ?_) (fun q1 => ?_)
  · have h := (if_pos q1).symm.trans h
    refine wt_sub [1, 2, 3] rfl ?_
    exact hex0 _ (Option.some.inj h).symm
  · have h := (if_neg q1).symm.trans h
    refine wt_iload_n 45 3 C dX4_readNumber_44 rfl rfl ?_
    refine wt_bipush 47 10 C dX4_readNumber_45 rfl (by decide) ?_
    refine wt_imul 48 C dX4_readNumber_47 rfl ?_
    refine wt_aload_n 49 0 C dX4_readNumber_48 rfl rfl ?_
    refine wt_getR 52 C kfX4_18 sc_9 rfl dX4_readNumber_49 rfl ?_
    refine wt_iload 54 4 C dX4_readNumber_52 rfl rfl ?_
    obtain ⟨hi2, h⟩ := ux_guard h
    refine wt_cald 55 (v4.toNatClampNeg) C sc_18 rfl hi2 dX4_readNumber_54 rfl ?_
    refine wt_bipush 57 48 C dX4_readNumber_55 rfl (by decide) ?_
    refine wt_isub 58 C dX4_readNumber_57 rfl ?_
    refine wt_iadd 59 C dX4_readNumber_58 rfl ?_
    refine wt_istore_n 60 [(3, .int ((v3 * (10 : Int32)) + ((N 18 (v4.toNatClampNeg)) - (48 : Int32)))), (0, .ref (ux_ad X 9)), (1, .int v1), (2, .int v2), (4, .int v4)] C dX4_readNumber_59 rfl (by decide) rfl ?_
    refine wt_iinc 63 4 [(4, .int (v4 + 1)), (3, .int ((v3 * (10 : Int32)) + ((N 18 (v4.toNatClampNeg)) - (48 : Int32)))), (0, .ref (ux_ad X 9)), (1, .int v1), (2, .int v2)] (v4 + 1) C dX4_readNumber_60 rfl rfl (by rfl) (by decide) rfl ?_
    refine wt_goto 35 C dX4_readNumber_63 (by decide) ?_
    refine wt_sub [2, 3, 4, 1, 0] rfl ?_
    exact hin _ (Option.some.inj h).symm
def fX4_readNumber_81 (s0 : Int32) (N : ux_N) : Option (Int32 × ux_N) :=
  some (s0, N)
set_option maxHeartbeats 4000000 in
set_option maxRecDepth 20000 in
theorem wX4_readNumber_81 {X : ux_X} (C : ux_C X cX4_readNumber RX4 5 (some .int) 2 40 shC) {s0 : Int32}  {N : ux_N} {L : ux_L} {o : Int32 × ux_N} (hq : ux_Qi X o.1 o.2 L) (h : fX4_readNumber_81 s0 N = some o) : ux_Wt X 5 81 [] [.int s0] N L := by
  cases h
  exact wt_iret C hq dX4_readNumber_81
def fX4_readNumber_76 (N : ux_N) : Option (Int32 × ux_N) :=
  fX4_readNumber_81 (-1 : Int32) N
set_option maxHeartbeats 4000000 in
set_option maxRecDepth 20000 in
theorem wX4_readNumber_76 {X : ux_X} (C : ux_C X cX4_readNumber RX4 5 (some .int) 2 40 shC)   {N : ux_N} {L : ux_L} {o : Int32 × ux_N} (hq : ux_Qi X o.1 o.2 L) (h : fX4_readNumber_76 N = some o) : ux_Wt X 5 76 [] [] N L := by
  refine wt_iconst 77 (-1) C dX4_readNumber_76 rfl (by decide) ?_
  refine wt_goto 81 C dX4_readNumber_77 (by decide) ?_
  exact wX4_readNumber_81 C hq h
def fX4_readNumber (v1 : Int32) (v2 : Int32) (N : ux_N) : Option (Int32 × ux_N) :=
  (fX4_advance N).bind (fun o1 => if (o1 9 4) = (2 : Int32) then (if ((o1 9 6) - (o1 9 5)) ≤ (2 : Int32) then ((ux_lp (fun s : Int32 × Int32 => fX4_readNumber_35b v1 v2 s.1 s.2 o1) ux_fu ((0 : Int32), (o1 9 5))).bind (fun e12 => if e12 < v1 then (fX4_readNumber_76 o1) else (if e12 ≤ v2 then (fX4_readNumber_81 e12 o1) else (fX4_readNumber_76 o1)))) else (fX4_readNumber_25 o1)) else (fX4_readNumber_25 o1))
set_option maxHeartbeats 4000000 in
set_option maxRecDepth 20000 in
theorem wX4_readNumber {X : ux_X} (C : ux_C X cX4_readNumber RX4 5 (some .int) 2 40 shC) {v1 : Int32} {v2 : Int32}  {N : ux_N} {L : ux_L} {o : Int32 × ux_N} (hq : ux_Qi X o.1 o.2 L) (h : fX4_readNumber v1 v2 N = some o) : ux_Wt X 5 0 [(0, .ref (ux_ad X 9)), (1, .int v1), (2, .int v2)] [] N L := by
  refine wt_aload_n 1 0 C dX4_readNumber_0 rfl rfl ?_
  obtain ⟨o1, hc2, h⟩ := Option.bind_eq_some_iff.mp h
  refine wt_callVv 4 [] C kvX4_40 sc_9 (mX4_advance (cx_ok C)  hc2) rfl rfl ⟨Nat.le_of_ble_eq_true rfl, Nat.le_of_ble_eq_true rfl⟩ (Nat.le_of_ble_eq_true rfl) dX4_readNumber_1 rfl ?_
  refine wt_aload_n 5 0 C dX4_readNumber_4 rfl rfl ?_
  refine wt_getI 8 C kfX4_43 sc_9 rfl dX4_readNumber_5 rfl ?_
  refine wt_iconst 9 2 C dX4_readNumber_8 rfl (by decide) ?_
  refine wt_icmp_ne 12 25 C dX4_readNumber_9 rfl (by decide) (fun q3 => ?_) (fun q3 => ?_)
  · have h := (if_neg q3).symm.trans h
    refine wt_sub [] rfl ?_
    exact wX4_readNumber_25 C hq h
  · have h := (if_pos q3).symm.trans h
    refine wt_aload_n 13 0 C dX4_readNumber_12 rfl rfl ?_
    refine wt_getI 16 C kfX4_30 sc_9 rfl dX4_readNumber_13 rfl ?_
    refine wt_aload_n 17 0 C dX4_readNumber_16 rfl rfl ?_
    refine wt_getI 20 C kfX4_37 sc_9 rfl dX4_readNumber_17 rfl ?_
    refine wt_isub 21 C dX4_readNumber_20 rfl ?_
    refine wt_iconst 22 2 C dX4_readNumber_21 rfl (by decide) ?_
    refine wt_icmp_le 25 27 C dX4_readNumber_22 rfl (by decide) (fun q4 => ?_) (fun q4 => ?_)
    · have h := (if_pos q4).symm.trans h
      refine wt_iconst 28 0 C dX4_readNumber_27 rfl (by decide) ?_
      refine wt_istore_n 29 [(3, .int (0 : Int32)), (0, .ref (ux_ad X 9)), (1, .int v1), (2, .int v2)] C dX4_readNumber_28 rfl (by decide) rfl ?_
      refine wt_aload_n 30 1 C dX4_readNumber_29 rfl rfl ?_
      refine wt_getI 33 C kfX4_37 sc_9 rfl dX4_readNumber_30 rfl ?_
      refine wt_istore 35 [(4, .int (o1 9 5)), (3, .int (0 : Int32)), (0, .ref (ux_ad X 9)), (1, .int v1), (2, .int v2)] C dX4_readNumber_33 rfl (by decide) rfl ?_
      obtain ⟨e5, hl6, h⟩ := Option.bind_eq_some_iff.mp h
      refine wt_sub [2, 3, 4, 1, 0] rfl ?_
      refine ux_loop (fun s : Int32 × Int32 => fX4_readNumber_35b v1 v2 s.1 s.2 o1) (fun s : Int32 × Int32 => ux_Wt X 5 35 [(0, .ref (ux_ad X 9)), (1, .int v1), (2, .int v2), (3, .int s.1), (4, .int s.2)] [] o1 L) (e := e5) ?_ hl6
      intro s7 o8 hb9 hi10 hx11
      refine wX4_readNumber_35b C hi10 (fun x0 he => ?_) hb9
      · obtain ⟨e12, rfl⟩ : ∃ z, z = x0 := ⟨_, rfl⟩
        have h9 := hx11 _ he
        subst h9
        refine wt_iload_n 67 2 C dX4_readNumber_66 rfl rfl ?_
        refine wt_iload_n 68 0 C dX4_readNumber_67 rfl rfl ?_
        refine wt_icmp_lt 71 76 C dX4_readNumber_68 rfl (by decide) (fun q13 => ?_) (fun q13 => ?_)
        · have h := (if_pos q13).symm.trans h
          refine wt_sub [] rfl ?_
          exact wX4_readNumber_76 C hq h
        · have h := (if_neg q13).symm.trans h
          refine wt_iload_n 72 2 C dX4_readNumber_71 rfl rfl ?_
          refine wt_iload_n 73 1 C dX4_readNumber_72 rfl rfl ?_
          refine wt_icmp_le 76 80 C dX4_readNumber_73 rfl (by decide) (fun q14 => ?_) (fun q14 => ?_)
          · have h := (if_pos q14).symm.trans h
            refine wt_iload_n 81 2 C dX4_readNumber_80 rfl rfl ?_
            refine wt_sub [] rfl ?_
            exact wX4_readNumber_81 C hq h
          · have h := (if_neg q14).symm.trans h
            refine wt_sub [] rfl ?_
            exact wX4_readNumber_76 C hq h
    · have h := (if_neg q4).symm.trans h
      refine wt_sub [] rfl ?_
      exact wX4_readNumber_25 C hq h
theorem mX4_readNumber {l : Launch} {G : ux_G} (hok : ux_ok G shC) {v1 : Int32} {v2 : Int32}  {N : ux_N} {L : ux_L} {o : Int32 × ux_N} (h : fX4_readNumber v1 v2 N = some o) : ux_Mi l G yX4_readNumber cX4_readNumber 5 (some .int) 2 40 [.ref (gad G 9), .int v1, .int v2] N L o.1 o.2 L :=
  ux_ofi shC hok (by decide +kernel) (Nat.le_of_ble_eq_true rfl) (fun X hG hl C hq => by subst hG; subst hl; exact wX4_readNumber C  hq h)
def fX4_readGrid (N : ux_N) : Option (Int32 × ux_N) :=
  (fX4_readNumber (2 : Int32) (8 : Int32) N).bind (fun o1 => if o1.1 = (-1 : Int32) then (some ((0 : Int32), o1.2)) else ((fX3_beginAnew 10 o1.1 o1.2).bind (fun o4 => some ((1 : Int32), o4))))
set_option maxHeartbeats 4000000 in
set_option maxRecDepth 20000 in
theorem wX4_readGrid {X : ux_X} (C : ux_C X cX4_readGrid RX4 2 (some .boolean) 3 64 shC)   {N : ux_N} {L : ux_L} {o : Int32 × ux_N} (hq : ux_Qi X o.1 o.2 L) (h : fX4_readGrid N = some o) : ux_Wt X 2 0 [(0, .ref (ux_ad X 9))] [] N L := by
  refine wt_aload_n 1 0 C dX4_readGrid_0 rfl rfl ?_
  refine wt_iconst 2 2 C dX4_readGrid_1 rfl (by decide) ?_
  refine wt_bipush 4 8 C dX4_readGrid_2 rfl (by decide) ?_
  obtain ⟨o1, hc2, h⟩ := Option.bind_eq_some_iff.mp h
  refine wt_callVi 7 [] C kvX4_98 sc_9 (mX4_readNumber (cx_ok C)  hc2) rfl rfl ⟨Nat.le_of_ble_eq_true rfl, Nat.le_of_ble_eq_true rfl⟩ (Nat.le_of_ble_eq_true rfl) dX4_readGrid_4 rfl ?_
  refine wt_istore_n 8 [(1, .int o1.1), (0, .ref (ux_ad X 9))] C dX4_readGrid_7 rfl (by decide) rfl ?_
  refine wt_iload_n 9 0 C dX4_readGrid_8 rfl rfl ?_
  refine wt_iconst 10 (-1) C dX4_readGrid_9 rfl (by decide) ?_
  refine wt_icmp_ne 13 15 C dX4_readGrid_10 rfl (by decide) (fun q3 => ?_) (fun q3 => ?_)
  · have h := (if_neg q3).symm.trans h
    refine wt_aload_n 16 1 C dX4_readGrid_15 rfl rfl ?_
    refine wt_getR 19 C kfX4_12 sc_9 rfl dX4_readGrid_16 rfl ?_
    refine wt_iload_n 20 0 C dX4_readGrid_19 rfl rfl ?_
    obtain ⟨o4, hc5, h⟩ := Option.bind_eq_some_iff.mp h
    refine wt_callVv 23 [] C kvX4_102 sc_10 (mX3_beginAnew (cx_ok C) (is3_10) hc5) rfl rfl ⟨Nat.le_of_ble_eq_true rfl, Nat.le_of_ble_eq_true rfl⟩ (Nat.le_of_ble_eq_true rfl) dX4_readGrid_20 rfl ?_
    refine wt_iconst 24 1 C dX4_readGrid_23 rfl (by decide) ?_
    cases h
    exact wt_zret C (ux_b_n (by decide)).1 hq dX4_readGrid_24
  · have h := (if_pos q3).symm.trans h
    refine wt_iconst 14 0 C dX4_readGrid_13 rfl (by decide) ?_
    cases h
    exact wt_zret C (ux_b_n (by decide)).1 hq dX4_readGrid_14
theorem mX4_readGrid {l : Launch} {G : ux_G} (hok : ux_ok G shC)   {N : ux_N} {L : ux_L} {o : Int32 × ux_N} (h : fX4_readGrid N = some o) : ux_Mi l G yX4_readGrid cX4_readGrid 2 (some .boolean) 3 64 [.ref (gad G 9)] N L o.1 o.2 L :=
  ux_ofi shC hok (by decide +kernel) (Nat.le_of_ble_eq_true rfl) (fun X hG hl C hq => by subst hG; subst hl; exact wX4_readGrid C  hq h)
def fX4_readLine_61 (N : ux_N) : Option (Int32 × ux_N) :=
  some ((0 : Int32), N)
set_option maxHeartbeats 4000000 in
set_option maxRecDepth 20000 in
theorem wX4_readLine_61 {X : ux_X} (C : ux_C X cX4_readLine RX4 3 (some .boolean) 3 64 shC)   {N : ux_N} {L : ux_L} {o : Int32 × ux_N} (hq : ux_Qi X o.1 o.2 L) (h : fX4_readLine_61 N = some o) : ux_Wt X 3 61 [] [] N L := by
  refine wt_iconst 62 0 C dX4_readLine_61 rfl (by decide) ?_
  cases h
  exact wt_zret C (ux_b_n (by decide)).1 hq dX4_readLine_62
def fX4_readLine (N : ux_N) : Option (Int32 × ux_N) :=
  if (N 10 1) < (10 : Int32) then ((fX4_readNumber (0 : Int32) ((N 10 0) - (1 : Int32)) N).bind (fun o2 => if o2.1 = (-1 : Int32) then (some ((0 : Int32), o2.2)) else ((fX4_readNumber (0 : Int32) ((o2.2 10 0) - (1 : Int32)) o2.2).bind (fun o5 => if o5.1 = (-1 : Int32) then (fX4_readLine_61 o5.2) else (if o5.1 = o2.1 then (fX4_readLine_61 o5.2) else ((fX3_addLine 10 o2.1 o5.1 o5.2).bind (fun o9 => some ((1 : Int32), o9)))))))) else (some ((0 : Int32), N))
set_option maxHeartbeats 4000000 in
set_option maxRecDepth 20000 in
theorem wX4_readLine {X : ux_X} (C : ux_C X cX4_readLine RX4 3 (some .boolean) 3 64 shC)   {N : ux_N} {L : ux_L} {o : Int32 × ux_N} (hq : ux_Qi X o.1 o.2 L) (h : fX4_readLine N = some o) : ux_Wt X 3 0 [(0, .ref (ux_ad X 9))] [] N L := by
  refine wt_aload_n 1 0 C dX4_readLine_0 rfl rfl ?_
  refine wt_getR 4 C kfX4_12 sc_9 rfl dX4_readLine_1 rfl ?_
  refine wt_getI 7 C kfX4_106 sc_10 rfl dX4_readLine_4 rfl ?_
  refine wt_bipush 9 10 C dX4_readLine_7 rfl (by decide) ?_
  refine wt_icmp_lt 12 14 C dX4_readLine_9 rfl (by decide) (fun q1 => ?_) (fun q1 => ?_)
  · have h := (if_pos q1).symm.trans h
    refine wt_aload_n 15 0 C dX4_readLine_14 rfl rfl ?_
    refine wt_iconst 16 0 C dX4_readLine_15 rfl (by decide) ?_
    refine wt_aload_n 17 0 C dX4_readLine_16 rfl rfl ?_
    refine wt_getR 20 C kfX4_12 sc_9 rfl dX4_readLine_17 rfl ?_
    refine wt_getI 23 C kfX4_109 sc_10 rfl dX4_readLine_20 rfl ?_
    refine wt_iconst 24 1 C dX4_readLine_23 rfl (by decide) ?_
    refine wt_isub 25 C dX4_readLine_24 rfl ?_
    obtain ⟨o2, hc3, h⟩ := Option.bind_eq_some_iff.mp h
    refine wt_callVi 28 [] C kvX4_98 sc_9 (mX4_readNumber (cx_ok C)  hc3) rfl rfl ⟨Nat.le_of_ble_eq_true rfl, Nat.le_of_ble_eq_true rfl⟩ (Nat.le_of_ble_eq_true rfl) dX4_readLine_25 rfl ?_
    refine wt_istore_n 29 [(1, .int o2.1), (0, .ref (ux_ad X 9))] C dX4_readLine_28 rfl (by decide) rfl ?_
    refine wt_iload_n 30 0 C dX4_readLine_29 rfl rfl ?_
    refine wt_iconst 31 (-1) C dX4_readLine_30 rfl (by decide) ?_
    refine wt_icmp_ne 34 36 C dX4_readLine_31 rfl (by decide) (fun q4 => ?_) (fun q4 => ?_)
    · have h := (if_neg q4).symm.trans h
      refine wt_aload_n 37 1 C dX4_readLine_36 rfl rfl ?_
      refine wt_iconst 38 0 C dX4_readLine_37 rfl (by decide) ?_
      refine wt_aload_n 39 1 C dX4_readLine_38 rfl rfl ?_
      refine wt_getR 42 C kfX4_12 sc_9 rfl dX4_readLine_39 rfl ?_
      refine wt_getI 45 C kfX4_109 sc_10 rfl dX4_readLine_42 rfl ?_
      refine wt_iconst 46 1 C dX4_readLine_45 rfl (by decide) ?_
      refine wt_isub 47 C dX4_readLine_46 rfl ?_
      obtain ⟨o5, hc6, h⟩ := Option.bind_eq_some_iff.mp h
      refine wt_callVi 50 [] C kvX4_98 sc_9 (mX4_readNumber (cx_ok C)  hc6) rfl rfl ⟨Nat.le_of_ble_eq_true rfl, Nat.le_of_ble_eq_true rfl⟩ (Nat.le_of_ble_eq_true rfl) dX4_readLine_47 rfl ?_
      refine wt_istore_n 51 [(2, .int o5.1), (1, .int o2.1), (0, .ref (ux_ad X 9))] C dX4_readLine_50 rfl (by decide) rfl ?_
      refine wt_iload_n 52 0 C dX4_readLine_51 rfl rfl ?_
      refine wt_iconst 53 (-1) C dX4_readLine_52 rfl (by decide) ?_
      refine wt_icmp_eq 56 61 C dX4_readLine_53 rfl (by decide) (fun q7 => ?_) (fun q7 => ?_)
      · have h := (if_pos q7).symm.trans h
        refine wt_sub [] rfl ?_
        exact wX4_readLine_61 C hq h
      · have h := (if_neg q7).symm.trans h
        refine wt_iload_n 57 0 C dX4_readLine_56 rfl rfl ?_
        refine wt_iload_n 58 1 C dX4_readLine_57 rfl rfl ?_
        refine wt_icmp_ne 61 63 C dX4_readLine_58 rfl (by decide) (fun q8 => ?_) (fun q8 => ?_)
        · have h := (if_neg q8).symm.trans h
          refine wt_aload_n 64 2 C dX4_readLine_63 rfl rfl ?_
          refine wt_getR 67 C kfX4_12 sc_9 rfl dX4_readLine_64 rfl ?_
          refine wt_iload_n 68 1 C dX4_readLine_67 rfl rfl ?_
          refine wt_iload_n 69 0 C dX4_readLine_68 rfl rfl ?_
          obtain ⟨o9, hc10, h⟩ := Option.bind_eq_some_iff.mp h
          refine wt_callVv 72 [] C kvX4_112 sc_10 (mX3_addLine (cx_ok C) (is3_10) hc10) rfl rfl ⟨Nat.le_of_ble_eq_true rfl, Nat.le_of_ble_eq_true rfl⟩ (Nat.le_of_ble_eq_true rfl) dX4_readLine_69 rfl ?_
          refine wt_iconst 73 1 C dX4_readLine_72 rfl (by decide) ?_
          cases h
          exact wt_zret C (ux_b_n (by decide)).1 hq dX4_readLine_73
        · have h := (if_pos q8).symm.trans h
          refine wt_sub [] rfl ?_
          exact wX4_readLine_61 C hq h
    · have h := (if_pos q4).symm.trans h
      refine wt_iconst 35 0 C dX4_readLine_34 rfl (by decide) ?_
      cases h
      exact wt_zret C (ux_b_n (by decide)).1 hq dX4_readLine_35
  · have h := (if_neg q1).symm.trans h
    refine wt_iconst 13 0 C dX4_readLine_12 rfl (by decide) ?_
    cases h
    exact wt_zret C (ux_b_n (by decide)).1 hq dX4_readLine_13
theorem mX4_readLine {l : Launch} {G : ux_G} (hok : ux_ok G shC)   {N : ux_N} {L : ux_L} {o : Int32 × ux_N} (h : fX4_readLine N = some o) : ux_Mi l G yX4_readLine cX4_readLine 3 (some .boolean) 3 64 [.ref (gad G 9)] N L o.1 o.2 L :=
  ux_ofi shC hok (by decide +kernel) (Nat.le_of_ble_eq_true rfl) (fun X hG hl C hq => by subst hG; subst hl; exact wX4_readLine C  hq h)
def fX4_readOffer (N : ux_N) : Option (Int32 × ux_N) :=
  if (N 10 3) < (6 : Int32) then ((fX4_readNumber (0 : Int32) (4 : Int32) N).bind (fun o2 => if o2.1 = (-1 : Int32) then (some ((0 : Int32), o2.2)) else ((fX3_placesFor 10 o2.1 o2.2).bind (fun o5 => (fX4_readNumber (0 : Int32) (o5 - (1 : Int32)) o2.2).bind (fun o7 => if o7.1 = (-1 : Int32) then (some ((0 : Int32), o7.2)) else ((fX4_readNumber (1 : Int32) (9 : Int32) o7.2).bind (fun o10 => if o10.1 = (-1 : Int32) then (some ((0 : Int32), o10.2)) else ((fX3_addOffer 10 o2.1 o7.1 o10.1 o10.2).bind (fun o13 => some ((1 : Int32), o13)))))))))) else (some ((0 : Int32), N))
set_option maxHeartbeats 4000000 in
set_option maxRecDepth 20000 in
theorem wX4_readOffer {X : ux_X} (C : ux_C X cX4_readOffer RX4 4 (some .boolean) 3 64 shC)   {N : ux_N} {L : ux_L} {o : Int32 × ux_N} (hq : ux_Qi X o.1 o.2 L) (h : fX4_readOffer N = some o) : ux_Wt X 4 0 [(0, .ref (ux_ad X 9))] [] N L := by
  refine wt_aload_n 1 0 C dX4_readOffer_0 rfl rfl ?_
  refine wt_getR 4 C kfX4_12 sc_9 rfl dX4_readOffer_1 rfl ?_
  refine wt_getI 7 C kfX4_126 sc_10 rfl dX4_readOffer_4 rfl ?_
  refine wt_bipush 9 6 C dX4_readOffer_7 rfl (by decide) ?_
  refine wt_icmp_lt 12 14 C dX4_readOffer_9 rfl (by decide) (fun q1 => ?_) (fun q1 => ?_)
  · have h := (if_pos q1).symm.trans h
    refine wt_aload_n 15 0 C dX4_readOffer_14 rfl rfl ?_
    refine wt_iconst 16 0 C dX4_readOffer_15 rfl (by decide) ?_
    refine wt_iconst 17 4 C dX4_readOffer_16 rfl (by decide) ?_
    obtain ⟨o2, hc3, h⟩ := Option.bind_eq_some_iff.mp h
    refine wt_callVi 20 [] C kvX4_98 sc_9 (mX4_readNumber (cx_ok C)  hc3) rfl rfl ⟨Nat.le_of_ble_eq_true rfl, Nat.le_of_ble_eq_true rfl⟩ (Nat.le_of_ble_eq_true rfl) dX4_readOffer_17 rfl ?_
    refine wt_istore_n 21 [(1, .int o2.1), (0, .ref (ux_ad X 9))] C dX4_readOffer_20 rfl (by decide) rfl ?_
    refine wt_iload_n 22 0 C dX4_readOffer_21 rfl rfl ?_
    refine wt_iconst 23 (-1) C dX4_readOffer_22 rfl (by decide) ?_
    refine wt_icmp_ne 26 28 C dX4_readOffer_23 rfl (by decide) (fun q4 => ?_) (fun q4 => ?_)
    · have h := (if_neg q4).symm.trans h
      refine wt_aload_n 29 1 C dX4_readOffer_28 rfl rfl ?_
      refine wt_iconst 30 0 C dX4_readOffer_29 rfl (by decide) ?_
      refine wt_aload_n 31 1 C dX4_readOffer_30 rfl rfl ?_
      refine wt_getR 34 C kfX4_12 sc_9 rfl dX4_readOffer_31 rfl ?_
      refine wt_iload_n 35 0 C dX4_readOffer_34 rfl rfl ?_
      obtain ⟨o5, hc6, h⟩ := Option.bind_eq_some_iff.mp h
      refine wt_callVi 38 [.int (0 : Int32), .ref (ux_ad X 9)] C kvX4_119 sc_10 (mX3_placesFor (cx_ok C) (is3_10) hc6) rfl rfl ⟨Nat.le_of_ble_eq_true rfl, Nat.le_of_ble_eq_true rfl⟩ (Nat.le_of_ble_eq_true rfl) dX4_readOffer_35 rfl ?_
      refine wt_iconst 39 1 C dX4_readOffer_38 rfl (by decide) ?_
      refine wt_isub 40 C dX4_readOffer_39 rfl ?_
      obtain ⟨o7, hc8, h⟩ := Option.bind_eq_some_iff.mp h
      refine wt_callVi 43 [] C kvX4_98 sc_9 (mX4_readNumber (cx_ok C)  hc8) rfl rfl ⟨Nat.le_of_ble_eq_true rfl, Nat.le_of_ble_eq_true rfl⟩ (Nat.le_of_ble_eq_true rfl) dX4_readOffer_40 rfl ?_
      refine wt_istore_n 44 [(2, .int o7.1), (1, .int o2.1), (0, .ref (ux_ad X 9))] C dX4_readOffer_43 rfl (by decide) rfl ?_
      refine wt_iload_n 45 0 C dX4_readOffer_44 rfl rfl ?_
      refine wt_iconst 46 (-1) C dX4_readOffer_45 rfl (by decide) ?_
      refine wt_icmp_ne 49 51 C dX4_readOffer_46 rfl (by decide) (fun q9 => ?_) (fun q9 => ?_)
      · have h := (if_neg q9).symm.trans h
        refine wt_aload_n 52 2 C dX4_readOffer_51 rfl rfl ?_
        refine wt_iconst 53 1 C dX4_readOffer_52 rfl (by decide) ?_
        refine wt_bipush 55 9 C dX4_readOffer_53 rfl (by decide) ?_
        obtain ⟨o10, hc11, h⟩ := Option.bind_eq_some_iff.mp h
        refine wt_callVi 58 [] C kvX4_98 sc_9 (mX4_readNumber (cx_ok C)  hc11) rfl rfl ⟨Nat.le_of_ble_eq_true rfl, Nat.le_of_ble_eq_true rfl⟩ (Nat.le_of_ble_eq_true rfl) dX4_readOffer_55 rfl ?_
        refine wt_istore_n 59 [(3, .int o10.1), (2, .int o7.1), (1, .int o2.1), (0, .ref (ux_ad X 9))] C dX4_readOffer_58 rfl (by decide) rfl ?_
        refine wt_iload_n 60 0 C dX4_readOffer_59 rfl rfl ?_
        refine wt_iconst 61 (-1) C dX4_readOffer_60 rfl (by decide) ?_
        refine wt_icmp_ne 64 66 C dX4_readOffer_61 rfl (by decide) (fun q12 => ?_) (fun q12 => ?_)
        · have h := (if_neg q12).symm.trans h
          refine wt_aload_n 67 3 C dX4_readOffer_66 rfl rfl ?_
          refine wt_getR 70 C kfX4_12 sc_9 rfl dX4_readOffer_67 rfl ?_
          refine wt_iload_n 71 2 C dX4_readOffer_70 rfl rfl ?_
          refine wt_iload_n 72 1 C dX4_readOffer_71 rfl rfl ?_
          refine wt_iload_n 73 0 C dX4_readOffer_72 rfl rfl ?_
          obtain ⟨o13, hc14, h⟩ := Option.bind_eq_some_iff.mp h
          refine wt_callVv 76 [] C kvX4_129 sc_10 (mX3_addOffer (cx_ok C) (is3_10) hc14) rfl rfl ⟨Nat.le_of_ble_eq_true rfl, Nat.le_of_ble_eq_true rfl⟩ (Nat.le_of_ble_eq_true rfl) dX4_readOffer_73 rfl ?_
          refine wt_iconst 77 1 C dX4_readOffer_76 rfl (by decide) ?_
          cases h
          exact wt_zret C (ux_b_n (by decide)).1 hq dX4_readOffer_77
        · have h := (if_pos q12).symm.trans h
          refine wt_iconst 65 0 C dX4_readOffer_64 rfl (by decide) ?_
          cases h
          exact wt_zret C (ux_b_n (by decide)).1 hq dX4_readOffer_65
      · have h := (if_pos q9).symm.trans h
        refine wt_iconst 50 0 C dX4_readOffer_49 rfl (by decide) ?_
        cases h
        exact wt_zret C (ux_b_n (by decide)).1 hq dX4_readOffer_50
    · have h := (if_pos q4).symm.trans h
      refine wt_iconst 27 0 C dX4_readOffer_26 rfl (by decide) ?_
      cases h
      exact wt_zret C (ux_b_n (by decide)).1 hq dX4_readOffer_27
  · have h := (if_neg q1).symm.trans h
    refine wt_iconst 13 0 C dX4_readOffer_12 rfl (by decide) ?_
    cases h
    exact wt_zret C (ux_b_n (by decide)).1 hq dX4_readOffer_13
theorem mX4_readOffer {l : Launch} {G : ux_G} (hok : ux_ok G shC)   {N : ux_N} {L : ux_L} {o : Int32 × ux_N} (h : fX4_readOffer N = some o) : ux_Mi l G yX4_readOffer cX4_readOffer 4 (some .boolean) 3 64 [.ref (gad G 9)] N L o.1 o.2 L :=
  ux_ofi shC hok (by decide +kernel) (Nat.le_of_ble_eq_true rfl) (fun X hG hl C hq => by subst hG; subst hl; exact wX4_readOffer C  hq h)
def fX4_readSortName_58 (s0 : Int32) (N : ux_N) : Option (Int32) :=
  some s0
set_option maxHeartbeats 4000000 in
set_option maxRecDepth 20000 in
theorem wX4_readSortName_58 {X : ux_X} (C : ux_C X cX4_readSortName RX4 1 (some .int) 5 107 shC) {s0 : Int32}  {N : ux_N} {L : ux_L} {o : Int32} (hq : ux_Qi X o N L) (h : fX4_readSortName_58 s0 N = some o) : ux_Wt X 1 58 [] [.int s0] N L := by
  cases h
  exact wt_iret C hq dX4_readSortName_58
def fX4_readSortName (N : ux_N) : Option (Int32) :=
  (fX4_isWord 3 N).bind (fun o1 => if o1 = 0 then ((fX4_isWord 4 N).bind (fun o4 => if o4 = 0 then ((fX4_isWord 5 N).bind (fun o7 => if o7 = 0 then ((fX4_isWord 6 N).bind (fun o10 => if o10 = 0 then ((fX4_isWord 7 N).bind (fun o13 => if o13 = 0 then (fX4_readSortName_58 (-1 : Int32) N) else (fX4_readSortName_58 (4 : Int32) N))) else (some (3 : Int32)))) else (some (2 : Int32)))) else (some (1 : Int32)))) else (some (0 : Int32)))
set_option maxHeartbeats 4000000 in
set_option maxRecDepth 20000 in
theorem wX4_readSortName {X : ux_X} (C : ux_C X cX4_readSortName RX4 1 (some .int) 5 107 shC)   {N : ux_N} {L : ux_L} {o : Int32} (hq : ux_Qi X o N L) (h : fX4_readSortName N = some o) : ux_Wt X 1 0 [(0, .ref (ux_ad X 9))] [] N L := by
  refine wt_aload_n 1 0 C dX4_readSortName_0 rfl rfl ?_
  refine wt_ldcS 3 (tx := "flow") (k := 3) C (by decide) dX4_readSortName_1 rfl ?_
  obtain ⟨o1, hc2, h⟩ := Option.bind_eq_some_iff.mp h
  refine wt_callVi 6 [] C kvX4_64 sc_9 (mX4_isWord (cx_ok C) ((by decide)) hc2) rfl rfl ⟨Nat.le_of_ble_eq_true rfl, Nat.le_of_ble_eq_true rfl⟩ (Nat.le_of_ble_eq_true rfl) dX4_readSortName_3 rfl ?_
  refine wt_if_eq 9 11 C dX4_readSortName_6 rfl (by decide) (fun q3 => ?_) (fun q3 => ?_)
  · have h := (if_pos q3).symm.trans h
    refine wt_aload_n 12 0 C dX4_readSortName_11 rfl rfl ?_
    refine wt_ldcS 14 (tx := "pair") (k := 4) C (by decide) dX4_readSortName_12 rfl ?_
    obtain ⟨o4, hc5, h⟩ := Option.bind_eq_some_iff.mp h
    refine wt_callVi 17 [] C kvX4_64 sc_9 (mX4_isWord (cx_ok C) ((by decide)) hc5) rfl rfl ⟨Nat.le_of_ble_eq_true rfl, Nat.le_of_ble_eq_true rfl⟩ (Nat.le_of_ble_eq_true rfl) dX4_readSortName_14 rfl ?_
    refine wt_if_eq 20 22 C dX4_readSortName_17 rfl (by decide) (fun q6 => ?_) (fun q6 => ?_)
    · have h := (if_pos q6).symm.trans h
      refine wt_aload_n 23 0 C dX4_readSortName_22 rfl rfl ?_
      refine wt_ldcS 25 (tx := "node") (k := 5) C (by decide) dX4_readSortName_23 rfl ?_
      obtain ⟨o7, hc8, h⟩ := Option.bind_eq_some_iff.mp h
      refine wt_callVi 28 [] C kvX4_64 sc_9 (mX4_isWord (cx_ok C) ((by decide)) hc8) rfl rfl ⟨Nat.le_of_ble_eq_true rfl, Nat.le_of_ble_eq_true rfl⟩ (Nat.le_of_ble_eq_true rfl) dX4_readSortName_25 rfl ?_
      refine wt_if_eq 31 33 C dX4_readSortName_28 rfl (by decide) (fun q9 => ?_) (fun q9 => ?_)
      · have h := (if_pos q9).symm.trans h
        refine wt_aload_n 34 0 C dX4_readSortName_33 rfl rfl ?_
        refine wt_ldcS 36 (tx := "wide") (k := 6) C (by decide) dX4_readSortName_34 rfl ?_
        obtain ⟨o10, hc11, h⟩ := Option.bind_eq_some_iff.mp h
        refine wt_callVi 39 [] C kvX4_64 sc_9 (mX4_isWord (cx_ok C) ((by decide)) hc11) rfl rfl ⟨Nat.le_of_ble_eq_true rfl, Nat.le_of_ble_eq_true rfl⟩ (Nat.le_of_ble_eq_true rfl) dX4_readSortName_36 rfl ?_
        refine wt_if_eq 42 44 C dX4_readSortName_39 rfl (by decide) (fun q12 => ?_) (fun q12 => ?_)
        · have h := (if_pos q12).symm.trans h
          refine wt_aload_n 45 0 C dX4_readSortName_44 rfl rfl ?_
          refine wt_ldcS 47 (tx := "dull") (k := 7) C (by decide) dX4_readSortName_45 rfl ?_
          obtain ⟨o13, hc14, h⟩ := Option.bind_eq_some_iff.mp h
          refine wt_callVi 50 [] C kvX4_64 sc_9 (mX4_isWord (cx_ok C) ((by decide)) hc14) rfl rfl ⟨Nat.le_of_ble_eq_true rfl, Nat.le_of_ble_eq_true rfl⟩ (Nat.le_of_ble_eq_true rfl) dX4_readSortName_47 rfl ?_
          refine wt_if_eq 53 57 C dX4_readSortName_50 rfl (by decide) (fun q15 => ?_) (fun q15 => ?_)
          · have h := (if_pos q15).symm.trans h
            refine wt_iconst 58 (-1) C dX4_readSortName_57 rfl (by decide) ?_
            refine wt_sub [] rfl ?_
            exact wX4_readSortName_58 C hq h
          · have h := (if_neg q15).symm.trans h
            refine wt_iconst 54 4 C dX4_readSortName_53 rfl (by decide) ?_
            refine wt_goto 58 C dX4_readSortName_54 (by decide) ?_
            refine wt_sub [] rfl ?_
            exact wX4_readSortName_58 C hq h
        · have h := (if_neg q12).symm.trans h
          refine wt_iconst 43 3 C dX4_readSortName_42 rfl (by decide) ?_
          cases h
          exact wt_iret C hq dX4_readSortName_43
      · have h := (if_neg q9).symm.trans h
        refine wt_iconst 32 2 C dX4_readSortName_31 rfl (by decide) ?_
        cases h
        exact wt_iret C hq dX4_readSortName_32
    · have h := (if_neg q6).symm.trans h
      refine wt_iconst 21 1 C dX4_readSortName_20 rfl (by decide) ?_
      cases h
      exact wt_iret C hq dX4_readSortName_21
  · have h := (if_neg q3).symm.trans h
    refine wt_iconst 10 0 C dX4_readSortName_9 rfl (by decide) ?_
    cases h
    exact wt_iret C hq dX4_readSortName_10
theorem mX4_readSortName {l : Launch} {G : ux_G} (hok : ux_ok G shC)   {N : ux_N} {L : ux_L} {o : Int32} (h : fX4_readSortName N = some o) : ux_Mi l G yX4_readSortName cX4_readSortName 1 (some .int) 5 107 [.ref (gad G 9)] N L o N L :=
  ux_ofi shC hok (by decide +kernel) (Nat.le_of_ble_eq_true rfl) (fun X hG hl C hq => by subst hG; subst hl; exact wX4_readSortName C  hq h)
def fX4_readMeter (v1 : Int32) (N : ux_N) : Option (Int32 × ux_N) :=
  if (N 10 2) < (9 : Int32) then ((fX3_placesFor 10 v1 N).bind (fun o2 => (fX4_readNumber (0 : Int32) (o2 - (1 : Int32)) N).bind (fun o4 => if o4.1 = (-1 : Int32) then (some ((0 : Int32), o4.2)) else ((fX3_addMeter 10 v1 o4.1 o4.2).bind (fun o7 => some ((1 : Int32), o7)))))) else (some ((0 : Int32), N))
set_option maxHeartbeats 4000000 in
set_option maxRecDepth 20000 in
theorem wX4_readMeter {X : ux_X} (C : ux_C X cX4_readMeter RX4 3 (some .boolean) 3 64 shC) {v1 : Int32}  {N : ux_N} {L : ux_L} {o : Int32 × ux_N} (hq : ux_Qi X o.1 o.2 L) (h : fX4_readMeter v1 N = some o) : ux_Wt X 3 0 [(0, .ref (ux_ad X 9)), (1, .int v1)] [] N L := by
  refine wt_aload_n 1 0 C dX4_readMeter_0 rfl rfl ?_
  refine wt_getR 4 C kfX4_12 sc_9 rfl dX4_readMeter_1 rfl ?_
  refine wt_getI 7 C kfX4_116 sc_10 rfl dX4_readMeter_4 rfl ?_
  refine wt_bipush 9 9 C dX4_readMeter_7 rfl (by decide) ?_
  refine wt_icmp_lt 12 14 C dX4_readMeter_9 rfl (by decide) (fun q1 => ?_) (fun q1 => ?_)
  · have h := (if_pos q1).symm.trans h
    refine wt_aload_n 15 0 C dX4_readMeter_14 rfl rfl ?_
    refine wt_iconst 16 0 C dX4_readMeter_15 rfl (by decide) ?_
    refine wt_aload_n 17 0 C dX4_readMeter_16 rfl rfl ?_
    refine wt_getR 20 C kfX4_12 sc_9 rfl dX4_readMeter_17 rfl ?_
    refine wt_iload_n 21 1 C dX4_readMeter_20 rfl rfl ?_
    obtain ⟨o2, hc3, h⟩ := Option.bind_eq_some_iff.mp h
    refine wt_callVi 24 [.int (0 : Int32), .ref (ux_ad X 9)] C kvX4_119 sc_10 (mX3_placesFor (cx_ok C) (is3_10) hc3) rfl rfl ⟨Nat.le_of_ble_eq_true rfl, Nat.le_of_ble_eq_true rfl⟩ (Nat.le_of_ble_eq_true rfl) dX4_readMeter_21 rfl ?_
    refine wt_iconst 25 1 C dX4_readMeter_24 rfl (by decide) ?_
    refine wt_isub 26 C dX4_readMeter_25 rfl ?_
    obtain ⟨o4, hc5, h⟩ := Option.bind_eq_some_iff.mp h
    refine wt_callVi 29 [] C kvX4_98 sc_9 (mX4_readNumber (cx_ok C)  hc5) rfl rfl ⟨Nat.le_of_ble_eq_true rfl, Nat.le_of_ble_eq_true rfl⟩ (Nat.le_of_ble_eq_true rfl) dX4_readMeter_26 rfl ?_
    refine wt_istore_n 30 [(2, .int o4.1), (0, .ref (ux_ad X 9)), (1, .int v1)] C dX4_readMeter_29 rfl (by decide) rfl ?_
    refine wt_iload_n 31 0 C dX4_readMeter_30 rfl rfl ?_
    refine wt_iconst 32 (-1) C dX4_readMeter_31 rfl (by decide) ?_
    refine wt_icmp_ne 35 37 C dX4_readMeter_32 rfl (by decide) (fun q6 => ?_) (fun q6 => ?_)
    · have h := (if_neg q6).symm.trans h
      refine wt_aload_n 38 1 C dX4_readMeter_37 rfl rfl ?_
      refine wt_getR 41 C kfX4_12 sc_9 rfl dX4_readMeter_38 rfl ?_
      refine wt_iload_n 42 2 C dX4_readMeter_41 rfl rfl ?_
      refine wt_iload_n 43 0 C dX4_readMeter_42 rfl rfl ?_
      obtain ⟨o7, hc8, h⟩ := Option.bind_eq_some_iff.mp h
      refine wt_callVv 46 [] C kvX4_123 sc_10 (mX3_addMeter (cx_ok C) (is3_10) hc8) rfl rfl ⟨Nat.le_of_ble_eq_true rfl, Nat.le_of_ble_eq_true rfl⟩ (Nat.le_of_ble_eq_true rfl) dX4_readMeter_43 rfl ?_
      refine wt_iconst 47 1 C dX4_readMeter_46 rfl (by decide) ?_
      cases h
      exact wt_zret C (ux_b_n (by decide)).1 hq dX4_readMeter_47
    · have h := (if_pos q6).symm.trans h
      refine wt_iconst 36 0 C dX4_readMeter_35 rfl (by decide) ?_
      cases h
      exact wt_zret C (ux_b_n (by decide)).1 hq dX4_readMeter_36
  · have h := (if_neg q1).symm.trans h
    refine wt_iconst 13 0 C dX4_readMeter_12 rfl (by decide) ?_
    cases h
    exact wt_zret C (ux_b_n (by decide)).1 hq dX4_readMeter_13
theorem mX4_readMeter {l : Launch} {G : ux_G} (hok : ux_ok G shC) {v1 : Int32}  {N : ux_N} {L : ux_L} {o : Int32 × ux_N} (h : fX4_readMeter v1 N = some o) : ux_Mi l G yX4_readMeter cX4_readMeter 3 (some .boolean) 3 64 [.ref (gad G 9), .int v1] N L o.1 o.2 L :=
  ux_ofi shC hok (by decide +kernel) (Nat.le_of_ble_eq_true rfl) (fun X hG hl C hq => by subst hG; subst hl; exact wX4_readMeter C  hq h)
def fX4_readClause_69 (s0 : Int32) (N : ux_N) : Option (Int32 × ux_N) :=
  if ux_b s0 then (some (s0, N)) else none
set_option maxHeartbeats 4000000 in
set_option maxRecDepth 20000 in
theorem wX4_readClause_69 {X : ux_X} (C : ux_C X cX4_readClause RX4 2 (some .boolean) 6 127 shC) {s0 : Int32}  {N : ux_N} {L : ux_L} {o : Int32 × ux_N} (hq : ux_Qi X o.1 o.2 L) (h : fX4_readClause_69 s0 N = some o) : ux_Wt X 2 69 [] [.int s0] N L := by
  obtain ⟨hb1, h⟩ := ux_guard h
  cases h
  exact wt_zret C (ux_b_n hb1).1 hq dX4_readClause_69
def fX4_readClause_68 (N : ux_N) : Option (Int32 × ux_N) :=
  fX4_readClause_69 (0 : Int32) N
set_option maxHeartbeats 4000000 in
set_option maxRecDepth 20000 in
theorem wX4_readClause_68 {X : ux_X} (C : ux_C X cX4_readClause RX4 2 (some .boolean) 6 127 shC)   {N : ux_N} {L : ux_L} {o : Int32 × ux_N} (hq : ux_Qi X o.1 o.2 L) (h : fX4_readClause_68 N = some o) : ux_Wt X 2 68 [] [] N L := by
  refine wt_iconst 69 0 C dX4_readClause_68 rfl (by decide) ?_
  exact wX4_readClause_69 C hq h
def fX4_readClause (N : ux_N) : Option (Int32 × ux_N) :=
  (fX4_advance N).bind (fun o1 => (fX4_isWord 0 o1).bind (fun o3 => if o3 = 0 then ((fX4_isWord 1 o1).bind (fun o6 => if o6 = 0 then ((fX4_isWord 2 o1).bind (fun o9 => if o9 = 0 then ((fX4_readSortName o1).bind (fun o12 => if o12 = (-1 : Int32) then (fX4_readClause_68 o1) else ((fX4_readMeter o12 o1).bind (fun o15 => if o15.1 = 0 then (fX4_readClause_68 o15.2) else (fX4_readClause_69 (1 : Int32) o15.2))))) else ((fX4_readOffer o1).bind (fun o18 => if ux_b o18.1 then (some (o18.1, o18.2)) else none)))) else ((fX4_readLine o1).bind (fun o21 => if ux_b o21.1 then (some (o21.1, o21.2)) else none)))) else ((fX4_readGrid o1).bind (fun o24 => if ux_b o24.1 then (some (o24.1, o24.2)) else none))))
set_option maxHeartbeats 4000000 in
set_option maxRecDepth 20000 in
theorem wX4_readClause {X : ux_X} (C : ux_C X cX4_readClause RX4 2 (some .boolean) 6 127 shC)   {N : ux_N} {L : ux_L} {o : Int32 × ux_N} (hq : ux_Qi X o.1 o.2 L) (h : fX4_readClause N = some o) : ux_Wt X 2 0 [(0, .ref (ux_ad X 9))] [] N L := by
  refine wt_aload_n 1 0 C dX4_readClause_0 rfl rfl ?_
  obtain ⟨o1, hc2, h⟩ := Option.bind_eq_some_iff.mp h
  refine wt_callVv 4 [] C kvX4_40 sc_9 (mX4_advance (cx_ok C)  hc2) rfl rfl ⟨Nat.le_of_ble_eq_true rfl, Nat.le_of_ble_eq_true rfl⟩ (Nat.le_of_ble_eq_true rfl) dX4_readClause_1 rfl ?_
  refine wt_aload_n 5 0 C dX4_readClause_4 rfl rfl ?_
  refine wt_ldcS 7 (tx := "grid") (k := 0) C (by decide) dX4_readClause_5 rfl ?_
  obtain ⟨o3, hc4, h⟩ := Option.bind_eq_some_iff.mp h
  refine wt_callVi 10 [] C kvX4_64 sc_9 (mX4_isWord (cx_ok C) ((by decide)) hc4) rfl rfl ⟨Nat.le_of_ble_eq_true rfl, Nat.le_of_ble_eq_true rfl⟩ (Nat.le_of_ble_eq_true rfl) dX4_readClause_7 rfl ?_
  refine wt_if_eq 13 18 C dX4_readClause_10 rfl (by decide) (fun q5 => ?_) (fun q5 => ?_)
  · have h := (if_pos q5).symm.trans h
    refine wt_aload_n 19 0 C dX4_readClause_18 rfl rfl ?_
    refine wt_ldcS 21 (tx := "line") (k := 1) C (by decide) dX4_readClause_19 rfl ?_
    obtain ⟨o6, hc7, h⟩ := Option.bind_eq_some_iff.mp h
    refine wt_callVi 24 [] C kvX4_64 sc_9 (mX4_isWord (cx_ok C) ((by decide)) hc7) rfl rfl ⟨Nat.le_of_ble_eq_true rfl, Nat.le_of_ble_eq_true rfl⟩ (Nat.le_of_ble_eq_true rfl) dX4_readClause_21 rfl ?_
    refine wt_if_eq 27 32 C dX4_readClause_24 rfl (by decide) (fun q8 => ?_) (fun q8 => ?_)
    · have h := (if_pos q8).symm.trans h
      refine wt_aload_n 33 0 C dX4_readClause_32 rfl rfl ?_
      refine wt_ldcS 35 (tx := "offer") (k := 2) C (by decide) dX4_readClause_33 rfl ?_
      obtain ⟨o9, hc10, h⟩ := Option.bind_eq_some_iff.mp h
      refine wt_callVi 38 [] C kvX4_64 sc_9 (mX4_isWord (cx_ok C) ((by decide)) hc10) rfl rfl ⟨Nat.le_of_ble_eq_true rfl, Nat.le_of_ble_eq_true rfl⟩ (Nat.le_of_ble_eq_true rfl) dX4_readClause_35 rfl ?_
      refine wt_if_eq 41 46 C dX4_readClause_38 rfl (by decide) (fun q11 => ?_) (fun q11 => ?_)
      · have h := (if_pos q11).symm.trans h
        refine wt_aload_n 47 0 C dX4_readClause_46 rfl rfl ?_
        obtain ⟨o12, hc13, h⟩ := Option.bind_eq_some_iff.mp h
        refine wt_callVi 50 [] C kvX4_81 sc_9 (mX4_readSortName (cx_ok C)  hc13) rfl rfl ⟨Nat.le_of_ble_eq_true rfl, Nat.le_of_ble_eq_true rfl⟩ (Nat.le_of_ble_eq_true rfl) dX4_readClause_47 rfl ?_
        refine wt_istore_n 51 [(1, .int o12), (0, .ref (ux_ad X 9))] C dX4_readClause_50 rfl (by decide) rfl ?_
        refine wt_iload_n 52 0 C dX4_readClause_51 rfl rfl ?_
        refine wt_iconst 53 (-1) C dX4_readClause_52 rfl (by decide) ?_
        refine wt_icmp_eq 56 68 C dX4_readClause_53 rfl (by decide) (fun q14 => ?_) (fun q14 => ?_)
        · have h := (if_pos q14).symm.trans h
          refine wt_sub [] rfl ?_
          exact wX4_readClause_68 C hq h
        · have h := (if_neg q14).symm.trans h
          refine wt_aload_n 57 1 C dX4_readClause_56 rfl rfl ?_
          refine wt_iload_n 58 0 C dX4_readClause_57 rfl rfl ?_
          obtain ⟨o15, hc16, h⟩ := Option.bind_eq_some_iff.mp h
          refine wt_callVi 61 [] C kvX4_84 sc_9 (mX4_readMeter (cx_ok C)  hc16) rfl rfl ⟨Nat.le_of_ble_eq_true rfl, Nat.le_of_ble_eq_true rfl⟩ (Nat.le_of_ble_eq_true rfl) dX4_readClause_58 rfl ?_
          refine wt_if_eq 64 68 C dX4_readClause_61 rfl (by decide) (fun q17 => ?_) (fun q17 => ?_)
          · have h := (if_pos q17).symm.trans h
            refine wt_sub [] rfl ?_
            exact wX4_readClause_68 C hq h
          · have h := (if_neg q17).symm.trans h
            refine wt_iconst 65 1 C dX4_readClause_64 rfl (by decide) ?_
            refine wt_goto 69 C dX4_readClause_65 (by decide) ?_
            refine wt_sub [] rfl ?_
            exact wX4_readClause_69 C hq h
      · have h := (if_neg q11).symm.trans h
        refine wt_aload_n 42 0 C dX4_readClause_41 rfl rfl ?_
        obtain ⟨o18, hc19, h⟩ := Option.bind_eq_some_iff.mp h
        refine wt_callVi 45 [] C kvX4_78 sc_9 (mX4_readOffer (cx_ok C)  hc19) rfl rfl ⟨Nat.le_of_ble_eq_true rfl, Nat.le_of_ble_eq_true rfl⟩ (Nat.le_of_ble_eq_true rfl) dX4_readClause_42 rfl ?_
        obtain ⟨hb20, h⟩ := ux_guard h
        cases h
        exact wt_zret C (ux_b_n hb20).1 hq dX4_readClause_45
    · have h := (if_neg q8).symm.trans h
      refine wt_aload_n 28 0 C dX4_readClause_27 rfl rfl ?_
      obtain ⟨o21, hc22, h⟩ := Option.bind_eq_some_iff.mp h
      refine wt_callVi 31 [] C kvX4_73 sc_9 (mX4_readLine (cx_ok C)  hc22) rfl rfl ⟨Nat.le_of_ble_eq_true rfl, Nat.le_of_ble_eq_true rfl⟩ (Nat.le_of_ble_eq_true rfl) dX4_readClause_28 rfl ?_
      obtain ⟨hb23, h⟩ := ux_guard h
      cases h
      exact wt_zret C (ux_b_n hb23).1 hq dX4_readClause_31
  · have h := (if_neg q5).symm.trans h
    refine wt_aload_n 14 0 C dX4_readClause_13 rfl rfl ?_
    obtain ⟨o24, hc25, h⟩ := Option.bind_eq_some_iff.mp h
    refine wt_callVi 17 [] C kvX4_68 sc_9 (mX4_readGrid (cx_ok C)  hc25) rfl rfl ⟨Nat.le_of_ble_eq_true rfl, Nat.le_of_ble_eq_true rfl⟩ (Nat.le_of_ble_eq_true rfl) dX4_readClause_14 rfl ?_
    obtain ⟨hb26, h⟩ := ux_guard h
    cases h
    exact wt_zret C (ux_b_n hb26).1 hq dX4_readClause_17
theorem mX4_readClause {l : Launch} {G : ux_G} (hok : ux_ok G shC)   {N : ux_N} {L : ux_L} {o : Int32 × ux_N} (h : fX4_readClause N = some o) : ux_Mi l G yX4_readClause cX4_readClause 2 (some .boolean) 6 127 [.ref (gad G 9)] N L o.1 o.2 L :=
  ux_ofi shC hok (by decide +kernel) (Nat.le_of_ble_eq_true rfl) (fun X hG hl C hq => by subst hG; subst hl; exact wX4_readClause C  hq h)
def fX4_findFault_15b (c1 : Nat) (v2 : Int32) (N : ux_N) : Option ((Int32 × ux_N) ⊕ ((ux_N) ⊕ ((Int32 × ux_N) ⊕ ((ux_N) ⊕ (ux_N))))) :=
  if (24 : Int32) < v2 then (some (.inr (.inr (.inr (.inr N))))) else ((fX4_readClause N).bind (fun o2 => if o2.1 = 0 then (some (.inr (.inl o2.2))) else ((fX4_advance o2.2).bind (fun o5 => if (o5 9 4) = 0 then (some (.inr (.inr (.inl (v2, o5))))) else (if (o5 9 4) = (3 : Int32) then (if ux_in (o5 9 5) 200 then (if (o5 18 ((o5 9 5).toNatClampNeg)) = (59 : Int32) then (some (.inl ((v2 + 1), o5))) else (some (.inr (.inr (.inr (.inl o5)))))) else none) else (some (.inr (.inr (.inr (.inl o5))))))))))
set_option maxHeartbeats 4000000 in
set_option maxRecDepth 20000 in
theorem wX4_findFault_15b {X : ux_X} (C : ux_C X cX4_findFault RX4 3 (some .int) 7 148 shC) {c1 : Nat} {v2 : Int32} (p1 : is_X3 c1) {N : ux_N} {L : ux_L} {o : (Int32 × ux_N) ⊕ ((ux_N) ⊕ ((Int32 × ux_N) ⊕ ((ux_N) ⊕ (ux_N))))} (hin : ∀ s : Int32 × ux_N, o = .inl s → ux_Wt X 3 15 [(0, .ref (ux_ad X 9)), (2, .int s.1)] [] s.2 L) (hex0 : ∀ e : ux_N, o = .inr (.inl e) → ux_Wt X 3 28 [(0, .ref (ux_ad X 9))] [] e L) (hex1 : ∀ e : Int32 × ux_N, o = .inr (.inr (.inl e)) → ux_Wt X 3 44 [(0, .ref (ux_ad X 9)), (2, .int e.1)] [] e.2 L) (hex2 : ∀ e : ux_N, o = .inr (.inr (.inr (.inl e))) → ux_Wt X 3 73 [(0, .ref (ux_ad X 9))] [] e L) (hex3 : ∀ e : ux_N, o = .inr (.inr (.inr (.inr e))) → ux_Wt X 3 84 [(0, .ref (ux_ad X 9))] [] e L) (h : fX4_findFault_15b c1 v2 N = some o) : ux_Wt X 3 15 [(0, .ref (ux_ad X 9)), (2, .int v2)] [] N L := by
  refine wt_iload_n 16 1 C dX4_findFault_15 rfl rfl ?_
  refine wt_bipush 18 24 C dX4_findFault_16 rfl (by decide) ?_
  refine wt_icmp_gt 21 84 C dX4_findFault_18 rfl (by decide) (fun q1 => ?_) (fun q1 => ?_)
  · have h := (if_pos q1).symm.trans h
    refine wt_sub [0] rfl ?_
    exact hex3 _ (Option.some.inj h).symm
  · have h := (if_neg q1).symm.trans h
    refine wt_aload_n 22 0 C dX4_findFault_21 rfl rfl ?_
    obtain ⟨o2, hc3, h⟩ := Option.bind_eq_some_iff.mp h
    refine wt_callVi 25 [] C kvX4_33 sc_9 (mX4_readClause (cx_ok C)  hc3) rfl rfl ⟨Nat.le_of_ble_eq_true rfl, Nat.le_of_ble_eq_true rfl⟩ (Nat.le_of_ble_eq_true rfl) dX4_findFault_22 rfl ?_
    refine wt_if_ne 28 33 C dX4_findFault_25 rfl (by decide) (fun q4 => ?_) (fun q4 => ?_)
    · have h := (if_neg q4).symm.trans h
      refine wt_aload_n 34 0 C dX4_findFault_33 rfl rfl ?_
      obtain ⟨o5, hc6, h⟩ := Option.bind_eq_some_iff.mp h
      refine wt_callVv 37 [] C kvX4_40 sc_9 (mX4_advance (cx_ok C)  hc6) rfl rfl ⟨Nat.le_of_ble_eq_true rfl, Nat.le_of_ble_eq_true rfl⟩ (Nat.le_of_ble_eq_true rfl) dX4_findFault_34 rfl ?_
      refine wt_aload_n 38 0 C dX4_findFault_37 rfl rfl ?_
      refine wt_getI 41 C kfX4_43 sc_9 rfl dX4_findFault_38 rfl ?_
      refine wt_if_ne 44 51 C dX4_findFault_41 rfl (by decide) (fun q7 => ?_) (fun q7 => ?_)
      · have h := (if_neg q7).symm.trans h
        refine wt_aload_n 52 0 C dX4_findFault_51 rfl rfl ?_
        refine wt_getI 55 C kfX4_43 sc_9 rfl dX4_findFault_52 rfl ?_
        refine wt_iconst 56 3 C dX4_findFault_55 rfl (by decide) ?_
        refine wt_icmp_ne 59 73 C dX4_findFault_56 rfl (by decide) (fun q8 => ?_) (fun q8 => ?_)
        · have h := (if_neg q8).symm.trans h
          refine wt_sub [0] rfl ?_
          exact hex2 _ (Option.some.inj h).symm
        · have h := (if_pos q8).symm.trans h
          refine wt_aload_n 60 0 C dX4_findFault_59 rfl rfl ?_
          refine wt_getR 63 C kfX4_18 sc_9 rfl dX4_findFault_60 rfl ?_
          refine wt_aload_n 64 0 C dX4_findFault_63 rfl rfl ?_
          refine wt_getI 67 C kfX4_37 sc_9 rfl dX4_findFault_64 rfl ?_
          obtain ⟨hi9, h⟩ := ux_guard h
          refine wt_cald 68 ((o5 9 5).toNatClampNeg) C sc_18 rfl hi9 dX4_findFault_67 rfl ?_
          refine wt_bipush 70 59 C dX4_findFault_68 rfl (by decide) ?_
          refine wt_icmp_eq 73 78 C dX4_findFault_70 rfl (by decide) (fun q10 => ?_) (fun q10 => ?_)
          · have h := (if_pos q10).symm.trans h
            refine wt_iinc 81 1 [(2, .int (v2 + 1)), (0, .ref (ux_ad X 9))] (v2 + 1) C dX4_findFault_78 rfl rfl (by rfl) (by decide) rfl ?_
            refine wt_goto 15 C dX4_findFault_81 (by decide) ?_
            refine wt_sub [1, 0] rfl ?_
            exact hin _ (Option.some.inj h).symm
          · have h := (if_neg q10).symm.trans h
            refine wt_sub [0] rfl ?_
            exact hex2 _ (Option.some.inj h).symm
      · have h := (if_pos q7).symm.trans h
        exact hex1 _ (Option.some.inj h).symm
    · have h := (if_pos q4).symm.trans h
      refine wt_sub [0] rfl ?_
      exact hex0 _ (Option.some.inj h).symm
def fX4_findFault_73 (c1 : Nat) (N : ux_N) : Option (Int32 × ux_N) :=
  some ((N 9 5), N)
set_option maxHeartbeats 4000000 in
set_option maxRecDepth 20000 in
theorem wX4_findFault_73 {X : ux_X} (C : ux_C X cX4_findFault RX4 3 (some .int) 7 148 shC) {c1 : Nat} (p1 : is_X3 c1) {N : ux_N} {L : ux_L} {o : Int32 × ux_N} (hq : ux_Qi X o.1 o.2 L) (h : fX4_findFault_73 c1 N = some o) : ux_Wt X 3 73 [(0, .ref (ux_ad X 9))] [] N L := by
  refine wt_aload_n 74 0 C dX4_findFault_73 rfl rfl ?_
  refine wt_getI 77 C kfX4_37 sc_9 rfl dX4_findFault_74 rfl ?_
  cases h
  exact wt_iret C hq dX4_findFault_77
def fX4_findFault (c1 : Nat) (N : ux_N) : Option (Int32 × ux_N) :=
  (fX3_copyFrom 10 c1 N).bind (fun o1 => (ux_lp (fun s : Int32 × ux_N => fX4_findFault_15b c1 s.1 s.2) ux_fu ((1 : Int32), (ux_u o1 9 6 (0 : Int32)))).bind (Sum.elim (fun e10 => some ((e10 9 5), e10)) (Sum.elim (fun e11 => some ((-1 : Int32), (ux_u e11.2 9 1 e11.1))) (Sum.elim (fun e12 => fX4_findFault_73 c1 e12) (fun e13 => some ((e13 9 5), e13))))))
set_option maxHeartbeats 4000000 in
set_option maxRecDepth 20000 in
theorem wX4_findFault {X : ux_X} (C : ux_C X cX4_findFault RX4 3 (some .int) 7 148 shC) {c1 : Nat} (p1 : is_X3 c1) {N : ux_N} {L : ux_L} {o : Int32 × ux_N} (hq : ux_Qi X o.1 o.2 L) (h : fX4_findFault c1 N = some o) : ux_Wt X 3 0 [(0, .ref (ux_ad X 9)), (1, .ref (ux_ad X c1))] [] N L := by
  refine wt_aload_n 1 0 C dX4_findFault_0 rfl rfl ?_
  refine wt_getR 4 C kfX4_12 sc_9 rfl dX4_findFault_1 rfl ?_
  refine wt_aload_n 5 1 C dX4_findFault_4 rfl rfl ?_
  obtain ⟨o1, hc2, h⟩ := Option.bind_eq_some_iff.mp h
  refine wt_callVv 8 [] C kvX4_26 sc_10 (mX3_copyFrom (cx_ok C) (is3_10) (p1) hc2) rfl rfl ⟨Nat.le_of_ble_eq_true rfl, Nat.le_of_ble_eq_true rfl⟩ (Nat.le_of_ble_eq_true rfl) dX4_findFault_5 rfl ?_
  refine wt_aload_n 9 0 C dX4_findFault_8 rfl rfl ?_
  refine wt_iconst 10 0 C dX4_findFault_9 rfl (by decide) ?_
  refine wt_putI 13 C kpX4_30 sc_9 rfl rfl rfl dX4_findFault_10 rfl ?_
  refine wt_iconst 14 1 C dX4_findFault_13 rfl (by decide) ?_
  refine wt_istore_n 15 [(2, .int (1 : Int32)), (0, .ref (ux_ad X 9)), (1, .ref (ux_ad X c1))] C dX4_findFault_14 rfl (by decide) rfl ?_
  obtain ⟨e3, hl4, h⟩ := Option.bind_eq_some_iff.mp h
  refine wt_sub [1, 0] rfl ?_
  refine ux_loop (fun s : Int32 × ux_N => fX4_findFault_15b c1 s.1 s.2) (fun s : Int32 × ux_N => ux_Wt X 3 15 [(0, .ref (ux_ad X 9)), (2, .int s.1)] [] s.2 L) (e := e3) ?_ hl4
  intro s5 o6 hb7 hi8 hx9
  refine wX4_findFault_15b C p1 hi8 (fun x0 he => ?_) (fun x1 he => ?_) (fun x2 he => ?_) (fun x3 he => ?_) hb7
  · obtain ⟨e10, rfl⟩ : ∃ z, z = x0 := ⟨_, rfl⟩
    have h9 := hx9 _ he
    subst h9
    refine wt_aload_n 29 0 C dX4_findFault_28 rfl rfl ?_
    refine wt_getI 32 C kfX4_37 sc_9 rfl dX4_findFault_29 rfl ?_
    cases h
    exact wt_iret C hq dX4_findFault_32
  · obtain ⟨e11, rfl⟩ : ∃ z, z = x1 := ⟨_, rfl⟩
    have h9 := hx9 _ he
    subst h9
    refine wt_aload_n 45 0 C dX4_findFault_44 rfl rfl ?_
    refine wt_iload_n 46 1 C dX4_findFault_45 rfl rfl ?_
    refine wt_putI 49 C kpX4_46 sc_9 rfl rfl rfl dX4_findFault_46 rfl ?_
    refine wt_iconst 50 (-1) C dX4_findFault_49 rfl (by decide) ?_
    cases h
    exact wt_iret C hq dX4_findFault_50
  · obtain ⟨e12, rfl⟩ : ∃ z, z = x2 := ⟨_, rfl⟩
    have h9 := hx9 _ he
    subst h9
    exact wX4_findFault_73 C p1 hq h
  · obtain ⟨e13, rfl⟩ : ∃ z, z = x3 := ⟨_, rfl⟩
    have h9 := hx9 _ he
    subst h9
    refine wt_aload_n 85 0 C dX4_findFault_84 rfl rfl ?_
    refine wt_getI 88 C kfX4_37 sc_9 rfl dX4_findFault_85 rfl ?_
    cases h
    exact wt_iret C hq dX4_findFault_88
theorem mX4_findFault {l : Launch} {G : ux_G} (hok : ux_ok G shC) {c1 : Nat} (p1 : is_X3 c1) {N : ux_N} {L : ux_L} {o : Int32 × ux_N} (h : fX4_findFault c1 N = some o) : ux_Mi l G yX4_findFault cX4_findFault 3 (some .int) 7 148 [.ref (gad G 9), .ref (gad G c1)] N L o.1 o.2 L :=
  ux_ofi shC hok (by decide +kernel) (Nat.le_of_ble_eq_true rfl) (fun X hG hl C hq => by subst hG; subst hl; exact wX4_findFault C p1 hq h)
