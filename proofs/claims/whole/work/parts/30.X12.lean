theorem dX12_in_0 : decode cX12_in 0 = .ok (.lload_n 0, 1) := by decide +kernel
theorem dX12_in_1 : decode cX12_in 1 = .ok (.lload_n 2, 1) := by decide +kernel
theorem dX12_in_2 : decode cX12_in 2 = .ok (.lcmp, 1) := by decide +kernel
theorem dX12_in_3 : decode cX12_in 3 = .ok (.ifCond .lt 14, 3) := by decide +kernel
theorem dX12_in_6 : decode cX12_in 6 = .ok (.lload_n 0, 1) := by decide +kernel
theorem dX12_in_7 : decode cX12_in 7 = .ok (.lload 4, 2) := by decide +kernel
theorem dX12_in_9 : decode cX12_in 9 = .ok (.lcmp, 1) := by decide +kernel
theorem dX12_in_10 : decode cX12_in 10 = .ok (.ifCond .gt 7, 3) := by decide +kernel
theorem dX12_in_13 : decode cX12_in 13 = .ok (.iconst 1, 1) := by decide +kernel
theorem dX12_in_14 : decode cX12_in 14 = .ok (.goto 4, 3) := by decide +kernel
theorem dX12_in_17 : decode cX12_in 17 = .ok (.iconst 0, 1) := by decide +kernel
theorem dX12_in_18 : decode cX12_in 18 = .ok (.ireturn, 1) := by decide +kernel
theorem dX12_has_0 : decode cX12_has 0 = .ok (.iload_n 0, 1) := by decide +kernel
theorem dX12_has_1 : decode cX12_has 1 = .ok (.iload_n 1, 1) := by decide +kernel
theorem dX12_has_2 : decode cX12_has 2 = .ok (.ishr, 1) := by decide +kernel
theorem dX12_has_3 : decode cX12_has 3 = .ok (.iconst 1, 1) := by decide +kernel
theorem dX12_has_4 : decode cX12_has 4 = .ok (.iand, 1) := by decide +kernel
theorem dX12_has_5 : decode cX12_has 5 = .ok (.iconst 1, 1) := by decide +kernel
theorem dX12_has_6 : decode cX12_has 6 = .ok (.if_icmp .ne 7, 3) := by decide +kernel
theorem dX12_has_9 : decode cX12_has 9 = .ok (.iconst 1, 1) := by decide +kernel
theorem dX12_has_10 : decode cX12_has 10 = .ok (.goto 4, 3) := by decide +kernel
theorem dX12_has_13 : decode cX12_has 13 = .ok (.iconst 0, 1) := by decide +kernel
theorem dX12_has_14 : decode cX12_has 14 = .ok (.ireturn, 1) := by decide +kernel
theorem dX12_ones_0 : decode cX12_ones 0 = .ok (.iconst 0, 1) := by decide +kernel
theorem dX12_ones_1 : decode cX12_ones 1 = .ok (.istore_n 1, 1) := by decide +kernel
theorem dX12_ones_2 : decode cX12_ones 2 = .ok (.iconst 0, 1) := by decide +kernel
theorem dX12_ones_3 : decode cX12_ones 3 = .ok (.istore_n 2, 1) := by decide +kernel
theorem dX12_ones_4 : decode cX12_ones 4 = .ok (.iload_n 2, 1) := by decide +kernel
theorem dX12_ones_5 : decode cX12_ones 5 = .ok (.bipush 10, 2) := by decide +kernel
theorem dX12_ones_7 : decode cX12_ones 7 = .ok (.if_icmp .ge 17, 3) := by decide +kernel
theorem dX12_ones_10 : decode cX12_ones 10 = .ok (.iload_n 1, 1) := by decide +kernel
theorem dX12_ones_11 : decode cX12_ones 11 = .ok (.iload_n 0, 1) := by decide +kernel
theorem dX12_ones_12 : decode cX12_ones 12 = .ok (.iload_n 2, 1) := by decide +kernel
theorem dX12_ones_13 : decode cX12_ones 13 = .ok (.ishr, 1) := by decide +kernel
theorem dX12_ones_14 : decode cX12_ones 14 = .ok (.iconst 1, 1) := by decide +kernel
theorem dX12_ones_15 : decode cX12_ones 15 = .ok (.iand, 1) := by decide +kernel
theorem dX12_ones_16 : decode cX12_ones 16 = .ok (.iadd, 1) := by decide +kernel
theorem dX12_ones_17 : decode cX12_ones 17 = .ok (.istore_n 1, 1) := by decide +kernel
theorem dX12_ones_18 : decode cX12_ones 18 = .ok (.iinc 2 1, 3) := by decide +kernel
theorem dX12_ones_21 : decode cX12_ones 21 = .ok (.goto (-17), 3) := by decide +kernel
theorem dX12_ones_24 : decode cX12_ones 24 = .ok (.iload_n 1, 1) := by decide +kernel
theorem dX12_ones_25 : decode cX12_ones 25 = .ok (.ireturn, 1) := by decide +kernel
theorem dX12_copyRow_0 : decode cX12_copyRow 0 = .ok (.iconst 0, 1) := by decide +kernel
theorem dX12_copyRow_1 : decode cX12_copyRow 1 = .ok (.istore_n 3, 1) := by decide +kernel
theorem dX12_copyRow_2 : decode cX12_copyRow 2 = .ok (.iload_n 3, 1) := by decide +kernel
theorem dX12_copyRow_3 : decode cX12_copyRow 3 = .ok (.bipush 21, 2) := by decide +kernel
theorem dX12_copyRow_5 : decode cX12_copyRow 5 = .ok (.if_icmp .ge 25, 3) := by decide +kernel
theorem dX12_copyRow_8 : decode cX12_copyRow 8 = .ok (.aload_n 0, 1) := by decide +kernel
theorem dX12_copyRow_9 : decode cX12_copyRow 9 = .ok (.getfield 7, 3) := by decide +kernel
theorem dX12_copyRow_12 : decode cX12_copyRow 12 = .ok (.iload_n 2, 1) := by decide +kernel
theorem dX12_copyRow_13 : decode cX12_copyRow 13 = .ok (.iload_n 3, 1) := by decide +kernel
theorem dX12_copyRow_14 : decode cX12_copyRow 14 = .ok (.iadd, 1) := by decide +kernel
theorem dX12_copyRow_15 : decode cX12_copyRow 15 = .ok (.aload_n 0, 1) := by decide +kernel
theorem dX12_copyRow_16 : decode cX12_copyRow 16 = .ok (.getfield 7, 3) := by decide +kernel
theorem dX12_copyRow_19 : decode cX12_copyRow 19 = .ok (.iload_n 1, 1) := by decide +kernel
theorem dX12_copyRow_20 : decode cX12_copyRow 20 = .ok (.iload_n 3, 1) := by decide +kernel
theorem dX12_copyRow_21 : decode cX12_copyRow 21 = .ok (.iadd, 1) := by decide +kernel
theorem dX12_copyRow_22 : decode cX12_copyRow 22 = .ok (.iaload, 1) := by decide +kernel
theorem dX12_copyRow_23 : decode cX12_copyRow 23 = .ok (.iastore, 1) := by decide +kernel
theorem dX12_copyRow_24 : decode cX12_copyRow 24 = .ok (.iinc 3 1, 3) := by decide +kernel
theorem dX12_copyRow_27 : decode cX12_copyRow 27 = .ok (.goto (-25), 3) := by decide +kernel
theorem dX12_copyRow_30 : decode cX12_copyRow 30 = .ok (.return_, 1) := by decide +kernel
theorem dX12_anew_0 : decode cX12_anew 0 = .ok (.aload_n 0, 1) := by decide +kernel
theorem dX12_anew_1 : decode cX12_anew 1 = .ok (.iload_n 1, 1) := by decide +kernel
theorem dX12_anew_2 : decode cX12_anew 2 = .ok (.putfield 82, 3) := by decide +kernel
theorem dX12_anew_5 : decode cX12_anew 5 = .ok (.aload_n 0, 1) := by decide +kernel
theorem dX12_anew_6 : decode cX12_anew 6 = .ok (.iconst 0, 1) := by decide +kernel
theorem dX12_anew_7 : decode cX12_anew 7 = .ok (.putfield 86, 3) := by decide +kernel
theorem dX12_anew_10 : decode cX12_anew 10 = .ok (.aload_n 0, 1) := by decide +kernel
theorem dX12_anew_11 : decode cX12_anew 11 = .ok (.iconst 0, 1) := by decide +kernel
theorem dX12_anew_12 : decode cX12_anew 12 = .ok (.putfield 89, 3) := by decide +kernel
theorem dX12_anew_15 : decode cX12_anew 15 = .ok (.aload_n 0, 1) := by decide +kernel
theorem dX12_anew_16 : decode cX12_anew 16 = .ok (.getfield 7, 3) := by decide +kernel
theorem dX12_anew_19 : decode cX12_anew 19 = .ok (.iconst 0, 1) := by decide +kernel
theorem dX12_anew_20 : decode cX12_anew 20 = .ok (.iconst 0, 1) := by decide +kernel
theorem dX12_anew_21 : decode cX12_anew 21 = .ok (.iastore, 1) := by decide +kernel
theorem dX12_anew_22 : decode cX12_anew 22 = .ok (.aload_n 0, 1) := by decide +kernel
theorem dX12_anew_23 : decode cX12_anew 23 = .ok (.getfield 7, 3) := by decide +kernel
theorem dX12_anew_26 : decode cX12_anew 26 = .ok (.iconst 1, 1) := by decide +kernel
theorem dX12_anew_27 : decode cX12_anew 27 = .ok (.iconst 0, 1) := by decide +kernel
theorem dX12_anew_28 : decode cX12_anew 28 = .ok (.iastore, 1) := by decide +kernel
theorem dX12_anew_29 : decode cX12_anew 29 = .ok (.aload_n 0, 1) := by decide +kernel
theorem dX12_anew_30 : decode cX12_anew 30 = .ok (.getfield 7, 3) := by decide +kernel
theorem dX12_anew_33 : decode cX12_anew 33 = .ok (.iconst 2, 1) := by decide +kernel
theorem dX12_anew_34 : decode cX12_anew 34 = .ok (.iconst 0, 1) := by decide +kernel
theorem dX12_anew_35 : decode cX12_anew 35 = .ok (.iastore, 1) := by decide +kernel
theorem dX12_anew_36 : decode cX12_anew 36 = .ok (.return_, 1) := by decide +kernel
theorem dX12_write_0 : decode cX12_write 0 = .ok (.iload_n 1, 1) := by decide +kernel
theorem dX12_write_1 : decode cX12_write 1 = .ok (.i2l, 1) := by decide +kernel
theorem dX12_write_2 : decode cX12_write 2 = .ok (.lconst 0, 1) := by decide +kernel
theorem dX12_write_3 : decode cX12_write 3 = .ok (.ldc2_w 92, 3) := by decide +kernel
theorem dX12_write_6 : decode cX12_write 6 = .ok (.invokestatic 94, 3) := by decide +kernel
theorem dX12_write_9 : decode cX12_write 9 = .ok (.ifCond .ne 6, 3) := by decide +kernel
theorem dX12_write_12 : decode cX12_write 12 = .ok (.bipush (-3), 2) := by decide +kernel
theorem dX12_write_14 : decode cX12_write 14 = .ok (.ireturn, 1) := by decide +kernel
theorem dX12_write_15 : decode cX12_write 15 = .ok (.aload_n 0, 1) := by decide +kernel
theorem dX12_write_16 : decode cX12_write 16 = .ok (.getfield 98, 3) := by decide +kernel
theorem dX12_write_19 : decode cX12_write 19 = .ok (.sipush 200, 3) := by decide +kernel
theorem dX12_write_22 : decode cX12_write 22 = .ok (.if_icmp .ne 6, 3) := by decide +kernel
theorem dX12_write_25 : decode cX12_write 25 = .ok (.bipush (-5), 2) := by decide +kernel
theorem dX12_write_27 : decode cX12_write 27 = .ok (.ireturn, 1) := by decide +kernel
theorem dX12_write_28 : decode cX12_write 28 = .ok (.aload_n 0, 1) := by decide +kernel
theorem dX12_write_29 : decode cX12_write 29 = .ok (.getfield 23, 3) := by decide +kernel
theorem dX12_write_32 : decode cX12_write 32 = .ok (.aload_n 0, 1) := by decide +kernel
theorem dX12_write_33 : decode cX12_write 33 = .ok (.getfield 98, 3) := by decide +kernel
theorem dX12_write_36 : decode cX12_write 36 = .ok (.iload_n 1, 1) := by decide +kernel
theorem dX12_write_37 : decode cX12_write 37 = .ok (.iastore, 1) := by decide +kernel
theorem dX12_write_38 : decode cX12_write 38 = .ok (.aload_n 0, 1) := by decide +kernel
theorem dX12_write_39 : decode cX12_write 39 = .ok (.dup, 1) := by decide +kernel
theorem dX12_write_40 : decode cX12_write 40 = .ok (.getfield 98, 3) := by decide +kernel
theorem dX12_write_43 : decode cX12_write 43 = .ok (.iconst 1, 1) := by decide +kernel
theorem dX12_write_44 : decode cX12_write 44 = .ok (.iadd, 1) := by decide +kernel
theorem dX12_write_45 : decode cX12_write 45 = .ok (.putfield 98, 3) := by decide +kernel
theorem dX12_write_48 : decode cX12_write 48 = .ok (.aload_n 0, 1) := by decide +kernel
theorem dX12_write_49 : decode cX12_write 49 = .ok (.getfield 98, 3) := by decide +kernel
theorem dX12_write_52 : decode cX12_write 52 = .ok (.ireturn, 1) := by decide +kernel
theorem dX12_erase_0 : decode cX12_erase 0 = .ok (.aload_n 0, 1) := by decide +kernel
theorem dX12_erase_1 : decode cX12_erase 1 = .ok (.getfield 98, 3) := by decide +kernel
theorem dX12_erase_4 : decode cX12_erase 4 = .ok (.istore_n 1, 1) := by decide +kernel
theorem dX12_erase_5 : decode cX12_erase 5 = .ok (.aload_n 0, 1) := by decide +kernel
theorem dX12_erase_6 : decode cX12_erase 6 = .ok (.iconst 0, 1) := by decide +kernel
theorem dX12_erase_7 : decode cX12_erase 7 = .ok (.putfield 98, 3) := by decide +kernel
theorem dX12_erase_10 : decode cX12_erase 10 = .ok (.iload_n 1, 1) := by decide +kernel
theorem dX12_erase_11 : decode cX12_erase 11 = .ok (.ireturn, 1) := by decide +kernel
theorem dX12_isLetter_0 : decode cX12_isLetter 0 = .ok (.iload_n 0, 1) := by decide +kernel
theorem dX12_isLetter_1 : decode cX12_isLetter 1 = .ok (.i2l, 1) := by decide +kernel
theorem dX12_isLetter_2 : decode cX12_isLetter 2 = .ok (.ldc2_w 101, 3) := by decide +kernel
theorem dX12_isLetter_5 : decode cX12_isLetter 5 = .ok (.ldc2_w 103, 3) := by decide +kernel
theorem dX12_isLetter_8 : decode cX12_isLetter 8 = .ok (.invokestatic 94, 3) := by decide +kernel
theorem dX12_isLetter_11 : decode cX12_isLetter 11 = .ok (.ireturn, 1) := by decide +kernel
theorem dX12_isDigit_0 : decode cX12_isDigit 0 = .ok (.iload_n 0, 1) := by decide +kernel
theorem dX12_isDigit_1 : decode cX12_isDigit 1 = .ok (.i2l, 1) := by decide +kernel
theorem dX12_isDigit_2 : decode cX12_isDigit 2 = .ok (.ldc2_w 105, 3) := by decide +kernel
theorem dX12_isDigit_5 : decode cX12_isDigit 5 = .ok (.ldc2_w 107, 3) := by decide +kernel
theorem dX12_isDigit_8 : decode cX12_isDigit 8 = .ok (.invokestatic 94, 3) := by decide +kernel
theorem dX12_isDigit_11 : decode cX12_isDigit 11 = .ok (.ireturn, 1) := by decide +kernel
theorem dX12_nextToken_0 : decode cX12_nextToken 0 = .ok (.aload_n 0, 1) := by decide +kernel
theorem dX12_nextToken_1 : decode cX12_nextToken 1 = .ok (.aload_n 0, 1) := by decide +kernel
theorem dX12_nextToken_2 : decode cX12_nextToken 2 = .ok (.getfield 109, 3) := by decide +kernel
theorem dX12_nextToken_5 : decode cX12_nextToken 5 = .ok (.putfield 112, 3) := by decide +kernel
theorem dX12_nextToken_8 : decode cX12_nextToken 8 = .ok (.aload_n 0, 1) := by decide +kernel
theorem dX12_nextToken_9 : decode cX12_nextToken 9 = .ok (.getfield 112, 3) := by decide +kernel
theorem dX12_nextToken_12 : decode cX12_nextToken 12 = .ok (.aload_n 0, 1) := by decide +kernel
theorem dX12_nextToken_13 : decode cX12_nextToken 13 = .ok (.getfield 98, 3) := by decide +kernel
theorem dX12_nextToken_16 : decode cX12_nextToken 16 = .ok (.if_icmp .ge 30, 3) := by decide +kernel
theorem dX12_nextToken_19 : decode cX12_nextToken 19 = .ok (.aload_n 0, 1) := by decide +kernel
theorem dX12_nextToken_20 : decode cX12_nextToken 20 = .ok (.getfield 23, 3) := by decide +kernel
theorem dX12_nextToken_23 : decode cX12_nextToken 23 = .ok (.aload_n 0, 1) := by decide +kernel
theorem dX12_nextToken_24 : decode cX12_nextToken 24 = .ok (.getfield 112, 3) := by decide +kernel
theorem dX12_nextToken_27 : decode cX12_nextToken 27 = .ok (.iaload, 1) := by decide +kernel
theorem dX12_nextToken_28 : decode cX12_nextToken 28 = .ok (.bipush 32, 2) := by decide +kernel
theorem dX12_nextToken_30 : decode cX12_nextToken 30 = .ok (.if_icmp .ne 16, 3) := by decide +kernel
theorem dX12_nextToken_33 : decode cX12_nextToken 33 = .ok (.aload_n 0, 1) := by decide +kernel
theorem dX12_nextToken_34 : decode cX12_nextToken 34 = .ok (.dup, 1) := by decide +kernel
theorem dX12_nextToken_35 : decode cX12_nextToken 35 = .ok (.getfield 112, 3) := by decide +kernel
theorem dX12_nextToken_38 : decode cX12_nextToken 38 = .ok (.iconst 1, 1) := by decide +kernel
theorem dX12_nextToken_39 : decode cX12_nextToken 39 = .ok (.iadd, 1) := by decide +kernel
theorem dX12_nextToken_40 : decode cX12_nextToken 40 = .ok (.putfield 112, 3) := by decide +kernel
theorem dX12_nextToken_43 : decode cX12_nextToken 43 = .ok (.goto (-35), 3) := by decide +kernel
theorem dX12_nextToken_46 : decode cX12_nextToken 46 = .ok (.aload_n 0, 1) := by decide +kernel
theorem dX12_nextToken_47 : decode cX12_nextToken 47 = .ok (.aload_n 0, 1) := by decide +kernel
theorem dX12_nextToken_48 : decode cX12_nextToken 48 = .ok (.getfield 112, 3) := by decide +kernel
theorem dX12_nextToken_51 : decode cX12_nextToken 51 = .ok (.aload_n 0, 1) := by decide +kernel
theorem dX12_nextToken_52 : decode cX12_nextToken 52 = .ok (.getfield 98, 3) := by decide +kernel
theorem dX12_nextToken_55 : decode cX12_nextToken 55 = .ok (.if_icmp .ge 12, 3) := by decide +kernel
theorem dX12_nextToken_58 : decode cX12_nextToken 58 = .ok (.aload_n 0, 1) := by decide +kernel
theorem dX12_nextToken_59 : decode cX12_nextToken 59 = .ok (.getfield 112, 3) := by decide +kernel
theorem dX12_nextToken_62 : decode cX12_nextToken 62 = .ok (.iconst 1, 1) := by decide +kernel
theorem dX12_nextToken_63 : decode cX12_nextToken 63 = .ok (.iadd, 1) := by decide +kernel
theorem dX12_nextToken_64 : decode cX12_nextToken 64 = .ok (.goto 7, 3) := by decide +kernel
theorem dX12_nextToken_67 : decode cX12_nextToken 67 = .ok (.aload_n 0, 1) := by decide +kernel
theorem dX12_nextToken_68 : decode cX12_nextToken 68 = .ok (.getfield 112, 3) := by decide +kernel
theorem dX12_nextToken_71 : decode cX12_nextToken 71 = .ok (.putfield 109, 3) := by decide +kernel
theorem dX12_nextToken_74 : decode cX12_nextToken 74 = .ok (.aload_n 0, 1) := by decide +kernel
theorem dX12_nextToken_75 : decode cX12_nextToken 75 = .ok (.getfield 112, 3) := by decide +kernel
theorem dX12_nextToken_78 : decode cX12_nextToken 78 = .ok (.aload_n 0, 1) := by decide +kernel
theorem dX12_nextToken_79 : decode cX12_nextToken 79 = .ok (.getfield 98, 3) := by decide +kernel
theorem dX12_nextToken_82 : decode cX12_nextToken 82 = .ok (.if_icmp .ge 57, 3) := by decide +kernel
theorem dX12_nextToken_85 : decode cX12_nextToken 85 = .ok (.aload_n 0, 1) := by decide +kernel
theorem dX12_nextToken_86 : decode cX12_nextToken 86 = .ok (.getfield 23, 3) := by decide +kernel
theorem dX12_nextToken_89 : decode cX12_nextToken 89 = .ok (.aload_n 0, 1) := by decide +kernel
theorem dX12_nextToken_90 : decode cX12_nextToken 90 = .ok (.getfield 112, 3) := by decide +kernel
theorem dX12_nextToken_93 : decode cX12_nextToken 93 = .ok (.iaload, 1) := by decide +kernel
theorem dX12_nextToken_94 : decode cX12_nextToken 94 = .ok (.invokestatic 115, 3) := by decide +kernel
theorem dX12_nextToken_97 : decode cX12_nextToken 97 = .ok (.ifCond .eq 42, 3) := by decide +kernel
theorem dX12_nextToken_100 : decode cX12_nextToken 100 = .ok (.aload_n 0, 1) := by decide +kernel
theorem dX12_nextToken_101 : decode cX12_nextToken 101 = .ok (.getfield 109, 3) := by decide +kernel
theorem dX12_nextToken_104 : decode cX12_nextToken 104 = .ok (.aload_n 0, 1) := by decide +kernel
theorem dX12_nextToken_105 : decode cX12_nextToken 105 = .ok (.getfield 98, 3) := by decide +kernel
theorem dX12_nextToken_108 : decode cX12_nextToken 108 = .ok (.if_icmp .ge 96, 3) := by decide +kernel
theorem dX12_nextToken_111 : decode cX12_nextToken 111 = .ok (.aload_n 0, 1) := by decide +kernel
theorem dX12_nextToken_112 : decode cX12_nextToken 112 = .ok (.getfield 23, 3) := by decide +kernel
theorem dX12_nextToken_115 : decode cX12_nextToken 115 = .ok (.aload_n 0, 1) := by decide +kernel
theorem dX12_nextToken_116 : decode cX12_nextToken 116 = .ok (.getfield 109, 3) := by decide +kernel
theorem dX12_nextToken_119 : decode cX12_nextToken 119 = .ok (.iaload, 1) := by decide +kernel
theorem dX12_nextToken_120 : decode cX12_nextToken 120 = .ok (.invokestatic 115, 3) := by decide +kernel
theorem dX12_nextToken_123 : decode cX12_nextToken 123 = .ok (.ifCond .eq 81, 3) := by decide +kernel
theorem dX12_nextToken_126 : decode cX12_nextToken 126 = .ok (.aload_n 0, 1) := by decide +kernel
theorem dX12_nextToken_127 : decode cX12_nextToken 127 = .ok (.dup, 1) := by decide +kernel
theorem dX12_nextToken_128 : decode cX12_nextToken 128 = .ok (.getfield 109, 3) := by decide +kernel
theorem dX12_nextToken_131 : decode cX12_nextToken 131 = .ok (.iconst 1, 1) := by decide +kernel
theorem dX12_nextToken_132 : decode cX12_nextToken 132 = .ok (.iadd, 1) := by decide +kernel
theorem dX12_nextToken_133 : decode cX12_nextToken 133 = .ok (.putfield 109, 3) := by decide +kernel
theorem dX12_nextToken_136 : decode cX12_nextToken 136 = .ok (.goto (-36), 3) := by decide +kernel
theorem dX12_nextToken_139 : decode cX12_nextToken 139 = .ok (.aload_n 0, 1) := by decide +kernel
theorem dX12_nextToken_140 : decode cX12_nextToken 140 = .ok (.getfield 112, 3) := by decide +kernel
theorem dX12_nextToken_143 : decode cX12_nextToken 143 = .ok (.aload_n 0, 1) := by decide +kernel
theorem dX12_nextToken_144 : decode cX12_nextToken 144 = .ok (.getfield 98, 3) := by decide +kernel
theorem dX12_nextToken_147 : decode cX12_nextToken 147 = .ok (.if_icmp .ge 57, 3) := by decide +kernel
theorem dX12_nextToken_150 : decode cX12_nextToken 150 = .ok (.aload_n 0, 1) := by decide +kernel
theorem dX12_nextToken_151 : decode cX12_nextToken 151 = .ok (.getfield 23, 3) := by decide +kernel
theorem dX12_nextToken_154 : decode cX12_nextToken 154 = .ok (.aload_n 0, 1) := by decide +kernel
theorem dX12_nextToken_155 : decode cX12_nextToken 155 = .ok (.getfield 112, 3) := by decide +kernel
theorem dX12_nextToken_158 : decode cX12_nextToken 158 = .ok (.iaload, 1) := by decide +kernel
theorem dX12_nextToken_159 : decode cX12_nextToken 159 = .ok (.invokestatic 119, 3) := by decide +kernel
theorem dX12_nextToken_162 : decode cX12_nextToken 162 = .ok (.ifCond .eq 42, 3) := by decide +kernel
theorem dX12_nextToken_165 : decode cX12_nextToken 165 = .ok (.aload_n 0, 1) := by decide +kernel
theorem dX12_nextToken_166 : decode cX12_nextToken 166 = .ok (.getfield 109, 3) := by decide +kernel
theorem dX12_nextToken_169 : decode cX12_nextToken 169 = .ok (.aload_n 0, 1) := by decide +kernel
theorem dX12_nextToken_170 : decode cX12_nextToken 170 = .ok (.getfield 98, 3) := by decide +kernel
theorem dX12_nextToken_173 : decode cX12_nextToken 173 = .ok (.if_icmp .ge 31, 3) := by decide +kernel
theorem dX12_nextToken_176 : decode cX12_nextToken 176 = .ok (.aload_n 0, 1) := by decide +kernel
theorem dX12_nextToken_177 : decode cX12_nextToken 177 = .ok (.getfield 23, 3) := by decide +kernel
theorem dX12_nextToken_180 : decode cX12_nextToken 180 = .ok (.aload_n 0, 1) := by decide +kernel
theorem dX12_nextToken_181 : decode cX12_nextToken 181 = .ok (.getfield 109, 3) := by decide +kernel
theorem dX12_nextToken_184 : decode cX12_nextToken 184 = .ok (.iaload, 1) := by decide +kernel
theorem dX12_nextToken_185 : decode cX12_nextToken 185 = .ok (.invokestatic 119, 3) := by decide +kernel
theorem dX12_nextToken_188 : decode cX12_nextToken 188 = .ok (.ifCond .eq 16, 3) := by decide +kernel
theorem dX12_nextToken_191 : decode cX12_nextToken 191 = .ok (.aload_n 0, 1) := by decide +kernel
theorem dX12_nextToken_192 : decode cX12_nextToken 192 = .ok (.dup, 1) := by decide +kernel
theorem dX12_nextToken_193 : decode cX12_nextToken 193 = .ok (.getfield 109, 3) := by decide +kernel
theorem dX12_nextToken_196 : decode cX12_nextToken 196 = .ok (.iconst 1, 1) := by decide +kernel
theorem dX12_nextToken_197 : decode cX12_nextToken 197 = .ok (.iadd, 1) := by decide +kernel
theorem dX12_nextToken_198 : decode cX12_nextToken 198 = .ok (.putfield 109, 3) := by decide +kernel
theorem dX12_nextToken_201 : decode cX12_nextToken 201 = .ok (.goto (-36), 3) := by decide +kernel
theorem dX12_nextToken_204 : decode cX12_nextToken 204 = .ok (.return_, 1) := by decide +kernel
theorem dX12_wordHere_0 : decode cX12_wordHere 0 = .ok (.iconst 0, 1) := by decide +kernel
theorem dX12_wordHere_1 : decode cX12_wordHere 1 = .ok (.istore_n 1, 1) := by decide +kernel
theorem dX12_wordHere_2 : decode cX12_wordHere 2 = .ok (.iload_n 1, 1) := by decide +kernel
theorem dX12_wordHere_3 : decode cX12_wordHere 3 = .ok (.bipush 8, 2) := by decide +kernel
theorem dX12_wordHere_5 : decode cX12_wordHere 5 = .ok (.if_icmp .ge 104, 3) := by decide +kernel
theorem dX12_wordHere_8 : decode cX12_wordHere 8 = .ok (.aload_n 0, 1) := by decide +kernel
theorem dX12_wordHere_9 : decode cX12_wordHere 9 = .ok (.getfield 44, 3) := by decide +kernel
theorem dX12_wordHere_12 : decode cX12_wordHere 12 = .ok (.iconst 5, 1) := by decide +kernel
theorem dX12_wordHere_13 : decode cX12_wordHere 13 = .ok (.iload_n 1, 1) := by decide +kernel
theorem dX12_wordHere_14 : decode cX12_wordHere 14 = .ok (.imul, 1) := by decide +kernel
theorem dX12_wordHere_15 : decode cX12_wordHere 15 = .ok (.iconst 4, 1) := by decide +kernel
theorem dX12_wordHere_16 : decode cX12_wordHere 16 = .ok (.iadd, 1) := by decide +kernel
theorem dX12_wordHere_17 : decode cX12_wordHere 17 = .ok (.iaload, 1) := by decide +kernel
theorem dX12_wordHere_18 : decode cX12_wordHere 18 = .ok (.ifCond .ne 7, 3) := by decide +kernel
theorem dX12_wordHere_21 : decode cX12_wordHere 21 = .ok (.iconst 4, 1) := by decide +kernel
theorem dX12_wordHere_22 : decode cX12_wordHere 22 = .ok (.goto 4, 3) := by decide +kernel
theorem dX12_wordHere_25 : decode cX12_wordHere 25 = .ok (.iconst 5, 1) := by decide +kernel
theorem dX12_wordHere_26 : decode cX12_wordHere 26 = .ok (.istore_n 2, 1) := by decide +kernel
theorem dX12_wordHere_27 : decode cX12_wordHere 27 = .ok (.aload_n 0, 1) := by decide +kernel
theorem dX12_wordHere_28 : decode cX12_wordHere 28 = .ok (.getfield 109, 3) := by decide +kernel
theorem dX12_wordHere_31 : decode cX12_wordHere 31 = .ok (.aload_n 0, 1) := by decide +kernel
theorem dX12_wordHere_32 : decode cX12_wordHere 32 = .ok (.getfield 112, 3) := by decide +kernel
theorem dX12_wordHere_35 : decode cX12_wordHere 35 = .ok (.isub, 1) := by decide +kernel
theorem dX12_wordHere_36 : decode cX12_wordHere 36 = .ok (.iload_n 2, 1) := by decide +kernel
theorem dX12_wordHere_37 : decode cX12_wordHere 37 = .ok (.if_icmp .ne 7, 3) := by decide +kernel
theorem dX12_wordHere_40 : decode cX12_wordHere 40 = .ok (.iconst 1, 1) := by decide +kernel
theorem dX12_wordHere_41 : decode cX12_wordHere 41 = .ok (.goto 4, 3) := by decide +kernel
theorem dX12_wordHere_44 : decode cX12_wordHere 44 = .ok (.iconst 0, 1) := by decide +kernel
theorem dX12_wordHere_45 : decode cX12_wordHere 45 = .ok (.istore_n 3, 1) := by decide +kernel
theorem dX12_wordHere_46 : decode cX12_wordHere 46 = .ok (.iconst 0, 1) := by decide +kernel
theorem dX12_wordHere_47 : decode cX12_wordHere 47 = .ok (.istore 4, 2) := by decide +kernel
theorem dX12_wordHere_49 : decode cX12_wordHere 49 = .ok (.iload 4, 2) := by decide +kernel
theorem dX12_wordHere_51 : decode cX12_wordHere 51 = .ok (.iload_n 2, 1) := by decide +kernel
theorem dX12_wordHere_52 : decode cX12_wordHere 52 = .ok (.if_icmp .ge 45, 3) := by decide +kernel
theorem dX12_wordHere_55 : decode cX12_wordHere 55 = .ok (.iload_n 3, 1) := by decide +kernel
theorem dX12_wordHere_56 : decode cX12_wordHere 56 = .ok (.ifCond .eq 41, 3) := by decide +kernel
theorem dX12_wordHere_59 : decode cX12_wordHere 59 = .ok (.aload_n 0, 1) := by decide +kernel
theorem dX12_wordHere_60 : decode cX12_wordHere 60 = .ok (.getfield 23, 3) := by decide +kernel
theorem dX12_wordHere_63 : decode cX12_wordHere 63 = .ok (.aload_n 0, 1) := by decide +kernel
theorem dX12_wordHere_64 : decode cX12_wordHere 64 = .ok (.getfield 112, 3) := by decide +kernel
theorem dX12_wordHere_67 : decode cX12_wordHere 67 = .ok (.iload 4, 2) := by decide +kernel
theorem dX12_wordHere_69 : decode cX12_wordHere 69 = .ok (.iadd, 1) := by decide +kernel
theorem dX12_wordHere_70 : decode cX12_wordHere 70 = .ok (.iaload, 1) := by decide +kernel
theorem dX12_wordHere_71 : decode cX12_wordHere 71 = .ok (.aload_n 0, 1) := by decide +kernel
theorem dX12_wordHere_72 : decode cX12_wordHere 72 = .ok (.getfield 44, 3) := by decide +kernel
theorem dX12_wordHere_75 : decode cX12_wordHere 75 = .ok (.iconst 5, 1) := by decide +kernel
theorem dX12_wordHere_76 : decode cX12_wordHere 76 = .ok (.iload_n 1, 1) := by decide +kernel
theorem dX12_wordHere_77 : decode cX12_wordHere 77 = .ok (.imul, 1) := by decide +kernel
theorem dX12_wordHere_78 : decode cX12_wordHere 78 = .ok (.iload 4, 2) := by decide +kernel
theorem dX12_wordHere_80 : decode cX12_wordHere 80 = .ok (.iadd, 1) := by decide +kernel
theorem dX12_wordHere_81 : decode cX12_wordHere 81 = .ok (.iaload, 1) := by decide +kernel
theorem dX12_wordHere_82 : decode cX12_wordHere 82 = .ok (.if_icmp .ne 7, 3) := by decide +kernel
theorem dX12_wordHere_85 : decode cX12_wordHere 85 = .ok (.iconst 1, 1) := by decide +kernel
theorem dX12_wordHere_86 : decode cX12_wordHere 86 = .ok (.goto 4, 3) := by decide +kernel
theorem dX12_wordHere_89 : decode cX12_wordHere 89 = .ok (.iconst 0, 1) := by decide +kernel
theorem dX12_wordHere_90 : decode cX12_wordHere 90 = .ok (.istore_n 3, 1) := by decide +kernel
theorem dX12_wordHere_91 : decode cX12_wordHere 91 = .ok (.iinc 4 1, 3) := by decide +kernel
theorem dX12_wordHere_94 : decode cX12_wordHere 94 = .ok (.goto (-45), 3) := by decide +kernel
theorem dX12_wordHere_97 : decode cX12_wordHere 97 = .ok (.iload_n 3, 1) := by decide +kernel
theorem dX12_wordHere_98 : decode cX12_wordHere 98 = .ok (.ifCond .eq 5, 3) := by decide +kernel
theorem dX12_wordHere_101 : decode cX12_wordHere 101 = .ok (.iload_n 1, 1) := by decide +kernel
theorem dX12_wordHere_102 : decode cX12_wordHere 102 = .ok (.ireturn, 1) := by decide +kernel
theorem dX12_wordHere_103 : decode cX12_wordHere 103 = .ok (.iinc 1 1, 3) := by decide +kernel
theorem dX12_wordHere_106 : decode cX12_wordHere 106 = .ok (.goto (-104), 3) := by decide +kernel
theorem dX12_wordHere_109 : decode cX12_wordHere 109 = .ok (.iconst (-1), 1) := by decide +kernel
theorem dX12_wordHere_110 : decode cX12_wordHere 110 = .ok (.ireturn, 1) := by decide +kernel
theorem dX12_number_0 : decode cX12_number 0 = .ok (.aload_n 0, 1) := by decide +kernel
theorem dX12_number_1 : decode cX12_number 1 = .ok (.getfield 112, 3) := by decide +kernel
theorem dX12_number_4 : decode cX12_number 4 = .ok (.aload_n 0, 1) := by decide +kernel
theorem dX12_number_5 : decode cX12_number 5 = .ok (.getfield 98, 3) := by decide +kernel
theorem dX12_number_8 : decode cX12_number 8 = .ok (.if_icmp .eq 31, 3) := by decide +kernel
theorem dX12_number_11 : decode cX12_number 11 = .ok (.aload_n 0, 1) := by decide +kernel
theorem dX12_number_12 : decode cX12_number 12 = .ok (.getfield 23, 3) := by decide +kernel
theorem dX12_number_15 : decode cX12_number 15 = .ok (.aload_n 0, 1) := by decide +kernel
theorem dX12_number_16 : decode cX12_number 16 = .ok (.getfield 112, 3) := by decide +kernel
theorem dX12_number_19 : decode cX12_number 19 = .ok (.iaload, 1) := by decide +kernel
theorem dX12_number_20 : decode cX12_number 20 = .ok (.invokestatic 119, 3) := by decide +kernel
theorem dX12_number_23 : decode cX12_number 23 = .ok (.ifCond .eq 16, 3) := by decide +kernel
theorem dX12_number_26 : decode cX12_number 26 = .ok (.aload_n 0, 1) := by decide +kernel
theorem dX12_number_27 : decode cX12_number 27 = .ok (.getfield 109, 3) := by decide +kernel
theorem dX12_number_30 : decode cX12_number 30 = .ok (.aload_n 0, 1) := by decide +kernel
theorem dX12_number_31 : decode cX12_number 31 = .ok (.getfield 112, 3) := by decide +kernel
theorem dX12_number_34 : decode cX12_number 34 = .ok (.isub, 1) := by decide +kernel
theorem dX12_number_35 : decode cX12_number 35 = .ok (.iconst 2, 1) := by decide +kernel
theorem dX12_number_36 : decode cX12_number 36 = .ok (.if_icmp .le 5, 3) := by decide +kernel
theorem dX12_number_39 : decode cX12_number 39 = .ok (.iconst 0, 1) := by decide +kernel
theorem dX12_number_40 : decode cX12_number 40 = .ok (.ireturn, 1) := by decide +kernel
theorem dX12_number_41 : decode cX12_number 41 = .ok (.aload_n 0, 1) := by decide +kernel
theorem dX12_number_42 : decode cX12_number 42 = .ok (.getfield 23, 3) := by decide +kernel
theorem dX12_number_45 : decode cX12_number 45 = .ok (.aload_n 0, 1) := by decide +kernel
theorem dX12_number_46 : decode cX12_number 46 = .ok (.getfield 112, 3) := by decide +kernel
theorem dX12_number_49 : decode cX12_number 49 = .ok (.iaload, 1) := by decide +kernel
theorem dX12_number_50 : decode cX12_number 50 = .ok (.bipush 48, 2) := by decide +kernel
theorem dX12_number_52 : decode cX12_number 52 = .ok (.isub, 1) := by decide +kernel
theorem dX12_number_53 : decode cX12_number 53 = .ok (.istore 4, 2) := by decide +kernel
theorem dX12_number_55 : decode cX12_number 55 = .ok (.aload_n 0, 1) := by decide +kernel
theorem dX12_number_56 : decode cX12_number 56 = .ok (.getfield 109, 3) := by decide +kernel
theorem dX12_number_59 : decode cX12_number 59 = .ok (.aload_n 0, 1) := by decide +kernel
theorem dX12_number_60 : decode cX12_number 60 = .ok (.getfield 112, 3) := by decide +kernel
theorem dX12_number_63 : decode cX12_number 63 = .ok (.isub, 1) := by decide +kernel
theorem dX12_number_64 : decode cX12_number 64 = .ok (.iconst 2, 1) := by decide +kernel
theorem dX12_number_65 : decode cX12_number 65 = .ok (.if_icmp .ne 26, 3) := by decide +kernel
theorem dX12_number_68 : decode cX12_number 68 = .ok (.bipush 10, 2) := by decide +kernel
theorem dX12_number_70 : decode cX12_number 70 = .ok (.iload 4, 2) := by decide +kernel
theorem dX12_number_72 : decode cX12_number 72 = .ok (.imul, 1) := by decide +kernel
theorem dX12_number_73 : decode cX12_number 73 = .ok (.aload_n 0, 1) := by decide +kernel
theorem dX12_number_74 : decode cX12_number 74 = .ok (.getfield 23, 3) := by decide +kernel
theorem dX12_number_77 : decode cX12_number 77 = .ok (.aload_n 0, 1) := by decide +kernel
theorem dX12_number_78 : decode cX12_number 78 = .ok (.getfield 112, 3) := by decide +kernel
theorem dX12_number_81 : decode cX12_number 81 = .ok (.iconst 1, 1) := by decide +kernel
theorem dX12_number_82 : decode cX12_number 82 = .ok (.iadd, 1) := by decide +kernel
theorem dX12_number_83 : decode cX12_number 83 = .ok (.iaload, 1) := by decide +kernel
theorem dX12_number_84 : decode cX12_number 84 = .ok (.iadd, 1) := by decide +kernel
theorem dX12_number_85 : decode cX12_number 85 = .ok (.bipush 48, 2) := by decide +kernel
theorem dX12_number_87 : decode cX12_number 87 = .ok (.isub, 1) := by decide +kernel
theorem dX12_number_88 : decode cX12_number 88 = .ok (.goto 5, 3) := by decide +kernel
theorem dX12_number_91 : decode cX12_number 91 = .ok (.iload 4, 2) := by decide +kernel
theorem dX12_number_93 : decode cX12_number 93 = .ok (.istore 4, 2) := by decide +kernel
theorem dX12_number_95 : decode cX12_number 95 = .ok (.iload 4, 2) := by decide +kernel
theorem dX12_number_97 : decode cX12_number 97 = .ok (.i2l, 1) := by decide +kernel
theorem dX12_number_98 : decode cX12_number 98 = .ok (.iload_n 2, 1) := by decide +kernel
theorem dX12_number_99 : decode cX12_number 99 = .ok (.i2l, 1) := by decide +kernel
theorem dX12_number_100 : decode cX12_number 100 = .ok (.iload_n 3, 1) := by decide +kernel
theorem dX12_number_101 : decode cX12_number 101 = .ok (.i2l, 1) := by decide +kernel
theorem dX12_number_102 : decode cX12_number 102 = .ok (.invokestatic 94, 3) := by decide +kernel
theorem dX12_number_105 : decode cX12_number 105 = .ok (.ifCond .eq 33, 3) := by decide +kernel
theorem dX12_number_108 : decode cX12_number 108 = .ok (.iload_n 1, 1) := by decide +kernel
theorem dX12_number_109 : decode cX12_number 109 = .ok (.iconst 1, 1) := by decide +kernel
theorem dX12_number_110 : decode cX12_number 110 = .ok (.if_icmp .ne 24, 3) := by decide +kernel
theorem dX12_number_113 : decode cX12_number 113 = .ok (.aload_n 0, 1) := by decide +kernel
theorem dX12_number_114 : decode cX12_number 114 = .ok (.getfield 41, 3) := by decide +kernel
theorem dX12_number_117 : decode cX12_number 117 = .ok (.iconst 2, 1) := by decide +kernel
theorem dX12_number_118 : decode cX12_number 118 = .ok (.iaload, 1) := by decide +kernel
theorem dX12_number_119 : decode cX12_number 119 = .ok (.iconst 1, 1) := by decide +kernel
theorem dX12_number_120 : decode cX12_number 120 = .ok (.if_icmp .ne 14, 3) := by decide +kernel
theorem dX12_number_123 : decode cX12_number 123 = .ok (.iload 4, 2) := by decide +kernel
theorem dX12_number_125 : decode cX12_number 125 = .ok (.aload_n 0, 1) := by decide +kernel
theorem dX12_number_126 : decode cX12_number 126 = .ok (.getfield 41, 3) := by decide +kernel
theorem dX12_number_129 : decode cX12_number 129 = .ok (.iconst 0, 1) := by decide +kernel
theorem dX12_number_130 : decode cX12_number 130 = .ok (.iaload, 1) := by decide +kernel
theorem dX12_number_131 : decode cX12_number 131 = .ok (.if_icmp .eq 7, 3) := by decide +kernel
theorem dX12_number_134 : decode cX12_number 134 = .ok (.iconst 1, 1) := by decide +kernel
theorem dX12_number_135 : decode cX12_number 135 = .ok (.goto 4, 3) := by decide +kernel
theorem dX12_number_138 : decode cX12_number 138 = .ok (.iconst 0, 1) := by decide +kernel
theorem dX12_number_139 : decode cX12_number 139 = .ok (.istore 5, 2) := by decide +kernel
theorem dX12_number_141 : decode cX12_number 141 = .ok (.iload 5, 2) := by decide +kernel
theorem dX12_number_143 : decode cX12_number 143 = .ok (.ifCond .eq 15, 3) := by decide +kernel
theorem dX12_number_146 : decode cX12_number 146 = .ok (.aload_n 0, 1) := by decide +kernel
theorem dX12_number_147 : decode cX12_number 147 = .ok (.getfield 41, 3) := by decide +kernel
theorem dX12_number_150 : decode cX12_number 150 = .ok (.iload_n 1, 1) := by decide +kernel
theorem dX12_number_151 : decode cX12_number 151 = .ok (.iload 4, 2) := by decide +kernel
theorem dX12_number_153 : decode cX12_number 153 = .ok (.iastore, 1) := by decide +kernel
theorem dX12_number_154 : decode cX12_number 154 = .ok (.aload_n 0, 1) := by decide +kernel
theorem dX12_number_155 : decode cX12_number 155 = .ok (.invokevirtual 122, 3) := by decide +kernel
theorem dX12_number_158 : decode cX12_number 158 = .ok (.iload 5, 2) := by decide +kernel
theorem dX12_number_160 : decode cX12_number 160 = .ok (.ireturn, 1) := by decide +kernel
theorem dX12_isOnLine_0 : decode cX12_isOnLine 0 = .ok (.iload_n 0, 1) := by decide +kernel
theorem dX12_isOnLine_1 : decode cX12_isOnLine 1 = .ok (.iconst 2, 1) := by decide +kernel
theorem dX12_isOnLine_2 : decode cX12_isOnLine 2 = .ok (.if_icmp .ge 7, 3) := by decide +kernel
theorem dX12_isOnLine_5 : decode cX12_isOnLine 5 = .ok (.iconst 1, 1) := by decide +kernel
theorem dX12_isOnLine_6 : decode cX12_isOnLine 6 = .ok (.goto 4, 3) := by decide +kernel
theorem dX12_isOnLine_9 : decode cX12_isOnLine 9 = .ok (.iconst 0, 1) := by decide +kernel
theorem dX12_isOnLine_10 : decode cX12_isOnLine 10 = .ok (.ireturn, 1) := by decide +kernel
theorem dX12_readsRest_0 : decode cX12_readsRest 0 = .ok (.aload_n 0, 1) := by decide +kernel
theorem dX12_readsRest_1 : decode cX12_readsRest 1 = .ok (.getfield 41, 3) := by decide +kernel
theorem dX12_readsRest_4 : decode cX12_readsRest 4 = .ok (.iconst 2, 1) := by decide +kernel
theorem dX12_readsRest_5 : decode cX12_readsRest 5 = .ok (.iload_n 1, 1) := by decide +kernel
theorem dX12_readsRest_6 : decode cX12_readsRest 6 = .ok (.bipush 7, 2) := by decide +kernel
theorem dX12_readsRest_8 : decode cX12_readsRest 8 = .ok (.if_icmp .ne 7, 3) := by decide +kernel
theorem dX12_readsRest_11 : decode cX12_readsRest 11 = .ok (.iconst 1, 1) := by decide +kernel
theorem dX12_readsRest_12 : decode cX12_readsRest 12 = .ok (.goto 4, 3) := by decide +kernel
theorem dX12_readsRest_15 : decode cX12_readsRest 15 = .ok (.iconst 0, 1) := by decide +kernel
theorem dX12_readsRest_16 : decode cX12_readsRest 16 = .ok (.iastore, 1) := by decide +kernel
theorem dX12_readsRest_17 : decode cX12_readsRest 17 = .ok (.iload_n 1, 1) := by decide +kernel
theorem dX12_readsRest_18 : decode cX12_readsRest 18 = .ok (.tableswitch 132 5 7 #[71, 26, 35], 26) := by decide +kernel
theorem dX12_readsRest_44 : decode cX12_readsRest 44 = .ok (.aload_n 0, 1) := by decide +kernel
theorem dX12_readsRest_45 : decode cX12_readsRest 45 = .ok (.iconst 0, 1) := by decide +kernel
theorem dX12_readsRest_46 : decode cX12_readsRest 46 = .ok (.iconst 2, 1) := by decide +kernel
theorem dX12_readsRest_47 : decode cX12_readsRest 47 = .ok (.bipush 8, 2) := by decide +kernel
theorem dX12_readsRest_49 : decode cX12_readsRest 49 = .ok (.invokevirtual 125, 3) := by decide +kernel
theorem dX12_readsRest_52 : decode cX12_readsRest 52 = .ok (.ireturn, 1) := by decide +kernel
theorem dX12_readsRest_53 : decode cX12_readsRest 53 = .ok (.aload_n 0, 1) := by decide +kernel
theorem dX12_readsRest_54 : decode cX12_readsRest 54 = .ok (.iconst 0, 1) := by decide +kernel
theorem dX12_readsRest_55 : decode cX12_readsRest 55 = .ok (.iconst 0, 1) := by decide +kernel
theorem dX12_readsRest_56 : decode cX12_readsRest 56 = .ok (.aload_n 0, 1) := by decide +kernel
theorem dX12_readsRest_57 : decode cX12_readsRest 57 = .ok (.getfield 129, 3) := by decide +kernel
theorem dX12_readsRest_60 : decode cX12_readsRest 60 = .ok (.iconst 1, 1) := by decide +kernel
theorem dX12_readsRest_61 : decode cX12_readsRest 61 = .ok (.isub, 1) := by decide +kernel
theorem dX12_readsRest_62 : decode cX12_readsRest 62 = .ok (.invokevirtual 125, 3) := by decide +kernel
theorem dX12_readsRest_65 : decode cX12_readsRest 65 = .ok (.ifCond .eq 22, 3) := by decide +kernel
theorem dX12_readsRest_68 : decode cX12_readsRest 68 = .ok (.aload_n 0, 1) := by decide +kernel
theorem dX12_readsRest_69 : decode cX12_readsRest 69 = .ok (.iconst 1, 1) := by decide +kernel
theorem dX12_readsRest_70 : decode cX12_readsRest 70 = .ok (.iconst 0, 1) := by decide +kernel
theorem dX12_readsRest_71 : decode cX12_readsRest 71 = .ok (.aload_n 0, 1) := by decide +kernel
theorem dX12_readsRest_72 : decode cX12_readsRest 72 = .ok (.getfield 129, 3) := by decide +kernel
theorem dX12_readsRest_75 : decode cX12_readsRest 75 = .ok (.iconst 1, 1) := by decide +kernel
theorem dX12_readsRest_76 : decode cX12_readsRest 76 = .ok (.isub, 1) := by decide +kernel
theorem dX12_readsRest_77 : decode cX12_readsRest 77 = .ok (.invokevirtual 125, 3) := by decide +kernel
theorem dX12_readsRest_80 : decode cX12_readsRest 80 = .ok (.ifCond .eq 7, 3) := by decide +kernel
theorem dX12_readsRest_83 : decode cX12_readsRest 83 = .ok (.iconst 1, 1) := by decide +kernel
theorem dX12_readsRest_84 : decode cX12_readsRest 84 = .ok (.goto 4, 3) := by decide +kernel
theorem dX12_readsRest_87 : decode cX12_readsRest 87 = .ok (.iconst 0, 1) := by decide +kernel
theorem dX12_readsRest_88 : decode cX12_readsRest 88 = .ok (.ireturn, 1) := by decide +kernel
theorem dX12_readsRest_89 : decode cX12_readsRest 89 = .ok (.aload_n 0, 1) := by decide +kernel
theorem dX12_readsRest_90 : decode cX12_readsRest 90 = .ok (.iconst 0, 1) := by decide +kernel
theorem dX12_readsRest_91 : decode cX12_readsRest 91 = .ok (.iconst 0, 1) := by decide +kernel
theorem dX12_readsRest_92 : decode cX12_readsRest 92 = .ok (.iconst 4, 1) := by decide +kernel
theorem dX12_readsRest_93 : decode cX12_readsRest 93 = .ok (.invokevirtual 125, 3) := by decide +kernel
theorem dX12_readsRest_96 : decode cX12_readsRest 96 = .ok (.ifCond .eq 52, 3) := by decide +kernel
theorem dX12_readsRest_99 : decode cX12_readsRest 99 = .ok (.aload_n 0, 1) := by decide +kernel
theorem dX12_readsRest_100 : decode cX12_readsRest 100 = .ok (.iconst 1, 1) := by decide +kernel
theorem dX12_readsRest_101 : decode cX12_readsRest 101 = .ok (.iconst 0, 1) := by decide +kernel
theorem dX12_readsRest_102 : decode cX12_readsRest 102 = .ok (.aload_n 0, 1) := by decide +kernel
theorem dX12_readsRest_103 : decode cX12_readsRest 103 = .ok (.getfield 41, 3) := by decide +kernel
theorem dX12_readsRest_106 : decode cX12_readsRest 106 = .ok (.iconst 0, 1) := by decide +kernel
theorem dX12_readsRest_107 : decode cX12_readsRest 107 = .ok (.iaload, 1) := by decide +kernel
theorem dX12_readsRest_108 : decode cX12_readsRest 108 = .ok (.invokestatic 132, 3) := by decide +kernel
theorem dX12_readsRest_111 : decode cX12_readsRest 111 = .ok (.ifCond .eq 10, 3) := by decide +kernel
theorem dX12_readsRest_114 : decode cX12_readsRest 114 = .ok (.aload_n 0, 1) := by decide +kernel
theorem dX12_readsRest_115 : decode cX12_readsRest 115 = .ok (.getfield 135, 3) := by decide +kernel
theorem dX12_readsRest_118 : decode cX12_readsRest 118 = .ok (.goto 7, 3) := by decide +kernel
theorem dX12_readsRest_121 : decode cX12_readsRest 121 = .ok (.aload_n 0, 1) := by decide +kernel
theorem dX12_readsRest_122 : decode cX12_readsRest 122 = .ok (.getfield 129, 3) := by decide +kernel
theorem dX12_readsRest_125 : decode cX12_readsRest 125 = .ok (.iconst 1, 1) := by decide +kernel
theorem dX12_readsRest_126 : decode cX12_readsRest 126 = .ok (.isub, 1) := by decide +kernel
theorem dX12_readsRest_127 : decode cX12_readsRest 127 = .ok (.invokevirtual 125, 3) := by decide +kernel
theorem dX12_readsRest_130 : decode cX12_readsRest 130 = .ok (.ifCond .eq 18, 3) := by decide +kernel
theorem dX12_readsRest_133 : decode cX12_readsRest 133 = .ok (.aload_n 0, 1) := by decide +kernel
theorem dX12_readsRest_134 : decode cX12_readsRest 134 = .ok (.iconst 2, 1) := by decide +kernel
theorem dX12_readsRest_135 : decode cX12_readsRest 135 = .ok (.iconst 1, 1) := by decide +kernel
theorem dX12_readsRest_136 : decode cX12_readsRest 136 = .ok (.bipush 9, 2) := by decide +kernel
theorem dX12_readsRest_138 : decode cX12_readsRest 138 = .ok (.invokevirtual 125, 3) := by decide +kernel
theorem dX12_readsRest_141 : decode cX12_readsRest 141 = .ok (.ifCond .eq 7, 3) := by decide +kernel
theorem dX12_readsRest_144 : decode cX12_readsRest 144 = .ok (.iconst 1, 1) := by decide +kernel
theorem dX12_readsRest_145 : decode cX12_readsRest 145 = .ok (.goto 4, 3) := by decide +kernel
theorem dX12_readsRest_148 : decode cX12_readsRest 148 = .ok (.iconst 0, 1) := by decide +kernel
theorem dX12_readsRest_149 : decode cX12_readsRest 149 = .ok (.ireturn, 1) := by decide +kernel
theorem dX12_readsRest_150 : decode cX12_readsRest 150 = .ok (.aload_n 0, 1) := by decide +kernel
theorem dX12_readsRest_151 : decode cX12_readsRest 151 = .ok (.iconst 0, 1) := by decide +kernel
theorem dX12_readsRest_152 : decode cX12_readsRest 152 = .ok (.iconst 0, 1) := by decide +kernel
theorem dX12_readsRest_153 : decode cX12_readsRest 153 = .ok (.iload_n 1, 1) := by decide +kernel
theorem dX12_readsRest_154 : decode cX12_readsRest 154 = .ok (.invokestatic 132, 3) := by decide +kernel
theorem dX12_readsRest_157 : decode cX12_readsRest 157 = .ok (.ifCond .eq 10, 3) := by decide +kernel
theorem dX12_readsRest_160 : decode cX12_readsRest 160 = .ok (.aload_n 0, 1) := by decide +kernel
theorem dX12_readsRest_161 : decode cX12_readsRest 161 = .ok (.getfield 135, 3) := by decide +kernel
theorem dX12_readsRest_164 : decode cX12_readsRest 164 = .ok (.goto 7, 3) := by decide +kernel
theorem dX12_readsRest_167 : decode cX12_readsRest 167 = .ok (.aload_n 0, 1) := by decide +kernel
theorem dX12_readsRest_168 : decode cX12_readsRest 168 = .ok (.getfield 129, 3) := by decide +kernel
theorem dX12_readsRest_171 : decode cX12_readsRest 171 = .ok (.iconst 1, 1) := by decide +kernel
theorem dX12_readsRest_172 : decode cX12_readsRest 172 = .ok (.isub, 1) := by decide +kernel
theorem dX12_readsRest_173 : decode cX12_readsRest 173 = .ok (.invokevirtual 125, 3) := by decide +kernel
theorem dX12_readsRest_176 : decode cX12_readsRest 176 = .ok (.ireturn, 1) := by decide +kernel
theorem kfX12_7 : ux_FL RX12 7 12 0 := ⟨RX12, TX12, 31, rfl, lay_X12, by decide, tw_1056⟩
theorem kpX12_82 : ux_FP RX12 82 12 1 .int := ⟨RX12, TX12, 31, rfl, lay_X12, by decide, tw_1057, tyX12, tyX12_ok, nmX12, rfl, by decide +kernel⟩
theorem kpX12_86 : ux_FP RX12 86 12 2 .int := ⟨RX12, TX12, 31, rfl, lay_X12, by decide, tw_1058, tyX12, tyX12_ok, nmX12, rfl, by decide +kernel⟩
theorem kpX12_89 : ux_FP RX12 89 12 4 .int := ⟨RX12, TX12, 31, rfl, lay_X12, by decide, tw_1060, tyX12, tyX12_ok, nmX12, rfl, by decide +kernel⟩
theorem ksX12_94 : ux_LS RX12 94 yX12_in cX12_in 6 (some .boolean) 3 := ⟨tw_1155, tw_1156, tw_87, tw_1157, ⟨by decide, by decide, by decide +kernel⟩⟩
theorem kfX12_98 : ux_FL RX12 98 12 9 := ⟨RX12, TX12, 31, rfl, lay_X12, by decide, tw_1065⟩
theorem kfX12_23 : ux_FL RX12 23 12 8 := ⟨RX12, TX12, 31, rfl, lay_X12, by decide, tw_1064⟩
theorem kpX12_98 : ux_FP RX12 98 12 9 .int := ⟨RX12, TX12, 31, rfl, lay_X12, by decide, tw_1065, tyX12, tyX12_ok, nmX12, rfl, by decide +kernel⟩
theorem kfX12_109 : ux_FL RX12 109 12 17 := ⟨RX12, TX12, 31, rfl, lay_X12, by decide, tw_1073⟩
theorem kpX12_112 : ux_FP RX12 112 12 16 .int := ⟨RX12, TX12, 31, rfl, lay_X12, by decide, tw_1072, tyX12, tyX12_ok, nmX12, rfl, by decide +kernel⟩
theorem kfX12_112 : ux_FL RX12 112 12 16 := ⟨RX12, TX12, 31, rfl, lay_X12, by decide, tw_1072⟩
theorem kpX12_109 : ux_FP RX12 109 12 17 .int := ⟨RX12, TX12, 31, rfl, lay_X12, by decide, tw_1073, tyX12, tyX12_ok, nmX12, rfl, by decide +kernel⟩
theorem ksX12_119 : ux_LS RX12 119 yX12_isDigit cX12_isDigit 1 (some .boolean) 1 := ⟨tw_1179, tw_1180, tw_87, tw_1181, ⟨by decide, by decide, by decide +kernel⟩⟩
theorem ksX12_115 : ux_LS RX12 115 yX12_isLetter cX12_isLetter 1 (some .boolean) 1 := ⟨tw_1174, tw_1175, tw_87, tw_1176, ⟨by decide, by decide, by decide +kernel⟩⟩
theorem kfX12_44 : ux_FL RX12 44 12 25 := ⟨RX12, TX12, 31, rfl, lay_X12, by decide, tw_1081⟩
theorem kfX12_41 : ux_FL RX12 41 12 24 := ⟨RX12, TX12, 31, rfl, lay_X12, by decide, tw_1080⟩
theorem kvX12_122 : ux_LV RX12 122 12 yX12_nextToken cX12_nextToken 1 none 0 := ⟨⟨TX12, 31, rfl⟩, tw_1170, tw_1172, tw_33, tw_87, tw_1173, ⟨by decide, by decide, by decide +kernel⟩⟩
theorem kvX12_125 : ux_LV RX12 125 12 yX12_number cX12_number 6 (some .boolean) 3 := ⟨⟨TX12, 31, rfl⟩, tw_1196, tw_1198, tw_37, tw_87, tw_1199, ⟨by decide, by decide, by decide +kernel⟩⟩
theorem ksX12_132 : ux_LS RX12 132 yX12_isOnLine cX12_isOnLine 1 (some .boolean) 1 := ⟨tw_1200, tw_1201, tw_87, tw_1202, ⟨by decide, by decide, by decide +kernel⟩⟩
theorem kfX12_129 : ux_FL RX12 129 12 18 := ⟨RX12, TX12, 31, rfl, lay_X12, by decide, tw_1074⟩
theorem kfX12_135 : ux_FL RX12 135 12 19 := ⟨RX12, TX12, 31, rfl, lay_X12, by decide, tw_1075⟩
def fX12_in_18 (s0 : Int32) : Option (Int32) :=
  if ux_b s0 then (some s0) else none
set_option maxHeartbeats 4000000 in
set_option maxRecDepth 20000 in
theorem wX12_in_18 {X : ux_X} (C : ux_C X cX12_in RX12 6 (some .boolean) 0 0 shM) {s0 : Int32}  {N : ux_N} {L : ux_L} {o : Int32} (hq : ux_Qi X o N L) (h : fX12_in_18 s0 = some o) : ux_Wt X 6 18 [] [.int s0] N L := by
  obtain ⟨hb1, h⟩ := ux_guard h
  cases h
  exact wt_zret C (ux_b_n hb1).1 hq dX12_in_18
def fX12_in_17  : Option (Int32) :=
  fX12_in_18 (0 : Int32)
set_option maxHeartbeats 4000000 in
set_option maxRecDepth 20000 in
theorem wX12_in_17 {X : ux_X} (C : ux_C X cX12_in RX12 6 (some .boolean) 0 0 shM)   {N : ux_N} {L : ux_L} {o : Int32} (hq : ux_Qi X o N L) (h : fX12_in_17  = some o) : ux_Wt X 6 17 [] [] N L := by
  refine wt_iconst 18 0 C dX12_in_17 rfl (by decide) ?_
  exact wX12_in_18 C hq h
def fX12_in (v0 : Int64) (v2 : Int64) (v4 : Int64) : Option (Int32) :=
  if (lg_cmp v0 v2) < 0 then (fX12_in_17) else (if 0 < (lg_cmp v0 v4) then (fX12_in_17) else (fX12_in_18 (1 : Int32)))
set_option maxHeartbeats 4000000 in
set_option maxRecDepth 20000 in
theorem wX12_in {X : ux_X} (C : ux_C X cX12_in RX12 6 (some .boolean) 0 0 shM) {v0 : Int64} {v2 : Int64} {v4 : Int64}  {N : ux_N} {L : ux_L} {o : Int32} (hq : ux_Qi X o N L) (h : fX12_in v0 v2 v4 = some o) : ux_Wt X 6 0 [(0, .long v0), (2, .long v2), (4, .long v4)] [] N L := by
  refine wt_lload_n 1 0 C dX12_in_0 rfl rfl ?_
  refine wt_lload_n 2 1 C dX12_in_1 rfl rfl ?_
  refine wt_lcmp 3 C dX12_in_2 rfl ?_
  refine wt_if_lt 6 17 C dX12_in_3 rfl (by decide) (fun q1 => ?_) (fun q1 => ?_)
  · have h := (if_pos q1).symm.trans h
    refine wt_sub [] rfl ?_
    exact wX12_in_17 C hq h
  · have h := (if_neg q1).symm.trans h
    refine wt_lload_n 7 0 C dX12_in_6 rfl rfl ?_
    refine wt_lload 9 2 C dX12_in_7 rfl rfl ?_
    refine wt_lcmp 10 C dX12_in_9 rfl ?_
    refine wt_if_gt 13 17 C dX12_in_10 rfl (by decide) (fun q2 => ?_) (fun q2 => ?_)
    · have h := (if_pos q2).symm.trans h
      refine wt_sub [] rfl ?_
      exact wX12_in_17 C hq h
    · have h := (if_neg q2).symm.trans h
      refine wt_iconst 14 1 C dX12_in_13 rfl (by decide) ?_
      refine wt_goto 18 C dX12_in_14 (by decide) ?_
      refine wt_sub [] rfl ?_
      exact wX12_in_18 C hq h
theorem mX12_in {l : Launch} {G : ux_G} (hok : ux_ok G shM) {v0 : Int64} {v2 : Int64} {v4 : Int64}  {N : ux_N} {L : ux_L} {o : Int32} (h : fX12_in v0 v2 v4 = some o) : ux_Mi l G yX12_in cX12_in 6 (some .boolean) 0 0 [.long v0, .long v2, .long v4] N L o N L :=
  ux_ofi shM hok (by decide +kernel) (Nat.le_of_ble_eq_true rfl) (fun X hG hl C hq => by subst hG; subst hl; exact wX12_in C  hq h)
def fX12_has_14 (s0 : Int32) : Option (Int32) :=
  if ux_b s0 then (some s0) else none
set_option maxHeartbeats 4000000 in
set_option maxRecDepth 20000 in
theorem wX12_has_14 {X : ux_X} (C : ux_C X cX12_has RX12 2 (some .boolean) 0 0 shM) {s0 : Int32}  {N : ux_N} {L : ux_L} {o : Int32} (hq : ux_Qi X o N L) (h : fX12_has_14 s0 = some o) : ux_Wt X 2 14 [] [.int s0] N L := by
  obtain ⟨hb1, h⟩ := ux_guard h
  cases h
  exact wt_zret C (ux_b_n hb1).1 hq dX12_has_14
def fX12_has (v0 : Int32) (v1 : Int32) : Option (Int32) :=
  if ((v0 >>> (v1 &&& 31)) &&& (1 : Int32)) = (1 : Int32) then (fX12_has_14 (1 : Int32)) else (fX12_has_14 (0 : Int32))
set_option maxHeartbeats 4000000 in
set_option maxRecDepth 20000 in
theorem wX12_has {X : ux_X} (C : ux_C X cX12_has RX12 2 (some .boolean) 0 0 shM) {v0 : Int32} {v1 : Int32}  {N : ux_N} {L : ux_L} {o : Int32} (hq : ux_Qi X o N L) (h : fX12_has v0 v1 = some o) : ux_Wt X 2 0 [(0, .int v0), (1, .int v1)] [] N L := by
  refine wt_iload_n 1 0 C dX12_has_0 rfl rfl ?_
  refine wt_iload_n 2 1 C dX12_has_1 rfl rfl ?_
  refine wt_ishr 3 C dX12_has_2 rfl ?_
  refine wt_iconst 4 1 C dX12_has_3 rfl (by decide) ?_
  refine wt_iand 5 C dX12_has_4 rfl ?_
  refine wt_iconst 6 1 C dX12_has_5 rfl (by decide) ?_
  refine wt_icmp_ne 9 13 C dX12_has_6 rfl (by decide) (fun q1 => ?_) (fun q1 => ?_)
  · have h := (if_neg q1).symm.trans h
    refine wt_iconst 14 0 C dX12_has_13 rfl (by decide) ?_
    refine wt_sub [] rfl ?_
    exact wX12_has_14 C hq h
  · have h := (if_pos q1).symm.trans h
    refine wt_iconst 10 1 C dX12_has_9 rfl (by decide) ?_
    refine wt_goto 14 C dX12_has_10 (by decide) ?_
    refine wt_sub [] rfl ?_
    exact wX12_has_14 C hq h
theorem mX12_has {l : Launch} {G : ux_G} (hok : ux_ok G shM) {v0 : Int32} {v1 : Int32}  {N : ux_N} {L : ux_L} {o : Int32} (h : fX12_has v0 v1 = some o) : ux_Mi l G yX12_has cX12_has 2 (some .boolean) 0 0 [.int v0, .int v1] N L o N L :=
  ux_ofi shM hok (by decide +kernel) (Nat.le_of_ble_eq_true rfl) (fun X hG hl C hq => by subst hG; subst hl; exact wX12_has C  hq h)
def fX12_ones_4b (v0 : Int32) (v1 : Int32) (v2 : Int32) : Option ((Int32 × Int32) ⊕ (Int32)) :=
  if (10 : Int32) ≤ v2 then (some (.inr (v1))) else (some (.inl ((v1 + ((v0 >>> (v2 &&& 31)) &&& (1 : Int32))), (v2 + 1))))
set_option maxHeartbeats 4000000 in
set_option maxRecDepth 20000 in
theorem wX12_ones_4b {X : ux_X} (C : ux_C X cX12_ones RX12 3 (some .int) 0 0 shM) {v0 : Int32} {v1 : Int32} {v2 : Int32}  {N : ux_N} {L : ux_L} {o : (Int32 × Int32) ⊕ (Int32)} (hin : ∀ s : Int32 × Int32, o = .inl s → ux_Wt X 3 4 [(0, .int v0), (1, .int s.1), (2, .int s.2)] [] N L) (hex0 : ∀ e : Int32, o = .inr (e) → ux_Wt X 3 24 [(1, .int e)] [] N L) (h : fX12_ones_4b v0 v1 v2 = some o) : ux_Wt X 3 4 [(0, .int v0), (1, .int v1), (2, .int v2)] [] N L := by
  refine wt_iload_n 5 2 C dX12_ones_4 rfl rfl ?_
  refine wt_bipush 7 10 C dX12_ones_5 rfl (by decide) ?_
  refine wt_icmp_ge 10 24 C dX12_ones_7 rfl (by decide) (fun q1 => ?_) (fun q1 => ?_)
  · have h := (if_pos q1).symm.trans h
    refine wt_sub [1] rfl ?_
    exact hex0 _ (Option.some.inj h).symm
  · have h := (if_neg q1).symm.trans h
    refine wt_iload_n 11 1 C dX12_ones_10 rfl rfl ?_
    refine wt_iload_n 12 0 C dX12_ones_11 rfl rfl ?_
    refine wt_iload_n 13 2 C dX12_ones_12 rfl rfl ?_
    refine wt_ishr 14 C dX12_ones_13 rfl ?_
    refine wt_iconst 15 1 C dX12_ones_14 rfl (by decide) ?_
    refine wt_iand 16 C dX12_ones_15 rfl ?_
    refine wt_iadd 17 C dX12_ones_16 rfl ?_
    refine wt_istore_n 18 [(1, .int (v1 + ((v0 >>> (v2 &&& 31)) &&& (1 : Int32)))), (0, .int v0), (2, .int v2)] C dX12_ones_17 rfl (by decide) rfl ?_
    refine wt_iinc 21 2 [(2, .int (v2 + 1)), (1, .int (v1 + ((v0 >>> (v2 &&& 31)) &&& (1 : Int32)))), (0, .int v0)] (v2 + 1) C dX12_ones_18 rfl rfl (by rfl) (by decide) rfl ?_
    refine wt_goto 4 C dX12_ones_21 (by decide) ?_
    refine wt_sub [2, 1, 0] rfl ?_
    exact hin _ (Option.some.inj h).symm
def fX12_ones (v0 : Int32) : Option (Int32) :=
  (ux_lp (fun s : Int32 × Int32 => fX12_ones_4b v0 s.1 s.2) ux_fu ((0 : Int32), (0 : Int32))).bind (fun e8 => some e8)
set_option maxHeartbeats 4000000 in
set_option maxRecDepth 20000 in
theorem wX12_ones {X : ux_X} (C : ux_C X cX12_ones RX12 3 (some .int) 0 0 shM) {v0 : Int32}  {N : ux_N} {L : ux_L} {o : Int32} (hq : ux_Qi X o N L) (h : fX12_ones v0 = some o) : ux_Wt X 3 0 [(0, .int v0)] [] N L := by
  refine wt_iconst 1 0 C dX12_ones_0 rfl (by decide) ?_
  refine wt_istore_n 2 [(1, .int (0 : Int32)), (0, .int v0)] C dX12_ones_1 rfl (by decide) rfl ?_
  refine wt_iconst 3 0 C dX12_ones_2 rfl (by decide) ?_
  refine wt_istore_n 4 [(2, .int (0 : Int32)), (1, .int (0 : Int32)), (0, .int v0)] C dX12_ones_3 rfl (by decide) rfl ?_
  obtain ⟨e1, hl2, h⟩ := Option.bind_eq_some_iff.mp h
  refine wt_sub [2, 1, 0] rfl ?_
  refine ux_loop (fun s : Int32 × Int32 => fX12_ones_4b v0 s.1 s.2) (fun s : Int32 × Int32 => ux_Wt X 3 4 [(0, .int v0), (1, .int s.1), (2, .int s.2)] [] N L) (e := e1) ?_ hl2
  intro s3 o4 hb5 hi6 hx7
  refine wX12_ones_4b C hi6 (fun x0 he => ?_) hb5
  · obtain ⟨e8, rfl⟩ : ∃ z, z = x0 := ⟨_, rfl⟩
    have h9 := hx7 _ he
    subst h9
    refine wt_iload_n 25 0 C dX12_ones_24 rfl rfl ?_
    cases h
    exact wt_iret C hq dX12_ones_25
theorem mX12_ones {l : Launch} {G : ux_G} (hok : ux_ok G shM) {v0 : Int32}  {N : ux_N} {L : ux_L} {o : Int32} (h : fX12_ones v0 = some o) : ux_Mi l G yX12_ones cX12_ones 3 (some .int) 0 0 [.int v0] N L o N L :=
  ux_ofi shM hok (by decide +kernel) (Nat.le_of_ble_eq_true rfl) (fun X hG hl C hq => by subst hG; subst hl; exact wX12_ones C  hq h)
def fX12_copyRow_2b (v1 : Int32) (v2 : Int32) (v3 : Int32) (N : ux_N) : Option ((Int32 × ux_N) ⊕ (ux_N)) :=
  if (21 : Int32) ≤ v3 then (some (.inr (N))) else (if ux_in (v1 + v3) 252 then (if ux_in (v2 + v3) 252 then (some (.inl ((v3 + 1), (ux_u N 1 ((v2 + v3).toNatClampNeg) (N 1 ((v1 + v3).toNatClampNeg)))))) else none) else none)
set_option maxHeartbeats 4000000 in
set_option maxRecDepth 20000 in
theorem wX12_copyRow_2b {X : ux_X} (C : ux_C X cX12_copyRow RX12 4 none 0 0 shM) {v1 : Int32} {v2 : Int32} {v3 : Int32}  {N : ux_N} {L : ux_L} {o : (Int32 × ux_N) ⊕ (ux_N)} (hin : ∀ s : Int32 × ux_N, o = .inl s → ux_Wt X 4 2 [(0, .ref (ux_ad X 0)), (1, .int v1), (2, .int v2), (3, .int s.1)] [] s.2 L) (hex0 : ∀ e : ux_N, o = .inr (e) → ux_Wt X 4 30 [] [] e L) (h : fX12_copyRow_2b v1 v2 v3 N = some o) : ux_Wt X 4 2 [(0, .ref (ux_ad X 0)), (1, .int v1), (2, .int v2), (3, .int v3)] [] N L := by
  refine wt_iload_n 3 3 C dX12_copyRow_2 rfl rfl ?_
  refine wt_bipush 5 21 C dX12_copyRow_3 rfl (by decide) ?_
  refine wt_icmp_ge 8 30 C dX12_copyRow_5 rfl (by decide) (fun q1 => ?_) (fun q1 => ?_)
  · have h := (if_pos q1).symm.trans h
    refine wt_sub [] rfl ?_
    exact hex0 _ (Option.some.inj h).symm
  · have h := (if_neg q1).symm.trans h
    refine wt_aload_n 9 0 C dX12_copyRow_8 rfl rfl ?_
    refine wt_getR 12 C kfX12_7 sm_0 rfl dX12_copyRow_9 rfl ?_
    refine wt_iload_n 13 2 C dX12_copyRow_12 rfl rfl ?_
    refine wt_iload_n 14 3 C dX12_copyRow_13 rfl rfl ?_
    refine wt_iadd 15 C dX12_copyRow_14 rfl ?_
    refine wt_aload_n 16 0 C dX12_copyRow_15 rfl rfl ?_
    refine wt_getR 19 C kfX12_7 sm_0 rfl dX12_copyRow_16 rfl ?_
    refine wt_iload_n 20 1 C dX12_copyRow_19 rfl rfl ?_
    refine wt_iload_n 21 3 C dX12_copyRow_20 rfl rfl ?_
    refine wt_iadd 22 C dX12_copyRow_21 rfl ?_
    obtain ⟨hi2, h⟩ := ux_guard h
    refine wt_iald 23 ((v1 + v3).toNatClampNeg) C sm_1 rfl hi2 dX12_copyRow_22 rfl ?_
    obtain ⟨hi3, h⟩ := ux_guard h
    refine wt_iast 24 ((v2 + v3).toNatClampNeg) C sm_1 rfl hi3 dX12_copyRow_23 rfl ?_
    refine wt_iinc 27 3 [(3, .int (v3 + 1)), (0, .ref (ux_ad X 0)), (1, .int v1), (2, .int v2)] (v3 + 1) C dX12_copyRow_24 rfl rfl (by rfl) (by decide) rfl ?_
    refine wt_goto 2 C dX12_copyRow_27 (by decide) ?_
    refine wt_sub [1, 2, 3, 0] rfl ?_
    exact hin _ (Option.some.inj h).symm
def fX12_copyRow (v1 : Int32) (v2 : Int32) (N : ux_N) : Option (ux_N) :=
  (ux_lp (fun s : Int32 × ux_N => fX12_copyRow_2b v1 v2 s.1 s.2) ux_fu ((0 : Int32), N)).bind (fun e8 => some e8)
set_option maxHeartbeats 4000000 in
set_option maxRecDepth 20000 in
theorem wX12_copyRow {X : ux_X} (C : ux_C X cX12_copyRow RX12 4 none 0 0 shM) {v1 : Int32} {v2 : Int32}  {N : ux_N} {L : ux_L} {o : ux_N} (hq : ux_Qv X o L) (h : fX12_copyRow v1 v2 N = some o) : ux_Wt X 4 0 [(0, .ref (ux_ad X 0)), (1, .int v1), (2, .int v2)] [] N L := by
  refine wt_iconst 1 0 C dX12_copyRow_0 rfl (by decide) ?_
  refine wt_istore_n 2 [(3, .int (0 : Int32)), (0, .ref (ux_ad X 0)), (1, .int v1), (2, .int v2)] C dX12_copyRow_1 rfl (by decide) rfl ?_
  obtain ⟨e1, hl2, h⟩ := Option.bind_eq_some_iff.mp h
  refine wt_sub [1, 2, 3, 0] rfl ?_
  refine ux_loop (fun s : Int32 × ux_N => fX12_copyRow_2b v1 v2 s.1 s.2) (fun s : Int32 × ux_N => ux_Wt X 4 2 [(0, .ref (ux_ad X 0)), (1, .int v1), (2, .int v2), (3, .int s.1)] [] s.2 L) (e := e1) ?_ hl2
  intro s3 o4 hb5 hi6 hx7
  refine wX12_copyRow_2b C hi6 (fun x0 he => ?_) hb5
  · obtain ⟨e8, rfl⟩ : ∃ z, z = x0 := ⟨_, rfl⟩
    have h9 := hx7 _ he
    subst h9
    cases h
    exact wt_vret C hq dX12_copyRow_30
theorem mX12_copyRow {l : Launch} {G : ux_G} (hok : ux_ok G shM) {v1 : Int32} {v2 : Int32}  {N : ux_N} {L : ux_L} {o : ux_N} (h : fX12_copyRow v1 v2 N = some o) : ux_Mv l G yX12_copyRow cX12_copyRow 4 0 0 [.ref (gad G 0), .int v1, .int v2] N L o L :=
  ux_ofv shM hok (by decide +kernel) (Nat.le_of_ble_eq_true rfl) (fun X hG hl C hq => by subst hG; subst hl; exact wX12_copyRow C  hq h)
def fX12_anew (v1 : Int32) (N : ux_N) : Option (ux_N) :=
  some (ux_u (ux_u (ux_u (ux_u (ux_u (ux_u N 0 1 v1) 0 2 (0 : Int32)) 0 4 (0 : Int32)) 1 0 (0 : Int32)) 1 1 (0 : Int32)) 1 2 (0 : Int32))
set_option maxHeartbeats 4000000 in
set_option maxRecDepth 20000 in
theorem wX12_anew {X : ux_X} (C : ux_C X cX12_anew RX12 2 none 0 0 shM) {v1 : Int32}  {N : ux_N} {L : ux_L} {o : ux_N} (hq : ux_Qv X o L) (h : fX12_anew v1 N = some o) : ux_Wt X 2 0 [(0, .ref (ux_ad X 0)), (1, .int v1)] [] N L := by
  refine wt_aload_n 1 0 C dX12_anew_0 rfl rfl ?_
  refine wt_iload_n 2 1 C dX12_anew_1 rfl rfl ?_
  refine wt_putI 5 C kpX12_82 sm_0 rfl rfl rfl dX12_anew_2 rfl ?_
  refine wt_aload_n 6 0 C dX12_anew_5 rfl rfl ?_
  refine wt_iconst 7 0 C dX12_anew_6 rfl (by decide) ?_
  refine wt_putI 10 C kpX12_86 sm_0 rfl rfl rfl dX12_anew_7 rfl ?_
  refine wt_aload_n 11 0 C dX12_anew_10 rfl rfl ?_
  refine wt_iconst 12 0 C dX12_anew_11 rfl (by decide) ?_
  refine wt_putI 15 C kpX12_89 sm_0 rfl rfl rfl dX12_anew_12 rfl ?_
  refine wt_aload_n 16 0 C dX12_anew_15 rfl rfl ?_
  refine wt_getR 19 C kfX12_7 sm_0 rfl dX12_anew_16 rfl ?_
  refine wt_iconst 20 0 C dX12_anew_19 rfl (by decide) ?_
  refine wt_iconst 21 0 C dX12_anew_20 rfl (by decide) ?_
  refine wt_iast 22 0 C sm_1 (by decide) (by decide) dX12_anew_21 rfl ?_
  refine wt_aload_n 23 0 C dX12_anew_22 rfl rfl ?_
  refine wt_getR 26 C kfX12_7 sm_0 rfl dX12_anew_23 rfl ?_
  refine wt_iconst 27 1 C dX12_anew_26 rfl (by decide) ?_
  refine wt_iconst 28 0 C dX12_anew_27 rfl (by decide) ?_
  refine wt_iast 29 1 C sm_1 (by decide) (by decide) dX12_anew_28 rfl ?_
  refine wt_aload_n 30 0 C dX12_anew_29 rfl rfl ?_
  refine wt_getR 33 C kfX12_7 sm_0 rfl dX12_anew_30 rfl ?_
  refine wt_iconst 34 2 C dX12_anew_33 rfl (by decide) ?_
  refine wt_iconst 35 0 C dX12_anew_34 rfl (by decide) ?_
  refine wt_iast 36 2 C sm_1 (by decide) (by decide) dX12_anew_35 rfl ?_
  cases h
  exact wt_vret C hq dX12_anew_36
theorem mX12_anew {l : Launch} {G : ux_G} (hok : ux_ok G shM) {v1 : Int32}  {N : ux_N} {L : ux_L} {o : ux_N} (h : fX12_anew v1 N = some o) : ux_Mv l G yX12_anew cX12_anew 2 0 0 [.ref (gad G 0), .int v1] N L o L :=
  ux_ofv shM hok (by decide +kernel) (Nat.le_of_ble_eq_true rfl) (fun X hG hl C hq => by subst hG; subst hl; exact wX12_anew C  hq h)
def fX12_write (v1 : Int32) (N : ux_N) : Option (Int32 × ux_N) :=
  (fX12_in (v1.toInt64) (0 : Int64) (255 : Int64)).bind (fun o1 => if o1 = 0 then (some ((-3 : Int32), N)) else (if (N 0 9) = (200 : Int32) then (some ((-5 : Int32), N)) else (if ux_in (N 0 9) 200 then (some (((ux_u (ux_u N 5 ((N 0 9).toNatClampNeg) v1) 0 9 (((ux_u N 5 ((N 0 9).toNatClampNeg) v1) 0 9) + (1 : Int32))) 0 9), (ux_u (ux_u N 5 ((N 0 9).toNatClampNeg) v1) 0 9 (((ux_u N 5 ((N 0 9).toNatClampNeg) v1) 0 9) + (1 : Int32))))) else none)))
set_option maxHeartbeats 4000000 in
set_option maxRecDepth 20000 in
theorem wX12_write {X : ux_X} (C : ux_C X cX12_write RX12 2 (some .int) 1 25 shM) {v1 : Int32}  {N : ux_N} {L : ux_L} {o : Int32 × ux_N} (hq : ux_Qi X o.1 o.2 L) (h : fX12_write v1 N = some o) : ux_Wt X 2 0 [(0, .ref (ux_ad X 0)), (1, .int v1)] [] N L := by
  refine wt_iload_n 1 1 C dX12_write_0 rfl rfl ?_
  refine wt_i2l 2 C dX12_write_1 rfl ?_
  refine wt_lconst 3 0 C dX12_write_2 rfl (by decide) ?_
  refine wt_ldc2 6 C tw_1154 dX12_write_3 rfl ?_
  obtain ⟨o1, hc2, h⟩ := Option.bind_eq_some_iff.mp h
  refine wt_callSi 9 [] C ksX12_94 (mX12_in (cx_ok C)  hc2) rfl rfl ⟨Nat.le_of_ble_eq_true rfl, Nat.le_of_ble_eq_true rfl⟩ (Nat.le_of_ble_eq_true rfl) dX12_write_6 rfl ?_
  refine wt_if_ne 12 15 C dX12_write_9 rfl (by decide) (fun q3 => ?_) (fun q3 => ?_)
  · have h := (if_neg q3).symm.trans h
    refine wt_aload_n 16 0 C dX12_write_15 rfl rfl ?_
    refine wt_getI 19 C kfX12_98 sm_0 rfl dX12_write_16 rfl ?_
    refine wt_sipush 22 200 C dX12_write_19 rfl (by decide) ?_
    refine wt_icmp_ne 25 28 C dX12_write_22 rfl (by decide) (fun q4 => ?_) (fun q4 => ?_)
    · have h := (if_neg q4).symm.trans h
      refine wt_aload_n 29 0 C dX12_write_28 rfl rfl ?_
      refine wt_getR 32 C kfX12_23 sm_0 rfl dX12_write_29 rfl ?_
      refine wt_aload_n 33 0 C dX12_write_32 rfl rfl ?_
      refine wt_getI 36 C kfX12_98 sm_0 rfl dX12_write_33 rfl ?_
      refine wt_iload_n 37 1 C dX12_write_36 rfl rfl ?_
      obtain ⟨hi5, h⟩ := ux_guard h
      refine wt_iast 38 ((N 0 9).toNatClampNeg) C sm_5 rfl hi5 dX12_write_37 rfl ?_
      refine wt_aload_n 39 0 C dX12_write_38 rfl rfl ?_
      refine wt_dup 40 C dX12_write_39 rfl rfl ?_
      refine wt_getI 43 C kfX12_98 sm_0 rfl dX12_write_40 rfl ?_
      refine wt_iconst 44 1 C dX12_write_43 rfl (by decide) ?_
      refine wt_iadd 45 C dX12_write_44 rfl ?_
      refine wt_putI 48 C kpX12_98 sm_0 rfl rfl rfl dX12_write_45 rfl ?_
      refine wt_aload_n 49 0 C dX12_write_48 rfl rfl ?_
      refine wt_getI 52 C kfX12_98 sm_0 rfl dX12_write_49 rfl ?_
      cases h
      exact wt_iret C hq dX12_write_52
    · have h := (if_pos q4).symm.trans h
      refine wt_bipush 27 (-5) C dX12_write_25 rfl (by decide) ?_
      cases h
      exact wt_iret C hq dX12_write_27
  · have h := (if_pos q3).symm.trans h
    refine wt_bipush 14 (-3) C dX12_write_12 rfl (by decide) ?_
    cases h
    exact wt_iret C hq dX12_write_14
theorem mX12_write {l : Launch} {G : ux_G} (hok : ux_ok G shM) {v1 : Int32}  {N : ux_N} {L : ux_L} {o : Int32 × ux_N} (h : fX12_write v1 N = some o) : ux_Mi l G yX12_write cX12_write 2 (some .int) 1 25 [.ref (gad G 0), .int v1] N L o.1 o.2 L :=
  ux_ofi shM hok (by decide +kernel) (Nat.le_of_ble_eq_true rfl) (fun X hG hl C hq => by subst hG; subst hl; exact wX12_write C  hq h)
def fX12_erase (N : ux_N) : Option (Int32 × ux_N) :=
  some ((N 0 9), (ux_u N 0 9 (0 : Int32)))
set_option maxHeartbeats 4000000 in
set_option maxRecDepth 20000 in
theorem wX12_erase {X : ux_X} (C : ux_C X cX12_erase RX12 2 (some .int) 0 0 shM)   {N : ux_N} {L : ux_L} {o : Int32 × ux_N} (hq : ux_Qi X o.1 o.2 L) (h : fX12_erase N = some o) : ux_Wt X 2 0 [(0, .ref (ux_ad X 0))] [] N L := by
  refine wt_aload_n 1 0 C dX12_erase_0 rfl rfl ?_
  refine wt_getI 4 C kfX12_98 sm_0 rfl dX12_erase_1 rfl ?_
  refine wt_istore_n 5 [(1, .int (N 0 9)), (0, .ref (ux_ad X 0))] C dX12_erase_4 rfl (by decide) rfl ?_
  refine wt_aload_n 6 1 C dX12_erase_5 rfl rfl ?_
  refine wt_iconst 7 0 C dX12_erase_6 rfl (by decide) ?_
  refine wt_putI 10 C kpX12_98 sm_0 rfl rfl rfl dX12_erase_7 rfl ?_
  refine wt_iload_n 11 0 C dX12_erase_10 rfl rfl ?_
  cases h
  exact wt_iret C hq dX12_erase_11
theorem mX12_erase {l : Launch} {G : ux_G} (hok : ux_ok G shM)   {N : ux_N} {L : ux_L} {o : Int32 × ux_N} (h : fX12_erase N = some o) : ux_Mi l G yX12_erase cX12_erase 2 (some .int) 0 0 [.ref (gad G 0)] N L o.1 o.2 L :=
  ux_ofi shM hok (by decide +kernel) (Nat.le_of_ble_eq_true rfl) (fun X hG hl C hq => by subst hG; subst hl; exact wX12_erase C  hq h)
def fX12_isLetter (v0 : Int32) : Option (Int32) :=
  (fX12_in (v0.toInt64) (97 : Int64) (122 : Int64)).bind (fun o1 => if ux_b o1 then (some o1) else none)
set_option maxHeartbeats 4000000 in
set_option maxRecDepth 20000 in
theorem wX12_isLetter {X : ux_X} (C : ux_C X cX12_isLetter RX12 1 (some .boolean) 1 25 shM) {v0 : Int32}  {N : ux_N} {L : ux_L} {o : Int32} (hq : ux_Qi X o N L) (h : fX12_isLetter v0 = some o) : ux_Wt X 1 0 [(0, .int v0)] [] N L := by
  refine wt_iload_n 1 0 C dX12_isLetter_0 rfl rfl ?_
  refine wt_i2l 2 C dX12_isLetter_1 rfl ?_
  refine wt_ldc2 5 C tw_1177 dX12_isLetter_2 rfl ?_
  refine wt_ldc2 8 C tw_1178 dX12_isLetter_5 rfl ?_
  obtain ⟨o1, hc2, h⟩ := Option.bind_eq_some_iff.mp h
  refine wt_callSi 11 [] C ksX12_94 (mX12_in (cx_ok C)  hc2) rfl rfl ⟨Nat.le_of_ble_eq_true rfl, Nat.le_of_ble_eq_true rfl⟩ (Nat.le_of_ble_eq_true rfl) dX12_isLetter_8 rfl ?_
  obtain ⟨hb3, h⟩ := ux_guard h
  cases h
  exact wt_zret C (ux_b_n hb3).1 hq dX12_isLetter_11
theorem mX12_isLetter {l : Launch} {G : ux_G} (hok : ux_ok G shM) {v0 : Int32}  {N : ux_N} {L : ux_L} {o : Int32} (h : fX12_isLetter v0 = some o) : ux_Mi l G yX12_isLetter cX12_isLetter 1 (some .boolean) 1 25 [.int v0] N L o N L :=
  ux_ofi shM hok (by decide +kernel) (Nat.le_of_ble_eq_true rfl) (fun X hG hl C hq => by subst hG; subst hl; exact wX12_isLetter C  hq h)
def fX12_isDigit (v0 : Int32) : Option (Int32) :=
  (fX12_in (v0.toInt64) (48 : Int64) (57 : Int64)).bind (fun o1 => if ux_b o1 then (some o1) else none)
set_option maxHeartbeats 4000000 in
set_option maxRecDepth 20000 in
theorem wX12_isDigit {X : ux_X} (C : ux_C X cX12_isDigit RX12 1 (some .boolean) 1 25 shM) {v0 : Int32}  {N : ux_N} {L : ux_L} {o : Int32} (hq : ux_Qi X o N L) (h : fX12_isDigit v0 = some o) : ux_Wt X 1 0 [(0, .int v0)] [] N L := by
  refine wt_iload_n 1 0 C dX12_isDigit_0 rfl rfl ?_
  refine wt_i2l 2 C dX12_isDigit_1 rfl ?_
  refine wt_ldc2 5 C tw_1182 dX12_isDigit_2 rfl ?_
  refine wt_ldc2 8 C tw_1183 dX12_isDigit_5 rfl ?_
  obtain ⟨o1, hc2, h⟩ := Option.bind_eq_some_iff.mp h
  refine wt_callSi 11 [] C ksX12_94 (mX12_in (cx_ok C)  hc2) rfl rfl ⟨Nat.le_of_ble_eq_true rfl, Nat.le_of_ble_eq_true rfl⟩ (Nat.le_of_ble_eq_true rfl) dX12_isDigit_8 rfl ?_
  obtain ⟨hb3, h⟩ := ux_guard h
  cases h
  exact wt_zret C (ux_b_n hb3).1 hq dX12_isDigit_11
theorem mX12_isDigit {l : Launch} {G : ux_G} (hok : ux_ok G shM) {v0 : Int32}  {N : ux_N} {L : ux_L} {o : Int32} (h : fX12_isDigit v0 = some o) : ux_Mi l G yX12_isDigit cX12_isDigit 1 (some .boolean) 1 25 [.int v0] N L o N L :=
  ux_ofi shM hok (by decide +kernel) (Nat.le_of_ble_eq_true rfl) (fun X hG hl C hq => by subst hG; subst hl; exact wX12_isDigit C  hq h)
def fX12_nextToken_8b (N : ux_N) : Option ((ux_N) ⊕ (ux_N)) :=
  if (N 0 9) ≤ (N 0 16) then (some (.inr (N))) else (if ux_in (N 0 16) 200 then (if (N 5 ((N 0 16).toNatClampNeg)) = (32 : Int32) then (some (.inl (ux_u N 0 16 ((N 0 16) + (1 : Int32))))) else (some (.inr (N)))) else none)
set_option maxHeartbeats 4000000 in
set_option maxRecDepth 20000 in
theorem wX12_nextToken_8b {X : ux_X} (C : ux_C X cX12_nextToken RX12 1 none 2 45 shM)   {N : ux_N} {L : ux_L} {o : (ux_N) ⊕ (ux_N)} (hin : ∀ s : ux_N, o = .inl s → ux_Wt X 1 8 [(0, .ref (ux_ad X 0))] [] s L) (hex0 : ∀ e : ux_N, o = .inr (e) → ux_Wt X 1 46 [(0, .ref (ux_ad X 0))] [] e L) (h : fX12_nextToken_8b N = some o) : ux_Wt X 1 8 [(0, .ref (ux_ad X 0))] [] N L := by
  refine wt_aload_n 9 0 C dX12_nextToken_8 rfl rfl ?_
  refine wt_getI 12 C kfX12_112 sm_0 rfl dX12_nextToken_9 rfl ?_
  refine wt_aload_n 13 0 C dX12_nextToken_12 rfl rfl ?_
  refine wt_getI 16 C kfX12_98 sm_0 rfl dX12_nextToken_13 rfl ?_
  refine wt_icmp_ge 19 46 C dX12_nextToken_16 rfl (by decide) (fun q1 => ?_) (fun q1 => ?_)
  · have h := (if_pos q1).symm.trans h
    exact hex0 _ (Option.some.inj h).symm
  · have h := (if_neg q1).symm.trans h
    refine wt_aload_n 20 0 C dX12_nextToken_19 rfl rfl ?_
    refine wt_getR 23 C kfX12_23 sm_0 rfl dX12_nextToken_20 rfl ?_
    refine wt_aload_n 24 0 C dX12_nextToken_23 rfl rfl ?_
    refine wt_getI 27 C kfX12_112 sm_0 rfl dX12_nextToken_24 rfl ?_
    obtain ⟨hi2, h⟩ := ux_guard h
    refine wt_iald 28 ((N 0 16).toNatClampNeg) C sm_5 rfl hi2 dX12_nextToken_27 rfl ?_
    refine wt_bipush 30 32 C dX12_nextToken_28 rfl (by decide) ?_
    refine wt_icmp_ne 33 46 C dX12_nextToken_30 rfl (by decide) (fun q3 => ?_) (fun q3 => ?_)
    · have h := (if_neg q3).symm.trans h
      exact hex0 _ (Option.some.inj h).symm
    · have h := (if_pos q3).symm.trans h
      refine wt_aload_n 34 0 C dX12_nextToken_33 rfl rfl ?_
      refine wt_dup 35 C dX12_nextToken_34 rfl rfl ?_
      refine wt_getI 38 C kfX12_112 sm_0 rfl dX12_nextToken_35 rfl ?_
      refine wt_iconst 39 1 C dX12_nextToken_38 rfl (by decide) ?_
      refine wt_iadd 40 C dX12_nextToken_39 rfl ?_
      refine wt_putI 43 C kpX12_112 sm_0 rfl rfl rfl dX12_nextToken_40 rfl ?_
      refine wt_goto 8 C dX12_nextToken_43 (by decide) ?_
      exact hin _ (Option.some.inj h).symm
def fX12_nextToken_204 (N : ux_N) : Option (ux_N) :=
  some N
set_option maxHeartbeats 4000000 in
set_option maxRecDepth 20000 in
theorem wX12_nextToken_204 {X : ux_X} (C : ux_C X cX12_nextToken RX12 1 none 2 45 shM)   {N : ux_N} {L : ux_L} {o : ux_N} (hq : ux_Qv X o L) (h : fX12_nextToken_204 N = some o) : ux_Wt X 1 204 [] [] N L := by
  cases h
  exact wt_vret C hq dX12_nextToken_204
def fX12_nextToken_165b (N : ux_N) : Option ((ux_N) ⊕ (ux_N)) :=
  if (N 0 9) ≤ (N 0 17) then (some (.inr (N))) else (if ux_in (N 0 17) 200 then ((fX12_isDigit (N 5 ((N 0 17).toNatClampNeg))).bind (fun o3 => if o3 = 0 then (some (.inr (N))) else (some (.inl (ux_u N 0 17 ((N 0 17) + (1 : Int32))))))) else none)
set_option maxHeartbeats 4000000 in
set_option maxRecDepth 20000 in
theorem wX12_nextToken_165b {X : ux_X} (C : ux_C X cX12_nextToken RX12 1 none 2 45 shM)   {N : ux_N} {L : ux_L} {o : (ux_N) ⊕ (ux_N)} (hin : ∀ s : ux_N, o = .inl s → ux_Wt X 1 165 [(0, .ref (ux_ad X 0))] [] s L) (hex0 : ∀ e : ux_N, o = .inr (e) → ux_Wt X 1 204 [] [] e L) (h : fX12_nextToken_165b N = some o) : ux_Wt X 1 165 [(0, .ref (ux_ad X 0))] [] N L := by
  refine wt_aload_n 166 0 C dX12_nextToken_165 rfl rfl ?_
  refine wt_getI 169 C kfX12_109 sm_0 rfl dX12_nextToken_166 rfl ?_
  refine wt_aload_n 170 0 C dX12_nextToken_169 rfl rfl ?_
  refine wt_getI 173 C kfX12_98 sm_0 rfl dX12_nextToken_170 rfl ?_
  refine wt_icmp_ge 176 204 C dX12_nextToken_173 rfl (by decide) (fun q1 => ?_) (fun q1 => ?_)
  · have h := (if_pos q1).symm.trans h
    refine wt_sub [] rfl ?_
    exact hex0 _ (Option.some.inj h).symm
  · have h := (if_neg q1).symm.trans h
    refine wt_aload_n 177 0 C dX12_nextToken_176 rfl rfl ?_
    refine wt_getR 180 C kfX12_23 sm_0 rfl dX12_nextToken_177 rfl ?_
    refine wt_aload_n 181 0 C dX12_nextToken_180 rfl rfl ?_
    refine wt_getI 184 C kfX12_109 sm_0 rfl dX12_nextToken_181 rfl ?_
    obtain ⟨hi2, h⟩ := ux_guard h
    refine wt_iald 185 ((N 0 17).toNatClampNeg) C sm_5 rfl hi2 dX12_nextToken_184 rfl ?_
    obtain ⟨o3, hc4, h⟩ := Option.bind_eq_some_iff.mp h
    refine wt_callSi 188 [] C ksX12_119 (mX12_isDigit (cx_ok C)  hc4) rfl rfl ⟨Nat.le_of_ble_eq_true rfl, Nat.le_of_ble_eq_true rfl⟩ (Nat.le_of_ble_eq_true rfl) dX12_nextToken_185 rfl ?_
    refine wt_if_eq 191 204 C dX12_nextToken_188 rfl (by decide) (fun q5 => ?_) (fun q5 => ?_)
    · have h := (if_pos q5).symm.trans h
      refine wt_sub [] rfl ?_
      exact hex0 _ (Option.some.inj h).symm
    · have h := (if_neg q5).symm.trans h
      refine wt_aload_n 192 0 C dX12_nextToken_191 rfl rfl ?_
      refine wt_dup 193 C dX12_nextToken_192 rfl rfl ?_
      refine wt_getI 196 C kfX12_109 sm_0 rfl dX12_nextToken_193 rfl ?_
      refine wt_iconst 197 1 C dX12_nextToken_196 rfl (by decide) ?_
      refine wt_iadd 198 C dX12_nextToken_197 rfl ?_
      refine wt_putI 201 C kpX12_109 sm_0 rfl rfl rfl dX12_nextToken_198 rfl ?_
      refine wt_goto 165 C dX12_nextToken_201 (by decide) ?_
      exact hin _ (Option.some.inj h).symm
def fX12_nextToken_139 (N : ux_N) : Option (ux_N) :=
  if (N 0 9) ≤ (N 0 16) then (fX12_nextToken_204 N) else (if ux_in (N 0 16) 200 then ((fX12_isDigit (N 5 ((N 0 16).toNatClampNeg))).bind (fun o3 => if o3 = 0 then (fX12_nextToken_204 N) else ((ux_lp (fun s : ux_N => fX12_nextToken_165b s) ux_fu N).bind (fun e13 => fX12_nextToken_204 e13)))) else none)
set_option maxHeartbeats 4000000 in
set_option maxRecDepth 20000 in
theorem wX12_nextToken_139 {X : ux_X} (C : ux_C X cX12_nextToken RX12 1 none 2 45 shM)   {N : ux_N} {L : ux_L} {o : ux_N} (hq : ux_Qv X o L) (h : fX12_nextToken_139 N = some o) : ux_Wt X 1 139 [(0, .ref (ux_ad X 0))] [] N L := by
  refine wt_aload_n 140 0 C dX12_nextToken_139 rfl rfl ?_
  refine wt_getI 143 C kfX12_112 sm_0 rfl dX12_nextToken_140 rfl ?_
  refine wt_aload_n 144 0 C dX12_nextToken_143 rfl rfl ?_
  refine wt_getI 147 C kfX12_98 sm_0 rfl dX12_nextToken_144 rfl ?_
  refine wt_icmp_ge 150 204 C dX12_nextToken_147 rfl (by decide) (fun q1 => ?_) (fun q1 => ?_)
  · have h := (if_pos q1).symm.trans h
    refine wt_sub [] rfl ?_
    exact wX12_nextToken_204 C hq h
  · have h := (if_neg q1).symm.trans h
    refine wt_aload_n 151 0 C dX12_nextToken_150 rfl rfl ?_
    refine wt_getR 154 C kfX12_23 sm_0 rfl dX12_nextToken_151 rfl ?_
    refine wt_aload_n 155 0 C dX12_nextToken_154 rfl rfl ?_
    refine wt_getI 158 C kfX12_112 sm_0 rfl dX12_nextToken_155 rfl ?_
    obtain ⟨hi2, h⟩ := ux_guard h
    refine wt_iald 159 ((N 0 16).toNatClampNeg) C sm_5 rfl hi2 dX12_nextToken_158 rfl ?_
    obtain ⟨o3, hc4, h⟩ := Option.bind_eq_some_iff.mp h
    refine wt_callSi 162 [] C ksX12_119 (mX12_isDigit (cx_ok C)  hc4) rfl rfl ⟨Nat.le_of_ble_eq_true rfl, Nat.le_of_ble_eq_true rfl⟩ (Nat.le_of_ble_eq_true rfl) dX12_nextToken_159 rfl ?_
    refine wt_if_eq 165 204 C dX12_nextToken_162 rfl (by decide) (fun q5 => ?_) (fun q5 => ?_)
    · have h := (if_pos q5).symm.trans h
      refine wt_sub [] rfl ?_
      exact wX12_nextToken_204 C hq h
    · have h := (if_neg q5).symm.trans h
      obtain ⟨e6, hl7, h⟩ := Option.bind_eq_some_iff.mp h
      refine ux_loop (fun s : ux_N => fX12_nextToken_165b s) (fun s : ux_N => ux_Wt X 1 165 [(0, .ref (ux_ad X 0))] [] s L) (e := e6) ?_ hl7
      intro s8 o9 hb10 hi11 hx12
      refine wX12_nextToken_165b C hi11 (fun x0 he => ?_) hb10
      · obtain ⟨e13, rfl⟩ : ∃ z, z = x0 := ⟨_, rfl⟩
        have h9 := hx12 _ he
        subst h9
        exact wX12_nextToken_204 C hq h
def fX12_nextToken_100b (N : ux_N) : Option ((ux_N) ⊕ (ux_N)) :=
  if (N 0 9) ≤ (N 0 17) then (some (.inr (N))) else (if ux_in (N 0 17) 200 then ((fX12_isLetter (N 5 ((N 0 17).toNatClampNeg))).bind (fun o3 => if o3 = 0 then (some (.inr (N))) else (some (.inl (ux_u N 0 17 ((N 0 17) + (1 : Int32))))))) else none)
set_option maxHeartbeats 4000000 in
set_option maxRecDepth 20000 in
theorem wX12_nextToken_100b {X : ux_X} (C : ux_C X cX12_nextToken RX12 1 none 2 45 shM)   {N : ux_N} {L : ux_L} {o : (ux_N) ⊕ (ux_N)} (hin : ∀ s : ux_N, o = .inl s → ux_Wt X 1 100 [(0, .ref (ux_ad X 0))] [] s L) (hex0 : ∀ e : ux_N, o = .inr (e) → ux_Wt X 1 204 [] [] e L) (h : fX12_nextToken_100b N = some o) : ux_Wt X 1 100 [(0, .ref (ux_ad X 0))] [] N L := by
  refine wt_aload_n 101 0 C dX12_nextToken_100 rfl rfl ?_
  refine wt_getI 104 C kfX12_109 sm_0 rfl dX12_nextToken_101 rfl ?_
  refine wt_aload_n 105 0 C dX12_nextToken_104 rfl rfl ?_
  refine wt_getI 108 C kfX12_98 sm_0 rfl dX12_nextToken_105 rfl ?_
  refine wt_icmp_ge 111 204 C dX12_nextToken_108 rfl (by decide) (fun q1 => ?_) (fun q1 => ?_)
  · have h := (if_pos q1).symm.trans h
    refine wt_sub [] rfl ?_
    exact hex0 _ (Option.some.inj h).symm
  · have h := (if_neg q1).symm.trans h
    refine wt_aload_n 112 0 C dX12_nextToken_111 rfl rfl ?_
    refine wt_getR 115 C kfX12_23 sm_0 rfl dX12_nextToken_112 rfl ?_
    refine wt_aload_n 116 0 C dX12_nextToken_115 rfl rfl ?_
    refine wt_getI 119 C kfX12_109 sm_0 rfl dX12_nextToken_116 rfl ?_
    obtain ⟨hi2, h⟩ := ux_guard h
    refine wt_iald 120 ((N 0 17).toNatClampNeg) C sm_5 rfl hi2 dX12_nextToken_119 rfl ?_
    obtain ⟨o3, hc4, h⟩ := Option.bind_eq_some_iff.mp h
    refine wt_callSi 123 [] C ksX12_115 (mX12_isLetter (cx_ok C)  hc4) rfl rfl ⟨Nat.le_of_ble_eq_true rfl, Nat.le_of_ble_eq_true rfl⟩ (Nat.le_of_ble_eq_true rfl) dX12_nextToken_120 rfl ?_
    refine wt_if_eq 126 204 C dX12_nextToken_123 rfl (by decide) (fun q5 => ?_) (fun q5 => ?_)
    · have h := (if_pos q5).symm.trans h
      refine wt_sub [] rfl ?_
      exact hex0 _ (Option.some.inj h).symm
    · have h := (if_neg q5).symm.trans h
      refine wt_aload_n 127 0 C dX12_nextToken_126 rfl rfl ?_
      refine wt_dup 128 C dX12_nextToken_127 rfl rfl ?_
      refine wt_getI 131 C kfX12_109 sm_0 rfl dX12_nextToken_128 rfl ?_
      refine wt_iconst 132 1 C dX12_nextToken_131 rfl (by decide) ?_
      refine wt_iadd 133 C dX12_nextToken_132 rfl ?_
      refine wt_putI 136 C kpX12_109 sm_0 rfl rfl rfl dX12_nextToken_133 rfl ?_
      refine wt_goto 100 C dX12_nextToken_136 (by decide) ?_
      exact hin _ (Option.some.inj h).symm
def fX12_nextToken_71 (s0 : Int32) (N : ux_N) : Option (ux_N) :=
  if ((ux_u N 0 17 s0) 0 9) ≤ ((ux_u N 0 17 s0) 0 16) then (fX12_nextToken_139 (ux_u N 0 17 s0)) else (if ux_in ((ux_u N 0 17 s0) 0 16) 200 then ((fX12_isLetter ((ux_u N 0 17 s0) 5 (((ux_u N 0 17 s0) 0 16).toNatClampNeg))).bind (fun o3 => if o3 = 0 then (fX12_nextToken_139 (ux_u N 0 17 s0)) else ((ux_lp (fun s : ux_N => fX12_nextToken_100b s) ux_fu (ux_u N 0 17 s0)).bind (fun e13 => fX12_nextToken_204 e13)))) else none)
set_option maxHeartbeats 4000000 in
set_option maxRecDepth 20000 in
theorem wX12_nextToken_71 {X : ux_X} (C : ux_C X cX12_nextToken RX12 1 none 2 45 shM) {s0 : Int32}  {N : ux_N} {L : ux_L} {o : ux_N} (hq : ux_Qv X o L) (h : fX12_nextToken_71 s0 N = some o) : ux_Wt X 1 71 [(0, .ref (ux_ad X 0))] [.int s0, .ref (ux_ad X 0)] N L := by
  refine wt_putI 74 C kpX12_109 sm_0 rfl rfl rfl dX12_nextToken_71 rfl ?_
  refine wt_aload_n 75 0 C dX12_nextToken_74 rfl rfl ?_
  refine wt_getI 78 C kfX12_112 sm_0 rfl dX12_nextToken_75 rfl ?_
  refine wt_aload_n 79 0 C dX12_nextToken_78 rfl rfl ?_
  refine wt_getI 82 C kfX12_98 sm_0 rfl dX12_nextToken_79 rfl ?_
  refine wt_icmp_ge 85 139 C dX12_nextToken_82 rfl (by decide) (fun q1 => ?_) (fun q1 => ?_)
  · have h := (if_pos q1).symm.trans h
    exact wX12_nextToken_139 C hq h
  · have h := (if_neg q1).symm.trans h
    refine wt_aload_n 86 0 C dX12_nextToken_85 rfl rfl ?_
    refine wt_getR 89 C kfX12_23 sm_0 rfl dX12_nextToken_86 rfl ?_
    refine wt_aload_n 90 0 C dX12_nextToken_89 rfl rfl ?_
    refine wt_getI 93 C kfX12_112 sm_0 rfl dX12_nextToken_90 rfl ?_
    obtain ⟨hi2, h⟩ := ux_guard h
    refine wt_iald 94 (((ux_u N 0 17 s0) 0 16).toNatClampNeg) C sm_5 rfl hi2 dX12_nextToken_93 rfl ?_
    obtain ⟨o3, hc4, h⟩ := Option.bind_eq_some_iff.mp h
    refine wt_callSi 97 [] C ksX12_115 (mX12_isLetter (cx_ok C)  hc4) rfl rfl ⟨Nat.le_of_ble_eq_true rfl, Nat.le_of_ble_eq_true rfl⟩ (Nat.le_of_ble_eq_true rfl) dX12_nextToken_94 rfl ?_
    refine wt_if_eq 100 139 C dX12_nextToken_97 rfl (by decide) (fun q5 => ?_) (fun q5 => ?_)
    · have h := (if_pos q5).symm.trans h
      exact wX12_nextToken_139 C hq h
    · have h := (if_neg q5).symm.trans h
      obtain ⟨e6, hl7, h⟩ := Option.bind_eq_some_iff.mp h
      refine ux_loop (fun s : ux_N => fX12_nextToken_100b s) (fun s : ux_N => ux_Wt X 1 100 [(0, .ref (ux_ad X 0))] [] s L) (e := e6) ?_ hl7
      intro s8 o9 hb10 hi11 hx12
      refine wX12_nextToken_100b C hi11 (fun x0 he => ?_) hb10
      · obtain ⟨e13, rfl⟩ : ∃ z, z = x0 := ⟨_, rfl⟩
        have h9 := hx12 _ he
        subst h9
        exact wX12_nextToken_204 C hq h
def fX12_nextToken_46 (N : ux_N) : Option (ux_N) :=
  if (N 0 9) ≤ (N 0 16) then (fX12_nextToken_71 (N 0 16) N) else (fX12_nextToken_71 ((N 0 16) + (1 : Int32)) N)
set_option maxHeartbeats 4000000 in
set_option maxRecDepth 20000 in
theorem wX12_nextToken_46 {X : ux_X} (C : ux_C X cX12_nextToken RX12 1 none 2 45 shM)   {N : ux_N} {L : ux_L} {o : ux_N} (hq : ux_Qv X o L) (h : fX12_nextToken_46 N = some o) : ux_Wt X 1 46 [(0, .ref (ux_ad X 0))] [] N L := by
  refine wt_aload_n 47 0 C dX12_nextToken_46 rfl rfl ?_
  refine wt_aload_n 48 0 C dX12_nextToken_47 rfl rfl ?_
  refine wt_getI 51 C kfX12_112 sm_0 rfl dX12_nextToken_48 rfl ?_
  refine wt_aload_n 52 0 C dX12_nextToken_51 rfl rfl ?_
  refine wt_getI 55 C kfX12_98 sm_0 rfl dX12_nextToken_52 rfl ?_
  refine wt_icmp_ge 58 67 C dX12_nextToken_55 rfl (by decide) (fun q1 => ?_) (fun q1 => ?_)
  · have h := (if_pos q1).symm.trans h
    refine wt_aload_n 68 0 C dX12_nextToken_67 rfl rfl ?_
    refine wt_getI 71 C kfX12_112 sm_0 rfl dX12_nextToken_68 rfl ?_
    exact wX12_nextToken_71 C hq h
  · have h := (if_neg q1).symm.trans h
    refine wt_aload_n 59 0 C dX12_nextToken_58 rfl rfl ?_
    refine wt_getI 62 C kfX12_112 sm_0 rfl dX12_nextToken_59 rfl ?_
    refine wt_iconst 63 1 C dX12_nextToken_62 rfl (by decide) ?_
    refine wt_iadd 64 C dX12_nextToken_63 rfl ?_
    refine wt_goto 71 C dX12_nextToken_64 (by decide) ?_
    exact wX12_nextToken_71 C hq h
def fX12_nextToken (N : ux_N) : Option (ux_N) :=
  (ux_lp (fun s : ux_N => fX12_nextToken_8b s) ux_fu (ux_u N 0 16 (N 0 17))).bind (fun e8 => fX12_nextToken_46 e8)
set_option maxHeartbeats 4000000 in
set_option maxRecDepth 20000 in
theorem wX12_nextToken {X : ux_X} (C : ux_C X cX12_nextToken RX12 1 none 2 45 shM)   {N : ux_N} {L : ux_L} {o : ux_N} (hq : ux_Qv X o L) (h : fX12_nextToken N = some o) : ux_Wt X 1 0 [(0, .ref (ux_ad X 0))] [] N L := by
  refine wt_aload_n 1 0 C dX12_nextToken_0 rfl rfl ?_
  refine wt_aload_n 2 0 C dX12_nextToken_1 rfl rfl ?_
  refine wt_getI 5 C kfX12_109 sm_0 rfl dX12_nextToken_2 rfl ?_
  refine wt_putI 8 C kpX12_112 sm_0 rfl rfl rfl dX12_nextToken_5 rfl ?_
  obtain ⟨e1, hl2, h⟩ := Option.bind_eq_some_iff.mp h
  refine ux_loop (fun s : ux_N => fX12_nextToken_8b s) (fun s : ux_N => ux_Wt X 1 8 [(0, .ref (ux_ad X 0))] [] s L) (e := e1) ?_ hl2
  intro s3 o4 hb5 hi6 hx7
  refine wX12_nextToken_8b C hi6 (fun x0 he => ?_) hb5
  · obtain ⟨e8, rfl⟩ : ∃ z, z = x0 := ⟨_, rfl⟩
    have h9 := hx7 _ he
    subst h9
    exact wX12_nextToken_46 C hq h
theorem mX12_nextToken {l : Launch} {G : ux_G} (hok : ux_ok G shM)   {N : ux_N} {L : ux_L} {o : ux_N} (h : fX12_nextToken N = some o) : ux_Mv l G yX12_nextToken cX12_nextToken 1 2 45 [.ref (gad G 0)] N L o L :=
  ux_ofv shM hok (by decide +kernel) (Nat.le_of_ble_eq_true rfl) (fun X hG hl C hq => by subst hG; subst hl; exact wX12_nextToken C  hq h)
def fX12_wordHere_49b_90 (v1 : Int32) (v2 : Int32) (v4 : Int32) (s0 : Int32) (N : ux_N) : Option ((Int32 × Int32) ⊕ (Int32)) :=
  some (.inl (s0, (v4 + 1)))
set_option maxHeartbeats 4000000 in
set_option maxRecDepth 20000 in
theorem wX12_wordHere_49b_90 {X : ux_X} (C : ux_C X cX12_wordHere RX12 5 (some .int) 0 0 shM) {v1 : Int32} {v2 : Int32} {v4 : Int32} {s0 : Int32}  {N : ux_N} {L : ux_L} {o : (Int32 × Int32) ⊕ (Int32)} (hin : ∀ s : Int32 × Int32, o = .inl s → ux_Wt X 5 49 [(0, .ref (ux_ad X 0)), (1, .int v1), (2, .int v2), (3, .int s.1), (4, .int s.2)] [] N L) (hex0 : ∀ e : Int32, o = .inr (e) → ux_Wt X 5 97 [(0, .ref (ux_ad X 0)), (1, .int v1), (3, .int e)] [] N L) (h : fX12_wordHere_49b_90 v1 v2 v4 s0 N = some o) : ux_Wt X 5 90 [(0, .ref (ux_ad X 0)), (1, .int v1), (2, .int v2), (4, .int v4)] [.int s0] N L := by
  refine wt_istore_n 91 [(3, .int s0), (0, .ref (ux_ad X 0)), (1, .int v1), (2, .int v2), (4, .int v4)] C dX12_wordHere_90 rfl (by decide) rfl ?_
  refine wt_iinc 94 4 [(4, .int (v4 + 1)), (3, .int s0), (0, .ref (ux_ad X 0)), (1, .int v1), (2, .int v2)] (v4 + 1) C dX12_wordHere_91 rfl rfl (by rfl) (by decide) rfl ?_
  refine wt_goto 49 C dX12_wordHere_94 (by decide) ?_
  refine wt_sub [2, 3, 4, 1, 0] rfl ?_
  exact hin _ (Option.some.inj h).symm
def fX12_wordHere_49b (v1 : Int32) (v2 : Int32) (v3 : Int32) (v4 : Int32) (N : ux_N) : Option ((Int32 × Int32) ⊕ (Int32)) :=
  if v2 ≤ v4 then (some (.inr (v3))) else (if v3 = 0 then (some (.inr (v3))) else (if ux_in ((N 0 16) + v4) 200 then (if ux_in (((5 : Int32) * v1) + v4) 40 then (if (N 5 (((N 0 16) + v4).toNatClampNeg)) = (N 12 ((((5 : Int32) * v1) + v4).toNatClampNeg)) then (fX12_wordHere_49b_90 v1 v2 v4 (1 : Int32) N) else (fX12_wordHere_49b_90 v1 v2 v4 (0 : Int32) N)) else none) else none))
set_option maxHeartbeats 4000000 in
set_option maxRecDepth 20000 in
theorem wX12_wordHere_49b {X : ux_X} (C : ux_C X cX12_wordHere RX12 5 (some .int) 0 0 shM) {v1 : Int32} {v2 : Int32} {v3 : Int32} {v4 : Int32}  {N : ux_N} {L : ux_L} {o : (Int32 × Int32) ⊕ (Int32)} (hin : ∀ s : Int32 × Int32, o = .inl s → ux_Wt X 5 49 [(0, .ref (ux_ad X 0)), (1, .int v1), (2, .int v2), (3, .int s.1), (4, .int s.2)] [] N L) (hex0 : ∀ e : Int32, o = .inr (e) → ux_Wt X 5 97 [(0, .ref (ux_ad X 0)), (1, .int v1), (3, .int e)] [] N L) (h : fX12_wordHere_49b v1 v2 v3 v4 N = some o) : ux_Wt X 5 49 [(0, .ref (ux_ad X 0)), (1, .int v1), (2, .int v2), (3, .int v3), (4, .int v4)] [] N L := by
  refine wt_iload 51 4 C dX12_wordHere_49 rfl rfl ?_
  refine wt_iload_n 52 2 C dX12_wordHere_51 rfl rfl ?_
  refine wt_icmp_ge 55 97 C dX12_wordHere_52 rfl (by decide) (fun q1 => ?_) (fun q1 => ?_)
  · have h := (if_pos q1).symm.trans h
    refine wt_sub [0, 1, 3] rfl ?_
    exact hex0 _ (Option.some.inj h).symm
  · have h := (if_neg q1).symm.trans h
    refine wt_iload_n 56 3 C dX12_wordHere_55 rfl rfl ?_
    refine wt_if_eq 59 97 C dX12_wordHere_56 rfl (by decide) (fun q2 => ?_) (fun q2 => ?_)
    · have h := (if_pos q2).symm.trans h
      refine wt_sub [0, 1, 3] rfl ?_
      exact hex0 _ (Option.some.inj h).symm
    · have h := (if_neg q2).symm.trans h
      refine wt_aload_n 60 0 C dX12_wordHere_59 rfl rfl ?_
      refine wt_getR 63 C kfX12_23 sm_0 rfl dX12_wordHere_60 rfl ?_
      refine wt_aload_n 64 0 C dX12_wordHere_63 rfl rfl ?_
      refine wt_getI 67 C kfX12_112 sm_0 rfl dX12_wordHere_64 rfl ?_
      refine wt_iload 69 4 C dX12_wordHere_67 rfl rfl ?_
      refine wt_iadd 70 C dX12_wordHere_69 rfl ?_
      obtain ⟨hi3, h⟩ := ux_guard h
      refine wt_iald 71 (((N 0 16) + v4).toNatClampNeg) C sm_5 rfl hi3 dX12_wordHere_70 rfl ?_
      refine wt_aload_n 72 0 C dX12_wordHere_71 rfl rfl ?_
      refine wt_getR 75 C kfX12_44 sm_0 rfl dX12_wordHere_72 rfl ?_
      refine wt_iconst 76 5 C dX12_wordHere_75 rfl (by decide) ?_
      refine wt_iload_n 77 1 C dX12_wordHere_76 rfl rfl ?_
      refine wt_imul 78 C dX12_wordHere_77 rfl ?_
      refine wt_iload 80 4 C dX12_wordHere_78 rfl rfl ?_
      refine wt_iadd 81 C dX12_wordHere_80 rfl ?_
      obtain ⟨hi4, h⟩ := ux_guard h
      refine wt_iald 82 ((((5 : Int32) * v1) + v4).toNatClampNeg) C sm_12 rfl hi4 dX12_wordHere_81 rfl ?_
      refine wt_icmp_ne 85 89 C dX12_wordHere_82 rfl (by decide) (fun q5 => ?_) (fun q5 => ?_)
      · have h := (if_neg q5).symm.trans h
        refine wt_iconst 90 0 C dX12_wordHere_89 rfl (by decide) ?_
        refine wt_sub [0, 1, 2, 4] rfl ?_
        exact wX12_wordHere_49b_90 C hin hex0 h
      · have h := (if_pos q5).symm.trans h
        refine wt_iconst 86 1 C dX12_wordHere_85 rfl (by decide) ?_
        refine wt_goto 90 C dX12_wordHere_86 (by decide) ?_
        refine wt_sub [0, 1, 2, 4] rfl ?_
        exact wX12_wordHere_49b_90 C hin hex0 h
def fX12_wordHere_2b_97 (v1 : Int32) (v3 : Int32) (N : ux_N) : Option ((Int32) ⊕ ((Int32) ⊕ (Unit))) :=
  if v3 = 0 then (some (.inl (v1 + 1))) else (some (.inr (.inl v1)))
set_option maxHeartbeats 4000000 in
set_option maxRecDepth 20000 in
theorem wX12_wordHere_2b_97 {X : ux_X} (C : ux_C X cX12_wordHere RX12 5 (some .int) 0 0 shM) {v1 : Int32} {v3 : Int32}  {N : ux_N} {L : ux_L} {o : (Int32) ⊕ ((Int32) ⊕ (Unit))} (hin : ∀ s : Int32, o = .inl s → ux_Wt X 5 2 [(0, .ref (ux_ad X 0)), (1, .int s)] [] N L) (hex0 : ∀ e : Int32, o = .inr (.inl e) → ux_Wt X 5 101 [(1, .int e)] [] N L) (hex1 : ∀ e : Unit, o = .inr (.inr e) → ux_Wt X 5 109 [] [] N L) (h : fX12_wordHere_2b_97 v1 v3 N = some o) : ux_Wt X 5 97 [(0, .ref (ux_ad X 0)), (1, .int v1), (3, .int v3)] [] N L := by
  refine wt_iload_n 98 2 C dX12_wordHere_97 rfl rfl ?_
  refine wt_if_eq 101 103 C dX12_wordHere_98 rfl (by decide) (fun q1 => ?_) (fun q1 => ?_)
  · have h := (if_pos q1).symm.trans h
    refine wt_iinc 106 1 [(1, .int (v1 + 1)), (0, .ref (ux_ad X 0)), (3, .int v3)] (v1 + 1) C dX12_wordHere_103 rfl rfl (by rfl) (by decide) rfl ?_
    refine wt_goto 2 C dX12_wordHere_106 (by decide) ?_
    refine wt_sub [1, 0] rfl ?_
    exact hin _ (Option.some.inj h).symm
  · have h := (if_neg q1).symm.trans h
    refine wt_sub [1] rfl ?_
    exact hex0 _ (Option.some.inj h).symm
def fX12_wordHere_2b_45 (v1 : Int32) (v2 : Int32) (s0 : Int32) (N : ux_N) : Option ((Int32) ⊕ ((Int32) ⊕ (Unit))) :=
  (ux_lp (fun s : Int32 × Int32 => fX12_wordHere_49b v1 v2 s.1 s.2 N) ux_fu (s0, (0 : Int32))).bind (fun e8 => fX12_wordHere_2b_97 v1 e8 N)
set_option maxHeartbeats 4000000 in
set_option maxRecDepth 20000 in
theorem wX12_wordHere_2b_45 {X : ux_X} (C : ux_C X cX12_wordHere RX12 5 (some .int) 0 0 shM) {v1 : Int32} {v2 : Int32} {s0 : Int32}  {N : ux_N} {L : ux_L} {o : (Int32) ⊕ ((Int32) ⊕ (Unit))} (hin : ∀ s : Int32, o = .inl s → ux_Wt X 5 2 [(0, .ref (ux_ad X 0)), (1, .int s)] [] N L) (hex0 : ∀ e : Int32, o = .inr (.inl e) → ux_Wt X 5 101 [(1, .int e)] [] N L) (hex1 : ∀ e : Unit, o = .inr (.inr e) → ux_Wt X 5 109 [] [] N L) (h : fX12_wordHere_2b_45 v1 v2 s0 N = some o) : ux_Wt X 5 45 [(0, .ref (ux_ad X 0)), (1, .int v1), (2, .int v2)] [.int s0] N L := by
  refine wt_istore_n 46 [(3, .int s0), (0, .ref (ux_ad X 0)), (1, .int v1), (2, .int v2)] C dX12_wordHere_45 rfl (by decide) rfl ?_
  refine wt_iconst 47 0 C dX12_wordHere_46 rfl (by decide) ?_
  refine wt_istore 49 [(4, .int (0 : Int32)), (3, .int s0), (0, .ref (ux_ad X 0)), (1, .int v1), (2, .int v2)] C dX12_wordHere_47 rfl (by decide) rfl ?_
  obtain ⟨e1, hl2, h⟩ := Option.bind_eq_some_iff.mp h
  refine wt_sub [2, 3, 4, 1, 0] rfl ?_
  refine ux_loop (fun s : Int32 × Int32 => fX12_wordHere_49b v1 v2 s.1 s.2 N) (fun s : Int32 × Int32 => ux_Wt X 5 49 [(0, .ref (ux_ad X 0)), (1, .int v1), (2, .int v2), (3, .int s.1), (4, .int s.2)] [] N L) (e := e1) ?_ hl2
  intro s3 o4 hb5 hi6 hx7
  refine wX12_wordHere_49b C hi6 (fun x0 he => ?_) hb5
  · obtain ⟨e8, rfl⟩ : ∃ z, z = x0 := ⟨_, rfl⟩
    have h9 := hx7 _ he
    subst h9
    exact wX12_wordHere_2b_97 C hin hex0 hex1 h
def fX12_wordHere_2b_26 (v1 : Int32) (s0 : Int32) (N : ux_N) : Option ((Int32) ⊕ ((Int32) ⊕ (Unit))) :=
  if ((N 0 17) - (N 0 16)) = s0 then (fX12_wordHere_2b_45 v1 s0 (1 : Int32) N) else (fX12_wordHere_2b_45 v1 s0 (0 : Int32) N)
set_option maxHeartbeats 4000000 in
set_option maxRecDepth 20000 in
theorem wX12_wordHere_2b_26 {X : ux_X} (C : ux_C X cX12_wordHere RX12 5 (some .int) 0 0 shM) {v1 : Int32} {s0 : Int32}  {N : ux_N} {L : ux_L} {o : (Int32) ⊕ ((Int32) ⊕ (Unit))} (hin : ∀ s : Int32, o = .inl s → ux_Wt X 5 2 [(0, .ref (ux_ad X 0)), (1, .int s)] [] N L) (hex0 : ∀ e : Int32, o = .inr (.inl e) → ux_Wt X 5 101 [(1, .int e)] [] N L) (hex1 : ∀ e : Unit, o = .inr (.inr e) → ux_Wt X 5 109 [] [] N L) (h : fX12_wordHere_2b_26 v1 s0 N = some o) : ux_Wt X 5 26 [(0, .ref (ux_ad X 0)), (1, .int v1)] [.int s0] N L := by
  refine wt_istore_n 27 [(2, .int s0), (0, .ref (ux_ad X 0)), (1, .int v1)] C dX12_wordHere_26 rfl (by decide) rfl ?_
  refine wt_aload_n 28 1 C dX12_wordHere_27 rfl rfl ?_
  refine wt_getI 31 C kfX12_109 sm_0 rfl dX12_wordHere_28 rfl ?_
  refine wt_aload_n 32 1 C dX12_wordHere_31 rfl rfl ?_
  refine wt_getI 35 C kfX12_112 sm_0 rfl dX12_wordHere_32 rfl ?_
  refine wt_isub 36 C dX12_wordHere_35 rfl ?_
  refine wt_iload_n 37 0 C dX12_wordHere_36 rfl rfl ?_
  refine wt_icmp_ne 40 44 C dX12_wordHere_37 rfl (by decide) (fun q1 => ?_) (fun q1 => ?_)
  · have h := (if_neg q1).symm.trans h
    refine wt_iconst 45 0 C dX12_wordHere_44 rfl (by decide) ?_
    refine wt_sub [1, 2, 0] rfl ?_
    exact wX12_wordHere_2b_45 C hin hex0 hex1 h
  · have h := (if_pos q1).symm.trans h
    refine wt_iconst 41 1 C dX12_wordHere_40 rfl (by decide) ?_
    refine wt_goto 45 C dX12_wordHere_41 (by decide) ?_
    refine wt_sub [1, 2, 0] rfl ?_
    exact wX12_wordHere_2b_45 C hin hex0 hex1 h
def fX12_wordHere_2b (v1 : Int32) (N : ux_N) : Option ((Int32) ⊕ ((Int32) ⊕ (Unit))) :=
  if (8 : Int32) ≤ v1 then (some (.inr (.inr ()))) else (if ux_in (((5 : Int32) * v1) + (4 : Int32)) 40 then (if (N 12 ((((5 : Int32) * v1) + (4 : Int32)).toNatClampNeg)) = 0 then (fX12_wordHere_2b_26 v1 (4 : Int32) N) else (fX12_wordHere_2b_26 v1 (5 : Int32) N)) else none)
set_option maxHeartbeats 4000000 in
set_option maxRecDepth 20000 in
theorem wX12_wordHere_2b {X : ux_X} (C : ux_C X cX12_wordHere RX12 5 (some .int) 0 0 shM) {v1 : Int32}  {N : ux_N} {L : ux_L} {o : (Int32) ⊕ ((Int32) ⊕ (Unit))} (hin : ∀ s : Int32, o = .inl s → ux_Wt X 5 2 [(0, .ref (ux_ad X 0)), (1, .int s)] [] N L) (hex0 : ∀ e : Int32, o = .inr (.inl e) → ux_Wt X 5 101 [(1, .int e)] [] N L) (hex1 : ∀ e : Unit, o = .inr (.inr e) → ux_Wt X 5 109 [] [] N L) (h : fX12_wordHere_2b v1 N = some o) : ux_Wt X 5 2 [(0, .ref (ux_ad X 0)), (1, .int v1)] [] N L := by
  refine wt_iload_n 3 1 C dX12_wordHere_2 rfl rfl ?_
  refine wt_bipush 5 8 C dX12_wordHere_3 rfl (by decide) ?_
  refine wt_icmp_ge 8 109 C dX12_wordHere_5 rfl (by decide) (fun q1 => ?_) (fun q1 => ?_)
  · have h := (if_pos q1).symm.trans h
    refine wt_sub [] rfl ?_
    exact hex1 _ (Option.some.inj h).symm
  · have h := (if_neg q1).symm.trans h
    refine wt_aload_n 9 0 C dX12_wordHere_8 rfl rfl ?_
    refine wt_getR 12 C kfX12_44 sm_0 rfl dX12_wordHere_9 rfl ?_
    refine wt_iconst 13 5 C dX12_wordHere_12 rfl (by decide) ?_
    refine wt_iload_n 14 1 C dX12_wordHere_13 rfl rfl ?_
    refine wt_imul 15 C dX12_wordHere_14 rfl ?_
    refine wt_iconst 16 4 C dX12_wordHere_15 rfl (by decide) ?_
    refine wt_iadd 17 C dX12_wordHere_16 rfl ?_
    obtain ⟨hi2, h⟩ := ux_guard h
    refine wt_iald 18 ((((5 : Int32) * v1) + (4 : Int32)).toNatClampNeg) C sm_12 rfl hi2 dX12_wordHere_17 rfl ?_
    refine wt_if_ne 21 25 C dX12_wordHere_18 rfl (by decide) (fun q3 => ?_) (fun q3 => ?_)
    · have h := (if_neg q3).symm.trans h
      refine wt_iconst 26 5 C dX12_wordHere_25 rfl (by decide) ?_
      exact wX12_wordHere_2b_26 C hin hex0 hex1 h
    · have h := (if_pos q3).symm.trans h
      refine wt_iconst 22 4 C dX12_wordHere_21 rfl (by decide) ?_
      refine wt_goto 26 C dX12_wordHere_22 (by decide) ?_
      exact wX12_wordHere_2b_26 C hin hex0 hex1 h
def fX12_wordHere (N : ux_N) : Option (Int32) :=
  (ux_lp (fun s : Int32 => fX12_wordHere_2b s N) ux_fu (0 : Int32)).bind (Sum.elim (fun e8 => some e8) (fun e9 => some (-1 : Int32)))
set_option maxHeartbeats 4000000 in
set_option maxRecDepth 20000 in
theorem wX12_wordHere {X : ux_X} (C : ux_C X cX12_wordHere RX12 5 (some .int) 0 0 shM)   {N : ux_N} {L : ux_L} {o : Int32} (hq : ux_Qi X o N L) (h : fX12_wordHere N = some o) : ux_Wt X 5 0 [(0, .ref (ux_ad X 0))] [] N L := by
  refine wt_iconst 1 0 C dX12_wordHere_0 rfl (by decide) ?_
  refine wt_istore_n 2 [(1, .int (0 : Int32)), (0, .ref (ux_ad X 0))] C dX12_wordHere_1 rfl (by decide) rfl ?_
  obtain ⟨e1, hl2, h⟩ := Option.bind_eq_some_iff.mp h
  refine wt_sub [1, 0] rfl ?_
  refine ux_loop (fun s : Int32 => fX12_wordHere_2b s N) (fun s : Int32 => ux_Wt X 5 2 [(0, .ref (ux_ad X 0)), (1, .int s)] [] N L) (e := e1) ?_ hl2
  intro s3 o4 hb5 hi6 hx7
  refine wX12_wordHere_2b C hi6 (fun x0 he => ?_) (fun x1 he => ?_) hb5
  · obtain ⟨e8, rfl⟩ : ∃ z, z = x0 := ⟨_, rfl⟩
    have h9 := hx7 _ he
    subst h9
    refine wt_iload_n 102 0 C dX12_wordHere_101 rfl rfl ?_
    cases h
    exact wt_iret C hq dX12_wordHere_102
  · obtain ⟨e9, rfl⟩ : ∃ z, z = x1 := ⟨_, rfl⟩
    have h9 := hx7 _ he
    subst h9
    refine wt_iconst 110 (-1) C dX12_wordHere_109 rfl (by decide) ?_
    cases h
    exact wt_iret C hq dX12_wordHere_110
theorem mX12_wordHere {l : Launch} {G : ux_G} (hok : ux_ok G shM)   {N : ux_N} {L : ux_L} {o : Int32} (h : fX12_wordHere N = some o) : ux_Mi l G yX12_wordHere cX12_wordHere 5 (some .int) 0 0 [.ref (gad G 0)] N L o N L :=
  ux_ofi shM hok (by decide +kernel) (Nat.le_of_ble_eq_true rfl) (fun X hG hl C hq => by subst hG; subst hl; exact wX12_wordHere C  hq h)
def fX12_number_39 (N : ux_N) : Option (Int32 × ux_N) :=
  some ((0 : Int32), N)
set_option maxHeartbeats 4000000 in
set_option maxRecDepth 20000 in
theorem wX12_number_39 {X : ux_X} (C : ux_C X cX12_number RX12 6 (some .boolean) 3 65 shM)   {N : ux_N} {L : ux_L} {o : Int32 × ux_N} (hq : ux_Qi X o.1 o.2 L) (h : fX12_number_39 N = some o) : ux_Wt X 6 39 [] [] N L := by
  refine wt_iconst 40 0 C dX12_number_39 rfl (by decide) ?_
  cases h
  exact wt_zret C (ux_b_n (by decide)).1 hq dX12_number_40
def fX12_number_158 (v5 : Int32) (N : ux_N) : Option (Int32 × ux_N) :=
  if ux_b v5 then (some (v5, N)) else none
set_option maxHeartbeats 4000000 in
set_option maxRecDepth 20000 in
theorem wX12_number_158 {X : ux_X} (C : ux_C X cX12_number RX12 6 (some .boolean) 3 65 shM) {v5 : Int32}  {N : ux_N} {L : ux_L} {o : Int32 × ux_N} (hq : ux_Qi X o.1 o.2 L) (h : fX12_number_158 v5 N = some o) : ux_Wt X 6 158 [(5, .int v5)] [] N L := by
  refine wt_iload 160 0 C dX12_number_158 rfl rfl ?_
  obtain ⟨hb1, h⟩ := ux_guard h
  cases h
  exact wt_zret C (ux_b_n hb1).1 hq dX12_number_160
def fX12_number_139 (v1 : Int32) (v4 : Int32) (s0 : Int32) (N : ux_N) : Option (Int32 × ux_N) :=
  if s0 = 0 then (fX12_number_158 s0 N) else (if ux_in v1 3 then ((fX12_nextToken (ux_u N 11 (v1.toNatClampNeg) v4)).bind (fun o3 => fX12_number_158 s0 o3)) else none)
set_option maxHeartbeats 4000000 in
set_option maxRecDepth 20000 in
theorem wX12_number_139 {X : ux_X} (C : ux_C X cX12_number RX12 6 (some .boolean) 3 65 shM) {v1 : Int32} {v4 : Int32} {s0 : Int32}  {N : ux_N} {L : ux_L} {o : Int32 × ux_N} (hq : ux_Qi X o.1 o.2 L) (h : fX12_number_139 v1 v4 s0 N = some o) : ux_Wt X 6 139 [(0, .ref (ux_ad X 0)), (1, .int v1), (4, .int v4)] [.int s0] N L := by
  refine wt_istore 141 [(5, .int s0), (0, .ref (ux_ad X 0)), (1, .int v1), (4, .int v4)] C dX12_number_139 rfl (by decide) rfl ?_
  refine wt_iload 143 0 C dX12_number_141 rfl rfl ?_
  refine wt_if_eq 146 158 C dX12_number_143 rfl (by decide) (fun q1 => ?_) (fun q1 => ?_)
  · have h := (if_pos q1).symm.trans h
    refine wt_sub [0] rfl ?_
    exact wX12_number_158 C hq h
  · have h := (if_neg q1).symm.trans h
    refine wt_aload_n 147 1 C dX12_number_146 rfl rfl ?_
    refine wt_getR 150 C kfX12_41 sm_0 rfl dX12_number_147 rfl ?_
    refine wt_iload_n 151 2 C dX12_number_150 rfl rfl ?_
    refine wt_iload 153 3 C dX12_number_151 rfl rfl ?_
    obtain ⟨hi2, h⟩ := ux_guard h
    refine wt_iast 154 (v1.toNatClampNeg) C sm_11 rfl hi2 dX12_number_153 rfl ?_
    refine wt_aload_n 155 1 C dX12_number_154 rfl rfl ?_
    obtain ⟨o3, hc4, h⟩ := Option.bind_eq_some_iff.mp h
    refine wt_callVv 158 [] C kvX12_122 sm_0 (mX12_nextToken (cx_ok C)  hc4) rfl rfl ⟨Nat.le_of_ble_eq_true rfl, Nat.le_of_ble_eq_true rfl⟩ (Nat.le_of_ble_eq_true rfl) dX12_number_155 rfl ?_
    refine wt_sub [0] rfl ?_
    exact wX12_number_158 C hq h
def fX12_number_138 (v1 : Int32) (v4 : Int32) (N : ux_N) : Option (Int32 × ux_N) :=
  fX12_number_139 v1 v4 (0 : Int32) N
set_option maxHeartbeats 4000000 in
set_option maxRecDepth 20000 in
theorem wX12_number_138 {X : ux_X} (C : ux_C X cX12_number RX12 6 (some .boolean) 3 65 shM) {v1 : Int32} {v4 : Int32}  {N : ux_N} {L : ux_L} {o : Int32 × ux_N} (hq : ux_Qi X o.1 o.2 L) (h : fX12_number_138 v1 v4 N = some o) : ux_Wt X 6 138 [(0, .ref (ux_ad X 0)), (1, .int v1), (4, .int v4)] [] N L := by
  refine wt_iconst 139 0 C dX12_number_138 rfl (by decide) ?_
  exact wX12_number_139 C hq h
def fX12_number_134 (v1 : Int32) (v4 : Int32) (N : ux_N) : Option (Int32 × ux_N) :=
  fX12_number_139 v1 v4 (1 : Int32) N
set_option maxHeartbeats 4000000 in
set_option maxRecDepth 20000 in
theorem wX12_number_134 {X : ux_X} (C : ux_C X cX12_number RX12 6 (some .boolean) 3 65 shM) {v1 : Int32} {v4 : Int32}  {N : ux_N} {L : ux_L} {o : Int32 × ux_N} (hq : ux_Qi X o.1 o.2 L) (h : fX12_number_134 v1 v4 N = some o) : ux_Wt X 6 134 [(0, .ref (ux_ad X 0)), (1, .int v1), (4, .int v4)] [] N L := by
  refine wt_iconst 135 1 C dX12_number_134 rfl (by decide) ?_
  refine wt_goto 139 C dX12_number_135 (by decide) ?_
  exact wX12_number_139 C hq h
def fX12_number_93 (v1 : Int32) (v2 : Int32) (v3 : Int32) (s0 : Int32) (N : ux_N) : Option (Int32 × ux_N) :=
  (fX12_in (s0.toInt64) (v2.toInt64) (v3.toInt64)).bind (fun o1 => if o1 = 0 then (fX12_number_138 v1 s0 N) else (if v1 = (1 : Int32) then (if (N 11 2) = (1 : Int32) then (if s0 = (N 11 0) then (fX12_number_138 v1 s0 N) else (fX12_number_134 v1 s0 N)) else (fX12_number_134 v1 s0 N)) else (fX12_number_134 v1 s0 N)))
set_option maxHeartbeats 4000000 in
set_option maxRecDepth 20000 in
theorem wX12_number_93 {X : ux_X} (C : ux_C X cX12_number RX12 6 (some .boolean) 3 65 shM) {v1 : Int32} {v2 : Int32} {v3 : Int32} {s0 : Int32}  {N : ux_N} {L : ux_L} {o : Int32 × ux_N} (hq : ux_Qi X o.1 o.2 L) (h : fX12_number_93 v1 v2 v3 s0 N = some o) : ux_Wt X 6 93 [(0, .ref (ux_ad X 0)), (1, .int v1), (2, .int v2), (3, .int v3)] [.int s0] N L := by
  refine wt_istore 95 [(4, .int s0), (0, .ref (ux_ad X 0)), (1, .int v1), (2, .int v2), (3, .int v3)] C dX12_number_93 rfl (by decide) rfl ?_
  refine wt_iload 97 0 C dX12_number_95 rfl rfl ?_
  refine wt_i2l 98 C dX12_number_97 rfl ?_
  refine wt_iload_n 99 3 C dX12_number_98 rfl rfl ?_
  refine wt_i2l 100 C dX12_number_99 rfl ?_
  refine wt_iload_n 101 4 C dX12_number_100 rfl rfl ?_
  refine wt_i2l 102 C dX12_number_101 rfl ?_
  obtain ⟨o1, hc2, h⟩ := Option.bind_eq_some_iff.mp h
  refine wt_callSi 105 [] C ksX12_94 (mX12_in (cx_ok C)  hc2) rfl rfl ⟨Nat.le_of_ble_eq_true rfl, Nat.le_of_ble_eq_true rfl⟩ (Nat.le_of_ble_eq_true rfl) dX12_number_102 rfl ?_
  refine wt_if_eq 108 138 C dX12_number_105 rfl (by decide) (fun q3 => ?_) (fun q3 => ?_)
  · have h := (if_pos q3).symm.trans h
    refine wt_sub [1, 2, 0] rfl ?_
    exact wX12_number_138 C hq h
  · have h := (if_neg q3).symm.trans h
    refine wt_iload_n 109 2 C dX12_number_108 rfl rfl ?_
    refine wt_iconst 110 1 C dX12_number_109 rfl (by decide) ?_
    refine wt_icmp_ne 113 134 C dX12_number_110 rfl (by decide) (fun q4 => ?_) (fun q4 => ?_)
    · have h := (if_neg q4).symm.trans h
      refine wt_sub [1, 2, 0] rfl ?_
      exact wX12_number_134 C hq h
    · have h := (if_pos q4).symm.trans h
      refine wt_aload_n 114 1 C dX12_number_113 rfl rfl ?_
      refine wt_getR 117 C kfX12_41 sm_0 rfl dX12_number_114 rfl ?_
      refine wt_iconst 118 2 C dX12_number_117 rfl (by decide) ?_
      refine wt_iald 119 2 C sm_11 (by decide) (by decide) dX12_number_118 rfl ?_
      refine wt_iconst 120 1 C dX12_number_119 rfl (by decide) ?_
      refine wt_icmp_ne 123 134 C dX12_number_120 rfl (by decide) (fun q5 => ?_) (fun q5 => ?_)
      · have h := (if_neg q5).symm.trans h
        refine wt_sub [1, 2, 0] rfl ?_
        exact wX12_number_134 C hq h
      · have h := (if_pos q5).symm.trans h
        refine wt_iload 125 0 C dX12_number_123 rfl rfl ?_
        refine wt_aload_n 126 1 C dX12_number_125 rfl rfl ?_
        refine wt_getR 129 C kfX12_41 sm_0 rfl dX12_number_126 rfl ?_
        refine wt_iconst 130 0 C dX12_number_129 rfl (by decide) ?_
        refine wt_iald 131 0 C sm_11 (by decide) (by decide) dX12_number_130 rfl ?_
        refine wt_icmp_eq 134 138 C dX12_number_131 rfl (by decide) (fun q6 => ?_) (fun q6 => ?_)
        · have h := (if_pos q6).symm.trans h
          refine wt_sub [1, 2, 0] rfl ?_
          exact wX12_number_138 C hq h
        · have h := (if_neg q6).symm.trans h
          refine wt_sub [1, 2, 0] rfl ?_
          exact wX12_number_134 C hq h
def fX12_number (v1 : Int32) (v2 : Int32) (v3 : Int32) (N : ux_N) : Option (Int32 × ux_N) :=
  if (N 0 16) = (N 0 9) then (fX12_number_39 N) else (if ux_in (N 0 16) 200 then ((fX12_isDigit (N 5 ((N 0 16).toNatClampNeg))).bind (fun o3 => if o3 = 0 then (fX12_number_39 N) else (if ((N 0 17) - (N 0 16)) ≤ (2 : Int32) then (if ux_in (N 0 16) 200 then (if ((N 0 17) - (N 0 16)) = (2 : Int32) then (if ux_in ((N 0 16) + (1 : Int32)) 200 then (fX12_number_93 v1 v2 v3 ((((10 : Int32) * ((N 5 ((N 0 16).toNatClampNeg)) - (48 : Int32))) + (N 5 (((N 0 16) + (1 : Int32)).toNatClampNeg))) - (48 : Int32)) N) else none) else (fX12_number_93 v1 v2 v3 ((N 5 ((N 0 16).toNatClampNeg)) - (48 : Int32)) N)) else none) else (fX12_number_39 N)))) else none)
set_option maxHeartbeats 4000000 in
set_option maxRecDepth 20000 in
theorem wX12_number {X : ux_X} (C : ux_C X cX12_number RX12 6 (some .boolean) 3 65 shM) {v1 : Int32} {v2 : Int32} {v3 : Int32}  {N : ux_N} {L : ux_L} {o : Int32 × ux_N} (hq : ux_Qi X o.1 o.2 L) (h : fX12_number v1 v2 v3 N = some o) : ux_Wt X 6 0 [(0, .ref (ux_ad X 0)), (1, .int v1), (2, .int v2), (3, .int v3)] [] N L := by
  refine wt_aload_n 1 0 C dX12_number_0 rfl rfl ?_
  refine wt_getI 4 C kfX12_112 sm_0 rfl dX12_number_1 rfl ?_
  refine wt_aload_n 5 0 C dX12_number_4 rfl rfl ?_
  refine wt_getI 8 C kfX12_98 sm_0 rfl dX12_number_5 rfl ?_
  refine wt_icmp_eq 11 39 C dX12_number_8 rfl (by decide) (fun q1 => ?_) (fun q1 => ?_)
  · have h := (if_pos q1).symm.trans h
    refine wt_sub [] rfl ?_
    exact wX12_number_39 C hq h
  · have h := (if_neg q1).symm.trans h
    refine wt_aload_n 12 0 C dX12_number_11 rfl rfl ?_
    refine wt_getR 15 C kfX12_23 sm_0 rfl dX12_number_12 rfl ?_
    refine wt_aload_n 16 0 C dX12_number_15 rfl rfl ?_
    refine wt_getI 19 C kfX12_112 sm_0 rfl dX12_number_16 rfl ?_
    obtain ⟨hi2, h⟩ := ux_guard h
    refine wt_iald 20 ((N 0 16).toNatClampNeg) C sm_5 rfl hi2 dX12_number_19 rfl ?_
    obtain ⟨o3, hc4, h⟩ := Option.bind_eq_some_iff.mp h
    refine wt_callSi 23 [] C ksX12_119 (mX12_isDigit (cx_ok C)  hc4) rfl rfl ⟨Nat.le_of_ble_eq_true rfl, Nat.le_of_ble_eq_true rfl⟩ (Nat.le_of_ble_eq_true rfl) dX12_number_20 rfl ?_
    refine wt_if_eq 26 39 C dX12_number_23 rfl (by decide) (fun q5 => ?_) (fun q5 => ?_)
    · have h := (if_pos q5).symm.trans h
      refine wt_sub [] rfl ?_
      exact wX12_number_39 C hq h
    · have h := (if_neg q5).symm.trans h
      refine wt_aload_n 27 0 C dX12_number_26 rfl rfl ?_
      refine wt_getI 30 C kfX12_109 sm_0 rfl dX12_number_27 rfl ?_
      refine wt_aload_n 31 0 C dX12_number_30 rfl rfl ?_
      refine wt_getI 34 C kfX12_112 sm_0 rfl dX12_number_31 rfl ?_
      refine wt_isub 35 C dX12_number_34 rfl ?_
      refine wt_iconst 36 2 C dX12_number_35 rfl (by decide) ?_
      refine wt_icmp_le 39 41 C dX12_number_36 rfl (by decide) (fun q6 => ?_) (fun q6 => ?_)
      · have h := (if_pos q6).symm.trans h
        refine wt_aload_n 42 0 C dX12_number_41 rfl rfl ?_
        refine wt_getR 45 C kfX12_23 sm_0 rfl dX12_number_42 rfl ?_
        refine wt_aload_n 46 0 C dX12_number_45 rfl rfl ?_
        refine wt_getI 49 C kfX12_112 sm_0 rfl dX12_number_46 rfl ?_
        obtain ⟨hi7, h⟩ := ux_guard h
        refine wt_iald 50 ((N 0 16).toNatClampNeg) C sm_5 rfl hi7 dX12_number_49 rfl ?_
        refine wt_bipush 52 48 C dX12_number_50 rfl (by decide) ?_
        refine wt_isub 53 C dX12_number_52 rfl ?_
        refine wt_istore 55 [(4, .int ((N 5 ((N 0 16).toNatClampNeg)) - (48 : Int32))), (0, .ref (ux_ad X 0)), (1, .int v1), (2, .int v2), (3, .int v3)] C dX12_number_53 rfl (by decide) rfl ?_
        refine wt_aload_n 56 1 C dX12_number_55 rfl rfl ?_
        refine wt_getI 59 C kfX12_109 sm_0 rfl dX12_number_56 rfl ?_
        refine wt_aload_n 60 1 C dX12_number_59 rfl rfl ?_
        refine wt_getI 63 C kfX12_112 sm_0 rfl dX12_number_60 rfl ?_
        refine wt_isub 64 C dX12_number_63 rfl ?_
        refine wt_iconst 65 2 C dX12_number_64 rfl (by decide) ?_
        refine wt_icmp_ne 68 91 C dX12_number_65 rfl (by decide) (fun q8 => ?_) (fun q8 => ?_)
        · have h := (if_neg q8).symm.trans h
          refine wt_iload 93 0 C dX12_number_91 rfl rfl ?_
          refine wt_sub [1, 2, 3, 4] rfl ?_
          exact wX12_number_93 C hq h
        · have h := (if_pos q8).symm.trans h
          refine wt_bipush 70 10 C dX12_number_68 rfl (by decide) ?_
          refine wt_iload 72 0 C dX12_number_70 rfl rfl ?_
          refine wt_imul 73 C dX12_number_72 rfl ?_
          refine wt_aload_n 74 1 C dX12_number_73 rfl rfl ?_
          refine wt_getR 77 C kfX12_23 sm_0 rfl dX12_number_74 rfl ?_
          refine wt_aload_n 78 1 C dX12_number_77 rfl rfl ?_
          refine wt_getI 81 C kfX12_112 sm_0 rfl dX12_number_78 rfl ?_
          refine wt_iconst 82 1 C dX12_number_81 rfl (by decide) ?_
          refine wt_iadd 83 C dX12_number_82 rfl ?_
          obtain ⟨hi9, h⟩ := ux_guard h
          refine wt_iald 84 (((N 0 16) + (1 : Int32)).toNatClampNeg) C sm_5 rfl hi9 dX12_number_83 rfl ?_
          refine wt_iadd 85 C dX12_number_84 rfl ?_
          refine wt_bipush 87 48 C dX12_number_85 rfl (by decide) ?_
          refine wt_isub 88 C dX12_number_87 rfl ?_
          refine wt_goto 93 C dX12_number_88 (by decide) ?_
          refine wt_sub [1, 2, 3, 4] rfl ?_
          exact wX12_number_93 C hq h
      · have h := (if_neg q6).symm.trans h
        refine wt_sub [] rfl ?_
        exact wX12_number_39 C hq h
theorem mX12_number {l : Launch} {G : ux_G} (hok : ux_ok G shM) {v1 : Int32} {v2 : Int32} {v3 : Int32}  {N : ux_N} {L : ux_L} {o : Int32 × ux_N} (h : fX12_number v1 v2 v3 N = some o) : ux_Mi l G yX12_number cX12_number 6 (some .boolean) 3 65 [.ref (gad G 0), .int v1, .int v2, .int v3] N L o.1 o.2 L :=
  ux_ofi shM hok (by decide +kernel) (Nat.le_of_ble_eq_true rfl) (fun X hG hl C hq => by subst hG; subst hl; exact wX12_number C  hq h)
def fX12_isOnLine_10 (s0 : Int32) : Option (Int32) :=
  if ux_b s0 then (some s0) else none
set_option maxHeartbeats 4000000 in
set_option maxRecDepth 20000 in
theorem wX12_isOnLine_10 {X : ux_X} (C : ux_C X cX12_isOnLine RX12 1 (some .boolean) 0 0 shM) {s0 : Int32}  {N : ux_N} {L : ux_L} {o : Int32} (hq : ux_Qi X o N L) (h : fX12_isOnLine_10 s0 = some o) : ux_Wt X 1 10 [] [.int s0] N L := by
  obtain ⟨hb1, h⟩ := ux_guard h
  cases h
  exact wt_zret C (ux_b_n hb1).1 hq dX12_isOnLine_10
def fX12_isOnLine (v0 : Int32) : Option (Int32) :=
  if (2 : Int32) ≤ v0 then (fX12_isOnLine_10 (0 : Int32)) else (fX12_isOnLine_10 (1 : Int32))
set_option maxHeartbeats 4000000 in
set_option maxRecDepth 20000 in
theorem wX12_isOnLine {X : ux_X} (C : ux_C X cX12_isOnLine RX12 1 (some .boolean) 0 0 shM) {v0 : Int32}  {N : ux_N} {L : ux_L} {o : Int32} (hq : ux_Qi X o N L) (h : fX12_isOnLine v0 = some o) : ux_Wt X 1 0 [(0, .int v0)] [] N L := by
  refine wt_iload_n 1 0 C dX12_isOnLine_0 rfl rfl ?_
  refine wt_iconst 2 2 C dX12_isOnLine_1 rfl (by decide) ?_
  refine wt_icmp_ge 5 9 C dX12_isOnLine_2 rfl (by decide) (fun q1 => ?_) (fun q1 => ?_)
  · have h := (if_pos q1).symm.trans h
    refine wt_iconst 10 0 C dX12_isOnLine_9 rfl (by decide) ?_
    refine wt_sub [] rfl ?_
    exact wX12_isOnLine_10 C hq h
  · have h := (if_neg q1).symm.trans h
    refine wt_iconst 6 1 C dX12_isOnLine_5 rfl (by decide) ?_
    refine wt_goto 10 C dX12_isOnLine_6 (by decide) ?_
    refine wt_sub [] rfl ?_
    exact wX12_isOnLine_10 C hq h
theorem mX12_isOnLine {l : Launch} {G : ux_G} (hok : ux_ok G shM) {v0 : Int32}  {N : ux_N} {L : ux_L} {o : Int32} (h : fX12_isOnLine v0 = some o) : ux_Mi l G yX12_isOnLine cX12_isOnLine 1 (some .boolean) 0 0 [.int v0] N L o N L :=
  ux_ofi shM hok (by decide +kernel) (Nat.le_of_ble_eq_true rfl) (fun X hG hl C hq => by subst hG; subst hl; exact wX12_isOnLine C  hq h)
def fX12_readsRest_149 (s0 : Int32) (N : ux_N) : Option (Int32 × ux_N) :=
  if ux_b s0 then (some (s0, N)) else none
set_option maxHeartbeats 4000000 in
set_option maxRecDepth 20000 in
theorem wX12_readsRest_149 {X : ux_X} (C : ux_C X cX12_readsRest RX12 2 (some .boolean) 4 90 shM) {s0 : Int32}  {N : ux_N} {L : ux_L} {o : Int32 × ux_N} (hq : ux_Qi X o.1 o.2 L) (h : fX12_readsRest_149 s0 N = some o) : ux_Wt X 2 149 [] [.int s0] N L := by
  obtain ⟨hb1, h⟩ := ux_guard h
  cases h
  exact wt_zret C (ux_b_n hb1).1 hq dX12_readsRest_149
def fX12_readsRest_148 (N : ux_N) : Option (Int32 × ux_N) :=
  fX12_readsRest_149 (0 : Int32) N
set_option maxHeartbeats 4000000 in
set_option maxRecDepth 20000 in
theorem wX12_readsRest_148 {X : ux_X} (C : ux_C X cX12_readsRest RX12 2 (some .boolean) 4 90 shM)   {N : ux_N} {L : ux_L} {o : Int32 × ux_N} (hq : ux_Qi X o.1 o.2 L) (h : fX12_readsRest_148 N = some o) : ux_Wt X 2 148 [] [] N L := by
  refine wt_iconst 149 0 C dX12_readsRest_148 rfl (by decide) ?_
  exact wX12_readsRest_149 C hq h
def fX12_readsRest_125 (s0 : Int32) (s1 : Int32) (s2 : Int32) (N : ux_N) : Option (Int32 × ux_N) :=
  (fX12_number s2 s1 (s0 - (1 : Int32)) N).bind (fun o1 => if o1.1 = 0 then (fX12_readsRest_148 o1.2) else ((fX12_number (2 : Int32) (1 : Int32) (9 : Int32) o1.2).bind (fun o4 => if o4.1 = 0 then (fX12_readsRest_148 o4.2) else (fX12_readsRest_149 (1 : Int32) o4.2))))
set_option maxHeartbeats 4000000 in
set_option maxRecDepth 20000 in
theorem wX12_readsRest_125 {X : ux_X} (C : ux_C X cX12_readsRest RX12 2 (some .boolean) 4 90 shM) {s0 : Int32} {s1 : Int32} {s2 : Int32}  {N : ux_N} {L : ux_L} {o : Int32 × ux_N} (hq : ux_Qi X o.1 o.2 L) (h : fX12_readsRest_125 s0 s1 s2 N = some o) : ux_Wt X 2 125 [(0, .ref (ux_ad X 0))] [.int s0, .int s1, .int s2, .ref (ux_ad X 0)] N L := by
  refine wt_iconst 126 1 C dX12_readsRest_125 rfl (by decide) ?_
  refine wt_isub 127 C dX12_readsRest_126 rfl ?_
  obtain ⟨o1, hc2, h⟩ := Option.bind_eq_some_iff.mp h
  refine wt_callVi 130 [] C kvX12_125 sm_0 (mX12_number (cx_ok C)  hc2) rfl rfl ⟨Nat.le_of_ble_eq_true rfl, Nat.le_of_ble_eq_true rfl⟩ (Nat.le_of_ble_eq_true rfl) dX12_readsRest_127 rfl ?_
  refine wt_if_eq 133 148 C dX12_readsRest_130 rfl (by decide) (fun q3 => ?_) (fun q3 => ?_)
  · have h := (if_pos q3).symm.trans h
    refine wt_sub [] rfl ?_
    exact wX12_readsRest_148 C hq h
  · have h := (if_neg q3).symm.trans h
    refine wt_aload_n 134 0 C dX12_readsRest_133 rfl rfl ?_
    refine wt_iconst 135 2 C dX12_readsRest_134 rfl (by decide) ?_
    refine wt_iconst 136 1 C dX12_readsRest_135 rfl (by decide) ?_
    refine wt_bipush 138 9 C dX12_readsRest_136 rfl (by decide) ?_
    obtain ⟨o4, hc5, h⟩ := Option.bind_eq_some_iff.mp h
    refine wt_callVi 141 [] C kvX12_125 sm_0 (mX12_number (cx_ok C)  hc5) rfl rfl ⟨Nat.le_of_ble_eq_true rfl, Nat.le_of_ble_eq_true rfl⟩ (Nat.le_of_ble_eq_true rfl) dX12_readsRest_138 rfl ?_
    refine wt_if_eq 144 148 C dX12_readsRest_141 rfl (by decide) (fun q6 => ?_) (fun q6 => ?_)
    · have h := (if_pos q6).symm.trans h
      refine wt_sub [] rfl ?_
      exact wX12_readsRest_148 C hq h
    · have h := (if_neg q6).symm.trans h
      refine wt_iconst 145 1 C dX12_readsRest_144 rfl (by decide) ?_
      refine wt_goto 149 C dX12_readsRest_145 (by decide) ?_
      refine wt_sub [] rfl ?_
      exact wX12_readsRest_149 C hq h
def fX12_readsRest_88 (s0 : Int32) (N : ux_N) : Option (Int32 × ux_N) :=
  if ux_b s0 then (some (s0, N)) else none
set_option maxHeartbeats 4000000 in
set_option maxRecDepth 20000 in
theorem wX12_readsRest_88 {X : ux_X} (C : ux_C X cX12_readsRest RX12 2 (some .boolean) 4 90 shM) {s0 : Int32}  {N : ux_N} {L : ux_L} {o : Int32 × ux_N} (hq : ux_Qi X o.1 o.2 L) (h : fX12_readsRest_88 s0 N = some o) : ux_Wt X 2 88 [] [.int s0] N L := by
  obtain ⟨hb1, h⟩ := ux_guard h
  cases h
  exact wt_zret C (ux_b_n hb1).1 hq dX12_readsRest_88
def fX12_readsRest_87 (N : ux_N) : Option (Int32 × ux_N) :=
  fX12_readsRest_88 (0 : Int32) N
set_option maxHeartbeats 4000000 in
set_option maxRecDepth 20000 in
theorem wX12_readsRest_87 {X : ux_X} (C : ux_C X cX12_readsRest RX12 2 (some .boolean) 4 90 shM)   {N : ux_N} {L : ux_L} {o : Int32 × ux_N} (hq : ux_Qi X o.1 o.2 L) (h : fX12_readsRest_87 N = some o) : ux_Wt X 2 87 [] [] N L := by
  refine wt_iconst 88 0 C dX12_readsRest_87 rfl (by decide) ?_
  exact wX12_readsRest_88 C hq h
def fX12_readsRest_171 (s0 : Int32) (s1 : Int32) (s2 : Int32) (N : ux_N) : Option (Int32 × ux_N) :=
  (fX12_number s2 s1 (s0 - (1 : Int32)) N).bind (fun o1 => if ux_b o1.1 then (some (o1.1, o1.2)) else none)
set_option maxHeartbeats 4000000 in
set_option maxRecDepth 20000 in
theorem wX12_readsRest_171 {X : ux_X} (C : ux_C X cX12_readsRest RX12 2 (some .boolean) 4 90 shM) {s0 : Int32} {s1 : Int32} {s2 : Int32}  {N : ux_N} {L : ux_L} {o : Int32 × ux_N} (hq : ux_Qi X o.1 o.2 L) (h : fX12_readsRest_171 s0 s1 s2 N = some o) : ux_Wt X 2 171 [] [.int s0, .int s1, .int s2, .ref (ux_ad X 0)] N L := by
  refine wt_iconst 172 1 C dX12_readsRest_171 rfl (by decide) ?_
  refine wt_isub 173 C dX12_readsRest_172 rfl ?_
  obtain ⟨o1, hc2, h⟩ := Option.bind_eq_some_iff.mp h
  refine wt_callVi 176 [] C kvX12_125 sm_0 (mX12_number (cx_ok C)  hc2) rfl rfl ⟨Nat.le_of_ble_eq_true rfl, Nat.le_of_ble_eq_true rfl⟩ (Nat.le_of_ble_eq_true rfl) dX12_readsRest_173 rfl ?_
  obtain ⟨hb3, h⟩ := ux_guard h
  cases h
  exact wt_zret C (ux_b_n hb3).1 hq dX12_readsRest_176
def fX12_readsRest_16 (v1 : Int32) (s0 : Int32) (s1 : Int32) (N : ux_N) : Option (Int32 × ux_N) :=
  if ux_in s1 3 then (if v1 = (5 : Int32) then ((fX12_number (0 : Int32) (0 : Int32) (4 : Int32) (ux_u N 11 (s1.toNatClampNeg) s0)).bind (fun o3 => if o3.1 = 0 then (fX12_readsRest_148 o3.2) else ((fX12_isOnLine (o3.2 11 0)).bind (fun o6 => if o6 = 0 then (fX12_readsRest_125 (o3.2 0 18) (0 : Int32) (1 : Int32) o3.2) else (fX12_readsRest_125 (o3.2 0 19) (0 : Int32) (1 : Int32) o3.2))))) else (if v1 = (6 : Int32) then ((fX12_number (0 : Int32) (2 : Int32) (8 : Int32) (ux_u N 11 (s1.toNatClampNeg) s0)).bind (fun o10 => if ux_b o10.1 then (some (o10.1, o10.2)) else none)) else (if v1 = (7 : Int32) then ((fX12_number (0 : Int32) (0 : Int32) (((ux_u N 11 (s1.toNatClampNeg) s0) 0 18) - (1 : Int32)) (ux_u N 11 (s1.toNatClampNeg) s0)).bind (fun o14 => if o14.1 = 0 then (fX12_readsRest_87 o14.2) else ((fX12_number (1 : Int32) (0 : Int32) ((o14.2 0 18) - (1 : Int32)) o14.2).bind (fun o17 => if o17.1 = 0 then (fX12_readsRest_87 o17.2) else (fX12_readsRest_88 (1 : Int32) o17.2))))) else ((fX12_isOnLine v1).bind (fun o20 => if o20 = 0 then (fX12_readsRest_171 ((ux_u N 11 (s1.toNatClampNeg) s0) 0 18) (0 : Int32) (0 : Int32) (ux_u N 11 (s1.toNatClampNeg) s0)) else (fX12_readsRest_171 ((ux_u N 11 (s1.toNatClampNeg) s0) 0 19) (0 : Int32) (0 : Int32) (ux_u N 11 (s1.toNatClampNeg) s0))))))) else none
set_option maxHeartbeats 4000000 in
set_option maxRecDepth 20000 in
theorem wX12_readsRest_16 {X : ux_X} (C : ux_C X cX12_readsRest RX12 2 (some .boolean) 4 90 shM) {v1 : Int32} {s0 : Int32} {s1 : Int32}  {N : ux_N} {L : ux_L} {o : Int32 × ux_N} (hq : ux_Qi X o.1 o.2 L) (h : fX12_readsRest_16 v1 s0 s1 N = some o) : ux_Wt X 2 16 [(0, .ref (ux_ad X 0)), (1, .int v1)] [.int s0, .int s1, .ref (ux_ad X 11)] N L := by
  obtain ⟨hi1, h⟩ := ux_guard h
  refine wt_iast 17 (s1.toNatClampNeg) C sm_11 rfl hi1 dX12_readsRest_16 rfl ?_
  refine wt_iload_n 18 1 C dX12_readsRest_17 rfl rfl ?_
  by_cases q2 : v1 = (5 : Int32)
  · have h := (if_pos q2).symm.trans h
    refine wt_tin 89 (5) C dX12_readsRest_18 q2 (by decide) (by decide) rfl (by decide) ?_
    refine wt_aload_n 90 0 C dX12_readsRest_89 rfl rfl ?_
    refine wt_iconst 91 0 C dX12_readsRest_90 rfl (by decide) ?_
    refine wt_iconst 92 0 C dX12_readsRest_91 rfl (by decide) ?_
    refine wt_iconst 93 4 C dX12_readsRest_92 rfl (by decide) ?_
    obtain ⟨o3, hc4, h⟩ := Option.bind_eq_some_iff.mp h
    refine wt_callVi 96 [] C kvX12_125 sm_0 (mX12_number (cx_ok C)  hc4) rfl rfl ⟨Nat.le_of_ble_eq_true rfl, Nat.le_of_ble_eq_true rfl⟩ (Nat.le_of_ble_eq_true rfl) dX12_readsRest_93 rfl ?_
    refine wt_if_eq 99 148 C dX12_readsRest_96 rfl (by decide) (fun q5 => ?_) (fun q5 => ?_)
    · have h := (if_pos q5).symm.trans h
      refine wt_sub [] rfl ?_
      exact wX12_readsRest_148 C hq h
    · have h := (if_neg q5).symm.trans h
      refine wt_aload_n 100 0 C dX12_readsRest_99 rfl rfl ?_
      refine wt_iconst 101 1 C dX12_readsRest_100 rfl (by decide) ?_
      refine wt_iconst 102 0 C dX12_readsRest_101 rfl (by decide) ?_
      refine wt_aload_n 103 0 C dX12_readsRest_102 rfl rfl ?_
      refine wt_getR 106 C kfX12_41 sm_0 rfl dX12_readsRest_103 rfl ?_
      refine wt_iconst 107 0 C dX12_readsRest_106 rfl (by decide) ?_
      refine wt_iald 108 0 C sm_11 (by decide) (by decide) dX12_readsRest_107 rfl ?_
      obtain ⟨o6, hc7, h⟩ := Option.bind_eq_some_iff.mp h
      refine wt_callSi 111 [.int (0 : Int32), .int (1 : Int32), .ref (ux_ad X 0)] C ksX12_132 (mX12_isOnLine (cx_ok C)  hc7) rfl rfl ⟨Nat.le_of_ble_eq_true rfl, Nat.le_of_ble_eq_true rfl⟩ (Nat.le_of_ble_eq_true rfl) dX12_readsRest_108 rfl ?_
      refine wt_if_eq 114 121 C dX12_readsRest_111 rfl (by decide) (fun q8 => ?_) (fun q8 => ?_)
      · have h := (if_pos q8).symm.trans h
        refine wt_aload_n 122 0 C dX12_readsRest_121 rfl rfl ?_
        refine wt_getI 125 C kfX12_129 sm_0 rfl dX12_readsRest_122 rfl ?_
        refine wt_sub [0] rfl ?_
        exact wX12_readsRest_125 C hq h
      · have h := (if_neg q8).symm.trans h
        refine wt_aload_n 115 0 C dX12_readsRest_114 rfl rfl ?_
        refine wt_getI 118 C kfX12_135 sm_0 rfl dX12_readsRest_115 rfl ?_
        refine wt_goto 125 C dX12_readsRest_118 (by decide) ?_
        refine wt_sub [0] rfl ?_
        exact wX12_readsRest_125 C hq h
  have h := (if_neg q2).symm.trans h
  by_cases q9 : v1 = (6 : Int32)
  · have h := (if_pos q9).symm.trans h
    refine wt_tin 44 (6) C dX12_readsRest_18 q9 (by decide) (by decide) rfl (by decide) ?_
    refine wt_aload_n 45 0 C dX12_readsRest_44 rfl rfl ?_
    refine wt_iconst 46 0 C dX12_readsRest_45 rfl (by decide) ?_
    refine wt_iconst 47 2 C dX12_readsRest_46 rfl (by decide) ?_
    refine wt_bipush 49 8 C dX12_readsRest_47 rfl (by decide) ?_
    obtain ⟨o10, hc11, h⟩ := Option.bind_eq_some_iff.mp h
    refine wt_callVi 52 [] C kvX12_125 sm_0 (mX12_number (cx_ok C)  hc11) rfl rfl ⟨Nat.le_of_ble_eq_true rfl, Nat.le_of_ble_eq_true rfl⟩ (Nat.le_of_ble_eq_true rfl) dX12_readsRest_49 rfl ?_
    obtain ⟨hb12, h⟩ := ux_guard h
    cases h
    exact wt_zret C (ux_b_n hb12).1 hq dX12_readsRest_52
  have h := (if_neg q9).symm.trans h
  by_cases q13 : v1 = (7 : Int32)
  · have h := (if_pos q13).symm.trans h
    refine wt_tin 53 (7) C dX12_readsRest_18 q13 (by decide) (by decide) rfl (by decide) ?_
    refine wt_aload_n 54 0 C dX12_readsRest_53 rfl rfl ?_
    refine wt_iconst 55 0 C dX12_readsRest_54 rfl (by decide) ?_
    refine wt_iconst 56 0 C dX12_readsRest_55 rfl (by decide) ?_
    refine wt_aload_n 57 0 C dX12_readsRest_56 rfl rfl ?_
    refine wt_getI 60 C kfX12_129 sm_0 rfl dX12_readsRest_57 rfl ?_
    refine wt_iconst 61 1 C dX12_readsRest_60 rfl (by decide) ?_
    refine wt_isub 62 C dX12_readsRest_61 rfl ?_
    obtain ⟨o14, hc15, h⟩ := Option.bind_eq_some_iff.mp h
    refine wt_callVi 65 [] C kvX12_125 sm_0 (mX12_number (cx_ok C)  hc15) rfl rfl ⟨Nat.le_of_ble_eq_true rfl, Nat.le_of_ble_eq_true rfl⟩ (Nat.le_of_ble_eq_true rfl) dX12_readsRest_62 rfl ?_
    refine wt_if_eq 68 87 C dX12_readsRest_65 rfl (by decide) (fun q16 => ?_) (fun q16 => ?_)
    · have h := (if_pos q16).symm.trans h
      refine wt_sub [] rfl ?_
      exact wX12_readsRest_87 C hq h
    · have h := (if_neg q16).symm.trans h
      refine wt_aload_n 69 0 C dX12_readsRest_68 rfl rfl ?_
      refine wt_iconst 70 1 C dX12_readsRest_69 rfl (by decide) ?_
      refine wt_iconst 71 0 C dX12_readsRest_70 rfl (by decide) ?_
      refine wt_aload_n 72 0 C dX12_readsRest_71 rfl rfl ?_
      refine wt_getI 75 C kfX12_129 sm_0 rfl dX12_readsRest_72 rfl ?_
      refine wt_iconst 76 1 C dX12_readsRest_75 rfl (by decide) ?_
      refine wt_isub 77 C dX12_readsRest_76 rfl ?_
      obtain ⟨o17, hc18, h⟩ := Option.bind_eq_some_iff.mp h
      refine wt_callVi 80 [] C kvX12_125 sm_0 (mX12_number (cx_ok C)  hc18) rfl rfl ⟨Nat.le_of_ble_eq_true rfl, Nat.le_of_ble_eq_true rfl⟩ (Nat.le_of_ble_eq_true rfl) dX12_readsRest_77 rfl ?_
      refine wt_if_eq 83 87 C dX12_readsRest_80 rfl (by decide) (fun q19 => ?_) (fun q19 => ?_)
      · have h := (if_pos q19).symm.trans h
        refine wt_sub [] rfl ?_
        exact wX12_readsRest_87 C hq h
      · have h := (if_neg q19).symm.trans h
        refine wt_iconst 84 1 C dX12_readsRest_83 rfl (by decide) ?_
        refine wt_goto 88 C dX12_readsRest_84 (by decide) ?_
        refine wt_sub [] rfl ?_
        exact wX12_readsRest_88 C hq h
  have h := (if_neg q13).symm.trans h
  refine wt_tout 150 C dX12_readsRest_18 (by have z0 := lv_neT q2 (show (5 : Int32).toInt = 5 from by decide); have z1 := lv_neT q9 (show (6 : Int32).toInt = 6 from by decide); have z2 := lv_neT q13 (show (7 : Int32).toInt = 7 from by decide); omega) (by decide) ?_
  refine wt_aload_n 151 0 C dX12_readsRest_150 rfl rfl ?_
  refine wt_iconst 152 0 C dX12_readsRest_151 rfl (by decide) ?_
  refine wt_iconst 153 0 C dX12_readsRest_152 rfl (by decide) ?_
  refine wt_iload_n 154 1 C dX12_readsRest_153 rfl rfl ?_
  obtain ⟨o20, hc21, h⟩ := Option.bind_eq_some_iff.mp h
  refine wt_callSi 157 [.int (0 : Int32), .int (0 : Int32), .ref (ux_ad X 0)] C ksX12_132 (mX12_isOnLine (cx_ok C)  hc21) rfl rfl ⟨Nat.le_of_ble_eq_true rfl, Nat.le_of_ble_eq_true rfl⟩ (Nat.le_of_ble_eq_true rfl) dX12_readsRest_154 rfl ?_
  refine wt_if_eq 160 167 C dX12_readsRest_157 rfl (by decide) (fun q22 => ?_) (fun q22 => ?_)
  · have h := (if_pos q22).symm.trans h
    refine wt_aload_n 168 0 C dX12_readsRest_167 rfl rfl ?_
    refine wt_getI 171 C kfX12_129 sm_0 rfl dX12_readsRest_168 rfl ?_
    refine wt_sub [] rfl ?_
    exact wX12_readsRest_171 C hq h
  · have h := (if_neg q22).symm.trans h
    refine wt_aload_n 161 0 C dX12_readsRest_160 rfl rfl ?_
    refine wt_getI 164 C kfX12_135 sm_0 rfl dX12_readsRest_161 rfl ?_
    refine wt_goto 171 C dX12_readsRest_164 (by decide) ?_
    refine wt_sub [] rfl ?_
    exact wX12_readsRest_171 C hq h
def fX12_readsRest (v1 : Int32) (N : ux_N) : Option (Int32 × ux_N) :=
  if v1 = (7 : Int32) then (fX12_readsRest_16 v1 (1 : Int32) (2 : Int32) N) else (fX12_readsRest_16 v1 (0 : Int32) (2 : Int32) N)
set_option maxHeartbeats 4000000 in
set_option maxRecDepth 20000 in
theorem wX12_readsRest {X : ux_X} (C : ux_C X cX12_readsRest RX12 2 (some .boolean) 4 90 shM) {v1 : Int32}  {N : ux_N} {L : ux_L} {o : Int32 × ux_N} (hq : ux_Qi X o.1 o.2 L) (h : fX12_readsRest v1 N = some o) : ux_Wt X 2 0 [(0, .ref (ux_ad X 0)), (1, .int v1)] [] N L := by
  refine wt_aload_n 1 0 C dX12_readsRest_0 rfl rfl ?_
  refine wt_getR 4 C kfX12_41 sm_0 rfl dX12_readsRest_1 rfl ?_
  refine wt_iconst 5 2 C dX12_readsRest_4 rfl (by decide) ?_
  refine wt_iload_n 6 1 C dX12_readsRest_5 rfl rfl ?_
  refine wt_bipush 8 7 C dX12_readsRest_6 rfl (by decide) ?_
  refine wt_icmp_ne 11 15 C dX12_readsRest_8 rfl (by decide) (fun q1 => ?_) (fun q1 => ?_)
  · have h := (if_neg q1).symm.trans h
    refine wt_iconst 16 0 C dX12_readsRest_15 rfl (by decide) ?_
    exact wX12_readsRest_16 C hq h
  · have h := (if_pos q1).symm.trans h
    refine wt_iconst 12 1 C dX12_readsRest_11 rfl (by decide) ?_
    refine wt_goto 16 C dX12_readsRest_12 (by decide) ?_
    exact wX12_readsRest_16 C hq h
theorem mX12_readsRest {l : Launch} {G : ux_G} (hok : ux_ok G shM) {v1 : Int32}  {N : ux_N} {L : ux_L} {o : Int32 × ux_N} (h : fX12_readsRest v1 N = some o) : ux_Mi l G yX12_readsRest cX12_readsRest 2 (some .boolean) 4 90 [.ref (gad G 0), .int v1] N L o.1 o.2 L :=
  ux_ofi shM hok (by decide +kernel) (Nat.le_of_ble_eq_true rfl) (fun X hG hl C hq => by subst hG; subst hl; exact wX12_readsRest C  hq h)
