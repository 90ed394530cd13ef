theorem dX12_all_0 : decode cX12_all 0 = .ok (.iload_n 1, 1) := by decide +kernel
theorem dX12_all_1 : decode cX12_all 1 = .ok (.invokestatic 292, 3) := by decide +kernel
theorem dX12_all_4 : decode cX12_all 4 = .ok (.ifCond .ne 6, 3) := by decide +kernel
theorem dX12_all_7 : decode cX12_all 7 = .ok (.bipush (-2), 2) := by decide +kernel
theorem dX12_all_9 : decode cX12_all 9 = .ok (.ireturn, 1) := by decide +kernel
theorem dX12_all_10 : decode cX12_all 10 = .ok (.iload_n 2, 1) := by decide +kernel
theorem dX12_all_11 : decode cX12_all 11 = .ok (.i2l, 1) := by decide +kernel
theorem dX12_all_12 : decode cX12_all 12 = .ok (.lconst 0, 1) := by decide +kernel
theorem dX12_all_13 : decode cX12_all 13 = .ok (.ldc2_w 254, 3) := by decide +kernel
theorem dX12_all_16 : decode cX12_all 16 = .ok (.invokestatic 94, 3) := by decide +kernel
theorem dX12_all_19 : decode cX12_all 19 = .ok (.ifCond .ne 6, 3) := by decide +kernel
theorem dX12_all_22 : decode cX12_all 22 = .ok (.bipush (-3), 2) := by decide +kernel
theorem dX12_all_24 : decode cX12_all 24 = .ok (.ireturn, 1) := by decide +kernel
theorem dX12_all_25 : decode cX12_all 25 = .ok (.aload_n 0, 1) := by decide +kernel
theorem dX12_all_26 : decode cX12_all 26 = .ok (.getfield 32, 3) := by decide +kernel
theorem dX12_all_29 : decode cX12_all 29 = .ok (.iload_n 1, 1) := by decide +kernel
theorem dX12_all_30 : decode cX12_all 30 = .ok (.iaload, 1) := by decide +kernel
theorem dX12_all_31 : decode cX12_all 31 = .ok (.ifCond .ge 6, 3) := by decide +kernel
theorem dX12_all_34 : decode cX12_all 34 = .ok (.bipush (-11), 2) := by decide +kernel
theorem dX12_all_36 : decode cX12_all 36 = .ok (.ireturn, 1) := by decide +kernel
theorem dX12_all_37 : decode cX12_all 37 = .ok (.iconst 0, 1) := by decide +kernel
theorem dX12_all_38 : decode cX12_all 38 = .ok (.istore_n 3, 1) := by decide +kernel
theorem dX12_all_39 : decode cX12_all 39 = .ok (.ldc_w 302, 3) := by decide +kernel
theorem dX12_all_42 : decode cX12_all 42 = .ok (.istore 4, 2) := by decide +kernel
theorem dX12_all_44 : decode cX12_all 44 = .ok (.iconst 0, 1) := by decide +kernel
theorem dX12_all_45 : decode cX12_all 45 = .ok (.istore 5, 2) := by decide +kernel
theorem dX12_all_47 : decode cX12_all 47 = .ok (.bipush 8, 2) := by decide +kernel
theorem dX12_all_49 : decode cX12_all 49 = .ok (.iload_n 1, 1) := by decide +kernel
theorem dX12_all_50 : decode cX12_all 50 = .ok (.imul, 1) := by decide +kernel
theorem dX12_all_51 : decode cX12_all 51 = .ok (.istore 6, 2) := by decide +kernel
theorem dX12_all_53 : decode cX12_all 53 = .ok (.iload 6, 2) := by decide +kernel
theorem dX12_all_55 : decode cX12_all 55 = .ok (.bipush 8, 2) := by decide +kernel
theorem dX12_all_57 : decode cX12_all 57 = .ok (.iload_n 1, 1) := by decide +kernel
theorem dX12_all_58 : decode cX12_all 58 = .ok (.imul, 1) := by decide +kernel
theorem dX12_all_59 : decode cX12_all 59 = .ok (.aload_n 0, 1) := by decide +kernel
theorem dX12_all_60 : decode cX12_all 60 = .ok (.getfield 32, 3) := by decide +kernel
theorem dX12_all_63 : decode cX12_all 63 = .ok (.iload_n 1, 1) := by decide +kernel
theorem dX12_all_64 : decode cX12_all 64 = .ok (.iaload, 1) := by decide +kernel
theorem dX12_all_65 : decode cX12_all 65 = .ok (.iadd, 1) := by decide +kernel
theorem dX12_all_66 : decode cX12_all 66 = .ok (.if_icmp .ge 83, 3) := by decide +kernel
theorem dX12_all_69 : decode cX12_all 69 = .ok (.iload_n 3, 1) := by decide +kernel
theorem dX12_all_70 : decode cX12_all 70 = .ok (.aload_n 0, 1) := by decide +kernel
theorem dX12_all_71 : decode cX12_all 71 = .ok (.getfield 35, 3) := by decide +kernel
theorem dX12_all_74 : decode cX12_all 74 = .ok (.iload 6, 2) := by decide +kernel
theorem dX12_all_76 : decode cX12_all 76 = .ok (.iaload, 1) := by decide +kernel
theorem dX12_all_77 : decode cX12_all 77 = .ok (.ifCond .ne 7, 3) := by decide +kernel
theorem dX12_all_80 : decode cX12_all 80 = .ok (.iconst 1, 1) := by decide +kernel
theorem dX12_all_81 : decode cX12_all 81 = .ok (.goto 4, 3) := by decide +kernel
theorem dX12_all_84 : decode cX12_all 84 = .ok (.iconst 0, 1) := by decide +kernel
theorem dX12_all_85 : decode cX12_all 85 = .ok (.iadd, 1) := by decide +kernel
theorem dX12_all_86 : decode cX12_all 86 = .ok (.istore_n 3, 1) := by decide +kernel
theorem dX12_all_87 : decode cX12_all 87 = .ok (.iload 4, 2) := by decide +kernel
theorem dX12_all_89 : decode cX12_all 89 = .ok (.aload_n 0, 1) := by decide +kernel
theorem dX12_all_90 : decode cX12_all 90 = .ok (.getfield 35, 3) := by decide +kernel
theorem dX12_all_93 : decode cX12_all 93 = .ok (.iload 6, 2) := by decide +kernel
theorem dX12_all_95 : decode cX12_all 95 = .ok (.iaload, 1) := by decide +kernel
theorem dX12_all_96 : decode cX12_all 96 = .ok (.iconst 1, 1) := by decide +kernel
theorem dX12_all_97 : decode cX12_all 97 = .ok (.if_icmp .ne 13, 3) := by decide +kernel
theorem dX12_all_100 : decode cX12_all 100 = .ok (.aload_n 0, 1) := by decide +kernel
theorem dX12_all_101 : decode cX12_all 101 = .ok (.getfield 38, 3) := by decide +kernel
theorem dX12_all_104 : decode cX12_all 104 = .ok (.iload 6, 2) := by decide +kernel
theorem dX12_all_106 : decode cX12_all 106 = .ok (.iaload, 1) := by decide +kernel
theorem dX12_all_107 : decode cX12_all 107 = .ok (.goto 4, 3) := by decide +kernel
theorem dX12_all_110 : decode cX12_all 110 = .ok (.iconst 0, 1) := by decide +kernel
theorem dX12_all_111 : decode cX12_all 111 = .ok (.iadd, 1) := by decide +kernel
theorem dX12_all_112 : decode cX12_all 112 = .ok (.istore 4, 2) := by decide +kernel
theorem dX12_all_114 : decode cX12_all 114 = .ok (.iload 5, 2) := by decide +kernel
theorem dX12_all_116 : decode cX12_all 116 = .ok (.aload_n 0, 1) := by decide +kernel
theorem dX12_all_117 : decode cX12_all 117 = .ok (.getfield 35, 3) := by decide +kernel
theorem dX12_all_120 : decode cX12_all 120 = .ok (.iload 6, 2) := by decide +kernel
theorem dX12_all_122 : decode cX12_all 122 = .ok (.iaload, 1) := by decide +kernel
theorem dX12_all_123 : decode cX12_all 123 = .ok (.iconst 2, 1) := by decide +kernel
theorem dX12_all_124 : decode cX12_all 124 = .ok (.if_icmp .ne 15, 3) := by decide +kernel
theorem dX12_all_127 : decode cX12_all 127 = .ok (.iconst 1, 1) := by decide +kernel
theorem dX12_all_128 : decode cX12_all 128 = .ok (.aload_n 0, 1) := by decide +kernel
theorem dX12_all_129 : decode cX12_all 129 = .ok (.getfield 38, 3) := by decide +kernel
theorem dX12_all_132 : decode cX12_all 132 = .ok (.iload 6, 2) := by decide +kernel
theorem dX12_all_134 : decode cX12_all 134 = .ok (.iaload, 1) := by decide +kernel
theorem dX12_all_135 : decode cX12_all 135 = .ok (.ishl, 1) := by decide +kernel
theorem dX12_all_136 : decode cX12_all 136 = .ok (.goto 4, 3) := by decide +kernel
theorem dX12_all_139 : decode cX12_all 139 = .ok (.iconst 0, 1) := by decide +kernel
theorem dX12_all_140 : decode cX12_all 140 = .ok (.ior, 1) := by decide +kernel
theorem dX12_all_141 : decode cX12_all 141 = .ok (.istore 5, 2) := by decide +kernel
theorem dX12_all_143 : decode cX12_all 143 = .ok (.iinc 6 1, 3) := by decide +kernel
theorem dX12_all_146 : decode cX12_all 146 = .ok (.goto (-93), 3) := by decide +kernel
theorem dX12_all_149 : decode cX12_all 149 = .ok (.iload_n 2, 1) := by decide +kernel
theorem dX12_all_150 : decode cX12_all 150 = .ok (.ifCond .ne 7, 3) := by decide +kernel
theorem dX12_all_153 : decode cX12_all 153 = .ok (.iload_n 3, 1) := by decide +kernel
theorem dX12_all_154 : decode cX12_all 154 = .ok (.goto 15, 3) := by decide +kernel
theorem dX12_all_157 : decode cX12_all 157 = .ok (.iload_n 2, 1) := by decide +kernel
theorem dX12_all_158 : decode cX12_all 158 = .ok (.iconst 1, 1) := by decide +kernel
theorem dX12_all_159 : decode cX12_all 159 = .ok (.if_icmp .ne 8, 3) := by decide +kernel
theorem dX12_all_162 : decode cX12_all 162 = .ok (.iload 4, 2) := by decide +kernel
theorem dX12_all_164 : decode cX12_all 164 = .ok (.goto 5, 3) := by decide +kernel
theorem dX12_all_167 : decode cX12_all 167 = .ok (.iload 5, 2) := by decide +kernel
theorem dX12_all_169 : decode cX12_all 169 = .ok (.ireturn, 1) := by decide +kernel
theorem dX12_drop_0 : decode cX12_drop 0 = .ok (.iload_n 1, 1) := by decide +kernel
theorem dX12_drop_1 : decode cX12_drop 1 = .ok (.invokestatic 292, 3) := by decide +kernel
theorem dX12_drop_4 : decode cX12_drop 4 = .ok (.ifCond .ne 6, 3) := by decide +kernel
theorem dX12_drop_7 : decode cX12_drop 7 = .ok (.bipush (-2), 2) := by decide +kernel
theorem dX12_drop_9 : decode cX12_drop 9 = .ok (.ireturn, 1) := by decide +kernel
theorem dX12_drop_10 : decode cX12_drop 10 = .ok (.aload_n 0, 1) := by decide +kernel
theorem dX12_drop_11 : decode cX12_drop 11 = .ok (.getfield 32, 3) := by decide +kernel
theorem dX12_drop_14 : decode cX12_drop 14 = .ok (.iload_n 1, 1) := by decide +kernel
theorem dX12_drop_15 : decode cX12_drop 15 = .ok (.iaload, 1) := by decide +kernel
theorem dX12_drop_16 : decode cX12_drop 16 = .ok (.istore_n 2, 1) := by decide +kernel
theorem dX12_drop_17 : decode cX12_drop 17 = .ok (.aload_n 0, 1) := by decide +kernel
theorem dX12_drop_18 : decode cX12_drop 18 = .ok (.getfield 32, 3) := by decide +kernel
theorem dX12_drop_21 : decode cX12_drop 21 = .ok (.iload_n 1, 1) := by decide +kernel
theorem dX12_drop_22 : decode cX12_drop 22 = .ok (.iconst (-1), 1) := by decide +kernel
theorem dX12_drop_23 : decode cX12_drop 23 = .ok (.iastore, 1) := by decide +kernel
theorem dX12_drop_24 : decode cX12_drop 24 = .ok (.iload_n 2, 1) := by decide +kernel
theorem dX12_drop_25 : decode cX12_drop 25 = .ok (.ifCond .ge 8, 3) := by decide +kernel
theorem dX12_drop_28 : decode cX12_drop 28 = .ok (.bipush (-11), 2) := by decide +kernel
theorem dX12_drop_30 : decode cX12_drop 30 = .ok (.goto 4, 3) := by decide +kernel
theorem dX12_drop_33 : decode cX12_drop 33 = .ok (.iload_n 2, 1) := by decide +kernel
theorem dX12_drop_34 : decode cX12_drop 34 = .ok (.ireturn, 1) := by decide +kernel
theorem dX12_spare_0 : decode cX12_spare 0 = .ok (.aload_n 0, 1) := by decide +kernel
theorem dX12_spare_1 : decode cX12_spare 1 = .ok (.invokevirtual 242, 3) := by decide +kernel
theorem dX12_spare_4 : decode cX12_spare 4 = .ok (.iconst 1, 1) := by decide +kernel
theorem dX12_spare_5 : decode cX12_spare 5 = .ok (.aload_n 0, 1) := by decide +kernel
theorem dX12_spare_6 : decode cX12_spare 6 = .ok (.getfield 7, 3) := by decide +kernel
theorem dX12_spare_9 : decode cX12_spare 9 = .ok (.iconst 0, 1) := by decide +kernel
theorem dX12_spare_10 : decode cX12_spare 10 = .ok (.iaload, 1) := by decide +kernel
theorem dX12_spare_11 : decode cX12_spare 11 = .ok (.ishl, 1) := by decide +kernel
theorem dX12_spare_12 : decode cX12_spare 12 = .ok (.iconst 1, 1) := by decide +kernel
theorem dX12_spare_13 : decode cX12_spare 13 = .ok (.isub, 1) := by decide +kernel
theorem dX12_spare_14 : decode cX12_spare 14 = .ok (.aload_n 0, 1) := by decide +kernel
theorem dX12_spare_15 : decode cX12_spare 15 = .ok (.getfield 7, 3) := by decide +kernel
theorem dX12_spare_18 : decode cX12_spare 18 = .ok (.iconst 1, 1) := by decide +kernel
theorem dX12_spare_19 : decode cX12_spare 19 = .ok (.iaload, 1) := by decide +kernel
theorem dX12_spare_20 : decode cX12_spare 20 = .ok (.iconst (-1), 1) := by decide +kernel
theorem dX12_spare_21 : decode cX12_spare 21 = .ok (.ixor, 1) := by decide +kernel
theorem dX12_spare_22 : decode cX12_spare 22 = .ok (.iand, 1) := by decide +kernel
theorem dX12_spare_23 : decode cX12_spare 23 = .ok (.istore_n 1, 1) := by decide +kernel
theorem dX12_spare_24 : decode cX12_spare 24 = .ok (.iconst 0, 1) := by decide +kernel
theorem dX12_spare_25 : decode cX12_spare 25 = .ok (.istore_n 2, 1) := by decide +kernel
theorem dX12_spare_26 : decode cX12_spare 26 = .ok (.iload_n 2, 1) := by decide +kernel
theorem dX12_spare_27 : decode cX12_spare 27 = .ok (.aload_n 0, 1) := by decide +kernel
theorem dX12_spare_28 : decode cX12_spare 28 = .ok (.getfield 86, 3) := by decide +kernel
theorem dX12_spare_31 : decode cX12_spare 31 = .ok (.if_icmp .ge 36, 3) := by decide +kernel
theorem dX12_spare_34 : decode cX12_spare 34 = .ok (.iload_n 1, 1) := by decide +kernel
theorem dX12_spare_35 : decode cX12_spare 35 = .ok (.aload_n 0, 1) := by decide +kernel
theorem dX12_spare_36 : decode cX12_spare 36 = .ok (.getfield 72, 3) := by decide +kernel
theorem dX12_spare_39 : decode cX12_spare 39 = .ok (.iload_n 2, 1) := by decide +kernel
theorem dX12_spare_40 : decode cX12_spare 40 = .ok (.iaload, 1) := by decide +kernel
theorem dX12_spare_41 : decode cX12_spare 41 = .ok (.iconst (-1), 1) := by decide +kernel
theorem dX12_spare_42 : decode cX12_spare 42 = .ok (.if_icmp .ne 7, 3) := by decide +kernel
theorem dX12_spare_45 : decode cX12_spare 45 = .ok (.iload_n 1, 1) := by decide +kernel
theorem dX12_spare_46 : decode cX12_spare 46 = .ok (.goto 13, 3) := by decide +kernel
theorem dX12_spare_49 : decode cX12_spare 49 = .ok (.iconst 1, 1) := by decide +kernel
theorem dX12_spare_50 : decode cX12_spare 50 = .ok (.aload_n 0, 1) := by decide +kernel
theorem dX12_spare_51 : decode cX12_spare 51 = .ok (.getfield 72, 3) := by decide +kernel
theorem dX12_spare_54 : decode cX12_spare 54 = .ok (.iload_n 2, 1) := by decide +kernel
theorem dX12_spare_55 : decode cX12_spare 55 = .ok (.iaload, 1) := by decide +kernel
theorem dX12_spare_56 : decode cX12_spare 56 = .ok (.ishl, 1) := by decide +kernel
theorem dX12_spare_57 : decode cX12_spare 57 = .ok (.iconst (-1), 1) := by decide +kernel
theorem dX12_spare_58 : decode cX12_spare 58 = .ok (.ixor, 1) := by decide +kernel
theorem dX12_spare_59 : decode cX12_spare 59 = .ok (.iand, 1) := by decide +kernel
theorem dX12_spare_60 : decode cX12_spare 60 = .ok (.istore_n 1, 1) := by decide +kernel
theorem dX12_spare_61 : decode cX12_spare 61 = .ok (.iinc 2 1, 3) := by decide +kernel
theorem dX12_spare_64 : decode cX12_spare 64 = .ok (.goto (-38), 3) := by decide +kernel
theorem dX12_spare_67 : decode cX12_spare 67 = .ok (.iload_n 1, 1) := by decide +kernel
theorem dX12_spare_68 : decode cX12_spare 68 = .ok (.ireturn, 1) := by decide +kernel
theorem dX12_allThings_0 : decode cX12_allThings 0 = .ok (.iconst 0, 1) := by decide +kernel
theorem dX12_allThings_1 : decode cX12_allThings 1 = .ok (.istore_n 1, 1) := by decide +kernel
theorem dX12_allThings_2 : decode cX12_allThings 2 = .ok (.iconst 0, 1) := by decide +kernel
theorem dX12_allThings_3 : decode cX12_allThings 3 = .ok (.istore_n 2, 1) := by decide +kernel
theorem dX12_allThings_4 : decode cX12_allThings 4 = .ok (.iload_n 2, 1) := by decide +kernel
theorem dX12_allThings_5 : decode cX12_allThings 5 = .ok (.iconst 3, 1) := by decide +kernel
theorem dX12_allThings_6 : decode cX12_allThings 6 = .ok (.if_icmp .ge 31, 3) := by decide +kernel
theorem dX12_allThings_9 : decode cX12_allThings 9 = .ok (.iload_n 1, 1) := by decide +kernel
theorem dX12_allThings_10 : decode cX12_allThings 10 = .ok (.aload_n 0, 1) := by decide +kernel
theorem dX12_allThings_11 : decode cX12_allThings 11 = .ok (.getfield 32, 3) := by decide +kernel
theorem dX12_allThings_14 : decode cX12_allThings 14 = .ok (.iload_n 2, 1) := by decide +kernel
theorem dX12_allThings_15 : decode cX12_allThings 15 = .ok (.iaload, 1) := by decide +kernel
theorem dX12_allThings_16 : decode cX12_allThings 16 = .ok (.ifCond .ge 7, 3) := by decide +kernel
theorem dX12_allThings_19 : decode cX12_allThings 19 = .ok (.iconst 0, 1) := by decide +kernel
theorem dX12_allThings_20 : decode cX12_allThings 20 = .ok (.goto 9, 3) := by decide +kernel
theorem dX12_allThings_23 : decode cX12_allThings 23 = .ok (.aload_n 0, 1) := by decide +kernel
theorem dX12_allThings_24 : decode cX12_allThings 24 = .ok (.getfield 32, 3) := by decide +kernel
theorem dX12_allThings_27 : decode cX12_allThings 27 = .ok (.iload_n 2, 1) := by decide +kernel
theorem dX12_allThings_28 : decode cX12_allThings 28 = .ok (.iaload, 1) := by decide +kernel
theorem dX12_allThings_29 : decode cX12_allThings 29 = .ok (.iadd, 1) := by decide +kernel
theorem dX12_allThings_30 : decode cX12_allThings 30 = .ok (.istore_n 1, 1) := by decide +kernel
theorem dX12_allThings_31 : decode cX12_allThings 31 = .ok (.iinc 2 1, 3) := by decide +kernel
theorem dX12_allThings_34 : decode cX12_allThings 34 = .ok (.goto (-30), 3) := by decide +kernel
theorem dX12_allThings_37 : decode cX12_allThings 37 = .ok (.iload_n 1, 1) := by decide +kernel
theorem dX12_allThings_38 : decode cX12_allThings 38 = .ok (.ireturn, 1) := by decide +kernel
theorem dX12_count_0 : decode cX12_count 0 = .ok (.iload_n 1, 1) := by decide +kernel
theorem dX12_count_1 : decode cX12_count 1 = .ok (.tableswitch 150 0 13 #[71, 76, 81, 88, 93, 98, 103, 108, 113, 120, 125, 130, 135, 140], 71) := by decide +kernel
theorem dX12_count_72 : decode cX12_count 72 = .ok (.aload_n 0, 1) := by decide +kernel
theorem dX12_count_73 : decode cX12_count 73 = .ok (.getfield 82, 3) := by decide +kernel
theorem dX12_count_76 : decode cX12_count 76 = .ok (.ireturn, 1) := by decide +kernel
theorem dX12_count_77 : decode cX12_count 77 = .ok (.aload_n 0, 1) := by decide +kernel
theorem dX12_count_78 : decode cX12_count 78 = .ok (.getfield 86, 3) := by decide +kernel
theorem dX12_count_81 : decode cX12_count 81 = .ok (.ireturn, 1) := by decide +kernel
theorem dX12_count_82 : decode cX12_count 82 = .ok (.aload_n 0, 1) := by decide +kernel
theorem dX12_count_83 : decode cX12_count 83 = .ok (.getfield 7, 3) := by decide +kernel
theorem dX12_count_86 : decode cX12_count 86 = .ok (.iconst 0, 1) := by decide +kernel
theorem dX12_count_87 : decode cX12_count 87 = .ok (.iaload, 1) := by decide +kernel
theorem dX12_count_88 : decode cX12_count 88 = .ok (.ireturn, 1) := by decide +kernel
theorem dX12_count_89 : decode cX12_count 89 = .ok (.aload_n 0, 1) := by decide +kernel
theorem dX12_count_90 : decode cX12_count 90 = .ok (.getfield 89, 3) := by decide +kernel
theorem dX12_count_93 : decode cX12_count 93 = .ok (.ireturn, 1) := by decide +kernel
theorem dX12_count_94 : decode cX12_count 94 = .ok (.aload_n 0, 1) := by decide +kernel
theorem dX12_count_95 : decode cX12_count 95 = .ok (.invokevirtual 223, 3) := by decide +kernel
theorem dX12_count_98 : decode cX12_count 98 = .ok (.ireturn, 1) := by decide +kernel
theorem dX12_count_99 : decode cX12_count 99 = .ok (.aload_n 0, 1) := by decide +kernel
theorem dX12_count_100 : decode cX12_count 100 = .ok (.invokevirtual 270, 3) := by decide +kernel
theorem dX12_count_103 : decode cX12_count 103 = .ok (.ireturn, 1) := by decide +kernel
theorem dX12_count_104 : decode cX12_count 104 = .ok (.aload_n 0, 1) := by decide +kernel
theorem dX12_count_105 : decode cX12_count 105 = .ok (.invokevirtual 226, 3) := by decide +kernel
theorem dX12_count_108 : decode cX12_count 108 = .ok (.ireturn, 1) := by decide +kernel
theorem dX12_count_109 : decode cX12_count 109 = .ok (.aload_n 0, 1) := by decide +kernel
theorem dX12_count_110 : decode cX12_count 110 = .ok (.invokevirtual 303, 3) := by decide +kernel
theorem dX12_count_113 : decode cX12_count 113 = .ok (.ireturn, 1) := by decide +kernel
theorem dX12_count_114 : decode cX12_count 114 = .ok (.aload_n 0, 1) := by decide +kernel
theorem dX12_count_115 : decode cX12_count 115 = .ok (.getfield 7, 3) := by decide +kernel
theorem dX12_count_118 : decode cX12_count 118 = .ok (.iconst 1, 1) := by decide +kernel
theorem dX12_count_119 : decode cX12_count 119 = .ok (.iaload, 1) := by decide +kernel
theorem dX12_count_120 : decode cX12_count 120 = .ok (.ireturn, 1) := by decide +kernel
theorem dX12_count_121 : decode cX12_count 121 = .ok (.aload_n 0, 1) := by decide +kernel
theorem dX12_count_122 : decode cX12_count 122 = .ok (.getfield 283, 3) := by decide +kernel
theorem dX12_count_125 : decode cX12_count 125 = .ok (.ireturn, 1) := by decide +kernel
theorem dX12_count_126 : decode cX12_count 126 = .ok (.aload_n 0, 1) := by decide +kernel
theorem dX12_count_127 : decode cX12_count 127 = .ok (.invokevirtual 306, 3) := by decide +kernel
theorem dX12_count_130 : decode cX12_count 130 = .ok (.ireturn, 1) := by decide +kernel
theorem dX12_count_131 : decode cX12_count 131 = .ok (.aload_n 0, 1) := by decide +kernel
theorem dX12_count_132 : decode cX12_count 132 = .ok (.getfield 176, 3) := by decide +kernel
theorem dX12_count_135 : decode cX12_count 135 = .ok (.ireturn, 1) := by decide +kernel
theorem dX12_count_136 : decode cX12_count 136 = .ok (.aload_n 0, 1) := by decide +kernel
theorem dX12_count_137 : decode cX12_count 137 = .ok (.getfield 98, 3) := by decide +kernel
theorem dX12_count_140 : decode cX12_count 140 = .ok (.ireturn, 1) := by decide +kernel
theorem dX12_count_141 : decode cX12_count 141 = .ok (.aload_n 0, 1) := by decide +kernel
theorem dX12_count_142 : decode cX12_count 142 = .ok (.getfield 82, 3) := by decide +kernel
theorem dX12_count_145 : decode cX12_count 145 = .ok (.aload_n 0, 1) := by decide +kernel
theorem dX12_count_146 : decode cX12_count 146 = .ok (.invokevirtual 223, 3) := by decide +kernel
theorem dX12_count_149 : decode cX12_count 149 = .ok (.isub, 1) := by decide +kernel
theorem dX12_count_150 : decode cX12_count 150 = .ok (.ireturn, 1) := by decide +kernel
theorem dX12_count_151 : decode cX12_count 151 = .ok (.bipush (-3), 2) := by decide +kernel
theorem dX12_count_153 : decode cX12_count 153 = .ok (.ireturn, 1) := by decide +kernel
theorem kvX12_303 : ux_LV RX12 303 12 yX12_spare cX12_spare 3 (some .int) 0 := ⟨⟨TX12, 31, rfl⟩, tw_1444, tw_1446, tw_69, tw_87, tw_1447, ⟨by decide, by decide, by decide +kernel⟩⟩
theorem kvX12_306 : ux_LV RX12 306 12 yX12_allThings cX12_allThings 3 (some .int) 0 := ⟨⟨TX12, 31, rfl⟩, tw_1448, tw_1450, tw_70, tw_87, tw_1451, ⟨by decide, by decide, by decide +kernel⟩⟩
def fX12_all_53b_140 (v1 : Int32) (v2 : Int32) (v3 : Int32) (v4 : Int32) (v6 : Int32) (s0 : Int32) (s1 : Int32) (N : ux_N) : Option ((Int32 × Int32 × Int32 × Int32) ⊕ (Int32 × Int32 × Int32)) :=
  some (.inl (v3, v4, (s1 ||| s0), (v6 + 1)))
set_option maxHeartbeats 4000000 in
set_option maxRecDepth 20000 in
theorem wX12_all_53b_140 {X : ux_X} (C : ux_C X cX12_all RX12 7 (some .int) 2 45 shM) {v1 : Int32} {v2 : Int32} {v3 : Int32} {v4 : Int32} {v6 : Int32} {s0 : Int32} {s1 : Int32}  {N : ux_N} {L : ux_L} {o : (Int32 × Int32 × Int32 × Int32) ⊕ (Int32 × Int32 × Int32)} (hin : ∀ s : Int32 × Int32 × Int32 × Int32, o = .inl s → ux_Wt X 7 53 [(0, .ref (ux_ad X 0)), (1, .int v1), (2, .int v2), (3, .int s.1), (4, .int s.2.1), (5, .int s.2.2.1), (6, .int s.2.2.2)] [] N L) (hex0 : ∀ e : Int32 × Int32 × Int32, o = .inr (e) → ux_Wt X 7 149 [(2, .int v2), (3, .int e.1), (4, .int e.2.1), (5, .int e.2.2)] [] N L) (h : fX12_all_53b_140 v1 v2 v3 v4 v6 s0 s1 N = some o) : ux_Wt X 7 140 [(0, .ref (ux_ad X 0)), (1, .int v1), (2, .int v2), (3, .int v3), (4, .int v4), (6, .int v6)] [.int s0, .int s1] N L := by
  refine wt_ior 141 C dX12_all_140 rfl ?_
  refine wt_istore 143 [(5, .int (s1 ||| s0)), (0, .ref (ux_ad X 0)), (1, .int v1), (2, .int v2), (3, .int v3), (4, .int v4), (6, .int v6)] C dX12_all_141 rfl (by decide) rfl ?_
  refine wt_iinc 146 6 [(6, .int (v6 + 1)), (5, .int (s1 ||| s0)), (0, .ref (ux_ad X 0)), (1, .int v1), (2, .int v2), (3, .int v3), (4, .int v4)] (v6 + 1) C dX12_all_143 rfl rfl (by rfl) (by decide) rfl ?_
  refine wt_goto 53 C dX12_all_146 (by decide) ?_
  refine wt_sub [2, 3, 4, 5, 6, 1, 0] rfl ?_
  exact hin _ (Option.some.inj h).symm
def fX12_all_53b_111 (v1 : Int32) (v2 : Int32) (v3 : Int32) (v5 : Int32) (v6 : Int32) (s0 : Int32) (s1 : Int32) (N : ux_N) : Option ((Int32 × Int32 × Int32 × Int32) ⊕ (Int32 × Int32 × Int32)) :=
  if ux_in v6 24 then (if (N 9 (v6.toNatClampNeg)) = (2 : Int32) then (if ux_in v6 24 then (fX12_all_53b_140 v1 v2 v3 (s1 + s0) v6 ((1 : Int32) <<< ((N 10 (v6.toNatClampNeg)) &&& 31)) v5 N) else none) else (fX12_all_53b_140 v1 v2 v3 (s1 + s0) v6 (0 : Int32) v5 N)) else none
set_option maxHeartbeats 4000000 in
set_option maxRecDepth 20000 in
theorem wX12_all_53b_111 {X : ux_X} (C : ux_C X cX12_all RX12 7 (some .int) 2 45 shM) {v1 : Int32} {v2 : Int32} {v3 : Int32} {v5 : Int32} {v6 : Int32} {s0 : Int32} {s1 : Int32}  {N : ux_N} {L : ux_L} {o : (Int32 × Int32 × Int32 × Int32) ⊕ (Int32 × Int32 × Int32)} (hin : ∀ s : Int32 × Int32 × Int32 × Int32, o = .inl s → ux_Wt X 7 53 [(0, .ref (ux_ad X 0)), (1, .int v1), (2, .int v2), (3, .int s.1), (4, .int s.2.1), (5, .int s.2.2.1), (6, .int s.2.2.2)] [] N L) (hex0 : ∀ e : Int32 × Int32 × Int32, o = .inr (e) → ux_Wt X 7 149 [(2, .int v2), (3, .int e.1), (4, .int e.2.1), (5, .int e.2.2)] [] N L) (h : fX12_all_53b_111 v1 v2 v3 v5 v6 s0 s1 N = some o) : ux_Wt X 7 111 [(0, .ref (ux_ad X 0)), (1, .int v1), (2, .int v2), (3, .int v3), (5, .int v5), (6, .int v6)] [.int s0, .int s1] N L := by
  refine wt_iadd 112 C dX12_all_111 rfl ?_
  refine wt_istore 114 [(4, .int (s1 + s0)), (0, .ref (ux_ad X 0)), (1, .int v1), (2, .int v2), (3, .int v3), (5, .int v5), (6, .int v6)] C dX12_all_112 rfl (by decide) rfl ?_
  refine wt_iload 116 5 C dX12_all_114 rfl rfl ?_
  refine wt_aload_n 117 1 C dX12_all_116 rfl rfl ?_
  refine wt_getR 120 C kfX12_35 sm_0 rfl dX12_all_117 rfl ?_
  refine wt_iload 122 6 C dX12_all_120 rfl rfl ?_
  obtain ⟨hi1, h⟩ := ux_guard h
  refine wt_iald 123 (v6.toNatClampNeg) C sm_9 rfl hi1 dX12_all_122 rfl ?_
  refine wt_iconst 124 2 C dX12_all_123 rfl (by decide) ?_
  refine wt_icmp_ne 127 139 C dX12_all_124 rfl (by decide) (fun q2 => ?_) (fun q2 => ?_)
  · have h := (if_neg q2).symm.trans h
    refine wt_iconst 140 0 C dX12_all_139 rfl (by decide) ?_
    refine wt_sub [1, 2, 3, 4, 0, 6] rfl ?_
    exact wX12_all_53b_140 C hin hex0 h
  · have h := (if_pos q2).symm.trans h
    refine wt_iconst 128 1 C dX12_all_127 rfl (by decide) ?_
    refine wt_aload_n 129 1 C dX12_all_128 rfl rfl ?_
    refine wt_getR 132 C kfX12_38 sm_0 rfl dX12_all_129 rfl ?_
    refine wt_iload 134 6 C dX12_all_132 rfl rfl ?_
    obtain ⟨hi3, h⟩ := ux_guard h
    refine wt_iald 135 (v6.toNatClampNeg) C sm_10 rfl hi3 dX12_all_134 rfl ?_
    refine wt_ishl 136 C dX12_all_135 rfl ?_
    refine wt_goto 140 C dX12_all_136 (by decide) ?_
    refine wt_sub [1, 2, 3, 4, 0, 6] rfl ?_
    exact wX12_all_53b_140 C hin hex0 h
def fX12_all_53b_85 (v1 : Int32) (v2 : Int32) (v4 : Int32) (v5 : Int32) (v6 : Int32) (s0 : Int32) (s1 : Int32) (N : ux_N) : Option ((Int32 × Int32 × Int32 × Int32) ⊕ (Int32 × Int32 × Int32)) :=
  if ux_in v6 24 then (if (N 9 (v6.toNatClampNeg)) = (1 : Int32) then (if ux_in v6 24 then (fX12_all_53b_111 v1 v2 (s1 + s0) v5 v6 (N 10 (v6.toNatClampNeg)) v4 N) else none) else (fX12_all_53b_111 v1 v2 (s1 + s0) v5 v6 (0 : Int32) v4 N)) else none
set_option maxHeartbeats 4000000 in
set_option maxRecDepth 20000 in
theorem wX12_all_53b_85 {X : ux_X} (C : ux_C X cX12_all RX12 7 (some .int) 2 45 shM) {v1 : Int32} {v2 : Int32} {v4 : Int32} {v5 : Int32} {v6 : Int32} {s0 : Int32} {s1 : Int32}  {N : ux_N} {L : ux_L} {o : (Int32 × Int32 × Int32 × Int32) ⊕ (Int32 × Int32 × Int32)} (hin : ∀ s : Int32 × Int32 × Int32 × Int32, o = .inl s → ux_Wt X 7 53 [(0, .ref (ux_ad X 0)), (1, .int v1), (2, .int v2), (3, .int s.1), (4, .int s.2.1), (5, .int s.2.2.1), (6, .int s.2.2.2)] [] N L) (hex0 : ∀ e : Int32 × Int32 × Int32, o = .inr (e) → ux_Wt X 7 149 [(2, .int v2), (3, .int e.1), (4, .int e.2.1), (5, .int e.2.2)] [] N L) (h : fX12_all_53b_85 v1 v2 v4 v5 v6 s0 s1 N = some o) : ux_Wt X 7 85 [(0, .ref (ux_ad X 0)), (1, .int v1), (2, .int v2), (4, .int v4), (5, .int v5), (6, .int v6)] [.int s0, .int s1] N L := by
  refine wt_iadd 86 C dX12_all_85 rfl ?_
  refine wt_istore_n 87 [(3, .int (s1 + s0)), (0, .ref (ux_ad X 0)), (1, .int v1), (2, .int v2), (4, .int v4), (5, .int v5), (6, .int v6)] C dX12_all_86 rfl (by decide) rfl ?_
  refine wt_iload 89 4 C dX12_all_87 rfl rfl ?_
  refine wt_aload_n 90 1 C dX12_all_89 rfl rfl ?_
  refine wt_getR 93 C kfX12_35 sm_0 rfl dX12_all_90 rfl ?_
  refine wt_iload 95 6 C dX12_all_93 rfl rfl ?_
  obtain ⟨hi1, h⟩ := ux_guard h
  refine wt_iald 96 (v6.toNatClampNeg) C sm_9 rfl hi1 dX12_all_95 rfl ?_
  refine wt_iconst 97 1 C dX12_all_96 rfl (by decide) ?_
  refine wt_icmp_ne 100 110 C dX12_all_97 rfl (by decide) (fun q2 => ?_) (fun q2 => ?_)
  · have h := (if_neg q2).symm.trans h
    refine wt_iconst 111 0 C dX12_all_110 rfl (by decide) ?_
    refine wt_sub [1, 2, 3, 0, 5, 6] rfl ?_
    exact wX12_all_53b_111 C hin hex0 h
  · have h := (if_pos q2).symm.trans h
    refine wt_aload_n 101 1 C dX12_all_100 rfl rfl ?_
    refine wt_getR 104 C kfX12_38 sm_0 rfl dX12_all_101 rfl ?_
    refine wt_iload 106 6 C dX12_all_104 rfl rfl ?_
    obtain ⟨hi3, h⟩ := ux_guard h
    refine wt_iald 107 (v6.toNatClampNeg) C sm_10 rfl hi3 dX12_all_106 rfl ?_
    refine wt_goto 111 C dX12_all_107 (by decide) ?_
    refine wt_sub [1, 2, 3, 0, 5, 6] rfl ?_
    exact wX12_all_53b_111 C hin hex0 h
def fX12_all_53b (v1 : Int32) (v2 : Int32) (v3 : Int32) (v4 : Int32) (v5 : Int32) (v6 : Int32) (N : ux_N) : Option ((Int32 × Int32 × Int32 × Int32) ⊕ (Int32 × Int32 × Int32)) :=
  if ux_in v1 3 then (if (((8 : Int32) * v1) + (N 8 (v1.toNatClampNeg))) ≤ v6 then (some (.inr ((v3, v4, v5)))) else (if ux_in v6 24 then (if (N 9 (v6.toNatClampNeg)) = 0 then (fX12_all_53b_85 v1 v2 v4 v5 v6 (1 : Int32) v3 N) else (fX12_all_53b_85 v1 v2 v4 v5 v6 (0 : Int32) v3 N)) else none)) else none
set_option maxHeartbeats 4000000 in
set_option maxRecDepth 20000 in
theorem wX12_all_53b {X : ux_X} (C : ux_C X cX12_all RX12 7 (some .int) 2 45 shM) {v1 : Int32} {v2 : Int32} {v3 : Int32} {v4 : Int32} {v5 : Int32} {v6 : Int32}  {N : ux_N} {L : ux_L} {o : (Int32 × Int32 × Int32 × Int32) ⊕ (Int32 × Int32 × Int32)} (hin : ∀ s : Int32 × Int32 × Int32 × Int32, o = .inl s → ux_Wt X 7 53 [(0, .ref (ux_ad X 0)), (1, .int v1), (2, .int v2), (3, .int s.1), (4, .int s.2.1), (5, .int s.2.2.1), (6, .int s.2.2.2)] [] N L) (hex0 : ∀ e : Int32 × Int32 × Int32, o = .inr (e) → ux_Wt X 7 149 [(2, .int v2), (3, .int e.1), (4, .int e.2.1), (5, .int e.2.2)] [] N L) (h : fX12_all_53b v1 v2 v3 v4 v5 v6 N = some o) : ux_Wt X 7 53 [(0, .ref (ux_ad X 0)), (1, .int v1), (2, .int v2), (3, .int v3), (4, .int v4), (5, .int v5), (6, .int v6)] [] N L := by
  refine wt_iload 55 6 C dX12_all_53 rfl rfl ?_
  refine wt_bipush 57 8 C dX12_all_55 rfl (by decide) ?_
  refine wt_iload_n 58 1 C dX12_all_57 rfl rfl ?_
  refine wt_imul 59 C dX12_all_58 rfl ?_
  refine wt_aload_n 60 0 C dX12_all_59 rfl rfl ?_
  refine wt_getR 63 C kfX12_32 sm_0 rfl dX12_all_60 rfl ?_
  refine wt_iload_n 64 1 C dX12_all_63 rfl rfl ?_
  obtain ⟨hi1, h⟩ := ux_guard h
  refine wt_iald 65 (v1.toNatClampNeg) C sm_8 rfl hi1 dX12_all_64 rfl ?_
  refine wt_iadd 66 C dX12_all_65 rfl ?_
  refine wt_icmp_ge 69 149 C dX12_all_66 rfl (by decide) (fun q2 => ?_) (fun q2 => ?_)
  · have h := (if_pos q2).symm.trans h
    refine wt_sub [2, 3, 4, 5] rfl ?_
    exact hex0 _ (Option.some.inj h).symm
  · have h := (if_neg q2).symm.trans h
    refine wt_iload_n 70 3 C dX12_all_69 rfl rfl ?_
    refine wt_aload_n 71 0 C dX12_all_70 rfl rfl ?_
    refine wt_getR 74 C kfX12_35 sm_0 rfl dX12_all_71 rfl ?_
    refine wt_iload 76 6 C dX12_all_74 rfl rfl ?_
    obtain ⟨hi3, h⟩ := ux_guard h
    refine wt_iald 77 (v6.toNatClampNeg) C sm_9 rfl hi3 dX12_all_76 rfl ?_
    refine wt_if_ne 80 84 C dX12_all_77 rfl (by decide) (fun q4 => ?_) (fun q4 => ?_)
    · have h := (if_neg q4).symm.trans h
      refine wt_iconst 85 0 C dX12_all_84 rfl (by decide) ?_
      refine wt_sub [0, 1, 2, 4, 5, 6] rfl ?_
      exact wX12_all_53b_85 C hin hex0 h
    · have h := (if_pos q4).symm.trans h
      refine wt_iconst 81 1 C dX12_all_80 rfl (by decide) ?_
      refine wt_goto 85 C dX12_all_81 (by decide) ?_
      refine wt_sub [0, 1, 2, 4, 5, 6] rfl ?_
      exact wX12_all_53b_85 C hin hex0 h
def fX12_all_169 (s0 : Int32) (N : ux_N) : Option (Int32) :=
  some s0
set_option maxHeartbeats 4000000 in
set_option maxRecDepth 20000 in
theorem wX12_all_169 {X : ux_X} (C : ux_C X cX12_all RX12 7 (some .int) 2 45 shM) {s0 : Int32}  {N : ux_N} {L : ux_L} {o : Int32} (hq : ux_Qi X o N L) (h : fX12_all_169 s0 N = some o) : ux_Wt X 7 169 [] [.int s0] N L := by
  cases h
  exact wt_iret C hq dX12_all_169
def fX12_all (v1 : Int32) (v2 : Int32) (N : ux_N) : Option (Int32) :=
  (fX12_isTray v1).bind (fun o1 => if o1 = 0 then (some (-2 : Int32)) else ((fX12_in (v2.toInt64) (0 : Int64) (2 : Int64)).bind (fun o4 => if o4 = 0 then (some (-3 : Int32)) else (if ux_in v1 3 then (if 0 ≤ (N 8 (v1.toNatClampNeg)) then ((ux_lp (fun s : Int32 × Int32 × Int32 × Int32 => fX12_all_53b v1 v2 s.1 s.2.1 s.2.2.1 s.2.2.2 N) ux_fu ((0 : Int32), (500000 : Int32), (0 : Int32), ((8 : Int32) * v1))).bind (fun e16 => if v2 = 0 then (fX12_all_169 e16.1 N) else (if v2 = (1 : Int32) then (fX12_all_169 e16.2.1 N) else (fX12_all_169 e16.2.2 N)))) else (some (-11 : Int32))) else none))))
set_option maxHeartbeats 4000000 in
set_option maxRecDepth 20000 in
theorem wX12_all {X : ux_X} (C : ux_C X cX12_all RX12 7 (some .int) 2 45 shM) {v1 : Int32} {v2 : Int32}  {N : ux_N} {L : ux_L} {o : Int32} (hq : ux_Qi X o N L) (h : fX12_all v1 v2 N = some o) : ux_Wt X 7 0 [(0, .ref (ux_ad X 0)), (1, .int v1), (2, .int v2)] [] N L := by
  refine wt_iload_n 1 1 C dX12_all_0 rfl rfl ?_
  obtain ⟨o1, hc2, h⟩ := Option.bind_eq_some_iff.mp h
  refine wt_callSi 4 [] C ksX12_292 (mX12_isTray (cx_ok C)  hc2) rfl rfl ⟨Nat.le_of_ble_eq_true rfl, Nat.le_of_ble_eq_true rfl⟩ (Nat.le_of_ble_eq_true rfl) dX12_all_1 rfl ?_
  refine wt_if_ne 7 10 C dX12_all_4 rfl (by decide) (fun q3 => ?_) (fun q3 => ?_)
  · have h := (if_neg q3).symm.trans h
    refine wt_iload_n 11 2 C dX12_all_10 rfl rfl ?_
    refine wt_i2l 12 C dX12_all_11 rfl ?_
    refine wt_lconst 13 0 C dX12_all_12 rfl (by decide) ?_
    refine wt_ldc2 16 C tw_1307 dX12_all_13 rfl ?_
    obtain ⟨o4, hc5, h⟩ := Option.bind_eq_some_iff.mp h
    refine wt_callSi 19 [] C ksX12_94 (mX12_in (cx_ok C)  hc5) rfl rfl ⟨Nat.le_of_ble_eq_true rfl, Nat.le_of_ble_eq_true rfl⟩ (Nat.le_of_ble_eq_true rfl) dX12_all_16 rfl ?_
    refine wt_if_ne 22 25 C dX12_all_19 rfl (by decide) (fun q6 => ?_) (fun q6 => ?_)
    · have h := (if_neg q6).symm.trans h
      refine wt_aload_n 26 0 C dX12_all_25 rfl rfl ?_
      refine wt_getR 29 C kfX12_32 sm_0 rfl dX12_all_26 rfl ?_
      refine wt_iload_n 30 1 C dX12_all_29 rfl rfl ?_
      obtain ⟨hi7, h⟩ := ux_guard h
      refine wt_iald 31 (v1.toNatClampNeg) C sm_8 rfl hi7 dX12_all_30 rfl ?_
      refine wt_if_ge 34 37 C dX12_all_31 rfl (by decide) (fun q8 => ?_) (fun q8 => ?_)
      · have h := (if_pos q8).symm.trans h
        refine wt_iconst 38 0 C dX12_all_37 rfl (by decide) ?_
        refine wt_istore_n 39 [(3, .int (0 : Int32)), (0, .ref (ux_ad X 0)), (1, .int v1), (2, .int v2)] C dX12_all_38 rfl (by decide) rfl ?_
        refine wt_ldcw 42 C tw_1435 dX12_all_39 rfl ?_
        refine wt_istore 44 [(4, .int (500000 : Int32)), (3, .int (0 : Int32)), (0, .ref (ux_ad X 0)), (1, .int v1), (2, .int v2)] C dX12_all_42 rfl (by decide) rfl ?_
        refine wt_iconst 45 0 C dX12_all_44 rfl (by decide) ?_
        refine wt_istore 47 [(5, .int (0 : Int32)), (4, .int (500000 : Int32)), (3, .int (0 : Int32)), (0, .ref (ux_ad X 0)), (1, .int v1), (2, .int v2)] C dX12_all_45 rfl (by decide) rfl ?_
        refine wt_bipush 49 8 C dX12_all_47 rfl (by decide) ?_
        refine wt_iload_n 50 4 C dX12_all_49 rfl rfl ?_
        refine wt_imul 51 C dX12_all_50 rfl ?_
        refine wt_istore 53 [(6, .int ((8 : Int32) * v1)), (5, .int (0 : Int32)), (4, .int (500000 : Int32)), (3, .int (0 : Int32)), (0, .ref (ux_ad X 0)), (1, .int v1), (2, .int v2)] C dX12_all_51 rfl (by decide) rfl ?_
        obtain ⟨e9, hl10, h⟩ := Option.bind_eq_some_iff.mp h
        refine wt_sub [4, 5, 6, 3, 2, 1, 0] rfl ?_
        refine ux_loop (fun s : Int32 × Int32 × Int32 × Int32 => fX12_all_53b v1 v2 s.1 s.2.1 s.2.2.1 s.2.2.2 N) (fun s : Int32 × Int32 × Int32 × Int32 => ux_Wt X 7 53 [(0, .ref (ux_ad X 0)), (1, .int v1), (2, .int v2), (3, .int s.1), (4, .int s.2.1), (5, .int s.2.2.1), (6, .int s.2.2.2)] [] N L) (e := e9) ?_ hl10
        intro s11 o12 hb13 hi14 hx15
        refine wX12_all_53b C hi14 (fun x0 he => ?_) hb13
        · obtain ⟨e16, rfl⟩ : ∃ z, z = x0 := ⟨_, rfl⟩
          have h9 := hx15 _ he
          subst h9
          refine wt_iload_n 150 0 C dX12_all_149 rfl rfl ?_
          refine wt_if_ne 153 157 C dX12_all_150 rfl (by decide) (fun q17 => ?_) (fun q17 => ?_)
          · have h := (if_neg q17).symm.trans h
            refine wt_iload_n 158 0 C dX12_all_157 rfl rfl ?_
            refine wt_iconst 159 1 C dX12_all_158 rfl (by decide) ?_
            refine wt_icmp_ne 162 167 C dX12_all_159 rfl (by decide) (fun q18 => ?_) (fun q18 => ?_)
            · have h := (if_neg q18).symm.trans h
              refine wt_iload 169 3 C dX12_all_167 rfl rfl ?_
              refine wt_sub [] rfl ?_
              exact wX12_all_169 C hq h
            · have h := (if_pos q18).symm.trans h
              refine wt_iload 164 2 C dX12_all_162 rfl rfl ?_
              refine wt_goto 169 C dX12_all_164 (by decide) ?_
              refine wt_sub [] rfl ?_
              exact wX12_all_169 C hq h
          · have h := (if_pos q17).symm.trans h
            refine wt_iload_n 154 1 C dX12_all_153 rfl rfl ?_
            refine wt_goto 169 C dX12_all_154 (by decide) ?_
            refine wt_sub [] rfl ?_
            exact wX12_all_169 C hq h
      · have h := (if_neg q8).symm.trans h
        refine wt_bipush 36 (-11) C dX12_all_34 rfl (by decide) ?_
        cases h
        exact wt_iret C hq dX12_all_36
    · have h := (if_pos q6).symm.trans h
      refine wt_bipush 24 (-3) C dX12_all_22 rfl (by decide) ?_
      cases h
      exact wt_iret C hq dX12_all_24
  · have h := (if_pos q3).symm.trans h
    refine wt_bipush 9 (-2) C dX12_all_7 rfl (by decide) ?_
    cases h
    exact wt_iret C hq dX12_all_9
theorem mX12_all {l : Launch} {G : ux_G} (hok : ux_ok G shM) {v1 : Int32} {v2 : Int32}  {N : ux_N} {L : ux_L} {o : Int32} (h : fX12_all v1 v2 N = some o) : ux_Mi l G yX12_all cX12_all 7 (some .int) 2 45 [.ref (gad G 0), .int v1, .int v2] N L o N L :=
  ux_ofi shM hok (by decide +kernel) (Nat.le_of_ble_eq_true rfl) (fun X hG hl C hq => by subst hG; subst hl; exact wX12_all C  hq h)
def fX12_drop_34 (s0 : Int32) (N : ux_N) : Option (Int32 × ux_N) :=
  some (s0, N)
set_option maxHeartbeats 4000000 in
set_option maxRecDepth 20000 in
theorem wX12_drop_34 {X : ux_X} (C : ux_C X cX12_drop RX12 3 (some .int) 2 45 shM) {s0 : Int32}  {N : ux_N} {L : ux_L} {o : Int32 × ux_N} (hq : ux_Qi X o.1 o.2 L) (h : fX12_drop_34 s0 N = some o) : ux_Wt X 3 34 [] [.int s0] N L := by
  cases h
  exact wt_iret C hq dX12_drop_34
def fX12_drop (v1 : Int32) (N : ux_N) : Option (Int32 × ux_N) :=
  (fX12_isTray v1).bind (fun o1 => if o1 = 0 then (some ((-2 : Int32), N)) else (if ux_in v1 3 then (if ux_in v1 3 then (if 0 ≤ (N 8 (v1.toNatClampNeg)) then (fX12_drop_34 (N 8 (v1.toNatClampNeg)) (ux_u N 8 (v1.toNatClampNeg) (-1 : Int32))) else (fX12_drop_34 (-11 : Int32) (ux_u N 8 (v1.toNatClampNeg) (-1 : Int32)))) else none) else none))
set_option maxHeartbeats 4000000 in
set_option maxRecDepth 20000 in
theorem wX12_drop {X : ux_X} (C : ux_C X cX12_drop RX12 3 (some .int) 2 45 shM) {v1 : Int32}  {N : ux_N} {L : ux_L} {o : Int32 × ux_N} (hq : ux_Qi X o.1 o.2 L) (h : fX12_drop v1 N = some o) : ux_Wt X 3 0 [(0, .ref (ux_ad X 0)), (1, .int v1)] [] N L := by
  refine wt_iload_n 1 1 C dX12_drop_0 rfl rfl ?_
  obtain ⟨o1, hc2, h⟩ := Option.bind_eq_some_iff.mp h
  refine wt_callSi 4 [] C ksX12_292 (mX12_isTray (cx_ok C)  hc2) rfl rfl ⟨Nat.le_of_ble_eq_true rfl, Nat.le_of_ble_eq_true rfl⟩ (Nat.le_of_ble_eq_true rfl) dX12_drop_1 rfl ?_
  refine wt_if_ne 7 10 C dX12_drop_4 rfl (by decide) (fun q3 => ?_) (fun q3 => ?_)
  · have h := (if_neg q3).symm.trans h
    refine wt_aload_n 11 0 C dX12_drop_10 rfl rfl ?_
    refine wt_getR 14 C kfX12_32 sm_0 rfl dX12_drop_11 rfl ?_
    refine wt_iload_n 15 1 C dX12_drop_14 rfl rfl ?_
    obtain ⟨hi4, h⟩ := ux_guard h
    refine wt_iald 16 (v1.toNatClampNeg) C sm_8 rfl hi4 dX12_drop_15 rfl ?_
    refine wt_istore_n 17 [(2, .int (N 8 (v1.toNatClampNeg))), (0, .ref (ux_ad X 0)), (1, .int v1)] C dX12_drop_16 rfl (by decide) rfl ?_
    refine wt_aload_n 18 1 C dX12_drop_17 rfl rfl ?_
    refine wt_getR 21 C kfX12_32 sm_0 rfl dX12_drop_18 rfl ?_
    refine wt_iload_n 22 2 C dX12_drop_21 rfl rfl ?_
    refine wt_iconst 23 (-1) C dX12_drop_22 rfl (by decide) ?_
    obtain ⟨hi5, h⟩ := ux_guard h
    refine wt_iast 24 (v1.toNatClampNeg) C sm_8 rfl hi5 dX12_drop_23 rfl ?_
    refine wt_iload_n 25 0 C dX12_drop_24 rfl rfl ?_
    refine wt_if_ge 28 33 C dX12_drop_25 rfl (by decide) (fun q6 => ?_) (fun q6 => ?_)
    · have h := (if_pos q6).symm.trans h
      refine wt_iload_n 34 0 C dX12_drop_33 rfl rfl ?_
      refine wt_sub [] rfl ?_
      exact wX12_drop_34 C hq h
    · have h := (if_neg q6).symm.trans h
      refine wt_bipush 30 (-11) C dX12_drop_28 rfl (by decide) ?_
      refine wt_goto 34 C dX12_drop_30 (by decide) ?_
      refine wt_sub [] rfl ?_
      exact wX12_drop_34 C hq h
  · have h := (if_pos q3).symm.trans h
    refine wt_bipush 9 (-2) C dX12_drop_7 rfl (by decide) ?_
    cases h
    exact wt_iret C hq dX12_drop_9
theorem mX12_drop {l : Launch} {G : ux_G} (hok : ux_ok G shM) {v1 : Int32}  {N : ux_N} {L : ux_L} {o : Int32 × ux_N} (h : fX12_drop v1 N = some o) : ux_Mi l G yX12_drop cX12_drop 3 (some .int) 2 45 [.ref (gad G 0), .int v1] N L o.1 o.2 L :=
  ux_ofi shM hok (by decide +kernel) (Nat.le_of_ble_eq_true rfl) (fun X hG hl C hq => by subst hG; subst hl; exact wX12_drop C  hq h)
def fX12_spare_26b_59 (v2 : Int32) (s0 : Int32) (s1 : Int32) (N : ux_N) (L : ux_L) : Option ((Int32 × Int32) ⊕ (Int32)) :=
  some (.inl ((s1 &&& s0), (v2 + 1)))
set_option maxHeartbeats 4000000 in
set_option maxRecDepth 20000 in
theorem wX12_spare_26b_59 {X : ux_X} (C : ux_C X cX12_spare RX12 3 (some .int) 9 206 shM) {v2 : Int32} {s0 : Int32} {s1 : Int32}  {N : ux_N} {L : ux_L} {o : (Int32 × Int32) ⊕ (Int32)} (hin : ∀ s : Int32 × Int32, o = .inl s → ux_Wt X 3 26 [(0, .ref (ux_ad X 0)), (1, .int s.1), (2, .int s.2)] [] N L) (hex0 : ∀ e : Int32, o = .inr (e) → ux_Wt X 3 67 [(1, .int e)] [] N L) (h : fX12_spare_26b_59 v2 s0 s1 N L = some o) : ux_Wt X 3 59 [(0, .ref (ux_ad X 0)), (2, .int v2)] [.int s0, .int s1] N L := by
  refine wt_iand 60 C dX12_spare_59 rfl ?_
  refine wt_istore_n 61 [(1, .int (s1 &&& s0)), (0, .ref (ux_ad X 0)), (2, .int v2)] C dX12_spare_60 rfl (by decide) rfl ?_
  refine wt_iinc 64 2 [(2, .int (v2 + 1)), (1, .int (s1 &&& s0)), (0, .ref (ux_ad X 0))] (v2 + 1) C dX12_spare_61 rfl rfl (by rfl) (by decide) rfl ?_
  refine wt_goto 26 C dX12_spare_64 (by decide) ?_
  refine wt_sub [2, 1, 0] rfl ?_
  exact hin _ (Option.some.inj h).symm
def fX12_spare_26b (v1 : Int32) (v2 : Int32) (N : ux_N) (L : ux_L) : Option ((Int32 × Int32) ⊕ (Int32)) :=
  if (N 0 2) ≤ v2 then (some (.inr (v1))) else (if ux_in v2 10 then (if (N 17 (v2.toNatClampNeg)) = (-1 : Int32) then (fX12_spare_26b_59 v2 v1 v1 N L) else (if ux_in v2 10 then (fX12_spare_26b_59 v2 (((1 : Int32) <<< ((N 17 (v2.toNatClampNeg)) &&& 31)) ^^^ (-1 : Int32)) v1 N L) else none)) else none)
set_option maxHeartbeats 4000000 in
set_option maxRecDepth 20000 in
theorem wX12_spare_26b {X : ux_X} (C : ux_C X cX12_spare RX12 3 (some .int) 9 206 shM) {v1 : Int32} {v2 : Int32}  {N : ux_N} {L : ux_L} {o : (Int32 × Int32) ⊕ (Int32)} (hin : ∀ s : Int32 × Int32, o = .inl s → ux_Wt X 3 26 [(0, .ref (ux_ad X 0)), (1, .int s.1), (2, .int s.2)] [] N L) (hex0 : ∀ e : Int32, o = .inr (e) → ux_Wt X 3 67 [(1, .int e)] [] N L) (h : fX12_spare_26b v1 v2 N L = some o) : ux_Wt X 3 26 [(0, .ref (ux_ad X 0)), (1, .int v1), (2, .int v2)] [] N L := by
  refine wt_iload_n 27 2 C dX12_spare_26 rfl rfl ?_
  refine wt_aload_n 28 0 C dX12_spare_27 rfl rfl ?_
  refine wt_getI 31 C kfX12_86 sm_0 rfl dX12_spare_28 rfl ?_
  refine wt_icmp_ge 34 67 C dX12_spare_31 rfl (by decide) (fun q1 => ?_) (fun q1 => ?_)
  · have h := (if_pos q1).symm.trans h
    refine wt_sub [1] rfl ?_
    exact hex0 _ (Option.some.inj h).symm
  · have h := (if_neg q1).symm.trans h
    refine wt_iload_n 35 1 C dX12_spare_34 rfl rfl ?_
    refine wt_aload_n 36 0 C dX12_spare_35 rfl rfl ?_
    refine wt_getR 39 C kfX12_72 sm_0 rfl dX12_spare_36 rfl ?_
    refine wt_iload_n 40 2 C dX12_spare_39 rfl rfl ?_
    obtain ⟨hi2, h⟩ := ux_guard h
    refine wt_iald 41 (v2.toNatClampNeg) C sm_17 rfl hi2 dX12_spare_40 rfl ?_
    refine wt_iconst 42 (-1) C dX12_spare_41 rfl (by decide) ?_
    refine wt_icmp_ne 45 49 C dX12_spare_42 rfl (by decide) (fun q3 => ?_) (fun q3 => ?_)
    · have h := (if_neg q3).symm.trans h
      refine wt_iconst 50 1 C dX12_spare_49 rfl (by decide) ?_
      refine wt_aload_n 51 0 C dX12_spare_50 rfl rfl ?_
      refine wt_getR 54 C kfX12_72 sm_0 rfl dX12_spare_51 rfl ?_
      refine wt_iload_n 55 2 C dX12_spare_54 rfl rfl ?_
      obtain ⟨hi4, h⟩ := ux_guard h
      refine wt_iald 56 (v2.toNatClampNeg) C sm_17 rfl hi4 dX12_spare_55 rfl ?_
      refine wt_ishl 57 C dX12_spare_56 rfl ?_
      refine wt_iconst 58 (-1) C dX12_spare_57 rfl (by decide) ?_
      refine wt_ixor 59 C dX12_spare_58 rfl ?_
      refine wt_sub [0, 2] rfl ?_
      exact wX12_spare_26b_59 C hin hex0 h
    · have h := (if_pos q3).symm.trans h
      refine wt_iload_n 46 1 C dX12_spare_45 rfl rfl ?_
      refine wt_goto 59 C dX12_spare_46 (by decide) ?_
      refine wt_sub [0, 2] rfl ?_
      exact wX12_spare_26b_59 C hin hex0 h
def fX12_spare (N : ux_N) (L : ux_L) : Option (Int32 × ux_N × ux_L) :=
  (fX12_layServes N L).bind (fun o1 => (ux_lp (fun s : Int32 × Int32 => fX12_spare_26b s.1 s.2 o1.1 o1.2) ux_fu (((((1 : Int32) <<< ((o1.1 1 0) &&& 31)) - (1 : Int32)) &&& ((o1.1 1 1) ^^^ (-1 : Int32))), (0 : Int32))).bind (fun e10 => some (e10, o1.1, o1.2)))
set_option maxHeartbeats 4000000 in
set_option maxRecDepth 20000 in
theorem wX12_spare {X : ux_X} (C : ux_C X cX12_spare RX12 3 (some .int) 9 206 shM)   {N : ux_N} {L : ux_L} {o : Int32 × ux_N × ux_L} (hq : ux_Qi X o.1 o.2.1 o.2.2) (h : fX12_spare N L = some o) : ux_Wt X 3 0 [(0, .ref (ux_ad X 0))] [] N L := by
  refine wt_aload_n 1 0 C dX12_spare_0 rfl rfl ?_
  obtain ⟨o1, hc2, h⟩ := Option.bind_eq_some_iff.mp h
  refine wt_callVv 4 [] C kvX12_242 sm_0 (mX12_layServes (cx_ok C)  hc2) rfl rfl ⟨Nat.le_of_ble_eq_true rfl, Nat.le_of_ble_eq_true rfl⟩ (Nat.le_of_ble_eq_true rfl) dX12_spare_1 rfl ?_
  refine wt_iconst 5 1 C dX12_spare_4 rfl (by decide) ?_
  refine wt_aload_n 6 0 C dX12_spare_5 rfl rfl ?_
  refine wt_getR 9 C kfX12_7 sm_0 rfl dX12_spare_6 rfl ?_
  refine wt_iconst 10 0 C dX12_spare_9 rfl (by decide) ?_
  refine wt_iald 11 0 C sm_1 (by decide) (by decide) dX12_spare_10 rfl ?_
  refine wt_ishl 12 C dX12_spare_11 rfl ?_
  refine wt_iconst 13 1 C dX12_spare_12 rfl (by decide) ?_
  refine wt_isub 14 C dX12_spare_13 rfl ?_
  refine wt_aload_n 15 0 C dX12_spare_14 rfl rfl ?_
  refine wt_getR 18 C kfX12_7 sm_0 rfl dX12_spare_15 rfl ?_
  refine wt_iconst 19 1 C dX12_spare_18 rfl (by decide) ?_
  refine wt_iald 20 1 C sm_1 (by decide) (by decide) dX12_spare_19 rfl ?_
  refine wt_iconst 21 (-1) C dX12_spare_20 rfl (by decide) ?_
  refine wt_ixor 22 C dX12_spare_21 rfl ?_
  refine wt_iand 23 C dX12_spare_22 rfl ?_
  refine wt_istore_n 24 [(1, .int ((((1 : Int32) <<< ((o1.1 1 0) &&& 31)) - (1 : Int32)) &&& ((o1.1 1 1) ^^^ (-1 : Int32)))), (0, .ref (ux_ad X 0))] C dX12_spare_23 rfl (by decide) rfl ?_
  refine wt_iconst 25 0 C dX12_spare_24 rfl (by decide) ?_
  refine wt_istore_n 26 [(2, .int (0 : Int32)), (1, .int ((((1 : Int32) <<< ((o1.1 1 0) &&& 31)) - (1 : Int32)) &&& ((o1.1 1 1) ^^^ (-1 : Int32)))), (0, .ref (ux_ad X 0))] C dX12_spare_25 rfl (by decide) rfl ?_
  obtain ⟨e3, hl4, h⟩ := Option.bind_eq_some_iff.mp h
  refine wt_sub [2, 1, 0] rfl ?_
  refine ux_loop (fun s : Int32 × Int32 => fX12_spare_26b s.1 s.2 o1.1 o1.2) (fun s : Int32 × Int32 => ux_Wt X 3 26 [(0, .ref (ux_ad X 0)), (1, .int s.1), (2, .int s.2)] [] o1.1 o1.2) (e := e3) ?_ hl4
  intro s5 o6 hb7 hi8 hx9
  refine wX12_spare_26b C hi8 (fun x0 he => ?_) hb7
  · obtain ⟨e10, rfl⟩ : ∃ z, z = x0 := ⟨_, rfl⟩
    have h9 := hx9 _ he
    subst h9
    refine wt_iload_n 68 0 C dX12_spare_67 rfl rfl ?_
    cases h
    exact wt_iret C hq dX12_spare_68
theorem mX12_spare {l : Launch} {G : ux_G} (hok : ux_ok G shM)   {N : ux_N} {L : ux_L} {o : Int32 × ux_N × ux_L} (h : fX12_spare N L = some o) : ux_Mi l G yX12_spare cX12_spare 3 (some .int) 9 206 [.ref (gad G 0)] N L o.1 o.2.1 o.2.2 :=
  ux_ofi shM hok (by decide +kernel) (Nat.le_of_ble_eq_true rfl) (fun X hG hl C hq => by subst hG; subst hl; exact wX12_spare C  hq h)
def fX12_allThings_4b_29 (v2 : Int32) (s0 : Int32) (s1 : Int32) (N : ux_N) : Option ((Int32 × Int32) ⊕ (Int32)) :=
  some (.inl ((s1 + s0), (v2 + 1)))
set_option maxHeartbeats 4000000 in
set_option maxRecDepth 20000 in
theorem wX12_allThings_4b_29 {X : ux_X} (C : ux_C X cX12_allThings RX12 3 (some .int) 0 0 shM) {v2 : Int32} {s0 : Int32} {s1 : Int32}  {N : ux_N} {L : ux_L} {o : (Int32 × Int32) ⊕ (Int32)} (hin : ∀ s : Int32 × Int32, o = .inl s → ux_Wt X 3 4 [(0, .ref (ux_ad X 0)), (1, .int s.1), (2, .int s.2)] [] N L) (hex0 : ∀ e : Int32, o = .inr (e) → ux_Wt X 3 37 [(1, .int e)] [] N L) (h : fX12_allThings_4b_29 v2 s0 s1 N = some o) : ux_Wt X 3 29 [(0, .ref (ux_ad X 0)), (2, .int v2)] [.int s0, .int s1] N L := by
  refine wt_iadd 30 C dX12_allThings_29 rfl ?_
  refine wt_istore_n 31 [(1, .int (s1 + s0)), (0, .ref (ux_ad X 0)), (2, .int v2)] C dX12_allThings_30 rfl (by decide) rfl ?_
  refine wt_iinc 34 2 [(2, .int (v2 + 1)), (1, .int (s1 + s0)), (0, .ref (ux_ad X 0))] (v2 + 1) C dX12_allThings_31 rfl rfl (by rfl) (by decide) rfl ?_
  refine wt_goto 4 C dX12_allThings_34 (by decide) ?_
  refine wt_sub [2, 1, 0] rfl ?_
  exact hin _ (Option.some.inj h).symm
def fX12_allThings_4b (v1 : Int32) (v2 : Int32) (N : ux_N) : Option ((Int32 × Int32) ⊕ (Int32)) :=
  if (3 : Int32) ≤ v2 then (some (.inr (v1))) else (if ux_in v2 3 then (if 0 ≤ (N 8 (v2.toNatClampNeg)) then (if ux_in v2 3 then (fX12_allThings_4b_29 v2 (N 8 (v2.toNatClampNeg)) v1 N) else none) else (fX12_allThings_4b_29 v2 (0 : Int32) v1 N)) else none)
set_option maxHeartbeats 4000000 in
set_option maxRecDepth 20000 in
theorem wX12_allThings_4b {X : ux_X} (C : ux_C X cX12_allThings RX12 3 (some .int) 0 0 shM) {v1 : Int32} {v2 : Int32}  {N : ux_N} {L : ux_L} {o : (Int32 × Int32) ⊕ (Int32)} (hin : ∀ s : Int32 × Int32, o = .inl s → ux_Wt X 3 4 [(0, .ref (ux_ad X 0)), (1, .int s.1), (2, .int s.2)] [] N L) (hex0 : ∀ e : Int32, o = .inr (e) → ux_Wt X 3 37 [(1, .int e)] [] N L) (h : fX12_allThings_4b v1 v2 N = some o) : ux_Wt X 3 4 [(0, .ref (ux_ad X 0)), (1, .int v1), (2, .int v2)] [] N L := by
  refine wt_iload_n 5 2 C dX12_allThings_4 rfl rfl ?_
  refine wt_iconst 6 3 C dX12_allThings_5 rfl (by decide) ?_
  refine wt_icmp_ge 9 37 C dX12_allThings_6 rfl (by decide) (fun q1 => ?_) (fun q1 => ?_)
  · have h := (if_pos q1).symm.trans h
    refine wt_sub [1] rfl ?_
    exact hex0 _ (Option.some.inj h).symm
  · have h := (if_neg q1).symm.trans h
    refine wt_iload_n 10 1 C dX12_allThings_9 rfl rfl ?_
    refine wt_aload_n 11 0 C dX12_allThings_10 rfl rfl ?_
    refine wt_getR 14 C kfX12_32 sm_0 rfl dX12_allThings_11 rfl ?_
    refine wt_iload_n 15 2 C dX12_allThings_14 rfl rfl ?_
    obtain ⟨hi2, h⟩ := ux_guard h
    refine wt_iald 16 (v2.toNatClampNeg) C sm_8 rfl hi2 dX12_allThings_15 rfl ?_
    refine wt_if_ge 19 23 C dX12_allThings_16 rfl (by decide) (fun q3 => ?_) (fun q3 => ?_)
    · have h := (if_pos q3).symm.trans h
      refine wt_aload_n 24 0 C dX12_allThings_23 rfl rfl ?_
      refine wt_getR 27 C kfX12_32 sm_0 rfl dX12_allThings_24 rfl ?_
      refine wt_iload_n 28 2 C dX12_allThings_27 rfl rfl ?_
      obtain ⟨hi4, h⟩ := ux_guard h
      refine wt_iald 29 (v2.toNatClampNeg) C sm_8 rfl hi4 dX12_allThings_28 rfl ?_
      refine wt_sub [0, 2] rfl ?_
      exact wX12_allThings_4b_29 C hin hex0 h
    · have h := (if_neg q3).symm.trans h
      refine wt_iconst 20 0 C dX12_allThings_19 rfl (by decide) ?_
      refine wt_goto 29 C dX12_allThings_20 (by decide) ?_
      refine wt_sub [0, 2] rfl ?_
      exact wX12_allThings_4b_29 C hin hex0 h
def fX12_allThings (N : ux_N) : Option (Int32) :=
  (ux_lp (fun s : Int32 × Int32 => fX12_allThings_4b s.1 s.2 N) ux_fu ((0 : Int32), (0 : Int32))).bind (fun e8 => some e8)
set_option maxHeartbeats 4000000 in
set_option maxRecDepth 20000 in
theorem wX12_allThings {X : ux_X} (C : ux_C X cX12_allThings RX12 3 (some .int) 0 0 shM)   {N : ux_N} {L : ux_L} {o : Int32} (hq : ux_Qi X o N L) (h : fX12_allThings N = some o) : ux_Wt X 3 0 [(0, .ref (ux_ad X 0))] [] N L := by
  refine wt_iconst 1 0 C dX12_allThings_0 rfl (by decide) ?_
  refine wt_istore_n 2 [(1, .int (0 : Int32)), (0, .ref (ux_ad X 0))] C dX12_allThings_1 rfl (by decide) rfl ?_
  refine wt_iconst 3 0 C dX12_allThings_2 rfl (by decide) ?_
  refine wt_istore_n 4 [(2, .int (0 : Int32)), (1, .int (0 : Int32)), (0, .ref (ux_ad X 0))] C dX12_allThings_3 rfl (by decide) rfl ?_
  obtain ⟨e1, hl2, h⟩ := Option.bind_eq_some_iff.mp h
  refine wt_sub [2, 1, 0] rfl ?_
  refine ux_loop (fun s : Int32 × Int32 => fX12_allThings_4b s.1 s.2 N) (fun s : Int32 × Int32 => ux_Wt X 3 4 [(0, .ref (ux_ad X 0)), (1, .int s.1), (2, .int s.2)] [] N L) (e := e1) ?_ hl2
  intro s3 o4 hb5 hi6 hx7
  refine wX12_allThings_4b C hi6 (fun x0 he => ?_) hb5
  · obtain ⟨e8, rfl⟩ : ∃ z, z = x0 := ⟨_, rfl⟩
    have h9 := hx7 _ he
    subst h9
    refine wt_iload_n 38 0 C dX12_allThings_37 rfl rfl ?_
    cases h
    exact wt_iret C hq dX12_allThings_38
theorem mX12_allThings {l : Launch} {G : ux_G} (hok : ux_ok G shM)   {N : ux_N} {L : ux_L} {o : Int32} (h : fX12_allThings N = some o) : ux_Mi l G yX12_allThings cX12_allThings 3 (some .int) 0 0 [.ref (gad G 0)] N L o N L :=
  ux_ofi shM hok (by decide +kernel) (Nat.le_of_ble_eq_true rfl) (fun X hG hl C hq => by subst hG; subst hl; exact wX12_allThings C  hq h)
def fX12_count (v1 : Int32) (N : ux_N) (L : ux_L) : Option (Int32 × ux_N × ux_L) :=
  if v1 = (0 : Int32) then (some ((N 0 1), N, L)) else (if v1 = (1 : Int32) then (some ((N 0 2), N, L)) else (if v1 = (2 : Int32) then (some ((N 1 0), N, L)) else (if v1 = (3 : Int32) then (some ((N 0 4), N, L)) else (if v1 = (4 : Int32) then ((fX12_rank N L).bind (fun o6 => some (o6.1, N, o6.2))) else (if v1 = (5 : Int32) then ((fX12_wholeRank N).bind (fun o9 => some (o9.1, o9.2, L))) else (if v1 = (6 : Int32) then ((fX12_tree N L).bind (fun o12 => some (o12.1, N, o12.2))) else (if v1 = (7 : Int32) then ((fX12_spare N L).bind (fun o15 => some (o15.1, o15.2.1, o15.2.2))) else (if v1 = (8 : Int32) then (some ((N 1 1), N, L)) else (if v1 = (9 : Int32) then (some ((N 0 12), N, L)) else (if v1 = (10 : Int32) then ((fX12_allThings N).bind (fun o20 => some (o20, N, L))) else (if v1 = (11 : Int32) then (some ((N 0 6), N, L)) else (if v1 = (12 : Int32) then (some ((N 0 9), N, L)) else (if v1 = (13 : Int32) then ((fX12_rank N L).bind (fun o25 => some (((N 0 1) - o25.1), N, o25.2))) else (some ((-3 : Int32), N, L)))))))))))))))
set_option maxHeartbeats 4000000 in
set_option maxRecDepth 20000 in
theorem wX12_count {X : ux_X} (C : ux_C X cX12_count RX12 2 (some .int) 10 228 shM) {v1 : Int32}  {N : ux_N} {L : ux_L} {o : Int32 × ux_N × ux_L} (hq : ux_Qi X o.1 o.2.1 o.2.2) (h : fX12_count v1 N L = some o) : ux_Wt X 2 0 [(0, .ref (ux_ad X 0)), (1, .int v1)] [] N L := by
  refine wt_iload_n 1 1 C dX12_count_0 rfl rfl ?_
  by_cases q1 : v1 = (0 : Int32)
  · have h := (if_pos q1).symm.trans h
    refine wt_tin 72 (0) C dX12_count_1 q1 (by decide) (by decide) rfl (by decide) ?_
    refine wt_aload_n 73 0 C dX12_count_72 rfl rfl ?_
    refine wt_getI 76 C kfX12_82 sm_0 rfl dX12_count_73 rfl ?_
    cases h
    exact wt_iret C hq dX12_count_76
  have h := (if_neg q1).symm.trans h
  by_cases q2 : v1 = (1 : Int32)
  · have h := (if_pos q2).symm.trans h
    refine wt_tin 77 (1) C dX12_count_1 q2 (by decide) (by decide) rfl (by decide) ?_
    refine wt_aload_n 78 0 C dX12_count_77 rfl rfl ?_
    refine wt_getI 81 C kfX12_86 sm_0 rfl dX12_count_78 rfl ?_
    cases h
    exact wt_iret C hq dX12_count_81
  have h := (if_neg q2).symm.trans h
  by_cases q3 : v1 = (2 : Int32)
  · have h := (if_pos q3).symm.trans h
    refine wt_tin 82 (2) C dX12_count_1 q3 (by decide) (by decide) rfl (by decide) ?_
    refine wt_aload_n 83 0 C dX12_count_82 rfl rfl ?_
    refine wt_getR 86 C kfX12_7 sm_0 rfl dX12_count_83 rfl ?_
    refine wt_iconst 87 0 C dX12_count_86 rfl (by decide) ?_
    refine wt_iald 88 0 C sm_1 (by decide) (by decide) dX12_count_87 rfl ?_
    cases h
    exact wt_iret C hq dX12_count_88
  have h := (if_neg q3).symm.trans h
  by_cases q4 : v1 = (3 : Int32)
  · have h := (if_pos q4).symm.trans h
    refine wt_tin 89 (3) C dX12_count_1 q4 (by decide) (by decide) rfl (by decide) ?_
    refine wt_aload_n 90 0 C dX12_count_89 rfl rfl ?_
    refine wt_getI 93 C kfX12_89 sm_0 rfl dX12_count_90 rfl ?_
    cases h
    exact wt_iret C hq dX12_count_93
  have h := (if_neg q4).symm.trans h
  by_cases q5 : v1 = (4 : Int32)
  · have h := (if_pos q5).symm.trans h
    refine wt_tin 94 (4) C dX12_count_1 q5 (by decide) (by decide) rfl (by decide) ?_
    refine wt_aload_n 95 0 C dX12_count_94 rfl rfl ?_
    obtain ⟨o6, hc7, h⟩ := Option.bind_eq_some_iff.mp h
    refine wt_callVi 98 [] C kvX12_223 sm_0 (mX12_rank (cx_ok C)  hc7) rfl rfl ⟨Nat.le_of_ble_eq_true rfl, Nat.le_of_ble_eq_true rfl⟩ (Nat.le_of_ble_eq_true rfl) dX12_count_95 rfl ?_
    cases h
    exact wt_iret C hq dX12_count_98
  have h := (if_neg q5).symm.trans h
  by_cases q8 : v1 = (5 : Int32)
  · have h := (if_pos q8).symm.trans h
    refine wt_tin 99 (5) C dX12_count_1 q8 (by decide) (by decide) rfl (by decide) ?_
    refine wt_aload_n 100 0 C dX12_count_99 rfl rfl ?_
    obtain ⟨o9, hc10, h⟩ := Option.bind_eq_some_iff.mp h
    refine wt_callVi 103 [] C kvX12_270 sm_0 (mX12_wholeRank (cx_ok C)  hc10) rfl rfl ⟨Nat.le_of_ble_eq_true rfl, Nat.le_of_ble_eq_true rfl⟩ (Nat.le_of_ble_eq_true rfl) dX12_count_100 rfl ?_
    cases h
    exact wt_iret C hq dX12_count_103
  have h := (if_neg q8).symm.trans h
  by_cases q11 : v1 = (6 : Int32)
  · have h := (if_pos q11).symm.trans h
    refine wt_tin 104 (6) C dX12_count_1 q11 (by decide) (by decide) rfl (by decide) ?_
    refine wt_aload_n 105 0 C dX12_count_104 rfl rfl ?_
    obtain ⟨o12, hc13, h⟩ := Option.bind_eq_some_iff.mp h
    refine wt_callVi 108 [] C kvX12_226 sm_0 (mX12_tree (cx_ok C)  hc13) rfl rfl ⟨Nat.le_of_ble_eq_true rfl, Nat.le_of_ble_eq_true rfl⟩ (Nat.le_of_ble_eq_true rfl) dX12_count_105 rfl ?_
    cases h
    exact wt_iret C hq dX12_count_108
  have h := (if_neg q11).symm.trans h
  by_cases q14 : v1 = (7 : Int32)
  · have h := (if_pos q14).symm.trans h
    refine wt_tin 109 (7) C dX12_count_1 q14 (by decide) (by decide) rfl (by decide) ?_
    refine wt_aload_n 110 0 C dX12_count_109 rfl rfl ?_
    obtain ⟨o15, hc16, h⟩ := Option.bind_eq_some_iff.mp h
    refine wt_callVi 113 [] C kvX12_303 sm_0 (mX12_spare (cx_ok C)  hc16) rfl rfl ⟨Nat.le_of_ble_eq_true rfl, Nat.le_of_ble_eq_true rfl⟩ (Nat.le_of_ble_eq_true rfl) dX12_count_110 rfl ?_
    cases h
    exact wt_iret C hq dX12_count_113
  have h := (if_neg q14).symm.trans h
  by_cases q17 : v1 = (8 : Int32)
  · have h := (if_pos q17).symm.trans h
    refine wt_tin 114 (8) C dX12_count_1 q17 (by decide) (by decide) rfl (by decide) ?_
    refine wt_aload_n 115 0 C dX12_count_114 rfl rfl ?_
    refine wt_getR 118 C kfX12_7 sm_0 rfl dX12_count_115 rfl ?_
    refine wt_iconst 119 1 C dX12_count_118 rfl (by decide) ?_
    refine wt_iald 120 1 C sm_1 (by decide) (by decide) dX12_count_119 rfl ?_
    cases h
    exact wt_iret C hq dX12_count_120
  have h := (if_neg q17).symm.trans h
  by_cases q18 : v1 = (9 : Int32)
  · have h := (if_pos q18).symm.trans h
    refine wt_tin 121 (9) C dX12_count_1 q18 (by decide) (by decide) rfl (by decide) ?_
    refine wt_aload_n 122 0 C dX12_count_121 rfl rfl ?_
    refine wt_getI 125 C kfX12_283 sm_0 rfl dX12_count_122 rfl ?_
    cases h
    exact wt_iret C hq dX12_count_125
  have h := (if_neg q18).symm.trans h
  by_cases q19 : v1 = (10 : Int32)
  · have h := (if_pos q19).symm.trans h
    refine wt_tin 126 (10) C dX12_count_1 q19 (by decide) (by decide) rfl (by decide) ?_
    refine wt_aload_n 127 0 C dX12_count_126 rfl rfl ?_
    obtain ⟨o20, hc21, h⟩ := Option.bind_eq_some_iff.mp h
    refine wt_callVi 130 [] C kvX12_306 sm_0 (mX12_allThings (cx_ok C)  hc21) rfl rfl ⟨Nat.le_of_ble_eq_true rfl, Nat.le_of_ble_eq_true rfl⟩ (Nat.le_of_ble_eq_true rfl) dX12_count_127 rfl ?_
    cases h
    exact wt_iret C hq dX12_count_130
  have h := (if_neg q19).symm.trans h
  by_cases q22 : v1 = (11 : Int32)
  · have h := (if_pos q22).symm.trans h
    refine wt_tin 131 (11) C dX12_count_1 q22 (by decide) (by decide) rfl (by decide) ?_
    refine wt_aload_n 132 0 C dX12_count_131 rfl rfl ?_
    refine wt_getI 135 C kfX12_176 sm_0 rfl dX12_count_132 rfl ?_
    cases h
    exact wt_iret C hq dX12_count_135
  have h := (if_neg q22).symm.trans h
  by_cases q23 : v1 = (12 : Int32)
  · have h := (if_pos q23).symm.trans h
    refine wt_tin 136 (12) C dX12_count_1 q23 (by decide) (by decide) rfl (by decide) ?_
    refine wt_aload_n 137 0 C dX12_count_136 rfl rfl ?_
    refine wt_getI 140 C kfX12_98 sm_0 rfl dX12_count_137 rfl ?_
    cases h
    exact wt_iret C hq dX12_count_140
  have h := (if_neg q23).symm.trans h
  by_cases q24 : v1 = (13 : Int32)
  · have h := (if_pos q24).symm.trans h
    refine wt_tin 141 (13) C dX12_count_1 q24 (by decide) (by decide) rfl (by decide) ?_
    refine wt_aload_n 142 0 C dX12_count_141 rfl rfl ?_
    refine wt_getI 145 C kfX12_82 sm_0 rfl dX12_count_142 rfl ?_
    refine wt_aload_n 146 0 C dX12_count_145 rfl rfl ?_
    obtain ⟨o25, hc26, h⟩ := Option.bind_eq_some_iff.mp h
    refine wt_callVi 149 [.int (N 0 1)] C kvX12_223 sm_0 (mX12_rank (cx_ok C)  hc26) rfl rfl ⟨Nat.le_of_ble_eq_true rfl, Nat.le_of_ble_eq_true rfl⟩ (Nat.le_of_ble_eq_true rfl) dX12_count_146 rfl ?_
    refine wt_isub 150 C dX12_count_149 rfl ?_
    cases h
    exact wt_iret C hq dX12_count_150
  have h := (if_neg q24).symm.trans h
  refine wt_tout 151 C dX12_count_1 (by have z0 := lv_neT q1 (show (0 : Int32).toInt = 0 from by decide); have z1 := lv_neT q2 (show (1 : Int32).toInt = 1 from by decide); have z2 := lv_neT q3 (show (2 : Int32).toInt = 2 from by decide); have z3 := lv_neT q4 (show (3 : Int32).toInt = 3 from by decide); have z4 := lv_neT q5 (show (4 : Int32).toInt = 4 from by decide); have z5 := lv_neT q8 (show (5 : Int32).toInt = 5 from by decide); have z6 := lv_neT q11 (show (6 : Int32).toInt = 6 from by decide); have z7 := lv_neT q14 (show (7 : Int32).toInt = 7 from by decide); have z8 := lv_neT q17 (show (8 : Int32).toInt = 8 from by decide); have z9 := lv_neT q18 (show (9 : Int32).toInt = 9 from by decide); have z10 := lv_neT q19 (show (10 : Int32).toInt = 10 from by decide); have z11 := lv_neT q22 (show (11 : Int32).toInt = 11 from by decide); have z12 := lv_neT q23 (show (12 : Int32).toInt = 12 from by decide); have z13 := lv_neT q24 (show (13 : Int32).toInt = 13 from by decide); omega) (by decide) ?_
  refine wt_bipush 153 (-3) C dX12_count_151 rfl (by decide) ?_
  cases h
  exact wt_iret C hq dX12_count_153
theorem mX12_count {l : Launch} {G : ux_G} (hok : ux_ok G shM) {v1 : Int32}  {N : ux_N} {L : ux_L} {o : Int32 × ux_N × ux_L} (h : fX12_count v1 N L = some o) : ux_Mi l G yX12_count cX12_count 2 (some .int) 10 228 [.ref (gad G 0), .int v1] N L o.1 o.2.1 o.2.2 :=
  ux_ofi shM hok (by decide +kernel) (Nat.le_of_ble_eq_true rfl) (fun X hG hl C hq => by subst hG; subst hl; exact wX12_count C  hq h)
