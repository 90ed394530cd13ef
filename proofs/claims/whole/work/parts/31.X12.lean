theorem dX12_addMeter_0 : decode cX12_addMeter 0 = .ok (.aload_n 0, 1) := by decide +kernel
theorem dX12_addMeter_1 : decode cX12_addMeter 1 = .ok (.getfield 7, 3) := by decide +kernel
theorem dX12_addMeter_4 : decode cX12_addMeter 4 = .ok (.iconst 0, 1) := by decide +kernel
theorem dX12_addMeter_5 : decode cX12_addMeter 5 = .ok (.iaload, 1) := by decide +kernel
theorem dX12_addMeter_6 : decode cX12_addMeter 6 = .ok (.istore_n 3, 1) := by decide +kernel
theorem dX12_addMeter_7 : decode cX12_addMeter 7 = .ok (.aload_n 0, 1) := by decide +kernel
theorem dX12_addMeter_8 : decode cX12_addMeter 8 = .ok (.getfield 7, 3) := by decide +kernel
theorem dX12_addMeter_11 : decode cX12_addMeter 11 = .ok (.iconst 3, 1) := by decide +kernel
theorem dX12_addMeter_12 : decode cX12_addMeter 12 = .ok (.iload_n 3, 1) := by decide +kernel
theorem dX12_addMeter_13 : decode cX12_addMeter 13 = .ok (.iadd, 1) := by decide +kernel
theorem dX12_addMeter_14 : decode cX12_addMeter 14 = .ok (.iload_n 1, 1) := by decide +kernel
theorem dX12_addMeter_15 : decode cX12_addMeter 15 = .ok (.iastore, 1) := by decide +kernel
theorem dX12_addMeter_16 : decode cX12_addMeter 16 = .ok (.aload_n 0, 1) := by decide +kernel
theorem dX12_addMeter_17 : decode cX12_addMeter 17 = .ok (.getfield 7, 3) := by decide +kernel
theorem dX12_addMeter_20 : decode cX12_addMeter 20 = .ok (.bipush 12, 2) := by decide +kernel
theorem dX12_addMeter_22 : decode cX12_addMeter 22 = .ok (.iload_n 3, 1) := by decide +kernel
theorem dX12_addMeter_23 : decode cX12_addMeter 23 = .ok (.iadd, 1) := by decide +kernel
theorem dX12_addMeter_24 : decode cX12_addMeter 24 = .ok (.iload_n 2, 1) := by decide +kernel
theorem dX12_addMeter_25 : decode cX12_addMeter 25 = .ok (.iastore, 1) := by decide +kernel
theorem dX12_addMeter_26 : decode cX12_addMeter 26 = .ok (.aload_n 0, 1) := by decide +kernel
theorem dX12_addMeter_27 : decode cX12_addMeter 27 = .ok (.getfield 7, 3) := by decide +kernel
theorem dX12_addMeter_30 : decode cX12_addMeter 30 = .ok (.iconst 0, 1) := by decide +kernel
theorem dX12_addMeter_31 : decode cX12_addMeter 31 = .ok (.dup2, 1) := by decide +kernel
theorem dX12_addMeter_32 : decode cX12_addMeter 32 = .ok (.iaload, 1) := by decide +kernel
theorem dX12_addMeter_33 : decode cX12_addMeter 33 = .ok (.iconst 1, 1) := by decide +kernel
theorem dX12_addMeter_34 : decode cX12_addMeter 34 = .ok (.iadd, 1) := by decide +kernel
theorem dX12_addMeter_35 : decode cX12_addMeter 35 = .ok (.iastore, 1) := by decide +kernel
theorem dX12_addMeter_36 : decode cX12_addMeter 36 = .ok (.return_, 1) := by decide +kernel
theorem dX12_does_0 : decode cX12_does 0 = .ok (.iload_n 1, 1) := by decide +kernel
theorem dX12_does_1 : decode cX12_does 1 = .ok (.tableswitch 182 5 7 #[137, 27, 40], 27) := by decide +kernel
theorem dX12_does_28 : decode cX12_does 28 = .ok (.aload_n 0, 1) := by decide +kernel
theorem dX12_does_29 : decode cX12_does 29 = .ok (.aload_n 0, 1) := by decide +kernel
theorem dX12_does_30 : decode cX12_does 30 = .ok (.getfield 41, 3) := by decide +kernel
theorem dX12_does_33 : decode cX12_does 33 = .ok (.iconst 0, 1) := by decide +kernel
theorem dX12_does_34 : decode cX12_does 34 = .ok (.iaload, 1) := by decide +kernel
theorem dX12_does_35 : decode cX12_does 35 = .ok (.invokevirtual 75, 3) := by decide +kernel
theorem dX12_does_38 : decode cX12_does 38 = .ok (.goto 156, 3) := by decide +kernel
theorem dX12_does_41 : decode cX12_does 41 = .ok (.aload_n 0, 1) := by decide +kernel
theorem dX12_does_42 : decode cX12_does 42 = .ok (.getfield 13, 3) := by decide +kernel
theorem dX12_does_45 : decode cX12_does 45 = .ok (.iconst 2, 1) := by decide +kernel
theorem dX12_does_46 : decode cX12_does 46 = .ok (.aload_n 0, 1) := by decide +kernel
theorem dX12_does_47 : decode cX12_does 47 = .ok (.getfield 86, 3) := by decide +kernel
theorem dX12_does_50 : decode cX12_does 50 = .ok (.imul, 1) := by decide +kernel
theorem dX12_does_51 : decode cX12_does 51 = .ok (.aload_n 0, 1) := by decide +kernel
theorem dX12_does_52 : decode cX12_does 52 = .ok (.getfield 41, 3) := by decide +kernel
theorem dX12_does_55 : decode cX12_does 55 = .ok (.iconst 0, 1) := by decide +kernel
theorem dX12_does_56 : decode cX12_does 56 = .ok (.iaload, 1) := by decide +kernel
theorem dX12_does_57 : decode cX12_does 57 = .ok (.aload_n 0, 1) := by decide +kernel
theorem dX12_does_58 : decode cX12_does 58 = .ok (.getfield 41, 3) := by decide +kernel
theorem dX12_does_61 : decode cX12_does 61 = .ok (.iconst 1, 1) := by decide +kernel
theorem dX12_does_62 : decode cX12_does 62 = .ok (.iaload, 1) := by decide +kernel
theorem dX12_does_63 : decode cX12_does 63 = .ok (.if_icmp .ge 12, 3) := by decide +kernel
theorem dX12_does_66 : decode cX12_does 66 = .ok (.aload_n 0, 1) := by decide +kernel
theorem dX12_does_67 : decode cX12_does 67 = .ok (.getfield 41, 3) := by decide +kernel
theorem dX12_does_70 : decode cX12_does 70 = .ok (.iconst 0, 1) := by decide +kernel
theorem dX12_does_71 : decode cX12_does 71 = .ok (.iaload, 1) := by decide +kernel
theorem dX12_does_72 : decode cX12_does 72 = .ok (.goto 9, 3) := by decide +kernel
theorem dX12_does_75 : decode cX12_does 75 = .ok (.aload_n 0, 1) := by decide +kernel
theorem dX12_does_76 : decode cX12_does 76 = .ok (.getfield 41, 3) := by decide +kernel
theorem dX12_does_79 : decode cX12_does 79 = .ok (.iconst 1, 1) := by decide +kernel
theorem dX12_does_80 : decode cX12_does 80 = .ok (.iaload, 1) := by decide +kernel
theorem dX12_does_81 : decode cX12_does 81 = .ok (.iastore, 1) := by decide +kernel
theorem dX12_does_82 : decode cX12_does 82 = .ok (.aload_n 0, 1) := by decide +kernel
theorem dX12_does_83 : decode cX12_does 83 = .ok (.getfield 13, 3) := by decide +kernel
theorem dX12_does_86 : decode cX12_does 86 = .ok (.iconst 2, 1) := by decide +kernel
theorem dX12_does_87 : decode cX12_does 87 = .ok (.aload_n 0, 1) := by decide +kernel
theorem dX12_does_88 : decode cX12_does 88 = .ok (.getfield 86, 3) := by decide +kernel
theorem dX12_does_91 : decode cX12_does 91 = .ok (.imul, 1) := by decide +kernel
theorem dX12_does_92 : decode cX12_does 92 = .ok (.iconst 1, 1) := by decide +kernel
theorem dX12_does_93 : decode cX12_does 93 = .ok (.iadd, 1) := by decide +kernel
theorem dX12_does_94 : decode cX12_does 94 = .ok (.aload_n 0, 1) := by decide +kernel
theorem dX12_does_95 : decode cX12_does 95 = .ok (.getfield 41, 3) := by decide +kernel
theorem dX12_does_98 : decode cX12_does 98 = .ok (.iconst 0, 1) := by decide +kernel
theorem dX12_does_99 : decode cX12_does 99 = .ok (.iaload, 1) := by decide +kernel
theorem dX12_does_100 : decode cX12_does 100 = .ok (.aload_n 0, 1) := by decide +kernel
theorem dX12_does_101 : decode cX12_does 101 = .ok (.getfield 41, 3) := by decide +kernel
theorem dX12_does_104 : decode cX12_does 104 = .ok (.iconst 1, 1) := by decide +kernel
theorem dX12_does_105 : decode cX12_does 105 = .ok (.iaload, 1) := by decide +kernel
theorem dX12_does_106 : decode cX12_does 106 = .ok (.if_icmp .ge 12, 3) := by decide +kernel
theorem dX12_does_109 : decode cX12_does 109 = .ok (.aload_n 0, 1) := by decide +kernel
theorem dX12_does_110 : decode cX12_does 110 = .ok (.getfield 41, 3) := by decide +kernel
theorem dX12_does_113 : decode cX12_does 113 = .ok (.iconst 1, 1) := by decide +kernel
theorem dX12_does_114 : decode cX12_does 114 = .ok (.iaload, 1) := by decide +kernel
theorem dX12_does_115 : decode cX12_does 115 = .ok (.goto 9, 3) := by decide +kernel
theorem dX12_does_118 : decode cX12_does 118 = .ok (.aload_n 0, 1) := by decide +kernel
theorem dX12_does_119 : decode cX12_does 119 = .ok (.getfield 41, 3) := by decide +kernel
theorem dX12_does_122 : decode cX12_does 122 = .ok (.iconst 0, 1) := by decide +kernel
theorem dX12_does_123 : decode cX12_does 123 = .ok (.iaload, 1) := by decide +kernel
theorem dX12_does_124 : decode cX12_does 124 = .ok (.iastore, 1) := by decide +kernel
theorem dX12_does_125 : decode cX12_does 125 = .ok (.aload_n 0, 1) := by decide +kernel
theorem dX12_does_126 : decode cX12_does 126 = .ok (.dup, 1) := by decide +kernel
theorem dX12_does_127 : decode cX12_does 127 = .ok (.getfield 86, 3) := by decide +kernel
theorem dX12_does_130 : decode cX12_does 130 = .ok (.iconst 1, 1) := by decide +kernel
theorem dX12_does_131 : decode cX12_does 131 = .ok (.iadd, 1) := by decide +kernel
theorem dX12_does_132 : decode cX12_does 132 = .ok (.putfield 86, 3) := by decide +kernel
theorem dX12_does_135 : decode cX12_does 135 = .ok (.goto 59, 3) := by decide +kernel
theorem dX12_does_138 : decode cX12_does 138 = .ok (.iconst 0, 1) := by decide +kernel
theorem dX12_does_139 : decode cX12_does 139 = .ok (.istore_n 2, 1) := by decide +kernel
theorem dX12_does_140 : decode cX12_does 140 = .ok (.iload_n 2, 1) := by decide +kernel
theorem dX12_does_141 : decode cX12_does 141 = .ok (.iconst 3, 1) := by decide +kernel
theorem dX12_does_142 : decode cX12_does 142 = .ok (.if_icmp .ge 28, 3) := by decide +kernel
theorem dX12_does_145 : decode cX12_does 145 = .ok (.aload_n 0, 1) := by decide +kernel
theorem dX12_does_146 : decode cX12_does 146 = .ok (.getfield 16, 3) := by decide +kernel
theorem dX12_does_149 : decode cX12_does 149 = .ok (.iconst 3, 1) := by decide +kernel
theorem dX12_does_150 : decode cX12_does 150 = .ok (.aload_n 0, 1) := by decide +kernel
theorem dX12_does_151 : decode cX12_does 151 = .ok (.getfield 89, 3) := by decide +kernel
theorem dX12_does_154 : decode cX12_does 154 = .ok (.imul, 1) := by decide +kernel
theorem dX12_does_155 : decode cX12_does 155 = .ok (.iload_n 2, 1) := by decide +kernel
theorem dX12_does_156 : decode cX12_does 156 = .ok (.iadd, 1) := by decide +kernel
theorem dX12_does_157 : decode cX12_does 157 = .ok (.aload_n 0, 1) := by decide +kernel
theorem dX12_does_158 : decode cX12_does 158 = .ok (.getfield 41, 3) := by decide +kernel
theorem dX12_does_161 : decode cX12_does 161 = .ok (.iload_n 2, 1) := by decide +kernel
theorem dX12_does_162 : decode cX12_does 162 = .ok (.iaload, 1) := by decide +kernel
theorem dX12_does_163 : decode cX12_does 163 = .ok (.iastore, 1) := by decide +kernel
theorem dX12_does_164 : decode cX12_does 164 = .ok (.iinc 2 1, 3) := by decide +kernel
theorem dX12_does_167 : decode cX12_does 167 = .ok (.goto (-27), 3) := by decide +kernel
theorem dX12_does_170 : decode cX12_does 170 = .ok (.aload_n 0, 1) := by decide +kernel
theorem dX12_does_171 : decode cX12_does 171 = .ok (.dup, 1) := by decide +kernel
theorem dX12_does_172 : decode cX12_does 172 = .ok (.getfield 89, 3) := by decide +kernel
theorem dX12_does_175 : decode cX12_does 175 = .ok (.iconst 1, 1) := by decide +kernel
theorem dX12_does_176 : decode cX12_does 176 = .ok (.iadd, 1) := by decide +kernel
theorem dX12_does_177 : decode cX12_does 177 = .ok (.putfield 89, 3) := by decide +kernel
theorem dX12_does_180 : decode cX12_does 180 = .ok (.goto 14, 3) := by decide +kernel
theorem dX12_does_183 : decode cX12_does 183 = .ok (.aload_n 0, 1) := by decide +kernel
theorem dX12_does_184 : decode cX12_does 184 = .ok (.iload_n 1, 1) := by decide +kernel
theorem dX12_does_185 : decode cX12_does 185 = .ok (.aload_n 0, 1) := by decide +kernel
theorem dX12_does_186 : decode cX12_does 186 = .ok (.getfield 41, 3) := by decide +kernel
theorem dX12_does_189 : decode cX12_does 189 = .ok (.iconst 0, 1) := by decide +kernel
theorem dX12_does_190 : decode cX12_does 190 = .ok (.iaload, 1) := by decide +kernel
theorem dX12_does_191 : decode cX12_does 191 = .ok (.invokevirtual 138, 3) := by decide +kernel
theorem dX12_does_194 : decode cX12_does 194 = .ok (.return_, 1) := by decide +kernel
theorem dX12_readsClause_0 : decode cX12_readsClause 0 = .ok (.aload_n 0, 1) := by decide +kernel
theorem dX12_readsClause_1 : decode cX12_readsClause 1 = .ok (.invokevirtual 142, 3) := by decide +kernel
theorem dX12_readsClause_4 : decode cX12_readsClause 4 = .ok (.istore_n 1, 1) := by decide +kernel
theorem dX12_readsClause_5 : decode cX12_readsClause 5 = .ok (.iload_n 1, 1) := by decide +kernel
theorem dX12_readsClause_6 : decode cX12_readsClause 6 = .ok (.iconst (-1), 1) := by decide +kernel
theorem dX12_readsClause_7 : decode cX12_readsClause 7 = .ok (.if_icmp .eq 46, 3) := by decide +kernel
theorem dX12_readsClause_10 : decode cX12_readsClause 10 = .ok (.iload_n 1, 1) := by decide +kernel
theorem dX12_readsClause_11 : decode cX12_readsClause 11 = .ok (.bipush 7, 2) := by decide +kernel
theorem dX12_readsClause_13 : decode cX12_readsClause 13 = .ok (.if_icmp .ne 12, 3) := by decide +kernel
theorem dX12_readsClause_16 : decode cX12_readsClause 16 = .ok (.aload_n 0, 1) := by decide +kernel
theorem dX12_readsClause_17 : decode cX12_readsClause 17 = .ok (.getfield 135, 3) := by decide +kernel
theorem dX12_readsClause_20 : decode cX12_readsClause 20 = .ok (.bipush 10, 2) := by decide +kernel
theorem dX12_readsClause_22 : decode cX12_readsClause 22 = .ok (.if_icmp .eq 31, 3) := by decide +kernel
theorem dX12_readsClause_25 : decode cX12_readsClause 25 = .ok (.iload_n 1, 1) := by decide +kernel
theorem dX12_readsClause_26 : decode cX12_readsClause 26 = .ok (.iconst 5, 1) := by decide +kernel
theorem dX12_readsClause_27 : decode cX12_readsClause 27 = .ok (.if_icmp .ne 12, 3) := by decide +kernel
theorem dX12_readsClause_30 : decode cX12_readsClause 30 = .ok (.aload_n 0, 1) := by decide +kernel
theorem dX12_readsClause_31 : decode cX12_readsClause 31 = .ok (.getfield 146, 3) := by decide +kernel
theorem dX12_readsClause_34 : decode cX12_readsClause 34 = .ok (.bipush 6, 2) := by decide +kernel
theorem dX12_readsClause_36 : decode cX12_readsClause 36 = .ok (.if_icmp .eq 17, 3) := by decide +kernel
theorem dX12_readsClause_39 : decode cX12_readsClause 39 = .ok (.iload_n 1, 1) := by decide +kernel
theorem dX12_readsClause_40 : decode cX12_readsClause 40 = .ok (.iconst 5, 1) := by decide +kernel
theorem dX12_readsClause_41 : decode cX12_readsClause 41 = .ok (.if_icmp .ge 14, 3) := by decide +kernel
theorem dX12_readsClause_44 : decode cX12_readsClause 44 = .ok (.aload_n 0, 1) := by decide +kernel
theorem dX12_readsClause_45 : decode cX12_readsClause 45 = .ok (.getfield 149, 3) := by decide +kernel
theorem dX12_readsClause_48 : decode cX12_readsClause 48 = .ok (.bipush 9, 2) := by decide +kernel
theorem dX12_readsClause_50 : decode cX12_readsClause 50 = .ok (.if_icmp .ne 5, 3) := by decide +kernel
theorem dX12_readsClause_53 : decode cX12_readsClause 53 = .ok (.iconst 0, 1) := by decide +kernel
theorem dX12_readsClause_54 : decode cX12_readsClause 54 = .ok (.ireturn, 1) := by decide +kernel
theorem dX12_readsClause_55 : decode cX12_readsClause 55 = .ok (.aload_n 0, 1) := by decide +kernel
theorem dX12_readsClause_56 : decode cX12_readsClause 56 = .ok (.invokevirtual 122, 3) := by decide +kernel
theorem dX12_readsClause_59 : decode cX12_readsClause 59 = .ok (.aload_n 0, 1) := by decide +kernel
theorem dX12_readsClause_60 : decode cX12_readsClause 60 = .ok (.iload_n 1, 1) := by decide +kernel
theorem dX12_readsClause_61 : decode cX12_readsClause 61 = .ok (.invokevirtual 152, 3) := by decide +kernel
theorem dX12_readsClause_64 : decode cX12_readsClause 64 = .ok (.ifCond .ne 5, 3) := by decide +kernel
theorem dX12_readsClause_67 : decode cX12_readsClause 67 = .ok (.iconst 0, 1) := by decide +kernel
theorem dX12_readsClause_68 : decode cX12_readsClause 68 = .ok (.ireturn, 1) := by decide +kernel
theorem dX12_readsClause_69 : decode cX12_readsClause 69 = .ok (.aload_n 0, 1) := by decide +kernel
theorem dX12_readsClause_70 : decode cX12_readsClause 70 = .ok (.iload_n 1, 1) := by decide +kernel
theorem dX12_readsClause_71 : decode cX12_readsClause 71 = .ok (.bipush 6, 2) := by decide +kernel
theorem dX12_readsClause_73 : decode cX12_readsClause 73 = .ok (.if_icmp .ne 12, 3) := by decide +kernel
theorem dX12_readsClause_76 : decode cX12_readsClause 76 = .ok (.aload_n 0, 1) := by decide +kernel
theorem dX12_readsClause_77 : decode cX12_readsClause 77 = .ok (.getfield 41, 3) := by decide +kernel
theorem dX12_readsClause_80 : decode cX12_readsClause 80 = .ok (.iconst 0, 1) := by decide +kernel
theorem dX12_readsClause_81 : decode cX12_readsClause 81 = .ok (.iaload, 1) := by decide +kernel
theorem dX12_readsClause_82 : decode cX12_readsClause 82 = .ok (.goto 7, 3) := by decide +kernel
theorem dX12_readsClause_85 : decode cX12_readsClause 85 = .ok (.aload_n 0, 1) := by decide +kernel
theorem dX12_readsClause_86 : decode cX12_readsClause 86 = .ok (.getfield 129, 3) := by decide +kernel
theorem dX12_readsClause_89 : decode cX12_readsClause 89 = .ok (.putfield 129, 3) := by decide +kernel
theorem dX12_readsClause_92 : decode cX12_readsClause 92 = .ok (.aload_n 0, 1) := by decide +kernel
theorem dX12_readsClause_93 : decode cX12_readsClause 93 = .ok (.iload_n 1, 1) := by decide +kernel
theorem dX12_readsClause_94 : decode cX12_readsClause 94 = .ok (.bipush 6, 2) := by decide +kernel
theorem dX12_readsClause_96 : decode cX12_readsClause 96 = .ok (.if_icmp .ne 7, 3) := by decide +kernel
theorem dX12_readsClause_99 : decode cX12_readsClause 99 = .ok (.iconst 0, 1) := by decide +kernel
theorem dX12_readsClause_100 : decode cX12_readsClause 100 = .ok (.goto 22, 3) := by decide +kernel
theorem dX12_readsClause_103 : decode cX12_readsClause 103 = .ok (.iload_n 1, 1) := by decide +kernel
theorem dX12_readsClause_104 : decode cX12_readsClause 104 = .ok (.bipush 7, 2) := by decide +kernel
theorem dX12_readsClause_106 : decode cX12_readsClause 106 = .ok (.if_icmp .ne 12, 3) := by decide +kernel
theorem dX12_readsClause_109 : decode cX12_readsClause 109 = .ok (.aload_n 0, 1) := by decide +kernel
theorem dX12_readsClause_110 : decode cX12_readsClause 110 = .ok (.getfield 135, 3) := by decide +kernel
theorem dX12_readsClause_113 : decode cX12_readsClause 113 = .ok (.iconst 1, 1) := by decide +kernel
theorem dX12_readsClause_114 : decode cX12_readsClause 114 = .ok (.iadd, 1) := by decide +kernel
theorem dX12_readsClause_115 : decode cX12_readsClause 115 = .ok (.goto 7, 3) := by decide +kernel
theorem dX12_readsClause_118 : decode cX12_readsClause 118 = .ok (.aload_n 0, 1) := by decide +kernel
theorem dX12_readsClause_119 : decode cX12_readsClause 119 = .ok (.getfield 135, 3) := by decide +kernel
theorem dX12_readsClause_122 : decode cX12_readsClause 122 = .ok (.putfield 135, 3) := by decide +kernel
theorem dX12_readsClause_125 : decode cX12_readsClause 125 = .ok (.aload_n 0, 1) := by decide +kernel
theorem dX12_readsClause_126 : decode cX12_readsClause 126 = .ok (.iload_n 1, 1) := by decide +kernel
theorem dX12_readsClause_127 : decode cX12_readsClause 127 = .ok (.bipush 6, 2) := by decide +kernel
theorem dX12_readsClause_129 : decode cX12_readsClause 129 = .ok (.if_icmp .ne 7, 3) := by decide +kernel
theorem dX12_readsClause_132 : decode cX12_readsClause 132 = .ok (.iconst 0, 1) := by decide +kernel
theorem dX12_readsClause_133 : decode cX12_readsClause 133 = .ok (.goto 21, 3) := by decide +kernel
theorem dX12_readsClause_136 : decode cX12_readsClause 136 = .ok (.iload_n 1, 1) := by decide +kernel
theorem dX12_readsClause_137 : decode cX12_readsClause 137 = .ok (.iconst 5, 1) := by decide +kernel
theorem dX12_readsClause_138 : decode cX12_readsClause 138 = .ok (.if_icmp .ne 12, 3) := by decide +kernel
theorem dX12_readsClause_141 : decode cX12_readsClause 141 = .ok (.aload_n 0, 1) := by decide +kernel
theorem dX12_readsClause_142 : decode cX12_readsClause 142 = .ok (.getfield 146, 3) := by decide +kernel
theorem dX12_readsClause_145 : decode cX12_readsClause 145 = .ok (.iconst 1, 1) := by decide +kernel
theorem dX12_readsClause_146 : decode cX12_readsClause 146 = .ok (.iadd, 1) := by decide +kernel
theorem dX12_readsClause_147 : decode cX12_readsClause 147 = .ok (.goto 7, 3) := by decide +kernel
theorem dX12_readsClause_150 : decode cX12_readsClause 150 = .ok (.aload_n 0, 1) := by decide +kernel
theorem dX12_readsClause_151 : decode cX12_readsClause 151 = .ok (.getfield 146, 3) := by decide +kernel
theorem dX12_readsClause_154 : decode cX12_readsClause 154 = .ok (.putfield 146, 3) := by decide +kernel
theorem dX12_readsClause_157 : decode cX12_readsClause 157 = .ok (.aload_n 0, 1) := by decide +kernel
theorem dX12_readsClause_158 : decode cX12_readsClause 158 = .ok (.iload_n 1, 1) := by decide +kernel
theorem dX12_readsClause_159 : decode cX12_readsClause 159 = .ok (.bipush 6, 2) := by decide +kernel
theorem dX12_readsClause_161 : decode cX12_readsClause 161 = .ok (.if_icmp .ne 7, 3) := by decide +kernel
theorem dX12_readsClause_164 : decode cX12_readsClause 164 = .ok (.iconst 0, 1) := by decide +kernel
theorem dX12_readsClause_165 : decode cX12_readsClause 165 = .ok (.goto 21, 3) := by decide +kernel
theorem dX12_readsClause_168 : decode cX12_readsClause 168 = .ok (.iload_n 1, 1) := by decide +kernel
theorem dX12_readsClause_169 : decode cX12_readsClause 169 = .ok (.iconst 5, 1) := by decide +kernel
theorem dX12_readsClause_170 : decode cX12_readsClause 170 = .ok (.if_icmp .ge 12, 3) := by decide +kernel
theorem dX12_readsClause_173 : decode cX12_readsClause 173 = .ok (.aload_n 0, 1) := by decide +kernel
theorem dX12_readsClause_174 : decode cX12_readsClause 174 = .ok (.getfield 149, 3) := by decide +kernel
theorem dX12_readsClause_177 : decode cX12_readsClause 177 = .ok (.iconst 1, 1) := by decide +kernel
theorem dX12_readsClause_178 : decode cX12_readsClause 178 = .ok (.iadd, 1) := by decide +kernel
theorem dX12_readsClause_179 : decode cX12_readsClause 179 = .ok (.goto 7, 3) := by decide +kernel
theorem dX12_readsClause_182 : decode cX12_readsClause 182 = .ok (.aload_n 0, 1) := by decide +kernel
theorem dX12_readsClause_183 : decode cX12_readsClause 183 = .ok (.getfield 149, 3) := by decide +kernel
theorem dX12_readsClause_186 : decode cX12_readsClause 186 = .ok (.putfield 149, 3) := by decide +kernel
theorem dX12_readsClause_189 : decode cX12_readsClause 189 = .ok (.aload_n 0, 1) := by decide +kernel
theorem dX12_readsClause_190 : decode cX12_readsClause 190 = .ok (.getfield 155, 3) := by decide +kernel
theorem dX12_readsClause_193 : decode cX12_readsClause 193 = .ok (.ifCond .eq 8, 3) := by decide +kernel
theorem dX12_readsClause_196 : decode cX12_readsClause 196 = .ok (.aload_n 0, 1) := by decide +kernel
theorem dX12_readsClause_197 : decode cX12_readsClause 197 = .ok (.iload_n 1, 1) := by decide +kernel
theorem dX12_readsClause_198 : decode cX12_readsClause 198 = .ok (.invokevirtual 159, 3) := by decide +kernel
theorem dX12_readsClause_201 : decode cX12_readsClause 201 = .ok (.iconst 1, 1) := by decide +kernel
theorem dX12_readsClause_202 : decode cX12_readsClause 202 = .ok (.ireturn, 1) := by decide +kernel
theorem dX12_reads_0 : decode cX12_reads 0 = .ok (.aload_n 0, 1) := by decide +kernel
theorem dX12_reads_1 : decode cX12_reads 1 = .ok (.iload_n 1, 1) := by decide +kernel
theorem dX12_reads_2 : decode cX12_reads 2 = .ok (.putfield 155, 3) := by decide +kernel
theorem dX12_reads_5 : decode cX12_reads 5 = .ok (.aload_n 0, 1) := by decide +kernel
theorem dX12_reads_6 : decode cX12_reads 6 = .ok (.iconst 0, 1) := by decide +kernel
theorem dX12_reads_7 : decode cX12_reads 7 = .ok (.putfield 109, 3) := by decide +kernel
theorem dX12_reads_10 : decode cX12_reads 10 = .ok (.aload_n 0, 1) := by decide +kernel
theorem dX12_reads_11 : decode cX12_reads 11 = .ok (.iconst 1, 1) := by decide +kernel
theorem dX12_reads_12 : decode cX12_reads 12 = .ok (.putfield 162, 3) := by decide +kernel
theorem dX12_reads_15 : decode cX12_reads 15 = .ok (.aload_n 0, 1) := by decide +kernel
theorem dX12_reads_16 : decode cX12_reads 16 = .ok (.aload_n 0, 1) := by decide +kernel
theorem dX12_reads_17 : decode cX12_reads 17 = .ok (.getfield 82, 3) := by decide +kernel
theorem dX12_reads_20 : decode cX12_reads 20 = .ok (.putfield 129, 3) := by decide +kernel
theorem dX12_reads_23 : decode cX12_reads 23 = .ok (.aload_n 0, 1) := by decide +kernel
theorem dX12_reads_24 : decode cX12_reads 24 = .ok (.aload_n 0, 1) := by decide +kernel
theorem dX12_reads_25 : decode cX12_reads 25 = .ok (.getfield 86, 3) := by decide +kernel
theorem dX12_reads_28 : decode cX12_reads 28 = .ok (.putfield 135, 3) := by decide +kernel
theorem dX12_reads_31 : decode cX12_reads 31 = .ok (.aload_n 0, 1) := by decide +kernel
theorem dX12_reads_32 : decode cX12_reads 32 = .ok (.aload_n 0, 1) := by decide +kernel
theorem dX12_reads_33 : decode cX12_reads 33 = .ok (.getfield 89, 3) := by decide +kernel
theorem dX12_reads_36 : decode cX12_reads 36 = .ok (.putfield 146, 3) := by decide +kernel
theorem dX12_reads_39 : decode cX12_reads 39 = .ok (.aload_n 0, 1) := by decide +kernel
theorem dX12_reads_40 : decode cX12_reads 40 = .ok (.aload_n 0, 1) := by decide +kernel
theorem dX12_reads_41 : decode cX12_reads 41 = .ok (.getfield 7, 3) := by decide +kernel
theorem dX12_reads_44 : decode cX12_reads 44 = .ok (.sipush 231, 3) := by decide +kernel
theorem dX12_reads_47 : decode cX12_reads 47 = .ok (.iaload, 1) := by decide +kernel
theorem dX12_reads_48 : decode cX12_reads 48 = .ok (.putfield 149, 3) := by decide +kernel
theorem dX12_reads_51 : decode cX12_reads 51 = .ok (.aload_n 0, 1) := by decide +kernel
theorem dX12_reads_52 : decode cX12_reads 52 = .ok (.invokevirtual 122, 3) := by decide +kernel
theorem dX12_reads_55 : decode cX12_reads 55 = .ok (.aload_n 0, 1) := by decide +kernel
theorem dX12_reads_56 : decode cX12_reads 56 = .ok (.invokevirtual 165, 3) := by decide +kernel
theorem dX12_reads_59 : decode cX12_reads 59 = .ok (.istore_n 2, 1) := by decide +kernel
theorem dX12_reads_60 : decode cX12_reads 60 = .ok (.iload_n 2, 1) := by decide +kernel
theorem dX12_reads_61 : decode cX12_reads 61 = .ok (.ifCond .eq 69, 3) := by decide +kernel
theorem dX12_reads_64 : decode cX12_reads 64 = .ok (.aload_n 0, 1) := by decide +kernel
theorem dX12_reads_65 : decode cX12_reads 65 = .ok (.getfield 112, 3) := by decide +kernel
theorem dX12_reads_68 : decode cX12_reads 68 = .ok (.aload_n 0, 1) := by decide +kernel
theorem dX12_reads_69 : decode cX12_reads 69 = .ok (.getfield 98, 3) := by decide +kernel
theorem dX12_reads_72 : decode cX12_reads 72 = .ok (.if_icmp .ge 58, 3) := by decide +kernel
theorem dX12_reads_75 : decode cX12_reads 75 = .ok (.aload_n 0, 1) := by decide +kernel
theorem dX12_reads_76 : decode cX12_reads 76 = .ok (.getfield 162, 3) := by decide +kernel
theorem dX12_reads_79 : decode cX12_reads 79 = .ok (.bipush 24, 2) := by decide +kernel
theorem dX12_reads_81 : decode cX12_reads 81 = .ok (.if_icmp .ge 21, 3) := by decide +kernel
theorem dX12_reads_84 : decode cX12_reads 84 = .ok (.aload_n 0, 1) := by decide +kernel
theorem dX12_reads_85 : decode cX12_reads 85 = .ok (.getfield 23, 3) := by decide +kernel
theorem dX12_reads_88 : decode cX12_reads 88 = .ok (.aload_n 0, 1) := by decide +kernel
theorem dX12_reads_89 : decode cX12_reads 89 = .ok (.getfield 112, 3) := by decide +kernel
theorem dX12_reads_92 : decode cX12_reads 92 = .ok (.iaload, 1) := by decide +kernel
theorem dX12_reads_93 : decode cX12_reads 93 = .ok (.bipush 59, 2) := by decide +kernel
theorem dX12_reads_95 : decode cX12_reads 95 = .ok (.if_icmp .ne 7, 3) := by decide +kernel
theorem dX12_reads_98 : decode cX12_reads 98 = .ok (.iconst 1, 1) := by decide +kernel
theorem dX12_reads_99 : decode cX12_reads 99 = .ok (.goto 4, 3) := by decide +kernel
theorem dX12_reads_102 : decode cX12_reads 102 = .ok (.iconst 0, 1) := by decide +kernel
theorem dX12_reads_103 : decode cX12_reads 103 = .ok (.istore_n 2, 1) := by decide +kernel
theorem dX12_reads_104 : decode cX12_reads 104 = .ok (.iload_n 2, 1) := by decide +kernel
theorem dX12_reads_105 : decode cX12_reads 105 = .ok (.ifCond .eq (-45), 3) := by decide +kernel
theorem dX12_reads_108 : decode cX12_reads 108 = .ok (.aload_n 0, 1) := by decide +kernel
theorem dX12_reads_109 : decode cX12_reads 109 = .ok (.invokevirtual 122, 3) := by decide +kernel
theorem dX12_reads_112 : decode cX12_reads 112 = .ok (.aload_n 0, 1) := by decide +kernel
theorem dX12_reads_113 : decode cX12_reads 113 = .ok (.invokevirtual 165, 3) := by decide +kernel
theorem dX12_reads_116 : decode cX12_reads 116 = .ok (.istore_n 2, 1) := by decide +kernel
theorem dX12_reads_117 : decode cX12_reads 117 = .ok (.aload_n 0, 1) := by decide +kernel
theorem dX12_reads_118 : decode cX12_reads 118 = .ok (.dup, 1) := by decide +kernel
theorem dX12_reads_119 : decode cX12_reads 119 = .ok (.getfield 162, 3) := by decide +kernel
theorem dX12_reads_122 : decode cX12_reads 122 = .ok (.iconst 1, 1) := by decide +kernel
theorem dX12_reads_123 : decode cX12_reads 123 = .ok (.iadd, 1) := by decide +kernel
theorem dX12_reads_124 : decode cX12_reads 124 = .ok (.putfield 162, 3) := by decide +kernel
theorem dX12_reads_127 : decode cX12_reads 127 = .ok (.goto (-67), 3) := by decide +kernel
theorem dX12_reads_130 : decode cX12_reads 130 = .ok (.iload_n 2, 1) := by decide +kernel
theorem dX12_reads_131 : decode cX12_reads 131 = .ok (.ireturn, 1) := by decide +kernel
theorem dX12_fault_0 : decode cX12_fault 0 = .ok (.aload_n 0, 1) := by decide +kernel
theorem dX12_fault_1 : decode cX12_fault 1 = .ok (.iconst 0, 1) := by decide +kernel
theorem dX12_fault_2 : decode cX12_fault 2 = .ok (.invokevirtual 169, 3) := by decide +kernel
theorem dX12_fault_5 : decode cX12_fault 5 = .ok (.ifCond .eq 7, 3) := by decide +kernel
theorem dX12_fault_8 : decode cX12_fault 8 = .ok (.iconst (-1), 1) := by decide +kernel
theorem dX12_fault_9 : decode cX12_fault 9 = .ok (.goto 7, 3) := by decide +kernel
theorem dX12_fault_12 : decode cX12_fault 12 = .ok (.aload_n 0, 1) := by decide +kernel
theorem dX12_fault_13 : decode cX12_fault 13 = .ok (.getfield 112, 3) := by decide +kernel
theorem dX12_fault_16 : decode cX12_fault 16 = .ok (.ireturn, 1) := by decide +kernel
theorem dX12_layParts_0 : decode cX12_layParts 0 = .ok (.iconst 0, 1) := by decide +kernel
theorem dX12_layParts_1 : decode cX12_layParts 1 = .ok (.istore_n 2, 1) := by decide +kernel
theorem dX12_layParts_2 : decode cX12_layParts 2 = .ok (.iload_n 2, 1) := by decide +kernel
theorem dX12_layParts_3 : decode cX12_layParts 3 = .ok (.aload_n 0, 1) := by decide +kernel
theorem dX12_layParts_4 : decode cX12_layParts 4 = .ok (.getfield 82, 3) := by decide +kernel
theorem dX12_layParts_7 : decode cX12_layParts 7 = .ok (.if_icmp .ge 16, 3) := by decide +kernel
theorem dX12_layParts_10 : decode cX12_layParts 10 = .ok (.aload_n 0, 1) := by decide +kernel
theorem dX12_layParts_11 : decode cX12_layParts 11 = .ok (.getfield 51, 3) := by decide +kernel
theorem dX12_layParts_14 : decode cX12_layParts 14 = .ok (.iload_n 2, 1) := by decide +kernel
theorem dX12_layParts_15 : decode cX12_layParts 15 = .ok (.iload_n 2, 1) := by decide +kernel
theorem dX12_layParts_16 : decode cX12_layParts 16 = .ok (.iastore, 1) := by decide +kernel
theorem dX12_layParts_17 : decode cX12_layParts 17 = .ok (.iinc 2 1, 3) := by decide +kernel
theorem dX12_layParts_20 : decode cX12_layParts 20 = .ok (.goto (-18), 3) := by decide +kernel
theorem dX12_layParts_23 : decode cX12_layParts 23 = .ok (.aload_n 0, 1) := by decide +kernel
theorem dX12_layParts_24 : decode cX12_layParts 24 = .ok (.getfield 82, 3) := by decide +kernel
theorem dX12_layParts_27 : decode cX12_layParts 27 = .ok (.istore_n 2, 1) := by decide +kernel
theorem dX12_layParts_28 : decode cX12_layParts 28 = .ok (.iconst 0, 1) := by decide +kernel
theorem dX12_layParts_29 : decode cX12_layParts 29 = .ok (.istore_n 3, 1) := by decide +kernel
theorem dX12_layParts_30 : decode cX12_layParts 30 = .ok (.iload_n 3, 1) := by decide +kernel
theorem dX12_layParts_31 : decode cX12_layParts 31 = .ok (.aload_n 0, 1) := by decide +kernel
theorem dX12_layParts_32 : decode cX12_layParts 32 = .ok (.getfield 86, 3) := by decide +kernel
theorem dX12_layParts_35 : decode cX12_layParts 35 = .ok (.if_icmp .ge 136, 3) := by decide +kernel
theorem dX12_layParts_38 : decode cX12_layParts 38 = .ok (.aload_n 0, 1) := by decide +kernel
theorem dX12_layParts_39 : decode cX12_layParts 39 = .ok (.getfield 51, 3) := by decide +kernel
theorem dX12_layParts_42 : decode cX12_layParts 42 = .ok (.aload_n 0, 1) := by decide +kernel
theorem dX12_layParts_43 : decode cX12_layParts 43 = .ok (.getfield 13, 3) := by decide +kernel
theorem dX12_layParts_46 : decode cX12_layParts 46 = .ok (.iconst 2, 1) := by decide +kernel
theorem dX12_layParts_47 : decode cX12_layParts 47 = .ok (.iload_n 3, 1) := by decide +kernel
theorem dX12_layParts_48 : decode cX12_layParts 48 = .ok (.imul, 1) := by decide +kernel
theorem dX12_layParts_49 : decode cX12_layParts 49 = .ok (.iaload, 1) := by decide +kernel
theorem dX12_layParts_50 : decode cX12_layParts 50 = .ok (.iaload, 1) := by decide +kernel
theorem dX12_layParts_51 : decode cX12_layParts 51 = .ok (.istore 4, 2) := by decide +kernel
theorem dX12_layParts_53 : decode cX12_layParts 53 = .ok (.aload_n 0, 1) := by decide +kernel
theorem dX12_layParts_54 : decode cX12_layParts 54 = .ok (.getfield 51, 3) := by decide +kernel
theorem dX12_layParts_57 : decode cX12_layParts 57 = .ok (.aload_n 0, 1) := by decide +kernel
theorem dX12_layParts_58 : decode cX12_layParts 58 = .ok (.getfield 13, 3) := by decide +kernel
theorem dX12_layParts_61 : decode cX12_layParts 61 = .ok (.iconst 2, 1) := by decide +kernel
theorem dX12_layParts_62 : decode cX12_layParts 62 = .ok (.iload_n 3, 1) := by decide +kernel
theorem dX12_layParts_63 : decode cX12_layParts 63 = .ok (.imul, 1) := by decide +kernel
theorem dX12_layParts_64 : decode cX12_layParts 64 = .ok (.iconst 1, 1) := by decide +kernel
theorem dX12_layParts_65 : decode cX12_layParts 65 = .ok (.iadd, 1) := by decide +kernel
theorem dX12_layParts_66 : decode cX12_layParts 66 = .ok (.iaload, 1) := by decide +kernel
theorem dX12_layParts_67 : decode cX12_layParts 67 = .ok (.iaload, 1) := by decide +kernel
theorem dX12_layParts_68 : decode cX12_layParts 68 = .ok (.istore 5, 2) := by decide +kernel
theorem dX12_layParts_70 : decode cX12_layParts 70 = .ok (.iload_n 1, 1) := by decide +kernel
theorem dX12_layParts_71 : decode cX12_layParts 71 = .ok (.iload_n 3, 1) := by decide +kernel
theorem dX12_layParts_72 : decode cX12_layParts 72 = .ok (.invokestatic 179, 3) := by decide +kernel
theorem dX12_layParts_75 : decode cX12_layParts 75 = .ok (.ifCond .eq 90, 3) := by decide +kernel
theorem dX12_layParts_78 : decode cX12_layParts 78 = .ok (.iload 4, 2) := by decide +kernel
theorem dX12_layParts_80 : decode cX12_layParts 80 = .ok (.iload 5, 2) := by decide +kernel
theorem dX12_layParts_82 : decode cX12_layParts 82 = .ok (.if_icmp .eq 83, 3) := by decide +kernel
theorem dX12_layParts_85 : decode cX12_layParts 85 = .ok (.iload 4, 2) := by decide +kernel
theorem dX12_layParts_87 : decode cX12_layParts 87 = .ok (.iload 5, 2) := by decide +kernel
theorem dX12_layParts_89 : decode cX12_layParts 89 = .ok (.if_icmp .ge 8, 3) := by decide +kernel
theorem dX12_layParts_92 : decode cX12_layParts 92 = .ok (.iload 4, 2) := by decide +kernel
theorem dX12_layParts_94 : decode cX12_layParts 94 = .ok (.goto 5, 3) := by decide +kernel
theorem dX12_layParts_97 : decode cX12_layParts 97 = .ok (.iload 5, 2) := by decide +kernel
theorem dX12_layParts_99 : decode cX12_layParts 99 = .ok (.istore 6, 2) := by decide +kernel
theorem dX12_layParts_101 : decode cX12_layParts 101 = .ok (.iconst 0, 1) := by decide +kernel
theorem dX12_layParts_102 : decode cX12_layParts 102 = .ok (.istore 7, 2) := by decide +kernel
theorem dX12_layParts_104 : decode cX12_layParts 104 = .ok (.iload 7, 2) := by decide +kernel
theorem dX12_layParts_106 : decode cX12_layParts 106 = .ok (.aload_n 0, 1) := by decide +kernel
theorem dX12_layParts_107 : decode cX12_layParts 107 = .ok (.getfield 82, 3) := by decide +kernel
theorem dX12_layParts_110 : decode cX12_layParts 110 = .ok (.if_icmp .ge 52, 3) := by decide +kernel
theorem dX12_layParts_113 : decode cX12_layParts 113 = .ok (.aload_n 0, 1) := by decide +kernel
theorem dX12_layParts_114 : decode cX12_layParts 114 = .ok (.getfield 51, 3) := by decide +kernel
theorem dX12_layParts_117 : decode cX12_layParts 117 = .ok (.iload 7, 2) := by decide +kernel
theorem dX12_layParts_119 : decode cX12_layParts 119 = .ok (.aload_n 0, 1) := by decide +kernel
theorem dX12_layParts_120 : decode cX12_layParts 120 = .ok (.getfield 51, 3) := by decide +kernel
theorem dX12_layParts_123 : decode cX12_layParts 123 = .ok (.iload 7, 2) := by decide +kernel
theorem dX12_layParts_125 : decode cX12_layParts 125 = .ok (.iaload, 1) := by decide +kernel
theorem dX12_layParts_126 : decode cX12_layParts 126 = .ok (.iload 4, 2) := by decide +kernel
theorem dX12_layParts_128 : decode cX12_layParts 128 = .ok (.if_icmp .eq 15, 3) := by decide +kernel
theorem dX12_layParts_131 : decode cX12_layParts 131 = .ok (.aload_n 0, 1) := by decide +kernel
theorem dX12_layParts_132 : decode cX12_layParts 132 = .ok (.getfield 51, 3) := by decide +kernel
theorem dX12_layParts_135 : decode cX12_layParts 135 = .ok (.iload 7, 2) := by decide +kernel
theorem dX12_layParts_137 : decode cX12_layParts 137 = .ok (.iaload, 1) := by decide +kernel
theorem dX12_layParts_138 : decode cX12_layParts 138 = .ok (.iload 5, 2) := by decide +kernel
theorem dX12_layParts_140 : decode cX12_layParts 140 = .ok (.if_icmp .ne 8, 3) := by decide +kernel
theorem dX12_layParts_143 : decode cX12_layParts 143 = .ok (.iload 6, 2) := by decide +kernel
theorem dX12_layParts_145 : decode cX12_layParts 145 = .ok (.goto 10, 3) := by decide +kernel
theorem dX12_layParts_148 : decode cX12_layParts 148 = .ok (.aload_n 0, 1) := by decide +kernel
theorem dX12_layParts_149 : decode cX12_layParts 149 = .ok (.getfield 51, 3) := by decide +kernel
theorem dX12_layParts_152 : decode cX12_layParts 152 = .ok (.iload 7, 2) := by decide +kernel
theorem dX12_layParts_154 : decode cX12_layParts 154 = .ok (.iaload, 1) := by decide +kernel
theorem dX12_layParts_155 : decode cX12_layParts 155 = .ok (.iastore, 1) := by decide +kernel
theorem dX12_layParts_156 : decode cX12_layParts 156 = .ok (.iinc 7 1, 3) := by decide +kernel
theorem dX12_layParts_159 : decode cX12_layParts 159 = .ok (.goto (-55), 3) := by decide +kernel
theorem dX12_layParts_162 : decode cX12_layParts 162 = .ok (.iinc 2 (-1), 3) := by decide +kernel
theorem dX12_layParts_165 : decode cX12_layParts 165 = .ok (.iinc 3 1, 3) := by decide +kernel
theorem dX12_layParts_168 : decode cX12_layParts 168 = .ok (.goto (-138), 3) := by decide +kernel
theorem dX12_layParts_171 : decode cX12_layParts 171 = .ok (.iload_n 2, 1) := by decide +kernel
theorem dX12_layParts_172 : decode cX12_layParts 172 = .ok (.ireturn, 1) := by decide +kernel
theorem dX12_layForests_0 : decode cX12_layForests 0 = .ok (.iconst 0, 1) := by decide +kernel
theorem dX12_layForests_1 : decode cX12_layForests 1 = .ok (.istore_n 1, 1) := by decide +kernel
theorem dX12_layForests_2 : decode cX12_layForests 2 = .ok (.iload_n 1, 1) := by decide +kernel
theorem dX12_layForests_3 : decode cX12_layForests 3 = .ok (.sipush 128, 3) := by decide +kernel
theorem dX12_layForests_6 : decode cX12_layForests 6 = .ok (.if_icmp .ge 16, 3) := by decide +kernel
theorem dX12_layForests_9 : decode cX12_layForests 9 = .ok (.aload_n 0, 1) := by decide +kernel
theorem dX12_layForests_10 : decode cX12_layForests 10 = .ok (.getfield 47, 3) := by decide +kernel
theorem dX12_layForests_13 : decode cX12_layForests 13 = .ok (.iload_n 1, 1) := by decide +kernel
theorem dX12_layForests_14 : decode cX12_layForests 14 = .ok (.lconst 0, 1) := by decide +kernel
theorem dX12_layForests_15 : decode cX12_layForests 15 = .ok (.lastore, 1) := by decide +kernel
theorem dX12_layForests_16 : decode cX12_layForests 16 = .ok (.iinc 1 1, 3) := by decide +kernel
theorem dX12_layForests_19 : decode cX12_layForests 19 = .ok (.goto (-17), 3) := by decide +kernel
theorem dX12_layForests_22 : decode cX12_layForests 22 = .ok (.iconst 0, 1) := by decide +kernel
theorem dX12_layForests_23 : decode cX12_layForests 23 = .ok (.istore_n 1, 1) := by decide +kernel
theorem dX12_layForests_24 : decode cX12_layForests 24 = .ok (.iload_n 1, 1) := by decide +kernel
theorem dX12_layForests_25 : decode cX12_layForests 25 = .ok (.iconst 1, 1) := by decide +kernel
theorem dX12_layForests_26 : decode cX12_layForests 26 = .ok (.aload_n 0, 1) := by decide +kernel
theorem dX12_layForests_27 : decode cX12_layForests 27 = .ok (.getfield 86, 3) := by decide +kernel
theorem dX12_layForests_30 : decode cX12_layForests 30 = .ok (.ishl, 1) := by decide +kernel
theorem dX12_layForests_31 : decode cX12_layForests 31 = .ok (.if_icmp .ge 51, 3) := by decide +kernel
theorem dX12_layForests_34 : decode cX12_layForests 34 = .ok (.iload_n 1, 1) := by decide +kernel
theorem dX12_layForests_35 : decode cX12_layForests 35 = .ok (.invokestatic 183, 3) := by decide +kernel
theorem dX12_layForests_38 : decode cX12_layForests 38 = .ok (.istore_n 2, 1) := by decide +kernel
theorem dX12_layForests_39 : decode cX12_layForests 39 = .ok (.aload_n 0, 1) := by decide +kernel
theorem dX12_layForests_40 : decode cX12_layForests 40 = .ok (.iload_n 1, 1) := by decide +kernel
theorem dX12_layForests_41 : decode cX12_layForests 41 = .ok (.invokevirtual 187, 3) := by decide +kernel
theorem dX12_layForests_44 : decode cX12_layForests 44 = .ok (.aload_n 0, 1) := by decide +kernel
theorem dX12_layForests_45 : decode cX12_layForests 45 = .ok (.getfield 82, 3) := by decide +kernel
theorem dX12_layForests_48 : decode cX12_layForests 48 = .ok (.iload_n 2, 1) := by decide +kernel
theorem dX12_layForests_49 : decode cX12_layForests 49 = .ok (.isub, 1) := by decide +kernel
theorem dX12_layForests_50 : decode cX12_layForests 50 = .ok (.if_icmp .ne 26, 3) := by decide +kernel
theorem dX12_layForests_53 : decode cX12_layForests 53 = .ok (.aload_n 0, 1) := by decide +kernel
theorem dX12_layForests_54 : decode cX12_layForests 54 = .ok (.getfield 47, 3) := by decide +kernel
theorem dX12_layForests_57 : decode cX12_layForests 57 = .ok (.bipush 16, 2) := by decide +kernel
theorem dX12_layForests_59 : decode cX12_layForests 59 = .ok (.iload_n 2, 1) := by decide +kernel
theorem dX12_layForests_60 : decode cX12_layForests 60 = .ok (.imul, 1) := by decide +kernel
theorem dX12_layForests_61 : decode cX12_layForests 61 = .ok (.iload_n 1, 1) := by decide +kernel
theorem dX12_layForests_62 : decode cX12_layForests 62 = .ok (.bipush 64, 2) := by decide +kernel
theorem dX12_layForests_64 : decode cX12_layForests 64 = .ok (.idiv, 1) := by decide +kernel
theorem dX12_layForests_65 : decode cX12_layForests 65 = .ok (.iadd, 1) := by decide +kernel
theorem dX12_layForests_66 : decode cX12_layForests 66 = .ok (.dup2, 1) := by decide +kernel
theorem dX12_layForests_67 : decode cX12_layForests 67 = .ok (.laload, 1) := by decide +kernel
theorem dX12_layForests_68 : decode cX12_layForests 68 = .ok (.lconst 1, 1) := by decide +kernel
theorem dX12_layForests_69 : decode cX12_layForests 69 = .ok (.iload_n 1, 1) := by decide +kernel
theorem dX12_layForests_70 : decode cX12_layForests 70 = .ok (.bipush 64, 2) := by decide +kernel
theorem dX12_layForests_72 : decode cX12_layForests 72 = .ok (.irem, 1) := by decide +kernel
theorem dX12_layForests_73 : decode cX12_layForests 73 = .ok (.lshl, 1) := by decide +kernel
theorem dX12_layForests_74 : decode cX12_layForests 74 = .ok (.lor, 1) := by decide +kernel
theorem dX12_layForests_75 : decode cX12_layForests 75 = .ok (.lastore, 1) := by decide +kernel
theorem dX12_layForests_76 : decode cX12_layForests 76 = .ok (.iinc 1 1, 3) := by decide +kernel
theorem dX12_layForests_79 : decode cX12_layForests 79 = .ok (.goto (-55), 3) := by decide +kernel
theorem dX12_layForests_82 : decode cX12_layForests 82 = .ok (.return_, 1) := by decide +kernel
theorem kfX12_16 : ux_FL RX12 16 12 5 := ⟨RX12, TX12, 31, rfl, lay_X12, by decide, tw_1061⟩
theorem kfX12_89 : ux_FL RX12 89 12 4 := ⟨RX12, TX12, 31, rfl, lay_X12, by decide, tw_1060⟩
theorem kvX12_75 : ux_LV RX12 75 12 yX12_anew cX12_anew 2 none 1 := ⟨⟨TX12, 31, rfl⟩, tw_1038, tw_1040, tw_29, tw_87, tw_1041, ⟨by decide, by decide, by decide +kernel⟩⟩
theorem kfX12_13 : ux_FL RX12 13 12 3 := ⟨RX12, TX12, 31, rfl, lay_X12, by decide, tw_1059⟩
theorem kfX12_86 : ux_FL RX12 86 12 2 := ⟨RX12, TX12, 31, rfl, lay_X12, by decide, tw_1058⟩
theorem kvX12_138 : ux_LV RX12 138 12 yX12_addMeter cX12_addMeter 4 none 2 := ⟨⟨TX12, 31, rfl⟩, tw_1207, tw_1209, tw_39, tw_87, tw_1210, ⟨by decide, by decide, by decide +kernel⟩⟩
theorem kvX12_142 : ux_LV RX12 142 12 yX12_wordHere cX12_wordHere 5 (some .int) 0 := ⟨⟨TX12, 31, rfl⟩, tw_1188, tw_1190, tw_35, tw_87, tw_1191, ⟨by decide, by decide, by decide +kernel⟩⟩
theorem kvX12_152 : ux_LV RX12 152 12 yX12_readsRest cX12_readsRest 2 (some .boolean) 1 := ⟨⟨TX12, 31, rfl⟩, tw_1192, tw_1194, tw_36, tw_87, tw_1195, ⟨by decide, by decide, by decide +kernel⟩⟩
theorem kpX12_129 : ux_FP RX12 129 12 18 .int := ⟨RX12, TX12, 31, rfl, lay_X12, by decide, tw_1074, tyX12, tyX12_ok, nmX12, rfl, by decide +kernel⟩
theorem kpX12_135 : ux_FP RX12 135 12 19 .int := ⟨RX12, TX12, 31, rfl, lay_X12, by decide, tw_1075, tyX12, tyX12_ok, nmX12, rfl, by decide +kernel⟩
theorem kfX12_146 : ux_FL RX12 146 12 21 := ⟨RX12, TX12, 31, rfl, lay_X12, by decide, tw_1077⟩
theorem kpX12_146 : ux_FP RX12 146 12 21 .int := ⟨RX12, TX12, 31, rfl, lay_X12, by decide, tw_1077, tyX12, tyX12_ok, nmX12, rfl, by decide +kernel⟩
theorem kfX12_149 : ux_FL RX12 149 12 20 := ⟨RX12, TX12, 31, rfl, lay_X12, by decide, tw_1076⟩
theorem kpX12_149 : ux_FP RX12 149 12 20 .int := ⟨RX12, TX12, 31, rfl, lay_X12, by decide, tw_1076, tyX12, tyX12_ok, nmX12, rfl, by decide +kernel⟩
theorem kfX12_155 : ux_FL RX12 155 12 23 := ⟨RX12, TX12, 31, rfl, lay_X12, by decide, tw_1079⟩
theorem kvX12_159 : ux_LV RX12 159 12 yX12_does cX12_does 3 none 1 := ⟨⟨TX12, 31, rfl⟩, tw_1203, tw_1205, tw_38, tw_87, tw_1206, ⟨by decide, by decide, by decide +kernel⟩⟩
theorem kpX12_155 : ux_FP RX12 155 12 23 .boolean := ⟨RX12, TX12, 31, rfl, lay_X12, by decide, tw_1079, tyX12, tyX12_ok, nmX12, rfl, by decide +kernel⟩
theorem kpX12_162 : ux_FP RX12 162 12 22 .int := ⟨RX12, TX12, 31, rfl, lay_X12, by decide, tw_1078, tyX12, tyX12_ok, nmX12, rfl, by decide +kernel⟩
theorem kfX12_82 : ux_FL RX12 82 12 1 := ⟨RX12, TX12, 31, rfl, lay_X12, by decide, tw_1057⟩
theorem kvX12_165 : ux_LV RX12 165 12 yX12_readsClause cX12_readsClause 2 (some .boolean) 0 := ⟨⟨TX12, 31, rfl⟩, tw_1184, tw_1186, tw_34, tw_87, tw_1187, ⟨by decide, by decide, by decide +kernel⟩⟩
theorem kfX12_162 : ux_FL RX12 162 12 22 := ⟨RX12, TX12, 31, rfl, lay_X12, by decide, tw_1078⟩
theorem kvX12_169 : ux_LV RX12 169 12 yX12_reads cX12_reads 3 (some .boolean) 1 := ⟨⟨TX12, 31, rfl⟩, tw_1166, tw_1168, tw_32, tw_87, tw_1169, ⟨by decide, by decide, by decide +kernel⟩⟩
theorem kfX12_51 : ux_FL RX12 51 12 27 := ⟨RX12, TX12, 31, rfl, lay_X12, by decide, tw_1083⟩
theorem ksX12_179 : ux_LS RX12 179 yX12_has cX12_has 2 (some .boolean) 2 := ⟨tw_1053, tw_1054, tw_87, tw_1055, ⟨by decide, by decide, by decide +kernel⟩⟩
theorem kfX12_47 : ux_FL RX12 47 12 26 := ⟨RX12, TX12, 31, rfl, lay_X12, by decide, tw_1082⟩
theorem ksX12_183 : ux_LS RX12 183 yX12_ones cX12_ones 3 (some .int) 1 := ⟨tw_1046, tw_1047, tw_87, tw_1048, ⟨by decide, by decide, by decide +kernel⟩⟩
theorem kvX12_187 : ux_LV RX12 187 12 yX12_layParts cX12_layParts 8 (some .int) 1 := ⟨⟨TX12, 31, rfl⟩, tw_1049, tw_1051, tw_31, tw_87, tw_1052, ⟨by decide, by decide, by decide +kernel⟩⟩
def fX12_addMeter_36 (N : ux_N) : Option (ux_N) :=
  some N
set_option maxHeartbeats 4000000 in
set_option maxRecDepth 20000 in
theorem wX12_addMeter_36 {X : ux_X} (C : ux_C X cX12_addMeter RX12 4 none 0 0 shM)   {N : ux_N} {L : ux_L} {o : ux_N} (hq : ux_Qv X o L) (h : fX12_addMeter_36 N = some o) : ux_Wt X 4 36 [] [] N L := by
  cases h
  exact wt_vret C hq dX12_addMeter_36
def fX12_addMeter (v1 : Int32) (v2 : Int32) (N : ux_N) : Option (ux_N) :=
  if ux_in ((3 : Int32) + (N 1 0)) 252 then (if ux_in ((12 : Int32) + (N 1 0)) 252 then (fX12_addMeter_36 (ux_u (ux_u (ux_u N 1 (((3 : Int32) + (N 1 0)).toNatClampNeg) v1) 1 (((12 : Int32) + (N 1 0)).toNatClampNeg) v2) 1 0 (((ux_u (ux_u N 1 (((3 : Int32) + (N 1 0)).toNatClampNeg) v1) 1 (((12 : Int32) + (N 1 0)).toNatClampNeg) v2) 1 0) + (1 : Int32)))) else none) else none
set_option maxHeartbeats 4000000 in
set_option maxRecDepth 20000 in
theorem wX12_addMeter {X : ux_X} (C : ux_C X cX12_addMeter RX12 4 none 0 0 shM) {v1 : Int32} {v2 : Int32}  {N : ux_N} {L : ux_L} {o : ux_N} (hq : ux_Qv X o L) (h : fX12_addMeter v1 v2 N = some o) : ux_Wt X 4 0 [(0, .ref (ux_ad X 0)), (1, .int v1), (2, .int v2)] [] N L := by
  refine wt_aload_n 1 0 C dX12_addMeter_0 rfl rfl ?_
  refine wt_getR 4 C kfX12_7 sm_0 rfl dX12_addMeter_1 rfl ?_
  refine wt_iconst 5 0 C dX12_addMeter_4 rfl (by decide) ?_
  refine wt_iald 6 0 C sm_1 (by decide) (by decide) dX12_addMeter_5 rfl ?_
  refine wt_istore_n 7 [(3, .int (N 1 0)), (0, .ref (ux_ad X 0)), (1, .int v1), (2, .int v2)] C dX12_addMeter_6 rfl (by decide) rfl ?_
  refine wt_aload_n 8 1 C dX12_addMeter_7 rfl rfl ?_
  refine wt_getR 11 C kfX12_7 sm_0 rfl dX12_addMeter_8 rfl ?_
  refine wt_iconst 12 3 C dX12_addMeter_11 rfl (by decide) ?_
  refine wt_iload_n 13 0 C dX12_addMeter_12 rfl rfl ?_
  refine wt_iadd 14 C dX12_addMeter_13 rfl ?_
  refine wt_iload_n 15 2 C dX12_addMeter_14 rfl rfl ?_
  obtain ⟨hi1, h⟩ := ux_guard h
  refine wt_iast 16 (((3 : Int32) + (N 1 0)).toNatClampNeg) C sm_1 rfl hi1 dX12_addMeter_15 rfl ?_
  refine wt_aload_n 17 1 C dX12_addMeter_16 rfl rfl ?_
  refine wt_getR 20 C kfX12_7 sm_0 rfl dX12_addMeter_17 rfl ?_
  refine wt_bipush 22 12 C dX12_addMeter_20 rfl (by decide) ?_
  refine wt_iload_n 23 0 C dX12_addMeter_22 rfl rfl ?_
  refine wt_iadd 24 C dX12_addMeter_23 rfl ?_
  refine wt_iload_n 25 3 C dX12_addMeter_24 rfl rfl ?_
  obtain ⟨hi2, h⟩ := ux_guard h
  refine wt_iast 26 (((12 : Int32) + (N 1 0)).toNatClampNeg) C sm_1 rfl hi2 dX12_addMeter_25 rfl ?_
  refine wt_aload_n 27 1 C dX12_addMeter_26 rfl rfl ?_
  refine wt_getR 30 C kfX12_7 sm_0 rfl dX12_addMeter_27 rfl ?_
  refine wt_iconst 31 0 C dX12_addMeter_30 rfl (by decide) ?_
  refine wt_dup2 32 C dX12_addMeter_31 rfl rfl rfl ?_
  refine wt_iald 33 0 C sm_1 (by decide) (by decide) dX12_addMeter_32 rfl ?_
  refine wt_iconst 34 1 C dX12_addMeter_33 rfl (by decide) ?_
  refine wt_iadd 35 C dX12_addMeter_34 rfl ?_
  refine wt_iast 36 0 C sm_1 (by decide) (by decide) dX12_addMeter_35 rfl ?_
  refine wt_sub [] rfl ?_
  exact wX12_addMeter_36 C hq h
theorem mX12_addMeter {l : Launch} {G : ux_G} (hok : ux_ok G shM) {v1 : Int32} {v2 : Int32}  {N : ux_N} {L : ux_L} {o : ux_N} (h : fX12_addMeter v1 v2 N = some o) : ux_Mv l G yX12_addMeter cX12_addMeter 4 0 0 [.ref (gad G 0), .int v1, .int v2] N L o L :=
  ux_ofv shM hok (by decide +kernel) (Nat.le_of_ble_eq_true rfl) (fun X hG hl C hq => by subst hG; subst hl; exact wX12_addMeter C  hq h)
def fX12_does_140b (v2 : Int32) (N : ux_N) : Option ((Int32 × ux_N) ⊕ (ux_N)) :=
  if (3 : Int32) ≤ v2 then (some (.inr (N))) else (if ux_in v2 3 then (if ux_in (((3 : Int32) * (N 0 4)) + v2) 18 then (some (.inl ((v2 + 1), (ux_u N 3 ((((3 : Int32) * (N 0 4)) + v2).toNatClampNeg) (N 11 (v2.toNatClampNeg)))))) else none) else none)
set_option maxHeartbeats 4000000 in
set_option maxRecDepth 20000 in
theorem wX12_does_140b {X : ux_X} (C : ux_C X cX12_does RX12 3 none 1 23 shM) {v2 : Int32}  {N : ux_N} {L : ux_L} {o : (Int32 × ux_N) ⊕ (ux_N)} (hin : ∀ s : Int32 × ux_N, o = .inl s → ux_Wt X 3 140 [(0, .ref (ux_ad X 0)), (2, .int s.1)] [] s.2 L) (hex0 : ∀ e : ux_N, o = .inr (e) → ux_Wt X 3 170 [(0, .ref (ux_ad X 0))] [] e L) (h : fX12_does_140b v2 N = some o) : ux_Wt X 3 140 [(0, .ref (ux_ad X 0)), (2, .int v2)] [] N L := by
  refine wt_iload_n 141 1 C dX12_does_140 rfl rfl ?_
  refine wt_iconst 142 3 C dX12_does_141 rfl (by decide) ?_
  refine wt_icmp_ge 145 170 C dX12_does_142 rfl (by decide) (fun q1 => ?_) (fun q1 => ?_)
  · have h := (if_pos q1).symm.trans h
    refine wt_sub [0] rfl ?_
    exact hex0 _ (Option.some.inj h).symm
  · have h := (if_neg q1).symm.trans h
    refine wt_aload_n 146 0 C dX12_does_145 rfl rfl ?_
    refine wt_getR 149 C kfX12_16 sm_0 rfl dX12_does_146 rfl ?_
    refine wt_iconst 150 3 C dX12_does_149 rfl (by decide) ?_
    refine wt_aload_n 151 0 C dX12_does_150 rfl rfl ?_
    refine wt_getI 154 C kfX12_89 sm_0 rfl dX12_does_151 rfl ?_
    refine wt_imul 155 C dX12_does_154 rfl ?_
    refine wt_iload_n 156 1 C dX12_does_155 rfl rfl ?_
    refine wt_iadd 157 C dX12_does_156 rfl ?_
    refine wt_aload_n 158 0 C dX12_does_157 rfl rfl ?_
    refine wt_getR 161 C kfX12_41 sm_0 rfl dX12_does_158 rfl ?_
    refine wt_iload_n 162 1 C dX12_does_161 rfl rfl ?_
    obtain ⟨hi2, h⟩ := ux_guard h
    refine wt_iald 163 (v2.toNatClampNeg) C sm_11 rfl hi2 dX12_does_162 rfl ?_
    obtain ⟨hi3, h⟩ := ux_guard h
    refine wt_iast 164 ((((3 : Int32) * (N 0 4)) + v2).toNatClampNeg) C sm_3 rfl hi3 dX12_does_163 rfl ?_
    refine wt_iinc 167 1 [(2, .int (v2 + 1)), (0, .ref (ux_ad X 0))] (v2 + 1) C dX12_does_164 rfl rfl (by rfl) (by decide) rfl ?_
    refine wt_goto 140 C dX12_does_167 (by decide) ?_
    refine wt_sub [1, 0] rfl ?_
    exact hin _ (Option.some.inj h).symm
def fX12_does_194 (N : ux_N) : Option (ux_N) :=
  some N
set_option maxHeartbeats 4000000 in
set_option maxRecDepth 20000 in
theorem wX12_does_194 {X : ux_X} (C : ux_C X cX12_does RX12 3 none 1 23 shM)   {N : ux_N} {L : ux_L} {o : ux_N} (hq : ux_Qv X o L) (h : fX12_does_194 N = some o) : ux_Wt X 3 194 [] [] N L := by
  cases h
  exact wt_vret C hq dX12_does_194
def fX12_does_124 (s0 : Int32) (s1 : Int32) (N : ux_N) : Option (ux_N) :=
  if ux_in s1 20 then (fX12_does_194 (ux_u (ux_u N 2 (s1.toNatClampNeg) s0) 0 2 (((ux_u N 2 (s1.toNatClampNeg) s0) 0 2) + (1 : Int32)))) else none
set_option maxHeartbeats 4000000 in
set_option maxRecDepth 20000 in
theorem wX12_does_124 {X : ux_X} (C : ux_C X cX12_does RX12 3 none 1 23 shM) {s0 : Int32} {s1 : Int32}  {N : ux_N} {L : ux_L} {o : ux_N} (hq : ux_Qv X o L) (h : fX12_does_124 s0 s1 N = some o) : ux_Wt X 3 124 [(0, .ref (ux_ad X 0))] [.int s0, .int s1, .ref (ux_ad X 2)] N L := by
  obtain ⟨hi1, h⟩ := ux_guard h
  refine wt_iast 125 (s1.toNatClampNeg) C sm_2 rfl hi1 dX12_does_124 rfl ?_
  refine wt_aload_n 126 0 C dX12_does_125 rfl rfl ?_
  refine wt_dup 127 C dX12_does_126 rfl rfl ?_
  refine wt_getI 130 C kfX12_86 sm_0 rfl dX12_does_127 rfl ?_
  refine wt_iconst 131 1 C dX12_does_130 rfl (by decide) ?_
  refine wt_iadd 132 C dX12_does_131 rfl ?_
  refine wt_putI 135 C kpX12_86 sm_0 rfl rfl rfl dX12_does_132 rfl ?_
  refine wt_goto 194 C dX12_does_135 (by decide) ?_
  refine wt_sub [] rfl ?_
  exact wX12_does_194 C hq h
def fX12_does_81 (s0 : Int32) (s1 : Int32) (N : ux_N) : Option (ux_N) :=
  if ux_in s1 20 then (if ((ux_u N 2 (s1.toNatClampNeg) s0) 11 1) ≤ ((ux_u N 2 (s1.toNatClampNeg) s0) 11 0) then (fX12_does_124 ((ux_u N 2 (s1.toNatClampNeg) s0) 11 0) (((2 : Int32) * ((ux_u N 2 (s1.toNatClampNeg) s0) 0 2)) + (1 : Int32)) (ux_u N 2 (s1.toNatClampNeg) s0)) else (fX12_does_124 ((ux_u N 2 (s1.toNatClampNeg) s0) 11 1) (((2 : Int32) * ((ux_u N 2 (s1.toNatClampNeg) s0) 0 2)) + (1 : Int32)) (ux_u N 2 (s1.toNatClampNeg) s0))) else none
set_option maxHeartbeats 4000000 in
set_option maxRecDepth 20000 in
theorem wX12_does_81 {X : ux_X} (C : ux_C X cX12_does RX12 3 none 1 23 shM) {s0 : Int32} {s1 : Int32}  {N : ux_N} {L : ux_L} {o : ux_N} (hq : ux_Qv X o L) (h : fX12_does_81 s0 s1 N = some o) : ux_Wt X 3 81 [(0, .ref (ux_ad X 0))] [.int s0, .int s1, .ref (ux_ad X 2)] N L := by
  obtain ⟨hi1, h⟩ := ux_guard h
  refine wt_iast 82 (s1.toNatClampNeg) C sm_2 rfl hi1 dX12_does_81 rfl ?_
  refine wt_aload_n 83 0 C dX12_does_82 rfl rfl ?_
  refine wt_getR 86 C kfX12_13 sm_0 rfl dX12_does_83 rfl ?_
  refine wt_iconst 87 2 C dX12_does_86 rfl (by decide) ?_
  refine wt_aload_n 88 0 C dX12_does_87 rfl rfl ?_
  refine wt_getI 91 C kfX12_86 sm_0 rfl dX12_does_88 rfl ?_
  refine wt_imul 92 C dX12_does_91 rfl ?_
  refine wt_iconst 93 1 C dX12_does_92 rfl (by decide) ?_
  refine wt_iadd 94 C dX12_does_93 rfl ?_
  refine wt_aload_n 95 0 C dX12_does_94 rfl rfl ?_
  refine wt_getR 98 C kfX12_41 sm_0 rfl dX12_does_95 rfl ?_
  refine wt_iconst 99 0 C dX12_does_98 rfl (by decide) ?_
  refine wt_iald 100 0 C sm_11 (by decide) (by decide) dX12_does_99 rfl ?_
  refine wt_aload_n 101 0 C dX12_does_100 rfl rfl ?_
  refine wt_getR 104 C kfX12_41 sm_0 rfl dX12_does_101 rfl ?_
  refine wt_iconst 105 1 C dX12_does_104 rfl (by decide) ?_
  refine wt_iald 106 1 C sm_11 (by decide) (by decide) dX12_does_105 rfl ?_
  refine wt_icmp_ge 109 118 C dX12_does_106 rfl (by decide) (fun q2 => ?_) (fun q2 => ?_)
  · have h := (if_pos q2).symm.trans h
    refine wt_aload_n 119 0 C dX12_does_118 rfl rfl ?_
    refine wt_getR 122 C kfX12_41 sm_0 rfl dX12_does_119 rfl ?_
    refine wt_iconst 123 0 C dX12_does_122 rfl (by decide) ?_
    refine wt_iald 124 0 C sm_11 (by decide) (by decide) dX12_does_123 rfl ?_
    exact wX12_does_124 C hq h
  · have h := (if_neg q2).symm.trans h
    refine wt_aload_n 110 0 C dX12_does_109 rfl rfl ?_
    refine wt_getR 113 C kfX12_41 sm_0 rfl dX12_does_110 rfl ?_
    refine wt_iconst 114 1 C dX12_does_113 rfl (by decide) ?_
    refine wt_iald 115 1 C sm_11 (by decide) (by decide) dX12_does_114 rfl ?_
    refine wt_goto 124 C dX12_does_115 (by decide) ?_
    exact wX12_does_124 C hq h
def fX12_does (v1 : Int32) (N : ux_N) : Option (ux_N) :=
  if v1 = (5 : Int32) then ((ux_lp (fun s : Int32 × ux_N => fX12_does_140b s.1 s.2) ux_fu ((0 : Int32), N)).bind (fun e9 => fX12_does_194 (ux_u e9 0 4 ((e9 0 4) + (1 : Int32))))) else (if v1 = (6 : Int32) then ((fX12_anew (N 11 0) N).bind (fun o11 => fX12_does_194 o11)) else (if v1 = (7 : Int32) then (if (N 11 1) ≤ (N 11 0) then (fX12_does_81 (N 11 1) ((2 : Int32) * (N 0 2)) N) else (fX12_does_81 (N 11 0) ((2 : Int32) * (N 0 2)) N)) else ((fX12_addMeter v1 (N 11 0) N).bind (fun o15 => fX12_does_194 o15))))
set_option maxHeartbeats 4000000 in
set_option maxRecDepth 20000 in
theorem wX12_does {X : ux_X} (C : ux_C X cX12_does RX12 3 none 1 23 shM) {v1 : Int32}  {N : ux_N} {L : ux_L} {o : ux_N} (hq : ux_Qv X o L) (h : fX12_does v1 N = some o) : ux_Wt X 3 0 [(0, .ref (ux_ad X 0)), (1, .int v1)] [] N L := by
  refine wt_iload_n 1 1 C dX12_does_0 rfl rfl ?_
  by_cases q1 : v1 = (5 : Int32)
  · have h := (if_pos q1).symm.trans h
    refine wt_tin 138 (5) C dX12_does_1 q1 (by decide) (by decide) rfl (by decide) ?_
    refine wt_iconst 139 0 C dX12_does_138 rfl (by decide) ?_
    refine wt_istore_n 140 [(2, .int (0 : Int32)), (0, .ref (ux_ad X 0)), (1, .int v1)] C dX12_does_139 rfl (by decide) rfl ?_
    obtain ⟨e2, hl3, h⟩ := Option.bind_eq_some_iff.mp h
    refine wt_sub [1, 0] rfl ?_
    refine ux_loop (fun s : Int32 × ux_N => fX12_does_140b s.1 s.2) (fun s : Int32 × ux_N => ux_Wt X 3 140 [(0, .ref (ux_ad X 0)), (2, .int s.1)] [] s.2 L) (e := e2) ?_ hl3
    intro s4 o5 hb6 hi7 hx8
    refine wX12_does_140b C hi7 (fun x0 he => ?_) hb6
    · obtain ⟨e9, rfl⟩ : ∃ z, z = x0 := ⟨_, rfl⟩
      have h9 := hx8 _ he
      subst h9
      refine wt_aload_n 171 0 C dX12_does_170 rfl rfl ?_
      refine wt_dup 172 C dX12_does_171 rfl rfl ?_
      refine wt_getI 175 C kfX12_89 sm_0 rfl dX12_does_172 rfl ?_
      refine wt_iconst 176 1 C dX12_does_175 rfl (by decide) ?_
      refine wt_iadd 177 C dX12_does_176 rfl ?_
      refine wt_putI 180 C kpX12_89 sm_0 rfl rfl rfl dX12_does_177 rfl ?_
      refine wt_goto 194 C dX12_does_180 (by decide) ?_
      refine wt_sub [] rfl ?_
      exact wX12_does_194 C hq h
  have h := (if_neg q1).symm.trans h
  by_cases q10 : v1 = (6 : Int32)
  · have h := (if_pos q10).symm.trans h
    refine wt_tin 28 (6) C dX12_does_1 q10 (by decide) (by decide) rfl (by decide) ?_
    refine wt_aload_n 29 0 C dX12_does_28 rfl rfl ?_
    refine wt_aload_n 30 0 C dX12_does_29 rfl rfl ?_
    refine wt_getR 33 C kfX12_41 sm_0 rfl dX12_does_30 rfl ?_
    refine wt_iconst 34 0 C dX12_does_33 rfl (by decide) ?_
    refine wt_iald 35 0 C sm_11 (by decide) (by decide) dX12_does_34 rfl ?_
    obtain ⟨o11, hc12, h⟩ := Option.bind_eq_some_iff.mp h
    refine wt_callVv 38 [] C kvX12_75 sm_0 (mX12_anew (cx_ok C)  hc12) rfl rfl ⟨Nat.le_of_ble_eq_true rfl, Nat.le_of_ble_eq_true rfl⟩ (Nat.le_of_ble_eq_true rfl) dX12_does_35 rfl ?_
    refine wt_goto 194 C dX12_does_38 (by decide) ?_
    refine wt_sub [] rfl ?_
    exact wX12_does_194 C hq h
  have h := (if_neg q10).symm.trans h
  by_cases q13 : v1 = (7 : Int32)
  · have h := (if_pos q13).symm.trans h
    refine wt_tin 41 (7) C dX12_does_1 q13 (by decide) (by decide) rfl (by decide) ?_
    refine wt_aload_n 42 0 C dX12_does_41 rfl rfl ?_
    refine wt_getR 45 C kfX12_13 sm_0 rfl dX12_does_42 rfl ?_
    refine wt_iconst 46 2 C dX12_does_45 rfl (by decide) ?_
    refine wt_aload_n 47 0 C dX12_does_46 rfl rfl ?_
    refine wt_getI 50 C kfX12_86 sm_0 rfl dX12_does_47 rfl ?_
    refine wt_imul 51 C dX12_does_50 rfl ?_
    refine wt_aload_n 52 0 C dX12_does_51 rfl rfl ?_
    refine wt_getR 55 C kfX12_41 sm_0 rfl dX12_does_52 rfl ?_
    refine wt_iconst 56 0 C dX12_does_55 rfl (by decide) ?_
    refine wt_iald 57 0 C sm_11 (by decide) (by decide) dX12_does_56 rfl ?_
    refine wt_aload_n 58 0 C dX12_does_57 rfl rfl ?_
    refine wt_getR 61 C kfX12_41 sm_0 rfl dX12_does_58 rfl ?_
    refine wt_iconst 62 1 C dX12_does_61 rfl (by decide) ?_
    refine wt_iald 63 1 C sm_11 (by decide) (by decide) dX12_does_62 rfl ?_
    refine wt_icmp_ge 66 75 C dX12_does_63 rfl (by decide) (fun q14 => ?_) (fun q14 => ?_)
    · have h := (if_pos q14).symm.trans h
      refine wt_aload_n 76 0 C dX12_does_75 rfl rfl ?_
      refine wt_getR 79 C kfX12_41 sm_0 rfl dX12_does_76 rfl ?_
      refine wt_iconst 80 1 C dX12_does_79 rfl (by decide) ?_
      refine wt_iald 81 1 C sm_11 (by decide) (by decide) dX12_does_80 rfl ?_
      refine wt_sub [0] rfl ?_
      exact wX12_does_81 C hq h
    · have h := (if_neg q14).symm.trans h
      refine wt_aload_n 67 0 C dX12_does_66 rfl rfl ?_
      refine wt_getR 70 C kfX12_41 sm_0 rfl dX12_does_67 rfl ?_
      refine wt_iconst 71 0 C dX12_does_70 rfl (by decide) ?_
      refine wt_iald 72 0 C sm_11 (by decide) (by decide) dX12_does_71 rfl ?_
      refine wt_goto 81 C dX12_does_72 (by decide) ?_
      refine wt_sub [0] rfl ?_
      exact wX12_does_81 C hq h
  have h := (if_neg q13).symm.trans h
  refine wt_tout 183 C dX12_does_1 (by have z0 := lv_neT q1 (show (5 : Int32).toInt = 5 from by decide); have z1 := lv_neT q10 (show (6 : Int32).toInt = 6 from by decide); have z2 := lv_neT q13 (show (7 : Int32).toInt = 7 from by decide); omega) (by decide) ?_
  refine wt_aload_n 184 0 C dX12_does_183 rfl rfl ?_
  refine wt_iload_n 185 1 C dX12_does_184 rfl rfl ?_
  refine wt_aload_n 186 0 C dX12_does_185 rfl rfl ?_
  refine wt_getR 189 C kfX12_41 sm_0 rfl dX12_does_186 rfl ?_
  refine wt_iconst 190 0 C dX12_does_189 rfl (by decide) ?_
  refine wt_iald 191 0 C sm_11 (by decide) (by decide) dX12_does_190 rfl ?_
  obtain ⟨o15, hc16, h⟩ := Option.bind_eq_some_iff.mp h
  refine wt_callVv 194 [] C kvX12_138 sm_0 (mX12_addMeter (cx_ok C)  hc16) rfl rfl ⟨Nat.le_of_ble_eq_true rfl, Nat.le_of_ble_eq_true rfl⟩ (Nat.le_of_ble_eq_true rfl) dX12_does_191 rfl ?_
  refine wt_sub [] rfl ?_
  exact wX12_does_194 C hq h
theorem mX12_does {l : Launch} {G : ux_G} (hok : ux_ok G shM) {v1 : Int32}  {N : ux_N} {L : ux_L} {o : ux_N} (h : fX12_does v1 N = some o) : ux_Mv l G yX12_does cX12_does 3 1 23 [.ref (gad G 0), .int v1] N L o L :=
  ux_ofv shM hok (by decide +kernel) (Nat.le_of_ble_eq_true rfl) (fun X hG hl C hq => by subst hG; subst hl; exact wX12_does C  hq h)
def fX12_readsClause_53 (N : ux_N) : Option (Int32 × ux_N) :=
  some ((0 : Int32), N)
set_option maxHeartbeats 4000000 in
set_option maxRecDepth 20000 in
theorem wX12_readsClause_53 {X : ux_X} (C : ux_C X cX12_readsClause RX12 2 (some .boolean) 5 111 shM)   {N : ux_N} {L : ux_L} {o : Int32 × ux_N} (hq : ux_Qi X o.1 o.2 L) (h : fX12_readsClause_53 N = some o) : ux_Wt X 2 53 [] [] N L := by
  refine wt_iconst 54 0 C dX12_readsClause_53 rfl (by decide) ?_
  cases h
  exact wt_zret C (ux_b_n (by decide)).1 hq dX12_readsClause_54
def fX12_readsClause_201 (N : ux_N) : Option (Int32 × ux_N) :=
  some ((1 : Int32), N)
set_option maxHeartbeats 4000000 in
set_option maxRecDepth 20000 in
theorem wX12_readsClause_201 {X : ux_X} (C : ux_C X cX12_readsClause RX12 2 (some .boolean) 5 111 shM)   {N : ux_N} {L : ux_L} {o : Int32 × ux_N} (hq : ux_Qi X o.1 o.2 L) (h : fX12_readsClause_201 N = some o) : ux_Wt X 2 201 [] [] N L := by
  refine wt_iconst 202 1 C dX12_readsClause_201 rfl (by decide) ?_
  cases h
  exact wt_zret C (ux_b_n (by decide)).1 hq dX12_readsClause_202
def fX12_readsClause_186 (v1 : Int32) (s0 : Int32) (N : ux_N) : Option (Int32 × ux_N) :=
  if ((ux_u N 0 20 s0) 0 23) = 0 then (fX12_readsClause_201 (ux_u N 0 20 s0)) else ((fX12_does v1 (ux_u N 0 20 s0)).bind (fun o2 => fX12_readsClause_201 o2))
set_option maxHeartbeats 4000000 in
set_option maxRecDepth 20000 in
theorem wX12_readsClause_186 {X : ux_X} (C : ux_C X cX12_readsClause RX12 2 (some .boolean) 5 111 shM) {v1 : Int32} {s0 : Int32}  {N : ux_N} {L : ux_L} {o : Int32 × ux_N} (hq : ux_Qi X o.1 o.2 L) (h : fX12_readsClause_186 v1 s0 N = some o) : ux_Wt X 2 186 [(0, .ref (ux_ad X 0)), (1, .int v1)] [.int s0, .ref (ux_ad X 0)] N L := by
  refine wt_putI 189 C kpX12_149 sm_0 rfl rfl rfl dX12_readsClause_186 rfl ?_
  refine wt_aload_n 190 0 C dX12_readsClause_189 rfl rfl ?_
  refine wt_getI 193 C kfX12_155 sm_0 rfl dX12_readsClause_190 rfl ?_
  refine wt_if_eq 196 201 C dX12_readsClause_193 rfl (by decide) (fun q1 => ?_) (fun q1 => ?_)
  · have h := (if_pos q1).symm.trans h
    refine wt_sub [] rfl ?_
    exact wX12_readsClause_201 C hq h
  · have h := (if_neg q1).symm.trans h
    refine wt_aload_n 197 0 C dX12_readsClause_196 rfl rfl ?_
    refine wt_iload_n 198 1 C dX12_readsClause_197 rfl rfl ?_
    obtain ⟨o2, hc3, h⟩ := Option.bind_eq_some_iff.mp h
    refine wt_callVv 201 [] C kvX12_159 sm_0 (mX12_does (cx_ok C)  hc3) rfl rfl ⟨Nat.le_of_ble_eq_true rfl, Nat.le_of_ble_eq_true rfl⟩ (Nat.le_of_ble_eq_true rfl) dX12_readsClause_198 rfl ?_
    refine wt_sub [] rfl ?_
    exact wX12_readsClause_201 C hq h
def fX12_readsClause_154 (v1 : Int32) (s0 : Int32) (N : ux_N) : Option (Int32 × ux_N) :=
  if v1 = (6 : Int32) then (fX12_readsClause_186 v1 (0 : Int32) (ux_u N 0 21 s0)) else (if (5 : Int32) ≤ v1 then (fX12_readsClause_186 v1 ((ux_u N 0 21 s0) 0 20) (ux_u N 0 21 s0)) else (fX12_readsClause_186 v1 (((ux_u N 0 21 s0) 0 20) + (1 : Int32)) (ux_u N 0 21 s0)))
set_option maxHeartbeats 4000000 in
set_option maxRecDepth 20000 in
theorem wX12_readsClause_154 {X : ux_X} (C : ux_C X cX12_readsClause RX12 2 (some .boolean) 5 111 shM) {v1 : Int32} {s0 : Int32}  {N : ux_N} {L : ux_L} {o : Int32 × ux_N} (hq : ux_Qi X o.1 o.2 L) (h : fX12_readsClause_154 v1 s0 N = some o) : ux_Wt X 2 154 [(0, .ref (ux_ad X 0)), (1, .int v1)] [.int s0, .ref (ux_ad X 0)] N L := by
  refine wt_putI 157 C kpX12_146 sm_0 rfl rfl rfl dX12_readsClause_154 rfl ?_
  refine wt_aload_n 158 0 C dX12_readsClause_157 rfl rfl ?_
  refine wt_iload_n 159 1 C dX12_readsClause_158 rfl rfl ?_
  refine wt_bipush 161 6 C dX12_readsClause_159 rfl (by decide) ?_
  refine wt_icmp_ne 164 168 C dX12_readsClause_161 rfl (by decide) (fun q1 => ?_) (fun q1 => ?_)
  · have h := (if_neg q1).symm.trans h
    refine wt_iload_n 169 1 C dX12_readsClause_168 rfl rfl ?_
    refine wt_iconst 170 5 C dX12_readsClause_169 rfl (by decide) ?_
    refine wt_icmp_ge 173 182 C dX12_readsClause_170 rfl (by decide) (fun q2 => ?_) (fun q2 => ?_)
    · have h := (if_pos q2).symm.trans h
      refine wt_aload_n 183 0 C dX12_readsClause_182 rfl rfl ?_
      refine wt_getI 186 C kfX12_149 sm_0 rfl dX12_readsClause_183 rfl ?_
      exact wX12_readsClause_186 C hq h
    · have h := (if_neg q2).symm.trans h
      refine wt_aload_n 174 0 C dX12_readsClause_173 rfl rfl ?_
      refine wt_getI 177 C kfX12_149 sm_0 rfl dX12_readsClause_174 rfl ?_
      refine wt_iconst 178 1 C dX12_readsClause_177 rfl (by decide) ?_
      refine wt_iadd 179 C dX12_readsClause_178 rfl ?_
      refine wt_goto 186 C dX12_readsClause_179 (by decide) ?_
      exact wX12_readsClause_186 C hq h
  · have h := (if_pos q1).symm.trans h
    refine wt_iconst 165 0 C dX12_readsClause_164 rfl (by decide) ?_
    refine wt_goto 186 C dX12_readsClause_165 (by decide) ?_
    exact wX12_readsClause_186 C hq h
def fX12_readsClause_122 (v1 : Int32) (s0 : Int32) (N : ux_N) : Option (Int32 × ux_N) :=
  if v1 = (6 : Int32) then (fX12_readsClause_154 v1 (0 : Int32) (ux_u N 0 19 s0)) else (if v1 = (5 : Int32) then (fX12_readsClause_154 v1 (((ux_u N 0 19 s0) 0 21) + (1 : Int32)) (ux_u N 0 19 s0)) else (fX12_readsClause_154 v1 ((ux_u N 0 19 s0) 0 21) (ux_u N 0 19 s0)))
set_option maxHeartbeats 4000000 in
set_option maxRecDepth 20000 in
theorem wX12_readsClause_122 {X : ux_X} (C : ux_C X cX12_readsClause RX12 2 (some .boolean) 5 111 shM) {v1 : Int32} {s0 : Int32}  {N : ux_N} {L : ux_L} {o : Int32 × ux_N} (hq : ux_Qi X o.1 o.2 L) (h : fX12_readsClause_122 v1 s0 N = some o) : ux_Wt X 2 122 [(0, .ref (ux_ad X 0)), (1, .int v1)] [.int s0, .ref (ux_ad X 0)] N L := by
  refine wt_putI 125 C kpX12_135 sm_0 rfl rfl rfl dX12_readsClause_122 rfl ?_
  refine wt_aload_n 126 0 C dX12_readsClause_125 rfl rfl ?_
  refine wt_iload_n 127 1 C dX12_readsClause_126 rfl rfl ?_
  refine wt_bipush 129 6 C dX12_readsClause_127 rfl (by decide) ?_
  refine wt_icmp_ne 132 136 C dX12_readsClause_129 rfl (by decide) (fun q1 => ?_) (fun q1 => ?_)
  · have h := (if_neg q1).symm.trans h
    refine wt_iload_n 137 1 C dX12_readsClause_136 rfl rfl ?_
    refine wt_iconst 138 5 C dX12_readsClause_137 rfl (by decide) ?_
    refine wt_icmp_ne 141 150 C dX12_readsClause_138 rfl (by decide) (fun q2 => ?_) (fun q2 => ?_)
    · have h := (if_neg q2).symm.trans h
      refine wt_aload_n 151 0 C dX12_readsClause_150 rfl rfl ?_
      refine wt_getI 154 C kfX12_146 sm_0 rfl dX12_readsClause_151 rfl ?_
      exact wX12_readsClause_154 C hq h
    · have h := (if_pos q2).symm.trans h
      refine wt_aload_n 142 0 C dX12_readsClause_141 rfl rfl ?_
      refine wt_getI 145 C kfX12_146 sm_0 rfl dX12_readsClause_142 rfl ?_
      refine wt_iconst 146 1 C dX12_readsClause_145 rfl (by decide) ?_
      refine wt_iadd 147 C dX12_readsClause_146 rfl ?_
      refine wt_goto 154 C dX12_readsClause_147 (by decide) ?_
      exact wX12_readsClause_154 C hq h
  · have h := (if_pos q1).symm.trans h
    refine wt_iconst 133 0 C dX12_readsClause_132 rfl (by decide) ?_
    refine wt_goto 154 C dX12_readsClause_133 (by decide) ?_
    exact wX12_readsClause_154 C hq h
def fX12_readsClause_89 (v1 : Int32) (s0 : Int32) (N : ux_N) : Option (Int32 × ux_N) :=
  if v1 = (6 : Int32) then (fX12_readsClause_122 v1 (0 : Int32) (ux_u N 0 18 s0)) else (if v1 = (7 : Int32) then (fX12_readsClause_122 v1 (((ux_u N 0 18 s0) 0 19) + (1 : Int32)) (ux_u N 0 18 s0)) else (fX12_readsClause_122 v1 ((ux_u N 0 18 s0) 0 19) (ux_u N 0 18 s0)))
set_option maxHeartbeats 4000000 in
set_option maxRecDepth 20000 in
theorem wX12_readsClause_89 {X : ux_X} (C : ux_C X cX12_readsClause RX12 2 (some .boolean) 5 111 shM) {v1 : Int32} {s0 : Int32}  {N : ux_N} {L : ux_L} {o : Int32 × ux_N} (hq : ux_Qi X o.1 o.2 L) (h : fX12_readsClause_89 v1 s0 N = some o) : ux_Wt X 2 89 [(0, .ref (ux_ad X 0)), (1, .int v1)] [.int s0, .ref (ux_ad X 0)] N L := by
  refine wt_putI 92 C kpX12_129 sm_0 rfl rfl rfl dX12_readsClause_89 rfl ?_
  refine wt_aload_n 93 0 C dX12_readsClause_92 rfl rfl ?_
  refine wt_iload_n 94 1 C dX12_readsClause_93 rfl rfl ?_
  refine wt_bipush 96 6 C dX12_readsClause_94 rfl (by decide) ?_
  refine wt_icmp_ne 99 103 C dX12_readsClause_96 rfl (by decide) (fun q1 => ?_) (fun q1 => ?_)
  · have h := (if_neg q1).symm.trans h
    refine wt_iload_n 104 1 C dX12_readsClause_103 rfl rfl ?_
    refine wt_bipush 106 7 C dX12_readsClause_104 rfl (by decide) ?_
    refine wt_icmp_ne 109 118 C dX12_readsClause_106 rfl (by decide) (fun q2 => ?_) (fun q2 => ?_)
    · have h := (if_neg q2).symm.trans h
      refine wt_aload_n 119 0 C dX12_readsClause_118 rfl rfl ?_
      refine wt_getI 122 C kfX12_135 sm_0 rfl dX12_readsClause_119 rfl ?_
      exact wX12_readsClause_122 C hq h
    · have h := (if_pos q2).symm.trans h
      refine wt_aload_n 110 0 C dX12_readsClause_109 rfl rfl ?_
      refine wt_getI 113 C kfX12_135 sm_0 rfl dX12_readsClause_110 rfl ?_
      refine wt_iconst 114 1 C dX12_readsClause_113 rfl (by decide) ?_
      refine wt_iadd 115 C dX12_readsClause_114 rfl ?_
      refine wt_goto 122 C dX12_readsClause_115 (by decide) ?_
      exact wX12_readsClause_122 C hq h
  · have h := (if_pos q1).symm.trans h
    refine wt_iconst 100 0 C dX12_readsClause_99 rfl (by decide) ?_
    refine wt_goto 122 C dX12_readsClause_100 (by decide) ?_
    exact wX12_readsClause_122 C hq h
def fX12_readsClause_55 (v1 : Int32) (N : ux_N) : Option (Int32 × ux_N) :=
  (fX12_nextToken N).bind (fun o1 => (fX12_readsRest v1 o1).bind (fun o3 => if o3.1 = 0 then (some ((0 : Int32), o3.2)) else (if v1 = (6 : Int32) then (fX12_readsClause_89 v1 (o3.2 11 0) o3.2) else (fX12_readsClause_89 v1 (o3.2 0 18) o3.2))))
set_option maxHeartbeats 4000000 in
set_option maxRecDepth 20000 in
theorem wX12_readsClause_55 {X : ux_X} (C : ux_C X cX12_readsClause RX12 2 (some .boolean) 5 111 shM) {v1 : Int32}  {N : ux_N} {L : ux_L} {o : Int32 × ux_N} (hq : ux_Qi X o.1 o.2 L) (h : fX12_readsClause_55 v1 N = some o) : ux_Wt X 2 55 [(0, .ref (ux_ad X 0)), (1, .int v1)] [] N L := by
  refine wt_aload_n 56 0 C dX12_readsClause_55 rfl rfl ?_
  obtain ⟨o1, hc2, h⟩ := Option.bind_eq_some_iff.mp h
  refine wt_callVv 59 [] C kvX12_122 sm_0 (mX12_nextToken (cx_ok C)  hc2) rfl rfl ⟨Nat.le_of_ble_eq_true rfl, Nat.le_of_ble_eq_true rfl⟩ (Nat.le_of_ble_eq_true rfl) dX12_readsClause_56 rfl ?_
  refine wt_aload_n 60 0 C dX12_readsClause_59 rfl rfl ?_
  refine wt_iload_n 61 1 C dX12_readsClause_60 rfl rfl ?_
  obtain ⟨o3, hc4, h⟩ := Option.bind_eq_some_iff.mp h
  refine wt_callVi 64 [] C kvX12_152 sm_0 (mX12_readsRest (cx_ok C)  hc4) rfl rfl ⟨Nat.le_of_ble_eq_true rfl, Nat.le_of_ble_eq_true rfl⟩ (Nat.le_of_ble_eq_true rfl) dX12_readsClause_61 rfl ?_
  refine wt_if_ne 67 69 C dX12_readsClause_64 rfl (by decide) (fun q5 => ?_) (fun q5 => ?_)
  · have h := (if_neg q5).symm.trans h
    refine wt_aload_n 70 0 C dX12_readsClause_69 rfl rfl ?_
    refine wt_iload_n 71 1 C dX12_readsClause_70 rfl rfl ?_
    refine wt_bipush 73 6 C dX12_readsClause_71 rfl (by decide) ?_
    refine wt_icmp_ne 76 85 C dX12_readsClause_73 rfl (by decide) (fun q6 => ?_) (fun q6 => ?_)
    · have h := (if_neg q6).symm.trans h
      refine wt_aload_n 86 0 C dX12_readsClause_85 rfl rfl ?_
      refine wt_getI 89 C kfX12_129 sm_0 rfl dX12_readsClause_86 rfl ?_
      exact wX12_readsClause_89 C hq h
    · have h := (if_pos q6).symm.trans h
      refine wt_aload_n 77 0 C dX12_readsClause_76 rfl rfl ?_
      refine wt_getR 80 C kfX12_41 sm_0 rfl dX12_readsClause_77 rfl ?_
      refine wt_iconst 81 0 C dX12_readsClause_80 rfl (by decide) ?_
      refine wt_iald 82 0 C sm_11 (by decide) (by decide) dX12_readsClause_81 rfl ?_
      refine wt_goto 89 C dX12_readsClause_82 (by decide) ?_
      exact wX12_readsClause_89 C hq h
  · have h := (if_pos q5).symm.trans h
    refine wt_iconst 68 0 C dX12_readsClause_67 rfl (by decide) ?_
    cases h
    exact wt_zret C (ux_b_n (by decide)).1 hq dX12_readsClause_68
def fX12_readsClause_39 (v1 : Int32) (N : ux_N) : Option (Int32 × ux_N) :=
  if (5 : Int32) ≤ v1 then (fX12_readsClause_55 v1 N) else (if (N 0 20) = (9 : Int32) then (fX12_readsClause_53 N) else (fX12_readsClause_55 v1 N))
set_option maxHeartbeats 4000000 in
set_option maxRecDepth 20000 in
theorem wX12_readsClause_39 {X : ux_X} (C : ux_C X cX12_readsClause RX12 2 (some .boolean) 5 111 shM) {v1 : Int32}  {N : ux_N} {L : ux_L} {o : Int32 × ux_N} (hq : ux_Qi X o.1 o.2 L) (h : fX12_readsClause_39 v1 N = some o) : ux_Wt X 2 39 [(0, .ref (ux_ad X 0)), (1, .int v1)] [] N L := by
  refine wt_iload_n 40 1 C dX12_readsClause_39 rfl rfl ?_
  refine wt_iconst 41 5 C dX12_readsClause_40 rfl (by decide) ?_
  refine wt_icmp_ge 44 55 C dX12_readsClause_41 rfl (by decide) (fun q1 => ?_) (fun q1 => ?_)
  · have h := (if_pos q1).symm.trans h
    exact wX12_readsClause_55 C hq h
  · have h := (if_neg q1).symm.trans h
    refine wt_aload_n 45 0 C dX12_readsClause_44 rfl rfl ?_
    refine wt_getI 48 C kfX12_149 sm_0 rfl dX12_readsClause_45 rfl ?_
    refine wt_bipush 50 9 C dX12_readsClause_48 rfl (by decide) ?_
    refine wt_icmp_ne 53 55 C dX12_readsClause_50 rfl (by decide) (fun q2 => ?_) (fun q2 => ?_)
    · have h := (if_neg q2).symm.trans h
      exact wX12_readsClause_55 C hq h
    · have h := (if_pos q2).symm.trans h
      refine wt_sub [] rfl ?_
      exact wX12_readsClause_53 C hq h
def fX12_readsClause_25 (v1 : Int32) (N : ux_N) : Option (Int32 × ux_N) :=
  if v1 = (5 : Int32) then (if (N 0 21) = (6 : Int32) then (fX12_readsClause_53 N) else (fX12_readsClause_39 v1 N)) else (fX12_readsClause_39 v1 N)
set_option maxHeartbeats 4000000 in
set_option maxRecDepth 20000 in
theorem wX12_readsClause_25 {X : ux_X} (C : ux_C X cX12_readsClause RX12 2 (some .boolean) 5 111 shM) {v1 : Int32}  {N : ux_N} {L : ux_L} {o : Int32 × ux_N} (hq : ux_Qi X o.1 o.2 L) (h : fX12_readsClause_25 v1 N = some o) : ux_Wt X 2 25 [(0, .ref (ux_ad X 0)), (1, .int v1)] [] N L := by
  refine wt_iload_n 26 1 C dX12_readsClause_25 rfl rfl ?_
  refine wt_iconst 27 5 C dX12_readsClause_26 rfl (by decide) ?_
  refine wt_icmp_ne 30 39 C dX12_readsClause_27 rfl (by decide) (fun q1 => ?_) (fun q1 => ?_)
  · have h := (if_neg q1).symm.trans h
    exact wX12_readsClause_39 C hq h
  · have h := (if_pos q1).symm.trans h
    refine wt_aload_n 31 0 C dX12_readsClause_30 rfl rfl ?_
    refine wt_getI 34 C kfX12_146 sm_0 rfl dX12_readsClause_31 rfl ?_
    refine wt_bipush 36 6 C dX12_readsClause_34 rfl (by decide) ?_
    refine wt_icmp_eq 39 53 C dX12_readsClause_36 rfl (by decide) (fun q2 => ?_) (fun q2 => ?_)
    · have h := (if_pos q2).symm.trans h
      refine wt_sub [] rfl ?_
      exact wX12_readsClause_53 C hq h
    · have h := (if_neg q2).symm.trans h
      exact wX12_readsClause_39 C hq h
def fX12_readsClause (N : ux_N) : Option (Int32 × ux_N) :=
  (fX12_wordHere N).bind (fun o1 => if o1 = (-1 : Int32) then (fX12_readsClause_53 N) else (if o1 = (7 : Int32) then (if (N 0 19) = (10 : Int32) then (fX12_readsClause_53 N) else (fX12_readsClause_25 o1 N)) else (fX12_readsClause_25 o1 N)))
set_option maxHeartbeats 4000000 in
set_option maxRecDepth 20000 in
theorem wX12_readsClause {X : ux_X} (C : ux_C X cX12_readsClause RX12 2 (some .boolean) 5 111 shM)   {N : ux_N} {L : ux_L} {o : Int32 × ux_N} (hq : ux_Qi X o.1 o.2 L) (h : fX12_readsClause N = some o) : ux_Wt X 2 0 [(0, .ref (ux_ad X 0))] [] N L := by
  refine wt_aload_n 1 0 C dX12_readsClause_0 rfl rfl ?_
  obtain ⟨o1, hc2, h⟩ := Option.bind_eq_some_iff.mp h
  refine wt_callVi 4 [] C kvX12_142 sm_0 (mX12_wordHere (cx_ok C)  hc2) rfl rfl ⟨Nat.le_of_ble_eq_true rfl, Nat.le_of_ble_eq_true rfl⟩ (Nat.le_of_ble_eq_true rfl) dX12_readsClause_1 rfl ?_
  refine wt_istore_n 5 [(1, .int o1), (0, .ref (ux_ad X 0))] C dX12_readsClause_4 rfl (by decide) rfl ?_
  refine wt_iload_n 6 0 C dX12_readsClause_5 rfl rfl ?_
  refine wt_iconst 7 (-1) C dX12_readsClause_6 rfl (by decide) ?_
  refine wt_icmp_eq 10 53 C dX12_readsClause_7 rfl (by decide) (fun q3 => ?_) (fun q3 => ?_)
  · have h := (if_pos q3).symm.trans h
    refine wt_sub [] rfl ?_
    exact wX12_readsClause_53 C hq h
  · have h := (if_neg q3).symm.trans h
    refine wt_iload_n 11 0 C dX12_readsClause_10 rfl rfl ?_
    refine wt_bipush 13 7 C dX12_readsClause_11 rfl (by decide) ?_
    refine wt_icmp_ne 16 25 C dX12_readsClause_13 rfl (by decide) (fun q4 => ?_) (fun q4 => ?_)
    · have h := (if_neg q4).symm.trans h
      refine wt_sub [1, 0] rfl ?_
      exact wX12_readsClause_25 C hq h
    · have h := (if_pos q4).symm.trans h
      refine wt_aload_n 17 1 C dX12_readsClause_16 rfl rfl ?_
      refine wt_getI 20 C kfX12_135 sm_0 rfl dX12_readsClause_17 rfl ?_
      refine wt_bipush 22 10 C dX12_readsClause_20 rfl (by decide) ?_
      refine wt_icmp_eq 25 53 C dX12_readsClause_22 rfl (by decide) (fun q5 => ?_) (fun q5 => ?_)
      · have h := (if_pos q5).symm.trans h
        refine wt_sub [] rfl ?_
        exact wX12_readsClause_53 C hq h
      · have h := (if_neg q5).symm.trans h
        refine wt_sub [1, 0] rfl ?_
        exact wX12_readsClause_25 C hq h
theorem mX12_readsClause {l : Launch} {G : ux_G} (hok : ux_ok G shM)   {N : ux_N} {L : ux_L} {o : Int32 × ux_N} (h : fX12_readsClause N = some o) : ux_Mi l G yX12_readsClause cX12_readsClause 2 (some .boolean) 5 111 [.ref (gad G 0)] N L o.1 o.2 L :=
  ux_ofi shM hok (by decide +kernel) (Nat.le_of_ble_eq_true rfl) (fun X hG hl C hq => by subst hG; subst hl; exact wX12_readsClause C  hq h)
def fX12_reads_60b_103 (s0 : Int32) (N : ux_N) : Option ((Int32 × ux_N) ⊕ (Int32 × ux_N)) :=
  if s0 = 0 then (some (.inl (s0, N))) else ((fX12_nextToken N).bind (fun o2 => (fX12_readsClause o2).bind (fun o4 => some (.inl (o4.1, (ux_u o4.2 0 22 ((o4.2 0 22) + (1 : Int32))))))))
set_option maxHeartbeats 4000000 in
set_option maxRecDepth 20000 in
theorem wX12_reads_60b_103 {X : ux_X} (C : ux_C X cX12_reads RX12 3 (some .boolean) 6 132 shM) {s0 : Int32}  {N : ux_N} {L : ux_L} {o : (Int32 × ux_N) ⊕ (Int32 × ux_N)} (hin : ∀ s : Int32 × ux_N, o = .inl s → ux_Wt X 3 60 [(0, .ref (ux_ad X 0)), (2, .int s.1)] [] s.2 L) (hex0 : ∀ e : Int32 × ux_N, o = .inr (e) → ux_Wt X 3 130 [(2, .int e.1)] [] e.2 L) (h : fX12_reads_60b_103 s0 N = some o) : ux_Wt X 3 103 [(0, .ref (ux_ad X 0))] [.int s0] N L := by
  refine wt_istore_n 104 [(2, .int s0), (0, .ref (ux_ad X 0))] C dX12_reads_103 rfl (by decide) rfl ?_
  refine wt_iload_n 105 0 C dX12_reads_104 rfl rfl ?_
  refine wt_if_eq 108 60 C dX12_reads_105 rfl (by decide) (fun q1 => ?_) (fun q1 => ?_)
  · have h := (if_pos q1).symm.trans h
    refine wt_sub [1, 0] rfl ?_
    exact hin _ (Option.some.inj h).symm
  · have h := (if_neg q1).symm.trans h
    refine wt_aload_n 109 1 C dX12_reads_108 rfl rfl ?_
    obtain ⟨o2, hc3, h⟩ := Option.bind_eq_some_iff.mp h
    refine wt_callVv 112 [] C kvX12_122 sm_0 (mX12_nextToken (cx_ok C)  hc3) rfl rfl ⟨Nat.le_of_ble_eq_true rfl, Nat.le_of_ble_eq_true rfl⟩ (Nat.le_of_ble_eq_true rfl) dX12_reads_109 rfl ?_
    refine wt_aload_n 113 1 C dX12_reads_112 rfl rfl ?_
    obtain ⟨o4, hc5, h⟩ := Option.bind_eq_some_iff.mp h
    refine wt_callVi 116 [] C kvX12_165 sm_0 (mX12_readsClause (cx_ok C)  hc5) rfl rfl ⟨Nat.le_of_ble_eq_true rfl, Nat.le_of_ble_eq_true rfl⟩ (Nat.le_of_ble_eq_true rfl) dX12_reads_113 rfl ?_
    refine wt_istore_n 117 [(2, .int o4.1), (0, .ref (ux_ad X 0))] C dX12_reads_116 rfl (by decide) rfl ?_
    refine wt_aload_n 118 1 C dX12_reads_117 rfl rfl ?_
    refine wt_dup 119 C dX12_reads_118 rfl rfl ?_
    refine wt_getI 122 C kfX12_162 sm_0 rfl dX12_reads_119 rfl ?_
    refine wt_iconst 123 1 C dX12_reads_122 rfl (by decide) ?_
    refine wt_iadd 124 C dX12_reads_123 rfl ?_
    refine wt_putI 127 C kpX12_162 sm_0 rfl rfl rfl dX12_reads_124 rfl ?_
    refine wt_goto 60 C dX12_reads_127 (by decide) ?_
    refine wt_sub [1, 0] rfl ?_
    exact hin _ (Option.some.inj h).symm
def fX12_reads_60b_102 (N : ux_N) : Option ((Int32 × ux_N) ⊕ (Int32 × ux_N)) :=
  fX12_reads_60b_103 (0 : Int32) N
set_option maxHeartbeats 4000000 in
set_option maxRecDepth 20000 in
theorem wX12_reads_60b_102 {X : ux_X} (C : ux_C X cX12_reads RX12 3 (some .boolean) 6 132 shM)   {N : ux_N} {L : ux_L} {o : (Int32 × ux_N) ⊕ (Int32 × ux_N)} (hin : ∀ s : Int32 × ux_N, o = .inl s → ux_Wt X 3 60 [(0, .ref (ux_ad X 0)), (2, .int s.1)] [] s.2 L) (hex0 : ∀ e : Int32 × ux_N, o = .inr (e) → ux_Wt X 3 130 [(2, .int e.1)] [] e.2 L) (h : fX12_reads_60b_102 N = some o) : ux_Wt X 3 102 [(0, .ref (ux_ad X 0))] [] N L := by
  refine wt_iconst 103 0 C dX12_reads_102 rfl (by decide) ?_
  exact wX12_reads_60b_103 C hin hex0 h
def fX12_reads_60b (v2 : Int32) (N : ux_N) : Option ((Int32 × ux_N) ⊕ (Int32 × ux_N)) :=
  if v2 = 0 then (some (.inr ((v2, N)))) else (if (N 0 9) ≤ (N 0 16) then (some (.inr ((v2, N)))) else (if (24 : Int32) ≤ (N 0 22) then (fX12_reads_60b_102 N) else (if ux_in (N 0 16) 200 then (if (N 5 ((N 0 16).toNatClampNeg)) = (59 : Int32) then (fX12_reads_60b_103 (1 : Int32) N) else (fX12_reads_60b_102 N)) else none)))
set_option maxHeartbeats 4000000 in
set_option maxRecDepth 20000 in
theorem wX12_reads_60b {X : ux_X} (C : ux_C X cX12_reads RX12 3 (some .boolean) 6 132 shM) {v2 : Int32}  {N : ux_N} {L : ux_L} {o : (Int32 × ux_N) ⊕ (Int32 × ux_N)} (hin : ∀ s : Int32 × ux_N, o = .inl s → ux_Wt X 3 60 [(0, .ref (ux_ad X 0)), (2, .int s.1)] [] s.2 L) (hex0 : ∀ e : Int32 × ux_N, o = .inr (e) → ux_Wt X 3 130 [(2, .int e.1)] [] e.2 L) (h : fX12_reads_60b v2 N = some o) : ux_Wt X 3 60 [(0, .ref (ux_ad X 0)), (2, .int v2)] [] N L := by
  refine wt_iload_n 61 1 C dX12_reads_60 rfl rfl ?_
  refine wt_if_eq 64 130 C dX12_reads_61 rfl (by decide) (fun q1 => ?_) (fun q1 => ?_)
  · have h := (if_pos q1).symm.trans h
    refine wt_sub [1] rfl ?_
    exact hex0 _ (Option.some.inj h).symm
  · have h := (if_neg q1).symm.trans h
    refine wt_aload_n 65 0 C dX12_reads_64 rfl rfl ?_
    refine wt_getI 68 C kfX12_112 sm_0 rfl dX12_reads_65 rfl ?_
    refine wt_aload_n 69 0 C dX12_reads_68 rfl rfl ?_
    refine wt_getI 72 C kfX12_98 sm_0 rfl dX12_reads_69 rfl ?_
    refine wt_icmp_ge 75 130 C dX12_reads_72 rfl (by decide) (fun q2 => ?_) (fun q2 => ?_)
    · have h := (if_pos q2).symm.trans h
      refine wt_sub [1] rfl ?_
      exact hex0 _ (Option.some.inj h).symm
    · have h := (if_neg q2).symm.trans h
      refine wt_aload_n 76 0 C dX12_reads_75 rfl rfl ?_
      refine wt_getI 79 C kfX12_162 sm_0 rfl dX12_reads_76 rfl ?_
      refine wt_bipush 81 24 C dX12_reads_79 rfl (by decide) ?_
      refine wt_icmp_ge 84 102 C dX12_reads_81 rfl (by decide) (fun q3 => ?_) (fun q3 => ?_)
      · have h := (if_pos q3).symm.trans h
        refine wt_sub [0] rfl ?_
        exact wX12_reads_60b_102 C hin hex0 h
      · have h := (if_neg q3).symm.trans h
        refine wt_aload_n 85 0 C dX12_reads_84 rfl rfl ?_
        refine wt_getR 88 C kfX12_23 sm_0 rfl dX12_reads_85 rfl ?_
        refine wt_aload_n 89 0 C dX12_reads_88 rfl rfl ?_
        refine wt_getI 92 C kfX12_112 sm_0 rfl dX12_reads_89 rfl ?_
        obtain ⟨hi4, h⟩ := ux_guard h
        refine wt_iald 93 ((N 0 16).toNatClampNeg) C sm_5 rfl hi4 dX12_reads_92 rfl ?_
        refine wt_bipush 95 59 C dX12_reads_93 rfl (by decide) ?_
        refine wt_icmp_ne 98 102 C dX12_reads_95 rfl (by decide) (fun q5 => ?_) (fun q5 => ?_)
        · have h := (if_neg q5).symm.trans h
          refine wt_sub [0] rfl ?_
          exact wX12_reads_60b_102 C hin hex0 h
        · have h := (if_pos q5).symm.trans h
          refine wt_iconst 99 1 C dX12_reads_98 rfl (by decide) ?_
          refine wt_goto 103 C dX12_reads_99 (by decide) ?_
          refine wt_sub [0] rfl ?_
          exact wX12_reads_60b_103 C hin hex0 h
def fX12_reads_130 (v2 : Int32) (N : ux_N) : Option (Int32 × ux_N) :=
  if ux_b v2 then (some (v2, N)) else none
set_option maxHeartbeats 4000000 in
set_option maxRecDepth 20000 in
theorem wX12_reads_130 {X : ux_X} (C : ux_C X cX12_reads RX12 3 (some .boolean) 6 132 shM) {v2 : Int32}  {N : ux_N} {L : ux_L} {o : Int32 × ux_N} (hq : ux_Qi X o.1 o.2 L) (h : fX12_reads_130 v2 N = some o) : ux_Wt X 3 130 [(2, .int v2)] [] N L := by
  refine wt_iload_n 131 0 C dX12_reads_130 rfl rfl ?_
  obtain ⟨hb1, h⟩ := ux_guard h
  cases h
  exact wt_zret C (ux_b_n hb1).1 hq dX12_reads_131
def fX12_reads_31 (N : ux_N) : Option (Int32 × ux_N) :=
  (fX12_nextToken (ux_u (ux_u N 0 21 (N 0 4)) 0 20 ((ux_u N 0 21 (N 0 4)) 1 231))).bind (fun o1 => (fX12_readsClause o1).bind (fun o3 => (ux_lp (fun s : Int32 × ux_N => fX12_reads_60b s.1 s.2) ux_fu (o3.1, o3.2)).bind (fun e12 => fX12_reads_130 e12.1 e12.2)))
set_option maxHeartbeats 4000000 in
set_option maxRecDepth 20000 in
theorem wX12_reads_31 {X : ux_X} (C : ux_C X cX12_reads RX12 3 (some .boolean) 6 132 shM)   {N : ux_N} {L : ux_L} {o : Int32 × ux_N} (hq : ux_Qi X o.1 o.2 L) (h : fX12_reads_31 N = some o) : ux_Wt X 3 31 [(0, .ref (ux_ad X 0))] [] N L := by
  refine wt_aload_n 32 0 C dX12_reads_31 rfl rfl ?_
  refine wt_aload_n 33 0 C dX12_reads_32 rfl rfl ?_
  refine wt_getI 36 C kfX12_89 sm_0 rfl dX12_reads_33 rfl ?_
  refine wt_putI 39 C kpX12_146 sm_0 rfl rfl rfl dX12_reads_36 rfl ?_
  refine wt_aload_n 40 0 C dX12_reads_39 rfl rfl ?_
  refine wt_aload_n 41 0 C dX12_reads_40 rfl rfl ?_
  refine wt_getR 44 C kfX12_7 sm_0 rfl dX12_reads_41 rfl ?_
  refine wt_sipush 47 231 C dX12_reads_44 rfl (by decide) ?_
  refine wt_iald 48 231 C sm_1 (by decide) (by decide) dX12_reads_47 rfl ?_
  refine wt_putI 51 C kpX12_149 sm_0 rfl rfl rfl dX12_reads_48 rfl ?_
  refine wt_aload_n 52 0 C dX12_reads_51 rfl rfl ?_
  obtain ⟨o1, hc2, h⟩ := Option.bind_eq_some_iff.mp h
  refine wt_callVv 55 [] C kvX12_122 sm_0 (mX12_nextToken (cx_ok C)  hc2) rfl rfl ⟨Nat.le_of_ble_eq_true rfl, Nat.le_of_ble_eq_true rfl⟩ (Nat.le_of_ble_eq_true rfl) dX12_reads_52 rfl ?_
  refine wt_aload_n 56 0 C dX12_reads_55 rfl rfl ?_
  obtain ⟨o3, hc4, h⟩ := Option.bind_eq_some_iff.mp h
  refine wt_callVi 59 [] C kvX12_165 sm_0 (mX12_readsClause (cx_ok C)  hc4) rfl rfl ⟨Nat.le_of_ble_eq_true rfl, Nat.le_of_ble_eq_true rfl⟩ (Nat.le_of_ble_eq_true rfl) dX12_reads_56 rfl ?_
  refine wt_istore_n 60 [(2, .int o3.1), (0, .ref (ux_ad X 0))] C dX12_reads_59 rfl (by decide) rfl ?_
  obtain ⟨e5, hl6, h⟩ := Option.bind_eq_some_iff.mp h
  refine wt_sub [1, 0] rfl ?_
  refine ux_loop (fun s : Int32 × ux_N => fX12_reads_60b s.1 s.2) (fun s : Int32 × ux_N => ux_Wt X 3 60 [(0, .ref (ux_ad X 0)), (2, .int s.1)] [] s.2 L) (e := e5) ?_ hl6
  intro s7 o8 hb9 hi10 hx11
  refine wX12_reads_60b C hi10 (fun x0 he => ?_) hb9
  · obtain ⟨e12, rfl⟩ : ∃ z, z = x0 := ⟨_, rfl⟩
    have h9 := hx11 _ he
    subst h9
    exact wX12_reads_130 C hq h
def fX12_reads (v1 : Int32) (N : ux_N) : Option (Int32 × ux_N) :=
  if ux_b v1 then (fX12_reads_31 (ux_u (ux_u (ux_u (ux_u (ux_u N 0 23 v1) 0 17 (0 : Int32)) 0 22 (1 : Int32)) 0 18 ((ux_u (ux_u (ux_u N 0 23 v1) 0 17 (0 : Int32)) 0 22 (1 : Int32)) 0 1)) 0 19 ((ux_u (ux_u (ux_u (ux_u N 0 23 v1) 0 17 (0 : Int32)) 0 22 (1 : Int32)) 0 18 ((ux_u (ux_u (ux_u N 0 23 v1) 0 17 (0 : Int32)) 0 22 (1 : Int32)) 0 1)) 0 2))) else none
set_option maxHeartbeats 4000000 in
set_option maxRecDepth 20000 in
theorem wX12_reads {X : ux_X} (C : ux_C X cX12_reads RX12 3 (some .boolean) 6 132 shM) {v1 : Int32}  {N : ux_N} {L : ux_L} {o : Int32 × ux_N} (hq : ux_Qi X o.1 o.2 L) (h : fX12_reads v1 N = some o) : ux_Wt X 3 0 [(0, .ref (ux_ad X 0)), (1, .int v1)] [] N L := by
  refine wt_aload_n 1 0 C dX12_reads_0 rfl rfl ?_
  refine wt_iload_n 2 1 C dX12_reads_1 rfl rfl ?_
  obtain ⟨hb1, h⟩ := ux_guard h
  refine wt_putI 5 C kpX12_155 sm_0 rfl (ux_b_n hb1).1 (ux_b_n hb1).2 dX12_reads_2 rfl ?_
  refine wt_aload_n 6 0 C dX12_reads_5 rfl rfl ?_
  refine wt_iconst 7 0 C dX12_reads_6 rfl (by decide) ?_
  refine wt_putI 10 C kpX12_109 sm_0 rfl rfl rfl dX12_reads_7 rfl ?_
  refine wt_aload_n 11 0 C dX12_reads_10 rfl rfl ?_
  refine wt_iconst 12 1 C dX12_reads_11 rfl (by decide) ?_
  refine wt_putI 15 C kpX12_162 sm_0 rfl rfl rfl dX12_reads_12 rfl ?_
  refine wt_aload_n 16 0 C dX12_reads_15 rfl rfl ?_
  refine wt_aload_n 17 0 C dX12_reads_16 rfl rfl ?_
  refine wt_getI 20 C kfX12_82 sm_0 rfl dX12_reads_17 rfl ?_
  refine wt_putI 23 C kpX12_129 sm_0 rfl rfl rfl dX12_reads_20 rfl ?_
  refine wt_aload_n 24 0 C dX12_reads_23 rfl rfl ?_
  refine wt_aload_n 25 0 C dX12_reads_24 rfl rfl ?_
  refine wt_getI 28 C kfX12_86 sm_0 rfl dX12_reads_25 rfl ?_
  refine wt_putI 31 C kpX12_135 sm_0 rfl rfl rfl dX12_reads_28 rfl ?_
  refine wt_sub [0] rfl ?_
  exact wX12_reads_31 C hq h
theorem mX12_reads {l : Launch} {G : ux_G} (hok : ux_ok G shM) {v1 : Int32}  {N : ux_N} {L : ux_L} {o : Int32 × ux_N} (h : fX12_reads v1 N = some o) : ux_Mi l G yX12_reads cX12_reads 3 (some .boolean) 6 132 [.ref (gad G 0), .int v1] N L o.1 o.2 L :=
  ux_ofi shM hok (by decide +kernel) (Nat.le_of_ble_eq_true rfl) (fun X hG hl C hq => by subst hG; subst hl; exact wX12_reads C  hq h)
def fX12_fault_16 (s0 : Int32) (N : ux_N) : Option (Int32 × ux_N) :=
  some (s0, N)
set_option maxHeartbeats 4000000 in
set_option maxRecDepth 20000 in
theorem wX12_fault_16 {X : ux_X} (C : ux_C X cX12_fault RX12 1 (some .int) 7 154 shM) {s0 : Int32}  {N : ux_N} {L : ux_L} {o : Int32 × ux_N} (hq : ux_Qi X o.1 o.2 L) (h : fX12_fault_16 s0 N = some o) : ux_Wt X 1 16 [] [.int s0] N L := by
  cases h
  exact wt_iret C hq dX12_fault_16
def fX12_fault (N : ux_N) : Option (Int32 × ux_N) :=
  (fX12_reads (0 : Int32) N).bind (fun o1 => if o1.1 = 0 then (fX12_fault_16 (o1.2 0 16) o1.2) else (fX12_fault_16 (-1 : Int32) o1.2))
set_option maxHeartbeats 4000000 in
set_option maxRecDepth 20000 in
theorem wX12_fault {X : ux_X} (C : ux_C X cX12_fault RX12 1 (some .int) 7 154 shM)   {N : ux_N} {L : ux_L} {o : Int32 × ux_N} (hq : ux_Qi X o.1 o.2 L) (h : fX12_fault N = some o) : ux_Wt X 1 0 [(0, .ref (ux_ad X 0))] [] N L := by
  refine wt_aload_n 1 0 C dX12_fault_0 rfl rfl ?_
  refine wt_iconst 2 0 C dX12_fault_1 rfl (by decide) ?_
  obtain ⟨o1, hc2, h⟩ := Option.bind_eq_some_iff.mp h
  refine wt_callVi 5 [] C kvX12_169 sm_0 (mX12_reads (cx_ok C)  hc2) rfl rfl ⟨Nat.le_of_ble_eq_true rfl, Nat.le_of_ble_eq_true rfl⟩ (Nat.le_of_ble_eq_true rfl) dX12_fault_2 rfl ?_
  refine wt_if_eq 8 12 C dX12_fault_5 rfl (by decide) (fun q3 => ?_) (fun q3 => ?_)
  · have h := (if_pos q3).symm.trans h
    refine wt_aload_n 13 0 C dX12_fault_12 rfl rfl ?_
    refine wt_getI 16 C kfX12_112 sm_0 rfl dX12_fault_13 rfl ?_
    refine wt_sub [] rfl ?_
    exact wX12_fault_16 C hq h
  · have h := (if_neg q3).symm.trans h
    refine wt_iconst 9 (-1) C dX12_fault_8 rfl (by decide) ?_
    refine wt_goto 16 C dX12_fault_9 (by decide) ?_
    refine wt_sub [] rfl ?_
    exact wX12_fault_16 C hq h
theorem mX12_fault {l : Launch} {G : ux_G} (hok : ux_ok G shM)   {N : ux_N} {L : ux_L} {o : Int32 × ux_N} (h : fX12_fault N = some o) : ux_Mi l G yX12_fault cX12_fault 1 (some .int) 7 154 [.ref (gad G 0)] N L o.1 o.2 L :=
  ux_ofi shM hok (by decide +kernel) (Nat.le_of_ble_eq_true rfl) (fun X hG hl C hq => by subst hG; subst hl; exact wX12_fault C  hq h)
def fX12_layParts_2b (v1 : Int32) (v2 : Int32) (N : ux_N) : Option ((Int32 × ux_N) ⊕ (ux_N)) :=
  if (N 0 1) ≤ v2 then (some (.inr (N))) else (if ux_in v2 8 then (some (.inl ((v2 + 1), (ux_u N 14 (v2.toNatClampNeg) v2)))) else none)
set_option maxHeartbeats 4000000 in
set_option maxRecDepth 20000 in
theorem wX12_layParts_2b {X : ux_X} (C : ux_C X cX12_layParts RX12 8 (some .int) 1 21 shM) {v1 : Int32} {v2 : Int32}  {N : ux_N} {L : ux_L} {o : (Int32 × ux_N) ⊕ (ux_N)} (hin : ∀ s : Int32 × ux_N, o = .inl s → ux_Wt X 8 2 [(0, .ref (ux_ad X 0)), (1, .int v1), (2, .int s.1)] [] s.2 L) (hex0 : ∀ e : ux_N, o = .inr (e) → ux_Wt X 8 23 [(0, .ref (ux_ad X 0)), (1, .int v1)] [] e L) (h : fX12_layParts_2b v1 v2 N = some o) : ux_Wt X 8 2 [(0, .ref (ux_ad X 0)), (1, .int v1), (2, .int v2)] [] N L := by
  refine wt_iload_n 3 2 C dX12_layParts_2 rfl rfl ?_
  refine wt_aload_n 4 0 C dX12_layParts_3 rfl rfl ?_
  refine wt_getI 7 C kfX12_82 sm_0 rfl dX12_layParts_4 rfl ?_
  refine wt_icmp_ge 10 23 C dX12_layParts_7 rfl (by decide) (fun q1 => ?_) (fun q1 => ?_)
  · have h := (if_pos q1).symm.trans h
    refine wt_sub [0, 1] rfl ?_
    exact hex0 _ (Option.some.inj h).symm
  · have h := (if_neg q1).symm.trans h
    refine wt_aload_n 11 0 C dX12_layParts_10 rfl rfl ?_
    refine wt_getR 14 C kfX12_51 sm_0 rfl dX12_layParts_11 rfl ?_
    refine wt_iload_n 15 2 C dX12_layParts_14 rfl rfl ?_
    refine wt_iload_n 16 2 C dX12_layParts_15 rfl rfl ?_
    obtain ⟨hi2, h⟩ := ux_guard h
    refine wt_iast 17 (v2.toNatClampNeg) C sm_14 rfl hi2 dX12_layParts_16 rfl ?_
    refine wt_iinc 20 2 [(2, .int (v2 + 1)), (0, .ref (ux_ad X 0)), (1, .int v1)] (v2 + 1) C dX12_layParts_17 rfl rfl (by rfl) (by decide) rfl ?_
    refine wt_goto 2 C dX12_layParts_20 (by decide) ?_
    refine wt_sub [1, 2, 0] rfl ?_
    exact hin _ (Option.some.inj h).symm
def fX12_layParts_30b_165 (v1 : Int32) (v2 : Int32) (v3 : Int32) (N : ux_N) : Option ((Int32 × Int32 × ux_N) ⊕ (Int32 × ux_N)) :=
  some (.inl (v2, (v3 + 1), N))
set_option maxHeartbeats 4000000 in
set_option maxRecDepth 20000 in
theorem wX12_layParts_30b_165 {X : ux_X} (C : ux_C X cX12_layParts RX12 8 (some .int) 1 21 shM) {v1 : Int32} {v2 : Int32} {v3 : Int32}  {N : ux_N} {L : ux_L} {o : (Int32 × Int32 × ux_N) ⊕ (Int32 × ux_N)} (hin : ∀ s : Int32 × Int32 × ux_N, o = .inl s → ux_Wt X 8 30 [(0, .ref (ux_ad X 0)), (1, .int v1), (2, .int s.1), (3, .int s.2.1)] [] s.2.2 L) (hex0 : ∀ e : Int32 × ux_N, o = .inr (e) → ux_Wt X 8 171 [(2, .int e.1)] [] e.2 L) (h : fX12_layParts_30b_165 v1 v2 v3 N = some o) : ux_Wt X 8 165 [(0, .ref (ux_ad X 0)), (1, .int v1), (2, .int v2), (3, .int v3)] [] N L := by
  refine wt_iinc 168 3 [(3, .int (v3 + 1)), (0, .ref (ux_ad X 0)), (1, .int v1), (2, .int v2)] (v3 + 1) C dX12_layParts_165 rfl rfl (by rfl) (by decide) rfl ?_
  refine wt_goto 30 C dX12_layParts_168 (by decide) ?_
  refine wt_sub [1, 2, 3, 0] rfl ?_
  exact hin _ (Option.some.inj h).symm
def fX12_layParts_104b_155 (v1 : Int32) (v2 : Int32) (v3 : Int32) (v4 : Int32) (v5 : Int32) (v6 : Int32) (v7 : Int32) (s0 : Int32) (s1 : Int32) (N : ux_N) : Option ((Int32 × ux_N) ⊕ (ux_N)) :=
  if ux_in s1 8 then (some (.inl ((v7 + 1), (ux_u N 14 (s1.toNatClampNeg) s0)))) else none
set_option maxHeartbeats 4000000 in
set_option maxRecDepth 20000 in
theorem wX12_layParts_104b_155 {X : ux_X} (C : ux_C X cX12_layParts RX12 8 (some .int) 1 21 shM) {v1 : Int32} {v2 : Int32} {v3 : Int32} {v4 : Int32} {v5 : Int32} {v6 : Int32} {v7 : Int32} {s0 : Int32} {s1 : Int32}  {N : ux_N} {L : ux_L} {o : (Int32 × ux_N) ⊕ (ux_N)} (hin : ∀ s : Int32 × ux_N, o = .inl s → ux_Wt X 8 104 [(0, .ref (ux_ad X 0)), (1, .int v1), (2, .int v2), (3, .int v3), (4, .int v4), (5, .int v5), (6, .int v6), (7, .int s.1)] [] s.2 L) (hex0 : ∀ e : ux_N, o = .inr (e) → ux_Wt X 8 162 [(0, .ref (ux_ad X 0)), (1, .int v1), (2, .int v2), (3, .int v3)] [] e L) (h : fX12_layParts_104b_155 v1 v2 v3 v4 v5 v6 v7 s0 s1 N = some o) : ux_Wt X 8 155 [(0, .ref (ux_ad X 0)), (1, .int v1), (2, .int v2), (3, .int v3), (4, .int v4), (5, .int v5), (6, .int v6), (7, .int v7)] [.int s0, .int s1, .ref (ux_ad X 14)] N L := by
  obtain ⟨hi1, h⟩ := ux_guard h
  refine wt_iast 156 (s1.toNatClampNeg) C sm_14 rfl hi1 dX12_layParts_155 rfl ?_
  refine wt_iinc 159 7 [(7, .int (v7 + 1)), (0, .ref (ux_ad X 0)), (1, .int v1), (2, .int v2), (3, .int v3), (4, .int v4), (5, .int v5), (6, .int v6)] (v7 + 1) C dX12_layParts_156 rfl rfl (by rfl) (by decide) rfl ?_
  refine wt_goto 104 C dX12_layParts_159 (by decide) ?_
  refine wt_sub [1, 2, 3, 4, 5, 6, 7, 0] rfl ?_
  exact hin _ (Option.some.inj h).symm
def fX12_layParts_104b_143 (v1 : Int32) (v2 : Int32) (v3 : Int32) (v4 : Int32) (v5 : Int32) (v6 : Int32) (v7 : Int32) (s0 : Int32) (N : ux_N) : Option ((Int32 × ux_N) ⊕ (ux_N)) :=
  fX12_layParts_104b_155 v1 v2 v3 v4 v5 v6 v7 v6 s0 N
set_option maxHeartbeats 4000000 in
set_option maxRecDepth 20000 in
theorem wX12_layParts_104b_143 {X : ux_X} (C : ux_C X cX12_layParts RX12 8 (some .int) 1 21 shM) {v1 : Int32} {v2 : Int32} {v3 : Int32} {v4 : Int32} {v5 : Int32} {v6 : Int32} {v7 : Int32} {s0 : Int32}  {N : ux_N} {L : ux_L} {o : (Int32 × ux_N) ⊕ (ux_N)} (hin : ∀ s : Int32 × ux_N, o = .inl s → ux_Wt X 8 104 [(0, .ref (ux_ad X 0)), (1, .int v1), (2, .int v2), (3, .int v3), (4, .int v4), (5, .int v5), (6, .int v6), (7, .int s.1)] [] s.2 L) (hex0 : ∀ e : ux_N, o = .inr (e) → ux_Wt X 8 162 [(0, .ref (ux_ad X 0)), (1, .int v1), (2, .int v2), (3, .int v3)] [] e L) (h : fX12_layParts_104b_143 v1 v2 v3 v4 v5 v6 v7 s0 N = some o) : ux_Wt X 8 143 [(0, .ref (ux_ad X 0)), (1, .int v1), (2, .int v2), (3, .int v3), (4, .int v4), (5, .int v5), (6, .int v6), (7, .int v7)] [.int s0, .ref (ux_ad X 14)] N L := by
  refine wt_iload 145 6 C dX12_layParts_143 rfl rfl ?_
  refine wt_goto 155 C dX12_layParts_145 (by decide) ?_
  exact wX12_layParts_104b_155 C hin hex0 h
def fX12_layParts_104b (v1 : Int32) (v2 : Int32) (v3 : Int32) (v4 : Int32) (v5 : Int32) (v6 : Int32) (v7 : Int32) (N : ux_N) : Option ((Int32 × ux_N) ⊕ (ux_N)) :=
  if (N 0 1) ≤ v7 then (some (.inr (N))) else (if ux_in v7 8 then (if (N 14 (v7.toNatClampNeg)) = v4 then (fX12_layParts_104b_143 v1 v2 v3 v4 v5 v6 v7 v7 N) else (if ux_in v7 8 then (if (N 14 (v7.toNatClampNeg)) = v5 then (fX12_layParts_104b_143 v1 v2 v3 v4 v5 v6 v7 v7 N) else (if ux_in v7 8 then (fX12_layParts_104b_155 v1 v2 v3 v4 v5 v6 v7 (N 14 (v7.toNatClampNeg)) v7 N) else none)) else none)) else none)
set_option maxHeartbeats 4000000 in
set_option maxRecDepth 20000 in
theorem wX12_layParts_104b {X : ux_X} (C : ux_C X cX12_layParts RX12 8 (some .int) 1 21 shM) {v1 : Int32} {v2 : Int32} {v3 : Int32} {v4 : Int32} {v5 : Int32} {v6 : Int32} {v7 : Int32}  {N : ux_N} {L : ux_L} {o : (Int32 × ux_N) ⊕ (ux_N)} (hin : ∀ s : Int32 × ux_N, o = .inl s → ux_Wt X 8 104 [(0, .ref (ux_ad X 0)), (1, .int v1), (2, .int v2), (3, .int v3), (4, .int v4), (5, .int v5), (6, .int v6), (7, .int s.1)] [] s.2 L) (hex0 : ∀ e : ux_N, o = .inr (e) → ux_Wt X 8 162 [(0, .ref (ux_ad X 0)), (1, .int v1), (2, .int v2), (3, .int v3)] [] e L) (h : fX12_layParts_104b v1 v2 v3 v4 v5 v6 v7 N = some o) : ux_Wt X 8 104 [(0, .ref (ux_ad X 0)), (1, .int v1), (2, .int v2), (3, .int v3), (4, .int v4), (5, .int v5), (6, .int v6), (7, .int v7)] [] N L := by
  refine wt_iload 106 7 C dX12_layParts_104 rfl rfl ?_
  refine wt_aload_n 107 0 C dX12_layParts_106 rfl rfl ?_
  refine wt_getI 110 C kfX12_82 sm_0 rfl dX12_layParts_107 rfl ?_
  refine wt_icmp_ge 113 162 C dX12_layParts_110 rfl (by decide) (fun q1 => ?_) (fun q1 => ?_)
  · have h := (if_pos q1).symm.trans h
    refine wt_sub [0, 1, 2, 3] rfl ?_
    exact hex0 _ (Option.some.inj h).symm
  · have h := (if_neg q1).symm.trans h
    refine wt_aload_n 114 0 C dX12_layParts_113 rfl rfl ?_
    refine wt_getR 117 C kfX12_51 sm_0 rfl dX12_layParts_114 rfl ?_
    refine wt_iload 119 7 C dX12_layParts_117 rfl rfl ?_
    refine wt_aload_n 120 0 C dX12_layParts_119 rfl rfl ?_
    refine wt_getR 123 C kfX12_51 sm_0 rfl dX12_layParts_120 rfl ?_
    refine wt_iload 125 7 C dX12_layParts_123 rfl rfl ?_
    obtain ⟨hi2, h⟩ := ux_guard h
    refine wt_iald 126 (v7.toNatClampNeg) C sm_14 rfl hi2 dX12_layParts_125 rfl ?_
    refine wt_iload 128 4 C dX12_layParts_126 rfl rfl ?_
    refine wt_icmp_eq 131 143 C dX12_layParts_128 rfl (by decide) (fun q3 => ?_) (fun q3 => ?_)
    · have h := (if_pos q3).symm.trans h
      exact wX12_layParts_104b_143 C hin hex0 h
    · have h := (if_neg q3).symm.trans h
      refine wt_aload_n 132 0 C dX12_layParts_131 rfl rfl ?_
      refine wt_getR 135 C kfX12_51 sm_0 rfl dX12_layParts_132 rfl ?_
      refine wt_iload 137 7 C dX12_layParts_135 rfl rfl ?_
      obtain ⟨hi4, h⟩ := ux_guard h
      refine wt_iald 138 (v7.toNatClampNeg) C sm_14 rfl hi4 dX12_layParts_137 rfl ?_
      refine wt_iload 140 5 C dX12_layParts_138 rfl rfl ?_
      refine wt_icmp_ne 143 148 C dX12_layParts_140 rfl (by decide) (fun q5 => ?_) (fun q5 => ?_)
      · have h := (if_neg q5).symm.trans h
        refine wt_aload_n 149 0 C dX12_layParts_148 rfl rfl ?_
        refine wt_getR 152 C kfX12_51 sm_0 rfl dX12_layParts_149 rfl ?_
        refine wt_iload 154 7 C dX12_layParts_152 rfl rfl ?_
        obtain ⟨hi6, h⟩ := ux_guard h
        refine wt_iald 155 (v7.toNatClampNeg) C sm_14 rfl hi6 dX12_layParts_154 rfl ?_
        exact wX12_layParts_104b_155 C hin hex0 h
      · have h := (if_pos q5).symm.trans h
        exact wX12_layParts_104b_143 C hin hex0 h
def fX12_layParts_30b_99 (v1 : Int32) (v2 : Int32) (v3 : Int32) (v4 : Int32) (v5 : Int32) (s0 : Int32) (N : ux_N) : Option ((Int32 × Int32 × ux_N) ⊕ (Int32 × ux_N)) :=
  (ux_lp (fun s : Int32 × ux_N => fX12_layParts_104b v1 v2 v3 v4 v5 s0 s.1 s.2) ux_fu ((0 : Int32), N)).bind (fun e8 => fX12_layParts_30b_165 v1 (v2 + (-1)) v3 e8)
set_option maxHeartbeats 4000000 in
set_option maxRecDepth 20000 in
theorem wX12_layParts_30b_99 {X : ux_X} (C : ux_C X cX12_layParts RX12 8 (some .int) 1 21 shM) {v1 : Int32} {v2 : Int32} {v3 : Int32} {v4 : Int32} {v5 : Int32} {s0 : Int32}  {N : ux_N} {L : ux_L} {o : (Int32 × Int32 × ux_N) ⊕ (Int32 × ux_N)} (hin : ∀ s : Int32 × Int32 × ux_N, o = .inl s → ux_Wt X 8 30 [(0, .ref (ux_ad X 0)), (1, .int v1), (2, .int s.1), (3, .int s.2.1)] [] s.2.2 L) (hex0 : ∀ e : Int32 × ux_N, o = .inr (e) → ux_Wt X 8 171 [(2, .int e.1)] [] e.2 L) (h : fX12_layParts_30b_99 v1 v2 v3 v4 v5 s0 N = some o) : ux_Wt X 8 99 [(0, .ref (ux_ad X 0)), (1, .int v1), (2, .int v2), (3, .int v3), (4, .int v4), (5, .int v5)] [.int s0] N L := by
  refine wt_istore 101 [(6, .int s0), (0, .ref (ux_ad X 0)), (1, .int v1), (2, .int v2), (3, .int v3), (4, .int v4), (5, .int v5)] C dX12_layParts_99 rfl (by decide) rfl ?_
  refine wt_iconst 102 0 C dX12_layParts_101 rfl (by decide) ?_
  refine wt_istore 104 [(7, .int (0 : Int32)), (6, .int s0), (0, .ref (ux_ad X 0)), (1, .int v1), (2, .int v2), (3, .int v3), (4, .int v4), (5, .int v5)] C dX12_layParts_102 rfl (by decide) rfl ?_
  obtain ⟨e1, hl2, h⟩ := Option.bind_eq_some_iff.mp h
  refine wt_sub [2, 3, 4, 5, 6, 7, 1, 0] rfl ?_
  refine ux_loop (fun s : Int32 × ux_N => fX12_layParts_104b v1 v2 v3 v4 v5 s0 s.1 s.2) (fun s : Int32 × ux_N => ux_Wt X 8 104 [(0, .ref (ux_ad X 0)), (1, .int v1), (2, .int v2), (3, .int v3), (4, .int v4), (5, .int v5), (6, .int s0), (7, .int s.1)] [] s.2 L) (e := e1) ?_ hl2
  intro s3 o4 hb5 hi6 hx7
  refine wX12_layParts_104b C hi6 (fun x0 he => ?_) hb5
  · obtain ⟨e8, rfl⟩ : ∃ z, z = x0 := ⟨_, rfl⟩
    have h9 := hx7 _ he
    subst h9
    refine wt_iinc 165 2 [(2, .int (v2 + (-1))), (0, .ref (ux_ad X 0)), (1, .int v1), (3, .int v3)] (v2 + (-1)) C dX12_layParts_162 rfl rfl (by rfl) (by decide) rfl ?_
    refine wt_sub [1, 2, 0, 3] rfl ?_
    exact wX12_layParts_30b_165 C hin hex0 h
def fX12_layParts_30b (v1 : Int32) (v2 : Int32) (v3 : Int32) (N : ux_N) : Option ((Int32 × Int32 × ux_N) ⊕ (Int32 × ux_N)) :=
  if (N 0 2) ≤ v3 then (some (.inr ((v2, N)))) else (if ux_in ((2 : Int32) * v3) 20 then (if ux_in (N 2 (((2 : Int32) * v3).toNatClampNeg)) 8 then (if ux_in (((2 : Int32) * v3) + (1 : Int32)) 20 then (if ux_in (N 2 ((((2 : Int32) * v3) + (1 : Int32)).toNatClampNeg)) 8 then ((fX12_has v1 v3).bind (fun o6 => if o6 = 0 then (fX12_layParts_30b_165 v1 v2 v3 N) else (if (N 14 ((N 2 (((2 : Int32) * v3).toNatClampNeg)).toNatClampNeg)) = (N 14 ((N 2 ((((2 : Int32) * v3) + (1 : Int32)).toNatClampNeg)).toNatClampNeg)) then (fX12_layParts_30b_165 v1 v2 v3 N) else (if (N 14 ((N 2 ((((2 : Int32) * v3) + (1 : Int32)).toNatClampNeg)).toNatClampNeg)) ≤ (N 14 ((N 2 (((2 : Int32) * v3).toNatClampNeg)).toNatClampNeg)) then (fX12_layParts_30b_99 v1 v2 v3 (N 14 ((N 2 (((2 : Int32) * v3).toNatClampNeg)).toNatClampNeg)) (N 14 ((N 2 ((((2 : Int32) * v3) + (1 : Int32)).toNatClampNeg)).toNatClampNeg)) (N 14 ((N 2 ((((2 : Int32) * v3) + (1 : Int32)).toNatClampNeg)).toNatClampNeg)) N) else (fX12_layParts_30b_99 v1 v2 v3 (N 14 ((N 2 (((2 : Int32) * v3).toNatClampNeg)).toNatClampNeg)) (N 14 ((N 2 ((((2 : Int32) * v3) + (1 : Int32)).toNatClampNeg)).toNatClampNeg)) (N 14 ((N 2 (((2 : Int32) * v3).toNatClampNeg)).toNatClampNeg)) N))))) else none) else none) else none) else none)
set_option maxHeartbeats 4000000 in
set_option maxRecDepth 20000 in
theorem wX12_layParts_30b {X : ux_X} (C : ux_C X cX12_layParts RX12 8 (some .int) 1 21 shM) {v1 : Int32} {v2 : Int32} {v3 : Int32}  {N : ux_N} {L : ux_L} {o : (Int32 × Int32 × ux_N) ⊕ (Int32 × ux_N)} (hin : ∀ s : Int32 × Int32 × ux_N, o = .inl s → ux_Wt X 8 30 [(0, .ref (ux_ad X 0)), (1, .int v1), (2, .int s.1), (3, .int s.2.1)] [] s.2.2 L) (hex0 : ∀ e : Int32 × ux_N, o = .inr (e) → ux_Wt X 8 171 [(2, .int e.1)] [] e.2 L) (h : fX12_layParts_30b v1 v2 v3 N = some o) : ux_Wt X 8 30 [(0, .ref (ux_ad X 0)), (1, .int v1), (2, .int v2), (3, .int v3)] [] N L := by
  refine wt_iload_n 31 3 C dX12_layParts_30 rfl rfl ?_
  refine wt_aload_n 32 0 C dX12_layParts_31 rfl rfl ?_
  refine wt_getI 35 C kfX12_86 sm_0 rfl dX12_layParts_32 rfl ?_
  refine wt_icmp_ge 38 171 C dX12_layParts_35 rfl (by decide) (fun q1 => ?_) (fun q1 => ?_)
  · have h := (if_pos q1).symm.trans h
    refine wt_sub [2] rfl ?_
    exact hex0 _ (Option.some.inj h).symm
  · have h := (if_neg q1).symm.trans h
    refine wt_aload_n 39 0 C dX12_layParts_38 rfl rfl ?_
    refine wt_getR 42 C kfX12_51 sm_0 rfl dX12_layParts_39 rfl ?_
    refine wt_aload_n 43 0 C dX12_layParts_42 rfl rfl ?_
    refine wt_getR 46 C kfX12_13 sm_0 rfl dX12_layParts_43 rfl ?_
    refine wt_iconst 47 2 C dX12_layParts_46 rfl (by decide) ?_
    refine wt_iload_n 48 3 C dX12_layParts_47 rfl rfl ?_
    refine wt_imul 49 C dX12_layParts_48 rfl ?_
    obtain ⟨hi2, h⟩ := ux_guard h
    refine wt_iald 50 (((2 : Int32) * v3).toNatClampNeg) C sm_2 rfl hi2 dX12_layParts_49 rfl ?_
    obtain ⟨hi3, h⟩ := ux_guard h
    refine wt_iald 51 ((N 2 (((2 : Int32) * v3).toNatClampNeg)).toNatClampNeg) C sm_14 rfl hi3 dX12_layParts_50 rfl ?_
    refine wt_istore 53 [(4, .int (N 14 ((N 2 (((2 : Int32) * v3).toNatClampNeg)).toNatClampNeg))), (0, .ref (ux_ad X 0)), (1, .int v1), (2, .int v2), (3, .int v3)] C dX12_layParts_51 rfl (by decide) rfl ?_
    refine wt_aload_n 54 1 C dX12_layParts_53 rfl rfl ?_
    refine wt_getR 57 C kfX12_51 sm_0 rfl dX12_layParts_54 rfl ?_
    refine wt_aload_n 58 1 C dX12_layParts_57 rfl rfl ?_
    refine wt_getR 61 C kfX12_13 sm_0 rfl dX12_layParts_58 rfl ?_
    refine wt_iconst 62 2 C dX12_layParts_61 rfl (by decide) ?_
    refine wt_iload_n 63 4 C dX12_layParts_62 rfl rfl ?_
    refine wt_imul 64 C dX12_layParts_63 rfl ?_
    refine wt_iconst 65 1 C dX12_layParts_64 rfl (by decide) ?_
    refine wt_iadd 66 C dX12_layParts_65 rfl ?_
    obtain ⟨hi4, h⟩ := ux_guard h
    refine wt_iald 67 ((((2 : Int32) * v3) + (1 : Int32)).toNatClampNeg) C sm_2 rfl hi4 dX12_layParts_66 rfl ?_
    obtain ⟨hi5, h⟩ := ux_guard h
    refine wt_iald 68 ((N 2 ((((2 : Int32) * v3) + (1 : Int32)).toNatClampNeg)).toNatClampNeg) C sm_14 rfl hi5 dX12_layParts_67 rfl ?_
    refine wt_istore 70 [(5, .int (N 14 ((N 2 ((((2 : Int32) * v3) + (1 : Int32)).toNatClampNeg)).toNatClampNeg))), (4, .int (N 14 ((N 2 (((2 : Int32) * v3).toNatClampNeg)).toNatClampNeg))), (0, .ref (ux_ad X 0)), (1, .int v1), (2, .int v2), (3, .int v3)] C dX12_layParts_68 rfl (by decide) rfl ?_
    refine wt_iload_n 71 3 C dX12_layParts_70 rfl rfl ?_
    refine wt_iload_n 72 5 C dX12_layParts_71 rfl rfl ?_
    obtain ⟨o6, hc7, h⟩ := Option.bind_eq_some_iff.mp h
    refine wt_callSi 75 [] C ksX12_179 (mX12_has (cx_ok C)  hc7) rfl rfl ⟨Nat.le_of_ble_eq_true rfl, Nat.le_of_ble_eq_true rfl⟩ (Nat.le_of_ble_eq_true rfl) dX12_layParts_72 rfl ?_
    refine wt_if_eq 78 165 C dX12_layParts_75 rfl (by decide) (fun q8 => ?_) (fun q8 => ?_)
    · have h := (if_pos q8).symm.trans h
      refine wt_sub [2, 3, 4, 5] rfl ?_
      exact wX12_layParts_30b_165 C hin hex0 h
    · have h := (if_neg q8).symm.trans h
      refine wt_iload 80 1 C dX12_layParts_78 rfl rfl ?_
      refine wt_iload 82 0 C dX12_layParts_80 rfl rfl ?_
      refine wt_icmp_eq 85 165 C dX12_layParts_82 rfl (by decide) (fun q9 => ?_) (fun q9 => ?_)
      · have h := (if_pos q9).symm.trans h
        refine wt_sub [2, 3, 4, 5] rfl ?_
        exact wX12_layParts_30b_165 C hin hex0 h
      · have h := (if_neg q9).symm.trans h
        refine wt_iload 87 1 C dX12_layParts_85 rfl rfl ?_
        refine wt_iload 89 0 C dX12_layParts_87 rfl rfl ?_
        refine wt_icmp_ge 92 97 C dX12_layParts_89 rfl (by decide) (fun q10 => ?_) (fun q10 => ?_)
        · have h := (if_pos q10).symm.trans h
          refine wt_iload 99 0 C dX12_layParts_97 rfl rfl ?_
          refine wt_sub [2, 3, 4, 5, 1, 0] rfl ?_
          exact wX12_layParts_30b_99 C hin hex0 h
        · have h := (if_neg q10).symm.trans h
          refine wt_iload 94 1 C dX12_layParts_92 rfl rfl ?_
          refine wt_goto 99 C dX12_layParts_94 (by decide) ?_
          refine wt_sub [2, 3, 4, 5, 1, 0] rfl ?_
          exact wX12_layParts_30b_99 C hin hex0 h
def fX12_layParts (v1 : Int32) (N : ux_N) : Option (Int32 × ux_N) :=
  (ux_lp (fun s : Int32 × ux_N => fX12_layParts_2b v1 s.1 s.2) ux_fu ((0 : Int32), N)).bind (fun e8 => (ux_lp (fun s : Int32 × Int32 × ux_N => fX12_layParts_30b v1 s.1 s.2.1 s.2.2) ux_fu ((e8 0 1), (0 : Int32), e8)).bind (fun e16 => some (e16.1, e16.2)))
set_option maxHeartbeats 4000000 in
set_option maxRecDepth 20000 in
theorem wX12_layParts {X : ux_X} (C : ux_C X cX12_layParts RX12 8 (some .int) 1 21 shM) {v1 : Int32}  {N : ux_N} {L : ux_L} {o : Int32 × ux_N} (hq : ux_Qi X o.1 o.2 L) (h : fX12_layParts v1 N = some o) : ux_Wt X 8 0 [(0, .ref (ux_ad X 0)), (1, .int v1)] [] N L := by
  refine wt_iconst 1 0 C dX12_layParts_0 rfl (by decide) ?_
  refine wt_istore_n 2 [(2, .int (0 : Int32)), (0, .ref (ux_ad X 0)), (1, .int v1)] C dX12_layParts_1 rfl (by decide) rfl ?_
  obtain ⟨e1, hl2, h⟩ := Option.bind_eq_some_iff.mp h
  refine wt_sub [1, 2, 0] rfl ?_
  refine ux_loop (fun s : Int32 × ux_N => fX12_layParts_2b v1 s.1 s.2) (fun s : Int32 × ux_N => ux_Wt X 8 2 [(0, .ref (ux_ad X 0)), (1, .int v1), (2, .int s.1)] [] s.2 L) (e := e1) ?_ hl2
  intro s3 o4 hb5 hi6 hx7
  refine wX12_layParts_2b C hi6 (fun x0 he => ?_) hb5
  · obtain ⟨e8, rfl⟩ : ∃ z, z = x0 := ⟨_, rfl⟩
    have h9 := hx7 _ he
    subst h9
    refine wt_aload_n 24 0 C dX12_layParts_23 rfl rfl ?_
    refine wt_getI 27 C kfX12_82 sm_0 rfl dX12_layParts_24 rfl ?_
    refine wt_istore_n 28 [(2, .int (e8 0 1)), (0, .ref (ux_ad X 0)), (1, .int v1)] C dX12_layParts_27 rfl (by decide) rfl ?_
    refine wt_iconst 29 0 C dX12_layParts_28 rfl (by decide) ?_
    refine wt_istore_n 30 [(3, .int (0 : Int32)), (2, .int (e8 0 1)), (0, .ref (ux_ad X 0)), (1, .int v1)] C dX12_layParts_29 rfl (by decide) rfl ?_
    obtain ⟨e9, hl10, h⟩ := Option.bind_eq_some_iff.mp h
    refine wt_sub [2, 3, 1, 0] rfl ?_
    refine ux_loop (fun s : Int32 × Int32 × ux_N => fX12_layParts_30b v1 s.1 s.2.1 s.2.2) (fun s : Int32 × Int32 × ux_N => ux_Wt X 8 30 [(0, .ref (ux_ad X 0)), (1, .int v1), (2, .int s.1), (3, .int s.2.1)] [] s.2.2 L) (e := e9) ?_ hl10
    intro s11 o12 hb13 hi14 hx15
    refine wX12_layParts_30b C hi14 (fun x0 he => ?_) hb13
    · obtain ⟨e16, rfl⟩ : ∃ z, z = x0 := ⟨_, rfl⟩
      have h9 := hx15 _ he
      subst h9
      refine wt_iload_n 172 0 C dX12_layParts_171 rfl rfl ?_
      cases h
      exact wt_iret C hq dX12_layParts_172
theorem mX12_layParts {l : Launch} {G : ux_G} (hok : ux_ok G shM) {v1 : Int32}  {N : ux_N} {L : ux_L} {o : Int32 × ux_N} (h : fX12_layParts v1 N = some o) : ux_Mi l G yX12_layParts cX12_layParts 8 (some .int) 1 21 [.ref (gad G 0), .int v1] N L o.1 o.2 L :=
  ux_ofi shM hok (by decide +kernel) (Nat.le_of_ble_eq_true rfl) (fun X hG hl C hq => by subst hG; subst hl; exact wX12_layParts C  hq h)
def fX12_layForests_2b (v1 : Int32) (N : ux_N) (L : ux_L) : Option ((Int32 × ux_L) ⊕ (ux_L)) :=
  if (128 : Int32) ≤ v1 then (some (.inr (L))) else (if ux_in v1 128 then (some (.inl ((v1 + 1), (ux_w L 13 (v1.toNatClampNeg) (0 : Int64))))) else none)
set_option maxHeartbeats 4000000 in
set_option maxRecDepth 20000 in
theorem wX12_layForests_2b {X : ux_X} (C : ux_C X cX12_layForests RX12 3 none 2 48 shM) {v1 : Int32}  {N : ux_N} {L : ux_L} {o : (Int32 × ux_L) ⊕ (ux_L)} (hin : ∀ s : Int32 × ux_L, o = .inl s → ux_Wt X 3 2 [(0, .ref (ux_ad X 0)), (1, .int s.1)] [] N s.2) (hex0 : ∀ e : ux_L, o = .inr (e) → ux_Wt X 3 22 [(0, .ref (ux_ad X 0))] [] N e) (h : fX12_layForests_2b v1 N L = some o) : ux_Wt X 3 2 [(0, .ref (ux_ad X 0)), (1, .int v1)] [] N L := by
  refine wt_iload_n 3 1 C dX12_layForests_2 rfl rfl ?_
  refine wt_sipush 6 128 C dX12_layForests_3 rfl (by decide) ?_
  refine wt_icmp_ge 9 22 C dX12_layForests_6 rfl (by decide) (fun q1 => ?_) (fun q1 => ?_)
  · have h := (if_pos q1).symm.trans h
    refine wt_sub [0] rfl ?_
    exact hex0 _ (Option.some.inj h).symm
  · have h := (if_neg q1).symm.trans h
    refine wt_aload_n 10 0 C dX12_layForests_9 rfl rfl ?_
    refine wt_getR 13 C kfX12_47 sm_0 rfl dX12_layForests_10 rfl ?_
    refine wt_iload_n 14 1 C dX12_layForests_13 rfl rfl ?_
    refine wt_lconst 15 0 C dX12_layForests_14 rfl (by decide) ?_
    obtain ⟨hi2, h⟩ := ux_guard h
    refine wt_last 16 (v1.toNatClampNeg) C sm_13 rfl hi2 dX12_layForests_15 rfl ?_
    refine wt_iinc 19 1 [(1, .int (v1 + 1)), (0, .ref (ux_ad X 0))] (v1 + 1) C dX12_layForests_16 rfl rfl (by rfl) (by decide) rfl ?_
    refine wt_goto 2 C dX12_layForests_19 (by decide) ?_
    refine wt_sub [1, 0] rfl ?_
    exact hin _ (Option.some.inj h).symm
def fX12_layForests_24b_76 (v1 : Int32) (N : ux_N) (L : ux_L) : Option ((Int32 × ux_N × ux_L) ⊕ (ux_N × ux_L)) :=
  some (.inl ((v1 + 1), N, L))
set_option maxHeartbeats 4000000 in
set_option maxRecDepth 20000 in
theorem wX12_layForests_24b_76 {X : ux_X} (C : ux_C X cX12_layForests RX12 3 none 2 48 shM) {v1 : Int32}  {N : ux_N} {L : ux_L} {o : (Int32 × ux_N × ux_L) ⊕ (ux_N × ux_L)} (hin : ∀ s : Int32 × ux_N × ux_L, o = .inl s → ux_Wt X 3 24 [(0, .ref (ux_ad X 0)), (1, .int s.1)] [] s.2.1 s.2.2) (hex0 : ∀ e : ux_N × ux_L, o = .inr (e) → ux_Wt X 3 82 [] [] e.1 e.2) (h : fX12_layForests_24b_76 v1 N L = some o) : ux_Wt X 3 76 [(0, .ref (ux_ad X 0)), (1, .int v1)] [] N L := by
  refine wt_iinc 79 1 [(1, .int (v1 + 1)), (0, .ref (ux_ad X 0))] (v1 + 1) C dX12_layForests_76 rfl rfl (by rfl) (by decide) rfl ?_
  refine wt_goto 24 C dX12_layForests_79 (by decide) ?_
  refine wt_sub [1, 0] rfl ?_
  exact hin _ (Option.some.inj h).symm
def fX12_layForests_24b (v1 : Int32) (N : ux_N) (L : ux_L) : Option ((Int32 × ux_N × ux_L) ⊕ (ux_N × ux_L)) :=
  if ((1 : Int32) <<< ((N 0 2) &&& 31)) ≤ v1 then (some (.inr ((N, L)))) else ((fX12_ones v1).bind (fun o2 => (fX12_layParts v1 N).bind (fun o4 => if o4.1 = ((o4.2 0 1) - o2) then (if ux_in (((16 : Int32) * o2) + (v1 / (64 : Int32))) 128 then (if ux_in (((16 : Int32) * o2) + (v1 / (64 : Int32))) 128 then (fX12_layForests_24b_76 v1 o4.2 (ux_w L 13 ((((16 : Int32) * o2) + (v1 / (64 : Int32))).toNatClampNeg) ((L 13 ((((16 : Int32) * o2) + (v1 / (64 : Int32))).toNatClampNeg)) ||| ((1 : Int64) <<< ((v1 - v1 / (64 : Int32) * (64 : Int32)).toInt64 &&& 63))))) else none) else none) else (fX12_layForests_24b_76 v1 o4.2 L))))
set_option maxHeartbeats 4000000 in
set_option maxRecDepth 20000 in
theorem wX12_layForests_24b {X : ux_X} (C : ux_C X cX12_layForests RX12 3 none 2 48 shM) {v1 : Int32}  {N : ux_N} {L : ux_L} {o : (Int32 × ux_N × ux_L) ⊕ (ux_N × ux_L)} (hin : ∀ s : Int32 × ux_N × ux_L, o = .inl s → ux_Wt X 3 24 [(0, .ref (ux_ad X 0)), (1, .int s.1)] [] s.2.1 s.2.2) (hex0 : ∀ e : ux_N × ux_L, o = .inr (e) → ux_Wt X 3 82 [] [] e.1 e.2) (h : fX12_layForests_24b v1 N L = some o) : ux_Wt X 3 24 [(0, .ref (ux_ad X 0)), (1, .int v1)] [] N L := by
  refine wt_iload_n 25 1 C dX12_layForests_24 rfl rfl ?_
  refine wt_iconst 26 1 C dX12_layForests_25 rfl (by decide) ?_
  refine wt_aload_n 27 0 C dX12_layForests_26 rfl rfl ?_
  refine wt_getI 30 C kfX12_86 sm_0 rfl dX12_layForests_27 rfl ?_
  refine wt_ishl 31 C dX12_layForests_30 rfl ?_
  refine wt_icmp_ge 34 82 C dX12_layForests_31 rfl (by decide) (fun q1 => ?_) (fun q1 => ?_)
  · have h := (if_pos q1).symm.trans h
    refine wt_sub [] rfl ?_
    exact hex0 _ (Option.some.inj h).symm
  · have h := (if_neg q1).symm.trans h
    refine wt_iload_n 35 1 C dX12_layForests_34 rfl rfl ?_
    obtain ⟨o2, hc3, h⟩ := Option.bind_eq_some_iff.mp h
    refine wt_callSi 38 [] C ksX12_183 (mX12_ones (cx_ok C)  hc3) rfl rfl ⟨Nat.le_of_ble_eq_true rfl, Nat.le_of_ble_eq_true rfl⟩ (Nat.le_of_ble_eq_true rfl) dX12_layForests_35 rfl ?_
    refine wt_istore_n 39 [(2, .int o2), (0, .ref (ux_ad X 0)), (1, .int v1)] C dX12_layForests_38 rfl (by decide) rfl ?_
    refine wt_aload_n 40 1 C dX12_layForests_39 rfl rfl ?_
    refine wt_iload_n 41 2 C dX12_layForests_40 rfl rfl ?_
    obtain ⟨o4, hc5, h⟩ := Option.bind_eq_some_iff.mp h
    refine wt_callVi 44 [] C kvX12_187 sm_0 (mX12_layParts (cx_ok C)  hc5) rfl rfl ⟨Nat.le_of_ble_eq_true rfl, Nat.le_of_ble_eq_true rfl⟩ (Nat.le_of_ble_eq_true rfl) dX12_layForests_41 rfl ?_
    refine wt_aload_n 45 1 C dX12_layForests_44 rfl rfl ?_
    refine wt_getI 48 C kfX12_82 sm_0 rfl dX12_layForests_45 rfl ?_
    refine wt_iload_n 49 0 C dX12_layForests_48 rfl rfl ?_
    refine wt_isub 50 C dX12_layForests_49 rfl ?_
    refine wt_icmp_ne 53 76 C dX12_layForests_50 rfl (by decide) (fun q6 => ?_) (fun q6 => ?_)
    · have h := (if_neg q6).symm.trans h
      refine wt_sub [1, 2] rfl ?_
      exact wX12_layForests_24b_76 C hin hex0 h
    · have h := (if_pos q6).symm.trans h
      refine wt_aload_n 54 1 C dX12_layForests_53 rfl rfl ?_
      refine wt_getR 57 C kfX12_47 sm_0 rfl dX12_layForests_54 rfl ?_
      refine wt_bipush 59 16 C dX12_layForests_57 rfl (by decide) ?_
      refine wt_iload_n 60 0 C dX12_layForests_59 rfl rfl ?_
      refine wt_imul 61 C dX12_layForests_60 rfl ?_
      refine wt_iload_n 62 2 C dX12_layForests_61 rfl rfl ?_
      refine wt_bipush 64 64 C dX12_layForests_62 rfl (by decide) ?_
      refine wt_idiv 65 C dX12_layForests_64 rfl (by decide) ?_
      refine wt_iadd 66 C dX12_layForests_65 rfl ?_
      refine wt_dup2 67 C dX12_layForests_66 rfl rfl rfl ?_
      obtain ⟨hi7, h⟩ := ux_guard h
      refine wt_lald 68 ((((16 : Int32) * o2) + (v1 / (64 : Int32))).toNatClampNeg) C sm_13 rfl hi7 dX12_layForests_67 rfl ?_
      refine wt_lconst 69 1 C dX12_layForests_68 rfl (by decide) ?_
      refine wt_iload_n 70 2 C dX12_layForests_69 rfl rfl ?_
      refine wt_bipush 72 64 C dX12_layForests_70 rfl (by decide) ?_
      refine wt_irem 73 C dX12_layForests_72 rfl (by decide) ?_
      refine wt_lshl 74 C dX12_layForests_73 rfl ?_
      refine wt_lor 75 C dX12_layForests_74 rfl ?_
      obtain ⟨hi8, h⟩ := ux_guard h
      refine wt_last 76 ((((16 : Int32) * o2) + (v1 / (64 : Int32))).toNatClampNeg) C sm_13 rfl hi8 dX12_layForests_75 rfl ?_
      refine wt_sub [1, 2] rfl ?_
      exact wX12_layForests_24b_76 C hin hex0 h
def fX12_layForests (N : ux_N) (L : ux_L) : Option (ux_N × ux_L) :=
  (ux_lp (fun s : Int32 × ux_L => fX12_layForests_2b s.1 N s.2) ux_fu ((0 : Int32), L)).bind (fun e8 => (ux_lp (fun s : Int32 × ux_N × ux_L => fX12_layForests_24b s.1 s.2.1 s.2.2) ux_fu ((0 : Int32), N, e8)).bind (fun e16 => some (e16.1, e16.2)))
set_option maxHeartbeats 4000000 in
set_option maxRecDepth 20000 in
theorem wX12_layForests {X : ux_X} (C : ux_C X cX12_layForests RX12 3 none 2 48 shM)   {N : ux_N} {L : ux_L} {o : ux_N × ux_L} (hq : ux_Qv X o.1 o.2) (h : fX12_layForests N L = some o) : ux_Wt X 3 0 [(0, .ref (ux_ad X 0))] [] N L := by
  refine wt_iconst 1 0 C dX12_layForests_0 rfl (by decide) ?_
  refine wt_istore_n 2 [(1, .int (0 : Int32)), (0, .ref (ux_ad X 0))] C dX12_layForests_1 rfl (by decide) rfl ?_
  obtain ⟨e1, hl2, h⟩ := Option.bind_eq_some_iff.mp h
  refine wt_sub [1, 0] rfl ?_
  refine ux_loop (fun s : Int32 × ux_L => fX12_layForests_2b s.1 N s.2) (fun s : Int32 × ux_L => ux_Wt X 3 2 [(0, .ref (ux_ad X 0)), (1, .int s.1)] [] N s.2) (e := e1) ?_ hl2
  intro s3 o4 hb5 hi6 hx7
  refine wX12_layForests_2b C hi6 (fun x0 he => ?_) hb5
  · obtain ⟨e8, rfl⟩ : ∃ z, z = x0 := ⟨_, rfl⟩
    have h9 := hx7 _ he
    subst h9
    refine wt_iconst 23 0 C dX12_layForests_22 rfl (by decide) ?_
    refine wt_istore_n 24 [(1, .int (0 : Int32)), (0, .ref (ux_ad X 0))] C dX12_layForests_23 rfl (by decide) rfl ?_
    obtain ⟨e9, hl10, h⟩ := Option.bind_eq_some_iff.mp h
    refine wt_sub [1, 0] rfl ?_
    refine ux_loop (fun s : Int32 × ux_N × ux_L => fX12_layForests_24b s.1 s.2.1 s.2.2) (fun s : Int32 × ux_N × ux_L => ux_Wt X 3 24 [(0, .ref (ux_ad X 0)), (1, .int s.1)] [] s.2.1 s.2.2) (e := e9) ?_ hl10
    intro s11 o12 hb13 hi14 hx15
    refine wX12_layForests_24b C hi14 (fun x0 he => ?_) hb13
    · obtain ⟨e16, rfl⟩ : ∃ z, z = x0 := ⟨_, rfl⟩
      have h9 := hx15 _ he
      subst h9
      cases h
      exact wt_vret C hq dX12_layForests_82
theorem mX12_layForests {l : Launch} {G : ux_G} (hok : ux_ok G shM)   {N : ux_N} {L : ux_L} {o : ux_N × ux_L} (h : fX12_layForests N L = some o) : ux_Mv l G yX12_layForests cX12_layForests 3 2 48 [.ref (gad G 0)] N L o.1 o.2 :=
  ux_ofv shM hok (by decide +kernel) (Nat.le_of_ble_eq_true rfl) (fun X hG hl C hq => by subst hG; subst hl; exact wX12_layForests C  hq h)
