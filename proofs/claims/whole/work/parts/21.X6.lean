theorem dX6_learnForests_0 : decode cX6_learnForests 0 = .ok (.aload_n 0, 1) := by decide +kernel
theorem dX6_learnForests_1 : decode cX6_learnForests 1 = .ok (.getfield 18, 3) := by decide +kernel
theorem dX6_learnForests_4 : decode cX6_learnForests 4 = .ok (.invokevirtual 64, 3) := by decide +kernel
theorem dX6_learnForests_7 : decode cX6_learnForests 7 = .ok (.aload_n 0, 1) := by decide +kernel
theorem dX6_learnForests_8 : decode cX6_learnForests 8 = .ok (.getfield 37, 3) := by decide +kernel
theorem dX6_learnForests_11 : decode cX6_learnForests 11 = .ok (.bipush 10, 2) := by decide +kernel
theorem dX6_learnForests_13 : decode cX6_learnForests 13 = .ok (.aaload, 1) := by decide +kernel
theorem dX6_learnForests_14 : decode cX6_learnForests 14 = .ok (.invokevirtual 67, 3) := by decide +kernel
theorem dX6_learnForests_17 : decode cX6_learnForests 17 = .ok (.iconst 1, 1) := by decide +kernel
theorem dX6_learnForests_18 : decode cX6_learnForests 18 = .ok (.istore_n 1, 1) := by decide +kernel
theorem dX6_learnForests_19 : decode cX6_learnForests 19 = .ok (.iload_n 1, 1) := by decide +kernel
theorem dX6_learnForests_20 : decode cX6_learnForests 20 = .ok (.aload_n 0, 1) := by decide +kernel
theorem dX6_learnForests_21 : decode cX6_learnForests 21 = .ok (.getfield 56, 3) := by decide +kernel
theorem dX6_learnForests_24 : decode cX6_learnForests 24 = .ok (.invokevirtual 70, 3) := by decide +kernel
theorem dX6_learnForests_27 : decode cX6_learnForests 27 = .ok (.if_icmp .gt 123, 3) := by decide +kernel
theorem dX6_learnForests_30 : decode cX6_learnForests 30 = .ok (.iload_n 1, 1) := by decide +kernel
theorem dX6_learnForests_31 : decode cX6_learnForests 31 = .ok (.invokestatic 76, 3) := by decide +kernel
theorem dX6_learnForests_34 : decode cX6_learnForests 34 = .ok (.istore_n 2, 1) := by decide +kernel
theorem dX6_learnForests_35 : decode cX6_learnForests 35 = .ok (.iload_n 1, 1) := by decide +kernel
theorem dX6_learnForests_36 : decode cX6_learnForests 36 = .ok (.iload_n 1, 1) := by decide +kernel
theorem dX6_learnForests_37 : decode cX6_learnForests 37 = .ok (.iconst 1, 1) := by decide +kernel
theorem dX6_learnForests_38 : decode cX6_learnForests 38 = .ok (.isub, 1) := by decide +kernel
theorem dX6_learnForests_39 : decode cX6_learnForests 39 = .ok (.iand, 1) := by decide +kernel
theorem dX6_learnForests_40 : decode cX6_learnForests 40 = .ok (.istore_n 3, 1) := by decide +kernel
theorem dX6_learnForests_41 : decode cX6_learnForests 41 = .ok (.aload_n 0, 1) := by decide +kernel
theorem dX6_learnForests_42 : decode cX6_learnForests 42 = .ok (.getfield 37, 3) := by decide +kernel
theorem dX6_learnForests_45 : decode cX6_learnForests 45 = .ok (.iload_n 3, 1) := by decide +kernel
theorem dX6_learnForests_46 : decode cX6_learnForests 46 = .ok (.ifCond .ne 8, 3) := by decide +kernel
theorem dX6_learnForests_49 : decode cX6_learnForests 49 = .ok (.bipush 10, 2) := by decide +kernel
theorem dX6_learnForests_51 : decode cX6_learnForests 51 = .ok (.goto 7, 3) := by decide +kernel
theorem dX6_learnForests_54 : decode cX6_learnForests 54 = .ok (.iload_n 3, 1) := by decide +kernel
theorem dX6_learnForests_55 : decode cX6_learnForests 55 = .ok (.invokestatic 76, 3) := by decide +kernel
theorem dX6_learnForests_58 : decode cX6_learnForests 58 = .ok (.aaload, 1) := by decide +kernel
theorem dX6_learnForests_59 : decode cX6_learnForests 59 = .ok (.astore 4, 2) := by decide +kernel
theorem dX6_learnForests_61 : decode cX6_learnForests 61 = .ok (.aload_n 0, 1) := by decide +kernel
theorem dX6_learnForests_62 : decode cX6_learnForests 62 = .ok (.getfield 18, 3) := by decide +kernel
theorem dX6_learnForests_65 : decode cX6_learnForests 65 = .ok (.iload_n 3, 1) := by decide +kernel
theorem dX6_learnForests_66 : decode cX6_learnForests 66 = .ok (.invokevirtual 80, 3) := by decide +kernel
theorem dX6_learnForests_69 : decode cX6_learnForests 69 = .ok (.ifCond .eq 75, 3) := by decide +kernel
theorem dX6_learnForests_72 : decode cX6_learnForests 72 = .ok (.aload 4, 2) := by decide +kernel
theorem dX6_learnForests_74 : decode cX6_learnForests 74 = .ok (.aload_n 0, 1) := by decide +kernel
theorem dX6_learnForests_75 : decode cX6_learnForests 75 = .ok (.getfield 56, 3) := by decide +kernel
theorem dX6_learnForests_78 : decode cX6_learnForests 78 = .ok (.getfield 84, 3) := by decide +kernel
theorem dX6_learnForests_81 : decode cX6_learnForests 81 = .ok (.iload_n 2, 1) := by decide +kernel
theorem dX6_learnForests_82 : decode cX6_learnForests 82 = .ok (.iaload, 1) := by decide +kernel
theorem dX6_learnForests_83 : decode cX6_learnForests 83 = .ok (.aload_n 0, 1) := by decide +kernel
theorem dX6_learnForests_84 : decode cX6_learnForests 84 = .ok (.getfield 56, 3) := by decide +kernel
theorem dX6_learnForests_87 : decode cX6_learnForests 87 = .ok (.getfield 87, 3) := by decide +kernel
theorem dX6_learnForests_90 : decode cX6_learnForests 90 = .ok (.iload_n 2, 1) := by decide +kernel
theorem dX6_learnForests_91 : decode cX6_learnForests 91 = .ok (.iaload, 1) := by decide +kernel
theorem dX6_learnForests_92 : decode cX6_learnForests 92 = .ok (.invokevirtual 90, 3) := by decide +kernel
theorem dX6_learnForests_95 : decode cX6_learnForests 95 = .ok (.ifCond .ne 49, 3) := by decide +kernel
theorem dX6_learnForests_98 : decode cX6_learnForests 98 = .ok (.aload_n 0, 1) := by decide +kernel
theorem dX6_learnForests_99 : decode cX6_learnForests 99 = .ok (.getfield 18, 3) := by decide +kernel
theorem dX6_learnForests_102 : decode cX6_learnForests 102 = .ok (.iload_n 1, 1) := by decide +kernel
theorem dX6_learnForests_103 : decode cX6_learnForests 103 = .ok (.invokevirtual 94, 3) := by decide +kernel
theorem dX6_learnForests_106 : decode cX6_learnForests 106 = .ok (.aload_n 0, 1) := by decide +kernel
theorem dX6_learnForests_107 : decode cX6_learnForests 107 = .ok (.getfield 37, 3) := by decide +kernel
theorem dX6_learnForests_110 : decode cX6_learnForests 110 = .ok (.iload_n 2, 1) := by decide +kernel
theorem dX6_learnForests_111 : decode cX6_learnForests 111 = .ok (.aaload, 1) := by decide +kernel
theorem dX6_learnForests_112 : decode cX6_learnForests 112 = .ok (.aload 4, 2) := by decide +kernel
theorem dX6_learnForests_114 : decode cX6_learnForests 114 = .ok (.invokevirtual 98, 3) := by decide +kernel
theorem dX6_learnForests_117 : decode cX6_learnForests 117 = .ok (.aload_n 0, 1) := by decide +kernel
theorem dX6_learnForests_118 : decode cX6_learnForests 118 = .ok (.getfield 37, 3) := by decide +kernel
theorem dX6_learnForests_121 : decode cX6_learnForests 121 = .ok (.iload_n 2, 1) := by decide +kernel
theorem dX6_learnForests_122 : decode cX6_learnForests 122 = .ok (.aaload, 1) := by decide +kernel
theorem dX6_learnForests_123 : decode cX6_learnForests 123 = .ok (.aload_n 0, 1) := by decide +kernel
theorem dX6_learnForests_124 : decode cX6_learnForests 124 = .ok (.getfield 56, 3) := by decide +kernel
theorem dX6_learnForests_127 : decode cX6_learnForests 127 = .ok (.getfield 84, 3) := by decide +kernel
theorem dX6_learnForests_130 : decode cX6_learnForests 130 = .ok (.iload_n 2, 1) := by decide +kernel
theorem dX6_learnForests_131 : decode cX6_learnForests 131 = .ok (.iaload, 1) := by decide +kernel
theorem dX6_learnForests_132 : decode cX6_learnForests 132 = .ok (.aload_n 0, 1) := by decide +kernel
theorem dX6_learnForests_133 : decode cX6_learnForests 133 = .ok (.getfield 56, 3) := by decide +kernel
theorem dX6_learnForests_136 : decode cX6_learnForests 136 = .ok (.getfield 87, 3) := by decide +kernel
theorem dX6_learnForests_139 : decode cX6_learnForests 139 = .ok (.iload_n 2, 1) := by decide +kernel
theorem dX6_learnForests_140 : decode cX6_learnForests 140 = .ok (.iaload, 1) := by decide +kernel
theorem dX6_learnForests_141 : decode cX6_learnForests 141 = .ok (.invokevirtual 102, 3) := by decide +kernel
theorem dX6_learnForests_144 : decode cX6_learnForests 144 = .ok (.iinc 1 1, 3) := by decide +kernel
theorem dX6_learnForests_147 : decode cX6_learnForests 147 = .ok (.goto (-128), 3) := by decide +kernel
theorem dX6_learnForests_150 : decode cX6_learnForests 150 = .ok (.return_, 1) := by decide +kernel
theorem dX6_openLines_0 : decode cX6_openLines 0 = .ok (.aload_n 0, 1) := by decide +kernel
theorem dX6_openLines_1 : decode cX6_openLines 1 = .ok (.getfield 56, 3) := by decide +kernel
theorem dX6_openLines_4 : decode cX6_openLines 4 = .ok (.invokevirtual 70, 3) := by decide +kernel
theorem dX6_openLines_7 : decode cX6_openLines 7 = .ok (.aload_n 0, 1) := by decide +kernel
theorem dX6_openLines_8 : decode cX6_openLines 8 = .ok (.getfield 60, 3) := by decide +kernel
theorem dX6_openLines_11 : decode cX6_openLines 11 = .ok (.getfield 151, 3) := by decide +kernel
theorem dX6_openLines_14 : decode cX6_openLines 14 = .ok (.iconst (-1), 1) := by decide +kernel
theorem dX6_openLines_15 : decode cX6_openLines 15 = .ok (.ixor, 1) := by decide +kernel
theorem dX6_openLines_16 : decode cX6_openLines 16 = .ok (.iand, 1) := by decide +kernel
theorem dX6_openLines_17 : decode cX6_openLines 17 = .ok (.ireturn, 1) := by decide +kernel
theorem dX6_reachOf_0 : decode cX6_reachOf 0 = .ok (.aload_n 0, 1) := by decide +kernel
theorem dX6_reachOf_1 : decode cX6_reachOf 1 = .ok (.getfield 60, 3) := by decide +kernel
theorem dX6_reachOf_4 : decode cX6_reachOf 4 = .ok (.getfield 154, 3) := by decide +kernel
theorem dX6_reachOf_7 : decode cX6_reachOf 7 = .ok (.iload_n 1, 1) := by decide +kernel
theorem dX6_reachOf_8 : decode cX6_reachOf 8 = .ok (.ishr, 1) := by decide +kernel
theorem dX6_reachOf_9 : decode cX6_reachOf 9 = .ok (.iconst 1, 1) := by decide +kernel
theorem dX6_reachOf_10 : decode cX6_reachOf 10 = .ok (.iand, 1) := by decide +kernel
theorem dX6_reachOf_11 : decode cX6_reachOf 11 = .ok (.iconst 1, 1) := by decide +kernel
theorem dX6_reachOf_12 : decode cX6_reachOf 12 = .ok (.if_icmp .ne 7, 3) := by decide +kernel
theorem dX6_reachOf_15 : decode cX6_reachOf 15 = .ok (.iconst 1, 1) := by decide +kernel
theorem dX6_reachOf_16 : decode cX6_reachOf 16 = .ok (.goto 4, 3) := by decide +kernel
theorem dX6_reachOf_19 : decode cX6_reachOf 19 = .ok (.iconst 0, 1) := by decide +kernel
theorem dX6_reachOf_20 : decode cX6_reachOf 20 = .ok (.istore_n 3, 1) := by decide +kernel
theorem dX6_reachOf_21 : decode cX6_reachOf 21 = .ok (.iload_n 3, 1) := by decide +kernel
theorem dX6_reachOf_22 : decode cX6_reachOf 22 = .ok (.ifCond .eq 7, 3) := by decide +kernel
theorem dX6_reachOf_25 : decode cX6_reachOf 25 = .ok (.iconst 0, 1) := by decide +kernel
theorem dX6_reachOf_26 : decode cX6_reachOf 26 = .ok (.goto 29, 3) := by decide +kernel
theorem dX6_reachOf_29 : decode cX6_reachOf 29 = .ok (.aload_n 0, 1) := by decide +kernel
theorem dX6_reachOf_30 : decode cX6_reachOf 30 = .ok (.getfield 56, 3) := by decide +kernel
theorem dX6_reachOf_33 : decode cX6_reachOf 33 = .ok (.aload_n 0, 1) := by decide +kernel
theorem dX6_reachOf_34 : decode cX6_reachOf 34 = .ok (.getfield 60, 3) := by decide +kernel
theorem dX6_reachOf_37 : decode cX6_reachOf 37 = .ok (.getfield 157, 3) := by decide +kernel
theorem dX6_reachOf_40 : decode cX6_reachOf 40 = .ok (.iload_n 1, 1) := by decide +kernel
theorem dX6_reachOf_41 : decode cX6_reachOf 41 = .ok (.iaload, 1) := by decide +kernel
theorem dX6_reachOf_42 : decode cX6_reachOf 42 = .ok (.aload_n 0, 1) := by decide +kernel
theorem dX6_reachOf_43 : decode cX6_reachOf 43 = .ok (.getfield 60, 3) := by decide +kernel
theorem dX6_reachOf_46 : decode cX6_reachOf 46 = .ok (.getfield 160, 3) := by decide +kernel
theorem dX6_reachOf_49 : decode cX6_reachOf 49 = .ok (.iload_n 1, 1) := by decide +kernel
theorem dX6_reachOf_50 : decode cX6_reachOf 50 = .ok (.iaload, 1) := by decide +kernel
theorem dX6_reachOf_51 : decode cX6_reachOf 51 = .ok (.iload_n 2, 1) := by decide +kernel
theorem dX6_reachOf_52 : decode cX6_reachOf 52 = .ok (.invokevirtual 163, 3) := by decide +kernel
theorem dX6_reachOf_55 : decode cX6_reachOf 55 = .ok (.ireturn, 1) := by decide +kernel
theorem dX6_joinAll_0 : decode cX6_joinAll 0 = .ok (.iconst 0, 1) := by decide +kernel
theorem dX6_joinAll_1 : decode cX6_joinAll 1 = .ok (.istore_n 2, 1) := by decide +kernel
theorem dX6_joinAll_2 : decode cX6_joinAll 2 = .ok (.aload_n 0, 1) := by decide +kernel
theorem dX6_joinAll_3 : decode cX6_joinAll 3 = .ok (.getfield 42, 3) := by decide +kernel
theorem dX6_joinAll_6 : decode cX6_joinAll 6 = .ok (.invokevirtual 67, 3) := by decide +kernel
theorem dX6_joinAll_9 : decode cX6_joinAll 9 = .ok (.iconst 0, 1) := by decide +kernel
theorem dX6_joinAll_10 : decode cX6_joinAll 10 = .ok (.istore_n 3, 1) := by decide +kernel
theorem dX6_joinAll_11 : decode cX6_joinAll 11 = .ok (.iload_n 3, 1) := by decide +kernel
theorem dX6_joinAll_12 : decode cX6_joinAll 12 = .ok (.aload_n 0, 1) := by decide +kernel
theorem dX6_joinAll_13 : decode cX6_joinAll 13 = .ok (.getfield 56, 3) := by decide +kernel
theorem dX6_joinAll_16 : decode cX6_joinAll 16 = .ok (.getfield 167, 3) := by decide +kernel
theorem dX6_joinAll_19 : decode cX6_joinAll 19 = .ok (.if_icmp .ge 74, 3) := by decide +kernel
theorem dX6_joinAll_22 : decode cX6_joinAll 22 = .ok (.iload_n 1, 1) := by decide +kernel
theorem dX6_joinAll_23 : decode cX6_joinAll 23 = .ok (.iload_n 3, 1) := by decide +kernel
theorem dX6_joinAll_24 : decode cX6_joinAll 24 = .ok (.ishr, 1) := by decide +kernel
theorem dX6_joinAll_25 : decode cX6_joinAll 25 = .ok (.iconst 1, 1) := by decide +kernel
theorem dX6_joinAll_26 : decode cX6_joinAll 26 = .ok (.iand, 1) := by decide +kernel
theorem dX6_joinAll_27 : decode cX6_joinAll 27 = .ok (.iconst 1, 1) := by decide +kernel
theorem dX6_joinAll_28 : decode cX6_joinAll 28 = .ok (.if_icmp .ne 59, 3) := by decide +kernel
theorem dX6_joinAll_31 : decode cX6_joinAll 31 = .ok (.aload_n 0, 1) := by decide +kernel
theorem dX6_joinAll_32 : decode cX6_joinAll 32 = .ok (.getfield 42, 3) := by decide +kernel
theorem dX6_joinAll_35 : decode cX6_joinAll 35 = .ok (.aload_n 0, 1) := by decide +kernel
theorem dX6_joinAll_36 : decode cX6_joinAll 36 = .ok (.getfield 56, 3) := by decide +kernel
theorem dX6_joinAll_39 : decode cX6_joinAll 39 = .ok (.getfield 84, 3) := by decide +kernel
theorem dX6_joinAll_42 : decode cX6_joinAll 42 = .ok (.iload_n 3, 1) := by decide +kernel
theorem dX6_joinAll_43 : decode cX6_joinAll 43 = .ok (.iaload, 1) := by decide +kernel
theorem dX6_joinAll_44 : decode cX6_joinAll 44 = .ok (.aload_n 0, 1) := by decide +kernel
theorem dX6_joinAll_45 : decode cX6_joinAll 45 = .ok (.getfield 56, 3) := by decide +kernel
theorem dX6_joinAll_48 : decode cX6_joinAll 48 = .ok (.getfield 87, 3) := by decide +kernel
theorem dX6_joinAll_51 : decode cX6_joinAll 51 = .ok (.iload_n 3, 1) := by decide +kernel
theorem dX6_joinAll_52 : decode cX6_joinAll 52 = .ok (.iaload, 1) := by decide +kernel
theorem dX6_joinAll_53 : decode cX6_joinAll 53 = .ok (.invokevirtual 90, 3) := by decide +kernel
theorem dX6_joinAll_56 : decode cX6_joinAll 56 = .ok (.ifCond .ne 31, 3) := by decide +kernel
theorem dX6_joinAll_59 : decode cX6_joinAll 59 = .ok (.aload_n 0, 1) := by decide +kernel
theorem dX6_joinAll_60 : decode cX6_joinAll 60 = .ok (.getfield 42, 3) := by decide +kernel
theorem dX6_joinAll_63 : decode cX6_joinAll 63 = .ok (.aload_n 0, 1) := by decide +kernel
theorem dX6_joinAll_64 : decode cX6_joinAll 64 = .ok (.getfield 56, 3) := by decide +kernel
theorem dX6_joinAll_67 : decode cX6_joinAll 67 = .ok (.getfield 84, 3) := by decide +kernel
theorem dX6_joinAll_70 : decode cX6_joinAll 70 = .ok (.iload_n 3, 1) := by decide +kernel
theorem dX6_joinAll_71 : decode cX6_joinAll 71 = .ok (.iaload, 1) := by decide +kernel
theorem dX6_joinAll_72 : decode cX6_joinAll 72 = .ok (.aload_n 0, 1) := by decide +kernel
theorem dX6_joinAll_73 : decode cX6_joinAll 73 = .ok (.getfield 56, 3) := by decide +kernel
theorem dX6_joinAll_76 : decode cX6_joinAll 76 = .ok (.getfield 87, 3) := by decide +kernel
theorem dX6_joinAll_79 : decode cX6_joinAll 79 = .ok (.iload_n 3, 1) := by decide +kernel
theorem dX6_joinAll_80 : decode cX6_joinAll 80 = .ok (.iaload, 1) := by decide +kernel
theorem dX6_joinAll_81 : decode cX6_joinAll 81 = .ok (.invokevirtual 102, 3) := by decide +kernel
theorem dX6_joinAll_84 : decode cX6_joinAll 84 = .ok (.iinc 2 1, 3) := by decide +kernel
theorem dX6_joinAll_87 : decode cX6_joinAll 87 = .ok (.iinc 3 1, 3) := by decide +kernel
theorem dX6_joinAll_90 : decode cX6_joinAll 90 = .ok (.goto (-79), 3) := by decide +kernel
theorem dX6_joinAll_93 : decode cX6_joinAll 93 = .ok (.iload_n 2, 1) := by decide +kernel
theorem dX6_joinAll_94 : decode cX6_joinAll 94 = .ok (.ireturn, 1) := by decide +kernel
theorem dX6_refresh_0 : decode cX6_refresh 0 = .ok (.aload_n 0, 1) := by decide +kernel
theorem dX6_refresh_1 : decode cX6_refresh 1 = .ok (.invokevirtual 106, 3) := by decide +kernel
theorem dX6_refresh_4 : decode cX6_refresh 4 = .ok (.istore_n 1, 1) := by decide +kernel
theorem dX6_refresh_5 : decode cX6_refresh 5 = .ok (.iconst 0, 1) := by decide +kernel
theorem dX6_refresh_6 : decode cX6_refresh 6 = .ok (.istore_n 2, 1) := by decide +kernel
theorem dX6_refresh_7 : decode cX6_refresh 7 = .ok (.iload_n 2, 1) := by decide +kernel
theorem dX6_refresh_8 : decode cX6_refresh 8 = .ok (.aload_n 0, 1) := by decide +kernel
theorem dX6_refresh_9 : decode cX6_refresh 9 = .ok (.getfield 60, 3) := by decide +kernel
theorem dX6_refresh_12 : decode cX6_refresh 12 = .ok (.getfield 109, 3) := by decide +kernel
theorem dX6_refresh_15 : decode cX6_refresh 15 = .ok (.if_icmp .ge 21, 3) := by decide +kernel
theorem dX6_refresh_18 : decode cX6_refresh 18 = .ok (.aload_n 0, 1) := by decide +kernel
theorem dX6_refresh_19 : decode cX6_refresh 19 = .ok (.getfield 9, 3) := by decide +kernel
theorem dX6_refresh_22 : decode cX6_refresh 22 = .ok (.iload_n 2, 1) := by decide +kernel
theorem dX6_refresh_23 : decode cX6_refresh 23 = .ok (.aload_n 0, 1) := by decide +kernel
theorem dX6_refresh_24 : decode cX6_refresh 24 = .ok (.iload_n 2, 1) := by decide +kernel
theorem dX6_refresh_25 : decode cX6_refresh 25 = .ok (.iload_n 1, 1) := by decide +kernel
theorem dX6_refresh_26 : decode cX6_refresh 26 = .ok (.invokevirtual 115, 3) := by decide +kernel
theorem dX6_refresh_29 : decode cX6_refresh 29 = .ok (.iastore, 1) := by decide +kernel
theorem dX6_refresh_30 : decode cX6_refresh 30 = .ok (.iinc 2 1, 3) := by decide +kernel
theorem dX6_refresh_33 : decode cX6_refresh 33 = .ok (.goto (-26), 3) := by decide +kernel
theorem dX6_refresh_36 : decode cX6_refresh 36 = .ok (.aload_n 0, 1) := by decide +kernel
theorem dX6_refresh_37 : decode cX6_refresh 37 = .ok (.getfield 22, 3) := by decide +kernel
theorem dX6_refresh_40 : decode cX6_refresh 40 = .ok (.invokevirtual 64, 3) := by decide +kernel
theorem dX6_refresh_43 : decode cX6_refresh 43 = .ok (.iconst 0, 1) := by decide +kernel
theorem dX6_refresh_44 : decode cX6_refresh 44 = .ok (.istore_n 2, 1) := by decide +kernel
theorem dX6_refresh_45 : decode cX6_refresh 45 = .ok (.iload_n 2, 1) := by decide +kernel
theorem dX6_refresh_46 : decode cX6_refresh 46 = .ok (.aload_n 0, 1) := by decide +kernel
theorem dX6_refresh_47 : decode cX6_refresh 47 = .ok (.getfield 60, 3) := by decide +kernel
theorem dX6_refresh_50 : decode cX6_refresh 50 = .ok (.getfield 109, 3) := by decide +kernel
theorem dX6_refresh_53 : decode cX6_refresh 53 = .ok (.if_icmp .ge 26, 3) := by decide +kernel
theorem dX6_refresh_56 : decode cX6_refresh 56 = .ok (.aload_n 0, 1) := by decide +kernel
theorem dX6_refresh_57 : decode cX6_refresh 57 = .ok (.getfield 22, 3) := by decide +kernel
theorem dX6_refresh_60 : decode cX6_refresh 60 = .ok (.aload_n 0, 1) := by decide +kernel
theorem dX6_refresh_61 : decode cX6_refresh 61 = .ok (.getfield 9, 3) := by decide +kernel
theorem dX6_refresh_64 : decode cX6_refresh 64 = .ok (.iload_n 2, 1) := by decide +kernel
theorem dX6_refresh_65 : decode cX6_refresh 65 = .ok (.iaload, 1) := by decide +kernel
theorem dX6_refresh_66 : decode cX6_refresh 66 = .ok (.aload_n 0, 1) := by decide +kernel
theorem dX6_refresh_67 : decode cX6_refresh 67 = .ok (.getfield 18, 3) := by decide +kernel
theorem dX6_refresh_70 : decode cX6_refresh 70 = .ok (.invokevirtual 119, 3) := by decide +kernel
theorem dX6_refresh_73 : decode cX6_refresh 73 = .ok (.iinc 2 1, 3) := by decide +kernel
theorem dX6_refresh_76 : decode cX6_refresh 76 = .ok (.goto (-31), 3) := by decide +kernel
theorem dX6_refresh_79 : decode cX6_refresh 79 = .ok (.aload_n 0, 1) := by decide +kernel
theorem dX6_refresh_80 : decode cX6_refresh 80 = .ok (.aload_n 0, 1) := by decide +kernel
theorem dX6_refresh_81 : decode cX6_refresh 81 = .ok (.getfield 22, 3) := by decide +kernel
theorem dX6_refresh_84 : decode cX6_refresh 84 = .ok (.invokevirtual 123, 3) := by decide +kernel
theorem dX6_refresh_87 : decode cX6_refresh 87 = .ok (.putfield 126, 3) := by decide +kernel
theorem dX6_refresh_90 : decode cX6_refresh 90 = .ok (.aload_n 0, 1) := by decide +kernel
theorem dX6_refresh_91 : decode cX6_refresh 91 = .ok (.aload_n 0, 1) := by decide +kernel
theorem dX6_refresh_92 : decode cX6_refresh 92 = .ok (.getfield 22, 3) := by decide +kernel
theorem dX6_refresh_95 : decode cX6_refresh 95 = .ok (.aload_n 0, 1) := by decide +kernel
theorem dX6_refresh_96 : decode cX6_refresh 96 = .ok (.getfield 126, 3) := by decide +kernel
theorem dX6_refresh_99 : decode cX6_refresh 99 = .ok (.invokevirtual 129, 3) := by decide +kernel
theorem dX6_refresh_102 : decode cX6_refresh 102 = .ok (.putfield 132, 3) := by decide +kernel
theorem dX6_refresh_105 : decode cX6_refresh 105 = .ok (.aload_n 0, 1) := by decide +kernel
theorem dX6_refresh_106 : decode cX6_refresh 106 = .ok (.aload_n 0, 1) := by decide +kernel
theorem dX6_refresh_107 : decode cX6_refresh 107 = .ok (.iload_n 1, 1) := by decide +kernel
theorem dX6_refresh_108 : decode cX6_refresh 108 = .ok (.invokevirtual 135, 3) := by decide +kernel
theorem dX6_refresh_111 : decode cX6_refresh 111 = .ok (.putfield 138, 3) := by decide +kernel
theorem dX6_refresh_114 : decode cX6_refresh 114 = .ok (.aload_n 0, 1) := by decide +kernel
theorem dX6_refresh_115 : decode cX6_refresh 115 = .ok (.aload_n 0, 1) := by decide +kernel
theorem dX6_refresh_116 : decode cX6_refresh 116 = .ok (.getfield 132, 3) := by decide +kernel
theorem dX6_refresh_119 : decode cX6_refresh 119 = .ok (.invokevirtual 135, 3) := by decide +kernel
theorem dX6_refresh_122 : decode cX6_refresh 122 = .ok (.pop, 1) := by decide +kernel
theorem dX6_refresh_123 : decode cX6_refresh 123 = .ok (.aload_n 0, 1) := by decide +kernel
theorem dX6_refresh_124 : decode cX6_refresh 124 = .ok (.iconst 0, 1) := by decide +kernel
theorem dX6_refresh_125 : decode cX6_refresh 125 = .ok (.putfield 141, 3) := by decide +kernel
theorem dX6_refresh_128 : decode cX6_refresh 128 = .ok (.aload_n 0, 1) := by decide +kernel
theorem dX6_refresh_129 : decode cX6_refresh 129 = .ok (.iconst 0, 1) := by decide +kernel
theorem dX6_refresh_130 : decode cX6_refresh 130 = .ok (.putfield 145, 3) := by decide +kernel
theorem dX6_refresh_133 : decode cX6_refresh 133 = .ok (.aload_n 0, 1) := by decide +kernel
theorem dX6_refresh_134 : decode cX6_refresh 134 = .ok (.iconst 0, 1) := by decide +kernel
theorem dX6_refresh_135 : decode cX6_refresh 135 = .ok (.putfield 148, 3) := by decide +kernel
theorem dX6_refresh_138 : decode cX6_refresh 138 = .ok (.aload_n 0, 1) := by decide +kernel
theorem dX6_refresh_139 : decode cX6_refresh 139 = .ok (.getfield 126, 3) := by decide +kernel
theorem dX6_refresh_142 : decode cX6_refresh 142 = .ok (.ireturn, 1) := by decide +kernel
theorem dX6_islandOf_0 : decode cX6_islandOf 0 = .ok (.iconst 0, 1) := by decide +kernel
theorem dX6_islandOf_1 : decode cX6_islandOf 1 = .ok (.istore_n 2, 1) := by decide +kernel
theorem dX6_islandOf_2 : decode cX6_islandOf 2 = .ok (.iconst 0, 1) := by decide +kernel
theorem dX6_islandOf_3 : decode cX6_islandOf 3 = .ok (.istore_n 3, 1) := by decide +kernel
theorem dX6_islandOf_4 : decode cX6_islandOf 4 = .ok (.iload_n 3, 1) := by decide +kernel
theorem dX6_islandOf_5 : decode cX6_islandOf 5 = .ok (.aload_n 0, 1) := by decide +kernel
theorem dX6_islandOf_6 : decode cX6_islandOf 6 = .ok (.getfield 56, 3) := by decide +kernel
theorem dX6_islandOf_9 : decode cX6_islandOf 9 = .ok (.getfield 170, 3) := by decide +kernel
theorem dX6_islandOf_12 : decode cX6_islandOf 12 = .ok (.if_icmp .ge 27, 3) := by decide +kernel
theorem dX6_islandOf_15 : decode cX6_islandOf 15 = .ok (.aload_n 0, 1) := by decide +kernel
theorem dX6_islandOf_16 : decode cX6_islandOf 16 = .ok (.getfield 42, 3) := by decide +kernel
theorem dX6_islandOf_19 : decode cX6_islandOf 19 = .ok (.iload_n 1, 1) := by decide +kernel
theorem dX6_islandOf_20 : decode cX6_islandOf 20 = .ok (.iload_n 3, 1) := by decide +kernel
theorem dX6_islandOf_21 : decode cX6_islandOf 21 = .ok (.invokevirtual 90, 3) := by decide +kernel
theorem dX6_islandOf_24 : decode cX6_islandOf 24 = .ok (.ifCond .eq 9, 3) := by decide +kernel
theorem dX6_islandOf_27 : decode cX6_islandOf 27 = .ok (.iload_n 2, 1) := by decide +kernel
theorem dX6_islandOf_28 : decode cX6_islandOf 28 = .ok (.iconst 1, 1) := by decide +kernel
theorem dX6_islandOf_29 : decode cX6_islandOf 29 = .ok (.iload_n 3, 1) := by decide +kernel
theorem dX6_islandOf_30 : decode cX6_islandOf 30 = .ok (.ishl, 1) := by decide +kernel
theorem dX6_islandOf_31 : decode cX6_islandOf 31 = .ok (.ior, 1) := by decide +kernel
theorem dX6_islandOf_32 : decode cX6_islandOf 32 = .ok (.istore_n 2, 1) := by decide +kernel
theorem dX6_islandOf_33 : decode cX6_islandOf 33 = .ok (.iinc 3 1, 3) := by decide +kernel
theorem dX6_islandOf_36 : decode cX6_islandOf 36 = .ok (.goto (-32), 3) := by decide +kernel
theorem dX6_islandOf_39 : decode cX6_islandOf 39 = .ok (.iload_n 2, 1) := by decide +kernel
theorem dX6_islandOf_40 : decode cX6_islandOf 40 = .ok (.ireturn, 1) := by decide +kernel
theorem dX6_learnServers_0 : decode cX6_learnServers 0 = .ok (.aload_n 0, 1) := by decide +kernel
theorem dX6_learnServers_1 : decode cX6_learnServers 1 = .ok (.getfield 141, 3) := by decide +kernel
theorem dX6_learnServers_4 : decode cX6_learnServers 4 = .ok (.ifCond .ne 30, 3) := by decide +kernel
theorem dX6_learnServers_7 : decode cX6_learnServers 7 = .ok (.aload_n 0, 1) := by decide +kernel
theorem dX6_learnServers_8 : decode cX6_learnServers 8 = .ok (.getfield 52, 3) := by decide +kernel
theorem dX6_learnServers_11 : decode cX6_learnServers 11 = .ok (.aload_n 0, 1) := by decide +kernel
theorem dX6_learnServers_12 : decode cX6_learnServers 12 = .ok (.getfield 132, 3) := by decide +kernel
theorem dX6_learnServers_15 : decode cX6_learnServers 15 = .ok (.aload_n 0, 1) := by decide +kernel
theorem dX6_learnServers_16 : decode cX6_learnServers 16 = .ok (.getfield 9, 3) := by decide +kernel
theorem dX6_learnServers_19 : decode cX6_learnServers 19 = .ok (.aload_n 0, 1) := by decide +kernel
theorem dX6_learnServers_20 : decode cX6_learnServers 20 = .ok (.getfield 60, 3) := by decide +kernel
theorem dX6_learnServers_23 : decode cX6_learnServers 23 = .ok (.invokevirtual 185, 3) := by decide +kernel
theorem dX6_learnServers_26 : decode cX6_learnServers 26 = .ok (.invokevirtual 188, 3) := by decide +kernel
theorem dX6_learnServers_29 : decode cX6_learnServers 29 = .ok (.aload_n 0, 1) := by decide +kernel
theorem dX6_learnServers_30 : decode cX6_learnServers 30 = .ok (.iconst 1, 1) := by decide +kernel
theorem dX6_learnServers_31 : decode cX6_learnServers 31 = .ok (.putfield 141, 3) := by decide +kernel
theorem dX6_learnServers_34 : decode cX6_learnServers 34 = .ok (.return_, 1) := by decide +kernel
theorem dX6_meterOf_0 : decode cX6_meterOf 0 = .ok (.aload_n 0, 1) := by decide +kernel
theorem dX6_meterOf_1 : decode cX6_meterOf 1 = .ok (.invokevirtual 173, 3) := by decide +kernel
theorem dX6_meterOf_4 : decode cX6_meterOf 4 = .ok (.aload_n 0, 1) := by decide +kernel
theorem dX6_meterOf_5 : decode cX6_meterOf 5 = .ok (.getfield 52, 3) := by decide +kernel
theorem dX6_meterOf_8 : decode cX6_meterOf 8 = .ok (.getfield 176, 3) := by decide +kernel
theorem dX6_meterOf_11 : decode cX6_meterOf 11 = .ok (.iload_n 1, 1) := by decide +kernel
theorem dX6_meterOf_12 : decode cX6_meterOf 12 = .ok (.iaload, 1) := by decide +kernel
theorem dX6_meterOf_13 : decode cX6_meterOf 13 = .ok (.ireturn, 1) := by decide +kernel
theorem dX6_lineOf_0 : decode cX6_lineOf 0 = .ok (.aload_n 0, 1) := by decide +kernel
theorem dX6_lineOf_1 : decode cX6_lineOf 1 = .ok (.invokevirtual 173, 3) := by decide +kernel
theorem dX6_lineOf_4 : decode cX6_lineOf 4 = .ok (.aload_n 0, 1) := by decide +kernel
theorem dX6_lineOf_5 : decode cX6_lineOf 5 = .ok (.getfield 52, 3) := by decide +kernel
theorem dX6_lineOf_8 : decode cX6_lineOf 8 = .ok (.getfield 179, 3) := by decide +kernel
theorem dX6_lineOf_11 : decode cX6_lineOf 11 = .ok (.iload_n 1, 1) := by decide +kernel
theorem dX6_lineOf_12 : decode cX6_lineOf 12 = .ok (.iaload, 1) := by decide +kernel
theorem dX6_lineOf_13 : decode cX6_lineOf 13 = .ok (.ireturn, 1) := by decide +kernel
theorem dX6_spares_0 : decode cX6_spares 0 = .ok (.aload_n 0, 1) := by decide +kernel
theorem dX6_spares_1 : decode cX6_spares 1 = .ok (.invokevirtual 173, 3) := by decide +kernel
theorem dX6_spares_4 : decode cX6_spares 4 = .ok (.aload_n 0, 1) := by decide +kernel
theorem dX6_spares_5 : decode cX6_spares 5 = .ok (.getfield 52, 3) := by decide +kernel
theorem dX6_spares_8 : decode cX6_spares 8 = .ok (.getfield 182, 3) := by decide +kernel
theorem dX6_spares_11 : decode cX6_spares 11 = .ok (.ireturn, 1) := by decide +kernel
theorem dX6_isCritical_0 : decode cX6_isCritical 0 = .ok (.aload_n 0, 1) := by decide +kernel
theorem dX6_isCritical_1 : decode cX6_isCritical 1 = .ok (.getfield 25, 3) := by decide +kernel
theorem dX6_isCritical_4 : decode cX6_isCritical 4 = .ok (.invokevirtual 64, 3) := by decide +kernel
theorem dX6_isCritical_7 : decode cX6_isCritical 7 = .ok (.iconst 0, 1) := by decide +kernel
theorem dX6_isCritical_8 : decode cX6_isCritical 8 = .ok (.istore_n 2, 1) := by decide +kernel
theorem dX6_isCritical_9 : decode cX6_isCritical 9 = .ok (.iload_n 2, 1) := by decide +kernel
theorem dX6_isCritical_10 : decode cX6_isCritical 10 = .ok (.aload_n 0, 1) := by decide +kernel
theorem dX6_isCritical_11 : decode cX6_isCritical 11 = .ok (.getfield 60, 3) := by decide +kernel
theorem dX6_isCritical_14 : decode cX6_isCritical 14 = .ok (.getfield 109, 3) := by decide +kernel
theorem dX6_isCritical_17 : decode cX6_isCritical 17 = .ok (.if_icmp .ge 31, 3) := by decide +kernel
theorem dX6_isCritical_20 : decode cX6_isCritical 20 = .ok (.iload_n 2, 1) := by decide +kernel
theorem dX6_isCritical_21 : decode cX6_isCritical 21 = .ok (.iload_n 1, 1) := by decide +kernel
theorem dX6_isCritical_22 : decode cX6_isCritical 22 = .ok (.if_icmp .eq 20, 3) := by decide +kernel
theorem dX6_isCritical_25 : decode cX6_isCritical 25 = .ok (.aload_n 0, 1) := by decide +kernel
theorem dX6_isCritical_26 : decode cX6_isCritical 26 = .ok (.getfield 25, 3) := by decide +kernel
theorem dX6_isCritical_29 : decode cX6_isCritical 29 = .ok (.aload_n 0, 1) := by decide +kernel
theorem dX6_isCritical_30 : decode cX6_isCritical 30 = .ok (.getfield 9, 3) := by decide +kernel
theorem dX6_isCritical_33 : decode cX6_isCritical 33 = .ok (.iload_n 2, 1) := by decide +kernel
theorem dX6_isCritical_34 : decode cX6_isCritical 34 = .ok (.iaload, 1) := by decide +kernel
theorem dX6_isCritical_35 : decode cX6_isCritical 35 = .ok (.aload_n 0, 1) := by decide +kernel
theorem dX6_isCritical_36 : decode cX6_isCritical 36 = .ok (.getfield 18, 3) := by decide +kernel
theorem dX6_isCritical_39 : decode cX6_isCritical 39 = .ok (.invokevirtual 119, 3) := by decide +kernel
theorem dX6_isCritical_42 : decode cX6_isCritical 42 = .ok (.iinc 2 1, 3) := by decide +kernel
theorem dX6_isCritical_45 : decode cX6_isCritical 45 = .ok (.goto (-36), 3) := by decide +kernel
theorem dX6_isCritical_48 : decode cX6_isCritical 48 = .ok (.aload_n 0, 1) := by decide +kernel
theorem dX6_isCritical_49 : decode cX6_isCritical 49 = .ok (.getfield 25, 3) := by decide +kernel
theorem dX6_isCritical_52 : decode cX6_isCritical 52 = .ok (.invokevirtual 123, 3) := by decide +kernel
theorem dX6_isCritical_55 : decode cX6_isCritical 55 = .ok (.aload_n 0, 1) := by decide +kernel
theorem dX6_isCritical_56 : decode cX6_isCritical 56 = .ok (.getfield 126, 3) := by decide +kernel
theorem dX6_isCritical_59 : decode cX6_isCritical 59 = .ok (.if_icmp .ge 7, 3) := by decide +kernel
theorem dX6_isCritical_62 : decode cX6_isCritical 62 = .ok (.iconst 1, 1) := by decide +kernel
theorem dX6_isCritical_63 : decode cX6_isCritical 63 = .ok (.goto 4, 3) := by decide +kernel
theorem dX6_isCritical_66 : decode cX6_isCritical 66 = .ok (.iconst 0, 1) := by decide +kernel
theorem dX6_isCritical_67 : decode cX6_isCritical 67 = .ok (.ireturn, 1) := by decide +kernel
theorem dX6_lossOf_0 : decode cX6_lossOf 0 = .ok (.aload_n 0, 1) := by decide +kernel
theorem dX6_lossOf_1 : decode cX6_lossOf 1 = .ok (.invokevirtual 106, 3) := by decide +kernel
theorem dX6_lossOf_4 : decode cX6_lossOf 4 = .ok (.iconst 1, 1) := by decide +kernel
theorem dX6_lossOf_5 : decode cX6_lossOf 5 = .ok (.iload_n 1, 1) := by decide +kernel
theorem dX6_lossOf_6 : decode cX6_lossOf 6 = .ok (.ishl, 1) := by decide +kernel
theorem dX6_lossOf_7 : decode cX6_lossOf 7 = .ok (.iconst (-1), 1) := by decide +kernel
theorem dX6_lossOf_8 : decode cX6_lossOf 8 = .ok (.ixor, 1) := by decide +kernel
theorem dX6_lossOf_9 : decode cX6_lossOf 9 = .ok (.iand, 1) := by decide +kernel
theorem dX6_lossOf_10 : decode cX6_lossOf 10 = .ok (.istore_n 2, 1) := by decide +kernel
theorem dX6_lossOf_11 : decode cX6_lossOf 11 = .ok (.aload_n 0, 1) := by decide +kernel
theorem dX6_lossOf_12 : decode cX6_lossOf 12 = .ok (.getfield 25, 3) := by decide +kernel
theorem dX6_lossOf_15 : decode cX6_lossOf 15 = .ok (.invokevirtual 64, 3) := by decide +kernel
theorem dX6_lossOf_18 : decode cX6_lossOf 18 = .ok (.iconst 0, 1) := by decide +kernel
theorem dX6_lossOf_19 : decode cX6_lossOf 19 = .ok (.istore_n 3, 1) := by decide +kernel
theorem dX6_lossOf_20 : decode cX6_lossOf 20 = .ok (.iload_n 3, 1) := by decide +kernel
theorem dX6_lossOf_21 : decode cX6_lossOf 21 = .ok (.aload_n 0, 1) := by decide +kernel
theorem dX6_lossOf_22 : decode cX6_lossOf 22 = .ok (.getfield 60, 3) := by decide +kernel
theorem dX6_lossOf_25 : decode cX6_lossOf 25 = .ok (.getfield 109, 3) := by decide +kernel
theorem dX6_lossOf_28 : decode cX6_lossOf 28 = .ok (.if_icmp .ge 26, 3) := by decide +kernel
theorem dX6_lossOf_31 : decode cX6_lossOf 31 = .ok (.aload_n 0, 1) := by decide +kernel
theorem dX6_lossOf_32 : decode cX6_lossOf 32 = .ok (.getfield 25, 3) := by decide +kernel
theorem dX6_lossOf_35 : decode cX6_lossOf 35 = .ok (.aload_n 0, 1) := by decide +kernel
theorem dX6_lossOf_36 : decode cX6_lossOf 36 = .ok (.iload_n 3, 1) := by decide +kernel
theorem dX6_lossOf_37 : decode cX6_lossOf 37 = .ok (.iload_n 2, 1) := by decide +kernel
theorem dX6_lossOf_38 : decode cX6_lossOf 38 = .ok (.invokevirtual 115, 3) := by decide +kernel
theorem dX6_lossOf_41 : decode cX6_lossOf 41 = .ok (.aload_n 0, 1) := by decide +kernel
theorem dX6_lossOf_42 : decode cX6_lossOf 42 = .ok (.getfield 18, 3) := by decide +kernel
theorem dX6_lossOf_45 : decode cX6_lossOf 45 = .ok (.invokevirtual 119, 3) := by decide +kernel
theorem dX6_lossOf_48 : decode cX6_lossOf 48 = .ok (.iinc 3 1, 3) := by decide +kernel
theorem dX6_lossOf_51 : decode cX6_lossOf 51 = .ok (.goto (-31), 3) := by decide +kernel
theorem dX6_lossOf_54 : decode cX6_lossOf 54 = .ok (.aload_n 0, 1) := by decide +kernel
theorem dX6_lossOf_55 : decode cX6_lossOf 55 = .ok (.getfield 126, 3) := by decide +kernel
theorem dX6_lossOf_58 : decode cX6_lossOf 58 = .ok (.aload_n 0, 1) := by decide +kernel
theorem dX6_lossOf_59 : decode cX6_lossOf 59 = .ok (.getfield 25, 3) := by decide +kernel
theorem dX6_lossOf_62 : decode cX6_lossOf 62 = .ok (.invokevirtual 123, 3) := by decide +kernel
theorem dX6_lossOf_65 : decode cX6_lossOf 65 = .ok (.isub, 1) := by decide +kernel
theorem dX6_lossOf_66 : decode cX6_lossOf 66 = .ok (.ireturn, 1) := by decide +kernel
theorem dX6_gain_0 : decode cX6_gain 0 = .ok (.aload_n 0, 1) := by decide +kernel
theorem dX6_gain_1 : decode cX6_gain 1 = .ok (.getfield 25, 3) := by decide +kernel
theorem dX6_gain_4 : decode cX6_gain 4 = .ok (.aload_n 0, 1) := by decide +kernel
theorem dX6_gain_5 : decode cX6_gain 5 = .ok (.getfield 22, 3) := by decide +kernel
theorem dX6_gain_8 : decode cX6_gain 8 = .ok (.invokevirtual 192, 3) := by decide +kernel
theorem dX6_gain_11 : decode cX6_gain 11 = .ok (.aload_n 0, 1) := by decide +kernel
theorem dX6_gain_12 : decode cX6_gain 12 = .ok (.getfield 25, 3) := by decide +kernel
theorem dX6_gain_15 : decode cX6_gain 15 = .ok (.aload_n 0, 1) := by decide +kernel
theorem dX6_gain_16 : decode cX6_gain 16 = .ok (.getfield 56, 3) := by decide +kernel
theorem dX6_gain_19 : decode cX6_gain 19 = .ok (.iload_n 1, 1) := by decide +kernel
theorem dX6_gain_20 : decode cX6_gain 20 = .ok (.iload_n 2, 1) := by decide +kernel
theorem dX6_gain_21 : decode cX6_gain 21 = .ok (.aload_n 0, 1) := by decide +kernel
theorem dX6_gain_22 : decode cX6_gain 22 = .ok (.invokevirtual 106, 3) := by decide +kernel
theorem dX6_gain_25 : decode cX6_gain 25 = .ok (.invokevirtual 163, 3) := by decide +kernel
theorem dX6_gain_28 : decode cX6_gain 28 = .ok (.aload_n 0, 1) := by decide +kernel
theorem dX6_gain_29 : decode cX6_gain 29 = .ok (.getfield 18, 3) := by decide +kernel
theorem dX6_gain_32 : decode cX6_gain 32 = .ok (.invokevirtual 119, 3) := by decide +kernel
theorem dX6_gain_35 : decode cX6_gain 35 = .ok (.aload_n 0, 1) := by decide +kernel
theorem dX6_gain_36 : decode cX6_gain 36 = .ok (.getfield 25, 3) := by decide +kernel
theorem dX6_gain_39 : decode cX6_gain 39 = .ok (.invokevirtual 123, 3) := by decide +kernel
theorem dX6_gain_42 : decode cX6_gain 42 = .ok (.aload_n 0, 1) := by decide +kernel
theorem dX6_gain_43 : decode cX6_gain 43 = .ok (.getfield 126, 3) := by decide +kernel
theorem dX6_gain_46 : decode cX6_gain 46 = .ok (.isub, 1) := by decide +kernel
theorem dX6_gain_47 : decode cX6_gain 47 = .ok (.ireturn, 1) := by decide +kernel
theorem dX6_findWeak_0 : decode cX6_findWeak 0 = .ok (.aload_n 0, 1) := by decide +kernel
theorem dX6_findWeak_1 : decode cX6_findWeak 1 = .ok (.getfield 126, 3) := by decide +kernel
theorem dX6_findWeak_4 : decode cX6_findWeak 4 = .ok (.ifCond .ne 5, 3) := by decide +kernel
theorem dX6_findWeak_7 : decode cX6_findWeak 7 = .ok (.iconst (-1), 1) := by decide +kernel
theorem dX6_findWeak_8 : decode cX6_findWeak 8 = .ok (.ireturn, 1) := by decide +kernel
theorem dX6_findWeak_9 : decode cX6_findWeak 9 = .ok (.aload_n 0, 1) := by decide +kernel
theorem dX6_findWeak_10 : decode cX6_findWeak 10 = .ok (.getfield 25, 3) := by decide +kernel
theorem dX6_findWeak_13 : decode cX6_findWeak 13 = .ok (.invokevirtual 64, 3) := by decide +kernel
theorem dX6_findWeak_16 : decode cX6_findWeak 16 = .ok (.aload_n 0, 1) := by decide +kernel
theorem dX6_findWeak_17 : decode cX6_findWeak 17 = .ok (.getfield 31, 3) := by decide +kernel
theorem dX6_findWeak_20 : decode cX6_findWeak 20 = .ok (.aload_n 0, 1) := by decide +kernel
theorem dX6_findWeak_21 : decode cX6_findWeak 21 = .ok (.getfield 25, 3) := by decide +kernel
theorem dX6_findWeak_24 : decode cX6_findWeak 24 = .ok (.aload_n 0, 1) := by decide +kernel
theorem dX6_findWeak_25 : decode cX6_findWeak 25 = .ok (.getfield 9, 3) := by decide +kernel
theorem dX6_findWeak_28 : decode cX6_findWeak 28 = .ok (.aload_n 0, 1) := by decide +kernel
theorem dX6_findWeak_29 : decode cX6_findWeak 29 = .ok (.getfield 60, 3) := by decide +kernel
theorem dX6_findWeak_32 : decode cX6_findWeak 32 = .ok (.getfield 109, 3) := by decide +kernel
theorem dX6_findWeak_35 : decode cX6_findWeak 35 = .ok (.aload_n 0, 1) := by decide +kernel
theorem dX6_findWeak_36 : decode cX6_findWeak 36 = .ok (.getfield 18, 3) := by decide +kernel
theorem dX6_findWeak_39 : decode cX6_findWeak 39 = .ok (.invokevirtual 201, 3) := by decide +kernel
theorem dX6_findWeak_42 : decode cX6_findWeak 42 = .ok (.aload_n 0, 1) := by decide +kernel
theorem dX6_findWeak_43 : decode cX6_findWeak 43 = .ok (.getfield 60, 3) := by decide +kernel
theorem dX6_findWeak_46 : decode cX6_findWeak 46 = .ok (.invokevirtual 185, 3) := by decide +kernel
theorem dX6_findWeak_49 : decode cX6_findWeak 49 = .ok (.istore_n 1, 1) := by decide +kernel
theorem dX6_findWeak_50 : decode cX6_findWeak 50 = .ok (.iload_n 1, 1) := by decide +kernel
theorem dX6_findWeak_51 : decode cX6_findWeak 51 = .ok (.istore_n 2, 1) := by decide +kernel
theorem dX6_findWeak_52 : decode cX6_findWeak 52 = .ok (.iconst 1, 1) := by decide +kernel
theorem dX6_findWeak_53 : decode cX6_findWeak 53 = .ok (.istore_n 3, 1) := by decide +kernel
theorem dX6_findWeak_54 : decode cX6_findWeak 54 = .ok (.iload_n 3, 1) := by decide +kernel
theorem dX6_findWeak_55 : decode cX6_findWeak 55 = .ok (.iload_n 1, 1) := by decide +kernel
theorem dX6_findWeak_56 : decode cX6_findWeak 56 = .ok (.if_icmp .ge 50, 3) := by decide +kernel
theorem dX6_findWeak_59 : decode cX6_findWeak 59 = .ok (.iload_n 3, 1) := by decide +kernel
theorem dX6_findWeak_60 : decode cX6_findWeak 60 = .ok (.iload_n 1, 1) := by decide +kernel
theorem dX6_findWeak_61 : decode cX6_findWeak 61 = .ok (.iconst (-1), 1) := by decide +kernel
theorem dX6_findWeak_62 : decode cX6_findWeak 62 = .ok (.ixor, 1) := by decide +kernel
theorem dX6_findWeak_63 : decode cX6_findWeak 63 = .ok (.iand, 1) := by decide +kernel
theorem dX6_findWeak_64 : decode cX6_findWeak 64 = .ok (.ifCond .ne 36, 3) := by decide +kernel
theorem dX6_findWeak_67 : decode cX6_findWeak 67 = .ok (.aload_n 0, 1) := by decide +kernel
theorem dX6_findWeak_68 : decode cX6_findWeak 68 = .ok (.getfield 31, 3) := by decide +kernel
theorem dX6_findWeak_71 : decode cX6_findWeak 71 = .ok (.getfield 205, 3) := by decide +kernel
theorem dX6_findWeak_74 : decode cX6_findWeak 74 = .ok (.iload_n 1, 1) := by decide +kernel
theorem dX6_findWeak_75 : decode cX6_findWeak 75 = .ok (.iload_n 3, 1) := by decide +kernel
theorem dX6_findWeak_76 : decode cX6_findWeak 76 = .ok (.iconst (-1), 1) := by decide +kernel
theorem dX6_findWeak_77 : decode cX6_findWeak 77 = .ok (.ixor, 1) := by decide +kernel
theorem dX6_findWeak_78 : decode cX6_findWeak 78 = .ok (.iand, 1) := by decide +kernel
theorem dX6_findWeak_79 : decode cX6_findWeak 79 = .ok (.iaload, 1) := by decide +kernel
theorem dX6_findWeak_80 : decode cX6_findWeak 80 = .ok (.aload_n 0, 1) := by decide +kernel
theorem dX6_findWeak_81 : decode cX6_findWeak 81 = .ok (.getfield 126, 3) := by decide +kernel
theorem dX6_findWeak_84 : decode cX6_findWeak 84 = .ok (.if_icmp .ge 16, 3) := by decide +kernel
theorem dX6_findWeak_87 : decode cX6_findWeak 87 = .ok (.iload_n 3, 1) := by decide +kernel
theorem dX6_findWeak_88 : decode cX6_findWeak 88 = .ok (.invokestatic 208, 3) := by decide +kernel
theorem dX6_findWeak_91 : decode cX6_findWeak 91 = .ok (.iload_n 2, 1) := by decide +kernel
theorem dX6_findWeak_92 : decode cX6_findWeak 92 = .ok (.invokestatic 208, 3) := by decide +kernel
theorem dX6_findWeak_95 : decode cX6_findWeak 95 = .ok (.if_icmp .ge 5, 3) := by decide +kernel
theorem dX6_findWeak_98 : decode cX6_findWeak 98 = .ok (.iload_n 3, 1) := by decide +kernel
theorem dX6_findWeak_99 : decode cX6_findWeak 99 = .ok (.istore_n 2, 1) := by decide +kernel
theorem dX6_findWeak_100 : decode cX6_findWeak 100 = .ok (.iinc 3 1, 3) := by decide +kernel
theorem dX6_findWeak_103 : decode cX6_findWeak 103 = .ok (.goto (-49), 3) := by decide +kernel
theorem dX6_findWeak_106 : decode cX6_findWeak 106 = .ok (.iload_n 2, 1) := by decide +kernel
theorem dX6_findWeak_107 : decode cX6_findWeak 107 = .ok (.ireturn, 1) := by decide +kernel
theorem dX6_weakSet_0 : decode cX6_weakSet 0 = .ok (.aload_n 0, 1) := by decide +kernel
theorem dX6_weakSet_1 : decode cX6_weakSet 1 = .ok (.getfield 145, 3) := by decide +kernel
theorem dX6_weakSet_4 : decode cX6_weakSet 4 = .ok (.ifCond .ne 16, 3) := by decide +kernel
theorem dX6_weakSet_7 : decode cX6_weakSet 7 = .ok (.aload_n 0, 1) := by decide +kernel
theorem dX6_weakSet_8 : decode cX6_weakSet 8 = .ok (.aload_n 0, 1) := by decide +kernel
theorem dX6_weakSet_9 : decode cX6_weakSet 9 = .ok (.invokevirtual 195, 3) := by decide +kernel
theorem dX6_weakSet_12 : decode cX6_weakSet 12 = .ok (.putfield 198, 3) := by decide +kernel
theorem dX6_weakSet_15 : decode cX6_weakSet 15 = .ok (.aload_n 0, 1) := by decide +kernel
theorem dX6_weakSet_16 : decode cX6_weakSet 16 = .ok (.iconst 1, 1) := by decide +kernel
theorem dX6_weakSet_17 : decode cX6_weakSet 17 = .ok (.putfield 145, 3) := by decide +kernel
theorem dX6_weakSet_20 : decode cX6_weakSet 20 = .ok (.aload_n 0, 1) := by decide +kernel
theorem dX6_weakSet_21 : decode cX6_weakSet 21 = .ok (.getfield 198, 3) := by decide +kernel
theorem dX6_weakSet_24 : decode cX6_weakSet 24 = .ok (.ireturn, 1) := by decide +kernel
theorem dX6_isBetterDeal_0 : decode cX6_isBetterDeal 0 = .ok (.aload_n 0, 1) := by decide +kernel
theorem dX6_isBetterDeal_1 : decode cX6_isBetterDeal 1 = .ok (.getfield 56, 3) := by decide +kernel
theorem dX6_isBetterDeal_4 : decode cX6_isBetterDeal 4 = .ok (.iload_n 1, 1) := by decide +kernel
theorem dX6_isBetterDeal_5 : decode cX6_isBetterDeal 5 = .ok (.invokevirtual 231, 3) := by decide +kernel
theorem dX6_isBetterDeal_8 : decode cX6_isBetterDeal 8 = .ok (.aload_n 0, 1) := by decide +kernel
theorem dX6_isBetterDeal_9 : decode cX6_isBetterDeal 9 = .ok (.getfield 56, 3) := by decide +kernel
theorem dX6_isBetterDeal_12 : decode cX6_isBetterDeal 12 = .ok (.iload_n 2, 1) := by decide +kernel
theorem dX6_isBetterDeal_13 : decode cX6_isBetterDeal 13 = .ok (.invokevirtual 231, 3) := by decide +kernel
theorem dX6_isBetterDeal_16 : decode cX6_isBetterDeal 16 = .ok (.isub, 1) := by decide +kernel
theorem dX6_isBetterDeal_17 : decode cX6_isBetterDeal 17 = .ok (.istore_n 3, 1) := by decide +kernel
theorem dX6_isBetterDeal_18 : decode cX6_isBetterDeal 18 = .ok (.iload_n 3, 1) := by decide +kernel
theorem dX6_isBetterDeal_19 : decode cX6_isBetterDeal 19 = .ok (.ifCond .lt 18, 3) := by decide +kernel
theorem dX6_isBetterDeal_22 : decode cX6_isBetterDeal 22 = .ok (.iload_n 3, 1) := by decide +kernel
theorem dX6_isBetterDeal_23 : decode cX6_isBetterDeal 23 = .ok (.ifCond .ne 18, 3) := by decide +kernel
theorem dX6_isBetterDeal_26 : decode cX6_isBetterDeal 26 = .ok (.iload_n 1, 1) := by decide +kernel
theorem dX6_isBetterDeal_27 : decode cX6_isBetterDeal 27 = .ok (.invokestatic 208, 3) := by decide +kernel
theorem dX6_isBetterDeal_30 : decode cX6_isBetterDeal 30 = .ok (.iload_n 2, 1) := by decide +kernel
theorem dX6_isBetterDeal_31 : decode cX6_isBetterDeal 31 = .ok (.invokestatic 208, 3) := by decide +kernel
theorem dX6_isBetterDeal_34 : decode cX6_isBetterDeal 34 = .ok (.if_icmp .ge 7, 3) := by decide +kernel
theorem dX6_isBetterDeal_37 : decode cX6_isBetterDeal 37 = .ok (.iconst 1, 1) := by decide +kernel
theorem dX6_isBetterDeal_38 : decode cX6_isBetterDeal 38 = .ok (.goto 4, 3) := by decide +kernel
theorem dX6_isBetterDeal_41 : decode cX6_isBetterDeal 41 = .ok (.iconst 0, 1) := by decide +kernel
theorem dX6_isBetterDeal_42 : decode cX6_isBetterDeal 42 = .ok (.ireturn, 1) := by decide +kernel
theorem dX6_findDeal_0 : decode cX6_findDeal 0 = .ok (.iconst 0, 1) := by decide +kernel
theorem dX6_findDeal_1 : decode cX6_findDeal 1 = .ok (.istore_n 1, 1) := by decide +kernel
theorem dX6_findDeal_2 : decode cX6_findDeal 2 = .ok (.iload_n 1, 1) := by decide +kernel
theorem dX6_findDeal_3 : decode cX6_findDeal 3 = .ok (.aload_n 0, 1) := by decide +kernel
theorem dX6_findDeal_4 : decode cX6_findDeal 4 = .ok (.getfield 56, 3) := by decide +kernel
theorem dX6_findDeal_7 : decode cX6_findDeal 7 = .ok (.getfield 219, 3) := by decide +kernel
theorem dX6_findDeal_10 : decode cX6_findDeal 10 = .ok (.if_icmp .ge 44, 3) := by decide +kernel
theorem dX6_findDeal_13 : decode cX6_findDeal 13 = .ok (.aload_n 0, 1) := by decide +kernel
theorem dX6_findDeal_14 : decode cX6_findDeal 14 = .ok (.getfield 46, 3) := by decide +kernel
theorem dX6_findDeal_17 : decode cX6_findDeal 17 = .ok (.iload_n 1, 1) := by decide +kernel
theorem dX6_findDeal_18 : decode cX6_findDeal 18 = .ok (.aload_n 0, 1) := by decide +kernel
theorem dX6_findDeal_19 : decode cX6_findDeal 19 = .ok (.getfield 56, 3) := by decide +kernel
theorem dX6_findDeal_22 : decode cX6_findDeal 22 = .ok (.aload_n 0, 1) := by decide +kernel
theorem dX6_findDeal_23 : decode cX6_findDeal 23 = .ok (.getfield 56, 3) := by decide +kernel
theorem dX6_findDeal_26 : decode cX6_findDeal 26 = .ok (.getfield 222, 3) := by decide +kernel
theorem dX6_findDeal_29 : decode cX6_findDeal 29 = .ok (.iload_n 1, 1) := by decide +kernel
theorem dX6_findDeal_30 : decode cX6_findDeal 30 = .ok (.iaload, 1) := by decide +kernel
theorem dX6_findDeal_31 : decode cX6_findDeal 31 = .ok (.aload_n 0, 1) := by decide +kernel
theorem dX6_findDeal_32 : decode cX6_findDeal 32 = .ok (.getfield 56, 3) := by decide +kernel
theorem dX6_findDeal_35 : decode cX6_findDeal 35 = .ok (.getfield 225, 3) := by decide +kernel
theorem dX6_findDeal_38 : decode cX6_findDeal 38 = .ok (.iload_n 1, 1) := by decide +kernel
theorem dX6_findDeal_39 : decode cX6_findDeal 39 = .ok (.iaload, 1) := by decide +kernel
theorem dX6_findDeal_40 : decode cX6_findDeal 40 = .ok (.aload_n 0, 1) := by decide +kernel
theorem dX6_findDeal_41 : decode cX6_findDeal 41 = .ok (.invokevirtual 106, 3) := by decide +kernel
theorem dX6_findDeal_44 : decode cX6_findDeal 44 = .ok (.invokevirtual 163, 3) := by decide +kernel
theorem dX6_findDeal_47 : decode cX6_findDeal 47 = .ok (.iastore, 1) := by decide +kernel
theorem dX6_findDeal_48 : decode cX6_findDeal 48 = .ok (.iinc 1 1, 3) := by decide +kernel
theorem dX6_findDeal_51 : decode cX6_findDeal 51 = .ok (.goto (-49), 3) := by decide +kernel
theorem dX6_findDeal_54 : decode cX6_findDeal 54 = .ok (.aload_n 0, 1) := by decide +kernel
theorem dX6_findDeal_55 : decode cX6_findDeal 55 = .ok (.getfield 31, 3) := by decide +kernel
theorem dX6_findDeal_58 : decode cX6_findDeal 58 = .ok (.aload_n 0, 1) := by decide +kernel
theorem dX6_findDeal_59 : decode cX6_findDeal 59 = .ok (.getfield 22, 3) := by decide +kernel
theorem dX6_findDeal_62 : decode cX6_findDeal 62 = .ok (.aload_n 0, 1) := by decide +kernel
theorem dX6_findDeal_63 : decode cX6_findDeal 63 = .ok (.getfield 46, 3) := by decide +kernel
theorem dX6_findDeal_66 : decode cX6_findDeal 66 = .ok (.aload_n 0, 1) := by decide +kernel
theorem dX6_findDeal_67 : decode cX6_findDeal 67 = .ok (.getfield 56, 3) := by decide +kernel
theorem dX6_findDeal_70 : decode cX6_findDeal 70 = .ok (.getfield 219, 3) := by decide +kernel
theorem dX6_findDeal_73 : decode cX6_findDeal 73 = .ok (.aload_n 0, 1) := by decide +kernel
theorem dX6_findDeal_74 : decode cX6_findDeal 74 = .ok (.getfield 18, 3) := by decide +kernel
theorem dX6_findDeal_77 : decode cX6_findDeal 77 = .ok (.invokevirtual 201, 3) := by decide +kernel
theorem dX6_findDeal_80 : decode cX6_findDeal 80 = .ok (.iconst (-1), 1) := by decide +kernel
theorem dX6_findDeal_81 : decode cX6_findDeal 81 = .ok (.istore_n 1, 1) := by decide +kernel
theorem dX6_findDeal_82 : decode cX6_findDeal 82 = .ok (.iconst 0, 1) := by decide +kernel
theorem dX6_findDeal_83 : decode cX6_findDeal 83 = .ok (.istore_n 2, 1) := by decide +kernel
theorem dX6_findDeal_84 : decode cX6_findDeal 84 = .ok (.iload_n 2, 1) := by decide +kernel
theorem dX6_findDeal_85 : decode cX6_findDeal 85 = .ok (.iconst 1, 1) := by decide +kernel
theorem dX6_findDeal_86 : decode cX6_findDeal 86 = .ok (.aload_n 0, 1) := by decide +kernel
theorem dX6_findDeal_87 : decode cX6_findDeal 87 = .ok (.getfield 56, 3) := by decide +kernel
theorem dX6_findDeal_90 : decode cX6_findDeal 90 = .ok (.getfield 219, 3) := by decide +kernel
theorem dX6_findDeal_93 : decode cX6_findDeal 93 = .ok (.ishl, 1) := by decide +kernel
theorem dX6_findDeal_94 : decode cX6_findDeal 94 = .ok (.if_icmp .ge 41, 3) := by decide +kernel
theorem dX6_findDeal_97 : decode cX6_findDeal 97 = .ok (.aload_n 0, 1) := by decide +kernel
theorem dX6_findDeal_98 : decode cX6_findDeal 98 = .ok (.getfield 31, 3) := by decide +kernel
theorem dX6_findDeal_101 : decode cX6_findDeal 101 = .ok (.getfield 205, 3) := by decide +kernel
theorem dX6_findDeal_104 : decode cX6_findDeal 104 = .ok (.iload_n 2, 1) := by decide +kernel
theorem dX6_findDeal_105 : decode cX6_findDeal 105 = .ok (.iaload, 1) := by decide +kernel
theorem dX6_findDeal_106 : decode cX6_findDeal 106 = .ok (.aload_n 0, 1) := by decide +kernel
theorem dX6_findDeal_107 : decode cX6_findDeal 107 = .ok (.getfield 138, 3) := by decide +kernel
theorem dX6_findDeal_110 : decode cX6_findDeal 110 = .ok (.if_icmp .ne 19, 3) := by decide +kernel
theorem dX6_findDeal_113 : decode cX6_findDeal 113 = .ok (.iload_n 1, 1) := by decide +kernel
theorem dX6_findDeal_114 : decode cX6_findDeal 114 = .ok (.iconst (-1), 1) := by decide +kernel
theorem dX6_findDeal_115 : decode cX6_findDeal 115 = .ok (.if_icmp .eq 12, 3) := by decide +kernel
theorem dX6_findDeal_118 : decode cX6_findDeal 118 = .ok (.aload_n 0, 1) := by decide +kernel
theorem dX6_findDeal_119 : decode cX6_findDeal 119 = .ok (.iload_n 2, 1) := by decide +kernel
theorem dX6_findDeal_120 : decode cX6_findDeal 120 = .ok (.iload_n 1, 1) := by decide +kernel
theorem dX6_findDeal_121 : decode cX6_findDeal 121 = .ok (.invokevirtual 228, 3) := by decide +kernel
theorem dX6_findDeal_124 : decode cX6_findDeal 124 = .ok (.ifCond .eq 5, 3) := by decide +kernel
theorem dX6_findDeal_127 : decode cX6_findDeal 127 = .ok (.iload_n 2, 1) := by decide +kernel
theorem dX6_findDeal_128 : decode cX6_findDeal 128 = .ok (.istore_n 1, 1) := by decide +kernel
theorem dX6_findDeal_129 : decode cX6_findDeal 129 = .ok (.iinc 2 1, 3) := by decide +kernel
theorem dX6_findDeal_132 : decode cX6_findDeal 132 = .ok (.goto (-48), 3) := by decide +kernel
theorem dX6_findDeal_135 : decode cX6_findDeal 135 = .ok (.iload_n 1, 1) := by decide +kernel
theorem dX6_findDeal_136 : decode cX6_findDeal 136 = .ok (.ireturn, 1) := by decide +kernel
theorem dX6_dealSet_0 : decode cX6_dealSet 0 = .ok (.aload_n 0, 1) := by decide +kernel
theorem dX6_dealSet_1 : decode cX6_dealSet 1 = .ok (.getfield 148, 3) := by decide +kernel
theorem dX6_dealSet_4 : decode cX6_dealSet 4 = .ok (.ifCond .ne 16, 3) := by decide +kernel
theorem dX6_dealSet_7 : decode cX6_dealSet 7 = .ok (.aload_n 0, 1) := by decide +kernel
theorem dX6_dealSet_8 : decode cX6_dealSet 8 = .ok (.aload_n 0, 1) := by decide +kernel
theorem dX6_dealSet_9 : decode cX6_dealSet 9 = .ok (.invokevirtual 213, 3) := by decide +kernel
theorem dX6_dealSet_12 : decode cX6_dealSet 12 = .ok (.putfield 216, 3) := by decide +kernel
theorem dX6_dealSet_15 : decode cX6_dealSet 15 = .ok (.aload_n 0, 1) := by decide +kernel
theorem dX6_dealSet_16 : decode cX6_dealSet 16 = .ok (.iconst 1, 1) := by decide +kernel
theorem dX6_dealSet_17 : decode cX6_dealSet 17 = .ok (.putfield 148, 3) := by decide +kernel
theorem dX6_dealSet_20 : decode cX6_dealSet 20 = .ok (.aload_n 0, 1) := by decide +kernel
theorem dX6_dealSet_21 : decode cX6_dealSet 21 = .ok (.getfield 216, 3) := by decide +kernel
theorem dX6_dealSet_24 : decode cX6_dealSet 24 = .ok (.ireturn, 1) := by decide +kernel
theorem kfX6_18 : ux_FL RX6 18 6 6 := ⟨RX6, TX6, 19, rfl, lay_X6, by decide, tw_332⟩
theorem kvX6_64 : ux_LV RX6 64 0 yX0_startWithEmptySet cX0_startWithEmptySet 2 none 0 := ⟨⟨TX0, 2, rfl⟩, tw_425, tw_426, tw_427, tw_78, tw_428, ⟨by decide, by decide, by decide +kernel⟩⟩
theorem kfX6_37 : ux_FL RX6 37 6 10 := ⟨RX6, TX6, 19, rfl, lay_X6, by decide, tw_336⟩
theorem kvX6_67 : ux_LV RX6 67 2 yX2_separate cX2_separate 2 none 0 := ⟨⟨TX2, 1, rfl⟩, tw_429, tw_430, tw_431, tw_80, tw_432, ⟨by decide, by decide, by decide +kernel⟩⟩
theorem kfX6_56 : ux_FL RX6 56 6 4 := ⟨RX6, TX6, 19, rfl, lay_X6, by decide, tw_330⟩
theorem kvX6_70 : ux_LV RX6 70 3 yX3_allLines cX3_allLines 1 (some .int) 0 := ⟨⟨TX3, 11, rfl⟩, tw_433, tw_434, tw_435, tw_73, tw_436, ⟨by decide, by decide, by decide +kernel⟩⟩
theorem knX6_76 : ux_LSN RX6 76 "MeterDesk" yX11_lowest cX11_lowest 1 (some .int) 1 := ⟨by decide, tw_438, tw_72, tw_439, ⟨by decide, by decide, by decide +kernel⟩⟩
theorem kvX6_80 : ux_LV RX6 80 0 yX0_holds cX0_holds 3 (some .boolean) 1 := ⟨⟨TX0, 2, rfl⟩, tw_446, tw_447, tw_448, tw_78, tw_449, ⟨by decide, by decide, by decide +kernel⟩⟩
theorem kfX6_84 : ux_FL RX6 84 3 4 := ⟨RX3, TX3, 11, rfl, lay_X3, by decide, tw_123⟩
theorem kfX6_87 : ux_FL RX6 87 3 5 := ⟨RX3, TX3, 11, rfl, lay_X3, by decide, tw_126⟩
theorem kvX6_90 : ux_LV RX6 90 2 yX2_areOne cX2_areOne 3 (some .boolean) 2 := ⟨⟨TX2, 1, rfl⟩, tw_450, tw_451, tw_452, tw_80, tw_453, ⟨by decide, by decide, by decide +kernel⟩⟩
theorem kvX6_94 : ux_LV RX6 94 0 yX0_include cX0_include 3 none 1 := ⟨⟨TX0, 2, rfl⟩, tw_454, tw_455, tw_456, tw_78, tw_457, ⟨by decide, by decide, by decide +kernel⟩⟩
theorem kvX6_98 : ux_LV RX6 98 2 yX2_copyFrom cX2_copyFrom 2 none 1 := ⟨⟨TX2, 1, rfl⟩, tw_458, tw_459, tw_460, tw_80, tw_461, ⟨by decide, by decide, by decide +kernel⟩⟩
theorem kvX6_102 : ux_LV RX6 102 2 yX2_join cX2_join 5 none 2 := ⟨⟨TX2, 1, rfl⟩, tw_465, tw_466, tw_467, tw_80, tw_468, ⟨by decide, by decide, by decide +kernel⟩⟩
theorem kfX6_60 : ux_FL RX6 60 6 5 := ⟨RX6, TX6, 19, rfl, lay_X6, by decide, tw_331⟩
theorem kfX6_151 : ux_FL RX6 151 8 2 := ⟨RX8, TX8, 5, rfl, lay_X8, by decide, tw_214⟩
theorem kfX6_154 : ux_FL RX6 154 8 1 := ⟨RX8, TX8, 5, rfl, lay_X8, by decide, tw_210⟩
theorem kfX6_157 : ux_FL RX6 157 8 3 := ⟨RX8, TX8, 5, rfl, lay_X8, by decide, tw_217⟩
theorem kfX6_160 : ux_FL RX6 160 8 4 := ⟨RX8, TX8, 5, rfl, lay_X8, by decide, tw_220⟩
theorem kvX6_163 : ux_LV RX6 163 3 yX3_linesFor cX3_linesFor 4 (some .int) 3 := ⟨⟨TX3, 11, rfl⟩, tw_481, tw_482, tw_483, tw_73, tw_484, ⟨by decide, by decide, by decide +kernel⟩⟩
theorem kfX6_42 : ux_FL RX6 42 6 11 := ⟨RX6, TX6, 19, rfl, lay_X6, by decide, tw_337⟩
theorem kfX6_167 : ux_FL RX6 167 3 1 := ⟨RX3, TX3, 11, rfl, lay_X3, by decide, tw_112⟩
theorem kvX6_106 : ux_LV RX6 106 6 yX6_openLines cX6_openLines 1 (some .int) 0 := ⟨⟨TX6, 19, rfl⟩, tw_473, tw_475, tw_0, tw_77, tw_476, ⟨by decide, by decide, by decide +kernel⟩⟩
theorem kfX6_109 : ux_FL RX6 109 8 0 := ⟨RX8, TX8, 5, rfl, lay_X8, by decide, tw_205⟩
theorem kfX6_9 : ux_FL RX6 9 6 3 := ⟨RX6, TX6, 19, rfl, lay_X6, by decide, tw_328⟩
theorem kvX6_115 : ux_LV RX6 115 6 yX6_reachOf cX6_reachOf 4 (some .int) 2 := ⟨⟨TX6, 19, rfl⟩, tw_477, tw_479, tw_1, tw_77, tw_480, ⟨by decide, by decide, by decide +kernel⟩⟩
theorem kfX6_22 : ux_FL RX6 22 6 7 := ⟨RX6, TX6, 19, rfl, lay_X6, by decide, tw_333⟩
theorem kvX6_119 : ux_LV RX6 119 0 yX0_joinMeter cX0_joinMeter 4 none 2 := ⟨⟨TX0, 2, rfl⟩, tw_508, tw_509, tw_510, tw_78, tw_511, ⟨by decide, by decide, by decide +kernel⟩⟩
theorem kvX6_123 : ux_LV RX6 123 0 yX0_mostLines cX0_mostLines 5 (some .int) 0 := ⟨⟨TX0, 2, rfl⟩, tw_519, tw_520, tw_521, tw_78, tw_522, ⟨by decide, by decide, by decide +kernel⟩⟩
theorem kpX6_126 : ux_FP RX6 126 6 0 .int := ⟨RX6, TX6, 19, rfl, lay_X6, by decide, tw_322, tyX6, tyX6_ok, nmX6, rfl, by decide +kernel⟩
theorem kfX6_126 : ux_FL RX6 126 6 0 := ⟨RX6, TX6, 19, rfl, lay_X6, by decide, tw_322⟩
theorem kvX6_129 : ux_LV RX6 129 0 yX0_leastSet cX0_leastSet 6 (some .int) 1 := ⟨⟨TX0, 2, rfl⟩, tw_526, tw_527, tw_528, tw_78, tw_529, ⟨by decide, by decide, by decide +kernel⟩⟩
theorem kpX6_132 : ux_FP RX6 132 6 2 .int := ⟨RX6, TX6, 19, rfl, lay_X6, by decide, tw_326, tyX6, tyX6_ok, nmX6, rfl, by decide +kernel⟩
theorem kvX6_135 : ux_LV RX6 135 6 yX6_joinAll cX6_joinAll 4 (some .int) 1 := ⟨⟨TX6, 19, rfl⟩, tw_536, tw_538, tw_6, tw_77, tw_539, ⟨by decide, by decide, by decide +kernel⟩⟩
theorem kpX6_138 : ux_FP RX6 138 6 1 .int := ⟨RX6, TX6, 19, rfl, lay_X6, by decide, tw_324, tyX6, tyX6_ok, nmX6, rfl, by decide +kernel⟩
theorem kfX6_132 : ux_FL RX6 132 6 2 := ⟨RX6, TX6, 19, rfl, lay_X6, by decide, tw_326⟩
theorem kpX6_141 : ux_FP RX6 141 6 14 .boolean := ⟨RX6, TX6, 19, rfl, lay_X6, by decide, tw_340, tyX6, tyX6_ok, nmX6, rfl, by decide +kernel⟩
theorem kpX6_145 : ux_FP RX6 145 6 15 .boolean := ⟨RX6, TX6, 19, rfl, lay_X6, by decide, tw_341, tyX6, tyX6_ok, nmX6, rfl, by decide +kernel⟩
theorem kpX6_148 : ux_FP RX6 148 6 17 .boolean := ⟨RX6, TX6, 19, rfl, lay_X6, by decide, tw_343, tyX6, tyX6_ok, nmX6, rfl, by decide +kernel⟩
theorem kfX6_170 : ux_FL RX6 170 3 0 := ⟨RX3, TX3, 11, rfl, lay_X3, by decide, tw_108⟩
theorem kfX6_141 : ux_FL RX6 141 6 14 := ⟨RX6, TX6, 19, rfl, lay_X6, by decide, tw_340⟩
theorem kfX6_52 : ux_FL RX6 52 6 13 := ⟨RX6, TX6, 19, rfl, lay_X6, by decide, tw_339⟩
theorem kvX6_185 : ux_LV RX6 185 8 yX8_wholeMeters cX8_wholeMeters 1 (some .int) 0 := ⟨⟨TX8, 5, rfl⟩, tw_746, tw_747, tw_748, tw_75, tw_749, ⟨by decide, by decide, by decide +kernel⟩⟩
theorem kvX6_188 : ux_LV RX6 188 5 yX5_assign cX5_assign 6 none 3 := ⟨⟨TX5, 4, rfl⟩, tw_750, tw_751, tw_752, tw_81, tw_753, ⟨by decide, by decide, by decide +kernel⟩⟩
theorem kvX6_173 : ux_LV RX6 173 6 yX6_learnServers cX6_learnServers 1 none 0 := ⟨⟨TX6, 19, rfl⟩, tw_742, tw_744, tw_17, tw_77, tw_745, ⟨by decide, by decide, by decide +kernel⟩⟩
theorem kfX6_176 : ux_FL RX6 176 5 1 := ⟨RX5, TX5, 4, rfl, lay_X5, by decide, tw_309⟩
theorem kfX6_179 : ux_FL RX6 179 5 2 := ⟨RX5, TX5, 4, rfl, lay_X5, by decide, tw_311⟩
theorem kfX6_182 : ux_FL RX6 182 5 0 := ⟨RX5, TX5, 4, rfl, lay_X5, by decide, tw_307⟩
theorem kfX6_25 : ux_FL RX6 25 6 8 := ⟨RX6, TX6, 19, rfl, lay_X6, by decide, tw_334⟩
theorem kvX6_192 : ux_LV RX6 192 0 yX0_copyFrom cX0_copyFrom 2 none 1 := ⟨⟨TX0, 2, rfl⟩, tw_795, tw_796, tw_797, tw_78, tw_798, ⟨by decide, by decide, by decide +kernel⟩⟩
theorem kfX6_31 : ux_FL RX6 31 6 9 := ⟨RX6, TX6, 19, rfl, lay_X6, by decide, tw_335⟩
theorem kvX6_201 : ux_LV RX6 201 10 yX10_tryAll cX10_tryAll 9 none 4 := ⟨⟨TX10, 2, rfl⟩, tw_869, tw_870, tw_871, tw_79, tw_872, ⟨by decide, by decide, by decide +kernel⟩⟩
theorem kfX6_205 : ux_FL RX6 205 10 0 := ⟨RX10, TX10, 2, rfl, lay_X10, by decide, tw_282⟩
theorem ksX6_208 : ux_LS RX6 208 yJ6_bitCount_0f7a4 cJ6_bitCount_0f7a4 1 (some .int) 1 := ⟨tw_877, tw_441, tw_84, tw_442, ⟨by decide, by decide, by decide +kernel⟩⟩
theorem kfX6_145 : ux_FL RX6 145 6 15 := ⟨RX6, TX6, 19, rfl, lay_X6, by decide, tw_341⟩
theorem kfX6_198 : ux_FL RX6 198 6 16 := ⟨RX6, TX6, 19, rfl, lay_X6, by decide, tw_342⟩
theorem kvX6_195 : ux_LV RX6 195 6 yX6_findWeak cX6_findWeak 4 (some .int) 0 := ⟨⟨TX6, 19, rfl⟩, tw_865, tw_867, tw_23, tw_77, tw_868, ⟨by decide, by decide, by decide +kernel⟩⟩
theorem kpX6_198 : ux_FP RX6 198 6 16 .int := ⟨RX6, TX6, 19, rfl, lay_X6, by decide, tw_342, tyX6, tyX6_ok, nmX6, rfl, by decide +kernel⟩
theorem kvX6_231 : ux_LV RX6 231 3 yX3_priceOf cX3_priceOf 4 (some .int) 1 := ⟨⟨TX3, 11, rfl⟩, tw_894, tw_895, tw_896, tw_73, tw_897, ⟨by decide, by decide, by decide +kernel⟩⟩
theorem kfX6_219 : ux_FL RX6 219 3 3 := ⟨RX3, TX3, 11, rfl, lay_X3, by decide, tw_121⟩
theorem kfX6_46 : ux_FL RX6 46 6 12 := ⟨RX6, TX6, 19, rfl, lay_X6, by decide, tw_338⟩
theorem kfX6_222 : ux_FL RX6 222 3 8 := ⟨RX3, TX3, 11, rfl, lay_X3, by decide, tw_134⟩
theorem kfX6_225 : ux_FL RX6 225 3 9 := ⟨RX3, TX3, 11, rfl, lay_X3, by decide, tw_137⟩
theorem kfX6_138 : ux_FL RX6 138 6 1 := ⟨RX6, TX6, 19, rfl, lay_X6, by decide, tw_324⟩
theorem kvX6_228 : ux_LV RX6 228 6 yX6_isBetterDeal cX6_isBetterDeal 4 (some .boolean) 2 := ⟨⟨TX6, 19, rfl⟩, tw_890, tw_892, tw_25, tw_77, tw_893, ⟨by decide, by decide, by decide +kernel⟩⟩
theorem kfX6_148 : ux_FL RX6 148 6 17 := ⟨RX6, TX6, 19, rfl, lay_X6, by decide, tw_343⟩
theorem kfX6_216 : ux_FL RX6 216 6 18 := ⟨RX6, TX6, 19, rfl, lay_X6, by decide, tw_344⟩
theorem kvX6_213 : ux_LV RX6 213 6 yX6_findDeal cX6_findDeal 3 (some .int) 0 := ⟨⟨TX6, 19, rfl⟩, tw_886, tw_888, tw_24, tw_77, tw_889, ⟨by decide, by decide, by decide +kernel⟩⟩
theorem kpX6_216 : ux_FP RX6 216 6 18 .int := ⟨RX6, TX6, 19, rfl, lay_X6, by decide, tw_344, tyX6, tyX6_ok, nmX6, rfl, by decide +kernel⟩
def fX6_learnForests_19b_144 (v1 : Int32) (N : ux_N) (L : ux_L) : Option ((Int32 × ux_N × ux_L) ⊕ (ux_N × ux_L)) :=
  some (.inl ((v1 + 1), N, L))
set_option maxHeartbeats 4000000 in
set_option maxRecDepth 20000 in
theorem wX6_learnForests_19b_144 {X : ux_X} (C : ux_C X cX6_learnForests RX6 5 none 2 81 shC) {v1 : Int32}  {N : ux_N} {L : ux_L} {o : (Int32 × ux_N × ux_L) ⊕ (ux_N × ux_L)} (hin : ∀ s : Int32 × ux_N × ux_L, o = .inl s → ux_Wt X 5 19 [(0, .ref (ux_ad X 33)), (1, .int s.1)] [] s.2.1 s.2.2) (hex0 : ∀ e : ux_N × ux_L, o = .inr (e) → ux_Wt X 5 150 [] [] e.1 e.2) (h : fX6_learnForests_19b_144 v1 N L = some o) : ux_Wt X 5 144 [(0, .ref (ux_ad X 33)), (1, .int v1)] [] N L := by
  refine wt_iinc 147 1 [(1, .int (v1 + 1)), (0, .ref (ux_ad X 33))] (v1 + 1) C dX6_learnForests_144 rfl rfl (by rfl) (by decide) rfl ?_
  refine wt_goto 19 C dX6_learnForests_147 (by decide) ?_
  refine wt_sub [1, 0] rfl ?_
  exact hin _ (Option.some.inj h).symm
def fX6_learnForests_19b_58 (v1 : Int32) (v2 : Int32) (v3 : Int32) (s0 : Int32) (N : ux_N) (L : ux_L) : Option ((Int32 × ux_N × ux_L) ⊕ (ux_N × ux_L)) :=
  if ux_in s0 11 then ((fX0_holds 35 v3 L).bind (fun o2 => if o2 = 0 then (fX6_learnForests_19b_144 v1 N L) else (if ux_in v2 10 then (if ux_in v2 10 then ((fX2_areOne (78 + 2 * s0.toNatClampNeg) (N 2 (v2.toNatClampNeg)) (N 3 (v2.toNatClampNeg)) N).bind (fun o7 => if o7 = 0 then ((fX0_include 35 v1 L).bind (fun o10 => if ux_in v2 11 then ((fX2_copyFrom (78 + 2 * v2.toNatClampNeg) (78 + 2 * s0.toNatClampNeg) N).bind (fun o13 => if ux_in v2 11 then (if ux_in v2 10 then (if ux_in v2 10 then ((fX2_join (78 + 2 * v2.toNatClampNeg) (o13 2 (v2.toNatClampNeg)) (o13 3 (v2.toNatClampNeg)) o13).bind (fun o18 => fX6_learnForests_19b_144 v1 o18 o10)) else none) else none) else none)) else none)) else (fX6_learnForests_19b_144 v1 N L))) else none) else none))) else none
set_option maxHeartbeats 4000000 in
set_option maxRecDepth 20000 in
theorem wX6_learnForests_19b_58 {X : ux_X} (C : ux_C X cX6_learnForests RX6 5 none 2 81 shC) {v1 : Int32} {v2 : Int32} {v3 : Int32} {s0 : Int32}  {N : ux_N} {L : ux_L} {o : (Int32 × ux_N × ux_L) ⊕ (ux_N × ux_L)} (hin : ∀ s : Int32 × ux_N × ux_L, o = .inl s → ux_Wt X 5 19 [(0, .ref (ux_ad X 33)), (1, .int s.1)] [] s.2.1 s.2.2) (hex0 : ∀ e : ux_N × ux_L, o = .inr (e) → ux_Wt X 5 150 [] [] e.1 e.2) (h : fX6_learnForests_19b_58 v1 v2 v3 s0 N L = some o) : ux_Wt X 5 58 [(0, .ref (ux_ad X 33)), (1, .int v1), (2, .int v2), (3, .int v3)] [.int s0, .ref (ux_ad X 77)] N L := by
  obtain ⟨hi1, h⟩ := ux_guard h
  refine wt_aald 59 (s0.toNatClampNeg) 78 2 C sc_77 rfl (by decide) rfl hi1 dX6_learnForests_58 rfl ?_
  refine wt_astore 61 [(4, .ref (ux_ad X (78 + 2 * s0.toNatClampNeg))), (0, .ref (ux_ad X 33)), (1, .int v1), (2, .int v2), (3, .int v3)] C dX6_learnForests_59 rfl (by decide) rfl ?_
  refine wt_aload_n 62 1 C dX6_learnForests_61 rfl rfl ?_
  refine wt_getR 65 C kfX6_18 sc_33 rfl dX6_learnForests_62 rfl ?_
  refine wt_iload_n 66 4 C dX6_learnForests_65 rfl rfl ?_
  obtain ⟨o2, hc3, h⟩ := Option.bind_eq_some_iff.mp h
  refine wt_callVi 69 [] C kvX6_80 sc_35 (mX0_holds (cx_ok C) (is0_35) hc3) rfl rfl ⟨Nat.le_of_ble_eq_true rfl, Nat.le_of_ble_eq_true rfl⟩ (Nat.le_of_ble_eq_true rfl) dX6_learnForests_66 rfl ?_
  refine wt_if_eq 72 144 C dX6_learnForests_69 rfl (by decide) (fun q4 => ?_) (fun q4 => ?_)
  · have h := (if_pos q4).symm.trans h
    refine wt_sub [1, 2] rfl ?_
    exact wX6_learnForests_19b_144 C hin hex0 h
  · have h := (if_neg q4).symm.trans h
    refine wt_aload 74 0 C dX6_learnForests_72 rfl rfl ?_
    refine wt_aload_n 75 1 C dX6_learnForests_74 rfl rfl ?_
    refine wt_getR 78 C kfX6_56 sc_33 rfl dX6_learnForests_75 rfl ?_
    refine wt_getR 81 C kfX6_84 sc_1 rfl dX6_learnForests_78 rfl ?_
    refine wt_iload_n 82 3 C dX6_learnForests_81 rfl rfl ?_
    obtain ⟨hi5, h⟩ := ux_guard h
    refine wt_iald 83 (v2.toNatClampNeg) C sc_2 rfl hi5 dX6_learnForests_82 rfl ?_
    refine wt_aload_n 84 1 C dX6_learnForests_83 rfl rfl ?_
    refine wt_getR 87 C kfX6_56 sc_33 rfl dX6_learnForests_84 rfl ?_
    refine wt_getR 90 C kfX6_87 sc_1 rfl dX6_learnForests_87 rfl ?_
    refine wt_iload_n 91 3 C dX6_learnForests_90 rfl rfl ?_
    obtain ⟨hi6, h⟩ := ux_guard h
    refine wt_iald 92 (v2.toNatClampNeg) C sc_3 rfl hi6 dX6_learnForests_91 rfl ?_
    obtain ⟨o7, hc8, h⟩ := Option.bind_eq_some_iff.mp h
    refine wt_callVi 95 [] C kvX6_90 (is2_arr78 _ (ux_in_lt hi1)).1 (mX2_areOne (cx_ok C) (is2_arr78 _ (ux_in_lt hi1)) hc8) rfl rfl ⟨Nat.le_of_ble_eq_true rfl, Nat.le_of_ble_eq_true rfl⟩ (Nat.le_of_ble_eq_true rfl) dX6_learnForests_92 rfl ?_
    refine wt_if_ne 98 144 C dX6_learnForests_95 rfl (by decide) (fun q9 => ?_) (fun q9 => ?_)
    · have h := (if_neg q9).symm.trans h
      refine wt_sub [1, 2] rfl ?_
      exact wX6_learnForests_19b_144 C hin hex0 h
    · have h := (if_pos q9).symm.trans h
      refine wt_aload_n 99 1 C dX6_learnForests_98 rfl rfl ?_
      refine wt_getR 102 C kfX6_18 sc_33 rfl dX6_learnForests_99 rfl ?_
      refine wt_iload_n 103 2 C dX6_learnForests_102 rfl rfl ?_
      obtain ⟨o10, hc11, h⟩ := Option.bind_eq_some_iff.mp h
      refine wt_callVv 106 [] C kvX6_94 sc_35 (mX0_include (cx_ok C) (is0_35) hc11) rfl rfl ⟨Nat.le_of_ble_eq_true rfl, Nat.le_of_ble_eq_true rfl⟩ (Nat.le_of_ble_eq_true rfl) dX6_learnForests_103 rfl ?_
      refine wt_aload_n 107 1 C dX6_learnForests_106 rfl rfl ?_
      refine wt_getR 110 C kfX6_37 sc_33 rfl dX6_learnForests_107 rfl ?_
      refine wt_iload_n 111 3 C dX6_learnForests_110 rfl rfl ?_
      obtain ⟨hi12, h⟩ := ux_guard h
      refine wt_aald 112 (v2.toNatClampNeg) 78 2 C sc_77 rfl (by decide) rfl hi12 dX6_learnForests_111 rfl ?_
      refine wt_aload 114 0 C dX6_learnForests_112 rfl rfl ?_
      obtain ⟨o13, hc14, h⟩ := Option.bind_eq_some_iff.mp h
      refine wt_callVv 117 [] C kvX6_98 (is2_arr78 _ (ux_in_lt hi12)).1 (mX2_copyFrom (cx_ok C) (is2_arr78 _ (ux_in_lt hi12)) (is2_arr78 _ (ux_in_lt hi1)) hc14) rfl rfl ⟨Nat.le_of_ble_eq_true rfl, Nat.le_of_ble_eq_true rfl⟩ (Nat.le_of_ble_eq_true rfl) dX6_learnForests_114 rfl ?_
      refine wt_aload_n 118 1 C dX6_learnForests_117 rfl rfl ?_
      refine wt_getR 121 C kfX6_37 sc_33 rfl dX6_learnForests_118 rfl ?_
      refine wt_iload_n 122 3 C dX6_learnForests_121 rfl rfl ?_
      obtain ⟨hi15, h⟩ := ux_guard h
      refine wt_aald 123 (v2.toNatClampNeg) 78 2 C sc_77 rfl (by decide) rfl hi15 dX6_learnForests_122 rfl ?_
      refine wt_aload_n 124 1 C dX6_learnForests_123 rfl rfl ?_
      refine wt_getR 127 C kfX6_56 sc_33 rfl dX6_learnForests_124 rfl ?_
      refine wt_getR 130 C kfX6_84 sc_1 rfl dX6_learnForests_127 rfl ?_
      refine wt_iload_n 131 3 C dX6_learnForests_130 rfl rfl ?_
      obtain ⟨hi16, h⟩ := ux_guard h
      refine wt_iald 132 (v2.toNatClampNeg) C sc_2 rfl hi16 dX6_learnForests_131 rfl ?_
      refine wt_aload_n 133 1 C dX6_learnForests_132 rfl rfl ?_
      refine wt_getR 136 C kfX6_56 sc_33 rfl dX6_learnForests_133 rfl ?_
      refine wt_getR 139 C kfX6_87 sc_1 rfl dX6_learnForests_136 rfl ?_
      refine wt_iload_n 140 3 C dX6_learnForests_139 rfl rfl ?_
      obtain ⟨hi17, h⟩ := ux_guard h
      refine wt_iald 141 (v2.toNatClampNeg) C sc_3 rfl hi17 dX6_learnForests_140 rfl ?_
      obtain ⟨o18, hc19, h⟩ := Option.bind_eq_some_iff.mp h
      refine wt_callVv 144 [] C kvX6_102 (is2_arr78 _ (ux_in_lt hi15)).1 (mX2_join (cx_ok C) (is2_arr78 _ (ux_in_lt hi15)) hc19) rfl rfl ⟨Nat.le_of_ble_eq_true rfl, Nat.le_of_ble_eq_true rfl⟩ (Nat.le_of_ble_eq_true rfl) dX6_learnForests_141 rfl ?_
      refine wt_sub [1, 2] rfl ?_
      exact wX6_learnForests_19b_144 C hin hex0 h
def fX6_learnForests_19b (v1 : Int32) (N : ux_N) (L : ux_L) : Option ((Int32 × ux_N × ux_L) ⊕ (ux_N × ux_L)) :=
  (fX3_allLines 1 N).bind (fun o1 => if o1 < v1 then (some (.inr ((N, L)))) else ((fX11_lowest v1).bind (fun o4 => if (v1 &&& (v1 - (1 : Int32))) = 0 then (fX6_learnForests_19b_58 v1 o4 (v1 &&& (v1 - (1 : Int32))) (10 : Int32) N L) else ((fX11_lowest (v1 &&& (v1 - (1 : Int32)))).bind (fun o7 => fX6_learnForests_19b_58 v1 o4 (v1 &&& (v1 - (1 : Int32))) o7 N L)))))
set_option maxHeartbeats 4000000 in
set_option maxRecDepth 20000 in
theorem wX6_learnForests_19b {X : ux_X} (C : ux_C X cX6_learnForests RX6 5 none 2 81 shC) {v1 : Int32}  {N : ux_N} {L : ux_L} {o : (Int32 × ux_N × ux_L) ⊕ (ux_N × ux_L)} (hin : ∀ s : Int32 × ux_N × ux_L, o = .inl s → ux_Wt X 5 19 [(0, .ref (ux_ad X 33)), (1, .int s.1)] [] s.2.1 s.2.2) (hex0 : ∀ e : ux_N × ux_L, o = .inr (e) → ux_Wt X 5 150 [] [] e.1 e.2) (h : fX6_learnForests_19b v1 N L = some o) : ux_Wt X 5 19 [(0, .ref (ux_ad X 33)), (1, .int v1)] [] N L := by
  refine wt_iload_n 20 1 C dX6_learnForests_19 rfl rfl ?_
  refine wt_aload_n 21 0 C dX6_learnForests_20 rfl rfl ?_
  refine wt_getR 24 C kfX6_56 sc_33 rfl dX6_learnForests_21 rfl ?_
  obtain ⟨o1, hc2, h⟩ := Option.bind_eq_some_iff.mp h
  refine wt_callVi 27 [.int v1] C kvX6_70 sc_1 (mX3_allLines (cx_ok C) (is3_1) hc2) rfl rfl ⟨Nat.le_of_ble_eq_true rfl, Nat.le_of_ble_eq_true rfl⟩ (Nat.le_of_ble_eq_true rfl) dX6_learnForests_24 rfl ?_
  refine wt_icmp_gt 30 150 C dX6_learnForests_27 rfl (by decide) (fun q3 => ?_) (fun q3 => ?_)
  · have h := (if_pos q3).symm.trans h
    refine wt_sub [] rfl ?_
    exact hex0 _ (Option.some.inj h).symm
  · have h := (if_neg q3).symm.trans h
    refine wt_iload_n 31 1 C dX6_learnForests_30 rfl rfl ?_
    obtain ⟨o4, hc5, h⟩ := Option.bind_eq_some_iff.mp h
    refine wt_callSNi 34 [] C knX6_76 (mX11_lowest (cx_ok C)  hc5) rfl rfl ⟨Nat.le_of_ble_eq_true rfl, Nat.le_of_ble_eq_true rfl⟩ (Nat.le_of_ble_eq_true rfl) dX6_learnForests_31 rfl ?_
    refine wt_istore_n 35 [(2, .int o4), (0, .ref (ux_ad X 33)), (1, .int v1)] C dX6_learnForests_34 rfl (by decide) rfl ?_
    refine wt_iload_n 36 2 C dX6_learnForests_35 rfl rfl ?_
    refine wt_iload_n 37 2 C dX6_learnForests_36 rfl rfl ?_
    refine wt_iconst 38 1 C dX6_learnForests_37 rfl (by decide) ?_
    refine wt_isub 39 C dX6_learnForests_38 rfl ?_
    refine wt_iand 40 C dX6_learnForests_39 rfl ?_
    refine wt_istore_n 41 [(3, .int (v1 &&& (v1 - (1 : Int32)))), (2, .int o4), (0, .ref (ux_ad X 33)), (1, .int v1)] C dX6_learnForests_40 rfl (by decide) rfl ?_
    refine wt_aload_n 42 2 C dX6_learnForests_41 rfl rfl ?_
    refine wt_getR 45 C kfX6_37 sc_33 rfl dX6_learnForests_42 rfl ?_
    refine wt_iload_n 46 0 C dX6_learnForests_45 rfl rfl ?_
    refine wt_if_ne 49 54 C dX6_learnForests_46 rfl (by decide) (fun q6 => ?_) (fun q6 => ?_)
    · have h := (if_neg q6).symm.trans h
      refine wt_iload_n 55 0 C dX6_learnForests_54 rfl rfl ?_
      obtain ⟨o7, hc8, h⟩ := Option.bind_eq_some_iff.mp h
      refine wt_callSNi 58 [.ref (ux_ad X 77)] C knX6_76 (mX11_lowest (cx_ok C)  hc8) rfl rfl ⟨Nat.le_of_ble_eq_true rfl, Nat.le_of_ble_eq_true rfl⟩ (Nat.le_of_ble_eq_true rfl) dX6_learnForests_55 rfl ?_
      refine wt_sub [2, 3, 1, 0] rfl ?_
      exact wX6_learnForests_19b_58 C hin hex0 h
    · have h := (if_pos q6).symm.trans h
      refine wt_bipush 51 10 C dX6_learnForests_49 rfl (by decide) ?_
      refine wt_goto 58 C dX6_learnForests_51 (by decide) ?_
      refine wt_sub [2, 3, 1, 0] rfl ?_
      exact wX6_learnForests_19b_58 C hin hex0 h
def fX6_learnForests (N : ux_N) (L : ux_L) : Option (ux_N × ux_L) :=
  (fX0_startWithEmptySet 35 L).bind (fun o1 => (fX2_separate 98 N).bind (fun o3 => (ux_lp (fun s : Int32 × ux_N × ux_L => fX6_learnForests_19b s.1 s.2.1 s.2.2) ux_fu ((1 : Int32), o3, o1)).bind (fun e12 => some (e12.1, e12.2))))
set_option maxHeartbeats 4000000 in
set_option maxRecDepth 20000 in
theorem wX6_learnForests {X : ux_X} (C : ux_C X cX6_learnForests RX6 5 none 2 81 shC)   {N : ux_N} {L : ux_L} {o : ux_N × ux_L} (hq : ux_Qv X o.1 o.2) (h : fX6_learnForests N L = some o) : ux_Wt X 5 0 [(0, .ref (ux_ad X 33))] [] N L := by
  refine wt_aload_n 1 0 C dX6_learnForests_0 rfl rfl ?_
  refine wt_getR 4 C kfX6_18 sc_33 rfl dX6_learnForests_1 rfl ?_
  obtain ⟨o1, hc2, h⟩ := Option.bind_eq_some_iff.mp h
  refine wt_callVv 7 [] C kvX6_64 sc_35 (mX0_startWithEmptySet (cx_ok C) (is0_35) hc2) rfl rfl ⟨Nat.le_of_ble_eq_true rfl, Nat.le_of_ble_eq_true rfl⟩ (Nat.le_of_ble_eq_true rfl) dX6_learnForests_4 rfl ?_
  refine wt_aload_n 8 0 C dX6_learnForests_7 rfl rfl ?_
  refine wt_getR 11 C kfX6_37 sc_33 rfl dX6_learnForests_8 rfl ?_
  refine wt_bipush 13 10 C dX6_learnForests_11 rfl (by decide) ?_
  refine wt_aald 14 10 78 2 C sc_77 rfl (by decide) (by decide) (by decide) dX6_learnForests_13 rfl ?_
  obtain ⟨o3, hc4, h⟩ := Option.bind_eq_some_iff.mp h
  refine wt_callVv 17 [] C kvX6_67 sc_98 (mX2_separate (cx_ok C) (is2_98) hc4) rfl rfl ⟨Nat.le_of_ble_eq_true rfl, Nat.le_of_ble_eq_true rfl⟩ (Nat.le_of_ble_eq_true rfl) dX6_learnForests_14 rfl ?_
  refine wt_iconst 18 1 C dX6_learnForests_17 rfl (by decide) ?_
  refine wt_istore_n 19 [(1, .int (1 : Int32)), (0, .ref (ux_ad X 33))] C dX6_learnForests_18 rfl (by decide) rfl ?_
  obtain ⟨e5, hl6, h⟩ := Option.bind_eq_some_iff.mp h
  refine wt_sub [1, 0] rfl ?_
  refine ux_loop (fun s : Int32 × ux_N × ux_L => fX6_learnForests_19b s.1 s.2.1 s.2.2) (fun s : Int32 × ux_N × ux_L => ux_Wt X 5 19 [(0, .ref (ux_ad X 33)), (1, .int s.1)] [] s.2.1 s.2.2) (e := e5) ?_ hl6
  intro s7 o8 hb9 hi10 hx11
  refine wX6_learnForests_19b C hi10 (fun x0 he => ?_) hb9
  · obtain ⟨e12, rfl⟩ : ∃ z, z = x0 := ⟨_, rfl⟩
    have h9 := hx11 _ he
    subst h9
    cases h
    exact wt_vret C hq dX6_learnForests_150
theorem mX6_learnForests {l : Launch} {G : ux_G} (hok : ux_ok G shC)   {N : ux_N} {L : ux_L} {o : ux_N × ux_L} (h : fX6_learnForests N L = some o) : ux_Mv l G yX6_learnForests cX6_learnForests 5 2 81 [.ref (gad G 33)] N L o.1 o.2 :=
  ux_ofv shC hok (by decide +kernel) (Nat.le_of_ble_eq_true rfl) (fun X hG hl C hq => by subst hG; subst hl; exact wX6_learnForests C  hq h)
def fX6_openLines (N : ux_N) : Option (Int32) :=
  (fX3_allLines 1 N).bind (fun o1 => some (o1 &&& ((N 19 2) ^^^ (-1 : Int32))))
set_option maxHeartbeats 4000000 in
set_option maxRecDepth 20000 in
theorem wX6_openLines {X : ux_X} (C : ux_C X cX6_openLines RX6 1 (some .int) 1 20 shC)   {N : ux_N} {L : ux_L} {o : Int32} (hq : ux_Qi X o N L) (h : fX6_openLines N = some o) : ux_Wt X 1 0 [(0, .ref (ux_ad X 33))] [] N L := by
  refine wt_aload_n 1 0 C dX6_openLines_0 rfl rfl ?_
  refine wt_getR 4 C kfX6_56 sc_33 rfl dX6_openLines_1 rfl ?_
  obtain ⟨o1, hc2, h⟩ := Option.bind_eq_some_iff.mp h
  refine wt_callVi 7 [] C kvX6_70 sc_1 (mX3_allLines (cx_ok C) (is3_1) hc2) rfl rfl ⟨Nat.le_of_ble_eq_true rfl, Nat.le_of_ble_eq_true rfl⟩ (Nat.le_of_ble_eq_true rfl) dX6_openLines_4 rfl ?_
  refine wt_aload_n 8 0 C dX6_openLines_7 rfl rfl ?_
  refine wt_getR 11 C kfX6_60 sc_33 rfl dX6_openLines_8 rfl ?_
  refine wt_getI 14 C kfX6_151 sc_19 rfl dX6_openLines_11 rfl ?_
  refine wt_iconst 15 (-1) C dX6_openLines_14 rfl (by decide) ?_
  refine wt_ixor 16 C dX6_openLines_15 rfl ?_
  refine wt_iand 17 C dX6_openLines_16 rfl ?_
  cases h
  exact wt_iret C hq dX6_openLines_17
theorem mX6_openLines {l : Launch} {G : ux_G} (hok : ux_ok G shC)   {N : ux_N} {L : ux_L} {o : Int32} (h : fX6_openLines N = some o) : ux_Mi l G yX6_openLines cX6_openLines 1 (some .int) 1 20 [.ref (gad G 33)] N L o N L :=
  ux_ofi shC hok (by decide +kernel) (Nat.le_of_ble_eq_true rfl) (fun X hG hl C hq => by subst hG; subst hl; exact wX6_openLines C  hq h)
def fX6_reachOf_55 (s0 : Int32) (N : ux_N) : Option (Int32) :=
  some s0
set_option maxHeartbeats 4000000 in
set_option maxRecDepth 20000 in
theorem wX6_reachOf_55 {X : ux_X} (C : ux_C X cX6_reachOf RX6 4 (some .int) 3 72 shC) {s0 : Int32}  {N : ux_N} {L : ux_L} {o : Int32} (hq : ux_Qi X o N L) (h : fX6_reachOf_55 s0 N = some o) : ux_Wt X 4 55 [] [.int s0] N L := by
  cases h
  exact wt_iret C hq dX6_reachOf_55
def fX6_reachOf_20 (v1 : Int32) (v2 : Int32) (s0 : Int32) (N : ux_N) : Option (Int32) :=
  if s0 = 0 then (if ux_in v1 9 then (if ux_in v1 9 then ((fX3_linesFor 1 (N 20 (v1.toNatClampNeg)) (N 21 (v1.toNatClampNeg)) v2 N).bind (fun o4 => fX6_reachOf_55 o4 N)) else none) else none) else (fX6_reachOf_55 (0 : Int32) N)
set_option maxHeartbeats 4000000 in
set_option maxRecDepth 20000 in
theorem wX6_reachOf_20 {X : ux_X} (C : ux_C X cX6_reachOf RX6 4 (some .int) 3 72 shC) {v1 : Int32} {v2 : Int32} {s0 : Int32}  {N : ux_N} {L : ux_L} {o : Int32} (hq : ux_Qi X o N L) (h : fX6_reachOf_20 v1 v2 s0 N = some o) : ux_Wt X 4 20 [(0, .ref (ux_ad X 33)), (1, .int v1), (2, .int v2)] [.int s0] N L := by
  refine wt_istore_n 21 [(3, .int s0), (0, .ref (ux_ad X 33)), (1, .int v1), (2, .int v2)] C dX6_reachOf_20 rfl (by decide) rfl ?_
  refine wt_iload_n 22 0 C dX6_reachOf_21 rfl rfl ?_
  refine wt_if_eq 25 29 C dX6_reachOf_22 rfl (by decide) (fun q1 => ?_) (fun q1 => ?_)
  · have h := (if_pos q1).symm.trans h
    refine wt_aload_n 30 1 C dX6_reachOf_29 rfl rfl ?_
    refine wt_getR 33 C kfX6_56 sc_33 rfl dX6_reachOf_30 rfl ?_
    refine wt_aload_n 34 1 C dX6_reachOf_33 rfl rfl ?_
    refine wt_getR 37 C kfX6_60 sc_33 rfl dX6_reachOf_34 rfl ?_
    refine wt_getR 40 C kfX6_157 sc_19 rfl dX6_reachOf_37 rfl ?_
    refine wt_iload_n 41 2 C dX6_reachOf_40 rfl rfl ?_
    obtain ⟨hi2, h⟩ := ux_guard h
    refine wt_iald 42 (v1.toNatClampNeg) C sc_20 rfl hi2 dX6_reachOf_41 rfl ?_
    refine wt_aload_n 43 1 C dX6_reachOf_42 rfl rfl ?_
    refine wt_getR 46 C kfX6_60 sc_33 rfl dX6_reachOf_43 rfl ?_
    refine wt_getR 49 C kfX6_160 sc_19 rfl dX6_reachOf_46 rfl ?_
    refine wt_iload_n 50 2 C dX6_reachOf_49 rfl rfl ?_
    obtain ⟨hi3, h⟩ := ux_guard h
    refine wt_iald 51 (v1.toNatClampNeg) C sc_21 rfl hi3 dX6_reachOf_50 rfl ?_
    refine wt_iload_n 52 3 C dX6_reachOf_51 rfl rfl ?_
    obtain ⟨o4, hc5, h⟩ := Option.bind_eq_some_iff.mp h
    refine wt_callVi 55 [] C kvX6_163 sc_1 (mX3_linesFor (cx_ok C) (is3_1) hc5) rfl rfl ⟨Nat.le_of_ble_eq_true rfl, Nat.le_of_ble_eq_true rfl⟩ (Nat.le_of_ble_eq_true rfl) dX6_reachOf_52 rfl ?_
    refine wt_sub [] rfl ?_
    exact wX6_reachOf_55 C hq h
  · have h := (if_neg q1).symm.trans h
    refine wt_iconst 26 0 C dX6_reachOf_25 rfl (by decide) ?_
    refine wt_goto 55 C dX6_reachOf_26 (by decide) ?_
    refine wt_sub [] rfl ?_
    exact wX6_reachOf_55 C hq h
def fX6_reachOf (v1 : Int32) (v2 : Int32) (N : ux_N) : Option (Int32) :=
  if (((N 19 1) >>> (v1 &&& 31)) &&& (1 : Int32)) = (1 : Int32) then (fX6_reachOf_20 v1 v2 (1 : Int32) N) else (fX6_reachOf_20 v1 v2 (0 : Int32) N)
set_option maxHeartbeats 4000000 in
set_option maxRecDepth 20000 in
theorem wX6_reachOf {X : ux_X} (C : ux_C X cX6_reachOf RX6 4 (some .int) 3 72 shC) {v1 : Int32} {v2 : Int32}  {N : ux_N} {L : ux_L} {o : Int32} (hq : ux_Qi X o N L) (h : fX6_reachOf v1 v2 N = some o) : ux_Wt X 4 0 [(0, .ref (ux_ad X 33)), (1, .int v1), (2, .int v2)] [] N L := by
  refine wt_aload_n 1 0 C dX6_reachOf_0 rfl rfl ?_
  refine wt_getR 4 C kfX6_60 sc_33 rfl dX6_reachOf_1 rfl ?_
  refine wt_getI 7 C kfX6_154 sc_19 rfl dX6_reachOf_4 rfl ?_
  refine wt_iload_n 8 1 C dX6_reachOf_7 rfl rfl ?_
  refine wt_ishr 9 C dX6_reachOf_8 rfl ?_
  refine wt_iconst 10 1 C dX6_reachOf_9 rfl (by decide) ?_
  refine wt_iand 11 C dX6_reachOf_10 rfl ?_
  refine wt_iconst 12 1 C dX6_reachOf_11 rfl (by decide) ?_
  refine wt_icmp_ne 15 19 C dX6_reachOf_12 rfl (by decide) (fun q1 => ?_) (fun q1 => ?_)
  · have h := (if_neg q1).symm.trans h
    refine wt_iconst 20 0 C dX6_reachOf_19 rfl (by decide) ?_
    exact wX6_reachOf_20 C hq h
  · have h := (if_pos q1).symm.trans h
    refine wt_iconst 16 1 C dX6_reachOf_15 rfl (by decide) ?_
    refine wt_goto 20 C dX6_reachOf_16 (by decide) ?_
    exact wX6_reachOf_20 C hq h
theorem mX6_reachOf {l : Launch} {G : ux_G} (hok : ux_ok G shC) {v1 : Int32} {v2 : Int32}  {N : ux_N} {L : ux_L} {o : Int32} (h : fX6_reachOf v1 v2 N = some o) : ux_Mi l G yX6_reachOf cX6_reachOf 4 (some .int) 3 72 [.ref (gad G 33), .int v1, .int v2] N L o N L :=
  ux_ofi shC hok (by decide +kernel) (Nat.le_of_ble_eq_true rfl) (fun X hG hl C hq => by subst hG; subst hl; exact wX6_reachOf C  hq h)
def fX6_joinAll_11b_87 (v1 : Int32) (v2 : Int32) (v3 : Int32) (N : ux_N) : Option ((Int32 × Int32 × ux_N) ⊕ (Int32 × ux_N)) :=
  some (.inl (v2, (v3 + 1), N))
set_option maxHeartbeats 4000000 in
set_option maxRecDepth 20000 in
theorem wX6_joinAll_11b_87 {X : ux_X} (C : ux_C X cX6_joinAll RX6 4 (some .int) 1 24 shC) {v1 : Int32} {v2 : Int32} {v3 : Int32}  {N : ux_N} {L : ux_L} {o : (Int32 × Int32 × ux_N) ⊕ (Int32 × ux_N)} (hin : ∀ s : Int32 × Int32 × ux_N, o = .inl s → ux_Wt X 4 11 [(0, .ref (ux_ad X 33)), (1, .int v1), (2, .int s.1), (3, .int s.2.1)] [] s.2.2 L) (hex0 : ∀ e : Int32 × ux_N, o = .inr (e) → ux_Wt X 4 93 [(2, .int e.1)] [] e.2 L) (h : fX6_joinAll_11b_87 v1 v2 v3 N = some o) : ux_Wt X 4 87 [(0, .ref (ux_ad X 33)), (1, .int v1), (2, .int v2), (3, .int v3)] [] N L := by
  refine wt_iinc 90 3 [(3, .int (v3 + 1)), (0, .ref (ux_ad X 33)), (1, .int v1), (2, .int v2)] (v3 + 1) C dX6_joinAll_87 rfl rfl (by rfl) (by decide) rfl ?_
  refine wt_goto 11 C dX6_joinAll_90 (by decide) ?_
  refine wt_sub [1, 2, 3, 0] rfl ?_
  exact hin _ (Option.some.inj h).symm
def fX6_joinAll_11b (v1 : Int32) (v2 : Int32) (v3 : Int32) (N : ux_N) : Option ((Int32 × Int32 × ux_N) ⊕ (Int32 × ux_N)) :=
  if (N 1 1) ≤ v3 then (some (.inr ((v2, N)))) else (if ((v1 >>> (v3 &&& 31)) &&& (1 : Int32)) = (1 : Int32) then (if ux_in v3 10 then (if ux_in v3 10 then ((fX2_areOne 100 (N 2 (v3.toNatClampNeg)) (N 3 (v3.toNatClampNeg)) N).bind (fun o5 => if o5 = 0 then (if ux_in v3 10 then (if ux_in v3 10 then ((fX2_join 100 (N 2 (v3.toNatClampNeg)) (N 3 (v3.toNatClampNeg)) N).bind (fun o10 => fX6_joinAll_11b_87 v1 (v2 + 1) v3 o10)) else none) else none) else (fX6_joinAll_11b_87 v1 v2 v3 N))) else none) else none) else (fX6_joinAll_11b_87 v1 v2 v3 N))
set_option maxHeartbeats 4000000 in
set_option maxRecDepth 20000 in
theorem wX6_joinAll_11b {X : ux_X} (C : ux_C X cX6_joinAll RX6 4 (some .int) 1 24 shC) {v1 : Int32} {v2 : Int32} {v3 : Int32}  {N : ux_N} {L : ux_L} {o : (Int32 × Int32 × ux_N) ⊕ (Int32 × ux_N)} (hin : ∀ s : Int32 × Int32 × ux_N, o = .inl s → ux_Wt X 4 11 [(0, .ref (ux_ad X 33)), (1, .int v1), (2, .int s.1), (3, .int s.2.1)] [] s.2.2 L) (hex0 : ∀ e : Int32 × ux_N, o = .inr (e) → ux_Wt X 4 93 [(2, .int e.1)] [] e.2 L) (h : fX6_joinAll_11b v1 v2 v3 N = some o) : ux_Wt X 4 11 [(0, .ref (ux_ad X 33)), (1, .int v1), (2, .int v2), (3, .int v3)] [] N L := by
  refine wt_iload_n 12 3 C dX6_joinAll_11 rfl rfl ?_
  refine wt_aload_n 13 0 C dX6_joinAll_12 rfl rfl ?_
  refine wt_getR 16 C kfX6_56 sc_33 rfl dX6_joinAll_13 rfl ?_
  refine wt_getI 19 C kfX6_167 sc_1 rfl dX6_joinAll_16 rfl ?_
  refine wt_icmp_ge 22 93 C dX6_joinAll_19 rfl (by decide) (fun q1 => ?_) (fun q1 => ?_)
  · have h := (if_pos q1).symm.trans h
    refine wt_sub [2] rfl ?_
    exact hex0 _ (Option.some.inj h).symm
  · have h := (if_neg q1).symm.trans h
    refine wt_iload_n 23 1 C dX6_joinAll_22 rfl rfl ?_
    refine wt_iload_n 24 3 C dX6_joinAll_23 rfl rfl ?_
    refine wt_ishr 25 C dX6_joinAll_24 rfl ?_
    refine wt_iconst 26 1 C dX6_joinAll_25 rfl (by decide) ?_
    refine wt_iand 27 C dX6_joinAll_26 rfl ?_
    refine wt_iconst 28 1 C dX6_joinAll_27 rfl (by decide) ?_
    refine wt_icmp_ne 31 87 C dX6_joinAll_28 rfl (by decide) (fun q2 => ?_) (fun q2 => ?_)
    · have h := (if_neg q2).symm.trans h
      exact wX6_joinAll_11b_87 C hin hex0 h
    · have h := (if_pos q2).symm.trans h
      refine wt_aload_n 32 0 C dX6_joinAll_31 rfl rfl ?_
      refine wt_getR 35 C kfX6_42 sc_33 rfl dX6_joinAll_32 rfl ?_
      refine wt_aload_n 36 0 C dX6_joinAll_35 rfl rfl ?_
      refine wt_getR 39 C kfX6_56 sc_33 rfl dX6_joinAll_36 rfl ?_
      refine wt_getR 42 C kfX6_84 sc_1 rfl dX6_joinAll_39 rfl ?_
      refine wt_iload_n 43 3 C dX6_joinAll_42 rfl rfl ?_
      obtain ⟨hi3, h⟩ := ux_guard h
      refine wt_iald 44 (v3.toNatClampNeg) C sc_2 rfl hi3 dX6_joinAll_43 rfl ?_
      refine wt_aload_n 45 0 C dX6_joinAll_44 rfl rfl ?_
      refine wt_getR 48 C kfX6_56 sc_33 rfl dX6_joinAll_45 rfl ?_
      refine wt_getR 51 C kfX6_87 sc_1 rfl dX6_joinAll_48 rfl ?_
      refine wt_iload_n 52 3 C dX6_joinAll_51 rfl rfl ?_
      obtain ⟨hi4, h⟩ := ux_guard h
      refine wt_iald 53 (v3.toNatClampNeg) C sc_3 rfl hi4 dX6_joinAll_52 rfl ?_
      obtain ⟨o5, hc6, h⟩ := Option.bind_eq_some_iff.mp h
      refine wt_callVi 56 [] C kvX6_90 sc_100 (mX2_areOne (cx_ok C) (is2_100) hc6) rfl rfl ⟨Nat.le_of_ble_eq_true rfl, Nat.le_of_ble_eq_true rfl⟩ (Nat.le_of_ble_eq_true rfl) dX6_joinAll_53 rfl ?_
      refine wt_if_ne 59 87 C dX6_joinAll_56 rfl (by decide) (fun q7 => ?_) (fun q7 => ?_)
      · have h := (if_neg q7).symm.trans h
        exact wX6_joinAll_11b_87 C hin hex0 h
      · have h := (if_pos q7).symm.trans h
        refine wt_aload_n 60 0 C dX6_joinAll_59 rfl rfl ?_
        refine wt_getR 63 C kfX6_42 sc_33 rfl dX6_joinAll_60 rfl ?_
        refine wt_aload_n 64 0 C dX6_joinAll_63 rfl rfl ?_
        refine wt_getR 67 C kfX6_56 sc_33 rfl dX6_joinAll_64 rfl ?_
        refine wt_getR 70 C kfX6_84 sc_1 rfl dX6_joinAll_67 rfl ?_
        refine wt_iload_n 71 3 C dX6_joinAll_70 rfl rfl ?_
        obtain ⟨hi8, h⟩ := ux_guard h
        refine wt_iald 72 (v3.toNatClampNeg) C sc_2 rfl hi8 dX6_joinAll_71 rfl ?_
        refine wt_aload_n 73 0 C dX6_joinAll_72 rfl rfl ?_
        refine wt_getR 76 C kfX6_56 sc_33 rfl dX6_joinAll_73 rfl ?_
        refine wt_getR 79 C kfX6_87 sc_1 rfl dX6_joinAll_76 rfl ?_
        refine wt_iload_n 80 3 C dX6_joinAll_79 rfl rfl ?_
        obtain ⟨hi9, h⟩ := ux_guard h
        refine wt_iald 81 (v3.toNatClampNeg) C sc_3 rfl hi9 dX6_joinAll_80 rfl ?_
        obtain ⟨o10, hc11, h⟩ := Option.bind_eq_some_iff.mp h
        refine wt_callVv 84 [] C kvX6_102 sc_100 (mX2_join (cx_ok C) (is2_100) hc11) rfl rfl ⟨Nat.le_of_ble_eq_true rfl, Nat.le_of_ble_eq_true rfl⟩ (Nat.le_of_ble_eq_true rfl) dX6_joinAll_81 rfl ?_
        refine wt_iinc 87 2 [(2, .int (v2 + 1)), (0, .ref (ux_ad X 33)), (1, .int v1), (3, .int v3)] (v2 + 1) C dX6_joinAll_84 rfl rfl (by rfl) (by decide) rfl ?_
        refine wt_sub [1, 2, 0, 3] rfl ?_
        exact wX6_joinAll_11b_87 C hin hex0 h
def fX6_joinAll (v1 : Int32) (N : ux_N) : Option (Int32 × ux_N) :=
  (fX2_separate 100 N).bind (fun o1 => (ux_lp (fun s : Int32 × Int32 × ux_N => fX6_joinAll_11b v1 s.1 s.2.1 s.2.2) ux_fu ((0 : Int32), (0 : Int32), o1)).bind (fun e10 => some (e10.1, e10.2)))
set_option maxHeartbeats 4000000 in
set_option maxRecDepth 20000 in
theorem wX6_joinAll {X : ux_X} (C : ux_C X cX6_joinAll RX6 4 (some .int) 1 24 shC) {v1 : Int32}  {N : ux_N} {L : ux_L} {o : Int32 × ux_N} (hq : ux_Qi X o.1 o.2 L) (h : fX6_joinAll v1 N = some o) : ux_Wt X 4 0 [(0, .ref (ux_ad X 33)), (1, .int v1)] [] N L := by
  refine wt_iconst 1 0 C dX6_joinAll_0 rfl (by decide) ?_
  refine wt_istore_n 2 [(2, .int (0 : Int32)), (0, .ref (ux_ad X 33)), (1, .int v1)] C dX6_joinAll_1 rfl (by decide) rfl ?_
  refine wt_aload_n 3 1 C dX6_joinAll_2 rfl rfl ?_
  refine wt_getR 6 C kfX6_42 sc_33 rfl dX6_joinAll_3 rfl ?_
  obtain ⟨o1, hc2, h⟩ := Option.bind_eq_some_iff.mp h
  refine wt_callVv 9 [] C kvX6_67 sc_100 (mX2_separate (cx_ok C) (is2_100) hc2) rfl rfl ⟨Nat.le_of_ble_eq_true rfl, Nat.le_of_ble_eq_true rfl⟩ (Nat.le_of_ble_eq_true rfl) dX6_joinAll_6 rfl ?_
  refine wt_iconst 10 0 C dX6_joinAll_9 rfl (by decide) ?_
  refine wt_istore_n 11 [(3, .int (0 : Int32)), (2, .int (0 : Int32)), (0, .ref (ux_ad X 33)), (1, .int v1)] C dX6_joinAll_10 rfl (by decide) rfl ?_
  obtain ⟨e3, hl4, h⟩ := Option.bind_eq_some_iff.mp h
  refine wt_sub [2, 3, 1, 0] rfl ?_
  refine ux_loop (fun s : Int32 × Int32 × ux_N => fX6_joinAll_11b v1 s.1 s.2.1 s.2.2) (fun s : Int32 × Int32 × ux_N => ux_Wt X 4 11 [(0, .ref (ux_ad X 33)), (1, .int v1), (2, .int s.1), (3, .int s.2.1)] [] s.2.2 L) (e := e3) ?_ hl4
  intro s5 o6 hb7 hi8 hx9
  refine wX6_joinAll_11b C hi8 (fun x0 he => ?_) hb7
  · obtain ⟨e10, rfl⟩ : ∃ z, z = x0 := ⟨_, rfl⟩
    have h9 := hx9 _ he
    subst h9
    refine wt_iload_n 94 0 C dX6_joinAll_93 rfl rfl ?_
    cases h
    exact wt_iret C hq dX6_joinAll_94
theorem mX6_joinAll {l : Launch} {G : ux_G} (hok : ux_ok G shC) {v1 : Int32}  {N : ux_N} {L : ux_L} {o : Int32 × ux_N} (h : fX6_joinAll v1 N = some o) : ux_Mi l G yX6_joinAll cX6_joinAll 4 (some .int) 1 24 [.ref (gad G 33), .int v1] N L o.1 o.2 L :=
  ux_ofi shC hok (by decide +kernel) (Nat.le_of_ble_eq_true rfl) (fun X hG hl C hq => by subst hG; subst hl; exact wX6_joinAll C  hq h)
def fX6_refresh_7b (v1 : Int32) (v2 : Int32) (N : ux_N) (L : ux_L) : Option ((Int32 × ux_N) ⊕ (ux_N)) :=
  if (N 19 0) ≤ v2 then (some (.inr (N))) else ((fX6_reachOf v2 v1 N).bind (fun o2 => if ux_in v2 9 then (some (.inl ((v2 + 1), (ux_u N 34 (v2.toNatClampNeg) o2)))) else none))
set_option maxHeartbeats 4000000 in
set_option maxRecDepth 20000 in
theorem wX6_refresh_7b {X : ux_X} (C : ux_C X cX6_refresh RX6 3 (some .int) 4 95 shC) {v1 : Int32} {v2 : Int32}  {N : ux_N} {L : ux_L} {o : (Int32 × ux_N) ⊕ (ux_N)} (hin : ∀ s : Int32 × ux_N, o = .inl s → ux_Wt X 3 7 [(0, .ref (ux_ad X 33)), (1, .int v1), (2, .int s.1)] [] s.2 L) (hex0 : ∀ e : ux_N, o = .inr (e) → ux_Wt X 3 36 [(0, .ref (ux_ad X 33)), (1, .int v1)] [] e L) (h : fX6_refresh_7b v1 v2 N L = some o) : ux_Wt X 3 7 [(0, .ref (ux_ad X 33)), (1, .int v1), (2, .int v2)] [] N L := by
  refine wt_iload_n 8 2 C dX6_refresh_7 rfl rfl ?_
  refine wt_aload_n 9 0 C dX6_refresh_8 rfl rfl ?_
  refine wt_getR 12 C kfX6_60 sc_33 rfl dX6_refresh_9 rfl ?_
  refine wt_getI 15 C kfX6_109 sc_19 rfl dX6_refresh_12 rfl ?_
  refine wt_icmp_ge 18 36 C dX6_refresh_15 rfl (by decide) (fun q1 => ?_) (fun q1 => ?_)
  · have h := (if_pos q1).symm.trans h
    refine wt_sub [0, 1] rfl ?_
    exact hex0 _ (Option.some.inj h).symm
  · have h := (if_neg q1).symm.trans h
    refine wt_aload_n 19 0 C dX6_refresh_18 rfl rfl ?_
    refine wt_getR 22 C kfX6_9 sc_33 rfl dX6_refresh_19 rfl ?_
    refine wt_iload_n 23 2 C dX6_refresh_22 rfl rfl ?_
    refine wt_aload_n 24 0 C dX6_refresh_23 rfl rfl ?_
    refine wt_iload_n 25 2 C dX6_refresh_24 rfl rfl ?_
    refine wt_iload_n 26 1 C dX6_refresh_25 rfl rfl ?_
    obtain ⟨o2, hc3, h⟩ := Option.bind_eq_some_iff.mp h
    refine wt_callVi 29 [.int v2, .ref (ux_ad X 34)] C kvX6_115 sc_33 (mX6_reachOf (cx_ok C)  hc3) rfl rfl ⟨Nat.le_of_ble_eq_true rfl, Nat.le_of_ble_eq_true rfl⟩ (Nat.le_of_ble_eq_true rfl) dX6_refresh_26 rfl ?_
    obtain ⟨hi4, h⟩ := ux_guard h
    refine wt_iast 30 (v2.toNatClampNeg) C sc_34 rfl hi4 dX6_refresh_29 rfl ?_
    refine wt_iinc 33 2 [(2, .int (v2 + 1)), (0, .ref (ux_ad X 33)), (1, .int v1)] (v2 + 1) C dX6_refresh_30 rfl rfl (by rfl) (by decide) rfl ?_
    refine wt_goto 7 C dX6_refresh_33 (by decide) ?_
    refine wt_sub [1, 2, 0] rfl ?_
    exact hin _ (Option.some.inj h).symm
def fX6_refresh_45b (v1 : Int32) (v2 : Int32) (N : ux_N) (L : ux_L) : Option ((Int32 × ux_L) ⊕ (ux_L)) :=
  if (N 19 0) ≤ v2 then (some (.inr (L))) else (if ux_in v2 9 then ((fX0_joinMeter 38 35 (N 34 (v2.toNatClampNeg)) L).bind (fun o3 => some (.inl ((v2 + 1), o3)))) else none)
set_option maxHeartbeats 4000000 in
set_option maxRecDepth 20000 in
theorem wX6_refresh_45b {X : ux_X} (C : ux_C X cX6_refresh RX6 3 (some .int) 4 95 shC) {v1 : Int32} {v2 : Int32}  {N : ux_N} {L : ux_L} {o : (Int32 × ux_L) ⊕ (ux_L)} (hin : ∀ s : Int32 × ux_L, o = .inl s → ux_Wt X 3 45 [(0, .ref (ux_ad X 33)), (1, .int v1), (2, .int s.1)] [] N s.2) (hex0 : ∀ e : ux_L, o = .inr (e) → ux_Wt X 3 79 [(0, .ref (ux_ad X 33)), (1, .int v1)] [] N e) (h : fX6_refresh_45b v1 v2 N L = some o) : ux_Wt X 3 45 [(0, .ref (ux_ad X 33)), (1, .int v1), (2, .int v2)] [] N L := by
  refine wt_iload_n 46 2 C dX6_refresh_45 rfl rfl ?_
  refine wt_aload_n 47 0 C dX6_refresh_46 rfl rfl ?_
  refine wt_getR 50 C kfX6_60 sc_33 rfl dX6_refresh_47 rfl ?_
  refine wt_getI 53 C kfX6_109 sc_19 rfl dX6_refresh_50 rfl ?_
  refine wt_icmp_ge 56 79 C dX6_refresh_53 rfl (by decide) (fun q1 => ?_) (fun q1 => ?_)
  · have h := (if_pos q1).symm.trans h
    refine wt_sub [0, 1] rfl ?_
    exact hex0 _ (Option.some.inj h).symm
  · have h := (if_neg q1).symm.trans h
    refine wt_aload_n 57 0 C dX6_refresh_56 rfl rfl ?_
    refine wt_getR 60 C kfX6_22 sc_33 rfl dX6_refresh_57 rfl ?_
    refine wt_aload_n 61 0 C dX6_refresh_60 rfl rfl ?_
    refine wt_getR 64 C kfX6_9 sc_33 rfl dX6_refresh_61 rfl ?_
    refine wt_iload_n 65 2 C dX6_refresh_64 rfl rfl ?_
    obtain ⟨hi2, h⟩ := ux_guard h
    refine wt_iald 66 (v2.toNatClampNeg) C sc_34 rfl hi2 dX6_refresh_65 rfl ?_
    refine wt_aload_n 67 0 C dX6_refresh_66 rfl rfl ?_
    refine wt_getR 70 C kfX6_18 sc_33 rfl dX6_refresh_67 rfl ?_
    obtain ⟨o3, hc4, h⟩ := Option.bind_eq_some_iff.mp h
    refine wt_callVv 73 [] C kvX6_119 sc_38 (mX0_joinMeter (cx_ok C) (is0_38) (is0_35) hc4) rfl rfl ⟨Nat.le_of_ble_eq_true rfl, Nat.le_of_ble_eq_true rfl⟩ (Nat.le_of_ble_eq_true rfl) dX6_refresh_70 rfl ?_
    refine wt_iinc 76 2 [(2, .int (v2 + 1)), (0, .ref (ux_ad X 33)), (1, .int v1)] (v2 + 1) C dX6_refresh_73 rfl rfl (by rfl) (by decide) rfl ?_
    refine wt_goto 45 C dX6_refresh_76 (by decide) ?_
    refine wt_sub [1, 2, 0] rfl ?_
    exact hin _ (Option.some.inj h).symm
def fX6_refresh (N : ux_N) (L : ux_L) : Option (Int32 × ux_N × ux_L) :=
  (fX6_openLines N).bind (fun o1 => (ux_lp (fun s : Int32 × ux_N => fX6_refresh_7b o1 s.1 s.2 L) ux_fu ((0 : Int32), N)).bind (fun e10 => (fX0_startWithEmptySet 38 L).bind (fun o11 => (ux_lp (fun s : Int32 × ux_L => fX6_refresh_45b o1 s.1 e10 s.2) ux_fu ((0 : Int32), o11)).bind (fun e20 => (fX0_mostLines 38 e20).bind (fun o21 => (fX0_leastSet 38 ((ux_u e10 33 0 o21) 33 0) e20).bind (fun o23 => (fX6_joinAll o1 (ux_u (ux_u e10 33 0 o21) 33 2 o23)).bind (fun o25 => (fX6_joinAll ((ux_u o25.2 33 1 o25.1) 33 2) (ux_u o25.2 33 1 o25.1)).bind (fun o27 => some (((ux_u (ux_u (ux_u o27.2 33 14 (0 : Int32)) 33 15 (0 : Int32)) 33 17 (0 : Int32)) 33 0), (ux_u (ux_u (ux_u o27.2 33 14 (0 : Int32)) 33 15 (0 : Int32)) 33 17 (0 : Int32)), e20)))))))))
set_option maxHeartbeats 4000000 in
set_option maxRecDepth 20000 in
theorem wX6_refresh {X : ux_X} (C : ux_C X cX6_refresh RX6 3 (some .int) 4 95 shC)   {N : ux_N} {L : ux_L} {o : Int32 × ux_N × ux_L} (hq : ux_Qi X o.1 o.2.1 o.2.2) (h : fX6_refresh N L = some o) : ux_Wt X 3 0 [(0, .ref (ux_ad X 33))] [] N L := by
  refine wt_aload_n 1 0 C dX6_refresh_0 rfl rfl ?_
  obtain ⟨o1, hc2, h⟩ := Option.bind_eq_some_iff.mp h
  refine wt_callVi 4 [] C kvX6_106 sc_33 (mX6_openLines (cx_ok C)  hc2) rfl rfl ⟨Nat.le_of_ble_eq_true rfl, Nat.le_of_ble_eq_true rfl⟩ (Nat.le_of_ble_eq_true rfl) dX6_refresh_1 rfl ?_
  refine wt_istore_n 5 [(1, .int o1), (0, .ref (ux_ad X 33))] C dX6_refresh_4 rfl (by decide) rfl ?_
  refine wt_iconst 6 0 C dX6_refresh_5 rfl (by decide) ?_
  refine wt_istore_n 7 [(2, .int (0 : Int32)), (1, .int o1), (0, .ref (ux_ad X 33))] C dX6_refresh_6 rfl (by decide) rfl ?_
  obtain ⟨e3, hl4, h⟩ := Option.bind_eq_some_iff.mp h
  refine wt_sub [2, 1, 0] rfl ?_
  refine ux_loop (fun s : Int32 × ux_N => fX6_refresh_7b o1 s.1 s.2 L) (fun s : Int32 × ux_N => ux_Wt X 3 7 [(0, .ref (ux_ad X 33)), (1, .int o1), (2, .int s.1)] [] s.2 L) (e := e3) ?_ hl4
  intro s5 o6 hb7 hi8 hx9
  refine wX6_refresh_7b C hi8 (fun x0 he => ?_) hb7
  · obtain ⟨e10, rfl⟩ : ∃ z, z = x0 := ⟨_, rfl⟩
    have h9 := hx9 _ he
    subst h9
    refine wt_aload_n 37 0 C dX6_refresh_36 rfl rfl ?_
    refine wt_getR 40 C kfX6_22 sc_33 rfl dX6_refresh_37 rfl ?_
    obtain ⟨o11, hc12, h⟩ := Option.bind_eq_some_iff.mp h
    refine wt_callVv 43 [] C kvX6_64 sc_38 (mX0_startWithEmptySet (cx_ok C) (is0_38) hc12) rfl rfl ⟨Nat.le_of_ble_eq_true rfl, Nat.le_of_ble_eq_true rfl⟩ (Nat.le_of_ble_eq_true rfl) dX6_refresh_40 rfl ?_
    refine wt_iconst 44 0 C dX6_refresh_43 rfl (by decide) ?_
    refine wt_istore_n 45 [(2, .int (0 : Int32)), (0, .ref (ux_ad X 33)), (1, .int o1)] C dX6_refresh_44 rfl (by decide) rfl ?_
    obtain ⟨e13, hl14, h⟩ := Option.bind_eq_some_iff.mp h
    refine wt_sub [1, 2, 0] rfl ?_
    refine ux_loop (fun s : Int32 × ux_L => fX6_refresh_45b o1 s.1 e10 s.2) (fun s : Int32 × ux_L => ux_Wt X 3 45 [(0, .ref (ux_ad X 33)), (1, .int o1), (2, .int s.1)] [] e10 s.2) (e := e13) ?_ hl14
    intro s15 o16 hb17 hi18 hx19
    refine wX6_refresh_45b C hi18 (fun x0 he => ?_) hb17
    · obtain ⟨e20, rfl⟩ : ∃ z, z = x0 := ⟨_, rfl⟩
      have h9 := hx19 _ he
      subst h9
      refine wt_aload_n 80 0 C dX6_refresh_79 rfl rfl ?_
      refine wt_aload_n 81 0 C dX6_refresh_80 rfl rfl ?_
      refine wt_getR 84 C kfX6_22 sc_33 rfl dX6_refresh_81 rfl ?_
      obtain ⟨o21, hc22, h⟩ := Option.bind_eq_some_iff.mp h
      refine wt_callVi 87 [.ref (ux_ad X 33)] C kvX6_123 sc_38 (mX0_mostLines (cx_ok C) (is0_38) hc22) rfl rfl ⟨Nat.le_of_ble_eq_true rfl, Nat.le_of_ble_eq_true rfl⟩ (Nat.le_of_ble_eq_true rfl) dX6_refresh_84 rfl ?_
      refine wt_putI 90 C kpX6_126 sc_33 rfl rfl rfl dX6_refresh_87 rfl ?_
      refine wt_aload_n 91 0 C dX6_refresh_90 rfl rfl ?_
      refine wt_aload_n 92 0 C dX6_refresh_91 rfl rfl ?_
      refine wt_getR 95 C kfX6_22 sc_33 rfl dX6_refresh_92 rfl ?_
      refine wt_aload_n 96 0 C dX6_refresh_95 rfl rfl ?_
      refine wt_getI 99 C kfX6_126 sc_33 rfl dX6_refresh_96 rfl ?_
      obtain ⟨o23, hc24, h⟩ := Option.bind_eq_some_iff.mp h
      refine wt_callVi 102 [.ref (ux_ad X 33)] C kvX6_129 sc_38 (mX0_leastSet (cx_ok C) (is0_38) hc24) rfl rfl ⟨Nat.le_of_ble_eq_true rfl, Nat.le_of_ble_eq_true rfl⟩ (Nat.le_of_ble_eq_true rfl) dX6_refresh_99 rfl ?_
      refine wt_putI 105 C kpX6_132 sc_33 rfl rfl rfl dX6_refresh_102 rfl ?_
      refine wt_aload_n 106 0 C dX6_refresh_105 rfl rfl ?_
      refine wt_aload_n 107 0 C dX6_refresh_106 rfl rfl ?_
      refine wt_iload_n 108 1 C dX6_refresh_107 rfl rfl ?_
      obtain ⟨o25, hc26, h⟩ := Option.bind_eq_some_iff.mp h
      refine wt_callVi 111 [.ref (ux_ad X 33)] C kvX6_135 sc_33 (mX6_joinAll (cx_ok C)  hc26) rfl rfl ⟨Nat.le_of_ble_eq_true rfl, Nat.le_of_ble_eq_true rfl⟩ (Nat.le_of_ble_eq_true rfl) dX6_refresh_108 rfl ?_
      refine wt_putI 114 C kpX6_138 sc_33 rfl rfl rfl dX6_refresh_111 rfl ?_
      refine wt_aload_n 115 0 C dX6_refresh_114 rfl rfl ?_
      refine wt_aload_n 116 0 C dX6_refresh_115 rfl rfl ?_
      refine wt_getI 119 C kfX6_132 sc_33 rfl dX6_refresh_116 rfl ?_
      obtain ⟨o27, hc28, h⟩ := Option.bind_eq_some_iff.mp h
      refine wt_callVi 122 [] C kvX6_135 sc_33 (mX6_joinAll (cx_ok C)  hc28) rfl rfl ⟨Nat.le_of_ble_eq_true rfl, Nat.le_of_ble_eq_true rfl⟩ (Nat.le_of_ble_eq_true rfl) dX6_refresh_119 rfl ?_
      refine wt_pop 123 C dX6_refresh_122 rfl rfl ?_
      refine wt_aload_n 124 0 C dX6_refresh_123 rfl rfl ?_
      refine wt_iconst 125 0 C dX6_refresh_124 rfl (by decide) ?_
      refine wt_putI 128 C kpX6_141 sc_33 rfl (ux_b_n (by decide)).1 (ux_b_n (by decide)).2 dX6_refresh_125 rfl ?_
      refine wt_aload_n 129 0 C dX6_refresh_128 rfl rfl ?_
      refine wt_iconst 130 0 C dX6_refresh_129 rfl (by decide) ?_
      refine wt_putI 133 C kpX6_145 sc_33 rfl (ux_b_n (by decide)).1 (ux_b_n (by decide)).2 dX6_refresh_130 rfl ?_
      refine wt_aload_n 134 0 C dX6_refresh_133 rfl rfl ?_
      refine wt_iconst 135 0 C dX6_refresh_134 rfl (by decide) ?_
      refine wt_putI 138 C kpX6_148 sc_33 rfl (ux_b_n (by decide)).1 (ux_b_n (by decide)).2 dX6_refresh_135 rfl ?_
      refine wt_aload_n 139 0 C dX6_refresh_138 rfl rfl ?_
      refine wt_getI 142 C kfX6_126 sc_33 rfl dX6_refresh_139 rfl ?_
      cases h
      exact wt_iret C hq dX6_refresh_142
theorem mX6_refresh {l : Launch} {G : ux_G} (hok : ux_ok G shC)   {N : ux_N} {L : ux_L} {o : Int32 × ux_N × ux_L} (h : fX6_refresh N L = some o) : ux_Mi l G yX6_refresh cX6_refresh 3 (some .int) 4 95 [.ref (gad G 33)] N L o.1 o.2.1 o.2.2 :=
  ux_ofi shC hok (by decide +kernel) (Nat.le_of_ble_eq_true rfl) (fun X hG hl C hq => by subst hG; subst hl; exact wX6_refresh C  hq h)
def fX6_islandOf_4b_33 (v1 : Int32) (v2 : Int32) (v3 : Int32) (N : ux_N) : Option ((Int32 × Int32) ⊕ (Int32)) :=
  some (.inl (v2, (v3 + 1)))
set_option maxHeartbeats 4000000 in
set_option maxRecDepth 20000 in
theorem wX6_islandOf_4b_33 {X : ux_X} (C : ux_C X cX6_islandOf RX6 4 (some .int) 1 22 shC) {v1 : Int32} {v2 : Int32} {v3 : Int32}  {N : ux_N} {L : ux_L} {o : (Int32 × Int32) ⊕ (Int32)} (hin : ∀ s : Int32 × Int32, o = .inl s → ux_Wt X 4 4 [(0, .ref (ux_ad X 33)), (1, .int v1), (2, .int s.1), (3, .int s.2)] [] N L) (hex0 : ∀ e : Int32, o = .inr (e) → ux_Wt X 4 39 [(2, .int e)] [] N L) (h : fX6_islandOf_4b_33 v1 v2 v3 N = some o) : ux_Wt X 4 33 [(0, .ref (ux_ad X 33)), (1, .int v1), (2, .int v2), (3, .int v3)] [] N L := by
  refine wt_iinc 36 3 [(3, .int (v3 + 1)), (0, .ref (ux_ad X 33)), (1, .int v1), (2, .int v2)] (v3 + 1) C dX6_islandOf_33 rfl rfl (by rfl) (by decide) rfl ?_
  refine wt_goto 4 C dX6_islandOf_36 (by decide) ?_
  refine wt_sub [1, 2, 3, 0] rfl ?_
  exact hin _ (Option.some.inj h).symm
def fX6_islandOf_4b (v1 : Int32) (v2 : Int32) (v3 : Int32) (N : ux_N) : Option ((Int32 × Int32) ⊕ (Int32)) :=
  if (N 1 0) ≤ v3 then (some (.inr (v2))) else ((fX2_areOne 100 v1 v3 N).bind (fun o2 => if o2 = 0 then (fX6_islandOf_4b_33 v1 v2 v3 N) else (fX6_islandOf_4b_33 v1 (v2 ||| ((1 : Int32) <<< (v3 &&& 31))) v3 N)))
set_option maxHeartbeats 4000000 in
set_option maxRecDepth 20000 in
theorem wX6_islandOf_4b {X : ux_X} (C : ux_C X cX6_islandOf RX6 4 (some .int) 1 22 shC) {v1 : Int32} {v2 : Int32} {v3 : Int32}  {N : ux_N} {L : ux_L} {o : (Int32 × Int32) ⊕ (Int32)} (hin : ∀ s : Int32 × Int32, o = .inl s → ux_Wt X 4 4 [(0, .ref (ux_ad X 33)), (1, .int v1), (2, .int s.1), (3, .int s.2)] [] N L) (hex0 : ∀ e : Int32, o = .inr (e) → ux_Wt X 4 39 [(2, .int e)] [] N L) (h : fX6_islandOf_4b v1 v2 v3 N = some o) : ux_Wt X 4 4 [(0, .ref (ux_ad X 33)), (1, .int v1), (2, .int v2), (3, .int v3)] [] N L := by
  refine wt_iload_n 5 3 C dX6_islandOf_4 rfl rfl ?_
  refine wt_aload_n 6 0 C dX6_islandOf_5 rfl rfl ?_
  refine wt_getR 9 C kfX6_56 sc_33 rfl dX6_islandOf_6 rfl ?_
  refine wt_getI 12 C kfX6_170 sc_1 rfl dX6_islandOf_9 rfl ?_
  refine wt_icmp_ge 15 39 C dX6_islandOf_12 rfl (by decide) (fun q1 => ?_) (fun q1 => ?_)
  · have h := (if_pos q1).symm.trans h
    refine wt_sub [2] rfl ?_
    exact hex0 _ (Option.some.inj h).symm
  · have h := (if_neg q1).symm.trans h
    refine wt_aload_n 16 0 C dX6_islandOf_15 rfl rfl ?_
    refine wt_getR 19 C kfX6_42 sc_33 rfl dX6_islandOf_16 rfl ?_
    refine wt_iload_n 20 1 C dX6_islandOf_19 rfl rfl ?_
    refine wt_iload_n 21 3 C dX6_islandOf_20 rfl rfl ?_
    obtain ⟨o2, hc3, h⟩ := Option.bind_eq_some_iff.mp h
    refine wt_callVi 24 [] C kvX6_90 sc_100 (mX2_areOne (cx_ok C) (is2_100) hc3) rfl rfl ⟨Nat.le_of_ble_eq_true rfl, Nat.le_of_ble_eq_true rfl⟩ (Nat.le_of_ble_eq_true rfl) dX6_islandOf_21 rfl ?_
    refine wt_if_eq 27 33 C dX6_islandOf_24 rfl (by decide) (fun q4 => ?_) (fun q4 => ?_)
    · have h := (if_pos q4).symm.trans h
      exact wX6_islandOf_4b_33 C hin hex0 h
    · have h := (if_neg q4).symm.trans h
      refine wt_iload_n 28 2 C dX6_islandOf_27 rfl rfl ?_
      refine wt_iconst 29 1 C dX6_islandOf_28 rfl (by decide) ?_
      refine wt_iload_n 30 3 C dX6_islandOf_29 rfl rfl ?_
      refine wt_ishl 31 C dX6_islandOf_30 rfl ?_
      refine wt_ior 32 C dX6_islandOf_31 rfl ?_
      refine wt_istore_n 33 [(2, .int (v2 ||| ((1 : Int32) <<< (v3 &&& 31)))), (0, .ref (ux_ad X 33)), (1, .int v1), (3, .int v3)] C dX6_islandOf_32 rfl (by decide) rfl ?_
      refine wt_sub [1, 2, 0, 3] rfl ?_
      exact wX6_islandOf_4b_33 C hin hex0 h
def fX6_islandOf (v1 : Int32) (N : ux_N) : Option (Int32) :=
  (ux_lp (fun s : Int32 × Int32 => fX6_islandOf_4b v1 s.1 s.2 N) ux_fu ((0 : Int32), (0 : Int32))).bind (fun e8 => some e8)
set_option maxHeartbeats 4000000 in
set_option maxRecDepth 20000 in
theorem wX6_islandOf {X : ux_X} (C : ux_C X cX6_islandOf RX6 4 (some .int) 1 22 shC) {v1 : Int32}  {N : ux_N} {L : ux_L} {o : Int32} (hq : ux_Qi X o N L) (h : fX6_islandOf v1 N = some o) : ux_Wt X 4 0 [(0, .ref (ux_ad X 33)), (1, .int v1)] [] N L := by
  refine wt_iconst 1 0 C dX6_islandOf_0 rfl (by decide) ?_
  refine wt_istore_n 2 [(2, .int (0 : Int32)), (0, .ref (ux_ad X 33)), (1, .int v1)] C dX6_islandOf_1 rfl (by decide) rfl ?_
  refine wt_iconst 3 0 C dX6_islandOf_2 rfl (by decide) ?_
  refine wt_istore_n 4 [(3, .int (0 : Int32)), (2, .int (0 : Int32)), (0, .ref (ux_ad X 33)), (1, .int v1)] C dX6_islandOf_3 rfl (by decide) rfl ?_
  obtain ⟨e1, hl2, h⟩ := Option.bind_eq_some_iff.mp h
  refine wt_sub [2, 3, 1, 0] rfl ?_
  refine ux_loop (fun s : Int32 × Int32 => fX6_islandOf_4b v1 s.1 s.2 N) (fun s : Int32 × Int32 => ux_Wt X 4 4 [(0, .ref (ux_ad X 33)), (1, .int v1), (2, .int s.1), (3, .int s.2)] [] N L) (e := e1) ?_ hl2
  intro s3 o4 hb5 hi6 hx7
  refine wX6_islandOf_4b C hi6 (fun x0 he => ?_) hb5
  · obtain ⟨e8, rfl⟩ : ∃ z, z = x0 := ⟨_, rfl⟩
    have h9 := hx7 _ he
    subst h9
    refine wt_iload_n 40 0 C dX6_islandOf_39 rfl rfl ?_
    cases h
    exact wt_iret C hq dX6_islandOf_40
theorem mX6_islandOf {l : Launch} {G : ux_G} (hok : ux_ok G shC) {v1 : Int32}  {N : ux_N} {L : ux_L} {o : Int32} (h : fX6_islandOf v1 N = some o) : ux_Mi l G yX6_islandOf cX6_islandOf 4 (some .int) 1 22 [.ref (gad G 33), .int v1] N L o N L :=
  ux_ofi shC hok (by decide +kernel) (Nat.le_of_ble_eq_true rfl) (fun X hG hl C hq => by subst hG; subst hl; exact wX6_islandOf C  hq h)
def fX6_learnServers_34 (N : ux_N) : Option (ux_N) :=
  some N
set_option maxHeartbeats 4000000 in
set_option maxRecDepth 20000 in
theorem wX6_learnServers_34 {X : ux_X} (C : ux_C X cX6_learnServers RX6 1 none 4 92 shC)   {N : ux_N} {L : ux_L} {o : ux_N} (hq : ux_Qv X o L) (h : fX6_learnServers_34 N = some o) : ux_Wt X 1 34 [] [] N L := by
  cases h
  exact wt_vret C hq dX6_learnServers_34
def fX6_learnServers (N : ux_N) : Option (ux_N) :=
  if (N 33 14) = 0 then ((fX8_wholeMeters 19 N).bind (fun o2 => (fX5_assign 34 9 (N 33 2) o2 N).bind (fun o4 => fX6_learnServers_34 (ux_u o4 33 14 (1 : Int32))))) else (fX6_learnServers_34 N)
set_option maxHeartbeats 4000000 in
set_option maxRecDepth 20000 in
theorem wX6_learnServers {X : ux_X} (C : ux_C X cX6_learnServers RX6 1 none 4 92 shC)   {N : ux_N} {L : ux_L} {o : ux_N} (hq : ux_Qv X o L) (h : fX6_learnServers N = some o) : ux_Wt X 1 0 [(0, .ref (ux_ad X 33))] [] N L := by
  refine wt_aload_n 1 0 C dX6_learnServers_0 rfl rfl ?_
  refine wt_getI 4 C kfX6_141 sc_33 rfl dX6_learnServers_1 rfl ?_
  refine wt_if_ne 7 34 C dX6_learnServers_4 rfl (by decide) (fun q1 => ?_) (fun q1 => ?_)
  · have h := (if_neg q1).symm.trans h
    refine wt_sub [] rfl ?_
    exact wX6_learnServers_34 C hq h
  · have h := (if_pos q1).symm.trans h
    refine wt_aload_n 8 0 C dX6_learnServers_7 rfl rfl ?_
    refine wt_getR 11 C kfX6_52 sc_33 rfl dX6_learnServers_8 rfl ?_
    refine wt_aload_n 12 0 C dX6_learnServers_11 rfl rfl ?_
    refine wt_getI 15 C kfX6_132 sc_33 rfl dX6_learnServers_12 rfl ?_
    refine wt_aload_n 16 0 C dX6_learnServers_15 rfl rfl ?_
    refine wt_getR 19 C kfX6_9 sc_33 rfl dX6_learnServers_16 rfl ?_
    refine wt_aload_n 20 0 C dX6_learnServers_19 rfl rfl ?_
    refine wt_getR 23 C kfX6_60 sc_33 rfl dX6_learnServers_20 rfl ?_
    obtain ⟨o2, hc3, h⟩ := Option.bind_eq_some_iff.mp h
    refine wt_callVi 26 [.ref (ux_ad X 34), .int (N 33 2), .ref (ux_ad X 103)] C kvX6_185 sc_19 (mX8_wholeMeters (cx_ok C) (is8_19) hc3) rfl rfl ⟨Nat.le_of_ble_eq_true rfl, Nat.le_of_ble_eq_true rfl⟩ (Nat.le_of_ble_eq_true rfl) dX6_learnServers_23 rfl ?_
    obtain ⟨o4, hc5, h⟩ := Option.bind_eq_some_iff.mp h
    refine wt_callVv 29 [] C kvX6_188 sc_103 (mX5_assign (cx_ok C) (sc_34) hc5) rfl rfl ⟨Nat.le_of_ble_eq_true rfl, Nat.le_of_ble_eq_true rfl⟩ (Nat.le_of_ble_eq_true rfl) dX6_learnServers_26 rfl ?_
    refine wt_aload_n 30 0 C dX6_learnServers_29 rfl rfl ?_
    refine wt_iconst 31 1 C dX6_learnServers_30 rfl (by decide) ?_
    refine wt_putI 34 C kpX6_141 sc_33 rfl (ux_b_n (by decide)).1 (ux_b_n (by decide)).2 dX6_learnServers_31 rfl ?_
    refine wt_sub [] rfl ?_
    exact wX6_learnServers_34 C hq h
theorem mX6_learnServers {l : Launch} {G : ux_G} (hok : ux_ok G shC)   {N : ux_N} {L : ux_L} {o : ux_N} (h : fX6_learnServers N = some o) : ux_Mv l G yX6_learnServers cX6_learnServers 1 4 92 [.ref (gad G 33)] N L o L :=
  ux_ofv shC hok (by decide +kernel) (Nat.le_of_ble_eq_true rfl) (fun X hG hl C hq => by subst hG; subst hl; exact wX6_learnServers C  hq h)
def fX6_meterOf (v1 : Int32) (N : ux_N) : Option (Int32 × ux_N) :=
  (fX6_learnServers N).bind (fun o1 => if ux_in v1 10 then (some ((o1 104 (v1.toNatClampNeg)), o1)) else none)
set_option maxHeartbeats 4000000 in
set_option maxRecDepth 20000 in
theorem wX6_meterOf {X : ux_X} (C : ux_C X cX6_meterOf RX6 2 (some .int) 5 112 shC) {v1 : Int32}  {N : ux_N} {L : ux_L} {o : Int32 × ux_N} (hq : ux_Qi X o.1 o.2 L) (h : fX6_meterOf v1 N = some o) : ux_Wt X 2 0 [(0, .ref (ux_ad X 33)), (1, .int v1)] [] N L := by
  refine wt_aload_n 1 0 C dX6_meterOf_0 rfl rfl ?_
  obtain ⟨o1, hc2, h⟩ := Option.bind_eq_some_iff.mp h
  refine wt_callVv 4 [] C kvX6_173 sc_33 (mX6_learnServers (cx_ok C)  hc2) rfl rfl ⟨Nat.le_of_ble_eq_true rfl, Nat.le_of_ble_eq_true rfl⟩ (Nat.le_of_ble_eq_true rfl) dX6_meterOf_1 rfl ?_
  refine wt_aload_n 5 0 C dX6_meterOf_4 rfl rfl ?_
  refine wt_getR 8 C kfX6_52 sc_33 rfl dX6_meterOf_5 rfl ?_
  refine wt_getR 11 C kfX6_176 sc_103 rfl dX6_meterOf_8 rfl ?_
  refine wt_iload_n 12 1 C dX6_meterOf_11 rfl rfl ?_
  obtain ⟨hi3, h⟩ := ux_guard h
  refine wt_iald 13 (v1.toNatClampNeg) C sc_104 rfl hi3 dX6_meterOf_12 rfl ?_
  cases h
  exact wt_iret C hq dX6_meterOf_13
theorem mX6_meterOf {l : Launch} {G : ux_G} (hok : ux_ok G shC) {v1 : Int32}  {N : ux_N} {L : ux_L} {o : Int32 × ux_N} (h : fX6_meterOf v1 N = some o) : ux_Mi l G yX6_meterOf cX6_meterOf 2 (some .int) 5 112 [.ref (gad G 33), .int v1] N L o.1 o.2 L :=
  ux_ofi shC hok (by decide +kernel) (Nat.le_of_ble_eq_true rfl) (fun X hG hl C hq => by subst hG; subst hl; exact wX6_meterOf C  hq h)
def fX6_lineOf (v1 : Int32) (N : ux_N) : Option (Int32 × ux_N) :=
  (fX6_learnServers N).bind (fun o1 => if ux_in v1 9 then (some ((o1 105 (v1.toNatClampNeg)), o1)) else none)
set_option maxHeartbeats 4000000 in
set_option maxRecDepth 20000 in
theorem wX6_lineOf {X : ux_X} (C : ux_C X cX6_lineOf RX6 2 (some .int) 5 112 shC) {v1 : Int32}  {N : ux_N} {L : ux_L} {o : Int32 × ux_N} (hq : ux_Qi X o.1 o.2 L) (h : fX6_lineOf v1 N = some o) : ux_Wt X 2 0 [(0, .ref (ux_ad X 33)), (1, .int v1)] [] N L := by
  refine wt_aload_n 1 0 C dX6_lineOf_0 rfl rfl ?_
  obtain ⟨o1, hc2, h⟩ := Option.bind_eq_some_iff.mp h
  refine wt_callVv 4 [] C kvX6_173 sc_33 (mX6_learnServers (cx_ok C)  hc2) rfl rfl ⟨Nat.le_of_ble_eq_true rfl, Nat.le_of_ble_eq_true rfl⟩ (Nat.le_of_ble_eq_true rfl) dX6_lineOf_1 rfl ?_
  refine wt_aload_n 5 0 C dX6_lineOf_4 rfl rfl ?_
  refine wt_getR 8 C kfX6_52 sc_33 rfl dX6_lineOf_5 rfl ?_
  refine wt_getR 11 C kfX6_179 sc_103 rfl dX6_lineOf_8 rfl ?_
  refine wt_iload_n 12 1 C dX6_lineOf_11 rfl rfl ?_
  obtain ⟨hi3, h⟩ := ux_guard h
  refine wt_iald 13 (v1.toNatClampNeg) C sc_105 rfl hi3 dX6_lineOf_12 rfl ?_
  cases h
  exact wt_iret C hq dX6_lineOf_13
theorem mX6_lineOf {l : Launch} {G : ux_G} (hok : ux_ok G shC) {v1 : Int32}  {N : ux_N} {L : ux_L} {o : Int32 × ux_N} (h : fX6_lineOf v1 N = some o) : ux_Mi l G yX6_lineOf cX6_lineOf 2 (some .int) 5 112 [.ref (gad G 33), .int v1] N L o.1 o.2 L :=
  ux_ofi shC hok (by decide +kernel) (Nat.le_of_ble_eq_true rfl) (fun X hG hl C hq => by subst hG; subst hl; exact wX6_lineOf C  hq h)
def fX6_spares (N : ux_N) : Option (Int32 × ux_N) :=
  (fX6_learnServers N).bind (fun o1 => some ((o1 103 0), o1))
set_option maxHeartbeats 4000000 in
set_option maxRecDepth 20000 in
theorem wX6_spares {X : ux_X} (C : ux_C X cX6_spares RX6 1 (some .int) 5 112 shC)   {N : ux_N} {L : ux_L} {o : Int32 × ux_N} (hq : ux_Qi X o.1 o.2 L) (h : fX6_spares N = some o) : ux_Wt X 1 0 [(0, .ref (ux_ad X 33))] [] N L := by
  refine wt_aload_n 1 0 C dX6_spares_0 rfl rfl ?_
  obtain ⟨o1, hc2, h⟩ := Option.bind_eq_some_iff.mp h
  refine wt_callVv 4 [] C kvX6_173 sc_33 (mX6_learnServers (cx_ok C)  hc2) rfl rfl ⟨Nat.le_of_ble_eq_true rfl, Nat.le_of_ble_eq_true rfl⟩ (Nat.le_of_ble_eq_true rfl) dX6_spares_1 rfl ?_
  refine wt_aload_n 5 0 C dX6_spares_4 rfl rfl ?_
  refine wt_getR 8 C kfX6_52 sc_33 rfl dX6_spares_5 rfl ?_
  refine wt_getI 11 C kfX6_182 sc_103 rfl dX6_spares_8 rfl ?_
  cases h
  exact wt_iret C hq dX6_spares_11
theorem mX6_spares {l : Launch} {G : ux_G} (hok : ux_ok G shC)   {N : ux_N} {L : ux_L} {o : Int32 × ux_N} (h : fX6_spares N = some o) : ux_Mi l G yX6_spares cX6_spares 1 (some .int) 5 112 [.ref (gad G 33)] N L o.1 o.2 L :=
  ux_ofi shC hok (by decide +kernel) (Nat.le_of_ble_eq_true rfl) (fun X hG hl C hq => by subst hG; subst hl; exact wX6_spares C  hq h)
def fX6_isCritical_9b_42 (v1 : Int32) (v2 : Int32) (N : ux_N) (L : ux_L) : Option ((Int32 × ux_L) ⊕ (ux_L)) :=
  some (.inl ((v2 + 1), L))
set_option maxHeartbeats 4000000 in
set_option maxRecDepth 20000 in
theorem wX6_isCritical_9b_42 {X : ux_X} (C : ux_C X cX6_isCritical RX6 3 (some .boolean) 2 83 shC) {v1 : Int32} {v2 : Int32}  {N : ux_N} {L : ux_L} {o : (Int32 × ux_L) ⊕ (ux_L)} (hin : ∀ s : Int32 × ux_L, o = .inl s → ux_Wt X 3 9 [(0, .ref (ux_ad X 33)), (1, .int v1), (2, .int s.1)] [] N s.2) (hex0 : ∀ e : ux_L, o = .inr (e) → ux_Wt X 3 48 [(0, .ref (ux_ad X 33))] [] N e) (h : fX6_isCritical_9b_42 v1 v2 N L = some o) : ux_Wt X 3 42 [(0, .ref (ux_ad X 33)), (1, .int v1), (2, .int v2)] [] N L := by
  refine wt_iinc 45 2 [(2, .int (v2 + 1)), (0, .ref (ux_ad X 33)), (1, .int v1)] (v2 + 1) C dX6_isCritical_42 rfl rfl (by rfl) (by decide) rfl ?_
  refine wt_goto 9 C dX6_isCritical_45 (by decide) ?_
  refine wt_sub [1, 2, 0] rfl ?_
  exact hin _ (Option.some.inj h).symm
def fX6_isCritical_9b (v1 : Int32) (v2 : Int32) (N : ux_N) (L : ux_L) : Option ((Int32 × ux_L) ⊕ (ux_L)) :=
  if (N 19 0) ≤ v2 then (some (.inr (L))) else (if v2 = v1 then (fX6_isCritical_9b_42 v1 v2 N L) else (if ux_in v2 9 then ((fX0_joinMeter 41 35 (N 34 (v2.toNatClampNeg)) L).bind (fun o4 => fX6_isCritical_9b_42 v1 v2 N o4)) else none))
set_option maxHeartbeats 4000000 in
set_option maxRecDepth 20000 in
theorem wX6_isCritical_9b {X : ux_X} (C : ux_C X cX6_isCritical RX6 3 (some .boolean) 2 83 shC) {v1 : Int32} {v2 : Int32}  {N : ux_N} {L : ux_L} {o : (Int32 × ux_L) ⊕ (ux_L)} (hin : ∀ s : Int32 × ux_L, o = .inl s → ux_Wt X 3 9 [(0, .ref (ux_ad X 33)), (1, .int v1), (2, .int s.1)] [] N s.2) (hex0 : ∀ e : ux_L, o = .inr (e) → ux_Wt X 3 48 [(0, .ref (ux_ad X 33))] [] N e) (h : fX6_isCritical_9b v1 v2 N L = some o) : ux_Wt X 3 9 [(0, .ref (ux_ad X 33)), (1, .int v1), (2, .int v2)] [] N L := by
  refine wt_iload_n 10 2 C dX6_isCritical_9 rfl rfl ?_
  refine wt_aload_n 11 0 C dX6_isCritical_10 rfl rfl ?_
  refine wt_getR 14 C kfX6_60 sc_33 rfl dX6_isCritical_11 rfl ?_
  refine wt_getI 17 C kfX6_109 sc_19 rfl dX6_isCritical_14 rfl ?_
  refine wt_icmp_ge 20 48 C dX6_isCritical_17 rfl (by decide) (fun q1 => ?_) (fun q1 => ?_)
  · have h := (if_pos q1).symm.trans h
    refine wt_sub [0] rfl ?_
    exact hex0 _ (Option.some.inj h).symm
  · have h := (if_neg q1).symm.trans h
    refine wt_iload_n 21 2 C dX6_isCritical_20 rfl rfl ?_
    refine wt_iload_n 22 1 C dX6_isCritical_21 rfl rfl ?_
    refine wt_icmp_eq 25 42 C dX6_isCritical_22 rfl (by decide) (fun q2 => ?_) (fun q2 => ?_)
    · have h := (if_pos q2).symm.trans h
      exact wX6_isCritical_9b_42 C hin hex0 h
    · have h := (if_neg q2).symm.trans h
      refine wt_aload_n 26 0 C dX6_isCritical_25 rfl rfl ?_
      refine wt_getR 29 C kfX6_25 sc_33 rfl dX6_isCritical_26 rfl ?_
      refine wt_aload_n 30 0 C dX6_isCritical_29 rfl rfl ?_
      refine wt_getR 33 C kfX6_9 sc_33 rfl dX6_isCritical_30 rfl ?_
      refine wt_iload_n 34 2 C dX6_isCritical_33 rfl rfl ?_
      obtain ⟨hi3, h⟩ := ux_guard h
      refine wt_iald 35 (v2.toNatClampNeg) C sc_34 rfl hi3 dX6_isCritical_34 rfl ?_
      refine wt_aload_n 36 0 C dX6_isCritical_35 rfl rfl ?_
      refine wt_getR 39 C kfX6_18 sc_33 rfl dX6_isCritical_36 rfl ?_
      obtain ⟨o4, hc5, h⟩ := Option.bind_eq_some_iff.mp h
      refine wt_callVv 42 [] C kvX6_119 sc_41 (mX0_joinMeter (cx_ok C) (is0_41) (is0_35) hc5) rfl rfl ⟨Nat.le_of_ble_eq_true rfl, Nat.le_of_ble_eq_true rfl⟩ (Nat.le_of_ble_eq_true rfl) dX6_isCritical_39 rfl ?_
      exact wX6_isCritical_9b_42 C hin hex0 h
def fX6_isCritical_67 (s0 : Int32) (N : ux_N) (L : ux_L) : Option (Int32 × ux_L) :=
  if ux_b s0 then (some (s0, L)) else none
set_option maxHeartbeats 4000000 in
set_option maxRecDepth 20000 in
theorem wX6_isCritical_67 {X : ux_X} (C : ux_C X cX6_isCritical RX6 3 (some .boolean) 2 83 shC) {s0 : Int32}  {N : ux_N} {L : ux_L} {o : Int32 × ux_L} (hq : ux_Qi X o.1 N o.2) (h : fX6_isCritical_67 s0 N L = some o) : ux_Wt X 3 67 [] [.int s0] N L := by
  obtain ⟨hb1, h⟩ := ux_guard h
  cases h
  exact wt_zret C (ux_b_n hb1).1 hq dX6_isCritical_67
def fX6_isCritical (v1 : Int32) (N : ux_N) (L : ux_L) : Option (Int32 × ux_L) :=
  (fX0_startWithEmptySet 41 L).bind (fun o1 => (ux_lp (fun s : Int32 × ux_L => fX6_isCritical_9b v1 s.1 N s.2) ux_fu ((0 : Int32), o1)).bind (fun e10 => (fX0_mostLines 41 e10).bind (fun o11 => if (N 33 0) ≤ o11 then (fX6_isCritical_67 (0 : Int32) N e10) else (fX6_isCritical_67 (1 : Int32) N e10))))
set_option maxHeartbeats 4000000 in
set_option maxRecDepth 20000 in
theorem wX6_isCritical {X : ux_X} (C : ux_C X cX6_isCritical RX6 3 (some .boolean) 2 83 shC) {v1 : Int32}  {N : ux_N} {L : ux_L} {o : Int32 × ux_L} (hq : ux_Qi X o.1 N o.2) (h : fX6_isCritical v1 N L = some o) : ux_Wt X 3 0 [(0, .ref (ux_ad X 33)), (1, .int v1)] [] N L := by
  refine wt_aload_n 1 0 C dX6_isCritical_0 rfl rfl ?_
  refine wt_getR 4 C kfX6_25 sc_33 rfl dX6_isCritical_1 rfl ?_
  obtain ⟨o1, hc2, h⟩ := Option.bind_eq_some_iff.mp h
  refine wt_callVv 7 [] C kvX6_64 sc_41 (mX0_startWithEmptySet (cx_ok C) (is0_41) hc2) rfl rfl ⟨Nat.le_of_ble_eq_true rfl, Nat.le_of_ble_eq_true rfl⟩ (Nat.le_of_ble_eq_true rfl) dX6_isCritical_4 rfl ?_
  refine wt_iconst 8 0 C dX6_isCritical_7 rfl (by decide) ?_
  refine wt_istore_n 9 [(2, .int (0 : Int32)), (0, .ref (ux_ad X 33)), (1, .int v1)] C dX6_isCritical_8 rfl (by decide) rfl ?_
  obtain ⟨e3, hl4, h⟩ := Option.bind_eq_some_iff.mp h
  refine wt_sub [1, 2, 0] rfl ?_
  refine ux_loop (fun s : Int32 × ux_L => fX6_isCritical_9b v1 s.1 N s.2) (fun s : Int32 × ux_L => ux_Wt X 3 9 [(0, .ref (ux_ad X 33)), (1, .int v1), (2, .int s.1)] [] N s.2) (e := e3) ?_ hl4
  intro s5 o6 hb7 hi8 hx9
  refine wX6_isCritical_9b C hi8 (fun x0 he => ?_) hb7
  · obtain ⟨e10, rfl⟩ : ∃ z, z = x0 := ⟨_, rfl⟩
    have h9 := hx9 _ he
    subst h9
    refine wt_aload_n 49 0 C dX6_isCritical_48 rfl rfl ?_
    refine wt_getR 52 C kfX6_25 sc_33 rfl dX6_isCritical_49 rfl ?_
    obtain ⟨o11, hc12, h⟩ := Option.bind_eq_some_iff.mp h
    refine wt_callVi 55 [] C kvX6_123 sc_41 (mX0_mostLines (cx_ok C) (is0_41) hc12) rfl rfl ⟨Nat.le_of_ble_eq_true rfl, Nat.le_of_ble_eq_true rfl⟩ (Nat.le_of_ble_eq_true rfl) dX6_isCritical_52 rfl ?_
    refine wt_aload_n 56 0 C dX6_isCritical_55 rfl rfl ?_
    refine wt_getI 59 C kfX6_126 sc_33 rfl dX6_isCritical_56 rfl ?_
    refine wt_icmp_ge 62 66 C dX6_isCritical_59 rfl (by decide) (fun q13 => ?_) (fun q13 => ?_)
    · have h := (if_pos q13).symm.trans h
      refine wt_iconst 67 0 C dX6_isCritical_66 rfl (by decide) ?_
      refine wt_sub [] rfl ?_
      exact wX6_isCritical_67 C hq h
    · have h := (if_neg q13).symm.trans h
      refine wt_iconst 63 1 C dX6_isCritical_62 rfl (by decide) ?_
      refine wt_goto 67 C dX6_isCritical_63 (by decide) ?_
      refine wt_sub [] rfl ?_
      exact wX6_isCritical_67 C hq h
theorem mX6_isCritical {l : Launch} {G : ux_G} (hok : ux_ok G shC) {v1 : Int32}  {N : ux_N} {L : ux_L} {o : Int32 × ux_L} (h : fX6_isCritical v1 N L = some o) : ux_Mi l G yX6_isCritical cX6_isCritical 3 (some .boolean) 2 83 [.ref (gad G 33), .int v1] N L o.1 N o.2 :=
  ux_ofi shC hok (by decide +kernel) (Nat.le_of_ble_eq_true rfl) (fun X hG hl C hq => by subst hG; subst hl; exact wX6_isCritical C  hq h)
def fX6_lossOf_20b (v2 : Int32) (v3 : Int32) (N : ux_N) (L : ux_L) : Option ((Int32 × ux_L) ⊕ (ux_L)) :=
  if (N 19 0) ≤ v3 then (some (.inr (L))) else ((fX6_reachOf v3 v2 N).bind (fun o2 => (fX0_joinMeter 41 35 o2 L).bind (fun o4 => some (.inl ((v3 + 1), o4)))))
set_option maxHeartbeats 4000000 in
set_option maxRecDepth 20000 in
theorem wX6_lossOf_20b {X : ux_X} (C : ux_C X cX6_lossOf RX6 4 (some .int) 4 95 shC) {v2 : Int32} {v3 : Int32}  {N : ux_N} {L : ux_L} {o : (Int32 × ux_L) ⊕ (ux_L)} (hin : ∀ s : Int32 × ux_L, o = .inl s → ux_Wt X 4 20 [(0, .ref (ux_ad X 33)), (2, .int v2), (3, .int s.1)] [] N s.2) (hex0 : ∀ e : ux_L, o = .inr (e) → ux_Wt X 4 54 [(0, .ref (ux_ad X 33))] [] N e) (h : fX6_lossOf_20b v2 v3 N L = some o) : ux_Wt X 4 20 [(0, .ref (ux_ad X 33)), (2, .int v2), (3, .int v3)] [] N L := by
  refine wt_iload_n 21 2 C dX6_lossOf_20 rfl rfl ?_
  refine wt_aload_n 22 0 C dX6_lossOf_21 rfl rfl ?_
  refine wt_getR 25 C kfX6_60 sc_33 rfl dX6_lossOf_22 rfl ?_
  refine wt_getI 28 C kfX6_109 sc_19 rfl dX6_lossOf_25 rfl ?_
  refine wt_icmp_ge 31 54 C dX6_lossOf_28 rfl (by decide) (fun q1 => ?_) (fun q1 => ?_)
  · have h := (if_pos q1).symm.trans h
    refine wt_sub [0] rfl ?_
    exact hex0 _ (Option.some.inj h).symm
  · have h := (if_neg q1).symm.trans h
    refine wt_aload_n 32 0 C dX6_lossOf_31 rfl rfl ?_
    refine wt_getR 35 C kfX6_25 sc_33 rfl dX6_lossOf_32 rfl ?_
    refine wt_aload_n 36 0 C dX6_lossOf_35 rfl rfl ?_
    refine wt_iload_n 37 2 C dX6_lossOf_36 rfl rfl ?_
    refine wt_iload_n 38 1 C dX6_lossOf_37 rfl rfl ?_
    obtain ⟨o2, hc3, h⟩ := Option.bind_eq_some_iff.mp h
    refine wt_callVi 41 [.ref (ux_ad X 41)] C kvX6_115 sc_33 (mX6_reachOf (cx_ok C)  hc3) rfl rfl ⟨Nat.le_of_ble_eq_true rfl, Nat.le_of_ble_eq_true rfl⟩ (Nat.le_of_ble_eq_true rfl) dX6_lossOf_38 rfl ?_
    refine wt_aload_n 42 0 C dX6_lossOf_41 rfl rfl ?_
    refine wt_getR 45 C kfX6_18 sc_33 rfl dX6_lossOf_42 rfl ?_
    obtain ⟨o4, hc5, h⟩ := Option.bind_eq_some_iff.mp h
    refine wt_callVv 48 [] C kvX6_119 sc_41 (mX0_joinMeter (cx_ok C) (is0_41) (is0_35) hc5) rfl rfl ⟨Nat.le_of_ble_eq_true rfl, Nat.le_of_ble_eq_true rfl⟩ (Nat.le_of_ble_eq_true rfl) dX6_lossOf_45 rfl ?_
    refine wt_iinc 51 2 [(3, .int (v3 + 1)), (0, .ref (ux_ad X 33)), (2, .int v2)] (v3 + 1) C dX6_lossOf_48 rfl rfl (by rfl) (by decide) rfl ?_
    refine wt_goto 20 C dX6_lossOf_51 (by decide) ?_
    refine wt_sub [1, 2, 0] rfl ?_
    exact hin _ (Option.some.inj h).symm
def fX6_lossOf (v1 : Int32) (N : ux_N) (L : ux_L) : Option (Int32 × ux_L) :=
  (fX6_openLines N).bind (fun o1 => (fX0_startWithEmptySet 41 L).bind (fun o3 => (ux_lp (fun s : Int32 × ux_L => fX6_lossOf_20b (o1 &&& (((1 : Int32) <<< (v1 &&& 31)) ^^^ (-1 : Int32))) s.1 N s.2) ux_fu ((0 : Int32), o3)).bind (fun e12 => (fX0_mostLines 41 e12).bind (fun o13 => some (((N 33 0) - o13), e12)))))
set_option maxHeartbeats 4000000 in
set_option maxRecDepth 20000 in
theorem wX6_lossOf {X : ux_X} (C : ux_C X cX6_lossOf RX6 4 (some .int) 4 95 shC) {v1 : Int32}  {N : ux_N} {L : ux_L} {o : Int32 × ux_L} (hq : ux_Qi X o.1 N o.2) (h : fX6_lossOf v1 N L = some o) : ux_Wt X 4 0 [(0, .ref (ux_ad X 33)), (1, .int v1)] [] N L := by
  refine wt_aload_n 1 0 C dX6_lossOf_0 rfl rfl ?_
  obtain ⟨o1, hc2, h⟩ := Option.bind_eq_some_iff.mp h
  refine wt_callVi 4 [] C kvX6_106 sc_33 (mX6_openLines (cx_ok C)  hc2) rfl rfl ⟨Nat.le_of_ble_eq_true rfl, Nat.le_of_ble_eq_true rfl⟩ (Nat.le_of_ble_eq_true rfl) dX6_lossOf_1 rfl ?_
  refine wt_iconst 5 1 C dX6_lossOf_4 rfl (by decide) ?_
  refine wt_iload_n 6 1 C dX6_lossOf_5 rfl rfl ?_
  refine wt_ishl 7 C dX6_lossOf_6 rfl ?_
  refine wt_iconst 8 (-1) C dX6_lossOf_7 rfl (by decide) ?_
  refine wt_ixor 9 C dX6_lossOf_8 rfl ?_
  refine wt_iand 10 C dX6_lossOf_9 rfl ?_
  refine wt_istore_n 11 [(2, .int (o1 &&& (((1 : Int32) <<< (v1 &&& 31)) ^^^ (-1 : Int32)))), (0, .ref (ux_ad X 33)), (1, .int v1)] C dX6_lossOf_10 rfl (by decide) rfl ?_
  refine wt_aload_n 12 1 C dX6_lossOf_11 rfl rfl ?_
  refine wt_getR 15 C kfX6_25 sc_33 rfl dX6_lossOf_12 rfl ?_
  obtain ⟨o3, hc4, h⟩ := Option.bind_eq_some_iff.mp h
  refine wt_callVv 18 [] C kvX6_64 sc_41 (mX0_startWithEmptySet (cx_ok C) (is0_41) hc4) rfl rfl ⟨Nat.le_of_ble_eq_true rfl, Nat.le_of_ble_eq_true rfl⟩ (Nat.le_of_ble_eq_true rfl) dX6_lossOf_15 rfl ?_
  refine wt_iconst 19 0 C dX6_lossOf_18 rfl (by decide) ?_
  refine wt_istore_n 20 [(3, .int (0 : Int32)), (2, .int (o1 &&& (((1 : Int32) <<< (v1 &&& 31)) ^^^ (-1 : Int32)))), (0, .ref (ux_ad X 33)), (1, .int v1)] C dX6_lossOf_19 rfl (by decide) rfl ?_
  obtain ⟨e5, hl6, h⟩ := Option.bind_eq_some_iff.mp h
  refine wt_sub [2, 1, 0] rfl ?_
  refine ux_loop (fun s : Int32 × ux_L => fX6_lossOf_20b (o1 &&& (((1 : Int32) <<< (v1 &&& 31)) ^^^ (-1 : Int32))) s.1 N s.2) (fun s : Int32 × ux_L => ux_Wt X 4 20 [(0, .ref (ux_ad X 33)), (2, .int (o1 &&& (((1 : Int32) <<< (v1 &&& 31)) ^^^ (-1 : Int32)))), (3, .int s.1)] [] N s.2) (e := e5) ?_ hl6
  intro s7 o8 hb9 hi10 hx11
  refine wX6_lossOf_20b C hi10 (fun x0 he => ?_) hb9
  · obtain ⟨e12, rfl⟩ : ∃ z, z = x0 := ⟨_, rfl⟩
    have h9 := hx11 _ he
    subst h9
    refine wt_aload_n 55 0 C dX6_lossOf_54 rfl rfl ?_
    refine wt_getI 58 C kfX6_126 sc_33 rfl dX6_lossOf_55 rfl ?_
    refine wt_aload_n 59 0 C dX6_lossOf_58 rfl rfl ?_
    refine wt_getR 62 C kfX6_25 sc_33 rfl dX6_lossOf_59 rfl ?_
    obtain ⟨o13, hc14, h⟩ := Option.bind_eq_some_iff.mp h
    refine wt_callVi 65 [.int (N 33 0)] C kvX6_123 sc_41 (mX0_mostLines (cx_ok C) (is0_41) hc14) rfl rfl ⟨Nat.le_of_ble_eq_true rfl, Nat.le_of_ble_eq_true rfl⟩ (Nat.le_of_ble_eq_true rfl) dX6_lossOf_62 rfl ?_
    refine wt_isub 66 C dX6_lossOf_65 rfl ?_
    cases h
    exact wt_iret C hq dX6_lossOf_66
theorem mX6_lossOf {l : Launch} {G : ux_G} (hok : ux_ok G shC) {v1 : Int32}  {N : ux_N} {L : ux_L} {o : Int32 × ux_L} (h : fX6_lossOf v1 N L = some o) : ux_Mi l G yX6_lossOf cX6_lossOf 4 (some .int) 4 95 [.ref (gad G 33), .int v1] N L o.1 N o.2 :=
  ux_ofi shC hok (by decide +kernel) (Nat.le_of_ble_eq_true rfl) (fun X hG hl C hq => by subst hG; subst hl; exact wX6_lossOf C  hq h)
def fX6_gain (v1 : Int32) (v2 : Int32) (N : ux_N) (L : ux_L) : Option (Int32 × ux_L) :=
  (fX0_copyFrom 41 38 L).bind (fun o1 => (fX6_openLines N).bind (fun o3 => (fX3_linesFor 1 v1 v2 o3 N).bind (fun o5 => (fX0_joinMeter 41 35 o5 o1).bind (fun o7 => (fX0_mostLines 41 o7).bind (fun o9 => some ((o9 - (N 33 0)), o7))))))
set_option maxHeartbeats 4000000 in
set_option maxRecDepth 20000 in
theorem wX6_gain {X : ux_X} (C : ux_C X cX6_gain RX6 3 (some .int) 3 83 shC) {v1 : Int32} {v2 : Int32}  {N : ux_N} {L : ux_L} {o : Int32 × ux_L} (hq : ux_Qi X o.1 N o.2) (h : fX6_gain v1 v2 N L = some o) : ux_Wt X 3 0 [(0, .ref (ux_ad X 33)), (1, .int v1), (2, .int v2)] [] N L := by
  refine wt_aload_n 1 0 C dX6_gain_0 rfl rfl ?_
  refine wt_getR 4 C kfX6_25 sc_33 rfl dX6_gain_1 rfl ?_
  refine wt_aload_n 5 0 C dX6_gain_4 rfl rfl ?_
  refine wt_getR 8 C kfX6_22 sc_33 rfl dX6_gain_5 rfl ?_
  obtain ⟨o1, hc2, h⟩ := Option.bind_eq_some_iff.mp h
  refine wt_callVv 11 [] C kvX6_192 sc_41 (mX0_copyFrom (cx_ok C) (is0_41) (is0_38) hc2) rfl rfl ⟨Nat.le_of_ble_eq_true rfl, Nat.le_of_ble_eq_true rfl⟩ (Nat.le_of_ble_eq_true rfl) dX6_gain_8 rfl ?_
  refine wt_aload_n 12 0 C dX6_gain_11 rfl rfl ?_
  refine wt_getR 15 C kfX6_25 sc_33 rfl dX6_gain_12 rfl ?_
  refine wt_aload_n 16 0 C dX6_gain_15 rfl rfl ?_
  refine wt_getR 19 C kfX6_56 sc_33 rfl dX6_gain_16 rfl ?_
  refine wt_iload_n 20 1 C dX6_gain_19 rfl rfl ?_
  refine wt_iload_n 21 2 C dX6_gain_20 rfl rfl ?_
  refine wt_aload_n 22 0 C dX6_gain_21 rfl rfl ?_
  obtain ⟨o3, hc4, h⟩ := Option.bind_eq_some_iff.mp h
  refine wt_callVi 25 [.int v2, .int v1, .ref (ux_ad X 1), .ref (ux_ad X 41)] C kvX6_106 sc_33 (mX6_openLines (cx_ok C)  hc4) rfl rfl ⟨Nat.le_of_ble_eq_true rfl, Nat.le_of_ble_eq_true rfl⟩ (Nat.le_of_ble_eq_true rfl) dX6_gain_22 rfl ?_
  obtain ⟨o5, hc6, h⟩ := Option.bind_eq_some_iff.mp h
  refine wt_callVi 28 [.ref (ux_ad X 41)] C kvX6_163 sc_1 (mX3_linesFor (cx_ok C) (is3_1) hc6) rfl rfl ⟨Nat.le_of_ble_eq_true rfl, Nat.le_of_ble_eq_true rfl⟩ (Nat.le_of_ble_eq_true rfl) dX6_gain_25 rfl ?_
  refine wt_aload_n 29 0 C dX6_gain_28 rfl rfl ?_
  refine wt_getR 32 C kfX6_18 sc_33 rfl dX6_gain_29 rfl ?_
  obtain ⟨o7, hc8, h⟩ := Option.bind_eq_some_iff.mp h
  refine wt_callVv 35 [] C kvX6_119 sc_41 (mX0_joinMeter (cx_ok C) (is0_41) (is0_35) hc8) rfl rfl ⟨Nat.le_of_ble_eq_true rfl, Nat.le_of_ble_eq_true rfl⟩ (Nat.le_of_ble_eq_true rfl) dX6_gain_32 rfl ?_
  refine wt_aload_n 36 0 C dX6_gain_35 rfl rfl ?_
  refine wt_getR 39 C kfX6_25 sc_33 rfl dX6_gain_36 rfl ?_
  obtain ⟨o9, hc10, h⟩ := Option.bind_eq_some_iff.mp h
  refine wt_callVi 42 [] C kvX6_123 sc_41 (mX0_mostLines (cx_ok C) (is0_41) hc10) rfl rfl ⟨Nat.le_of_ble_eq_true rfl, Nat.le_of_ble_eq_true rfl⟩ (Nat.le_of_ble_eq_true rfl) dX6_gain_39 rfl ?_
  refine wt_aload_n 43 0 C dX6_gain_42 rfl rfl ?_
  refine wt_getI 46 C kfX6_126 sc_33 rfl dX6_gain_43 rfl ?_
  refine wt_isub 47 C dX6_gain_46 rfl ?_
  cases h
  exact wt_iret C hq dX6_gain_47
theorem mX6_gain {l : Launch} {G : ux_G} (hok : ux_ok G shC) {v1 : Int32} {v2 : Int32}  {N : ux_N} {L : ux_L} {o : Int32 × ux_L} (h : fX6_gain v1 v2 N L = some o) : ux_Mi l G yX6_gain cX6_gain 3 (some .int) 3 83 [.ref (gad G 33), .int v1, .int v2] N L o.1 N o.2 :=
  ux_ofi shC hok (by decide +kernel) (Nat.le_of_ble_eq_true rfl) (fun X hG hl C hq => by subst hG; subst hl; exact wX6_gain C  hq h)
def fX6_findWeak_54b_100 (v1 : Int32) (v2 : Int32) (v3 : Int32) (N : ux_N) (L : ux_L) : Option ((Int32 × Int32) ⊕ (Int32)) :=
  some (.inl (v2, (v3 + 1)))
set_option maxHeartbeats 4000000 in
set_option maxRecDepth 20000 in
theorem wX6_findWeak_54b_100 {X : ux_X} (C : ux_C X cX6_findWeak RX6 4 (some .int) 3 111 shC) {v1 : Int32} {v2 : Int32} {v3 : Int32}  {N : ux_N} {L : ux_L} {o : (Int32 × Int32) ⊕ (Int32)} (hin : ∀ s : Int32 × Int32, o = .inl s → ux_Wt X 4 54 [(0, .ref (ux_ad X 33)), (1, .int v1), (2, .int s.1), (3, .int s.2)] [] N L) (hex0 : ∀ e : Int32, o = .inr (e) → ux_Wt X 4 106 [(2, .int e)] [] N L) (h : fX6_findWeak_54b_100 v1 v2 v3 N L = some o) : ux_Wt X 4 100 [(0, .ref (ux_ad X 33)), (1, .int v1), (2, .int v2), (3, .int v3)] [] N L := by
  refine wt_iinc 103 3 [(3, .int (v3 + 1)), (0, .ref (ux_ad X 33)), (1, .int v1), (2, .int v2)] (v3 + 1) C dX6_findWeak_100 rfl rfl (by rfl) (by decide) rfl ?_
  refine wt_goto 54 C dX6_findWeak_103 (by decide) ?_
  refine wt_sub [1, 2, 3, 0] rfl ?_
  exact hin _ (Option.some.inj h).symm
def fX6_findWeak_54b (v1 : Int32) (v2 : Int32) (v3 : Int32) (N : ux_N) (L : ux_L) : Option ((Int32 × Int32) ⊕ (Int32)) :=
  if v1 ≤ v3 then (some (.inr (v2))) else (if (v3 &&& (v1 ^^^ (-1 : Int32))) = 0 then (if ux_in (v1 &&& (v3 ^^^ (-1 : Int32))) 512 then (if (N 33 0) ≤ (N 45 ((v1 &&& (v3 ^^^ (-1 : Int32))).toNatClampNeg)) then (fX6_findWeak_54b_100 v1 v2 v3 N L) else ((fJ6_bitCount_0f7a4 v3).bind (fun o5 => (fJ6_bitCount_0f7a4 v2).bind (fun o7 => if o7 ≤ o5 then (fX6_findWeak_54b_100 v1 v2 v3 N L) else (fX6_findWeak_54b_100 v1 v3 v3 N L))))) else none) else (fX6_findWeak_54b_100 v1 v2 v3 N L))
set_option maxHeartbeats 4000000 in
set_option maxRecDepth 20000 in
theorem wX6_findWeak_54b {X : ux_X} (C : ux_C X cX6_findWeak RX6 4 (some .int) 3 111 shC) {v1 : Int32} {v2 : Int32} {v3 : Int32}  {N : ux_N} {L : ux_L} {o : (Int32 × Int32) ⊕ (Int32)} (hin : ∀ s : Int32 × Int32, o = .inl s → ux_Wt X 4 54 [(0, .ref (ux_ad X 33)), (1, .int v1), (2, .int s.1), (3, .int s.2)] [] N L) (hex0 : ∀ e : Int32, o = .inr (e) → ux_Wt X 4 106 [(2, .int e)] [] N L) (h : fX6_findWeak_54b v1 v2 v3 N L = some o) : ux_Wt X 4 54 [(0, .ref (ux_ad X 33)), (1, .int v1), (2, .int v2), (3, .int v3)] [] N L := by
  refine wt_iload_n 55 3 C dX6_findWeak_54 rfl rfl ?_
  refine wt_iload_n 56 1 C dX6_findWeak_55 rfl rfl ?_
  refine wt_icmp_ge 59 106 C dX6_findWeak_56 rfl (by decide) (fun q1 => ?_) (fun q1 => ?_)
  · have h := (if_pos q1).symm.trans h
    refine wt_sub [2] rfl ?_
    exact hex0 _ (Option.some.inj h).symm
  · have h := (if_neg q1).symm.trans h
    refine wt_iload_n 60 3 C dX6_findWeak_59 rfl rfl ?_
    refine wt_iload_n 61 1 C dX6_findWeak_60 rfl rfl ?_
    refine wt_iconst 62 (-1) C dX6_findWeak_61 rfl (by decide) ?_
    refine wt_ixor 63 C dX6_findWeak_62 rfl ?_
    refine wt_iand 64 C dX6_findWeak_63 rfl ?_
    refine wt_if_ne 67 100 C dX6_findWeak_64 rfl (by decide) (fun q2 => ?_) (fun q2 => ?_)
    · have h := (if_neg q2).symm.trans h
      exact wX6_findWeak_54b_100 C hin hex0 h
    · have h := (if_pos q2).symm.trans h
      refine wt_aload_n 68 0 C dX6_findWeak_67 rfl rfl ?_
      refine wt_getR 71 C kfX6_31 sc_33 rfl dX6_findWeak_68 rfl ?_
      refine wt_getR 74 C kfX6_205 sc_44 rfl dX6_findWeak_71 rfl ?_
      refine wt_iload_n 75 1 C dX6_findWeak_74 rfl rfl ?_
      refine wt_iload_n 76 3 C dX6_findWeak_75 rfl rfl ?_
      refine wt_iconst 77 (-1) C dX6_findWeak_76 rfl (by decide) ?_
      refine wt_ixor 78 C dX6_findWeak_77 rfl ?_
      refine wt_iand 79 C dX6_findWeak_78 rfl ?_
      obtain ⟨hi3, h⟩ := ux_guard h
      refine wt_iald 80 ((v1 &&& (v3 ^^^ (-1 : Int32))).toNatClampNeg) C sc_45 rfl hi3 dX6_findWeak_79 rfl ?_
      refine wt_aload_n 81 0 C dX6_findWeak_80 rfl rfl ?_
      refine wt_getI 84 C kfX6_126 sc_33 rfl dX6_findWeak_81 rfl ?_
      refine wt_icmp_ge 87 100 C dX6_findWeak_84 rfl (by decide) (fun q4 => ?_) (fun q4 => ?_)
      · have h := (if_pos q4).symm.trans h
        exact wX6_findWeak_54b_100 C hin hex0 h
      · have h := (if_neg q4).symm.trans h
        refine wt_iload_n 88 3 C dX6_findWeak_87 rfl rfl ?_
        obtain ⟨o5, hc6, h⟩ := Option.bind_eq_some_iff.mp h
        refine wt_callSi 91 [] C ksX6_208 (mJ6_bitCount_0f7a4 (cx_ok C)  hc6) rfl rfl ⟨Nat.le_of_ble_eq_true rfl, Nat.le_of_ble_eq_true rfl⟩ (Nat.le_of_ble_eq_true rfl) dX6_findWeak_88 rfl ?_
        refine wt_iload_n 92 2 C dX6_findWeak_91 rfl rfl ?_
        obtain ⟨o7, hc8, h⟩ := Option.bind_eq_some_iff.mp h
        refine wt_callSi 95 [.int o5] C ksX6_208 (mJ6_bitCount_0f7a4 (cx_ok C)  hc8) rfl rfl ⟨Nat.le_of_ble_eq_true rfl, Nat.le_of_ble_eq_true rfl⟩ (Nat.le_of_ble_eq_true rfl) dX6_findWeak_92 rfl ?_
        refine wt_icmp_ge 98 100 C dX6_findWeak_95 rfl (by decide) (fun q9 => ?_) (fun q9 => ?_)
        · have h := (if_pos q9).symm.trans h
          exact wX6_findWeak_54b_100 C hin hex0 h
        · have h := (if_neg q9).symm.trans h
          refine wt_iload_n 99 3 C dX6_findWeak_98 rfl rfl ?_
          refine wt_istore_n 100 [(2, .int v3), (0, .ref (ux_ad X 33)), (1, .int v1), (3, .int v3)] C dX6_findWeak_99 rfl (by decide) rfl ?_
          refine wt_sub [1, 2, 0, 3] rfl ?_
          exact wX6_findWeak_54b_100 C hin hex0 h
def fX6_findWeak (N : ux_N) (L : ux_L) : Option (Int32 × ux_N × ux_L) :=
  if (N 33 0) = 0 then (some ((-1 : Int32), N, L)) else ((fX0_startWithEmptySet 41 L).bind (fun o2 => (fX10_tryAll 41 34 9 35 (N 19 0) N o2).bind (fun o4 => (fX8_wholeMeters 19 o4.1).bind (fun o6 => (ux_lp (fun s : Int32 × Int32 => fX6_findWeak_54b o6 s.1 s.2 o4.1 o4.2) ux_fu (o6, (1 : Int32))).bind (fun e15 => some (e15, o4.1, o4.2))))))
set_option maxHeartbeats 4000000 in
set_option maxRecDepth 20000 in
theorem wX6_findWeak {X : ux_X} (C : ux_C X cX6_findWeak RX6 4 (some .int) 3 111 shC)   {N : ux_N} {L : ux_L} {o : Int32 × ux_N × ux_L} (hq : ux_Qi X o.1 o.2.1 o.2.2) (h : fX6_findWeak N L = some o) : ux_Wt X 4 0 [(0, .ref (ux_ad X 33))] [] N L := by
  refine wt_aload_n 1 0 C dX6_findWeak_0 rfl rfl ?_
  refine wt_getI 4 C kfX6_126 sc_33 rfl dX6_findWeak_1 rfl ?_
  refine wt_if_ne 7 9 C dX6_findWeak_4 rfl (by decide) (fun q1 => ?_) (fun q1 => ?_)
  · have h := (if_neg q1).symm.trans h
    refine wt_aload_n 10 0 C dX6_findWeak_9 rfl rfl ?_
    refine wt_getR 13 C kfX6_25 sc_33 rfl dX6_findWeak_10 rfl ?_
    obtain ⟨o2, hc3, h⟩ := Option.bind_eq_some_iff.mp h
    refine wt_callVv 16 [] C kvX6_64 sc_41 (mX0_startWithEmptySet (cx_ok C) (is0_41) hc3) rfl rfl ⟨Nat.le_of_ble_eq_true rfl, Nat.le_of_ble_eq_true rfl⟩ (Nat.le_of_ble_eq_true rfl) dX6_findWeak_13 rfl ?_
    refine wt_aload_n 17 0 C dX6_findWeak_16 rfl rfl ?_
    refine wt_getR 20 C kfX6_31 sc_33 rfl dX6_findWeak_17 rfl ?_
    refine wt_aload_n 21 0 C dX6_findWeak_20 rfl rfl ?_
    refine wt_getR 24 C kfX6_25 sc_33 rfl dX6_findWeak_21 rfl ?_
    refine wt_aload_n 25 0 C dX6_findWeak_24 rfl rfl ?_
    refine wt_getR 28 C kfX6_9 sc_33 rfl dX6_findWeak_25 rfl ?_
    refine wt_aload_n 29 0 C dX6_findWeak_28 rfl rfl ?_
    refine wt_getR 32 C kfX6_60 sc_33 rfl dX6_findWeak_29 rfl ?_
    refine wt_getI 35 C kfX6_109 sc_19 rfl dX6_findWeak_32 rfl ?_
    refine wt_aload_n 36 0 C dX6_findWeak_35 rfl rfl ?_
    refine wt_getR 39 C kfX6_18 sc_33 rfl dX6_findWeak_36 rfl ?_
    obtain ⟨o4, hc5, h⟩ := Option.bind_eq_some_iff.mp h
    refine wt_callVv 42 [] C kvX6_201 sc_44 (mX10_tryAll (cx_ok C) (is0_41) (sc_34) (is0_35) hc5) rfl rfl ⟨Nat.le_of_ble_eq_true rfl, Nat.le_of_ble_eq_true rfl⟩ (Nat.le_of_ble_eq_true rfl) dX6_findWeak_39 rfl ?_
    refine wt_aload_n 43 0 C dX6_findWeak_42 rfl rfl ?_
    refine wt_getR 46 C kfX6_60 sc_33 rfl dX6_findWeak_43 rfl ?_
    obtain ⟨o6, hc7, h⟩ := Option.bind_eq_some_iff.mp h
    refine wt_callVi 49 [] C kvX6_185 sc_19 (mX8_wholeMeters (cx_ok C) (is8_19) hc7) rfl rfl ⟨Nat.le_of_ble_eq_true rfl, Nat.le_of_ble_eq_true rfl⟩ (Nat.le_of_ble_eq_true rfl) dX6_findWeak_46 rfl ?_
    refine wt_istore_n 50 [(1, .int o6), (0, .ref (ux_ad X 33))] C dX6_findWeak_49 rfl (by decide) rfl ?_
    refine wt_iload_n 51 0 C dX6_findWeak_50 rfl rfl ?_
    refine wt_istore_n 52 [(2, .int o6), (1, .int o6), (0, .ref (ux_ad X 33))] C dX6_findWeak_51 rfl (by decide) rfl ?_
    refine wt_iconst 53 1 C dX6_findWeak_52 rfl (by decide) ?_
    refine wt_istore_n 54 [(3, .int (1 : Int32)), (2, .int o6), (1, .int o6), (0, .ref (ux_ad X 33))] C dX6_findWeak_53 rfl (by decide) rfl ?_
    obtain ⟨e8, hl9, h⟩ := Option.bind_eq_some_iff.mp h
    refine wt_sub [3, 2, 1, 0] rfl ?_
    refine ux_loop (fun s : Int32 × Int32 => fX6_findWeak_54b o6 s.1 s.2 o4.1 o4.2) (fun s : Int32 × Int32 => ux_Wt X 4 54 [(0, .ref (ux_ad X 33)), (1, .int o6), (2, .int s.1), (3, .int s.2)] [] o4.1 o4.2) (e := e8) ?_ hl9
    intro s10 o11 hb12 hi13 hx14
    refine wX6_findWeak_54b C hi13 (fun x0 he => ?_) hb12
    · obtain ⟨e15, rfl⟩ : ∃ z, z = x0 := ⟨_, rfl⟩
      have h9 := hx14 _ he
      subst h9
      refine wt_iload_n 107 0 C dX6_findWeak_106 rfl rfl ?_
      cases h
      exact wt_iret C hq dX6_findWeak_107
  · have h := (if_pos q1).symm.trans h
    refine wt_iconst 8 (-1) C dX6_findWeak_7 rfl (by decide) ?_
    cases h
    exact wt_iret C hq dX6_findWeak_8
theorem mX6_findWeak {l : Launch} {G : ux_G} (hok : ux_ok G shC)   {N : ux_N} {L : ux_L} {o : Int32 × ux_N × ux_L} (h : fX6_findWeak N L = some o) : ux_Mi l G yX6_findWeak cX6_findWeak 4 (some .int) 3 111 [.ref (gad G 33)] N L o.1 o.2.1 o.2.2 :=
  ux_ofi shC hok (by decide +kernel) (Nat.le_of_ble_eq_true rfl) (fun X hG hl C hq => by subst hG; subst hl; exact wX6_findWeak C  hq h)
def fX6_weakSet_20 (N : ux_N) (L : ux_L) : Option (Int32 × ux_N × ux_L) :=
  some ((N 33 16), N, L)
set_option maxHeartbeats 4000000 in
set_option maxRecDepth 20000 in
theorem wX6_weakSet_20 {X : ux_X} (C : ux_C X cX6_weakSet RX6 1 (some .int) 4 134 shC)   {N : ux_N} {L : ux_L} {o : Int32 × ux_N × ux_L} (hq : ux_Qi X o.1 o.2.1 o.2.2) (h : fX6_weakSet_20 N L = some o) : ux_Wt X 1 20 [(0, .ref (ux_ad X 33))] [] N L := by
  refine wt_aload_n 21 0 C dX6_weakSet_20 rfl rfl ?_
  refine wt_getI 24 C kfX6_198 sc_33 rfl dX6_weakSet_21 rfl ?_
  cases h
  exact wt_iret C hq dX6_weakSet_24
def fX6_weakSet (N : ux_N) (L : ux_L) : Option (Int32 × ux_N × ux_L) :=
  if (N 33 15) = 0 then ((fX6_findWeak N L).bind (fun o2 => fX6_weakSet_20 (ux_u (ux_u o2.2.1 33 16 o2.1) 33 15 (1 : Int32)) o2.2.2)) else (fX6_weakSet_20 N L)
set_option maxHeartbeats 4000000 in
set_option maxRecDepth 20000 in
theorem wX6_weakSet {X : ux_X} (C : ux_C X cX6_weakSet RX6 1 (some .int) 4 134 shC)   {N : ux_N} {L : ux_L} {o : Int32 × ux_N × ux_L} (hq : ux_Qi X o.1 o.2.1 o.2.2) (h : fX6_weakSet N L = some o) : ux_Wt X 1 0 [(0, .ref (ux_ad X 33))] [] N L := by
  refine wt_aload_n 1 0 C dX6_weakSet_0 rfl rfl ?_
  refine wt_getI 4 C kfX6_145 sc_33 rfl dX6_weakSet_1 rfl ?_
  refine wt_if_ne 7 20 C dX6_weakSet_4 rfl (by decide) (fun q1 => ?_) (fun q1 => ?_)
  · have h := (if_neg q1).symm.trans h
    exact wX6_weakSet_20 C hq h
  · have h := (if_pos q1).symm.trans h
    refine wt_aload_n 8 0 C dX6_weakSet_7 rfl rfl ?_
    refine wt_aload_n 9 0 C dX6_weakSet_8 rfl rfl ?_
    obtain ⟨o2, hc3, h⟩ := Option.bind_eq_some_iff.mp h
    refine wt_callVi 12 [.ref (ux_ad X 33)] C kvX6_195 sc_33 (mX6_findWeak (cx_ok C)  hc3) rfl rfl ⟨Nat.le_of_ble_eq_true rfl, Nat.le_of_ble_eq_true rfl⟩ (Nat.le_of_ble_eq_true rfl) dX6_weakSet_9 rfl ?_
    refine wt_putI 15 C kpX6_198 sc_33 rfl rfl rfl dX6_weakSet_12 rfl ?_
    refine wt_aload_n 16 0 C dX6_weakSet_15 rfl rfl ?_
    refine wt_iconst 17 1 C dX6_weakSet_16 rfl (by decide) ?_
    refine wt_putI 20 C kpX6_145 sc_33 rfl (ux_b_n (by decide)).1 (ux_b_n (by decide)).2 dX6_weakSet_17 rfl ?_
    exact wX6_weakSet_20 C hq h
theorem mX6_weakSet {l : Launch} {G : ux_G} (hok : ux_ok G shC)   {N : ux_N} {L : ux_L} {o : Int32 × ux_N × ux_L} (h : fX6_weakSet N L = some o) : ux_Mi l G yX6_weakSet cX6_weakSet 1 (some .int) 4 134 [.ref (gad G 33)] N L o.1 o.2.1 o.2.2 :=
  ux_ofi shC hok (by decide +kernel) (Nat.le_of_ble_eq_true rfl) (fun X hG hl C hq => by subst hG; subst hl; exact wX6_weakSet C  hq h)
def fX6_isBetterDeal_42 (s0 : Int32) (N : ux_N) : Option (Int32) :=
  if ux_b s0 then (some s0) else none
set_option maxHeartbeats 4000000 in
set_option maxRecDepth 20000 in
theorem wX6_isBetterDeal_42 {X : ux_X} (C : ux_C X cX6_isBetterDeal RX6 4 (some .boolean) 1 23 shC) {s0 : Int32}  {N : ux_N} {L : ux_L} {o : Int32} (hq : ux_Qi X o N L) (h : fX6_isBetterDeal_42 s0 N = some o) : ux_Wt X 4 42 [] [.int s0] N L := by
  obtain ⟨hb1, h⟩ := ux_guard h
  cases h
  exact wt_zret C (ux_b_n hb1).1 hq dX6_isBetterDeal_42
def fX6_isBetterDeal_37 (N : ux_N) : Option (Int32) :=
  fX6_isBetterDeal_42 (1 : Int32) N
set_option maxHeartbeats 4000000 in
set_option maxRecDepth 20000 in
theorem wX6_isBetterDeal_37 {X : ux_X} (C : ux_C X cX6_isBetterDeal RX6 4 (some .boolean) 1 23 shC)   {N : ux_N} {L : ux_L} {o : Int32} (hq : ux_Qi X o N L) (h : fX6_isBetterDeal_37 N = some o) : ux_Wt X 4 37 [] [] N L := by
  refine wt_iconst 38 1 C dX6_isBetterDeal_37 rfl (by decide) ?_
  refine wt_goto 42 C dX6_isBetterDeal_38 (by decide) ?_
  exact wX6_isBetterDeal_42 C hq h
def fX6_isBetterDeal_41 (N : ux_N) : Option (Int32) :=
  fX6_isBetterDeal_42 (0 : Int32) N
set_option maxHeartbeats 4000000 in
set_option maxRecDepth 20000 in
theorem wX6_isBetterDeal_41 {X : ux_X} (C : ux_C X cX6_isBetterDeal RX6 4 (some .boolean) 1 23 shC)   {N : ux_N} {L : ux_L} {o : Int32} (hq : ux_Qi X o N L) (h : fX6_isBetterDeal_41 N = some o) : ux_Wt X 4 41 [] [] N L := by
  refine wt_iconst 42 0 C dX6_isBetterDeal_41 rfl (by decide) ?_
  exact wX6_isBetterDeal_42 C hq h
def fX6_isBetterDeal (v1 : Int32) (v2 : Int32) (N : ux_N) : Option (Int32) :=
  (fX3_priceOf 1 v1 N).bind (fun o1 => (fX3_priceOf 1 v2 N).bind (fun o3 => if (o1 - o3) < 0 then (fX6_isBetterDeal_37 N) else (if (o1 - o3) = 0 then ((fJ6_bitCount_0f7a4 v1).bind (fun o7 => (fJ6_bitCount_0f7a4 v2).bind (fun o9 => if o9 ≤ o7 then (fX6_isBetterDeal_41 N) else (fX6_isBetterDeal_37 N)))) else (fX6_isBetterDeal_41 N))))
set_option maxHeartbeats 4000000 in
set_option maxRecDepth 20000 in
theorem wX6_isBetterDeal {X : ux_X} (C : ux_C X cX6_isBetterDeal RX6 4 (some .boolean) 1 23 shC) {v1 : Int32} {v2 : Int32}  {N : ux_N} {L : ux_L} {o : Int32} (hq : ux_Qi X o N L) (h : fX6_isBetterDeal v1 v2 N = some o) : ux_Wt X 4 0 [(0, .ref (ux_ad X 33)), (1, .int v1), (2, .int v2)] [] N L := by
  refine wt_aload_n 1 0 C dX6_isBetterDeal_0 rfl rfl ?_
  refine wt_getR 4 C kfX6_56 sc_33 rfl dX6_isBetterDeal_1 rfl ?_
  refine wt_iload_n 5 1 C dX6_isBetterDeal_4 rfl rfl ?_
  obtain ⟨o1, hc2, h⟩ := Option.bind_eq_some_iff.mp h
  refine wt_callVi 8 [] C kvX6_231 sc_1 (mX3_priceOf (cx_ok C) (is3_1) hc2) rfl rfl ⟨Nat.le_of_ble_eq_true rfl, Nat.le_of_ble_eq_true rfl⟩ (Nat.le_of_ble_eq_true rfl) dX6_isBetterDeal_5 rfl ?_
  refine wt_aload_n 9 0 C dX6_isBetterDeal_8 rfl rfl ?_
  refine wt_getR 12 C kfX6_56 sc_33 rfl dX6_isBetterDeal_9 rfl ?_
  refine wt_iload_n 13 2 C dX6_isBetterDeal_12 rfl rfl ?_
  obtain ⟨o3, hc4, h⟩ := Option.bind_eq_some_iff.mp h
  refine wt_callVi 16 [.int o1] C kvX6_231 sc_1 (mX3_priceOf (cx_ok C) (is3_1) hc4) rfl rfl ⟨Nat.le_of_ble_eq_true rfl, Nat.le_of_ble_eq_true rfl⟩ (Nat.le_of_ble_eq_true rfl) dX6_isBetterDeal_13 rfl ?_
  refine wt_isub 17 C dX6_isBetterDeal_16 rfl ?_
  refine wt_istore_n 18 [(3, .int (o1 - o3)), (0, .ref (ux_ad X 33)), (1, .int v1), (2, .int v2)] C dX6_isBetterDeal_17 rfl (by decide) rfl ?_
  refine wt_iload_n 19 0 C dX6_isBetterDeal_18 rfl rfl ?_
  refine wt_if_lt 22 37 C dX6_isBetterDeal_19 rfl (by decide) (fun q5 => ?_) (fun q5 => ?_)
  · have h := (if_pos q5).symm.trans h
    refine wt_sub [] rfl ?_
    exact wX6_isBetterDeal_37 C hq h
  · have h := (if_neg q5).symm.trans h
    refine wt_iload_n 23 0 C dX6_isBetterDeal_22 rfl rfl ?_
    refine wt_if_ne 26 41 C dX6_isBetterDeal_23 rfl (by decide) (fun q6 => ?_) (fun q6 => ?_)
    · have h := (if_neg q6).symm.trans h
      refine wt_sub [] rfl ?_
      exact wX6_isBetterDeal_41 C hq h
    · have h := (if_pos q6).symm.trans h
      refine wt_iload_n 27 2 C dX6_isBetterDeal_26 rfl rfl ?_
      obtain ⟨o7, hc8, h⟩ := Option.bind_eq_some_iff.mp h
      refine wt_callSi 30 [] C ksX6_208 (mJ6_bitCount_0f7a4 (cx_ok C)  hc8) rfl rfl ⟨Nat.le_of_ble_eq_true rfl, Nat.le_of_ble_eq_true rfl⟩ (Nat.le_of_ble_eq_true rfl) dX6_isBetterDeal_27 rfl ?_
      refine wt_iload_n 31 3 C dX6_isBetterDeal_30 rfl rfl ?_
      obtain ⟨o9, hc10, h⟩ := Option.bind_eq_some_iff.mp h
      refine wt_callSi 34 [.int o7] C ksX6_208 (mJ6_bitCount_0f7a4 (cx_ok C)  hc10) rfl rfl ⟨Nat.le_of_ble_eq_true rfl, Nat.le_of_ble_eq_true rfl⟩ (Nat.le_of_ble_eq_true rfl) dX6_isBetterDeal_31 rfl ?_
      refine wt_icmp_ge 37 41 C dX6_isBetterDeal_34 rfl (by decide) (fun q11 => ?_) (fun q11 => ?_)
      · have h := (if_pos q11).symm.trans h
        refine wt_sub [] rfl ?_
        exact wX6_isBetterDeal_41 C hq h
      · have h := (if_neg q11).symm.trans h
        refine wt_sub [] rfl ?_
        exact wX6_isBetterDeal_37 C hq h
theorem mX6_isBetterDeal {l : Launch} {G : ux_G} (hok : ux_ok G shC) {v1 : Int32} {v2 : Int32}  {N : ux_N} {L : ux_L} {o : Int32} (h : fX6_isBetterDeal v1 v2 N = some o) : ux_Mi l G yX6_isBetterDeal cX6_isBetterDeal 4 (some .boolean) 1 23 [.ref (gad G 33), .int v1, .int v2] N L o N L :=
  ux_ofi shC hok (by decide +kernel) (Nat.le_of_ble_eq_true rfl) (fun X hG hl C hq => by subst hG; subst hl; exact wX6_isBetterDeal C  hq h)
def fX6_findDeal_2b (v1 : Int32) (N : ux_N) (L : ux_L) : Option ((Int32 × ux_N) ⊕ (ux_N)) :=
  if (N 1 3) ≤ v1 then (some (.inr (N))) else (if ux_in v1 6 then (if ux_in v1 6 then ((fX6_openLines N).bind (fun o4 => (fX3_linesFor 1 (N 6 (v1.toNatClampNeg)) (N 7 (v1.toNatClampNeg)) o4 N).bind (fun o6 => if ux_in v1 6 then (some (.inl ((v1 + 1), (ux_u N 102 (v1.toNatClampNeg) o6)))) else none))) else none) else none)
set_option maxHeartbeats 4000000 in
set_option maxRecDepth 20000 in
theorem wX6_findDeal_2b {X : ux_X} (C : ux_C X cX6_findDeal RX6 3 (some .int) 3 111 shC) {v1 : Int32}  {N : ux_N} {L : ux_L} {o : (Int32 × ux_N) ⊕ (ux_N)} (hin : ∀ s : Int32 × ux_N, o = .inl s → ux_Wt X 3 2 [(0, .ref (ux_ad X 33)), (1, .int s.1)] [] s.2 L) (hex0 : ∀ e : ux_N, o = .inr (e) → ux_Wt X 3 54 [(0, .ref (ux_ad X 33))] [] e L) (h : fX6_findDeal_2b v1 N L = some o) : ux_Wt X 3 2 [(0, .ref (ux_ad X 33)), (1, .int v1)] [] N L := by
  refine wt_iload_n 3 1 C dX6_findDeal_2 rfl rfl ?_
  refine wt_aload_n 4 0 C dX6_findDeal_3 rfl rfl ?_
  refine wt_getR 7 C kfX6_56 sc_33 rfl dX6_findDeal_4 rfl ?_
  refine wt_getI 10 C kfX6_219 sc_1 rfl dX6_findDeal_7 rfl ?_
  refine wt_icmp_ge 13 54 C dX6_findDeal_10 rfl (by decide) (fun q1 => ?_) (fun q1 => ?_)
  · have h := (if_pos q1).symm.trans h
    refine wt_sub [0] rfl ?_
    exact hex0 _ (Option.some.inj h).symm
  · have h := (if_neg q1).symm.trans h
    refine wt_aload_n 14 0 C dX6_findDeal_13 rfl rfl ?_
    refine wt_getR 17 C kfX6_46 sc_33 rfl dX6_findDeal_14 rfl ?_
    refine wt_iload_n 18 1 C dX6_findDeal_17 rfl rfl ?_
    refine wt_aload_n 19 0 C dX6_findDeal_18 rfl rfl ?_
    refine wt_getR 22 C kfX6_56 sc_33 rfl dX6_findDeal_19 rfl ?_
    refine wt_aload_n 23 0 C dX6_findDeal_22 rfl rfl ?_
    refine wt_getR 26 C kfX6_56 sc_33 rfl dX6_findDeal_23 rfl ?_
    refine wt_getR 29 C kfX6_222 sc_1 rfl dX6_findDeal_26 rfl ?_
    refine wt_iload_n 30 1 C dX6_findDeal_29 rfl rfl ?_
    obtain ⟨hi2, h⟩ := ux_guard h
    refine wt_iald 31 (v1.toNatClampNeg) C sc_6 rfl hi2 dX6_findDeal_30 rfl ?_
    refine wt_aload_n 32 0 C dX6_findDeal_31 rfl rfl ?_
    refine wt_getR 35 C kfX6_56 sc_33 rfl dX6_findDeal_32 rfl ?_
    refine wt_getR 38 C kfX6_225 sc_1 rfl dX6_findDeal_35 rfl ?_
    refine wt_iload_n 39 1 C dX6_findDeal_38 rfl rfl ?_
    obtain ⟨hi3, h⟩ := ux_guard h
    refine wt_iald 40 (v1.toNatClampNeg) C sc_7 rfl hi3 dX6_findDeal_39 rfl ?_
    refine wt_aload_n 41 0 C dX6_findDeal_40 rfl rfl ?_
    obtain ⟨o4, hc5, h⟩ := Option.bind_eq_some_iff.mp h
    refine wt_callVi 44 [.int (N 7 (v1.toNatClampNeg)), .int (N 6 (v1.toNatClampNeg)), .ref (ux_ad X 1), .int v1, .ref (ux_ad X 102)] C kvX6_106 sc_33 (mX6_openLines (cx_ok C)  hc5) rfl rfl ⟨Nat.le_of_ble_eq_true rfl, Nat.le_of_ble_eq_true rfl⟩ (Nat.le_of_ble_eq_true rfl) dX6_findDeal_41 rfl ?_
    obtain ⟨o6, hc7, h⟩ := Option.bind_eq_some_iff.mp h
    refine wt_callVi 47 [.int v1, .ref (ux_ad X 102)] C kvX6_163 sc_1 (mX3_linesFor (cx_ok C) (is3_1) hc7) rfl rfl ⟨Nat.le_of_ble_eq_true rfl, Nat.le_of_ble_eq_true rfl⟩ (Nat.le_of_ble_eq_true rfl) dX6_findDeal_44 rfl ?_
    obtain ⟨hi8, h⟩ := ux_guard h
    refine wt_iast 48 (v1.toNatClampNeg) C sc_102 rfl hi8 dX6_findDeal_47 rfl ?_
    refine wt_iinc 51 1 [(1, .int (v1 + 1)), (0, .ref (ux_ad X 33))] (v1 + 1) C dX6_findDeal_48 rfl rfl (by rfl) (by decide) rfl ?_
    refine wt_goto 2 C dX6_findDeal_51 (by decide) ?_
    refine wt_sub [1, 0] rfl ?_
    exact hin _ (Option.some.inj h).symm
def fX6_findDeal_84b_129 (v1 : Int32) (v2 : Int32) (N : ux_N) (L : ux_L) : Option ((Int32 × Int32) ⊕ (Int32)) :=
  some (.inl (v1, (v2 + 1)))
set_option maxHeartbeats 4000000 in
set_option maxRecDepth 20000 in
theorem wX6_findDeal_84b_129 {X : ux_X} (C : ux_C X cX6_findDeal RX6 3 (some .int) 3 111 shC) {v1 : Int32} {v2 : Int32}  {N : ux_N} {L : ux_L} {o : (Int32 × Int32) ⊕ (Int32)} (hin : ∀ s : Int32 × Int32, o = .inl s → ux_Wt X 3 84 [(0, .ref (ux_ad X 33)), (1, .int s.1), (2, .int s.2)] [] N L) (hex0 : ∀ e : Int32, o = .inr (e) → ux_Wt X 3 135 [(1, .int e)] [] N L) (h : fX6_findDeal_84b_129 v1 v2 N L = some o) : ux_Wt X 3 129 [(0, .ref (ux_ad X 33)), (1, .int v1), (2, .int v2)] [] N L := by
  refine wt_iinc 132 2 [(2, .int (v2 + 1)), (0, .ref (ux_ad X 33)), (1, .int v1)] (v2 + 1) C dX6_findDeal_129 rfl rfl (by rfl) (by decide) rfl ?_
  refine wt_goto 84 C dX6_findDeal_132 (by decide) ?_
  refine wt_sub [1, 2, 0] rfl ?_
  exact hin _ (Option.some.inj h).symm
def fX6_findDeal_84b_127 (v2 : Int32) (N : ux_N) (L : ux_L) : Option ((Int32 × Int32) ⊕ (Int32)) :=
  fX6_findDeal_84b_129 v2 v2 N L
set_option maxHeartbeats 4000000 in
set_option maxRecDepth 20000 in
theorem wX6_findDeal_84b_127 {X : ux_X} (C : ux_C X cX6_findDeal RX6 3 (some .int) 3 111 shC) {v2 : Int32}  {N : ux_N} {L : ux_L} {o : (Int32 × Int32) ⊕ (Int32)} (hin : ∀ s : Int32 × Int32, o = .inl s → ux_Wt X 3 84 [(0, .ref (ux_ad X 33)), (1, .int s.1), (2, .int s.2)] [] N L) (hex0 : ∀ e : Int32, o = .inr (e) → ux_Wt X 3 135 [(1, .int e)] [] N L) (h : fX6_findDeal_84b_127 v2 N L = some o) : ux_Wt X 3 127 [(0, .ref (ux_ad X 33)), (2, .int v2)] [] N L := by
  refine wt_iload_n 128 1 C dX6_findDeal_127 rfl rfl ?_
  refine wt_istore_n 129 [(1, .int v2), (0, .ref (ux_ad X 33)), (2, .int v2)] C dX6_findDeal_128 rfl (by decide) rfl ?_
  refine wt_sub [1, 0, 2] rfl ?_
  exact wX6_findDeal_84b_129 C hin hex0 h
def fX6_findDeal_84b (v1 : Int32) (v2 : Int32) (N : ux_N) (L : ux_L) : Option ((Int32 × Int32) ⊕ (Int32)) :=
  if ((1 : Int32) <<< ((N 1 3) &&& 31)) ≤ v2 then (some (.inr (v1))) else (if ux_in v2 512 then (if (N 45 (v2.toNatClampNeg)) = (N 33 1) then (if v1 = (-1 : Int32) then (fX6_findDeal_84b_127 v2 N L) else ((fX6_isBetterDeal v2 v1 N).bind (fun o5 => if o5 = 0 then (fX6_findDeal_84b_129 v1 v2 N L) else (fX6_findDeal_84b_127 v2 N L)))) else (fX6_findDeal_84b_129 v1 v2 N L)) else none)
set_option maxHeartbeats 4000000 in
set_option maxRecDepth 20000 in
theorem wX6_findDeal_84b {X : ux_X} (C : ux_C X cX6_findDeal RX6 3 (some .int) 3 111 shC) {v1 : Int32} {v2 : Int32}  {N : ux_N} {L : ux_L} {o : (Int32 × Int32) ⊕ (Int32)} (hin : ∀ s : Int32 × Int32, o = .inl s → ux_Wt X 3 84 [(0, .ref (ux_ad X 33)), (1, .int s.1), (2, .int s.2)] [] N L) (hex0 : ∀ e : Int32, o = .inr (e) → ux_Wt X 3 135 [(1, .int e)] [] N L) (h : fX6_findDeal_84b v1 v2 N L = some o) : ux_Wt X 3 84 [(0, .ref (ux_ad X 33)), (1, .int v1), (2, .int v2)] [] N L := by
  refine wt_iload_n 85 2 C dX6_findDeal_84 rfl rfl ?_
  refine wt_iconst 86 1 C dX6_findDeal_85 rfl (by decide) ?_
  refine wt_aload_n 87 0 C dX6_findDeal_86 rfl rfl ?_
  refine wt_getR 90 C kfX6_56 sc_33 rfl dX6_findDeal_87 rfl ?_
  refine wt_getI 93 C kfX6_219 sc_1 rfl dX6_findDeal_90 rfl ?_
  refine wt_ishl 94 C dX6_findDeal_93 rfl ?_
  refine wt_icmp_ge 97 135 C dX6_findDeal_94 rfl (by decide) (fun q1 => ?_) (fun q1 => ?_)
  · have h := (if_pos q1).symm.trans h
    refine wt_sub [1] rfl ?_
    exact hex0 _ (Option.some.inj h).symm
  · have h := (if_neg q1).symm.trans h
    refine wt_aload_n 98 0 C dX6_findDeal_97 rfl rfl ?_
    refine wt_getR 101 C kfX6_31 sc_33 rfl dX6_findDeal_98 rfl ?_
    refine wt_getR 104 C kfX6_205 sc_44 rfl dX6_findDeal_101 rfl ?_
    refine wt_iload_n 105 2 C dX6_findDeal_104 rfl rfl ?_
    obtain ⟨hi2, h⟩ := ux_guard h
    refine wt_iald 106 (v2.toNatClampNeg) C sc_45 rfl hi2 dX6_findDeal_105 rfl ?_
    refine wt_aload_n 107 0 C dX6_findDeal_106 rfl rfl ?_
    refine wt_getI 110 C kfX6_138 sc_33 rfl dX6_findDeal_107 rfl ?_
    refine wt_icmp_ne 113 129 C dX6_findDeal_110 rfl (by decide) (fun q3 => ?_) (fun q3 => ?_)
    · have h := (if_neg q3).symm.trans h
      exact wX6_findDeal_84b_129 C hin hex0 h
    · have h := (if_pos q3).symm.trans h
      refine wt_iload_n 114 1 C dX6_findDeal_113 rfl rfl ?_
      refine wt_iconst 115 (-1) C dX6_findDeal_114 rfl (by decide) ?_
      refine wt_icmp_eq 118 127 C dX6_findDeal_115 rfl (by decide) (fun q4 => ?_) (fun q4 => ?_)
      · have h := (if_pos q4).symm.trans h
        refine wt_sub [0, 2] rfl ?_
        exact wX6_findDeal_84b_127 C hin hex0 h
      · have h := (if_neg q4).symm.trans h
        refine wt_aload_n 119 0 C dX6_findDeal_118 rfl rfl ?_
        refine wt_iload_n 120 2 C dX6_findDeal_119 rfl rfl ?_
        refine wt_iload_n 121 1 C dX6_findDeal_120 rfl rfl ?_
        obtain ⟨o5, hc6, h⟩ := Option.bind_eq_some_iff.mp h
        refine wt_callVi 124 [] C kvX6_228 sc_33 (mX6_isBetterDeal (cx_ok C)  hc6) rfl rfl ⟨Nat.le_of_ble_eq_true rfl, Nat.le_of_ble_eq_true rfl⟩ (Nat.le_of_ble_eq_true rfl) dX6_findDeal_121 rfl ?_
        refine wt_if_eq 127 129 C dX6_findDeal_124 rfl (by decide) (fun q7 => ?_) (fun q7 => ?_)
        · have h := (if_pos q7).symm.trans h
          exact wX6_findDeal_84b_129 C hin hex0 h
        · have h := (if_neg q7).symm.trans h
          refine wt_sub [0, 2] rfl ?_
          exact wX6_findDeal_84b_127 C hin hex0 h
def fX6_findDeal (N : ux_N) (L : ux_L) : Option (Int32 × ux_N × ux_L) :=
  (ux_lp (fun s : Int32 × ux_N => fX6_findDeal_2b s.1 s.2 L) ux_fu ((0 : Int32), N)).bind (fun e8 => (fX10_tryAll 38 102 6 35 (e8 1 3) e8 L).bind (fun o9 => (ux_lp (fun s : Int32 × Int32 => fX6_findDeal_84b s.1 s.2 o9.1 o9.2) ux_fu ((-1 : Int32), (0 : Int32))).bind (fun e18 => some (e18, o9.1, o9.2))))
set_option maxHeartbeats 4000000 in
set_option maxRecDepth 20000 in
theorem wX6_findDeal {X : ux_X} (C : ux_C X cX6_findDeal RX6 3 (some .int) 3 111 shC)   {N : ux_N} {L : ux_L} {o : Int32 × ux_N × ux_L} (hq : ux_Qi X o.1 o.2.1 o.2.2) (h : fX6_findDeal N L = some o) : ux_Wt X 3 0 [(0, .ref (ux_ad X 33))] [] N L := by
  refine wt_iconst 1 0 C dX6_findDeal_0 rfl (by decide) ?_
  refine wt_istore_n 2 [(1, .int (0 : Int32)), (0, .ref (ux_ad X 33))] C dX6_findDeal_1 rfl (by decide) rfl ?_
  obtain ⟨e1, hl2, h⟩ := Option.bind_eq_some_iff.mp h
  refine wt_sub [1, 0] rfl ?_
  refine ux_loop (fun s : Int32 × ux_N => fX6_findDeal_2b s.1 s.2 L) (fun s : Int32 × ux_N => ux_Wt X 3 2 [(0, .ref (ux_ad X 33)), (1, .int s.1)] [] s.2 L) (e := e1) ?_ hl2
  intro s3 o4 hb5 hi6 hx7
  refine wX6_findDeal_2b C hi6 (fun x0 he => ?_) hb5
  · obtain ⟨e8, rfl⟩ : ∃ z, z = x0 := ⟨_, rfl⟩
    have h9 := hx7 _ he
    subst h9
    refine wt_aload_n 55 0 C dX6_findDeal_54 rfl rfl ?_
    refine wt_getR 58 C kfX6_31 sc_33 rfl dX6_findDeal_55 rfl ?_
    refine wt_aload_n 59 0 C dX6_findDeal_58 rfl rfl ?_
    refine wt_getR 62 C kfX6_22 sc_33 rfl dX6_findDeal_59 rfl ?_
    refine wt_aload_n 63 0 C dX6_findDeal_62 rfl rfl ?_
    refine wt_getR 66 C kfX6_46 sc_33 rfl dX6_findDeal_63 rfl ?_
    refine wt_aload_n 67 0 C dX6_findDeal_66 rfl rfl ?_
    refine wt_getR 70 C kfX6_56 sc_33 rfl dX6_findDeal_67 rfl ?_
    refine wt_getI 73 C kfX6_219 sc_1 rfl dX6_findDeal_70 rfl ?_
    refine wt_aload_n 74 0 C dX6_findDeal_73 rfl rfl ?_
    refine wt_getR 77 C kfX6_18 sc_33 rfl dX6_findDeal_74 rfl ?_
    obtain ⟨o9, hc10, h⟩ := Option.bind_eq_some_iff.mp h
    refine wt_callVv 80 [] C kvX6_201 sc_44 (mX10_tryAll (cx_ok C) (is0_38) (sc_102) (is0_35) hc10) rfl rfl ⟨Nat.le_of_ble_eq_true rfl, Nat.le_of_ble_eq_true rfl⟩ (Nat.le_of_ble_eq_true rfl) dX6_findDeal_77 rfl ?_
    refine wt_iconst 81 (-1) C dX6_findDeal_80 rfl (by decide) ?_
    refine wt_istore_n 82 [(1, .int (-1 : Int32)), (0, .ref (ux_ad X 33))] C dX6_findDeal_81 rfl (by decide) rfl ?_
    refine wt_iconst 83 0 C dX6_findDeal_82 rfl (by decide) ?_
    refine wt_istore_n 84 [(2, .int (0 : Int32)), (1, .int (-1 : Int32)), (0, .ref (ux_ad X 33))] C dX6_findDeal_83 rfl (by decide) rfl ?_
    obtain ⟨e11, hl12, h⟩ := Option.bind_eq_some_iff.mp h
    refine wt_sub [2, 1, 0] rfl ?_
    refine ux_loop (fun s : Int32 × Int32 => fX6_findDeal_84b s.1 s.2 o9.1 o9.2) (fun s : Int32 × Int32 => ux_Wt X 3 84 [(0, .ref (ux_ad X 33)), (1, .int s.1), (2, .int s.2)] [] o9.1 o9.2) (e := e11) ?_ hl12
    intro s13 o14 hb15 hi16 hx17
    refine wX6_findDeal_84b C hi16 (fun x0 he => ?_) hb15
    · obtain ⟨e18, rfl⟩ : ∃ z, z = x0 := ⟨_, rfl⟩
      have h9 := hx17 _ he
      subst h9
      refine wt_iload_n 136 0 C dX6_findDeal_135 rfl rfl ?_
      cases h
      exact wt_iret C hq dX6_findDeal_136
theorem mX6_findDeal {l : Launch} {G : ux_G} (hok : ux_ok G shC)   {N : ux_N} {L : ux_L} {o : Int32 × ux_N × ux_L} (h : fX6_findDeal N L = some o) : ux_Mi l G yX6_findDeal cX6_findDeal 3 (some .int) 3 111 [.ref (gad G 33)] N L o.1 o.2.1 o.2.2 :=
  ux_ofi shC hok (by decide +kernel) (Nat.le_of_ble_eq_true rfl) (fun X hG hl C hq => by subst hG; subst hl; exact wX6_findDeal C  hq h)
def fX6_dealSet_20 (N : ux_N) (L : ux_L) : Option (Int32 × ux_N × ux_L) :=
  some ((N 33 18), N, L)
set_option maxHeartbeats 4000000 in
set_option maxRecDepth 20000 in
theorem wX6_dealSet_20 {X : ux_X} (C : ux_C X cX6_dealSet RX6 1 (some .int) 4 133 shC)   {N : ux_N} {L : ux_L} {o : Int32 × ux_N × ux_L} (hq : ux_Qi X o.1 o.2.1 o.2.2) (h : fX6_dealSet_20 N L = some o) : ux_Wt X 1 20 [(0, .ref (ux_ad X 33))] [] N L := by
  refine wt_aload_n 21 0 C dX6_dealSet_20 rfl rfl ?_
  refine wt_getI 24 C kfX6_216 sc_33 rfl dX6_dealSet_21 rfl ?_
  cases h
  exact wt_iret C hq dX6_dealSet_24
def fX6_dealSet (N : ux_N) (L : ux_L) : Option (Int32 × ux_N × ux_L) :=
  if (N 33 17) = 0 then ((fX6_findDeal N L).bind (fun o2 => fX6_dealSet_20 (ux_u (ux_u o2.2.1 33 18 o2.1) 33 17 (1 : Int32)) o2.2.2)) else (fX6_dealSet_20 N L)
set_option maxHeartbeats 4000000 in
set_option maxRecDepth 20000 in
theorem wX6_dealSet {X : ux_X} (C : ux_C X cX6_dealSet RX6 1 (some .int) 4 133 shC)   {N : ux_N} {L : ux_L} {o : Int32 × ux_N × ux_L} (hq : ux_Qi X o.1 o.2.1 o.2.2) (h : fX6_dealSet N L = some o) : ux_Wt X 1 0 [(0, .ref (ux_ad X 33))] [] N L := by
  refine wt_aload_n 1 0 C dX6_dealSet_0 rfl rfl ?_
  refine wt_getI 4 C kfX6_148 sc_33 rfl dX6_dealSet_1 rfl ?_
  refine wt_if_ne 7 20 C dX6_dealSet_4 rfl (by decide) (fun q1 => ?_) (fun q1 => ?_)
  · have h := (if_neg q1).symm.trans h
    exact wX6_dealSet_20 C hq h
  · have h := (if_pos q1).symm.trans h
    refine wt_aload_n 8 0 C dX6_dealSet_7 rfl rfl ?_
    refine wt_aload_n 9 0 C dX6_dealSet_8 rfl rfl ?_
    obtain ⟨o2, hc3, h⟩ := Option.bind_eq_some_iff.mp h
    refine wt_callVi 12 [.ref (ux_ad X 33)] C kvX6_213 sc_33 (mX6_findDeal (cx_ok C)  hc3) rfl rfl ⟨Nat.le_of_ble_eq_true rfl, Nat.le_of_ble_eq_true rfl⟩ (Nat.le_of_ble_eq_true rfl) dX6_dealSet_9 rfl ?_
    refine wt_putI 15 C kpX6_216 sc_33 rfl rfl rfl dX6_dealSet_12 rfl ?_
    refine wt_aload_n 16 0 C dX6_dealSet_15 rfl rfl ?_
    refine wt_iconst 17 1 C dX6_dealSet_16 rfl (by decide) ?_
    refine wt_putI 20 C kpX6_148 sc_33 rfl (ux_b_n (by decide)).1 (ux_b_n (by decide)).2 dX6_dealSet_17 rfl ?_
    exact wX6_dealSet_20 C hq h
theorem mX6_dealSet {l : Launch} {G : ux_G} (hok : ux_ok G shC)   {N : ux_N} {L : ux_L} {o : Int32 × ux_N × ux_L} (h : fX6_dealSet N L = some o) : ux_Mi l G yX6_dealSet cX6_dealSet 1 (some .int) 4 133 [.ref (gad G 33)] N L o.1 o.2.1 o.2.2 :=
  ux_ofi shC hok (by decide +kernel) (Nat.le_of_ble_eq_true rfl) (fun X hG hl C hq => by subst hG; subst hl; exact wX6_dealSet C  hq h)
