theorem dX5_metersFor_0 : decode cX5_metersFor 0 = .ok (.iconst 0, 1) := by decide +kernel
theorem dX5_metersFor_1 : decode cX5_metersFor 1 = .ok (.istore_n 3, 1) := by decide +kernel
theorem dX5_metersFor_2 : decode cX5_metersFor 2 = .ok (.iconst 0, 1) := by decide +kernel
theorem dX5_metersFor_3 : decode cX5_metersFor 3 = .ok (.istore 4, 2) := by decide +kernel
theorem dX5_metersFor_5 : decode cX5_metersFor 5 = .ok (.iload 4, 2) := by decide +kernel
theorem dX5_metersFor_7 : decode cX5_metersFor 7 = .ok (.bipush 9, 2) := by decide +kernel
theorem dX5_metersFor_9 : decode cX5_metersFor 9 = .ok (.if_icmp .ge 45, 3) := by decide +kernel
theorem dX5_metersFor_12 : decode cX5_metersFor 12 = .ok (.iload 4, 2) := by decide +kernel
theorem dX5_metersFor_14 : decode cX5_metersFor 14 = .ok (.aload_n 1, 1) := by decide +kernel
theorem dX5_metersFor_15 : decode cX5_metersFor 15 = .ok (.arraylength, 1) := by decide +kernel
theorem dX5_metersFor_16 : decode cX5_metersFor 16 = .ok (.if_icmp .ge 38, 3) := by decide +kernel
theorem dX5_metersFor_19 : decode cX5_metersFor 19 = .ok (.iload_n 2, 1) := by decide +kernel
theorem dX5_metersFor_20 : decode cX5_metersFor 20 = .ok (.iload 4, 2) := by decide +kernel
theorem dX5_metersFor_22 : decode cX5_metersFor 22 = .ok (.ishr, 1) := by decide +kernel
theorem dX5_metersFor_23 : decode cX5_metersFor 23 = .ok (.iconst 1, 1) := by decide +kernel
theorem dX5_metersFor_24 : decode cX5_metersFor 24 = .ok (.iand, 1) := by decide +kernel
theorem dX5_metersFor_25 : decode cX5_metersFor 25 = .ok (.iconst 1, 1) := by decide +kernel
theorem dX5_metersFor_26 : decode cX5_metersFor 26 = .ok (.if_icmp .ne 22, 3) := by decide +kernel
theorem dX5_metersFor_29 : decode cX5_metersFor 29 = .ok (.aload_n 1, 1) := by decide +kernel
theorem dX5_metersFor_30 : decode cX5_metersFor 30 = .ok (.iload 4, 2) := by decide +kernel
theorem dX5_metersFor_32 : decode cX5_metersFor 32 = .ok (.iaload, 1) := by decide +kernel
theorem dX5_metersFor_33 : decode cX5_metersFor 33 = .ok (.iload_n 0, 1) := by decide +kernel
theorem dX5_metersFor_34 : decode cX5_metersFor 34 = .ok (.ishr, 1) := by decide +kernel
theorem dX5_metersFor_35 : decode cX5_metersFor 35 = .ok (.iconst 1, 1) := by decide +kernel
theorem dX5_metersFor_36 : decode cX5_metersFor 36 = .ok (.iand, 1) := by decide +kernel
theorem dX5_metersFor_37 : decode cX5_metersFor 37 = .ok (.iconst 1, 1) := by decide +kernel
theorem dX5_metersFor_38 : decode cX5_metersFor 38 = .ok (.if_icmp .ne 10, 3) := by decide +kernel
theorem dX5_metersFor_41 : decode cX5_metersFor 41 = .ok (.iload_n 3, 1) := by decide +kernel
theorem dX5_metersFor_42 : decode cX5_metersFor 42 = .ok (.iconst 1, 1) := by decide +kernel
theorem dX5_metersFor_43 : decode cX5_metersFor 43 = .ok (.iload 4, 2) := by decide +kernel
theorem dX5_metersFor_45 : decode cX5_metersFor 45 = .ok (.ishl, 1) := by decide +kernel
theorem dX5_metersFor_46 : decode cX5_metersFor 46 = .ok (.ior, 1) := by decide +kernel
theorem dX5_metersFor_47 : decode cX5_metersFor 47 = .ok (.istore_n 3, 1) := by decide +kernel
theorem dX5_metersFor_48 : decode cX5_metersFor 48 = .ok (.iinc 4 1, 3) := by decide +kernel
theorem dX5_metersFor_51 : decode cX5_metersFor 51 = .ok (.goto (-46), 3) := by decide +kernel
theorem dX5_metersFor_54 : decode cX5_metersFor 54 = .ok (.iload_n 3, 1) := by decide +kernel
theorem dX5_metersFor_55 : decode cX5_metersFor 55 = .ok (.ireturn, 1) := by decide +kernel
theorem dX5_learnAround_0 : decode cX5_learnAround 0 = .ok (.aload_n 0, 1) := by decide +kernel
theorem dX5_learnAround_1 : decode cX5_learnAround 1 = .ok (.getfield 18, 3) := by decide +kernel
theorem dX5_learnAround_4 : decode cX5_learnAround 4 = .ok (.iconst 0, 1) := by decide +kernel
theorem dX5_learnAround_5 : decode cX5_learnAround 5 = .ok (.iconst 0, 1) := by decide +kernel
theorem dX5_learnAround_6 : decode cX5_learnAround 6 = .ok (.iastore, 1) := by decide +kernel
theorem dX5_learnAround_7 : decode cX5_learnAround 7 = .ok (.iconst 1, 1) := by decide +kernel
theorem dX5_learnAround_8 : decode cX5_learnAround 8 = .ok (.istore 4, 2) := by decide +kernel
theorem dX5_learnAround_10 : decode cX5_learnAround 10 = .ok (.iload 4, 2) := by decide +kernel
theorem dX5_learnAround_12 : decode cX5_learnAround 12 = .ok (.iload_n 1, 1) := by decide +kernel
theorem dX5_learnAround_13 : decode cX5_learnAround 13 = .ok (.if_icmp .gt 58, 3) := by decide +kernel
theorem dX5_learnAround_16 : decode cX5_learnAround 16 = .ok (.iload 4, 2) := by decide +kernel
theorem dX5_learnAround_18 : decode cX5_learnAround 18 = .ok (.aload_n 0, 1) := by decide +kernel
theorem dX5_learnAround_19 : decode cX5_learnAround 19 = .ok (.getfield 18, 3) := by decide +kernel
theorem dX5_learnAround_22 : decode cX5_learnAround 22 = .ok (.arraylength, 1) := by decide +kernel
theorem dX5_learnAround_23 : decode cX5_learnAround 23 = .ok (.if_icmp .ge 48, 3) := by decide +kernel
theorem dX5_learnAround_26 : decode cX5_learnAround 26 = .ok (.iload 4, 2) := by decide +kernel
theorem dX5_learnAround_28 : decode cX5_learnAround 28 = .ok (.iload_n 1, 1) := by decide +kernel
theorem dX5_learnAround_29 : decode cX5_learnAround 29 = .ok (.iconst (-1), 1) := by decide +kernel
theorem dX5_learnAround_30 : decode cX5_learnAround 30 = .ok (.ixor, 1) := by decide +kernel
theorem dX5_learnAround_31 : decode cX5_learnAround 31 = .ok (.iand, 1) := by decide +kernel
theorem dX5_learnAround_32 : decode cX5_learnAround 32 = .ok (.ifCond .ne 33, 3) := by decide +kernel
theorem dX5_learnAround_35 : decode cX5_learnAround 35 = .ok (.aload_n 0, 1) := by decide +kernel
theorem dX5_learnAround_36 : decode cX5_learnAround 36 = .ok (.getfield 18, 3) := by decide +kernel
theorem dX5_learnAround_39 : decode cX5_learnAround 39 = .ok (.iload 4, 2) := by decide +kernel
theorem dX5_learnAround_41 : decode cX5_learnAround 41 = .ok (.aload_n 0, 1) := by decide +kernel
theorem dX5_learnAround_42 : decode cX5_learnAround 42 = .ok (.getfield 18, 3) := by decide +kernel
theorem dX5_learnAround_45 : decode cX5_learnAround 45 = .ok (.iload 4, 2) := by decide +kernel
theorem dX5_learnAround_47 : decode cX5_learnAround 47 = .ok (.iload 4, 2) := by decide +kernel
theorem dX5_learnAround_49 : decode cX5_learnAround 49 = .ok (.iconst 1, 1) := by decide +kernel
theorem dX5_learnAround_50 : decode cX5_learnAround 50 = .ok (.isub, 1) := by decide +kernel
theorem dX5_learnAround_51 : decode cX5_learnAround 51 = .ok (.iand, 1) := by decide +kernel
theorem dX5_learnAround_52 : decode cX5_learnAround 52 = .ok (.iaload, 1) := by decide +kernel
theorem dX5_learnAround_53 : decode cX5_learnAround 53 = .ok (.iload 4, 2) := by decide +kernel
theorem dX5_learnAround_55 : decode cX5_learnAround 55 = .ok (.invokestatic 33, 3) := by decide +kernel
theorem dX5_learnAround_58 : decode cX5_learnAround 58 = .ok (.aload_n 2, 1) := by decide +kernel
theorem dX5_learnAround_59 : decode cX5_learnAround 59 = .ok (.iload_n 3, 1) := by decide +kernel
theorem dX5_learnAround_60 : decode cX5_learnAround 60 = .ok (.invokestatic 37, 3) := by decide +kernel
theorem dX5_learnAround_63 : decode cX5_learnAround 63 = .ok (.ior, 1) := by decide +kernel
theorem dX5_learnAround_64 : decode cX5_learnAround 64 = .ok (.iastore, 1) := by decide +kernel
theorem dX5_learnAround_65 : decode cX5_learnAround 65 = .ok (.iinc 4 1, 3) := by decide +kernel
theorem dX5_learnAround_68 : decode cX5_learnAround 68 = .ok (.goto (-58), 3) := by decide +kernel
theorem dX5_learnAround_71 : decode cX5_learnAround 71 = .ok (.return_, 1) := by decide +kernel
theorem dX5_canAllHaveOne_0 : decode cX5_canAllHaveOne 0 = .ok (.iload_n 1, 1) := by decide +kernel
theorem dX5_canAllHaveOne_1 : decode cX5_canAllHaveOne 1 = .ok (.istore_n 3, 1) := by decide +kernel
theorem dX5_canAllHaveOne_2 : decode cX5_canAllHaveOne 2 = .ok (.iload_n 3, 1) := by decide +kernel
theorem dX5_canAllHaveOne_3 : decode cX5_canAllHaveOne 3 = .ok (.ifCond .le 32, 3) := by decide +kernel
theorem dX5_canAllHaveOne_6 : decode cX5_canAllHaveOne 6 = .ok (.aload_n 0, 1) := by decide +kernel
theorem dX5_canAllHaveOne_7 : decode cX5_canAllHaveOne 7 = .ok (.getfield 18, 3) := by decide +kernel
theorem dX5_canAllHaveOne_10 : decode cX5_canAllHaveOne 10 = .ok (.iload_n 3, 1) := by decide +kernel
theorem dX5_canAllHaveOne_11 : decode cX5_canAllHaveOne 11 = .ok (.iaload, 1) := by decide +kernel
theorem dX5_canAllHaveOne_12 : decode cX5_canAllHaveOne 12 = .ok (.iload_n 2, 1) := by decide +kernel
theorem dX5_canAllHaveOne_13 : decode cX5_canAllHaveOne 13 = .ok (.iand, 1) := by decide +kernel
theorem dX5_canAllHaveOne_14 : decode cX5_canAllHaveOne 14 = .ok (.invokestatic 45, 3) := by decide +kernel
theorem dX5_canAllHaveOne_17 : decode cX5_canAllHaveOne 17 = .ok (.iload_n 3, 1) := by decide +kernel
theorem dX5_canAllHaveOne_18 : decode cX5_canAllHaveOne 18 = .ok (.invokestatic 45, 3) := by decide +kernel
theorem dX5_canAllHaveOne_21 : decode cX5_canAllHaveOne 21 = .ok (.if_icmp .ge 5, 3) := by decide +kernel
theorem dX5_canAllHaveOne_24 : decode cX5_canAllHaveOne 24 = .ok (.iconst 0, 1) := by decide +kernel
theorem dX5_canAllHaveOne_25 : decode cX5_canAllHaveOne 25 = .ok (.ireturn, 1) := by decide +kernel
theorem dX5_canAllHaveOne_26 : decode cX5_canAllHaveOne 26 = .ok (.iload_n 3, 1) := by decide +kernel
theorem dX5_canAllHaveOne_27 : decode cX5_canAllHaveOne 27 = .ok (.iconst 1, 1) := by decide +kernel
theorem dX5_canAllHaveOne_28 : decode cX5_canAllHaveOne 28 = .ok (.isub, 1) := by decide +kernel
theorem dX5_canAllHaveOne_29 : decode cX5_canAllHaveOne 29 = .ok (.iload_n 1, 1) := by decide +kernel
theorem dX5_canAllHaveOne_30 : decode cX5_canAllHaveOne 30 = .ok (.iand, 1) := by decide +kernel
theorem dX5_canAllHaveOne_31 : decode cX5_canAllHaveOne 31 = .ok (.istore_n 3, 1) := by decide +kernel
theorem dX5_canAllHaveOne_32 : decode cX5_canAllHaveOne 32 = .ok (.goto (-30), 3) := by decide +kernel
theorem dX5_canAllHaveOne_35 : decode cX5_canAllHaveOne 35 = .ok (.iconst 1, 1) := by decide +kernel
theorem dX5_canAllHaveOne_36 : decode cX5_canAllHaveOne 36 = .ok (.ireturn, 1) := by decide +kernel
theorem dX5_leastMeter_0 : decode cX5_leastMeter 0 = .ok (.iconst 0, 1) := by decide +kernel
theorem dX5_leastMeter_1 : decode cX5_leastMeter 1 = .ok (.istore_n 3, 1) := by decide +kernel
theorem dX5_leastMeter_2 : decode cX5_leastMeter 2 = .ok (.iload_n 3, 1) := by decide +kernel
theorem dX5_leastMeter_3 : decode cX5_leastMeter 3 = .ok (.bipush 9, 2) := by decide +kernel
theorem dX5_leastMeter_5 : decode cX5_leastMeter 5 = .ok (.if_icmp .ge 45, 3) := by decide +kernel
theorem dX5_leastMeter_8 : decode cX5_leastMeter 8 = .ok (.iconst 1, 1) := by decide +kernel
theorem dX5_leastMeter_9 : decode cX5_leastMeter 9 = .ok (.iload_n 3, 1) := by decide +kernel
theorem dX5_leastMeter_10 : decode cX5_leastMeter 10 = .ok (.ishl, 1) := by decide +kernel
theorem dX5_leastMeter_11 : decode cX5_leastMeter 11 = .ok (.istore 4, 2) := by decide +kernel
theorem dX5_leastMeter_13 : decode cX5_leastMeter 13 = .ok (.iload_n 1, 1) := by decide +kernel
theorem dX5_leastMeter_14 : decode cX5_leastMeter 14 = .ok (.aload_n 0, 1) := by decide +kernel
theorem dX5_leastMeter_15 : decode cX5_leastMeter 15 = .ok (.getfield 25, 3) := by decide +kernel
theorem dX5_leastMeter_18 : decode cX5_leastMeter 18 = .ok (.iand, 1) := by decide +kernel
theorem dX5_leastMeter_19 : decode cX5_leastMeter 19 = .ok (.iload 4, 2) := by decide +kernel
theorem dX5_leastMeter_21 : decode cX5_leastMeter 21 = .ok (.iand, 1) := by decide +kernel
theorem dX5_leastMeter_22 : decode cX5_leastMeter 22 = .ok (.ifCond .eq 22, 3) := by decide +kernel
theorem dX5_leastMeter_25 : decode cX5_leastMeter 25 = .ok (.aload_n 0, 1) := by decide +kernel
theorem dX5_leastMeter_26 : decode cX5_leastMeter 26 = .ok (.iload_n 2, 1) := by decide +kernel
theorem dX5_leastMeter_27 : decode cX5_leastMeter 27 = .ok (.aload_n 0, 1) := by decide +kernel
theorem dX5_leastMeter_28 : decode cX5_leastMeter 28 = .ok (.getfield 25, 3) := by decide +kernel
theorem dX5_leastMeter_31 : decode cX5_leastMeter 31 = .ok (.iload 4, 2) := by decide +kernel
theorem dX5_leastMeter_33 : decode cX5_leastMeter 33 = .ok (.iconst (-1), 1) := by decide +kernel
theorem dX5_leastMeter_34 : decode cX5_leastMeter 34 = .ok (.ixor, 1) := by decide +kernel
theorem dX5_leastMeter_35 : decode cX5_leastMeter 35 = .ok (.iand, 1) := by decide +kernel
theorem dX5_leastMeter_36 : decode cX5_leastMeter 36 = .ok (.invokevirtual 41, 3) := by decide +kernel
theorem dX5_leastMeter_39 : decode cX5_leastMeter 39 = .ok (.ifCond .eq 5, 3) := by decide +kernel
theorem dX5_leastMeter_42 : decode cX5_leastMeter 42 = .ok (.iload_n 3, 1) := by decide +kernel
theorem dX5_leastMeter_43 : decode cX5_leastMeter 43 = .ok (.ireturn, 1) := by decide +kernel
theorem dX5_leastMeter_44 : decode cX5_leastMeter 44 = .ok (.iinc 3 1, 3) := by decide +kernel
theorem dX5_leastMeter_47 : decode cX5_leastMeter 47 = .ok (.goto (-45), 3) := by decide +kernel
theorem dX5_leastMeter_50 : decode cX5_leastMeter 50 = .ok (.iconst (-1), 1) := by decide +kernel
theorem dX5_leastMeter_51 : decode cX5_leastMeter 51 = .ok (.ireturn, 1) := by decide +kernel
theorem dX5_assign_0 : decode cX5_assign 0 = .ok (.iconst 0, 1) := by decide +kernel
theorem dX5_assign_1 : decode cX5_assign 1 = .ok (.istore 4, 2) := by decide +kernel
theorem dX5_assign_3 : decode cX5_assign 3 = .ok (.iload 4, 2) := by decide +kernel
theorem dX5_assign_5 : decode cX5_assign 5 = .ok (.bipush 9, 2) := by decide +kernel
theorem dX5_assign_7 : decode cX5_assign 7 = .ok (.if_icmp .ge 17, 3) := by decide +kernel
theorem dX5_assign_10 : decode cX5_assign 10 = .ok (.aload_n 0, 1) := by decide +kernel
theorem dX5_assign_11 : decode cX5_assign 11 = .ok (.getfield 15, 3) := by decide +kernel
theorem dX5_assign_14 : decode cX5_assign 14 = .ok (.iload 4, 2) := by decide +kernel
theorem dX5_assign_16 : decode cX5_assign 16 = .ok (.iconst (-1), 1) := by decide +kernel
theorem dX5_assign_17 : decode cX5_assign 17 = .ok (.iastore, 1) := by decide +kernel
theorem dX5_assign_18 : decode cX5_assign 18 = .ok (.iinc 4 1, 3) := by decide +kernel
theorem dX5_assign_21 : decode cX5_assign 21 = .ok (.goto (-18), 3) := by decide +kernel
theorem dX5_assign_24 : decode cX5_assign 24 = .ok (.aload_n 0, 1) := by decide +kernel
theorem dX5_assign_25 : decode cX5_assign 25 = .ok (.iload_n 1, 1) := by decide +kernel
theorem dX5_assign_26 : decode cX5_assign 26 = .ok (.aload_n 2, 1) := by decide +kernel
theorem dX5_assign_27 : decode cX5_assign 27 = .ok (.iload_n 3, 1) := by decide +kernel
theorem dX5_assign_28 : decode cX5_assign 28 = .ok (.invokevirtual 21, 3) := by decide +kernel
theorem dX5_assign_31 : decode cX5_assign 31 = .ok (.iload_n 1, 1) := by decide +kernel
theorem dX5_assign_32 : decode cX5_assign 32 = .ok (.istore 4, 2) := by decide +kernel
theorem dX5_assign_34 : decode cX5_assign 34 = .ok (.aload_n 0, 1) := by decide +kernel
theorem dX5_assign_35 : decode cX5_assign 35 = .ok (.iload_n 3, 1) := by decide +kernel
theorem dX5_assign_36 : decode cX5_assign 36 = .ok (.putfield 25, 3) := by decide +kernel
theorem dX5_assign_39 : decode cX5_assign 39 = .ok (.iconst 0, 1) := by decide +kernel
theorem dX5_assign_40 : decode cX5_assign 40 = .ok (.istore 5, 2) := by decide +kernel
theorem dX5_assign_42 : decode cX5_assign 42 = .ok (.iload 5, 2) := by decide +kernel
theorem dX5_assign_44 : decode cX5_assign 44 = .ok (.bipush 10, 2) := by decide +kernel
theorem dX5_assign_46 : decode cX5_assign 46 = .ok (.if_icmp .ge 105, 3) := by decide +kernel
theorem dX5_assign_49 : decode cX5_assign 49 = .ok (.aload_n 0, 1) := by decide +kernel
theorem dX5_assign_50 : decode cX5_assign 50 = .ok (.getfield 9, 3) := by decide +kernel
theorem dX5_assign_53 : decode cX5_assign 53 = .ok (.iload 5, 2) := by decide +kernel
theorem dX5_assign_55 : decode cX5_assign 55 = .ok (.iconst (-1), 1) := by decide +kernel
theorem dX5_assign_56 : decode cX5_assign 56 = .ok (.iastore, 1) := by decide +kernel
theorem dX5_assign_57 : decode cX5_assign 57 = .ok (.iload_n 1, 1) := by decide +kernel
theorem dX5_assign_58 : decode cX5_assign 58 = .ok (.iload 5, 2) := by decide +kernel
theorem dX5_assign_60 : decode cX5_assign 60 = .ok (.ishr, 1) := by decide +kernel
theorem dX5_assign_61 : decode cX5_assign 61 = .ok (.iconst 1, 1) := by decide +kernel
theorem dX5_assign_62 : decode cX5_assign 62 = .ok (.iand, 1) := by decide +kernel
theorem dX5_assign_63 : decode cX5_assign 63 = .ok (.iconst 1, 1) := by decide +kernel
theorem dX5_assign_64 : decode cX5_assign 64 = .ok (.if_icmp .ne 36, 3) := by decide +kernel
theorem dX5_assign_67 : decode cX5_assign 67 = .ok (.iload 4, 2) := by decide +kernel
theorem dX5_assign_69 : decode cX5_assign 69 = .ok (.iconst 1, 1) := by decide +kernel
theorem dX5_assign_70 : decode cX5_assign 70 = .ok (.iload 5, 2) := by decide +kernel
theorem dX5_assign_72 : decode cX5_assign 72 = .ok (.ishl, 1) := by decide +kernel
theorem dX5_assign_73 : decode cX5_assign 73 = .ok (.iconst (-1), 1) := by decide +kernel
theorem dX5_assign_74 : decode cX5_assign 74 = .ok (.ixor, 1) := by decide +kernel
theorem dX5_assign_75 : decode cX5_assign 75 = .ok (.iand, 1) := by decide +kernel
theorem dX5_assign_76 : decode cX5_assign 76 = .ok (.istore 4, 2) := by decide +kernel
theorem dX5_assign_78 : decode cX5_assign 78 = .ok (.aload_n 0, 1) := by decide +kernel
theorem dX5_assign_79 : decode cX5_assign 79 = .ok (.getfield 9, 3) := by decide +kernel
theorem dX5_assign_82 : decode cX5_assign 82 = .ok (.iload 5, 2) := by decide +kernel
theorem dX5_assign_84 : decode cX5_assign 84 = .ok (.aload_n 0, 1) := by decide +kernel
theorem dX5_assign_85 : decode cX5_assign 85 = .ok (.aload_n 0, 1) := by decide +kernel
theorem dX5_assign_86 : decode cX5_assign 86 = .ok (.getfield 18, 3) := by decide +kernel
theorem dX5_assign_89 : decode cX5_assign 89 = .ok (.iconst 1, 1) := by decide +kernel
theorem dX5_assign_90 : decode cX5_assign 90 = .ok (.iload 5, 2) := by decide +kernel
theorem dX5_assign_92 : decode cX5_assign 92 = .ok (.ishl, 1) := by decide +kernel
theorem dX5_assign_93 : decode cX5_assign 93 = .ok (.iaload, 1) := by decide +kernel
theorem dX5_assign_94 : decode cX5_assign 94 = .ok (.iload 4, 2) := by decide +kernel
theorem dX5_assign_96 : decode cX5_assign 96 = .ok (.invokevirtual 29, 3) := by decide +kernel
theorem dX5_assign_99 : decode cX5_assign 99 = .ok (.iastore, 1) := by decide +kernel
theorem dX5_assign_100 : decode cX5_assign 100 = .ok (.aload_n 0, 1) := by decide +kernel
theorem dX5_assign_101 : decode cX5_assign 101 = .ok (.getfield 9, 3) := by decide +kernel
theorem dX5_assign_104 : decode cX5_assign 104 = .ok (.iload 5, 2) := by decide +kernel
theorem dX5_assign_106 : decode cX5_assign 106 = .ok (.iaload, 1) := by decide +kernel
theorem dX5_assign_107 : decode cX5_assign 107 = .ok (.iconst (-1), 1) := by decide +kernel
theorem dX5_assign_108 : decode cX5_assign 108 = .ok (.if_icmp .eq 37, 3) := by decide +kernel
theorem dX5_assign_111 : decode cX5_assign 111 = .ok (.aload_n 0, 1) := by decide +kernel
theorem dX5_assign_112 : decode cX5_assign 112 = .ok (.getfield 15, 3) := by decide +kernel
theorem dX5_assign_115 : decode cX5_assign 115 = .ok (.aload_n 0, 1) := by decide +kernel
theorem dX5_assign_116 : decode cX5_assign 116 = .ok (.getfield 9, 3) := by decide +kernel
theorem dX5_assign_119 : decode cX5_assign 119 = .ok (.iload 5, 2) := by decide +kernel
theorem dX5_assign_121 : decode cX5_assign 121 = .ok (.iaload, 1) := by decide +kernel
theorem dX5_assign_122 : decode cX5_assign 122 = .ok (.iload 5, 2) := by decide +kernel
theorem dX5_assign_124 : decode cX5_assign 124 = .ok (.iastore, 1) := by decide +kernel
theorem dX5_assign_125 : decode cX5_assign 125 = .ok (.aload_n 0, 1) := by decide +kernel
theorem dX5_assign_126 : decode cX5_assign 126 = .ok (.dup, 1) := by decide +kernel
theorem dX5_assign_127 : decode cX5_assign 127 = .ok (.getfield 25, 3) := by decide +kernel
theorem dX5_assign_130 : decode cX5_assign 130 = .ok (.iconst 1, 1) := by decide +kernel
theorem dX5_assign_131 : decode cX5_assign 131 = .ok (.aload_n 0, 1) := by decide +kernel
theorem dX5_assign_132 : decode cX5_assign 132 = .ok (.getfield 9, 3) := by decide +kernel
theorem dX5_assign_135 : decode cX5_assign 135 = .ok (.iload 5, 2) := by decide +kernel
theorem dX5_assign_137 : decode cX5_assign 137 = .ok (.iaload, 1) := by decide +kernel
theorem dX5_assign_138 : decode cX5_assign 138 = .ok (.ishl, 1) := by decide +kernel
theorem dX5_assign_139 : decode cX5_assign 139 = .ok (.iconst (-1), 1) := by decide +kernel
theorem dX5_assign_140 : decode cX5_assign 140 = .ok (.ixor, 1) := by decide +kernel
theorem dX5_assign_141 : decode cX5_assign 141 = .ok (.iand, 1) := by decide +kernel
theorem dX5_assign_142 : decode cX5_assign 142 = .ok (.putfield 25, 3) := by decide +kernel
theorem dX5_assign_145 : decode cX5_assign 145 = .ok (.iinc 5 1, 3) := by decide +kernel
theorem dX5_assign_148 : decode cX5_assign 148 = .ok (.goto (-106), 3) := by decide +kernel
theorem dX5_assign_151 : decode cX5_assign 151 = .ok (.return_, 1) := by decide +kernel
theorem kfX5_18 : ux_FL RX5 18 5 3 := ⟨RX5, TX5, 4, rfl, lay_X5, by decide, tw_312⟩
theorem knX5_33 : ux_LSN RX5 33 "MeterDesk" yX11_lowest cX11_lowest 1 (some .int) 1 := ⟨by decide, tw_438, tw_72, tw_439, ⟨by decide, by decide, by decide +kernel⟩⟩
theorem ksX5_37 : ux_LS RX5 37 yX5_metersFor cX5_metersFor 5 (some .int) 3 := ⟨tw_759, tw_760, tw_81, tw_761, ⟨by decide, by decide, by decide +kernel⟩⟩
theorem ksX5_45 : ux_LS RX5 45 yJ6_bitCount_0f7a4 cJ6_bitCount_0f7a4 1 (some .int) 1 := ⟨tw_770, tw_441, tw_84, tw_442, ⟨by decide, by decide, by decide +kernel⟩⟩
theorem kfX5_25 : ux_FL RX5 25 5 0 := ⟨RX5, TX5, 4, rfl, lay_X5, by decide, tw_306⟩
theorem kvX5_41 : ux_LV RX5 41 5 yX5_canAllHaveOne cX5_canAllHaveOne 4 (some .boolean) 2 := ⟨⟨TX5, 4, rfl⟩, tw_766, tw_768, tw_20, tw_81, tw_769, ⟨by decide, by decide, by decide +kernel⟩⟩
theorem kfX5_15 : ux_FL RX5 15 5 2 := ⟨RX5, TX5, 4, rfl, lay_X5, by decide, tw_310⟩
theorem kvX5_21 : ux_LV RX5 21 5 yX5_learnAround cX5_learnAround 5 none 3 := ⟨⟨TX5, 4, rfl⟩, tw_754, tw_756, tw_18, tw_81, tw_757, ⟨by decide, by decide, by decide +kernel⟩⟩
theorem kpX5_25 : ux_FP RX5 25 5 0 .int := ⟨RX5, TX5, 4, rfl, lay_X5, by decide, tw_306, tyX5, tyX5_ok, nmX5, rfl, by decide +kernel⟩
theorem kfX5_9 : ux_FL RX5 9 5 1 := ⟨RX5, TX5, 4, rfl, lay_X5, by decide, tw_308⟩
theorem kvX5_29 : ux_LV RX5 29 5 yX5_leastMeter cX5_leastMeter 5 (some .int) 2 := ⟨⟨TX5, 4, rfl⟩, tw_762, tw_764, tw_19, tw_81, tw_765, ⟨by decide, by decide, by decide +kernel⟩⟩
def fX5_metersFor_5b_48 (c1 : Nat) (n1 : Nat) (v0 : Int32) (v2 : Int32) (v3 : Int32) (v4 : Int32) (N : ux_N) : Option ((Int32 × Int32) ⊕ (Int32)) :=
  some (.inl (v3, (v4 + 1)))
set_option maxHeartbeats 4000000 in
set_option maxRecDepth 20000 in
theorem wX5_metersFor_5b_48 {X : ux_X} (C : ux_C X cX5_metersFor RX5 5 (some .int) 0 0 shC) {c1 : Nat} {n1 : Nat} {v0 : Int32} {v2 : Int32} {v3 : Int32} {v4 : Int32} (p1 : shC[c1]? = some (1, 0, n1, [])) {N : ux_N} {L : ux_L} {o : (Int32 × Int32) ⊕ (Int32)} (hin : ∀ s : Int32 × Int32, o = .inl s → ux_Wt X 5 5 [(0, .int v0), (1, .ref (ux_ad X c1)), (2, .int v2), (3, .int s.1), (4, .int s.2)] [] N L) (hex0 : ∀ e : Int32, o = .inr (e) → ux_Wt X 5 54 [(3, .int e)] [] N L) (h : fX5_metersFor_5b_48 c1 n1 v0 v2 v3 v4 N = some o) : ux_Wt X 5 48 [(0, .int v0), (1, .ref (ux_ad X c1)), (2, .int v2), (3, .int v3), (4, .int v4)] [] N L := by
  refine wt_iinc 51 4 [(4, .int (v4 + 1)), (0, .int v0), (1, .ref (ux_ad X c1)), (2, .int v2), (3, .int v3)] (v4 + 1) C dX5_metersFor_48 rfl rfl (by rfl) (by decide) rfl ?_
  refine wt_goto 5 C dX5_metersFor_51 (by decide) ?_
  refine wt_sub [1, 2, 3, 4, 0] rfl ?_
  exact hin _ (Option.some.inj h).symm
def fX5_metersFor_5b (c1 : Nat) (n1 : Nat) (v0 : Int32) (v2 : Int32) (v3 : Int32) (v4 : Int32) (N : ux_N) : Option ((Int32 × Int32) ⊕ (Int32)) :=
  if (9 : Int32) ≤ v4 then (some (.inr (v3))) else (if (Int32.ofNat n1) ≤ v4 then (some (.inr (v3))) else (if ((v2 >>> (v4 &&& 31)) &&& (1 : Int32)) = (1 : Int32) then (if ux_in v4 n1 then (if (((N c1 (v4.toNatClampNeg)) >>> (v0 &&& 31)) &&& (1 : Int32)) = (1 : Int32) then (fX5_metersFor_5b_48 c1 n1 v0 v2 (v3 ||| ((1 : Int32) <<< (v4 &&& 31))) v4 N) else (fX5_metersFor_5b_48 c1 n1 v0 v2 v3 v4 N)) else none) else (fX5_metersFor_5b_48 c1 n1 v0 v2 v3 v4 N)))
set_option maxHeartbeats 4000000 in
set_option maxRecDepth 20000 in
theorem wX5_metersFor_5b {X : ux_X} (C : ux_C X cX5_metersFor RX5 5 (some .int) 0 0 shC) {c1 : Nat} {n1 : Nat} {v0 : Int32} {v2 : Int32} {v3 : Int32} {v4 : Int32} (p1 : shC[c1]? = some (1, 0, n1, [])) {N : ux_N} {L : ux_L} {o : (Int32 × Int32) ⊕ (Int32)} (hin : ∀ s : Int32 × Int32, o = .inl s → ux_Wt X 5 5 [(0, .int v0), (1, .ref (ux_ad X c1)), (2, .int v2), (3, .int s.1), (4, .int s.2)] [] N L) (hex0 : ∀ e : Int32, o = .inr (e) → ux_Wt X 5 54 [(3, .int e)] [] N L) (h : fX5_metersFor_5b c1 n1 v0 v2 v3 v4 N = some o) : ux_Wt X 5 5 [(0, .int v0), (1, .ref (ux_ad X c1)), (2, .int v2), (3, .int v3), (4, .int v4)] [] N L := by
  refine wt_iload 7 4 C dX5_metersFor_5 rfl rfl ?_
  refine wt_bipush 9 9 C dX5_metersFor_7 rfl (by decide) ?_
  refine wt_icmp_ge 12 54 C dX5_metersFor_9 rfl (by decide) (fun q1 => ?_) (fun q1 => ?_)
  · have h := (if_pos q1).symm.trans h
    refine wt_sub [3] rfl ?_
    exact hex0 _ (Option.some.inj h).symm
  · have h := (if_neg q1).symm.trans h
    refine wt_iload 14 4 C dX5_metersFor_12 rfl rfl ?_
    refine wt_aload_n 15 1 C dX5_metersFor_14 rfl rfl ?_
    refine wt_alenI 16 C p1 rfl dX5_metersFor_15 rfl ?_
    refine wt_icmp_ge 19 54 C dX5_metersFor_16 rfl (by decide) (fun q2 => ?_) (fun q2 => ?_)
    · have h := (if_pos q2).symm.trans h
      refine wt_sub [3] rfl ?_
      exact hex0 _ (Option.some.inj h).symm
    · have h := (if_neg q2).symm.trans h
      refine wt_iload_n 20 2 C dX5_metersFor_19 rfl rfl ?_
      refine wt_iload 22 4 C dX5_metersFor_20 rfl rfl ?_
      refine wt_ishr 23 C dX5_metersFor_22 rfl ?_
      refine wt_iconst 24 1 C dX5_metersFor_23 rfl (by decide) ?_
      refine wt_iand 25 C dX5_metersFor_24 rfl ?_
      refine wt_iconst 26 1 C dX5_metersFor_25 rfl (by decide) ?_
      refine wt_icmp_ne 29 48 C dX5_metersFor_26 rfl (by decide) (fun q3 => ?_) (fun q3 => ?_)
      · have h := (if_neg q3).symm.trans h
        exact wX5_metersFor_5b_48 C p1 hin hex0 h
      · have h := (if_pos q3).symm.trans h
        refine wt_aload_n 30 1 C dX5_metersFor_29 rfl rfl ?_
        refine wt_iload 32 4 C dX5_metersFor_30 rfl rfl ?_
        obtain ⟨hi4, h⟩ := ux_guard h
        refine wt_iald 33 (v4.toNatClampNeg) C p1 rfl hi4 dX5_metersFor_32 rfl ?_
        refine wt_iload_n 34 0 C dX5_metersFor_33 rfl rfl ?_
        refine wt_ishr 35 C dX5_metersFor_34 rfl ?_
        refine wt_iconst 36 1 C dX5_metersFor_35 rfl (by decide) ?_
        refine wt_iand 37 C dX5_metersFor_36 rfl ?_
        refine wt_iconst 38 1 C dX5_metersFor_37 rfl (by decide) ?_
        refine wt_icmp_ne 41 48 C dX5_metersFor_38 rfl (by decide) (fun q5 => ?_) (fun q5 => ?_)
        · have h := (if_neg q5).symm.trans h
          exact wX5_metersFor_5b_48 C p1 hin hex0 h
        · have h := (if_pos q5).symm.trans h
          refine wt_iload_n 42 3 C dX5_metersFor_41 rfl rfl ?_
          refine wt_iconst 43 1 C dX5_metersFor_42 rfl (by decide) ?_
          refine wt_iload 45 4 C dX5_metersFor_43 rfl rfl ?_
          refine wt_ishl 46 C dX5_metersFor_45 rfl ?_
          refine wt_ior 47 C dX5_metersFor_46 rfl ?_
          refine wt_istore_n 48 [(3, .int (v3 ||| ((1 : Int32) <<< (v4 &&& 31)))), (0, .int v0), (1, .ref (ux_ad X c1)), (2, .int v2), (4, .int v4)] C dX5_metersFor_47 rfl (by decide) rfl ?_
          refine wt_sub [1, 2, 3, 0, 4] rfl ?_
          exact wX5_metersFor_5b_48 C p1 hin hex0 h
def fX5_metersFor_54 (c1 : Nat) (n1 : Nat) (v3 : Int32) (N : ux_N) : Option (Int32) :=
  some v3
set_option maxHeartbeats 4000000 in
set_option maxRecDepth 20000 in
theorem wX5_metersFor_54 {X : ux_X} (C : ux_C X cX5_metersFor RX5 5 (some .int) 0 0 shC) {c1 : Nat} {n1 : Nat} {v3 : Int32} (p1 : shC[c1]? = some (1, 0, n1, [])) {N : ux_N} {L : ux_L} {o : Int32} (hq : ux_Qi X o N L) (h : fX5_metersFor_54 c1 n1 v3 N = some o) : ux_Wt X 5 54 [(3, .int v3)] [] N L := by
  refine wt_iload_n 55 0 C dX5_metersFor_54 rfl rfl ?_
  cases h
  exact wt_iret C hq dX5_metersFor_55
def fX5_metersFor (c1 : Nat) (n1 : Nat) (v0 : Int32) (v2 : Int32) (N : ux_N) : Option (Int32) :=
  (ux_lp (fun s : Int32 × Int32 => fX5_metersFor_5b c1 n1 v0 v2 s.1 s.2 N) ux_fu ((0 : Int32), (0 : Int32))).bind (fun e8 => fX5_metersFor_54 c1 n1 e8 N)
set_option maxHeartbeats 4000000 in
set_option maxRecDepth 20000 in
theorem wX5_metersFor {X : ux_X} (C : ux_C X cX5_metersFor RX5 5 (some .int) 0 0 shC) {c1 : Nat} {n1 : Nat} {v0 : Int32} {v2 : Int32} (p1 : shC[c1]? = some (1, 0, n1, [])) {N : ux_N} {L : ux_L} {o : Int32} (hq : ux_Qi X o N L) (h : fX5_metersFor c1 n1 v0 v2 N = some o) : ux_Wt X 5 0 [(0, .int v0), (1, .ref (ux_ad X c1)), (2, .int v2)] [] N L := by
  refine wt_iconst 1 0 C dX5_metersFor_0 rfl (by decide) ?_
  refine wt_istore_n 2 [(3, .int (0 : Int32)), (0, .int v0), (1, .ref (ux_ad X c1)), (2, .int v2)] C dX5_metersFor_1 rfl (by decide) rfl ?_
  refine wt_iconst 3 0 C dX5_metersFor_2 rfl (by decide) ?_
  refine wt_istore 5 [(4, .int (0 : Int32)), (3, .int (0 : Int32)), (0, .int v0), (1, .ref (ux_ad X c1)), (2, .int v2)] C dX5_metersFor_3 rfl (by decide) rfl ?_
  obtain ⟨e1, hl2, h⟩ := Option.bind_eq_some_iff.mp h
  refine wt_sub [2, 3, 4, 1, 0] rfl ?_
  refine ux_loop (fun s : Int32 × Int32 => fX5_metersFor_5b c1 n1 v0 v2 s.1 s.2 N) (fun s : Int32 × Int32 => ux_Wt X 5 5 [(0, .int v0), (1, .ref (ux_ad X c1)), (2, .int v2), (3, .int s.1), (4, .int s.2)] [] N L) (e := e1) ?_ hl2
  intro s3 o4 hb5 hi6 hx7
  refine wX5_metersFor_5b C p1 hi6 (fun x0 he => ?_) hb5
  · obtain ⟨e8, rfl⟩ : ∃ z, z = x0 := ⟨_, rfl⟩
    have h9 := hx7 _ he
    subst h9
    exact wX5_metersFor_54 C p1 hq h
theorem mX5_metersFor {l : Launch} {G : ux_G} (hok : ux_ok G shC) {v0 : Int32} {c1 : Nat} {n1 : Nat} {v2 : Int32} (p1 : shC[c1]? = some (1, 0, n1, [])) {N : ux_N} {L : ux_L} {o : Int32} (h : fX5_metersFor c1 n1 v0 v2 N = some o) : ux_Mi l G yX5_metersFor cX5_metersFor 5 (some .int) 0 0 [.int v0, .ref (gad G c1), .int v2] N L o N L :=
  ux_ofi shC hok (by decide +kernel) (Nat.le_of_ble_eq_true rfl) (fun X hG hl C hq => by subst hG; subst hl; exact wX5_metersFor C p1 hq h)
def fX5_learnAround_10b_65 (c2 : Nat) (n2 : Nat) (v1 : Int32) (v3 : Int32) (v4 : Int32) (N : ux_N) : Option ((Int32 × ux_N) ⊕ (ux_N)) :=
  some (.inl ((v4 + 1), N))
set_option maxHeartbeats 4000000 in
set_option maxRecDepth 20000 in
theorem wX5_learnAround_10b_65 {X : ux_X} (C : ux_C X cX5_learnAround RX5 5 none 2 40 shC) {c2 : Nat} {n2 : Nat} {v1 : Int32} {v3 : Int32} {v4 : Int32} (p2 : shC[c2]? = some (1, 0, n2, [])) {N : ux_N} {L : ux_L} {o : (Int32 × ux_N) ⊕ (ux_N)} (hin : ∀ s : Int32 × ux_N, o = .inl s → ux_Wt X 5 10 [(0, .ref (ux_ad X 103)), (1, .int v1), (2, .ref (ux_ad X c2)), (3, .int v3), (4, .int s.1)] [] s.2 L) (hex0 : ∀ e : ux_N, o = .inr (e) → ux_Wt X 5 71 [] [] e L) (h : fX5_learnAround_10b_65 c2 n2 v1 v3 v4 N = some o) : ux_Wt X 5 65 [(0, .ref (ux_ad X 103)), (1, .int v1), (2, .ref (ux_ad X c2)), (3, .int v3), (4, .int v4)] [] N L := by
  refine wt_iinc 68 4 [(4, .int (v4 + 1)), (0, .ref (ux_ad X 103)), (1, .int v1), (2, .ref (ux_ad X c2)), (3, .int v3)] (v4 + 1) C dX5_learnAround_65 rfl rfl (by rfl) (by decide) rfl ?_
  refine wt_goto 10 C dX5_learnAround_68 (by decide) ?_
  refine wt_sub [1, 2, 3, 4, 0] rfl ?_
  exact hin _ (Option.some.inj h).symm
def fX5_learnAround_10b (c2 : Nat) (n2 : Nat) (v1 : Int32) (v3 : Int32) (v4 : Int32) (N : ux_N) : Option ((Int32 × ux_N) ⊕ (ux_N)) :=
  if v1 < v4 then (some (.inr (N))) else (if (Int32.ofNat 1024) ≤ v4 then (some (.inr (N))) else (if (v4 &&& (v1 ^^^ (-1 : Int32))) = 0 then (if ux_in (v4 &&& (v4 - (1 : Int32))) 1024 then ((fX11_lowest v4).bind (fun o5 => (fX5_metersFor c2 n2 o5 v3 N).bind (fun o7 => if ux_in v4 1024 then (fX5_learnAround_10b_65 c2 n2 v1 v3 v4 (ux_u N 106 (v4.toNatClampNeg) ((N 106 ((v4 &&& (v4 - (1 : Int32))).toNatClampNeg)) ||| o7))) else none))) else none) else (fX5_learnAround_10b_65 c2 n2 v1 v3 v4 N)))
set_option maxHeartbeats 4000000 in
set_option maxRecDepth 20000 in
theorem wX5_learnAround_10b {X : ux_X} (C : ux_C X cX5_learnAround RX5 5 none 2 40 shC) {c2 : Nat} {n2 : Nat} {v1 : Int32} {v3 : Int32} {v4 : Int32} (p2 : shC[c2]? = some (1, 0, n2, [])) {N : ux_N} {L : ux_L} {o : (Int32 × ux_N) ⊕ (ux_N)} (hin : ∀ s : Int32 × ux_N, o = .inl s → ux_Wt X 5 10 [(0, .ref (ux_ad X 103)), (1, .int v1), (2, .ref (ux_ad X c2)), (3, .int v3), (4, .int s.1)] [] s.2 L) (hex0 : ∀ e : ux_N, o = .inr (e) → ux_Wt X 5 71 [] [] e L) (h : fX5_learnAround_10b c2 n2 v1 v3 v4 N = some o) : ux_Wt X 5 10 [(0, .ref (ux_ad X 103)), (1, .int v1), (2, .ref (ux_ad X c2)), (3, .int v3), (4, .int v4)] [] N L := by
  refine wt_iload 12 4 C dX5_learnAround_10 rfl rfl ?_
  refine wt_iload_n 13 1 C dX5_learnAround_12 rfl rfl ?_
  refine wt_icmp_gt 16 71 C dX5_learnAround_13 rfl (by decide) (fun q1 => ?_) (fun q1 => ?_)
  · have h := (if_pos q1).symm.trans h
    refine wt_sub [] rfl ?_
    exact hex0 _ (Option.some.inj h).symm
  · have h := (if_neg q1).symm.trans h
    refine wt_iload 18 4 C dX5_learnAround_16 rfl rfl ?_
    refine wt_aload_n 19 0 C dX5_learnAround_18 rfl rfl ?_
    refine wt_getR 22 C kfX5_18 sc_103 rfl dX5_learnAround_19 rfl ?_
    refine wt_alenI 23 C sc_106 rfl dX5_learnAround_22 rfl ?_
    refine wt_icmp_ge 26 71 C dX5_learnAround_23 rfl (by decide) (fun q2 => ?_) (fun q2 => ?_)
    · have h := (if_pos q2).symm.trans h
      refine wt_sub [] rfl ?_
      exact hex0 _ (Option.some.inj h).symm
    · have h := (if_neg q2).symm.trans h
      refine wt_iload 28 4 C dX5_learnAround_26 rfl rfl ?_
      refine wt_iload_n 29 1 C dX5_learnAround_28 rfl rfl ?_
      refine wt_iconst 30 (-1) C dX5_learnAround_29 rfl (by decide) ?_
      refine wt_ixor 31 C dX5_learnAround_30 rfl ?_
      refine wt_iand 32 C dX5_learnAround_31 rfl ?_
      refine wt_if_ne 35 65 C dX5_learnAround_32 rfl (by decide) (fun q3 => ?_) (fun q3 => ?_)
      · have h := (if_neg q3).symm.trans h
        exact wX5_learnAround_10b_65 C p2 hin hex0 h
      · have h := (if_pos q3).symm.trans h
        refine wt_aload_n 36 0 C dX5_learnAround_35 rfl rfl ?_
        refine wt_getR 39 C kfX5_18 sc_103 rfl dX5_learnAround_36 rfl ?_
        refine wt_iload 41 4 C dX5_learnAround_39 rfl rfl ?_
        refine wt_aload_n 42 0 C dX5_learnAround_41 rfl rfl ?_
        refine wt_getR 45 C kfX5_18 sc_103 rfl dX5_learnAround_42 rfl ?_
        refine wt_iload 47 4 C dX5_learnAround_45 rfl rfl ?_
        refine wt_iload 49 4 C dX5_learnAround_47 rfl rfl ?_
        refine wt_iconst 50 1 C dX5_learnAround_49 rfl (by decide) ?_
        refine wt_isub 51 C dX5_learnAround_50 rfl ?_
        refine wt_iand 52 C dX5_learnAround_51 rfl ?_
        obtain ⟨hi4, h⟩ := ux_guard h
        refine wt_iald 53 ((v4 &&& (v4 - (1 : Int32))).toNatClampNeg) C sc_106 rfl hi4 dX5_learnAround_52 rfl ?_
        refine wt_iload 55 4 C dX5_learnAround_53 rfl rfl ?_
        obtain ⟨o5, hc6, h⟩ := Option.bind_eq_some_iff.mp h
        refine wt_callSNi 58 [.int (N 106 ((v4 &&& (v4 - (1 : Int32))).toNatClampNeg)), .int v4, .ref (ux_ad X 106)] C knX5_33 (mX11_lowest (cx_ok C)  hc6) rfl rfl ⟨Nat.le_of_ble_eq_true rfl, Nat.le_of_ble_eq_true rfl⟩ (Nat.le_of_ble_eq_true rfl) dX5_learnAround_55 rfl ?_
        refine wt_aload_n 59 2 C dX5_learnAround_58 rfl rfl ?_
        refine wt_iload_n 60 3 C dX5_learnAround_59 rfl rfl ?_
        obtain ⟨o7, hc8, h⟩ := Option.bind_eq_some_iff.mp h
        refine wt_callSi 63 [.int (N 106 ((v4 &&& (v4 - (1 : Int32))).toNatClampNeg)), .int v4, .ref (ux_ad X 106)] C ksX5_37 (mX5_metersFor (cx_ok C) (p2) hc8) rfl rfl ⟨Nat.le_of_ble_eq_true rfl, Nat.le_of_ble_eq_true rfl⟩ (Nat.le_of_ble_eq_true rfl) dX5_learnAround_60 rfl ?_
        refine wt_ior 64 C dX5_learnAround_63 rfl ?_
        obtain ⟨hi9, h⟩ := ux_guard h
        refine wt_iast 65 (v4.toNatClampNeg) C sc_106 rfl hi9 dX5_learnAround_64 rfl ?_
        exact wX5_learnAround_10b_65 C p2 hin hex0 h
def fX5_learnAround_71 (c2 : Nat) (n2 : Nat) (N : ux_N) : Option (ux_N) :=
  some N
set_option maxHeartbeats 4000000 in
set_option maxRecDepth 20000 in
theorem wX5_learnAround_71 {X : ux_X} (C : ux_C X cX5_learnAround RX5 5 none 2 40 shC) {c2 : Nat} {n2 : Nat} (p2 : shC[c2]? = some (1, 0, n2, [])) {N : ux_N} {L : ux_L} {o : ux_N} (hq : ux_Qv X o L) (h : fX5_learnAround_71 c2 n2 N = some o) : ux_Wt X 5 71 [] [] N L := by
  cases h
  exact wt_vret C hq dX5_learnAround_71
def fX5_learnAround (c2 : Nat) (n2 : Nat) (v1 : Int32) (v3 : Int32) (N : ux_N) : Option (ux_N) :=
  (ux_lp (fun s : Int32 × ux_N => fX5_learnAround_10b c2 n2 v1 v3 s.1 s.2) ux_fu ((1 : Int32), (ux_u N 106 0 (0 : Int32)))).bind (fun e8 => fX5_learnAround_71 c2 n2 e8)
set_option maxHeartbeats 4000000 in
set_option maxRecDepth 20000 in
theorem wX5_learnAround {X : ux_X} (C : ux_C X cX5_learnAround RX5 5 none 2 40 shC) {c2 : Nat} {n2 : Nat} {v1 : Int32} {v3 : Int32} (p2 : shC[c2]? = some (1, 0, n2, [])) {N : ux_N} {L : ux_L} {o : ux_N} (hq : ux_Qv X o L) (h : fX5_learnAround c2 n2 v1 v3 N = some o) : ux_Wt X 5 0 [(0, .ref (ux_ad X 103)), (1, .int v1), (2, .ref (ux_ad X c2)), (3, .int v3)] [] N L := by
  refine wt_aload_n 1 0 C dX5_learnAround_0 rfl rfl ?_
  refine wt_getR 4 C kfX5_18 sc_103 rfl dX5_learnAround_1 rfl ?_
  refine wt_iconst 5 0 C dX5_learnAround_4 rfl (by decide) ?_
  refine wt_iconst 6 0 C dX5_learnAround_5 rfl (by decide) ?_
  refine wt_iast 7 0 C sc_106 (by decide) (by decide) dX5_learnAround_6 rfl ?_
  refine wt_iconst 8 1 C dX5_learnAround_7 rfl (by decide) ?_
  refine wt_istore 10 [(4, .int (1 : Int32)), (0, .ref (ux_ad X 103)), (1, .int v1), (2, .ref (ux_ad X c2)), (3, .int v3)] C dX5_learnAround_8 rfl (by decide) rfl ?_
  obtain ⟨e1, hl2, h⟩ := Option.bind_eq_some_iff.mp h
  refine wt_sub [1, 2, 3, 4, 0] rfl ?_
  refine ux_loop (fun s : Int32 × ux_N => fX5_learnAround_10b c2 n2 v1 v3 s.1 s.2) (fun s : Int32 × ux_N => ux_Wt X 5 10 [(0, .ref (ux_ad X 103)), (1, .int v1), (2, .ref (ux_ad X c2)), (3, .int v3), (4, .int s.1)] [] s.2 L) (e := e1) ?_ hl2
  intro s3 o4 hb5 hi6 hx7
  refine wX5_learnAround_10b C p2 hi6 (fun x0 he => ?_) hb5
  · obtain ⟨e8, rfl⟩ : ∃ z, z = x0 := ⟨_, rfl⟩
    have h9 := hx7 _ he
    subst h9
    exact wX5_learnAround_71 C p2 hq h
theorem mX5_learnAround {l : Launch} {G : ux_G} (hok : ux_ok G shC) {v1 : Int32} {c2 : Nat} {n2 : Nat} {v3 : Int32} (p2 : shC[c2]? = some (1, 0, n2, [])) {N : ux_N} {L : ux_L} {o : ux_N} (h : fX5_learnAround c2 n2 v1 v3 N = some o) : ux_Mv l G yX5_learnAround cX5_learnAround 5 2 40 [.ref (gad G 103), .int v1, .ref (gad G c2), .int v3] N L o L :=
  ux_ofv shC hok (by decide +kernel) (Nat.le_of_ble_eq_true rfl) (fun X hG hl C hq => by subst hG; subst hl; exact wX5_learnAround C p2 hq h)
def fX5_canAllHaveOne_2b (v1 : Int32) (v2 : Int32) (v3 : Int32) (N : ux_N) : Option ((Int32) ⊕ ((Unit) ⊕ (Unit))) :=
  if v3 ≤ 0 then (some (.inr (.inr ()))) else (if ux_in v3 1024 then ((fJ6_bitCount_0f7a4 ((N 106 (v3.toNatClampNeg)) &&& v2)).bind (fun o3 => (fJ6_bitCount_0f7a4 v3).bind (fun o5 => if o5 ≤ o3 then (some (.inl ((v3 - (1 : Int32)) &&& v1))) else (some (.inr (.inl ())))))) else none)
set_option maxHeartbeats 4000000 in
set_option maxRecDepth 20000 in
theorem wX5_canAllHaveOne_2b {X : ux_X} (C : ux_C X cX5_canAllHaveOne RX5 4 (some .boolean) 1 20 shC) {v1 : Int32} {v2 : Int32} {v3 : Int32}  {N : ux_N} {L : ux_L} {o : (Int32) ⊕ ((Unit) ⊕ (Unit))} (hin : ∀ s : Int32, o = .inl s → ux_Wt X 4 2 [(0, .ref (ux_ad X 103)), (1, .int v1), (2, .int v2), (3, .int s)] [] N L) (hex0 : ∀ e : Unit, o = .inr (.inl e) → ux_Wt X 4 24 [] [] N L) (hex1 : ∀ e : Unit, o = .inr (.inr e) → ux_Wt X 4 35 [] [] N L) (h : fX5_canAllHaveOne_2b v1 v2 v3 N = some o) : ux_Wt X 4 2 [(0, .ref (ux_ad X 103)), (1, .int v1), (2, .int v2), (3, .int v3)] [] N L := by
  refine wt_iload_n 3 3 C dX5_canAllHaveOne_2 rfl rfl ?_
  refine wt_if_le 6 35 C dX5_canAllHaveOne_3 rfl (by decide) (fun q1 => ?_) (fun q1 => ?_)
  · have h := (if_pos q1).symm.trans h
    refine wt_sub [] rfl ?_
    exact hex1 _ (Option.some.inj h).symm
  · have h := (if_neg q1).symm.trans h
    refine wt_aload_n 7 0 C dX5_canAllHaveOne_6 rfl rfl ?_
    refine wt_getR 10 C kfX5_18 sc_103 rfl dX5_canAllHaveOne_7 rfl ?_
    refine wt_iload_n 11 3 C dX5_canAllHaveOne_10 rfl rfl ?_
    obtain ⟨hi2, h⟩ := ux_guard h
    refine wt_iald 12 (v3.toNatClampNeg) C sc_106 rfl hi2 dX5_canAllHaveOne_11 rfl ?_
    refine wt_iload_n 13 2 C dX5_canAllHaveOne_12 rfl rfl ?_
    refine wt_iand 14 C dX5_canAllHaveOne_13 rfl ?_
    obtain ⟨o3, hc4, h⟩ := Option.bind_eq_some_iff.mp h
    refine wt_callSi 17 [] C ksX5_45 (mJ6_bitCount_0f7a4 (cx_ok C)  hc4) rfl rfl ⟨Nat.le_of_ble_eq_true rfl, Nat.le_of_ble_eq_true rfl⟩ (Nat.le_of_ble_eq_true rfl) dX5_canAllHaveOne_14 rfl ?_
    refine wt_iload_n 18 3 C dX5_canAllHaveOne_17 rfl rfl ?_
    obtain ⟨o5, hc6, h⟩ := Option.bind_eq_some_iff.mp h
    refine wt_callSi 21 [.int o3] C ksX5_45 (mJ6_bitCount_0f7a4 (cx_ok C)  hc6) rfl rfl ⟨Nat.le_of_ble_eq_true rfl, Nat.le_of_ble_eq_true rfl⟩ (Nat.le_of_ble_eq_true rfl) dX5_canAllHaveOne_18 rfl ?_
    refine wt_icmp_ge 24 26 C dX5_canAllHaveOne_21 rfl (by decide) (fun q7 => ?_) (fun q7 => ?_)
    · have h := (if_pos q7).symm.trans h
      refine wt_iload_n 27 3 C dX5_canAllHaveOne_26 rfl rfl ?_
      refine wt_iconst 28 1 C dX5_canAllHaveOne_27 rfl (by decide) ?_
      refine wt_isub 29 C dX5_canAllHaveOne_28 rfl ?_
      refine wt_iload_n 30 1 C dX5_canAllHaveOne_29 rfl rfl ?_
      refine wt_iand 31 C dX5_canAllHaveOne_30 rfl ?_
      refine wt_istore_n 32 [(3, .int ((v3 - (1 : Int32)) &&& v1)), (0, .ref (ux_ad X 103)), (1, .int v1), (2, .int v2)] C dX5_canAllHaveOne_31 rfl (by decide) rfl ?_
      refine wt_goto 2 C dX5_canAllHaveOne_32 (by decide) ?_
      refine wt_sub [1, 2, 3, 0] rfl ?_
      exact hin _ (Option.some.inj h).symm
    · have h := (if_neg q7).symm.trans h
      refine wt_sub [] rfl ?_
      exact hex0 _ (Option.some.inj h).symm
def fX5_canAllHaveOne (v1 : Int32) (v2 : Int32) (N : ux_N) : Option (Int32) :=
  (ux_lp (fun s : Int32 => fX5_canAllHaveOne_2b v1 v2 s N) ux_fu v1).bind (Sum.elim (fun e8 => some (0 : Int32)) (fun e9 => some (1 : Int32)))
set_option maxHeartbeats 4000000 in
set_option maxRecDepth 20000 in
theorem wX5_canAllHaveOne {X : ux_X} (C : ux_C X cX5_canAllHaveOne RX5 4 (some .boolean) 1 20 shC) {v1 : Int32} {v2 : Int32}  {N : ux_N} {L : ux_L} {o : Int32} (hq : ux_Qi X o N L) (h : fX5_canAllHaveOne v1 v2 N = some o) : ux_Wt X 4 0 [(0, .ref (ux_ad X 103)), (1, .int v1), (2, .int v2)] [] N L := by
  refine wt_iload_n 1 1 C dX5_canAllHaveOne_0 rfl rfl ?_
  refine wt_istore_n 2 [(3, .int v1), (0, .ref (ux_ad X 103)), (1, .int v1), (2, .int v2)] C dX5_canAllHaveOne_1 rfl (by decide) rfl ?_
  obtain ⟨e1, hl2, h⟩ := Option.bind_eq_some_iff.mp h
  refine wt_sub [1, 2, 3, 0] rfl ?_
  refine ux_loop (fun s : Int32 => fX5_canAllHaveOne_2b v1 v2 s N) (fun s : Int32 => ux_Wt X 4 2 [(0, .ref (ux_ad X 103)), (1, .int v1), (2, .int v2), (3, .int s)] [] N L) (e := e1) ?_ hl2
  intro s3 o4 hb5 hi6 hx7
  refine wX5_canAllHaveOne_2b C hi6 (fun x0 he => ?_) (fun x1 he => ?_) hb5
  · obtain ⟨e8, rfl⟩ : ∃ z, z = x0 := ⟨_, rfl⟩
    have h9 := hx7 _ he
    subst h9
    refine wt_iconst 25 0 C dX5_canAllHaveOne_24 rfl (by decide) ?_
    cases h
    exact wt_zret C (ux_b_n (by decide)).1 hq dX5_canAllHaveOne_25
  · obtain ⟨e9, rfl⟩ : ∃ z, z = x1 := ⟨_, rfl⟩
    have h9 := hx7 _ he
    subst h9
    refine wt_iconst 36 1 C dX5_canAllHaveOne_35 rfl (by decide) ?_
    cases h
    exact wt_zret C (ux_b_n (by decide)).1 hq dX5_canAllHaveOne_36
theorem mX5_canAllHaveOne {l : Launch} {G : ux_G} (hok : ux_ok G shC) {v1 : Int32} {v2 : Int32}  {N : ux_N} {L : ux_L} {o : Int32} (h : fX5_canAllHaveOne v1 v2 N = some o) : ux_Mi l G yX5_canAllHaveOne cX5_canAllHaveOne 4 (some .boolean) 1 20 [.ref (gad G 103), .int v1, .int v2] N L o N L :=
  ux_ofi shC hok (by decide +kernel) (Nat.le_of_ble_eq_true rfl) (fun X hG hl C hq => by subst hG; subst hl; exact wX5_canAllHaveOne C  hq h)
def fX5_leastMeter_2b_44 (v1 : Int32) (v2 : Int32) (v3 : Int32) (N : ux_N) : Option ((Int32) ⊕ ((Int32) ⊕ (Unit))) :=
  some (.inl (v3 + 1))
set_option maxHeartbeats 4000000 in
set_option maxRecDepth 20000 in
theorem wX5_leastMeter_2b_44 {X : ux_X} (C : ux_C X cX5_leastMeter RX5 5 (some .int) 2 43 shC) {v1 : Int32} {v2 : Int32} {v3 : Int32}  {N : ux_N} {L : ux_L} {o : (Int32) ⊕ ((Int32) ⊕ (Unit))} (hin : ∀ s : Int32, o = .inl s → ux_Wt X 5 2 [(0, .ref (ux_ad X 103)), (1, .int v1), (2, .int v2), (3, .int s)] [] N L) (hex0 : ∀ e : Int32, o = .inr (.inl e) → ux_Wt X 5 42 [(3, .int e)] [] N L) (hex1 : ∀ e : Unit, o = .inr (.inr e) → ux_Wt X 5 50 [] [] N L) (h : fX5_leastMeter_2b_44 v1 v2 v3 N = some o) : ux_Wt X 5 44 [(0, .ref (ux_ad X 103)), (1, .int v1), (2, .int v2), (3, .int v3)] [] N L := by
  refine wt_iinc 47 3 [(3, .int (v3 + 1)), (0, .ref (ux_ad X 103)), (1, .int v1), (2, .int v2)] (v3 + 1) C dX5_leastMeter_44 rfl rfl (by rfl) (by decide) rfl ?_
  refine wt_goto 2 C dX5_leastMeter_47 (by decide) ?_
  refine wt_sub [1, 2, 3, 0] rfl ?_
  exact hin _ (Option.some.inj h).symm
def fX5_leastMeter_2b (v1 : Int32) (v2 : Int32) (v3 : Int32) (N : ux_N) : Option ((Int32) ⊕ ((Int32) ⊕ (Unit))) :=
  if (9 : Int32) ≤ v3 then (some (.inr (.inr ()))) else (if ((v1 &&& (N 103 0)) &&& ((1 : Int32) <<< (v3 &&& 31))) = 0 then (fX5_leastMeter_2b_44 v1 v2 v3 N) else ((fX5_canAllHaveOne v2 ((N 103 0) &&& (((1 : Int32) <<< (v3 &&& 31)) ^^^ (-1 : Int32))) N).bind (fun o3 => if o3 = 0 then (fX5_leastMeter_2b_44 v1 v2 v3 N) else (some (.inr (.inl v3))))))
set_option maxHeartbeats 4000000 in
set_option maxRecDepth 20000 in
theorem wX5_leastMeter_2b {X : ux_X} (C : ux_C X cX5_leastMeter RX5 5 (some .int) 2 43 shC) {v1 : Int32} {v2 : Int32} {v3 : Int32}  {N : ux_N} {L : ux_L} {o : (Int32) ⊕ ((Int32) ⊕ (Unit))} (hin : ∀ s : Int32, o = .inl s → ux_Wt X 5 2 [(0, .ref (ux_ad X 103)), (1, .int v1), (2, .int v2), (3, .int s)] [] N L) (hex0 : ∀ e : Int32, o = .inr (.inl e) → ux_Wt X 5 42 [(3, .int e)] [] N L) (hex1 : ∀ e : Unit, o = .inr (.inr e) → ux_Wt X 5 50 [] [] N L) (h : fX5_leastMeter_2b v1 v2 v3 N = some o) : ux_Wt X 5 2 [(0, .ref (ux_ad X 103)), (1, .int v1), (2, .int v2), (3, .int v3)] [] N L := by
  refine wt_iload_n 3 3 C dX5_leastMeter_2 rfl rfl ?_
  refine wt_bipush 5 9 C dX5_leastMeter_3 rfl (by decide) ?_
  refine wt_icmp_ge 8 50 C dX5_leastMeter_5 rfl (by decide) (fun q1 => ?_) (fun q1 => ?_)
  · have h := (if_pos q1).symm.trans h
    refine wt_sub [] rfl ?_
    exact hex1 _ (Option.some.inj h).symm
  · have h := (if_neg q1).symm.trans h
    refine wt_iconst 9 1 C dX5_leastMeter_8 rfl (by decide) ?_
    refine wt_iload_n 10 3 C dX5_leastMeter_9 rfl rfl ?_
    refine wt_ishl 11 C dX5_leastMeter_10 rfl ?_
    refine wt_istore 13 [(4, .int ((1 : Int32) <<< (v3 &&& 31))), (0, .ref (ux_ad X 103)), (1, .int v1), (2, .int v2), (3, .int v3)] C dX5_leastMeter_11 rfl (by decide) rfl ?_
    refine wt_iload_n 14 2 C dX5_leastMeter_13 rfl rfl ?_
    refine wt_aload_n 15 1 C dX5_leastMeter_14 rfl rfl ?_
    refine wt_getI 18 C kfX5_25 sc_103 rfl dX5_leastMeter_15 rfl ?_
    refine wt_iand 19 C dX5_leastMeter_18 rfl ?_
    refine wt_iload 21 0 C dX5_leastMeter_19 rfl rfl ?_
    refine wt_iand 22 C dX5_leastMeter_21 rfl ?_
    refine wt_if_eq 25 44 C dX5_leastMeter_22 rfl (by decide) (fun q2 => ?_) (fun q2 => ?_)
    · have h := (if_pos q2).symm.trans h
      refine wt_sub [1, 2, 3, 4] rfl ?_
      exact wX5_leastMeter_2b_44 C hin hex0 hex1 h
    · have h := (if_neg q2).symm.trans h
      refine wt_aload_n 26 1 C dX5_leastMeter_25 rfl rfl ?_
      refine wt_iload_n 27 3 C dX5_leastMeter_26 rfl rfl ?_
      refine wt_aload_n 28 1 C dX5_leastMeter_27 rfl rfl ?_
      refine wt_getI 31 C kfX5_25 sc_103 rfl dX5_leastMeter_28 rfl ?_
      refine wt_iload 33 0 C dX5_leastMeter_31 rfl rfl ?_
      refine wt_iconst 34 (-1) C dX5_leastMeter_33 rfl (by decide) ?_
      refine wt_ixor 35 C dX5_leastMeter_34 rfl ?_
      refine wt_iand 36 C dX5_leastMeter_35 rfl ?_
      obtain ⟨o3, hc4, h⟩ := Option.bind_eq_some_iff.mp h
      refine wt_callVi 39 [] C kvX5_41 sc_103 (mX5_canAllHaveOne (cx_ok C)  hc4) rfl rfl ⟨Nat.le_of_ble_eq_true rfl, Nat.le_of_ble_eq_true rfl⟩ (Nat.le_of_ble_eq_true rfl) dX5_leastMeter_36 rfl ?_
      refine wt_if_eq 42 44 C dX5_leastMeter_39 rfl (by decide) (fun q5 => ?_) (fun q5 => ?_)
      · have h := (if_pos q5).symm.trans h
        refine wt_sub [1, 2, 3, 4] rfl ?_
        exact wX5_leastMeter_2b_44 C hin hex0 hex1 h
      · have h := (if_neg q5).symm.trans h
        refine wt_sub [4] rfl ?_
        exact hex0 _ (Option.some.inj h).symm
def fX5_leastMeter (v1 : Int32) (v2 : Int32) (N : ux_N) : Option (Int32) :=
  (ux_lp (fun s : Int32 => fX5_leastMeter_2b v1 v2 s N) ux_fu (0 : Int32)).bind (Sum.elim (fun e8 => some e8) (fun e9 => some (-1 : Int32)))
set_option maxHeartbeats 4000000 in
set_option maxRecDepth 20000 in
theorem wX5_leastMeter {X : ux_X} (C : ux_C X cX5_leastMeter RX5 5 (some .int) 2 43 shC) {v1 : Int32} {v2 : Int32}  {N : ux_N} {L : ux_L} {o : Int32} (hq : ux_Qi X o N L) (h : fX5_leastMeter v1 v2 N = some o) : ux_Wt X 5 0 [(0, .ref (ux_ad X 103)), (1, .int v1), (2, .int v2)] [] N L := by
  refine wt_iconst 1 0 C dX5_leastMeter_0 rfl (by decide) ?_
  refine wt_istore_n 2 [(3, .int (0 : Int32)), (0, .ref (ux_ad X 103)), (1, .int v1), (2, .int v2)] C dX5_leastMeter_1 rfl (by decide) rfl ?_
  obtain ⟨e1, hl2, h⟩ := Option.bind_eq_some_iff.mp h
  refine wt_sub [1, 2, 3, 0] rfl ?_
  refine ux_loop (fun s : Int32 => fX5_leastMeter_2b v1 v2 s N) (fun s : Int32 => ux_Wt X 5 2 [(0, .ref (ux_ad X 103)), (1, .int v1), (2, .int v2), (3, .int s)] [] N L) (e := e1) ?_ hl2
  intro s3 o4 hb5 hi6 hx7
  refine wX5_leastMeter_2b C hi6 (fun x0 he => ?_) (fun x1 he => ?_) hb5
  · obtain ⟨e8, rfl⟩ : ∃ z, z = x0 := ⟨_, rfl⟩
    have h9 := hx7 _ he
    subst h9
    refine wt_iload_n 43 0 C dX5_leastMeter_42 rfl rfl ?_
    cases h
    exact wt_iret C hq dX5_leastMeter_43
  · obtain ⟨e9, rfl⟩ : ∃ z, z = x1 := ⟨_, rfl⟩
    have h9 := hx7 _ he
    subst h9
    refine wt_iconst 51 (-1) C dX5_leastMeter_50 rfl (by decide) ?_
    cases h
    exact wt_iret C hq dX5_leastMeter_51
theorem mX5_leastMeter {l : Launch} {G : ux_G} (hok : ux_ok G shC) {v1 : Int32} {v2 : Int32}  {N : ux_N} {L : ux_L} {o : Int32} (h : fX5_leastMeter v1 v2 N = some o) : ux_Mi l G yX5_leastMeter cX5_leastMeter 5 (some .int) 2 43 [.ref (gad G 103), .int v1, .int v2] N L o N L :=
  ux_ofi shC hok (by decide +kernel) (Nat.le_of_ble_eq_true rfl) (fun X hG hl C hq => by subst hG; subst hl; exact wX5_leastMeter C  hq h)
def fX5_assign_3b (c2 : Nat) (n2 : Nat) (v1 : Int32) (v3 : Int32) (v4 : Int32) (N : ux_N) : Option ((Int32 × ux_N) ⊕ (ux_N)) :=
  if (9 : Int32) ≤ v4 then (some (.inr (N))) else (if ux_in v4 9 then (some (.inl ((v4 + 1), (ux_u N 105 (v4.toNatClampNeg) (-1 : Int32))))) else none)
set_option maxHeartbeats 4000000 in
set_option maxRecDepth 20000 in
theorem wX5_assign_3b {X : ux_X} (C : ux_C X cX5_assign RX5 6 none 3 67 shC) {c2 : Nat} {n2 : Nat} {v1 : Int32} {v3 : Int32} {v4 : Int32} (p2 : shC[c2]? = some (1, 0, n2, [])) {N : ux_N} {L : ux_L} {o : (Int32 × ux_N) ⊕ (ux_N)} (hin : ∀ s : Int32 × ux_N, o = .inl s → ux_Wt X 6 3 [(0, .ref (ux_ad X 103)), (1, .int v1), (2, .ref (ux_ad X c2)), (3, .int v3), (4, .int s.1)] [] s.2 L) (hex0 : ∀ e : ux_N, o = .inr (e) → ux_Wt X 6 24 [(0, .ref (ux_ad X 103)), (1, .int v1), (2, .ref (ux_ad X c2)), (3, .int v3)] [] e L) (h : fX5_assign_3b c2 n2 v1 v3 v4 N = some o) : ux_Wt X 6 3 [(0, .ref (ux_ad X 103)), (1, .int v1), (2, .ref (ux_ad X c2)), (3, .int v3), (4, .int v4)] [] N L := by
  refine wt_iload 5 4 C dX5_assign_3 rfl rfl ?_
  refine wt_bipush 7 9 C dX5_assign_5 rfl (by decide) ?_
  refine wt_icmp_ge 10 24 C dX5_assign_7 rfl (by decide) (fun q1 => ?_) (fun q1 => ?_)
  · have h := (if_pos q1).symm.trans h
    refine wt_sub [0, 1, 2, 3] rfl ?_
    exact hex0 _ (Option.some.inj h).symm
  · have h := (if_neg q1).symm.trans h
    refine wt_aload_n 11 0 C dX5_assign_10 rfl rfl ?_
    refine wt_getR 14 C kfX5_15 sc_103 rfl dX5_assign_11 rfl ?_
    refine wt_iload 16 4 C dX5_assign_14 rfl rfl ?_
    refine wt_iconst 17 (-1) C dX5_assign_16 rfl (by decide) ?_
    obtain ⟨hi2, h⟩ := ux_guard h
    refine wt_iast 18 (v4.toNatClampNeg) C sc_105 rfl hi2 dX5_assign_17 rfl ?_
    refine wt_iinc 21 4 [(4, .int (v4 + 1)), (0, .ref (ux_ad X 103)), (1, .int v1), (2, .ref (ux_ad X c2)), (3, .int v3)] (v4 + 1) C dX5_assign_18 rfl rfl (by rfl) (by decide) rfl ?_
    refine wt_goto 3 C dX5_assign_21 (by decide) ?_
    refine wt_sub [1, 2, 3, 4, 0] rfl ?_
    exact hin _ (Option.some.inj h).symm
def fX5_assign_42b_145 (c2 : Nat) (n2 : Nat) (v1 : Int32) (v4 : Int32) (v5 : Int32) (N : ux_N) : Option ((Int32 × Int32 × ux_N) ⊕ (ux_N)) :=
  some (.inl (v4, (v5 + 1), N))
set_option maxHeartbeats 4000000 in
set_option maxRecDepth 20000 in
theorem wX5_assign_42b_145 {X : ux_X} (C : ux_C X cX5_assign RX5 6 none 3 67 shC) {c2 : Nat} {n2 : Nat} {v1 : Int32} {v4 : Int32} {v5 : Int32} (p2 : shC[c2]? = some (1, 0, n2, [])) {N : ux_N} {L : ux_L} {o : (Int32 × Int32 × ux_N) ⊕ (ux_N)} (hin : ∀ s : Int32 × Int32 × ux_N, o = .inl s → ux_Wt X 6 42 [(0, .ref (ux_ad X 103)), (1, .int v1), (4, .int s.1), (5, .int s.2.1)] [] s.2.2 L) (hex0 : ∀ e : ux_N, o = .inr (e) → ux_Wt X 6 151 [] [] e L) (h : fX5_assign_42b_145 c2 n2 v1 v4 v5 N = some o) : ux_Wt X 6 145 [(0, .ref (ux_ad X 103)), (1, .int v1), (4, .int v4), (5, .int v5)] [] N L := by
  refine wt_iinc 148 3 [(5, .int (v5 + 1)), (0, .ref (ux_ad X 103)), (1, .int v1), (4, .int v4)] (v5 + 1) C dX5_assign_145 rfl rfl (by rfl) (by decide) rfl ?_
  refine wt_goto 42 C dX5_assign_148 (by decide) ?_
  refine wt_sub [1, 2, 3, 0] rfl ?_
  exact hin _ (Option.some.inj h).symm
def fX5_assign_42b_142 (c2 : Nat) (n2 : Nat) (v1 : Int32) (v4 : Int32) (v5 : Int32) (s0 : Int32) (N : ux_N) : Option ((Int32 × Int32 × ux_N) ⊕ (ux_N)) :=
  fX5_assign_42b_145 c2 n2 v1 v4 v5 (ux_u N 103 0 s0)
set_option maxHeartbeats 4000000 in
set_option maxRecDepth 20000 in
theorem wX5_assign_42b_142 {X : ux_X} (C : ux_C X cX5_assign RX5 6 none 3 67 shC) {c2 : Nat} {n2 : Nat} {v1 : Int32} {v4 : Int32} {v5 : Int32} {s0 : Int32} (p2 : shC[c2]? = some (1, 0, n2, [])) {N : ux_N} {L : ux_L} {o : (Int32 × Int32 × ux_N) ⊕ (ux_N)} (hin : ∀ s : Int32 × Int32 × ux_N, o = .inl s → ux_Wt X 6 42 [(0, .ref (ux_ad X 103)), (1, .int v1), (4, .int s.1), (5, .int s.2.1)] [] s.2.2 L) (hex0 : ∀ e : ux_N, o = .inr (e) → ux_Wt X 6 151 [] [] e L) (h : fX5_assign_42b_142 c2 n2 v1 v4 v5 s0 N = some o) : ux_Wt X 6 142 [(0, .ref (ux_ad X 103)), (1, .int v1), (4, .int v4), (5, .int v5)] [.int s0, .ref (ux_ad X 103)] N L := by
  refine wt_putI 145 C kpX5_25 sc_103 rfl rfl rfl dX5_assign_142 rfl ?_
  exact wX5_assign_42b_145 C p2 hin hex0 h
def fX5_assign_42b_100 (c2 : Nat) (n2 : Nat) (v1 : Int32) (v4 : Int32) (v5 : Int32) (N : ux_N) : Option ((Int32 × Int32 × ux_N) ⊕ (ux_N)) :=
  if ux_in v5 10 then (if (N 104 (v5.toNatClampNeg)) = (-1 : Int32) then (fX5_assign_42b_145 c2 n2 v1 v4 v5 N) else (if ux_in v5 10 then (if ux_in (N 104 (v5.toNatClampNeg)) 9 then (if ux_in v5 10 then (fX5_assign_42b_142 c2 n2 v1 v4 v5 (((ux_u N 105 ((N 104 (v5.toNatClampNeg)).toNatClampNeg) v5) 103 0) &&& (((1 : Int32) <<< (((ux_u N 105 ((N 104 (v5.toNatClampNeg)).toNatClampNeg) v5) 104 (v5.toNatClampNeg)) &&& 31)) ^^^ (-1 : Int32))) (ux_u N 105 ((N 104 (v5.toNatClampNeg)).toNatClampNeg) v5)) else none) else none) else none)) else none
set_option maxHeartbeats 4000000 in
set_option maxRecDepth 20000 in
theorem wX5_assign_42b_100 {X : ux_X} (C : ux_C X cX5_assign RX5 6 none 3 67 shC) {c2 : Nat} {n2 : Nat} {v1 : Int32} {v4 : Int32} {v5 : Int32} (p2 : shC[c2]? = some (1, 0, n2, [])) {N : ux_N} {L : ux_L} {o : (Int32 × Int32 × ux_N) ⊕ (ux_N)} (hin : ∀ s : Int32 × Int32 × ux_N, o = .inl s → ux_Wt X 6 42 [(0, .ref (ux_ad X 103)), (1, .int v1), (4, .int s.1), (5, .int s.2.1)] [] s.2.2 L) (hex0 : ∀ e : ux_N, o = .inr (e) → ux_Wt X 6 151 [] [] e L) (h : fX5_assign_42b_100 c2 n2 v1 v4 v5 N = some o) : ux_Wt X 6 100 [(0, .ref (ux_ad X 103)), (1, .int v1), (4, .int v4), (5, .int v5)] [] N L := by
  refine wt_aload_n 101 0 C dX5_assign_100 rfl rfl ?_
  refine wt_getR 104 C kfX5_9 sc_103 rfl dX5_assign_101 rfl ?_
  refine wt_iload 106 3 C dX5_assign_104 rfl rfl ?_
  obtain ⟨hi1, h⟩ := ux_guard h
  refine wt_iald 107 (v5.toNatClampNeg) C sc_104 rfl hi1 dX5_assign_106 rfl ?_
  refine wt_iconst 108 (-1) C dX5_assign_107 rfl (by decide) ?_
  refine wt_icmp_eq 111 145 C dX5_assign_108 rfl (by decide) (fun q2 => ?_) (fun q2 => ?_)
  · have h := (if_pos q2).symm.trans h
    exact wX5_assign_42b_145 C p2 hin hex0 h
  · have h := (if_neg q2).symm.trans h
    refine wt_aload_n 112 0 C dX5_assign_111 rfl rfl ?_
    refine wt_getR 115 C kfX5_15 sc_103 rfl dX5_assign_112 rfl ?_
    refine wt_aload_n 116 0 C dX5_assign_115 rfl rfl ?_
    refine wt_getR 119 C kfX5_9 sc_103 rfl dX5_assign_116 rfl ?_
    refine wt_iload 121 3 C dX5_assign_119 rfl rfl ?_
    obtain ⟨hi3, h⟩ := ux_guard h
    refine wt_iald 122 (v5.toNatClampNeg) C sc_104 rfl hi3 dX5_assign_121 rfl ?_
    refine wt_iload 124 3 C dX5_assign_122 rfl rfl ?_
    obtain ⟨hi4, h⟩ := ux_guard h
    refine wt_iast 125 ((N 104 (v5.toNatClampNeg)).toNatClampNeg) C sc_105 rfl hi4 dX5_assign_124 rfl ?_
    refine wt_aload_n 126 0 C dX5_assign_125 rfl rfl ?_
    refine wt_dup 127 C dX5_assign_126 rfl rfl ?_
    refine wt_getI 130 C kfX5_25 sc_103 rfl dX5_assign_127 rfl ?_
    refine wt_iconst 131 1 C dX5_assign_130 rfl (by decide) ?_
    refine wt_aload_n 132 0 C dX5_assign_131 rfl rfl ?_
    refine wt_getR 135 C kfX5_9 sc_103 rfl dX5_assign_132 rfl ?_
    refine wt_iload 137 3 C dX5_assign_135 rfl rfl ?_
    obtain ⟨hi5, h⟩ := ux_guard h
    refine wt_iald 138 (v5.toNatClampNeg) C sc_104 rfl hi5 dX5_assign_137 rfl ?_
    refine wt_ishl 139 C dX5_assign_138 rfl ?_
    refine wt_iconst 140 (-1) C dX5_assign_139 rfl (by decide) ?_
    refine wt_ixor 141 C dX5_assign_140 rfl ?_
    refine wt_iand 142 C dX5_assign_141 rfl ?_
    exact wX5_assign_42b_142 C p2 hin hex0 h
def fX5_assign_42b (c2 : Nat) (n2 : Nat) (v1 : Int32) (v4 : Int32) (v5 : Int32) (N : ux_N) : Option ((Int32 × Int32 × ux_N) ⊕ (ux_N)) :=
  if (10 : Int32) ≤ v5 then (some (.inr (N))) else (if ux_in v5 10 then (if ((v1 >>> (v5 &&& 31)) &&& (1 : Int32)) = (1 : Int32) then (if ux_in ((1 : Int32) <<< (v5 &&& 31)) 1024 then ((fX5_leastMeter ((ux_u N 104 (v5.toNatClampNeg) (-1 : Int32)) 106 (((1 : Int32) <<< (v5 &&& 31)).toNatClampNeg)) (v4 &&& (((1 : Int32) <<< (v5 &&& 31)) ^^^ (-1 : Int32))) (ux_u N 104 (v5.toNatClampNeg) (-1 : Int32))).bind (fun o5 => if ux_in v5 10 then (fX5_assign_42b_100 c2 n2 v1 (v4 &&& (((1 : Int32) <<< (v5 &&& 31)) ^^^ (-1 : Int32))) v5 (ux_u (ux_u N 104 (v5.toNatClampNeg) (-1 : Int32)) 104 (v5.toNatClampNeg) o5)) else none)) else none) else (fX5_assign_42b_100 c2 n2 v1 v4 v5 (ux_u N 104 (v5.toNatClampNeg) (-1 : Int32)))) else none)
set_option maxHeartbeats 4000000 in
set_option maxRecDepth 20000 in
theorem wX5_assign_42b {X : ux_X} (C : ux_C X cX5_assign RX5 6 none 3 67 shC) {c2 : Nat} {n2 : Nat} {v1 : Int32} {v4 : Int32} {v5 : Int32} (p2 : shC[c2]? = some (1, 0, n2, [])) {N : ux_N} {L : ux_L} {o : (Int32 × Int32 × ux_N) ⊕ (ux_N)} (hin : ∀ s : Int32 × Int32 × ux_N, o = .inl s → ux_Wt X 6 42 [(0, .ref (ux_ad X 103)), (1, .int v1), (4, .int s.1), (5, .int s.2.1)] [] s.2.2 L) (hex0 : ∀ e : ux_N, o = .inr (e) → ux_Wt X 6 151 [] [] e L) (h : fX5_assign_42b c2 n2 v1 v4 v5 N = some o) : ux_Wt X 6 42 [(0, .ref (ux_ad X 103)), (1, .int v1), (4, .int v4), (5, .int v5)] [] N L := by
  refine wt_iload 44 3 C dX5_assign_42 rfl rfl ?_
  refine wt_bipush 46 10 C dX5_assign_44 rfl (by decide) ?_
  refine wt_icmp_ge 49 151 C dX5_assign_46 rfl (by decide) (fun q1 => ?_) (fun q1 => ?_)
  · have h := (if_pos q1).symm.trans h
    refine wt_sub [] rfl ?_
    exact hex0 _ (Option.some.inj h).symm
  · have h := (if_neg q1).symm.trans h
    refine wt_aload_n 50 0 C dX5_assign_49 rfl rfl ?_
    refine wt_getR 53 C kfX5_9 sc_103 rfl dX5_assign_50 rfl ?_
    refine wt_iload 55 3 C dX5_assign_53 rfl rfl ?_
    refine wt_iconst 56 (-1) C dX5_assign_55 rfl (by decide) ?_
    obtain ⟨hi2, h⟩ := ux_guard h
    refine wt_iast 57 (v5.toNatClampNeg) C sc_104 rfl hi2 dX5_assign_56 rfl ?_
    refine wt_iload_n 58 1 C dX5_assign_57 rfl rfl ?_
    refine wt_iload 60 3 C dX5_assign_58 rfl rfl ?_
    refine wt_ishr 61 C dX5_assign_60 rfl ?_
    refine wt_iconst 62 1 C dX5_assign_61 rfl (by decide) ?_
    refine wt_iand 63 C dX5_assign_62 rfl ?_
    refine wt_iconst 64 1 C dX5_assign_63 rfl (by decide) ?_
    refine wt_icmp_ne 67 100 C dX5_assign_64 rfl (by decide) (fun q3 => ?_) (fun q3 => ?_)
    · have h := (if_neg q3).symm.trans h
      exact wX5_assign_42b_100 C p2 hin hex0 h
    · have h := (if_pos q3).symm.trans h
      refine wt_iload 69 2 C dX5_assign_67 rfl rfl ?_
      refine wt_iconst 70 1 C dX5_assign_69 rfl (by decide) ?_
      refine wt_iload 72 3 C dX5_assign_70 rfl rfl ?_
      refine wt_ishl 73 C dX5_assign_72 rfl ?_
      refine wt_iconst 74 (-1) C dX5_assign_73 rfl (by decide) ?_
      refine wt_ixor 75 C dX5_assign_74 rfl ?_
      refine wt_iand 76 C dX5_assign_75 rfl ?_
      refine wt_istore 78 [(4, .int (v4 &&& (((1 : Int32) <<< (v5 &&& 31)) ^^^ (-1 : Int32)))), (0, .ref (ux_ad X 103)), (1, .int v1), (5, .int v5)] C dX5_assign_76 rfl (by decide) rfl ?_
      refine wt_aload_n 79 1 C dX5_assign_78 rfl rfl ?_
      refine wt_getR 82 C kfX5_9 sc_103 rfl dX5_assign_79 rfl ?_
      refine wt_iload 84 3 C dX5_assign_82 rfl rfl ?_
      refine wt_aload_n 85 1 C dX5_assign_84 rfl rfl ?_
      refine wt_aload_n 86 1 C dX5_assign_85 rfl rfl ?_
      refine wt_getR 89 C kfX5_18 sc_103 rfl dX5_assign_86 rfl ?_
      refine wt_iconst 90 1 C dX5_assign_89 rfl (by decide) ?_
      refine wt_iload 92 3 C dX5_assign_90 rfl rfl ?_
      refine wt_ishl 93 C dX5_assign_92 rfl ?_
      obtain ⟨hi4, h⟩ := ux_guard h
      refine wt_iald 94 (((1 : Int32) <<< (v5 &&& 31)).toNatClampNeg) C sc_106 rfl hi4 dX5_assign_93 rfl ?_
      refine wt_iload 96 0 C dX5_assign_94 rfl rfl ?_
      obtain ⟨o5, hc6, h⟩ := Option.bind_eq_some_iff.mp h
      refine wt_callVi 99 [.int v5, .ref (ux_ad X 104)] C kvX5_29 sc_103 (mX5_leastMeter (cx_ok C)  hc6) rfl rfl ⟨Nat.le_of_ble_eq_true rfl, Nat.le_of_ble_eq_true rfl⟩ (Nat.le_of_ble_eq_true rfl) dX5_assign_96 rfl ?_
      obtain ⟨hi7, h⟩ := ux_guard h
      refine wt_iast 100 (v5.toNatClampNeg) C sc_104 rfl hi7 dX5_assign_99 rfl ?_
      refine wt_sub [1, 2, 0, 3] rfl ?_
      exact wX5_assign_42b_100 C p2 hin hex0 h
def fX5_assign (c2 : Nat) (n2 : Nat) (v1 : Int32) (v3 : Int32) (N : ux_N) : Option (ux_N) :=
  (ux_lp (fun s : Int32 × ux_N => fX5_assign_3b c2 n2 v1 v3 s.1 s.2) ux_fu ((0 : Int32), N)).bind (fun e8 => (fX5_learnAround c2 n2 v1 v3 e8).bind (fun o9 => (ux_lp (fun s : Int32 × Int32 × ux_N => fX5_assign_42b c2 n2 v1 s.1 s.2.1 s.2.2) ux_fu (v1, (0 : Int32), (ux_u o9 103 0 v3))).bind (fun e18 => some e18)))
set_option maxHeartbeats 4000000 in
set_option maxRecDepth 20000 in
theorem wX5_assign {X : ux_X} (C : ux_C X cX5_assign RX5 6 none 3 67 shC) {c2 : Nat} {n2 : Nat} {v1 : Int32} {v3 : Int32} (p2 : shC[c2]? = some (1, 0, n2, [])) {N : ux_N} {L : ux_L} {o : ux_N} (hq : ux_Qv X o L) (h : fX5_assign c2 n2 v1 v3 N = some o) : ux_Wt X 6 0 [(0, .ref (ux_ad X 103)), (1, .int v1), (2, .ref (ux_ad X c2)), (3, .int v3)] [] N L := by
  refine wt_iconst 1 0 C dX5_assign_0 rfl (by decide) ?_
  refine wt_istore 3 [(4, .int (0 : Int32)), (0, .ref (ux_ad X 103)), (1, .int v1), (2, .ref (ux_ad X c2)), (3, .int v3)] C dX5_assign_1 rfl (by decide) rfl ?_
  obtain ⟨e1, hl2, h⟩ := Option.bind_eq_some_iff.mp h
  refine wt_sub [1, 2, 3, 4, 0] rfl ?_
  refine ux_loop (fun s : Int32 × ux_N => fX5_assign_3b c2 n2 v1 v3 s.1 s.2) (fun s : Int32 × ux_N => ux_Wt X 6 3 [(0, .ref (ux_ad X 103)), (1, .int v1), (2, .ref (ux_ad X c2)), (3, .int v3), (4, .int s.1)] [] s.2 L) (e := e1) ?_ hl2
  intro s3 o4 hb5 hi6 hx7
  refine wX5_assign_3b C p2 hi6 (fun x0 he => ?_) hb5
  · obtain ⟨e8, rfl⟩ : ∃ z, z = x0 := ⟨_, rfl⟩
    have h9 := hx7 _ he
    subst h9
    refine wt_aload_n 25 0 C dX5_assign_24 rfl rfl ?_
    refine wt_iload_n 26 1 C dX5_assign_25 rfl rfl ?_
    refine wt_aload_n 27 2 C dX5_assign_26 rfl rfl ?_
    refine wt_iload_n 28 3 C dX5_assign_27 rfl rfl ?_
    obtain ⟨o9, hc10, h⟩ := Option.bind_eq_some_iff.mp h
    refine wt_callVv 31 [] C kvX5_21 sc_103 (mX5_learnAround (cx_ok C) (p2) hc10) rfl rfl ⟨Nat.le_of_ble_eq_true rfl, Nat.le_of_ble_eq_true rfl⟩ (Nat.le_of_ble_eq_true rfl) dX5_assign_28 rfl ?_
    refine wt_iload_n 32 1 C dX5_assign_31 rfl rfl ?_
    refine wt_istore 34 [(4, .int v1), (0, .ref (ux_ad X 103)), (1, .int v1), (2, .ref (ux_ad X c2)), (3, .int v3)] C dX5_assign_32 rfl (by decide) rfl ?_
    refine wt_aload_n 35 1 C dX5_assign_34 rfl rfl ?_
    refine wt_iload_n 36 4 C dX5_assign_35 rfl rfl ?_
    refine wt_putI 39 C kpX5_25 sc_103 rfl rfl rfl dX5_assign_36 rfl ?_
    refine wt_iconst 40 0 C dX5_assign_39 rfl (by decide) ?_
    refine wt_istore 42 [(5, .int (0 : Int32)), (4, .int v1), (0, .ref (ux_ad X 103)), (1, .int v1), (2, .ref (ux_ad X c2)), (3, .int v3)] C dX5_assign_40 rfl (by decide) rfl ?_
    obtain ⟨e11, hl12, h⟩ := Option.bind_eq_some_iff.mp h
    refine wt_sub [2, 3, 1, 0] rfl ?_
    refine ux_loop (fun s : Int32 × Int32 × ux_N => fX5_assign_42b c2 n2 v1 s.1 s.2.1 s.2.2) (fun s : Int32 × Int32 × ux_N => ux_Wt X 6 42 [(0, .ref (ux_ad X 103)), (1, .int v1), (4, .int s.1), (5, .int s.2.1)] [] s.2.2 L) (e := e11) ?_ hl12
    intro s13 o14 hb15 hi16 hx17
    refine wX5_assign_42b C p2 hi16 (fun x0 he => ?_) hb15
    · obtain ⟨e18, rfl⟩ : ∃ z, z = x0 := ⟨_, rfl⟩
      have h9 := hx17 _ he
      subst h9
      cases h
      exact wt_vret C hq dX5_assign_151
theorem mX5_assign {l : Launch} {G : ux_G} (hok : ux_ok G shC) {v1 : Int32} {c2 : Nat} {n2 : Nat} {v3 : Int32} (p2 : shC[c2]? = some (1, 0, n2, [])) {N : ux_N} {L : ux_L} {o : ux_N} (h : fX5_assign c2 n2 v1 v3 N = some o) : ux_Mv l G yX5_assign cX5_assign 6 3 67 [.ref (gad G 103), .int v1, .ref (gad G c2), .int v3] N L o L :=
  ux_ofv shC hok (by decide +kernel) (Nat.le_of_ble_eq_true rfl) (fun X hG hl C hq => by subst hG; subst hl; exact wX5_assign C p2 hq h)
