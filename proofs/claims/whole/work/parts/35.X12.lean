theorem dX12_deal_0 : decode cX12_deal 0 = .ok (.iload_n 1, 1) := by decide +kernel
theorem dX12_deal_1 : decode cX12_deal 1 = .ok (.i2l, 1) := by decide +kernel
theorem dX12_deal_2 : decode cX12_deal 2 = .ok (.lconst 0, 1) := by decide +kernel
theorem dX12_deal_3 : decode cX12_deal 3 = .ok (.lconst 1, 1) := by decide +kernel
theorem dX12_deal_4 : decode cX12_deal 4 = .ok (.invokestatic 94, 3) := by decide +kernel
theorem dX12_deal_7 : decode cX12_deal 7 = .ok (.ifCond .ne 6, 3) := by decide +kernel
theorem dX12_deal_10 : decode cX12_deal 10 = .ok (.bipush (-3), 2) := by decide +kernel
theorem dX12_deal_12 : decode cX12_deal 12 = .ok (.ireturn, 1) := by decide +kernel
theorem dX12_deal_13 : decode cX12_deal 13 = .ok (.aload_n 0, 1) := by decide +kernel
theorem dX12_deal_14 : decode cX12_deal 14 = .ok (.invokevirtual 270, 3) := by decide +kernel
theorem dX12_deal_17 : decode cX12_deal 17 = .ok (.istore_n 2, 1) := by decide +kernel
theorem dX12_deal_18 : decode cX12_deal 18 = .ok (.iconst (-1), 1) := by decide +kernel
theorem dX12_deal_19 : decode cX12_deal 19 = .ok (.istore_n 3, 1) := by decide +kernel
theorem dX12_deal_20 : decode cX12_deal 20 = .ok (.sipush 9999, 3) := by decide +kernel
theorem dX12_deal_23 : decode cX12_deal 23 = .ok (.istore 4, 2) := by decide +kernel
theorem dX12_deal_25 : decode cX12_deal 25 = .ok (.iconst 0, 1) := by decide +kernel
theorem dX12_deal_26 : decode cX12_deal 26 = .ok (.istore 5, 2) := by decide +kernel
theorem dX12_deal_28 : decode cX12_deal 28 = .ok (.iload 5, 2) := by decide +kernel
theorem dX12_deal_30 : decode cX12_deal 30 = .ok (.iconst 1, 1) := by decide +kernel
theorem dX12_deal_31 : decode cX12_deal 31 = .ok (.aload_n 0, 1) := by decide +kernel
theorem dX12_deal_32 : decode cX12_deal 32 = .ok (.getfield 89, 3) := by decide +kernel
theorem dX12_deal_35 : decode cX12_deal 35 = .ok (.ishl, 1) := by decide +kernel
theorem dX12_deal_36 : decode cX12_deal 36 = .ok (.if_icmp .ge 50, 3) := by decide +kernel
theorem dX12_deal_39 : decode cX12_deal 39 = .ok (.bipush 10, 2) := by decide +kernel
theorem dX12_deal_41 : decode cX12_deal 41 = .ok (.aload_n 0, 1) := by decide +kernel
theorem dX12_deal_42 : decode cX12_deal 42 = .ok (.iload 5, 2) := by decide +kernel
theorem dX12_deal_44 : decode cX12_deal 44 = .ok (.invokevirtual 273, 3) := by decide +kernel
theorem dX12_deal_47 : decode cX12_deal 47 = .ok (.imul, 1) := by decide +kernel
theorem dX12_deal_48 : decode cX12_deal 48 = .ok (.iload 5, 2) := by decide +kernel
theorem dX12_deal_50 : decode cX12_deal 50 = .ok (.invokestatic 183, 3) := by decide +kernel
theorem dX12_deal_53 : decode cX12_deal 53 = .ok (.iadd, 1) := by decide +kernel
theorem dX12_deal_54 : decode cX12_deal 54 = .ok (.istore 6, 2) := by decide +kernel
theorem dX12_deal_56 : decode cX12_deal 56 = .ok (.iload 6, 2) := by decide +kernel
theorem dX12_deal_58 : decode cX12_deal 58 = .ok (.iload 4, 2) := by decide +kernel
theorem dX12_deal_60 : decode cX12_deal 60 = .ok (.if_icmp .ge 20, 3) := by decide +kernel
theorem dX12_deal_63 : decode cX12_deal 63 = .ok (.aload_n 0, 1) := by decide +kernel
theorem dX12_deal_64 : decode cX12_deal 64 = .ok (.iload 5, 2) := by decide +kernel
theorem dX12_deal_66 : decode cX12_deal 66 = .ok (.iload_n 2, 1) := by decide +kernel
theorem dX12_deal_67 : decode cX12_deal 67 = .ok (.invokevirtual 276, 3) := by decide +kernel
theorem dX12_deal_70 : decode cX12_deal 70 = .ok (.ifCond .eq 10, 3) := by decide +kernel
theorem dX12_deal_73 : decode cX12_deal 73 = .ok (.iload 5, 2) := by decide +kernel
theorem dX12_deal_75 : decode cX12_deal 75 = .ok (.istore_n 3, 1) := by decide +kernel
theorem dX12_deal_76 : decode cX12_deal 76 = .ok (.iload 6, 2) := by decide +kernel
theorem dX12_deal_78 : decode cX12_deal 78 = .ok (.istore 4, 2) := by decide +kernel
theorem dX12_deal_80 : decode cX12_deal 80 = .ok (.iinc 5 1, 3) := by decide +kernel
theorem dX12_deal_83 : decode cX12_deal 83 = .ok (.goto (-55), 3) := by decide +kernel
theorem dX12_deal_86 : decode cX12_deal 86 = .ok (.iload_n 1, 1) := by decide +kernel
theorem dX12_deal_87 : decode cX12_deal 87 = .ok (.ifCond .eq 8, 3) := by decide +kernel
theorem dX12_deal_90 : decode cX12_deal 90 = .ok (.iload_n 3, 1) := by decide +kernel
theorem dX12_deal_91 : decode cX12_deal 91 = .ok (.iconst (-1), 1) := by decide +kernel
theorem dX12_deal_92 : decode cX12_deal 92 = .ok (.if_icmp .ne 7, 3) := by decide +kernel
theorem dX12_deal_95 : decode cX12_deal 95 = .ok (.iload_n 3, 1) := by decide +kernel
theorem dX12_deal_96 : decode cX12_deal 96 = .ok (.goto 8, 3) := by decide +kernel
theorem dX12_deal_99 : decode cX12_deal 99 = .ok (.aload_n 0, 1) := by decide +kernel
theorem dX12_deal_100 : decode cX12_deal 100 = .ok (.iload_n 3, 1) := by decide +kernel
theorem dX12_deal_101 : decode cX12_deal 101 = .ok (.invokevirtual 273, 3) := by decide +kernel
theorem dX12_deal_104 : decode cX12_deal 104 = .ok (.ireturn, 1) := by decide +kernel
theorem dX12_lost_0 : decode cX12_lost 0 = .ok (.aload_n 0, 1) := by decide +kernel
theorem dX12_lost_1 : decode cX12_lost 1 = .ok (.iload_n 1, 1) := by decide +kernel
theorem dX12_lost_2 : decode cX12_lost 2 = .ok (.invokevirtual 236, 3) := by decide +kernel
theorem dX12_lost_5 : decode cX12_lost 5 = .ok (.ifCond .ne 6, 3) := by decide +kernel
theorem dX12_lost_8 : decode cX12_lost 8 = .ok (.bipush (-2), 2) := by decide +kernel
theorem dX12_lost_10 : decode cX12_lost 10 = .ok (.ireturn, 1) := by decide +kernel
theorem dX12_lost_11 : decode cX12_lost 11 = .ok (.aload_n 0, 1) := by decide +kernel
theorem dX12_lost_12 : decode cX12_lost 12 = .ok (.getfield 7, 3) := by decide +kernel
theorem dX12_lost_15 : decode cX12_lost 15 = .ok (.iconst 2, 1) := by decide +kernel
theorem dX12_lost_16 : decode cX12_lost 16 = .ok (.iaload, 1) := by decide +kernel
theorem dX12_lost_17 : decode cX12_lost 17 = .ok (.iload_n 1, 1) := by decide +kernel
theorem dX12_lost_18 : decode cX12_lost 18 = .ok (.invokestatic 179, 3) := by decide +kernel
theorem dX12_lost_21 : decode cX12_lost 21 = .ok (.ifCond .eq 8, 3) := by decide +kernel
theorem dX12_lost_24 : decode cX12_lost 24 = .ok (.bipush (-4), 2) := by decide +kernel
theorem dX12_lost_26 : decode cX12_lost 26 = .ok (.goto 22, 3) := by decide +kernel
theorem dX12_lost_29 : decode cX12_lost 29 = .ok (.aload_n 0, 1) := by decide +kernel
theorem dX12_lost_30 : decode cX12_lost 30 = .ok (.invokevirtual 223, 3) := by decide +kernel
theorem dX12_lost_33 : decode cX12_lost 33 = .ok (.aload_n 0, 1) := by decide +kernel
theorem dX12_lost_34 : decode cX12_lost 34 = .ok (.aload_n 0, 1) := by decide +kernel
theorem dX12_lost_35 : decode cX12_lost 35 = .ok (.getfield 7, 3) := by decide +kernel
theorem dX12_lost_38 : decode cX12_lost 38 = .ok (.iconst 2, 1) := by decide +kernel
theorem dX12_lost_39 : decode cX12_lost 39 = .ok (.iaload, 1) := by decide +kernel
theorem dX12_lost_40 : decode cX12_lost 40 = .ok (.iconst 1, 1) := by decide +kernel
theorem dX12_lost_41 : decode cX12_lost 41 = .ok (.iload_n 1, 1) := by decide +kernel
theorem dX12_lost_42 : decode cX12_lost 42 = .ok (.ishl, 1) := by decide +kernel
theorem dX12_lost_43 : decode cX12_lost 43 = .ok (.ior, 1) := by decide +kernel
theorem dX12_lost_44 : decode cX12_lost 44 = .ok (.invokevirtual 220, 3) := by decide +kernel
theorem dX12_lost_47 : decode cX12_lost 47 = .ok (.isub, 1) := by decide +kernel
theorem dX12_lost_48 : decode cX12_lost 48 = .ok (.ireturn, 1) := by decide +kernel
theorem dX12_brings_0 : decode cX12_brings 0 = .ok (.iload_n 1, 1) := by decide +kernel
theorem dX12_brings_1 : decode cX12_brings 1 = .ok (.i2l, 1) := by decide +kernel
theorem dX12_brings_2 : decode cX12_brings 2 = .ok (.lconst 0, 1) := by decide +kernel
theorem dX12_brings_3 : decode cX12_brings 3 = .ok (.ldc2_w 259, 3) := by decide +kernel
theorem dX12_brings_6 : decode cX12_brings 6 = .ok (.invokestatic 94, 3) := by decide +kernel
theorem dX12_brings_9 : decode cX12_brings 9 = .ok (.ifCond .ne 8, 3) := by decide +kernel
theorem dX12_brings_12 : decode cX12_brings 12 = .ok (.bipush (-3), 2) := by decide +kernel
theorem dX12_brings_14 : decode cX12_brings 14 = .ok (.goto 23, 3) := by decide +kernel
theorem dX12_brings_17 : decode cX12_brings 17 = .ok (.aload_n 0, 1) := by decide +kernel
theorem dX12_brings_18 : decode cX12_brings 18 = .ok (.iload_n 1, 1) := by decide +kernel
theorem dX12_brings_19 : decode cX12_brings 19 = .ok (.iload_n 2, 1) := by decide +kernel
theorem dX12_brings_20 : decode cX12_brings 20 = .ok (.invokevirtual 261, 3) := by decide +kernel
theorem dX12_brings_23 : decode cX12_brings 23 = .ok (.ifCond .eq 12, 3) := by decide +kernel
theorem dX12_brings_26 : decode cX12_brings 26 = .ok (.aload_n 0, 1) := by decide +kernel
theorem dX12_brings_27 : decode cX12_brings 27 = .ok (.iload_n 1, 1) := by decide +kernel
theorem dX12_brings_28 : decode cX12_brings 28 = .ok (.iload_n 2, 1) := by decide +kernel
theorem dX12_brings_29 : decode cX12_brings 29 = .ok (.invokevirtual 256, 3) := by decide +kernel
theorem dX12_brings_32 : decode cX12_brings 32 = .ok (.goto 5, 3) := by decide +kernel
theorem dX12_brings_35 : decode cX12_brings 35 = .ok (.bipush (-2), 2) := by decide +kernel
theorem dX12_brings_37 : decode cX12_brings 37 = .ok (.ireturn, 1) := by decide +kernel
theorem dX12_seen_0 : decode cX12_seen 0 = .ok (.iload_n 1, 1) := by decide +kernel
theorem dX12_seen_1 : decode cX12_seen 1 = .ok (.i2l, 1) := by decide +kernel
theorem dX12_seen_2 : decode cX12_seen 2 = .ok (.lconst 0, 1) := by decide +kernel
theorem dX12_seen_3 : decode cX12_seen 3 = .ok (.ldc2_w 279, 3) := by decide +kernel
theorem dX12_seen_6 : decode cX12_seen 6 = .ok (.invokestatic 94, 3) := by decide +kernel
theorem dX12_seen_9 : decode cX12_seen 9 = .ok (.ifCond .eq 15, 3) := by decide +kernel
theorem dX12_seen_12 : decode cX12_seen 12 = .ok (.iload_n 2, 1) := by decide +kernel
theorem dX12_seen_13 : decode cX12_seen 13 = .ok (.i2l, 1) := by decide +kernel
theorem dX12_seen_14 : decode cX12_seen 14 = .ok (.lconst 0, 1) := by decide +kernel
theorem dX12_seen_15 : decode cX12_seen 15 = .ok (.ldc2_w 281, 3) := by decide +kernel
theorem dX12_seen_18 : decode cX12_seen 18 = .ok (.invokestatic 94, 3) := by decide +kernel
theorem dX12_seen_21 : decode cX12_seen 21 = .ok (.ifCond .ne 6, 3) := by decide +kernel
theorem dX12_seen_24 : decode cX12_seen 24 = .ok (.bipush (-3), 2) := by decide +kernel
theorem dX12_seen_26 : decode cX12_seen 26 = .ok (.ireturn, 1) := by decide +kernel
theorem dX12_seen_27 : decode cX12_seen 27 = .ok (.aload_n 0, 1) := by decide +kernel
theorem dX12_seen_28 : decode cX12_seen 28 = .ok (.getfield 283, 3) := by decide +kernel
theorem dX12_seen_31 : decode cX12_seen 31 = .ok (.bipush 6, 2) := by decide +kernel
theorem dX12_seen_33 : decode cX12_seen 33 = .ok (.if_icmp .ne 6, 3) := by decide +kernel
theorem dX12_seen_36 : decode cX12_seen 36 = .ok (.bipush (-5), 2) := by decide +kernel
theorem dX12_seen_38 : decode cX12_seen 38 = .ok (.ireturn, 1) := by decide +kernel
theorem dX12_seen_39 : decode cX12_seen 39 = .ok (.aload_n 0, 1) := by decide +kernel
theorem dX12_seen_40 : decode cX12_seen 40 = .ok (.getfield 26, 3) := by decide +kernel
theorem dX12_seen_43 : decode cX12_seen 43 = .ok (.aload_n 0, 1) := by decide +kernel
theorem dX12_seen_44 : decode cX12_seen 44 = .ok (.getfield 283, 3) := by decide +kernel
theorem dX12_seen_47 : decode cX12_seen 47 = .ok (.iload_n 1, 1) := by decide +kernel
theorem dX12_seen_48 : decode cX12_seen 48 = .ok (.iastore, 1) := by decide +kernel
theorem dX12_seen_49 : decode cX12_seen 49 = .ok (.aload_n 0, 1) := by decide +kernel
theorem dX12_seen_50 : decode cX12_seen 50 = .ok (.getfield 29, 3) := by decide +kernel
theorem dX12_seen_53 : decode cX12_seen 53 = .ok (.aload_n 0, 1) := by decide +kernel
theorem dX12_seen_54 : decode cX12_seen 54 = .ok (.getfield 283, 3) := by decide +kernel
theorem dX12_seen_57 : decode cX12_seen 57 = .ok (.iload_n 2, 1) := by decide +kernel
theorem dX12_seen_58 : decode cX12_seen 58 = .ok (.iastore, 1) := by decide +kernel
theorem dX12_seen_59 : decode cX12_seen 59 = .ok (.aload_n 0, 1) := by decide +kernel
theorem dX12_seen_60 : decode cX12_seen 60 = .ok (.dup, 1) := by decide +kernel
theorem dX12_seen_61 : decode cX12_seen 61 = .ok (.getfield 283, 3) := by decide +kernel
theorem dX12_seen_64 : decode cX12_seen 64 = .ok (.iconst 1, 1) := by decide +kernel
theorem dX12_seen_65 : decode cX12_seen 65 = .ok (.iadd, 1) := by decide +kernel
theorem dX12_seen_66 : decode cX12_seen 66 = .ok (.putfield 283, 3) := by decide +kernel
theorem dX12_seen_69 : decode cX12_seen 69 = .ok (.aload_n 0, 1) := by decide +kernel
theorem dX12_seen_70 : decode cX12_seen 70 = .ok (.getfield 283, 3) := by decide +kernel
theorem dX12_seen_73 : decode cX12_seen 73 = .ok (.ireturn, 1) := by decide +kernel
theorem dX12_forget_0 : decode cX12_forget 0 = .ok (.aload_n 0, 1) := by decide +kernel
theorem dX12_forget_1 : decode cX12_forget 1 = .ok (.getfield 283, 3) := by decide +kernel
theorem dX12_forget_4 : decode cX12_forget 4 = .ok (.istore_n 1, 1) := by decide +kernel
theorem dX12_forget_5 : decode cX12_forget 5 = .ok (.aload_n 0, 1) := by decide +kernel
theorem dX12_forget_6 : decode cX12_forget 6 = .ok (.iconst 0, 1) := by decide +kernel
theorem dX12_forget_7 : decode cX12_forget 7 = .ok (.putfield 283, 3) := by decide +kernel
theorem dX12_forget_10 : decode cX12_forget 10 = .ok (.iload_n 1, 1) := by decide +kernel
theorem dX12_forget_11 : decode cX12_forget 11 = .ok (.ireturn, 1) := by decide +kernel
theorem dX12_fit_0 : decode cX12_fit 0 = .ok (.iconst 0, 1) := by decide +kernel
theorem dX12_fit_1 : decode cX12_fit 1 = .ok (.istore_n 1, 1) := by decide +kernel
theorem dX12_fit_2 : decode cX12_fit 2 = .ok (.iconst 0, 1) := by decide +kernel
theorem dX12_fit_3 : decode cX12_fit 3 = .ok (.istore_n 2, 1) := by decide +kernel
theorem dX12_fit_4 : decode cX12_fit 4 = .ok (.iload_n 2, 1) := by decide +kernel
theorem dX12_fit_5 : decode cX12_fit 5 = .ok (.iconst 5, 1) := by decide +kernel
theorem dX12_fit_6 : decode cX12_fit 6 = .ok (.if_icmp .ge 96, 3) := by decide +kernel
theorem dX12_fit_9 : decode cX12_fit 9 = .ok (.iconst 1, 1) := by decide +kernel
theorem dX12_fit_10 : decode cX12_fit 10 = .ok (.istore_n 3, 1) := by decide +kernel
theorem dX12_fit_11 : decode cX12_fit 11 = .ok (.iconst 0, 1) := by decide +kernel
theorem dX12_fit_12 : decode cX12_fit 12 = .ok (.istore 4, 2) := by decide +kernel
theorem dX12_fit_14 : decode cX12_fit 14 = .ok (.iload 4, 2) := by decide +kernel
theorem dX12_fit_16 : decode cX12_fit 16 = .ok (.aload_n 0, 1) := by decide +kernel
theorem dX12_fit_17 : decode cX12_fit 17 = .ok (.getfield 283, 3) := by decide +kernel
theorem dX12_fit_20 : decode cX12_fit 20 = .ok (.if_icmp .ge 62, 3) := by decide +kernel
theorem dX12_fit_23 : decode cX12_fit 23 = .ok (.iload_n 3, 1) := by decide +kernel
theorem dX12_fit_24 : decode cX12_fit 24 = .ok (.ifCond .eq 50, 3) := by decide +kernel
theorem dX12_fit_27 : decode cX12_fit 27 = .ok (.aload_n 0, 1) := by decide +kernel
theorem dX12_fit_28 : decode cX12_fit 28 = .ok (.iload_n 2, 1) := by decide +kernel
theorem dX12_fit_29 : decode cX12_fit 29 = .ok (.aload_n 0, 1) := by decide +kernel
theorem dX12_fit_30 : decode cX12_fit 30 = .ok (.getfield 26, 3) := by decide +kernel
theorem dX12_fit_33 : decode cX12_fit 33 = .ok (.iload 4, 2) := by decide +kernel
theorem dX12_fit_35 : decode cX12_fit 35 = .ok (.iaload, 1) := by decide +kernel
theorem dX12_fit_36 : decode cX12_fit 36 = .ok (.invokevirtual 261, 3) := by decide +kernel
theorem dX12_fit_39 : decode cX12_fit 39 = .ok (.ifCond .eq 35, 3) := by decide +kernel
theorem dX12_fit_42 : decode cX12_fit 42 = .ok (.aload_n 0, 1) := by decide +kernel
theorem dX12_fit_43 : decode cX12_fit 43 = .ok (.iload_n 2, 1) := by decide +kernel
theorem dX12_fit_44 : decode cX12_fit 44 = .ok (.aload_n 0, 1) := by decide +kernel
theorem dX12_fit_45 : decode cX12_fit 45 = .ok (.getfield 26, 3) := by decide +kernel
theorem dX12_fit_48 : decode cX12_fit 48 = .ok (.iload 4, 2) := by decide +kernel
theorem dX12_fit_50 : decode cX12_fit 50 = .ok (.iaload, 1) := by decide +kernel
theorem dX12_fit_51 : decode cX12_fit 51 = .ok (.aload_n 0, 1) := by decide +kernel
theorem dX12_fit_52 : decode cX12_fit 52 = .ok (.getfield 7, 3) := by decide +kernel
theorem dX12_fit_55 : decode cX12_fit 55 = .ok (.iconst 2, 1) := by decide +kernel
theorem dX12_fit_56 : decode cX12_fit 56 = .ok (.iaload, 1) := by decide +kernel
theorem dX12_fit_57 : decode cX12_fit 57 = .ok (.invokevirtual 203, 3) := by decide +kernel
theorem dX12_fit_60 : decode cX12_fit 60 = .ok (.aload_n 0, 1) := by decide +kernel
theorem dX12_fit_61 : decode cX12_fit 61 = .ok (.getfield 29, 3) := by decide +kernel
theorem dX12_fit_64 : decode cX12_fit 64 = .ok (.iload 4, 2) := by decide +kernel
theorem dX12_fit_66 : decode cX12_fit 66 = .ok (.iaload, 1) := by decide +kernel
theorem dX12_fit_67 : decode cX12_fit 67 = .ok (.if_icmp .ne 7, 3) := by decide +kernel
theorem dX12_fit_70 : decode cX12_fit 70 = .ok (.iconst 1, 1) := by decide +kernel
theorem dX12_fit_71 : decode cX12_fit 71 = .ok (.goto 4, 3) := by decide +kernel
theorem dX12_fit_74 : decode cX12_fit 74 = .ok (.iconst 0, 1) := by decide +kernel
theorem dX12_fit_75 : decode cX12_fit 75 = .ok (.istore_n 3, 1) := by decide +kernel
theorem dX12_fit_76 : decode cX12_fit 76 = .ok (.iinc 4 1, 3) := by decide +kernel
theorem dX12_fit_79 : decode cX12_fit 79 = .ok (.goto (-65), 3) := by decide +kernel
theorem dX12_fit_82 : decode cX12_fit 82 = .ok (.iload_n 1, 1) := by decide +kernel
theorem dX12_fit_83 : decode cX12_fit 83 = .ok (.iload_n 3, 1) := by decide +kernel
theorem dX12_fit_84 : decode cX12_fit 84 = .ok (.ifCond .eq 9, 3) := by decide +kernel
theorem dX12_fit_87 : decode cX12_fit 87 = .ok (.iconst 1, 1) := by decide +kernel
theorem dX12_fit_88 : decode cX12_fit 88 = .ok (.iload_n 2, 1) := by decide +kernel
theorem dX12_fit_89 : decode cX12_fit 89 = .ok (.ishl, 1) := by decide +kernel
theorem dX12_fit_90 : decode cX12_fit 90 = .ok (.goto 4, 3) := by decide +kernel
theorem dX12_fit_93 : decode cX12_fit 93 = .ok (.iconst 0, 1) := by decide +kernel
theorem dX12_fit_94 : decode cX12_fit 94 = .ok (.ior, 1) := by decide +kernel
theorem dX12_fit_95 : decode cX12_fit 95 = .ok (.istore_n 1, 1) := by decide +kernel
theorem dX12_fit_96 : decode cX12_fit 96 = .ok (.iinc 2 1, 3) := by decide +kernel
theorem dX12_fit_99 : decode cX12_fit 99 = .ok (.goto (-95), 3) := by decide +kernel
theorem dX12_fit_102 : decode cX12_fit 102 = .ok (.iload_n 1, 1) := by decide +kernel
theorem dX12_fit_103 : decode cX12_fit 103 = .ok (.ireturn, 1) := by decide +kernel
theorem dX12_wouldServe_0 : decode cX12_wouldServe 0 = .ok (.aload_n 0, 1) := by decide +kernel
theorem dX12_wouldServe_1 : decode cX12_wouldServe 1 = .ok (.iload_n 1, 1) := by decide +kernel
theorem dX12_wouldServe_2 : decode cX12_wouldServe 2 = .ok (.iload_n 2, 1) := by decide +kernel
theorem dX12_wouldServe_3 : decode cX12_wouldServe 3 = .ok (.invokevirtual 261, 3) := by decide +kernel
theorem dX12_wouldServe_6 : decode cX12_wouldServe 6 = .ok (.ifCond .eq 18, 3) := by decide +kernel
theorem dX12_wouldServe_9 : decode cX12_wouldServe 9 = .ok (.aload_n 0, 1) := by decide +kernel
theorem dX12_wouldServe_10 : decode cX12_wouldServe 10 = .ok (.iload_n 1, 1) := by decide +kernel
theorem dX12_wouldServe_11 : decode cX12_wouldServe 11 = .ok (.iload_n 2, 1) := by decide +kernel
theorem dX12_wouldServe_12 : decode cX12_wouldServe 12 = .ok (.aload_n 0, 1) := by decide +kernel
theorem dX12_wouldServe_13 : decode cX12_wouldServe 13 = .ok (.getfield 7, 3) := by decide +kernel
theorem dX12_wouldServe_16 : decode cX12_wouldServe 16 = .ok (.iconst 2, 1) := by decide +kernel
theorem dX12_wouldServe_17 : decode cX12_wouldServe 17 = .ok (.iaload, 1) := by decide +kernel
theorem dX12_wouldServe_18 : decode cX12_wouldServe 18 = .ok (.invokevirtual 203, 3) := by decide +kernel
theorem dX12_wouldServe_21 : decode cX12_wouldServe 21 = .ok (.goto 4, 3) := by decide +kernel
theorem dX12_wouldServe_24 : decode cX12_wouldServe 24 = .ok (.iconst 0, 1) := by decide +kernel
theorem dX12_wouldServe_25 : decode cX12_wouldServe 25 = .ok (.ireturn, 1) := by decide +kernel
theorem dX12_ask_0 : decode cX12_ask 0 = .ok (.aload_n 0, 1) := by decide +kernel
theorem dX12_ask_1 : decode cX12_ask 1 = .ok (.invokevirtual 286, 3) := by decide +kernel
theorem dX12_ask_4 : decode cX12_ask 4 = .ok (.istore_n 1, 1) := by decide +kernel
theorem dX12_ask_5 : decode cX12_ask 5 = .ok (.iload_n 1, 1) := by decide +kernel
theorem dX12_ask_6 : decode cX12_ask 6 = .ok (.invokestatic 183, 3) := by decide +kernel
theorem dX12_ask_9 : decode cX12_ask 9 = .ok (.istore_n 2, 1) := by decide +kernel
theorem dX12_ask_10 : decode cX12_ask 10 = .ok (.iconst (-1), 1) := by decide +kernel
theorem dX12_ask_11 : decode cX12_ask 11 = .ok (.istore_n 3, 1) := by decide +kernel
theorem dX12_ask_12 : decode cX12_ask 12 = .ok (.iconst 0, 1) := by decide +kernel
theorem dX12_ask_13 : decode cX12_ask 13 = .ok (.istore 4, 2) := by decide +kernel
theorem dX12_ask_15 : decode cX12_ask 15 = .ok (.iload 4, 2) := by decide +kernel
theorem dX12_ask_17 : decode cX12_ask 17 = .ok (.bipush 10, 2) := by decide +kernel
theorem dX12_ask_19 : decode cX12_ask 19 = .ok (.if_icmp .ge 134, 3) := by decide +kernel
theorem dX12_ask_22 : decode cX12_ask 22 = .ok (.iconst 0, 1) := by decide +kernel
theorem dX12_ask_23 : decode cX12_ask 23 = .ok (.istore 5, 2) := by decide +kernel
theorem dX12_ask_25 : decode cX12_ask 25 = .ok (.iconst 0, 1) := by decide +kernel
theorem dX12_ask_26 : decode cX12_ask 26 = .ok (.istore 6, 2) := by decide +kernel
theorem dX12_ask_28 : decode cX12_ask 28 = .ok (.iload 6, 2) := by decide +kernel
theorem dX12_ask_30 : decode cX12_ask 30 = .ok (.iconst 5, 1) := by decide +kernel
theorem dX12_ask_31 : decode cX12_ask 31 = .ok (.if_icmp .ge 90, 3) := by decide +kernel
theorem dX12_ask_34 : decode cX12_ask 34 = .ok (.iconst 0, 1) := by decide +kernel
theorem dX12_ask_35 : decode cX12_ask 35 = .ok (.istore 7, 2) := by decide +kernel
theorem dX12_ask_37 : decode cX12_ask 37 = .ok (.iconst 0, 1) := by decide +kernel
theorem dX12_ask_38 : decode cX12_ask 38 = .ok (.istore 8, 2) := by decide +kernel
theorem dX12_ask_40 : decode cX12_ask 40 = .ok (.iload 8, 2) := by decide +kernel
theorem dX12_ask_42 : decode cX12_ask 42 = .ok (.iconst 5, 1) := by decide +kernel
theorem dX12_ask_43 : decode cX12_ask 43 = .ok (.if_icmp .ge 56, 3) := by decide +kernel
theorem dX12_ask_46 : decode cX12_ask 46 = .ok (.iload 7, 2) := by decide +kernel
theorem dX12_ask_48 : decode cX12_ask 48 = .ok (.iload_n 1, 1) := by decide +kernel
theorem dX12_ask_49 : decode cX12_ask 49 = .ok (.iload 6, 2) := by decide +kernel
theorem dX12_ask_51 : decode cX12_ask 51 = .ok (.invokestatic 179, 3) := by decide +kernel
theorem dX12_ask_54 : decode cX12_ask 54 = .ok (.ifCond .eq 35, 3) := by decide +kernel
theorem dX12_ask_57 : decode cX12_ask 57 = .ok (.iload_n 1, 1) := by decide +kernel
theorem dX12_ask_58 : decode cX12_ask 58 = .ok (.iload 8, 2) := by decide +kernel
theorem dX12_ask_60 : decode cX12_ask 60 = .ok (.invokestatic 179, 3) := by decide +kernel
theorem dX12_ask_63 : decode cX12_ask 63 = .ok (.ifCond .eq 26, 3) := by decide +kernel
theorem dX12_ask_66 : decode cX12_ask 66 = .ok (.aload_n 0, 1) := by decide +kernel
theorem dX12_ask_67 : decode cX12_ask 67 = .ok (.iload 6, 2) := by decide +kernel
theorem dX12_ask_69 : decode cX12_ask 69 = .ok (.iload 4, 2) := by decide +kernel
theorem dX12_ask_71 : decode cX12_ask 71 = .ok (.invokevirtual 289, 3) := by decide +kernel
theorem dX12_ask_74 : decode cX12_ask 74 = .ok (.aload_n 0, 1) := by decide +kernel
theorem dX12_ask_75 : decode cX12_ask 75 = .ok (.iload 8, 2) := by decide +kernel
theorem dX12_ask_77 : decode cX12_ask 77 = .ok (.iload 4, 2) := by decide +kernel
theorem dX12_ask_79 : decode cX12_ask 79 = .ok (.invokevirtual 289, 3) := by decide +kernel
theorem dX12_ask_82 : decode cX12_ask 82 = .ok (.if_icmp .ne 7, 3) := by decide +kernel
theorem dX12_ask_85 : decode cX12_ask 85 = .ok (.iconst 1, 1) := by decide +kernel
theorem dX12_ask_86 : decode cX12_ask 86 = .ok (.goto 4, 3) := by decide +kernel
theorem dX12_ask_89 : decode cX12_ask 89 = .ok (.iconst 0, 1) := by decide +kernel
theorem dX12_ask_90 : decode cX12_ask 90 = .ok (.iadd, 1) := by decide +kernel
theorem dX12_ask_91 : decode cX12_ask 91 = .ok (.istore 7, 2) := by decide +kernel
theorem dX12_ask_93 : decode cX12_ask 93 = .ok (.iinc 8 1, 3) := by decide +kernel
theorem dX12_ask_96 : decode cX12_ask 96 = .ok (.goto (-56), 3) := by decide +kernel
theorem dX12_ask_99 : decode cX12_ask 99 = .ok (.iload 7, 2) := by decide +kernel
theorem dX12_ask_101 : decode cX12_ask 101 = .ok (.iload 5, 2) := by decide +kernel
theorem dX12_ask_103 : decode cX12_ask 103 = .ok (.if_icmp .le 8, 3) := by decide +kernel
theorem dX12_ask_106 : decode cX12_ask 106 = .ok (.iload 7, 2) := by decide +kernel
theorem dX12_ask_108 : decode cX12_ask 108 = .ok (.goto 5, 3) := by decide +kernel
theorem dX12_ask_111 : decode cX12_ask 111 = .ok (.iload 5, 2) := by decide +kernel
theorem dX12_ask_113 : decode cX12_ask 113 = .ok (.istore 5, 2) := by decide +kernel
theorem dX12_ask_115 : decode cX12_ask 115 = .ok (.iinc 6 1, 3) := by decide +kernel
theorem dX12_ask_118 : decode cX12_ask 118 = .ok (.goto (-90), 3) := by decide +kernel
theorem dX12_ask_121 : decode cX12_ask 121 = .ok (.iload 5, 2) := by decide +kernel
theorem dX12_ask_123 : decode cX12_ask 123 = .ok (.iload_n 2, 1) := by decide +kernel
theorem dX12_ask_124 : decode cX12_ask 124 = .ok (.if_icmp .ge 8, 3) := by decide +kernel
theorem dX12_ask_127 : decode cX12_ask 127 = .ok (.iload 4, 2) := by decide +kernel
theorem dX12_ask_129 : decode cX12_ask 129 = .ok (.goto 4, 3) := by decide +kernel
theorem dX12_ask_132 : decode cX12_ask 132 = .ok (.iload_n 3, 1) := by decide +kernel
theorem dX12_ask_133 : decode cX12_ask 133 = .ok (.istore_n 3, 1) := by decide +kernel
theorem dX12_ask_134 : decode cX12_ask 134 = .ok (.iload 5, 2) := by decide +kernel
theorem dX12_ask_136 : decode cX12_ask 136 = .ok (.iload_n 2, 1) := by decide +kernel
theorem dX12_ask_137 : decode cX12_ask 137 = .ok (.if_icmp .ge 8, 3) := by decide +kernel
theorem dX12_ask_140 : decode cX12_ask 140 = .ok (.iload 5, 2) := by decide +kernel
theorem dX12_ask_142 : decode cX12_ask 142 = .ok (.goto 4, 3) := by decide +kernel
theorem dX12_ask_145 : decode cX12_ask 145 = .ok (.iload_n 2, 1) := by decide +kernel
theorem dX12_ask_146 : decode cX12_ask 146 = .ok (.istore_n 2, 1) := by decide +kernel
theorem dX12_ask_147 : decode cX12_ask 147 = .ok (.iinc 4 1, 3) := by decide +kernel
theorem dX12_ask_150 : decode cX12_ask 150 = .ok (.goto (-135), 3) := by decide +kernel
theorem dX12_ask_153 : decode cX12_ask 153 = .ok (.iload_n 3, 1) := by decide +kernel
theorem dX12_ask_154 : decode cX12_ask 154 = .ok (.ireturn, 1) := by decide +kernel
theorem dX12_isTray_0 : decode cX12_isTray 0 = .ok (.iload_n 0, 1) := by decide +kernel
theorem dX12_isTray_1 : decode cX12_isTray 1 = .ok (.i2l, 1) := by decide +kernel
theorem dX12_isTray_2 : decode cX12_isTray 2 = .ok (.lconst 0, 1) := by decide +kernel
theorem dX12_isTray_3 : decode cX12_isTray 3 = .ok (.ldc2_w 254, 3) := by decide +kernel
theorem dX12_isTray_6 : decode cX12_isTray 6 = .ok (.invokestatic 94, 3) := by decide +kernel
theorem dX12_isTray_9 : decode cX12_isTray 9 = .ok (.ireturn, 1) := by decide +kernel
theorem dX12_tray_0 : decode cX12_tray 0 = .ok (.iload_n 1, 1) := by decide +kernel
theorem dX12_tray_1 : decode cX12_tray 1 = .ok (.invokestatic 292, 3) := by decide +kernel
theorem dX12_tray_4 : decode cX12_tray 4 = .ok (.ifCond .ne 6, 3) := by decide +kernel
theorem dX12_tray_7 : decode cX12_tray 7 = .ok (.bipush (-2), 2) := by decide +kernel
theorem dX12_tray_9 : decode cX12_tray 9 = .ok (.ireturn, 1) := by decide +kernel
theorem dX12_tray_10 : decode cX12_tray 10 = .ok (.aload_n 0, 1) := by decide +kernel
theorem dX12_tray_11 : decode cX12_tray 11 = .ok (.getfield 32, 3) := by decide +kernel
theorem dX12_tray_14 : decode cX12_tray 14 = .ok (.iload_n 1, 1) := by decide +kernel
theorem dX12_tray_15 : decode cX12_tray 15 = .ok (.iconst 0, 1) := by decide +kernel
theorem dX12_tray_16 : decode cX12_tray 16 = .ok (.iastore, 1) := by decide +kernel
theorem dX12_tray_17 : decode cX12_tray 17 = .ok (.iconst 0, 1) := by decide +kernel
theorem dX12_tray_18 : decode cX12_tray 18 = .ok (.ireturn, 1) := by decide +kernel
theorem dX12_lay_0 : decode cX12_lay 0 = .ok (.iload_n 1, 1) := by decide +kernel
theorem dX12_lay_1 : decode cX12_lay 1 = .ok (.invokestatic 292, 3) := by decide +kernel
theorem dX12_lay_4 : decode cX12_lay 4 = .ok (.ifCond .eq 16, 3) := by decide +kernel
theorem dX12_lay_7 : decode cX12_lay 7 = .ok (.iload_n 2, 1) := by decide +kernel
theorem dX12_lay_8 : decode cX12_lay 8 = .ok (.iconst 2, 1) := by decide +kernel
theorem dX12_lay_9 : decode cX12_lay 9 = .ok (.if_icmp .ne 14, 3) := by decide +kernel
theorem dX12_lay_12 : decode cX12_lay 12 = .ok (.aload_n 0, 1) := by decide +kernel
theorem dX12_lay_13 : decode cX12_lay 13 = .ok (.iload_n 3, 1) := by decide +kernel
theorem dX12_lay_14 : decode cX12_lay 14 = .ok (.invokevirtual 245, 3) := by decide +kernel
theorem dX12_lay_17 : decode cX12_lay 17 = .ok (.ifCond .ne 6, 3) := by decide +kernel
theorem dX12_lay_20 : decode cX12_lay 20 = .ok (.bipush (-2), 2) := by decide +kernel
theorem dX12_lay_22 : decode cX12_lay 22 = .ok (.ireturn, 1) := by decide +kernel
theorem dX12_lay_23 : decode cX12_lay 23 = .ok (.iload_n 2, 1) := by decide +kernel
theorem dX12_lay_24 : decode cX12_lay 24 = .ok (.i2l, 1) := by decide +kernel
theorem dX12_lay_25 : decode cX12_lay 25 = .ok (.lconst 0, 1) := by decide +kernel
theorem dX12_lay_26 : decode cX12_lay 26 = .ok (.ldc2_w 254, 3) := by decide +kernel
theorem dX12_lay_29 : decode cX12_lay 29 = .ok (.invokestatic 94, 3) := by decide +kernel
theorem dX12_lay_32 : decode cX12_lay 32 = .ok (.ifCond .eq 38, 3) := by decide +kernel
theorem dX12_lay_35 : decode cX12_lay 35 = .ok (.iload_n 2, 1) := by decide +kernel
theorem dX12_lay_36 : decode cX12_lay 36 = .ok (.ifCond .ne 15, 3) := by decide +kernel
theorem dX12_lay_39 : decode cX12_lay 39 = .ok (.iload_n 3, 1) := by decide +kernel
theorem dX12_lay_40 : decode cX12_lay 40 = .ok (.i2l, 1) := by decide +kernel
theorem dX12_lay_41 : decode cX12_lay 41 = .ok (.lconst 0, 1) := by decide +kernel
theorem dX12_lay_42 : decode cX12_lay 42 = .ok (.ldc2_w 295, 3) := by decide +kernel
theorem dX12_lay_45 : decode cX12_lay 45 = .ok (.invokestatic 94, 3) := by decide +kernel
theorem dX12_lay_48 : decode cX12_lay 48 = .ok (.ifCond .eq 22, 3) := by decide +kernel
theorem dX12_lay_51 : decode cX12_lay 51 = .ok (.iload_n 2, 1) := by decide +kernel
theorem dX12_lay_52 : decode cX12_lay 52 = .ok (.iconst 1, 1) := by decide +kernel
theorem dX12_lay_53 : decode cX12_lay 53 = .ok (.if_icmp .ne 20, 3) := by decide +kernel
theorem dX12_lay_56 : decode cX12_lay 56 = .ok (.iload_n 3, 1) := by decide +kernel
theorem dX12_lay_57 : decode cX12_lay 57 = .ok (.i2l, 1) := by decide +kernel
theorem dX12_lay_58 : decode cX12_lay 58 = .ok (.ldc2_w 297, 3) := by decide +kernel
theorem dX12_lay_61 : decode cX12_lay 61 = .ok (.ldc2_w 299, 3) := by decide +kernel
theorem dX12_lay_64 : decode cX12_lay 64 = .ok (.invokestatic 94, 3) := by decide +kernel
theorem dX12_lay_67 : decode cX12_lay 67 = .ok (.ifCond .ne 6, 3) := by decide +kernel
theorem dX12_lay_70 : decode cX12_lay 70 = .ok (.bipush (-3), 2) := by decide +kernel
theorem dX12_lay_72 : decode cX12_lay 72 = .ok (.ireturn, 1) := by decide +kernel
theorem dX12_lay_73 : decode cX12_lay 73 = .ok (.aload_n 0, 1) := by decide +kernel
theorem dX12_lay_74 : decode cX12_lay 74 = .ok (.getfield 32, 3) := by decide +kernel
theorem dX12_lay_77 : decode cX12_lay 77 = .ok (.iload_n 1, 1) := by decide +kernel
theorem dX12_lay_78 : decode cX12_lay 78 = .ok (.iaload, 1) := by decide +kernel
theorem dX12_lay_79 : decode cX12_lay 79 = .ok (.ifCond .ge 6, 3) := by decide +kernel
theorem dX12_lay_82 : decode cX12_lay 82 = .ok (.bipush (-11), 2) := by decide +kernel
theorem dX12_lay_84 : decode cX12_lay 84 = .ok (.ireturn, 1) := by decide +kernel
theorem dX12_lay_85 : decode cX12_lay 85 = .ok (.aload_n 0, 1) := by decide +kernel
theorem dX12_lay_86 : decode cX12_lay 86 = .ok (.getfield 32, 3) := by decide +kernel
theorem dX12_lay_89 : decode cX12_lay 89 = .ok (.iload_n 1, 1) := by decide +kernel
theorem dX12_lay_90 : decode cX12_lay 90 = .ok (.iaload, 1) := by decide +kernel
theorem dX12_lay_91 : decode cX12_lay 91 = .ok (.bipush 8, 2) := by decide +kernel
theorem dX12_lay_93 : decode cX12_lay 93 = .ok (.if_icmp .ne 6, 3) := by decide +kernel
theorem dX12_lay_96 : decode cX12_lay 96 = .ok (.bipush (-14), 2) := by decide +kernel
theorem dX12_lay_98 : decode cX12_lay 98 = .ok (.ireturn, 1) := by decide +kernel
theorem dX12_lay_99 : decode cX12_lay 99 = .ok (.aload_n 0, 1) := by decide +kernel
theorem dX12_lay_100 : decode cX12_lay 100 = .ok (.getfield 35, 3) := by decide +kernel
theorem dX12_lay_103 : decode cX12_lay 103 = .ok (.bipush 8, 2) := by decide +kernel
theorem dX12_lay_105 : decode cX12_lay 105 = .ok (.iload_n 1, 1) := by decide +kernel
theorem dX12_lay_106 : decode cX12_lay 106 = .ok (.imul, 1) := by decide +kernel
theorem dX12_lay_107 : decode cX12_lay 107 = .ok (.aload_n 0, 1) := by decide +kernel
theorem dX12_lay_108 : decode cX12_lay 108 = .ok (.getfield 32, 3) := by decide +kernel
theorem dX12_lay_111 : decode cX12_lay 111 = .ok (.iload_n 1, 1) := by decide +kernel
theorem dX12_lay_112 : decode cX12_lay 112 = .ok (.iaload, 1) := by decide +kernel
theorem dX12_lay_113 : decode cX12_lay 113 = .ok (.iadd, 1) := by decide +kernel
theorem dX12_lay_114 : decode cX12_lay 114 = .ok (.iload_n 2, 1) := by decide +kernel
theorem dX12_lay_115 : decode cX12_lay 115 = .ok (.iastore, 1) := by decide +kernel
theorem dX12_lay_116 : decode cX12_lay 116 = .ok (.aload_n 0, 1) := by decide +kernel
theorem dX12_lay_117 : decode cX12_lay 117 = .ok (.getfield 38, 3) := by decide +kernel
theorem dX12_lay_120 : decode cX12_lay 120 = .ok (.bipush 8, 2) := by decide +kernel
theorem dX12_lay_122 : decode cX12_lay 122 = .ok (.iload_n 1, 1) := by decide +kernel
theorem dX12_lay_123 : decode cX12_lay 123 = .ok (.imul, 1) := by decide +kernel
theorem dX12_lay_124 : decode cX12_lay 124 = .ok (.aload_n 0, 1) := by decide +kernel
theorem dX12_lay_125 : decode cX12_lay 125 = .ok (.getfield 32, 3) := by decide +kernel
theorem dX12_lay_128 : decode cX12_lay 128 = .ok (.iload_n 1, 1) := by decide +kernel
theorem dX12_lay_129 : decode cX12_lay 129 = .ok (.iaload, 1) := by decide +kernel
theorem dX12_lay_130 : decode cX12_lay 130 = .ok (.iadd, 1) := by decide +kernel
theorem dX12_lay_131 : decode cX12_lay 131 = .ok (.iload_n 3, 1) := by decide +kernel
theorem dX12_lay_132 : decode cX12_lay 132 = .ok (.iastore, 1) := by decide +kernel
theorem dX12_lay_133 : decode cX12_lay 133 = .ok (.aload_n 0, 1) := by decide +kernel
theorem dX12_lay_134 : decode cX12_lay 134 = .ok (.getfield 32, 3) := by decide +kernel
theorem dX12_lay_137 : decode cX12_lay 137 = .ok (.iload_n 1, 1) := by decide +kernel
theorem dX12_lay_138 : decode cX12_lay 138 = .ok (.dup2, 1) := by decide +kernel
theorem dX12_lay_139 : decode cX12_lay 139 = .ok (.iaload, 1) := by decide +kernel
theorem dX12_lay_140 : decode cX12_lay 140 = .ok (.iconst 1, 1) := by decide +kernel
theorem dX12_lay_141 : decode cX12_lay 141 = .ok (.iadd, 1) := by decide +kernel
theorem dX12_lay_142 : decode cX12_lay 142 = .ok (.iastore, 1) := by decide +kernel
theorem dX12_lay_143 : decode cX12_lay 143 = .ok (.aload_n 0, 1) := by decide +kernel
theorem dX12_lay_144 : decode cX12_lay 144 = .ok (.getfield 32, 3) := by decide +kernel
theorem dX12_lay_147 : decode cX12_lay 147 = .ok (.iload_n 1, 1) := by decide +kernel
theorem dX12_lay_148 : decode cX12_lay 148 = .ok (.iaload, 1) := by decide +kernel
theorem dX12_lay_149 : decode cX12_lay 149 = .ok (.ireturn, 1) := by decide +kernel
theorem dX12_take_0 : decode cX12_take 0 = .ok (.iload_n 1, 1) := by decide +kernel
theorem dX12_take_1 : decode cX12_take 1 = .ok (.invokestatic 292, 3) := by decide +kernel
theorem dX12_take_4 : decode cX12_take 4 = .ok (.ifCond .ne 6, 3) := by decide +kernel
theorem dX12_take_7 : decode cX12_take 7 = .ok (.bipush (-2), 2) := by decide +kernel
theorem dX12_take_9 : decode cX12_take 9 = .ok (.ireturn, 1) := by decide +kernel
theorem dX12_take_10 : decode cX12_take 10 = .ok (.iload_n 2, 1) := by decide +kernel
theorem dX12_take_11 : decode cX12_take 11 = .ok (.i2l, 1) := by decide +kernel
theorem dX12_take_12 : decode cX12_take 12 = .ok (.lconst 0, 1) := by decide +kernel
theorem dX12_take_13 : decode cX12_take 13 = .ok (.ldc2_w 254, 3) := by decide +kernel
theorem dX12_take_16 : decode cX12_take 16 = .ok (.invokestatic 94, 3) := by decide +kernel
theorem dX12_take_19 : decode cX12_take 19 = .ok (.ifCond .ne 6, 3) := by decide +kernel
theorem dX12_take_22 : decode cX12_take 22 = .ok (.bipush (-3), 2) := by decide +kernel
theorem dX12_take_24 : decode cX12_take 24 = .ok (.ireturn, 1) := by decide +kernel
theorem dX12_take_25 : decode cX12_take 25 = .ok (.aload_n 0, 1) := by decide +kernel
theorem dX12_take_26 : decode cX12_take 26 = .ok (.getfield 32, 3) := by decide +kernel
theorem dX12_take_29 : decode cX12_take 29 = .ok (.iload_n 1, 1) := by decide +kernel
theorem dX12_take_30 : decode cX12_take 30 = .ok (.iaload, 1) := by decide +kernel
theorem dX12_take_31 : decode cX12_take 31 = .ok (.iconst 1, 1) := by decide +kernel
theorem dX12_take_32 : decode cX12_take 32 = .ok (.if_icmp .ge 20, 3) := by decide +kernel
theorem dX12_take_35 : decode cX12_take 35 = .ok (.aload_n 0, 1) := by decide +kernel
theorem dX12_take_36 : decode cX12_take 36 = .ok (.getfield 32, 3) := by decide +kernel
theorem dX12_take_39 : decode cX12_take 39 = .ok (.iload_n 1, 1) := by decide +kernel
theorem dX12_take_40 : decode cX12_take 40 = .ok (.iaload, 1) := by decide +kernel
theorem dX12_take_41 : decode cX12_take 41 = .ok (.ifCond .ge 8, 3) := by decide +kernel
theorem dX12_take_44 : decode cX12_take 44 = .ok (.bipush (-11), 2) := by decide +kernel
theorem dX12_take_46 : decode cX12_take 46 = .ok (.goto 5, 3) := by decide +kernel
theorem dX12_take_49 : decode cX12_take 49 = .ok (.bipush (-12), 2) := by decide +kernel
theorem dX12_take_51 : decode cX12_take 51 = .ok (.ireturn, 1) := by decide +kernel
theorem dX12_take_52 : decode cX12_take 52 = .ok (.bipush 8, 2) := by decide +kernel
theorem dX12_take_54 : decode cX12_take 54 = .ok (.iload_n 1, 1) := by decide +kernel
theorem dX12_take_55 : decode cX12_take 55 = .ok (.imul, 1) := by decide +kernel
theorem dX12_take_56 : decode cX12_take 56 = .ok (.aload_n 0, 1) := by decide +kernel
theorem dX12_take_57 : decode cX12_take 57 = .ok (.getfield 32, 3) := by decide +kernel
theorem dX12_take_60 : decode cX12_take 60 = .ok (.iload_n 1, 1) := by decide +kernel
theorem dX12_take_61 : decode cX12_take 61 = .ok (.iaload, 1) := by decide +kernel
theorem dX12_take_62 : decode cX12_take 62 = .ok (.iadd, 1) := by decide +kernel
theorem dX12_take_63 : decode cX12_take 63 = .ok (.iconst 1, 1) := by decide +kernel
theorem dX12_take_64 : decode cX12_take 64 = .ok (.isub, 1) := by decide +kernel
theorem dX12_take_65 : decode cX12_take 65 = .ok (.istore_n 3, 1) := by decide +kernel
theorem dX12_take_66 : decode cX12_take 66 = .ok (.aload_n 0, 1) := by decide +kernel
theorem dX12_take_67 : decode cX12_take 67 = .ok (.getfield 35, 3) := by decide +kernel
theorem dX12_take_70 : decode cX12_take 70 = .ok (.iload_n 3, 1) := by decide +kernel
theorem dX12_take_71 : decode cX12_take 71 = .ok (.iaload, 1) := by decide +kernel
theorem dX12_take_72 : decode cX12_take 72 = .ok (.iload_n 2, 1) := by decide +kernel
theorem dX12_take_73 : decode cX12_take 73 = .ok (.if_icmp .eq 6, 3) := by decide +kernel
theorem dX12_take_76 : decode cX12_take 76 = .ok (.bipush (-13), 2) := by decide +kernel
theorem dX12_take_78 : decode cX12_take 78 = .ok (.ireturn, 1) := by decide +kernel
theorem dX12_take_79 : decode cX12_take 79 = .ok (.aload_n 0, 1) := by decide +kernel
theorem dX12_take_80 : decode cX12_take 80 = .ok (.getfield 32, 3) := by decide +kernel
theorem dX12_take_83 : decode cX12_take 83 = .ok (.iload_n 1, 1) := by decide +kernel
theorem dX12_take_84 : decode cX12_take 84 = .ok (.dup2, 1) := by decide +kernel
theorem dX12_take_85 : decode cX12_take 85 = .ok (.iaload, 1) := by decide +kernel
theorem dX12_take_86 : decode cX12_take 86 = .ok (.iconst 1, 1) := by decide +kernel
theorem dX12_take_87 : decode cX12_take 87 = .ok (.isub, 1) := by decide +kernel
theorem dX12_take_88 : decode cX12_take 88 = .ok (.iastore, 1) := by decide +kernel
theorem dX12_take_89 : decode cX12_take 89 = .ok (.iload_n 2, 1) := by decide +kernel
theorem dX12_take_90 : decode cX12_take 90 = .ok (.iconst 1, 1) := by decide +kernel
theorem dX12_take_91 : decode cX12_take 91 = .ok (.if_icmp .ne 16, 3) := by decide +kernel
theorem dX12_take_94 : decode cX12_take 94 = .ok (.aload_n 0, 1) := by decide +kernel
theorem dX12_take_95 : decode cX12_take 95 = .ok (.getfield 38, 3) := by decide +kernel
theorem dX12_take_98 : decode cX12_take 98 = .ok (.iload_n 3, 1) := by decide +kernel
theorem dX12_take_99 : decode cX12_take 99 = .ok (.iaload, 1) := by decide +kernel
theorem dX12_take_100 : decode cX12_take 100 = .ok (.ldc_w 301, 3) := by decide +kernel
theorem dX12_take_103 : decode cX12_take 103 = .ok (.iadd, 1) := by decide +kernel
theorem dX12_take_104 : decode cX12_take 104 = .ok (.goto 9, 3) := by decide +kernel
theorem dX12_take_107 : decode cX12_take 107 = .ok (.aload_n 0, 1) := by decide +kernel
theorem dX12_take_108 : decode cX12_take 108 = .ok (.getfield 38, 3) := by decide +kernel
theorem dX12_take_111 : decode cX12_take 111 = .ok (.iload_n 3, 1) := by decide +kernel
theorem dX12_take_112 : decode cX12_take 112 = .ok (.iaload, 1) := by decide +kernel
theorem dX12_take_113 : decode cX12_take 113 = .ok (.ireturn, 1) := by decide +kernel
theorem kvX12_270 : ux_LV RX12 270 12 yX12_wholeRank cX12_wholeRank 1 (some .int) 0 := ⟨⟨TX12, 31, rfl⟩, tw_1369, tw_1371, tw_65, tw_87, tw_1372, ⟨by decide, by decide, by decide +kernel⟩⟩
theorem kvX12_273 : ux_LV RX12 273 12 yX12_costOf cX12_costOf 4 (some .int) 1 := ⟨⟨TX12, 31, rfl⟩, tw_1373, tw_1375, tw_66, tw_87, tw_1376, ⟨by decide, by decide, by decide +kernel⟩⟩
theorem kvX12_276 : ux_LV RX12 276 12 yX12_isWhole cX12_isWhole 5 (some .boolean) 2 := ⟨⟨TX12, 31, rfl⟩, tw_1377, tw_1379, tw_67, tw_87, tw_1380, ⟨by decide, by decide, by decide +kernel⟩⟩
theorem kfX12_283 : ux_FL RX12 283 12 12 := ⟨RX12, TX12, 31, rfl, lay_X12, by decide, tw_1068⟩
theorem kfX12_26 : ux_FL RX12 26 12 10 := ⟨RX12, TX12, 31, rfl, lay_X12, by decide, tw_1066⟩
theorem kfX12_29 : ux_FL RX12 29 12 11 := ⟨RX12, TX12, 31, rfl, lay_X12, by decide, tw_1067⟩
theorem kpX12_283 : ux_FP RX12 283 12 12 .int := ⟨RX12, TX12, 31, rfl, lay_X12, by decide, tw_1068, tyX12, tyX12_ok, nmX12, rfl, by decide +kernel⟩
theorem kvX12_286 : ux_LV RX12 286 12 yX12_fit cX12_fit 5 (some .int) 0 := ⟨⟨TX12, 31, rfl⟩, tw_1407, tw_1400, tw_1401, tw_87, tw_1402, ⟨by decide, by decide, by decide +kernel⟩⟩
theorem kvX12_289 : ux_LV RX12 289 12 yX12_wouldServe cX12_wouldServe 3 (some .int) 2 := ⟨⟨TX12, 31, rfl⟩, tw_1408, tw_1410, tw_68, tw_87, tw_1411, ⟨by decide, by decide, by decide +kernel⟩⟩
theorem ksX12_292 : ux_LS RX12 292 yX12_isTray cX12_isTray 1 (some .boolean) 1 := ⟨tw_1416, tw_1417, tw_87, tw_1418, ⟨by decide, by decide, by decide +kernel⟩⟩
theorem kfX12_35 : ux_FL RX12 35 12 14 := ⟨RX12, TX12, 31, rfl, lay_X12, by decide, tw_1070⟩
theorem kfX12_38 : ux_FL RX12 38 12 15 := ⟨RX12, TX12, 31, rfl, lay_X12, by decide, tw_1071⟩
def fX12_deal_28b_80 (v1 : Int32) (v2 : Int32) (v3 : Int32) (v4 : Int32) (v5 : Int32) (N : ux_N) (L : ux_L) : Option ((Int32 × Int32 × Int32 × ux_L) ⊕ (Int32 × ux_L)) :=
  some (.inl (v3, v4, (v5 + 1), L))
set_option maxHeartbeats 4000000 in
set_option maxRecDepth 20000 in
theorem wX12_deal_28b_80 {X : ux_X} (C : ux_C X cX12_deal RX12 7 (some .int) 8 184 shM) {v1 : Int32} {v2 : Int32} {v3 : Int32} {v4 : Int32} {v5 : Int32}  {N : ux_N} {L : ux_L} {o : (Int32 × Int32 × Int32 × ux_L) ⊕ (Int32 × ux_L)} (hin : ∀ s : Int32 × Int32 × Int32 × ux_L, o = .inl s → ux_Wt X 7 28 [(0, .ref (ux_ad X 0)), (1, .int v1), (2, .int v2), (3, .int s.1), (4, .int s.2.1), (5, .int s.2.2.1)] [] N s.2.2.2) (hex0 : ∀ e : Int32 × ux_L, o = .inr (e) → ux_Wt X 7 86 [(0, .ref (ux_ad X 0)), (1, .int v1), (3, .int e.1)] [] N e.2) (h : fX12_deal_28b_80 v1 v2 v3 v4 v5 N L = some o) : ux_Wt X 7 80 [(0, .ref (ux_ad X 0)), (1, .int v1), (2, .int v2), (3, .int v3), (4, .int v4), (5, .int v5)] [] N L := by
  refine wt_iinc 83 5 [(5, .int (v5 + 1)), (0, .ref (ux_ad X 0)), (1, .int v1), (2, .int v2), (3, .int v3), (4, .int v4)] (v5 + 1) C dX12_deal_80 rfl rfl (by rfl) (by decide) rfl ?_
  refine wt_goto 28 C dX12_deal_83 (by decide) ?_
  refine wt_sub [1, 2, 3, 4, 5, 0] rfl ?_
  exact hin _ (Option.some.inj h).symm
def fX12_deal_28b (v1 : Int32) (v2 : Int32) (v3 : Int32) (v4 : Int32) (v5 : Int32) (N : ux_N) (L : ux_L) : Option ((Int32 × Int32 × Int32 × ux_L) ⊕ (Int32 × ux_L)) :=
  if ((1 : Int32) <<< ((N 0 4) &&& 31)) ≤ v5 then (some (.inr ((v3, L)))) else ((fX12_costOf v5 N).bind (fun o2 => (fX12_ones v5).bind (fun o4 => if v4 ≤ (((10 : Int32) * o2) + o4) then (fX12_deal_28b_80 v1 v2 v3 v4 v5 N L) else ((fX12_isWhole v5 v2 N L).bind (fun o7 => if o7.1 = 0 then (fX12_deal_28b_80 v1 v2 v3 v4 v5 N o7.2) else (fX12_deal_28b_80 v1 v2 v5 (((10 : Int32) * o2) + o4) v5 N o7.2))))))
set_option maxHeartbeats 4000000 in
set_option maxRecDepth 20000 in
theorem wX12_deal_28b {X : ux_X} (C : ux_C X cX12_deal RX12 7 (some .int) 8 184 shM) {v1 : Int32} {v2 : Int32} {v3 : Int32} {v4 : Int32} {v5 : Int32}  {N : ux_N} {L : ux_L} {o : (Int32 × Int32 × Int32 × ux_L) ⊕ (Int32 × ux_L)} (hin : ∀ s : Int32 × Int32 × Int32 × ux_L, o = .inl s → ux_Wt X 7 28 [(0, .ref (ux_ad X 0)), (1, .int v1), (2, .int v2), (3, .int s.1), (4, .int s.2.1), (5, .int s.2.2.1)] [] N s.2.2.2) (hex0 : ∀ e : Int32 × ux_L, o = .inr (e) → ux_Wt X 7 86 [(0, .ref (ux_ad X 0)), (1, .int v1), (3, .int e.1)] [] N e.2) (h : fX12_deal_28b v1 v2 v3 v4 v5 N L = some o) : ux_Wt X 7 28 [(0, .ref (ux_ad X 0)), (1, .int v1), (2, .int v2), (3, .int v3), (4, .int v4), (5, .int v5)] [] N L := by
  refine wt_iload 30 5 C dX12_deal_28 rfl rfl ?_
  refine wt_iconst 31 1 C dX12_deal_30 rfl (by decide) ?_
  refine wt_aload_n 32 0 C dX12_deal_31 rfl rfl ?_
  refine wt_getI 35 C kfX12_89 sm_0 rfl dX12_deal_32 rfl ?_
  refine wt_ishl 36 C dX12_deal_35 rfl ?_
  refine wt_icmp_ge 39 86 C dX12_deal_36 rfl (by decide) (fun q1 => ?_) (fun q1 => ?_)
  · have h := (if_pos q1).symm.trans h
    refine wt_sub [0, 1, 3] rfl ?_
    exact hex0 _ (Option.some.inj h).symm
  · have h := (if_neg q1).symm.trans h
    refine wt_bipush 41 10 C dX12_deal_39 rfl (by decide) ?_
    refine wt_aload_n 42 0 C dX12_deal_41 rfl rfl ?_
    refine wt_iload 44 5 C dX12_deal_42 rfl rfl ?_
    obtain ⟨o2, hc3, h⟩ := Option.bind_eq_some_iff.mp h
    refine wt_callVi 47 [.int (10 : Int32)] C kvX12_273 sm_0 (mX12_costOf (cx_ok C)  hc3) rfl rfl ⟨Nat.le_of_ble_eq_true rfl, Nat.le_of_ble_eq_true rfl⟩ (Nat.le_of_ble_eq_true rfl) dX12_deal_44 rfl ?_
    refine wt_imul 48 C dX12_deal_47 rfl ?_
    refine wt_iload 50 5 C dX12_deal_48 rfl rfl ?_
    obtain ⟨o4, hc5, h⟩ := Option.bind_eq_some_iff.mp h
    refine wt_callSi 53 [.int ((10 : Int32) * o2)] C ksX12_183 (mX12_ones (cx_ok C)  hc5) rfl rfl ⟨Nat.le_of_ble_eq_true rfl, Nat.le_of_ble_eq_true rfl⟩ (Nat.le_of_ble_eq_true rfl) dX12_deal_50 rfl ?_
    refine wt_iadd 54 C dX12_deal_53 rfl ?_
    refine wt_istore 56 [(6, .int (((10 : Int32) * o2) + o4)), (0, .ref (ux_ad X 0)), (1, .int v1), (2, .int v2), (3, .int v3), (4, .int v4), (5, .int v5)] C dX12_deal_54 rfl (by decide) rfl ?_
    refine wt_iload 58 0 C dX12_deal_56 rfl rfl ?_
    refine wt_iload 60 5 C dX12_deal_58 rfl rfl ?_
    refine wt_icmp_ge 63 80 C dX12_deal_60 rfl (by decide) (fun q6 => ?_) (fun q6 => ?_)
    · have h := (if_pos q6).symm.trans h
      refine wt_sub [1, 2, 3, 4, 5, 6] rfl ?_
      exact wX12_deal_28b_80 C hin hex0 h
    · have h := (if_neg q6).symm.trans h
      refine wt_aload_n 64 1 C dX12_deal_63 rfl rfl ?_
      refine wt_iload 66 6 C dX12_deal_64 rfl rfl ?_
      refine wt_iload_n 67 3 C dX12_deal_66 rfl rfl ?_
      obtain ⟨o7, hc8, h⟩ := Option.bind_eq_some_iff.mp h
      refine wt_callVi 70 [] C kvX12_276 sm_0 (mX12_isWhole (cx_ok C)  hc8) rfl rfl ⟨Nat.le_of_ble_eq_true rfl, Nat.le_of_ble_eq_true rfl⟩ (Nat.le_of_ble_eq_true rfl) dX12_deal_67 rfl ?_
      refine wt_if_eq 73 80 C dX12_deal_70 rfl (by decide) (fun q9 => ?_) (fun q9 => ?_)
      · have h := (if_pos q9).symm.trans h
        refine wt_sub [1, 2, 3, 4, 5, 6] rfl ?_
        exact wX12_deal_28b_80 C hin hex0 h
      · have h := (if_neg q9).symm.trans h
        refine wt_iload 75 6 C dX12_deal_73 rfl rfl ?_
        refine wt_istore_n 76 [(3, .int v5), (6, .int (((10 : Int32) * o2) + o4)), (0, .ref (ux_ad X 0)), (1, .int v1), (2, .int v2), (4, .int v4), (5, .int v5)] C dX12_deal_75 rfl (by decide) rfl ?_
        refine wt_iload 78 1 C dX12_deal_76 rfl rfl ?_
        refine wt_istore 80 [(4, .int (((10 : Int32) * o2) + o4)), (3, .int v5), (6, .int (((10 : Int32) * o2) + o4)), (0, .ref (ux_ad X 0)), (1, .int v1), (2, .int v2), (5, .int v5)] C dX12_deal_78 rfl (by decide) rfl ?_
        refine wt_sub [3, 4, 5, 1, 0, 6] rfl ?_
        exact wX12_deal_28b_80 C hin hex0 h
def fX12_deal_104 (s0 : Int32) (N : ux_N) (L : ux_L) : Option (Int32 × ux_N × ux_L) :=
  some (s0, N, L)
set_option maxHeartbeats 4000000 in
set_option maxRecDepth 20000 in
theorem wX12_deal_104 {X : ux_X} (C : ux_C X cX12_deal RX12 7 (some .int) 8 184 shM) {s0 : Int32}  {N : ux_N} {L : ux_L} {o : Int32 × ux_N × ux_L} (hq : ux_Qi X o.1 o.2.1 o.2.2) (h : fX12_deal_104 s0 N L = some o) : ux_Wt X 7 104 [] [.int s0] N L := by
  cases h
  exact wt_iret C hq dX12_deal_104
def fX12_deal_95 (v3 : Int32) (N : ux_N) (L : ux_L) : Option (Int32 × ux_N × ux_L) :=
  fX12_deal_104 v3 N L
set_option maxHeartbeats 4000000 in
set_option maxRecDepth 20000 in
theorem wX12_deal_95 {X : ux_X} (C : ux_C X cX12_deal RX12 7 (some .int) 8 184 shM) {v3 : Int32}  {N : ux_N} {L : ux_L} {o : Int32 × ux_N × ux_L} (hq : ux_Qi X o.1 o.2.1 o.2.2) (h : fX12_deal_95 v3 N L = some o) : ux_Wt X 7 95 [(3, .int v3)] [] N L := by
  refine wt_iload_n 96 0 C dX12_deal_95 rfl rfl ?_
  refine wt_goto 104 C dX12_deal_96 (by decide) ?_
  refine wt_sub [] rfl ?_
  exact wX12_deal_104 C hq h
def fX12_deal (v1 : Int32) (N : ux_N) (L : ux_L) : Option (Int32 × ux_N × ux_L) :=
  (fX12_in (v1.toInt64) (0 : Int64) (1 : Int64)).bind (fun o1 => if o1 = 0 then (some ((-3 : Int32), N, L)) else ((fX12_wholeRank N).bind (fun o4 => (ux_lp (fun s : Int32 × Int32 × Int32 × ux_L => fX12_deal_28b v1 o4.1 s.1 s.2.1 s.2.2.1 o4.2 s.2.2.2) ux_fu ((-1 : Int32), (9999 : Int32), (0 : Int32), L)).bind (fun e13 => if v1 = 0 then (fX12_deal_95 e13.1 o4.2 e13.2) else (if e13.1 = (-1 : Int32) then (fX12_deal_95 e13.1 o4.2 e13.2) else ((fX12_costOf e13.1 o4.2).bind (fun o16 => fX12_deal_104 o16 o4.2 e13.2)))))))
set_option maxHeartbeats 4000000 in
set_option maxRecDepth 20000 in
theorem wX12_deal {X : ux_X} (C : ux_C X cX12_deal RX12 7 (some .int) 8 184 shM) {v1 : Int32}  {N : ux_N} {L : ux_L} {o : Int32 × ux_N × ux_L} (hq : ux_Qi X o.1 o.2.1 o.2.2) (h : fX12_deal v1 N L = some o) : ux_Wt X 7 0 [(0, .ref (ux_ad X 0)), (1, .int v1)] [] N L := by
  refine wt_iload_n 1 1 C dX12_deal_0 rfl rfl ?_
  refine wt_i2l 2 C dX12_deal_1 rfl ?_
  refine wt_lconst 3 0 C dX12_deal_2 rfl (by decide) ?_
  refine wt_lconst 4 1 C dX12_deal_3 rfl (by decide) ?_
  obtain ⟨o1, hc2, h⟩ := Option.bind_eq_some_iff.mp h
  refine wt_callSi 7 [] C ksX12_94 (mX12_in (cx_ok C)  hc2) rfl rfl ⟨Nat.le_of_ble_eq_true rfl, Nat.le_of_ble_eq_true rfl⟩ (Nat.le_of_ble_eq_true rfl) dX12_deal_4 rfl ?_
  refine wt_if_ne 10 13 C dX12_deal_7 rfl (by decide) (fun q3 => ?_) (fun q3 => ?_)
  · have h := (if_neg q3).symm.trans h
    refine wt_aload_n 14 0 C dX12_deal_13 rfl rfl ?_
    obtain ⟨o4, hc5, h⟩ := Option.bind_eq_some_iff.mp h
    refine wt_callVi 17 [] C kvX12_270 sm_0 (mX12_wholeRank (cx_ok C)  hc5) rfl rfl ⟨Nat.le_of_ble_eq_true rfl, Nat.le_of_ble_eq_true rfl⟩ (Nat.le_of_ble_eq_true rfl) dX12_deal_14 rfl ?_
    refine wt_istore_n 18 [(2, .int o4.1), (0, .ref (ux_ad X 0)), (1, .int v1)] C dX12_deal_17 rfl (by decide) rfl ?_
    refine wt_iconst 19 (-1) C dX12_deal_18 rfl (by decide) ?_
    refine wt_istore_n 20 [(3, .int (-1 : Int32)), (2, .int o4.1), (0, .ref (ux_ad X 0)), (1, .int v1)] C dX12_deal_19 rfl (by decide) rfl ?_
    refine wt_sipush 23 9999 C dX12_deal_20 rfl (by decide) ?_
    refine wt_istore 25 [(4, .int (9999 : Int32)), (3, .int (-1 : Int32)), (2, .int o4.1), (0, .ref (ux_ad X 0)), (1, .int v1)] C dX12_deal_23 rfl (by decide) rfl ?_
    refine wt_iconst 26 0 C dX12_deal_25 rfl (by decide) ?_
    refine wt_istore 28 [(5, .int (0 : Int32)), (4, .int (9999 : Int32)), (3, .int (-1 : Int32)), (2, .int o4.1), (0, .ref (ux_ad X 0)), (1, .int v1)] C dX12_deal_26 rfl (by decide) rfl ?_
    obtain ⟨e6, hl7, h⟩ := Option.bind_eq_some_iff.mp h
    refine wt_sub [4, 5, 3, 2, 1, 0] rfl ?_
    refine ux_loop (fun s : Int32 × Int32 × Int32 × ux_L => fX12_deal_28b v1 o4.1 s.1 s.2.1 s.2.2.1 o4.2 s.2.2.2) (fun s : Int32 × Int32 × Int32 × ux_L => ux_Wt X 7 28 [(0, .ref (ux_ad X 0)), (1, .int v1), (2, .int o4.1), (3, .int s.1), (4, .int s.2.1), (5, .int s.2.2.1)] [] o4.2 s.2.2.2) (e := e6) ?_ hl7
    intro s8 o9 hb10 hi11 hx12
    refine wX12_deal_28b C hi11 (fun x0 he => ?_) hb10
    · obtain ⟨e13, rfl⟩ : ∃ z, z = x0 := ⟨_, rfl⟩
      have h9 := hx12 _ he
      subst h9
      refine wt_iload_n 87 1 C dX12_deal_86 rfl rfl ?_
      refine wt_if_eq 90 95 C dX12_deal_87 rfl (by decide) (fun q14 => ?_) (fun q14 => ?_)
      · have h := (if_pos q14).symm.trans h
        refine wt_sub [2] rfl ?_
        exact wX12_deal_95 C hq h
      · have h := (if_neg q14).symm.trans h
        refine wt_iload_n 91 2 C dX12_deal_90 rfl rfl ?_
        refine wt_iconst 92 (-1) C dX12_deal_91 rfl (by decide) ?_
        refine wt_icmp_ne 95 99 C dX12_deal_92 rfl (by decide) (fun q15 => ?_) (fun q15 => ?_)
        · have h := (if_neg q15).symm.trans h
          refine wt_aload_n 100 0 C dX12_deal_99 rfl rfl ?_
          refine wt_iload_n 101 2 C dX12_deal_100 rfl rfl ?_
          obtain ⟨o16, hc17, h⟩ := Option.bind_eq_some_iff.mp h
          refine wt_callVi 104 [] C kvX12_273 sm_0 (mX12_costOf (cx_ok C)  hc17) rfl rfl ⟨Nat.le_of_ble_eq_true rfl, Nat.le_of_ble_eq_true rfl⟩ (Nat.le_of_ble_eq_true rfl) dX12_deal_101 rfl ?_
          refine wt_sub [] rfl ?_
          exact wX12_deal_104 C hq h
        · have h := (if_pos q15).symm.trans h
          refine wt_sub [2] rfl ?_
          exact wX12_deal_95 C hq h
  · have h := (if_pos q3).symm.trans h
    refine wt_bipush 12 (-3) C dX12_deal_10 rfl (by decide) ?_
    cases h
    exact wt_iret C hq dX12_deal_12
theorem mX12_deal {l : Launch} {G : ux_G} (hok : ux_ok G shM) {v1 : Int32}  {N : ux_N} {L : ux_L} {o : Int32 × ux_N × ux_L} (h : fX12_deal v1 N L = some o) : ux_Mi l G yX12_deal cX12_deal 7 (some .int) 8 184 [.ref (gad G 0), .int v1] N L o.1 o.2.1 o.2.2 :=
  ux_ofi shM hok (by decide +kernel) (Nat.le_of_ble_eq_true rfl) (fun X hG hl C hq => by subst hG; subst hl; exact wX12_deal C  hq h)
def fX12_lost_48 (s0 : Int32) (N : ux_N) (L : ux_L) : Option (Int32 × ux_L) :=
  some (s0, L)
set_option maxHeartbeats 4000000 in
set_option maxRecDepth 20000 in
theorem wX12_lost_48 {X : ux_X} (C : ux_C X cX12_lost RX12 2 (some .int) 7 160 shM) {s0 : Int32}  {N : ux_N} {L : ux_L} {o : Int32 × ux_L} (hq : ux_Qi X o.1 N o.2) (h : fX12_lost_48 s0 N L = some o) : ux_Wt X 2 48 [] [.int s0] N L := by
  cases h
  exact wt_iret C hq dX12_lost_48
def fX12_lost (v1 : Int32) (N : ux_N) (L : ux_L) : Option (Int32 × ux_L) :=
  (fX12_isLine v1 N).bind (fun o1 => if o1 = 0 then (some ((-2 : Int32), L)) else ((fX12_has (N 1 2) v1).bind (fun o4 => if o4 = 0 then ((fX12_rank N L).bind (fun o7 => (fX12_layTried ((N 1 2) ||| ((1 : Int32) <<< (v1 &&& 31))) N o7.2).bind (fun o9 => fX12_lost_48 (o7.1 - o9.1) N o9.2))) else (fX12_lost_48 (-4 : Int32) N L))))
set_option maxHeartbeats 4000000 in
set_option maxRecDepth 20000 in
theorem wX12_lost {X : ux_X} (C : ux_C X cX12_lost RX12 2 (some .int) 7 160 shM) {v1 : Int32}  {N : ux_N} {L : ux_L} {o : Int32 × ux_L} (hq : ux_Qi X o.1 N o.2) (h : fX12_lost v1 N L = some o) : ux_Wt X 2 0 [(0, .ref (ux_ad X 0)), (1, .int v1)] [] N L := by
  refine wt_aload_n 1 0 C dX12_lost_0 rfl rfl ?_
  refine wt_iload_n 2 1 C dX12_lost_1 rfl rfl ?_
  obtain ⟨o1, hc2, h⟩ := Option.bind_eq_some_iff.mp h
  refine wt_callVi 5 [] C kvX12_236 sm_0 (mX12_isLine (cx_ok C)  hc2) rfl rfl ⟨Nat.le_of_ble_eq_true rfl, Nat.le_of_ble_eq_true rfl⟩ (Nat.le_of_ble_eq_true rfl) dX12_lost_2 rfl ?_
  refine wt_if_ne 8 11 C dX12_lost_5 rfl (by decide) (fun q3 => ?_) (fun q3 => ?_)
  · have h := (if_neg q3).symm.trans h
    refine wt_aload_n 12 0 C dX12_lost_11 rfl rfl ?_
    refine wt_getR 15 C kfX12_7 sm_0 rfl dX12_lost_12 rfl ?_
    refine wt_iconst 16 2 C dX12_lost_15 rfl (by decide) ?_
    refine wt_iald 17 2 C sm_1 (by decide) (by decide) dX12_lost_16 rfl ?_
    refine wt_iload_n 18 1 C dX12_lost_17 rfl rfl ?_
    obtain ⟨o4, hc5, h⟩ := Option.bind_eq_some_iff.mp h
    refine wt_callSi 21 [] C ksX12_179 (mX12_has (cx_ok C)  hc5) rfl rfl ⟨Nat.le_of_ble_eq_true rfl, Nat.le_of_ble_eq_true rfl⟩ (Nat.le_of_ble_eq_true rfl) dX12_lost_18 rfl ?_
    refine wt_if_eq 24 29 C dX12_lost_21 rfl (by decide) (fun q6 => ?_) (fun q6 => ?_)
    · have h := (if_pos q6).symm.trans h
      refine wt_aload_n 30 0 C dX12_lost_29 rfl rfl ?_
      obtain ⟨o7, hc8, h⟩ := Option.bind_eq_some_iff.mp h
      refine wt_callVi 33 [] C kvX12_223 sm_0 (mX12_rank (cx_ok C)  hc8) rfl rfl ⟨Nat.le_of_ble_eq_true rfl, Nat.le_of_ble_eq_true rfl⟩ (Nat.le_of_ble_eq_true rfl) dX12_lost_30 rfl ?_
      refine wt_aload_n 34 0 C dX12_lost_33 rfl rfl ?_
      refine wt_aload_n 35 0 C dX12_lost_34 rfl rfl ?_
      refine wt_getR 38 C kfX12_7 sm_0 rfl dX12_lost_35 rfl ?_
      refine wt_iconst 39 2 C dX12_lost_38 rfl (by decide) ?_
      refine wt_iald 40 2 C sm_1 (by decide) (by decide) dX12_lost_39 rfl ?_
      refine wt_iconst 41 1 C dX12_lost_40 rfl (by decide) ?_
      refine wt_iload_n 42 1 C dX12_lost_41 rfl rfl ?_
      refine wt_ishl 43 C dX12_lost_42 rfl ?_
      refine wt_ior 44 C dX12_lost_43 rfl ?_
      obtain ⟨o9, hc10, h⟩ := Option.bind_eq_some_iff.mp h
      refine wt_callVi 47 [.int o7.1] C kvX12_220 sm_0 (mX12_layTried (cx_ok C)  hc10) rfl rfl ⟨Nat.le_of_ble_eq_true rfl, Nat.le_of_ble_eq_true rfl⟩ (Nat.le_of_ble_eq_true rfl) dX12_lost_44 rfl ?_
      refine wt_isub 48 C dX12_lost_47 rfl ?_
      refine wt_sub [] rfl ?_
      exact wX12_lost_48 C hq h
    · have h := (if_neg q6).symm.trans h
      refine wt_bipush 26 (-4) C dX12_lost_24 rfl (by decide) ?_
      refine wt_goto 48 C dX12_lost_26 (by decide) ?_
      refine wt_sub [] rfl ?_
      exact wX12_lost_48 C hq h
  · have h := (if_pos q3).symm.trans h
    refine wt_bipush 10 (-2) C dX12_lost_8 rfl (by decide) ?_
    cases h
    exact wt_iret C hq dX12_lost_10
theorem mX12_lost {l : Launch} {G : ux_G} (hok : ux_ok G shM) {v1 : Int32}  {N : ux_N} {L : ux_L} {o : Int32 × ux_L} (h : fX12_lost v1 N L = some o) : ux_Mi l G yX12_lost cX12_lost 2 (some .int) 7 160 [.ref (gad G 0), .int v1] N L o.1 N o.2 :=
  ux_ofi shM hok (by decide +kernel) (Nat.le_of_ble_eq_true rfl) (fun X hG hl C hq => by subst hG; subst hl; exact wX12_lost C  hq h)
def fX12_brings_37 (s0 : Int32) (N : ux_N) (L : ux_L) : Option (Int32 × ux_L) :=
  some (s0, L)
set_option maxHeartbeats 4000000 in
set_option maxRecDepth 20000 in
theorem wX12_brings_37 {X : ux_X} (C : ux_C X cX12_brings RX12 3 (some .int) 8 183 shM) {s0 : Int32}  {N : ux_N} {L : ux_L} {o : Int32 × ux_L} (hq : ux_Qi X o.1 N o.2) (h : fX12_brings_37 s0 N L = some o) : ux_Wt X 3 37 [] [.int s0] N L := by
  cases h
  exact wt_iret C hq dX12_brings_37
def fX12_brings (v1 : Int32) (v2 : Int32) (N : ux_N) (L : ux_L) : Option (Int32 × ux_L) :=
  (fX12_in (v1.toInt64) (0 : Int64) (4 : Int64)).bind (fun o1 => if o1 = 0 then (fX12_brings_37 (-3 : Int32) N L) else ((fX12_isThere v1 v2 N).bind (fun o4 => if o4 = 0 then (fX12_brings_37 (-2 : Int32) N L) else ((fX12_bringsOf v1 v2 N L).bind (fun o7 => fX12_brings_37 o7.1 N o7.2)))))
set_option maxHeartbeats 4000000 in
set_option maxRecDepth 20000 in
theorem wX12_brings {X : ux_X} (C : ux_C X cX12_brings RX12 3 (some .int) 8 183 shM) {v1 : Int32} {v2 : Int32}  {N : ux_N} {L : ux_L} {o : Int32 × ux_L} (hq : ux_Qi X o.1 N o.2) (h : fX12_brings v1 v2 N L = some o) : ux_Wt X 3 0 [(0, .ref (ux_ad X 0)), (1, .int v1), (2, .int v2)] [] N L := by
  refine wt_iload_n 1 1 C dX12_brings_0 rfl rfl ?_
  refine wt_i2l 2 C dX12_brings_1 rfl ?_
  refine wt_lconst 3 0 C dX12_brings_2 rfl (by decide) ?_
  refine wt_ldc2 6 C tw_1316 dX12_brings_3 rfl ?_
  obtain ⟨o1, hc2, h⟩ := Option.bind_eq_some_iff.mp h
  refine wt_callSi 9 [] C ksX12_94 (mX12_in (cx_ok C)  hc2) rfl rfl ⟨Nat.le_of_ble_eq_true rfl, Nat.le_of_ble_eq_true rfl⟩ (Nat.le_of_ble_eq_true rfl) dX12_brings_6 rfl ?_
  refine wt_if_ne 12 17 C dX12_brings_9 rfl (by decide) (fun q3 => ?_) (fun q3 => ?_)
  · have h := (if_neg q3).symm.trans h
    refine wt_aload_n 18 0 C dX12_brings_17 rfl rfl ?_
    refine wt_iload_n 19 1 C dX12_brings_18 rfl rfl ?_
    refine wt_iload_n 20 2 C dX12_brings_19 rfl rfl ?_
    obtain ⟨o4, hc5, h⟩ := Option.bind_eq_some_iff.mp h
    refine wt_callVi 23 [] C kvX12_261 sm_0 (mX12_isThere (cx_ok C)  hc5) rfl rfl ⟨Nat.le_of_ble_eq_true rfl, Nat.le_of_ble_eq_true rfl⟩ (Nat.le_of_ble_eq_true rfl) dX12_brings_20 rfl ?_
    refine wt_if_eq 26 35 C dX12_brings_23 rfl (by decide) (fun q6 => ?_) (fun q6 => ?_)
    · have h := (if_pos q6).symm.trans h
      refine wt_bipush 37 (-2) C dX12_brings_35 rfl (by decide) ?_
      refine wt_sub [] rfl ?_
      exact wX12_brings_37 C hq h
    · have h := (if_neg q6).symm.trans h
      refine wt_aload_n 27 0 C dX12_brings_26 rfl rfl ?_
      refine wt_iload_n 28 1 C dX12_brings_27 rfl rfl ?_
      refine wt_iload_n 29 2 C dX12_brings_28 rfl rfl ?_
      obtain ⟨o7, hc8, h⟩ := Option.bind_eq_some_iff.mp h
      refine wt_callVi 32 [] C kvX12_256 sm_0 (mX12_bringsOf (cx_ok C)  hc8) rfl rfl ⟨Nat.le_of_ble_eq_true rfl, Nat.le_of_ble_eq_true rfl⟩ (Nat.le_of_ble_eq_true rfl) dX12_brings_29 rfl ?_
      refine wt_goto 37 C dX12_brings_32 (by decide) ?_
      refine wt_sub [] rfl ?_
      exact wX12_brings_37 C hq h
  · have h := (if_pos q3).symm.trans h
    refine wt_bipush 14 (-3) C dX12_brings_12 rfl (by decide) ?_
    refine wt_goto 37 C dX12_brings_14 (by decide) ?_
    refine wt_sub [] rfl ?_
    exact wX12_brings_37 C hq h
theorem mX12_brings {l : Launch} {G : ux_G} (hok : ux_ok G shM) {v1 : Int32} {v2 : Int32}  {N : ux_N} {L : ux_L} {o : Int32 × ux_L} (h : fX12_brings v1 v2 N L = some o) : ux_Mi l G yX12_brings cX12_brings 3 (some .int) 8 183 [.ref (gad G 0), .int v1, .int v2] N L o.1 N o.2 :=
  ux_ofi shM hok (by decide +kernel) (Nat.le_of_ble_eq_true rfl) (fun X hG hl C hq => by subst hG; subst hl; exact wX12_brings C  hq h)
def fX12_seen_24 (N : ux_N) : Option (Int32 × ux_N) :=
  some ((-3 : Int32), N)
set_option maxHeartbeats 4000000 in
set_option maxRecDepth 20000 in
theorem wX12_seen_24 {X : ux_X} (C : ux_C X cX12_seen RX12 3 (some .int) 1 25 shM)   {N : ux_N} {L : ux_L} {o : Int32 × ux_N} (hq : ux_Qi X o.1 o.2 L) (h : fX12_seen_24 N = some o) : ux_Wt X 3 24 [] [] N L := by
  refine wt_bipush 26 (-3) C dX12_seen_24 rfl (by decide) ?_
  cases h
  exact wt_iret C hq dX12_seen_26
def fX12_seen_69 (N : ux_N) : Option (Int32 × ux_N) :=
  some ((N 0 12), N)
set_option maxHeartbeats 4000000 in
set_option maxRecDepth 20000 in
theorem wX12_seen_69 {X : ux_X} (C : ux_C X cX12_seen RX12 3 (some .int) 1 25 shM)   {N : ux_N} {L : ux_L} {o : Int32 × ux_N} (hq : ux_Qi X o.1 o.2 L) (h : fX12_seen_69 N = some o) : ux_Wt X 3 69 [(0, .ref (ux_ad X 0))] [] N L := by
  refine wt_aload_n 70 0 C dX12_seen_69 rfl rfl ?_
  refine wt_getI 73 C kfX12_283 sm_0 rfl dX12_seen_70 rfl ?_
  cases h
  exact wt_iret C hq dX12_seen_73
def fX12_seen (v1 : Int32) (v2 : Int32) (N : ux_N) : Option (Int32 × ux_N) :=
  (fX12_in (v1.toInt64) (0 : Int64) (9 : Int64)).bind (fun o1 => if o1 = 0 then (fX12_seen_24 N) else ((fX12_in (v2.toInt64) (0 : Int64) (1023 : Int64)).bind (fun o4 => if o4 = 0 then (fX12_seen_24 N) else (if (N 0 12) = (6 : Int32) then (some ((-5 : Int32), N)) else (if ux_in (N 0 12) 6 then (if ux_in ((ux_u N 6 ((N 0 12).toNatClampNeg) v1) 0 12) 6 then (fX12_seen_69 (ux_u (ux_u (ux_u N 6 ((N 0 12).toNatClampNeg) v1) 7 (((ux_u N 6 ((N 0 12).toNatClampNeg) v1) 0 12).toNatClampNeg) v2) 0 12 (((ux_u (ux_u N 6 ((N 0 12).toNatClampNeg) v1) 7 (((ux_u N 6 ((N 0 12).toNatClampNeg) v1) 0 12).toNatClampNeg) v2) 0 12) + (1 : Int32)))) else none) else none)))))
set_option maxHeartbeats 4000000 in
set_option maxRecDepth 20000 in
theorem wX12_seen {X : ux_X} (C : ux_C X cX12_seen RX12 3 (some .int) 1 25 shM) {v1 : Int32} {v2 : Int32}  {N : ux_N} {L : ux_L} {o : Int32 × ux_N} (hq : ux_Qi X o.1 o.2 L) (h : fX12_seen v1 v2 N = some o) : ux_Wt X 3 0 [(0, .ref (ux_ad X 0)), (1, .int v1), (2, .int v2)] [] N L := by
  refine wt_iload_n 1 1 C dX12_seen_0 rfl rfl ?_
  refine wt_i2l 2 C dX12_seen_1 rfl ?_
  refine wt_lconst 3 0 C dX12_seen_2 rfl (by decide) ?_
  refine wt_ldc2 6 C tw_1393 dX12_seen_3 rfl ?_
  obtain ⟨o1, hc2, h⟩ := Option.bind_eq_some_iff.mp h
  refine wt_callSi 9 [] C ksX12_94 (mX12_in (cx_ok C)  hc2) rfl rfl ⟨Nat.le_of_ble_eq_true rfl, Nat.le_of_ble_eq_true rfl⟩ (Nat.le_of_ble_eq_true rfl) dX12_seen_6 rfl ?_
  refine wt_if_eq 12 24 C dX12_seen_9 rfl (by decide) (fun q3 => ?_) (fun q3 => ?_)
  · have h := (if_pos q3).symm.trans h
    refine wt_sub [] rfl ?_
    exact wX12_seen_24 C hq h
  · have h := (if_neg q3).symm.trans h
    refine wt_iload_n 13 2 C dX12_seen_12 rfl rfl ?_
    refine wt_i2l 14 C dX12_seen_13 rfl ?_
    refine wt_lconst 15 0 C dX12_seen_14 rfl (by decide) ?_
    refine wt_ldc2 18 C tw_1394 dX12_seen_15 rfl ?_
    obtain ⟨o4, hc5, h⟩ := Option.bind_eq_some_iff.mp h
    refine wt_callSi 21 [] C ksX12_94 (mX12_in (cx_ok C)  hc5) rfl rfl ⟨Nat.le_of_ble_eq_true rfl, Nat.le_of_ble_eq_true rfl⟩ (Nat.le_of_ble_eq_true rfl) dX12_seen_18 rfl ?_
    refine wt_if_ne 24 27 C dX12_seen_21 rfl (by decide) (fun q6 => ?_) (fun q6 => ?_)
    · have h := (if_neg q6).symm.trans h
      refine wt_aload_n 28 0 C dX12_seen_27 rfl rfl ?_
      refine wt_getI 31 C kfX12_283 sm_0 rfl dX12_seen_28 rfl ?_
      refine wt_bipush 33 6 C dX12_seen_31 rfl (by decide) ?_
      refine wt_icmp_ne 36 39 C dX12_seen_33 rfl (by decide) (fun q7 => ?_) (fun q7 => ?_)
      · have h := (if_neg q7).symm.trans h
        refine wt_aload_n 40 0 C dX12_seen_39 rfl rfl ?_
        refine wt_getR 43 C kfX12_26 sm_0 rfl dX12_seen_40 rfl ?_
        refine wt_aload_n 44 0 C dX12_seen_43 rfl rfl ?_
        refine wt_getI 47 C kfX12_283 sm_0 rfl dX12_seen_44 rfl ?_
        refine wt_iload_n 48 1 C dX12_seen_47 rfl rfl ?_
        obtain ⟨hi8, h⟩ := ux_guard h
        refine wt_iast 49 ((N 0 12).toNatClampNeg) C sm_6 rfl hi8 dX12_seen_48 rfl ?_
        refine wt_aload_n 50 0 C dX12_seen_49 rfl rfl ?_
        refine wt_getR 53 C kfX12_29 sm_0 rfl dX12_seen_50 rfl ?_
        refine wt_aload_n 54 0 C dX12_seen_53 rfl rfl ?_
        refine wt_getI 57 C kfX12_283 sm_0 rfl dX12_seen_54 rfl ?_
        refine wt_iload_n 58 2 C dX12_seen_57 rfl rfl ?_
        obtain ⟨hi9, h⟩ := ux_guard h
        refine wt_iast 59 (((ux_u N 6 ((N 0 12).toNatClampNeg) v1) 0 12).toNatClampNeg) C sm_7 rfl hi9 dX12_seen_58 rfl ?_
        refine wt_aload_n 60 0 C dX12_seen_59 rfl rfl ?_
        refine wt_dup 61 C dX12_seen_60 rfl rfl ?_
        refine wt_getI 64 C kfX12_283 sm_0 rfl dX12_seen_61 rfl ?_
        refine wt_iconst 65 1 C dX12_seen_64 rfl (by decide) ?_
        refine wt_iadd 66 C dX12_seen_65 rfl ?_
        refine wt_putI 69 C kpX12_283 sm_0 rfl rfl rfl dX12_seen_66 rfl ?_
        refine wt_sub [0] rfl ?_
        exact wX12_seen_69 C hq h
      · have h := (if_pos q7).symm.trans h
        refine wt_bipush 38 (-5) C dX12_seen_36 rfl (by decide) ?_
        cases h
        exact wt_iret C hq dX12_seen_38
    · have h := (if_pos q6).symm.trans h
      refine wt_sub [] rfl ?_
      exact wX12_seen_24 C hq h
theorem mX12_seen {l : Launch} {G : ux_G} (hok : ux_ok G shM) {v1 : Int32} {v2 : Int32}  {N : ux_N} {L : ux_L} {o : Int32 × ux_N} (h : fX12_seen v1 v2 N = some o) : ux_Mi l G yX12_seen cX12_seen 3 (some .int) 1 25 [.ref (gad G 0), .int v1, .int v2] N L o.1 o.2 L :=
  ux_ofi shM hok (by decide +kernel) (Nat.le_of_ble_eq_true rfl) (fun X hG hl C hq => by subst hG; subst hl; exact wX12_seen C  hq h)
def fX12_forget (N : ux_N) : Option (Int32 × ux_N) :=
  some ((N 0 12), (ux_u N 0 12 (0 : Int32)))
set_option maxHeartbeats 4000000 in
set_option maxRecDepth 20000 in
theorem wX12_forget {X : ux_X} (C : ux_C X cX12_forget RX12 2 (some .int) 0 0 shM)   {N : ux_N} {L : ux_L} {o : Int32 × ux_N} (hq : ux_Qi X o.1 o.2 L) (h : fX12_forget N = some o) : ux_Wt X 2 0 [(0, .ref (ux_ad X 0))] [] N L := by
  refine wt_aload_n 1 0 C dX12_forget_0 rfl rfl ?_
  refine wt_getI 4 C kfX12_283 sm_0 rfl dX12_forget_1 rfl ?_
  refine wt_istore_n 5 [(1, .int (N 0 12)), (0, .ref (ux_ad X 0))] C dX12_forget_4 rfl (by decide) rfl ?_
  refine wt_aload_n 6 1 C dX12_forget_5 rfl rfl ?_
  refine wt_iconst 7 0 C dX12_forget_6 rfl (by decide) ?_
  refine wt_putI 10 C kpX12_283 sm_0 rfl rfl rfl dX12_forget_7 rfl ?_
  refine wt_iload_n 11 0 C dX12_forget_10 rfl rfl ?_
  cases h
  exact wt_iret C hq dX12_forget_11
theorem mX12_forget {l : Launch} {G : ux_G} (hok : ux_ok G shM)   {N : ux_N} {L : ux_L} {o : Int32 × ux_N} (h : fX12_forget N = some o) : ux_Mi l G yX12_forget cX12_forget 2 (some .int) 0 0 [.ref (gad G 0)] N L o.1 o.2 L :=
  ux_ofi shM hok (by decide +kernel) (Nat.le_of_ble_eq_true rfl) (fun X hG hl C hq => by subst hG; subst hl; exact wX12_forget C  hq h)
def fX12_fit_14b_75 (v1 : Int32) (v2 : Int32) (v4 : Int32) (s0 : Int32) (N : ux_N) : Option ((Int32 × Int32) ⊕ (Int32)) :=
  some (.inl (s0, (v4 + 1)))
set_option maxHeartbeats 4000000 in
set_option maxRecDepth 20000 in
theorem wX12_fit_14b_75 {X : ux_X} (C : ux_C X cX12_fit RX12 5 (some .int) 4 95 shM) {v1 : Int32} {v2 : Int32} {v4 : Int32} {s0 : Int32}  {N : ux_N} {L : ux_L} {o : (Int32 × Int32) ⊕ (Int32)} (hin : ∀ s : Int32 × Int32, o = .inl s → ux_Wt X 5 14 [(0, .ref (ux_ad X 0)), (1, .int v1), (2, .int v2), (3, .int s.1), (4, .int s.2)] [] N L) (hex0 : ∀ e : Int32, o = .inr (e) → ux_Wt X 5 82 [(0, .ref (ux_ad X 0)), (1, .int v1), (2, .int v2), (3, .int e)] [] N L) (h : fX12_fit_14b_75 v1 v2 v4 s0 N = some o) : ux_Wt X 5 75 [(0, .ref (ux_ad X 0)), (1, .int v1), (2, .int v2), (4, .int v4)] [.int s0] N L := by
  refine wt_istore_n 76 [(3, .int s0), (0, .ref (ux_ad X 0)), (1, .int v1), (2, .int v2), (4, .int v4)] C dX12_fit_75 rfl (by decide) rfl ?_
  refine wt_iinc 79 4 [(4, .int (v4 + 1)), (3, .int s0), (0, .ref (ux_ad X 0)), (1, .int v1), (2, .int v2)] (v4 + 1) C dX12_fit_76 rfl rfl (by rfl) (by decide) rfl ?_
  refine wt_goto 14 C dX12_fit_79 (by decide) ?_
  refine wt_sub [2, 3, 4, 1, 0] rfl ?_
  exact hin _ (Option.some.inj h).symm
def fX12_fit_14b_74 (v1 : Int32) (v2 : Int32) (v4 : Int32) (N : ux_N) : Option ((Int32 × Int32) ⊕ (Int32)) :=
  fX12_fit_14b_75 v1 v2 v4 (0 : Int32) N
set_option maxHeartbeats 4000000 in
set_option maxRecDepth 20000 in
theorem wX12_fit_14b_74 {X : ux_X} (C : ux_C X cX12_fit RX12 5 (some .int) 4 95 shM) {v1 : Int32} {v2 : Int32} {v4 : Int32}  {N : ux_N} {L : ux_L} {o : (Int32 × Int32) ⊕ (Int32)} (hin : ∀ s : Int32 × Int32, o = .inl s → ux_Wt X 5 14 [(0, .ref (ux_ad X 0)), (1, .int v1), (2, .int v2), (3, .int s.1), (4, .int s.2)] [] N L) (hex0 : ∀ e : Int32, o = .inr (e) → ux_Wt X 5 82 [(0, .ref (ux_ad X 0)), (1, .int v1), (2, .int v2), (3, .int e)] [] N L) (h : fX12_fit_14b_74 v1 v2 v4 N = some o) : ux_Wt X 5 74 [(0, .ref (ux_ad X 0)), (1, .int v1), (2, .int v2), (4, .int v4)] [] N L := by
  refine wt_iconst 75 0 C dX12_fit_74 rfl (by decide) ?_
  exact wX12_fit_14b_75 C hin hex0 h
def fX12_fit_14b (v1 : Int32) (v2 : Int32) (v3 : Int32) (v4 : Int32) (N : ux_N) : Option ((Int32 × Int32) ⊕ (Int32)) :=
  if (N 0 12) ≤ v4 then (some (.inr (v3))) else (if v3 = 0 then (fX12_fit_14b_74 v1 v2 v4 N) else (if ux_in v4 6 then ((fX12_isThere v2 (N 6 (v4.toNatClampNeg)) N).bind (fun o4 => if o4 = 0 then (fX12_fit_14b_74 v1 v2 v4 N) else (if ux_in v4 6 then ((fX12_mayServe v2 (N 6 (v4.toNatClampNeg)) (N 1 2) N).bind (fun o8 => if ux_in v4 6 then (if o8 = (N 7 (v4.toNatClampNeg)) then (fX12_fit_14b_75 v1 v2 v4 (1 : Int32) N) else (fX12_fit_14b_74 v1 v2 v4 N)) else none)) else none))) else none))
set_option maxHeartbeats 4000000 in
set_option maxRecDepth 20000 in
theorem wX12_fit_14b {X : ux_X} (C : ux_C X cX12_fit RX12 5 (some .int) 4 95 shM) {v1 : Int32} {v2 : Int32} {v3 : Int32} {v4 : Int32}  {N : ux_N} {L : ux_L} {o : (Int32 × Int32) ⊕ (Int32)} (hin : ∀ s : Int32 × Int32, o = .inl s → ux_Wt X 5 14 [(0, .ref (ux_ad X 0)), (1, .int v1), (2, .int v2), (3, .int s.1), (4, .int s.2)] [] N L) (hex0 : ∀ e : Int32, o = .inr (e) → ux_Wt X 5 82 [(0, .ref (ux_ad X 0)), (1, .int v1), (2, .int v2), (3, .int e)] [] N L) (h : fX12_fit_14b v1 v2 v3 v4 N = some o) : ux_Wt X 5 14 [(0, .ref (ux_ad X 0)), (1, .int v1), (2, .int v2), (3, .int v3), (4, .int v4)] [] N L := by
  refine wt_iload 16 4 C dX12_fit_14 rfl rfl ?_
  refine wt_aload_n 17 0 C dX12_fit_16 rfl rfl ?_
  refine wt_getI 20 C kfX12_283 sm_0 rfl dX12_fit_17 rfl ?_
  refine wt_icmp_ge 23 82 C dX12_fit_20 rfl (by decide) (fun q1 => ?_) (fun q1 => ?_)
  · have h := (if_pos q1).symm.trans h
    refine wt_sub [0, 1, 2, 3] rfl ?_
    exact hex0 _ (Option.some.inj h).symm
  · have h := (if_neg q1).symm.trans h
    refine wt_iload_n 24 3 C dX12_fit_23 rfl rfl ?_
    refine wt_if_eq 27 74 C dX12_fit_24 rfl (by decide) (fun q2 => ?_) (fun q2 => ?_)
    · have h := (if_pos q2).symm.trans h
      refine wt_sub [0, 1, 2, 4] rfl ?_
      exact wX12_fit_14b_74 C hin hex0 h
    · have h := (if_neg q2).symm.trans h
      refine wt_aload_n 28 0 C dX12_fit_27 rfl rfl ?_
      refine wt_iload_n 29 2 C dX12_fit_28 rfl rfl ?_
      refine wt_aload_n 30 0 C dX12_fit_29 rfl rfl ?_
      refine wt_getR 33 C kfX12_26 sm_0 rfl dX12_fit_30 rfl ?_
      refine wt_iload 35 4 C dX12_fit_33 rfl rfl ?_
      obtain ⟨hi3, h⟩ := ux_guard h
      refine wt_iald 36 (v4.toNatClampNeg) C sm_6 rfl hi3 dX12_fit_35 rfl ?_
      obtain ⟨o4, hc5, h⟩ := Option.bind_eq_some_iff.mp h
      refine wt_callVi 39 [] C kvX12_261 sm_0 (mX12_isThere (cx_ok C)  hc5) rfl rfl ⟨Nat.le_of_ble_eq_true rfl, Nat.le_of_ble_eq_true rfl⟩ (Nat.le_of_ble_eq_true rfl) dX12_fit_36 rfl ?_
      refine wt_if_eq 42 74 C dX12_fit_39 rfl (by decide) (fun q6 => ?_) (fun q6 => ?_)
      · have h := (if_pos q6).symm.trans h
        refine wt_sub [0, 1, 2, 4] rfl ?_
        exact wX12_fit_14b_74 C hin hex0 h
      · have h := (if_neg q6).symm.trans h
        refine wt_aload_n 43 0 C dX12_fit_42 rfl rfl ?_
        refine wt_iload_n 44 2 C dX12_fit_43 rfl rfl ?_
        refine wt_aload_n 45 0 C dX12_fit_44 rfl rfl ?_
        refine wt_getR 48 C kfX12_26 sm_0 rfl dX12_fit_45 rfl ?_
        refine wt_iload 50 4 C dX12_fit_48 rfl rfl ?_
        obtain ⟨hi7, h⟩ := ux_guard h
        refine wt_iald 51 (v4.toNatClampNeg) C sm_6 rfl hi7 dX12_fit_50 rfl ?_
        refine wt_aload_n 52 0 C dX12_fit_51 rfl rfl ?_
        refine wt_getR 55 C kfX12_7 sm_0 rfl dX12_fit_52 rfl ?_
        refine wt_iconst 56 2 C dX12_fit_55 rfl (by decide) ?_
        refine wt_iald 57 2 C sm_1 (by decide) (by decide) dX12_fit_56 rfl ?_
        obtain ⟨o8, hc9, h⟩ := Option.bind_eq_some_iff.mp h
        refine wt_callVi 60 [] C kvX12_203 sm_0 (mX12_mayServe (cx_ok C)  hc9) rfl rfl ⟨Nat.le_of_ble_eq_true rfl, Nat.le_of_ble_eq_true rfl⟩ (Nat.le_of_ble_eq_true rfl) dX12_fit_57 rfl ?_
        refine wt_aload_n 61 0 C dX12_fit_60 rfl rfl ?_
        refine wt_getR 64 C kfX12_29 sm_0 rfl dX12_fit_61 rfl ?_
        refine wt_iload 66 4 C dX12_fit_64 rfl rfl ?_
        obtain ⟨hi10, h⟩ := ux_guard h
        refine wt_iald 67 (v4.toNatClampNeg) C sm_7 rfl hi10 dX12_fit_66 rfl ?_
        refine wt_icmp_ne 70 74 C dX12_fit_67 rfl (by decide) (fun q11 => ?_) (fun q11 => ?_)
        · have h := (if_neg q11).symm.trans h
          refine wt_sub [0, 1, 2, 4] rfl ?_
          exact wX12_fit_14b_74 C hin hex0 h
        · have h := (if_pos q11).symm.trans h
          refine wt_iconst 71 1 C dX12_fit_70 rfl (by decide) ?_
          refine wt_goto 75 C dX12_fit_71 (by decide) ?_
          refine wt_sub [0, 1, 2, 4] rfl ?_
          exact wX12_fit_14b_75 C hin hex0 h
def fX12_fit_4b_94 (v2 : Int32) (s0 : Int32) (s1 : Int32) (N : ux_N) : Option ((Int32 × Int32) ⊕ (Int32)) :=
  some (.inl ((s1 ||| s0), (v2 + 1)))
set_option maxHeartbeats 4000000 in
set_option maxRecDepth 20000 in
theorem wX12_fit_4b_94 {X : ux_X} (C : ux_C X cX12_fit RX12 5 (some .int) 4 95 shM) {v2 : Int32} {s0 : Int32} {s1 : Int32}  {N : ux_N} {L : ux_L} {o : (Int32 × Int32) ⊕ (Int32)} (hin : ∀ s : Int32 × Int32, o = .inl s → ux_Wt X 5 4 [(0, .ref (ux_ad X 0)), (1, .int s.1), (2, .int s.2)] [] N L) (hex0 : ∀ e : Int32, o = .inr (e) → ux_Wt X 5 102 [(1, .int e)] [] N L) (h : fX12_fit_4b_94 v2 s0 s1 N = some o) : ux_Wt X 5 94 [(0, .ref (ux_ad X 0)), (2, .int v2)] [.int s0, .int s1] N L := by
  refine wt_ior 95 C dX12_fit_94 rfl ?_
  refine wt_istore_n 96 [(1, .int (s1 ||| s0)), (0, .ref (ux_ad X 0)), (2, .int v2)] C dX12_fit_95 rfl (by decide) rfl ?_
  refine wt_iinc 99 2 [(2, .int (v2 + 1)), (1, .int (s1 ||| s0)), (0, .ref (ux_ad X 0))] (v2 + 1) C dX12_fit_96 rfl rfl (by rfl) (by decide) rfl ?_
  refine wt_goto 4 C dX12_fit_99 (by decide) ?_
  refine wt_sub [2, 1, 0] rfl ?_
  exact hin _ (Option.some.inj h).symm
def fX12_fit_4b (v1 : Int32) (v2 : Int32) (N : ux_N) : Option ((Int32 × Int32) ⊕ (Int32)) :=
  if (5 : Int32) ≤ v2 then (some (.inr (v1))) else ((ux_lp (fun s : Int32 × Int32 => fX12_fit_14b v1 v2 s.1 s.2 N) ux_fu ((1 : Int32), (0 : Int32))).bind (fun e9 => if e9 = 0 then (fX12_fit_4b_94 v2 (0 : Int32) v1 N) else (fX12_fit_4b_94 v2 ((1 : Int32) <<< (v2 &&& 31)) v1 N)))
set_option maxHeartbeats 4000000 in
set_option maxRecDepth 20000 in
theorem wX12_fit_4b {X : ux_X} (C : ux_C X cX12_fit RX12 5 (some .int) 4 95 shM) {v1 : Int32} {v2 : Int32}  {N : ux_N} {L : ux_L} {o : (Int32 × Int32) ⊕ (Int32)} (hin : ∀ s : Int32 × Int32, o = .inl s → ux_Wt X 5 4 [(0, .ref (ux_ad X 0)), (1, .int s.1), (2, .int s.2)] [] N L) (hex0 : ∀ e : Int32, o = .inr (e) → ux_Wt X 5 102 [(1, .int e)] [] N L) (h : fX12_fit_4b v1 v2 N = some o) : ux_Wt X 5 4 [(0, .ref (ux_ad X 0)), (1, .int v1), (2, .int v2)] [] N L := by
  refine wt_iload_n 5 2 C dX12_fit_4 rfl rfl ?_
  refine wt_iconst 6 5 C dX12_fit_5 rfl (by decide) ?_
  refine wt_icmp_ge 9 102 C dX12_fit_6 rfl (by decide) (fun q1 => ?_) (fun q1 => ?_)
  · have h := (if_pos q1).symm.trans h
    refine wt_sub [1] rfl ?_
    exact hex0 _ (Option.some.inj h).symm
  · have h := (if_neg q1).symm.trans h
    refine wt_iconst 10 1 C dX12_fit_9 rfl (by decide) ?_
    refine wt_istore_n 11 [(3, .int (1 : Int32)), (0, .ref (ux_ad X 0)), (1, .int v1), (2, .int v2)] C dX12_fit_10 rfl (by decide) rfl ?_
    refine wt_iconst 12 0 C dX12_fit_11 rfl (by decide) ?_
    refine wt_istore 14 [(4, .int (0 : Int32)), (3, .int (1 : Int32)), (0, .ref (ux_ad X 0)), (1, .int v1), (2, .int v2)] C dX12_fit_12 rfl (by decide) rfl ?_
    obtain ⟨e2, hl3, h⟩ := Option.bind_eq_some_iff.mp h
    refine wt_sub [2, 3, 4, 1, 0] rfl ?_
    refine ux_loop (fun s : Int32 × Int32 => fX12_fit_14b v1 v2 s.1 s.2 N) (fun s : Int32 × Int32 => ux_Wt X 5 14 [(0, .ref (ux_ad X 0)), (1, .int v1), (2, .int v2), (3, .int s.1), (4, .int s.2)] [] N L) (e := e2) ?_ hl3
    intro s4 o5 hb6 hi7 hx8
    refine wX12_fit_14b C hi7 (fun x0 he => ?_) hb6
    · obtain ⟨e9, rfl⟩ : ∃ z, z = x0 := ⟨_, rfl⟩
      have h9 := hx8 _ he
      subst h9
      refine wt_iload_n 83 1 C dX12_fit_82 rfl rfl ?_
      refine wt_iload_n 84 3 C dX12_fit_83 rfl rfl ?_
      refine wt_if_eq 87 93 C dX12_fit_84 rfl (by decide) (fun q10 => ?_) (fun q10 => ?_)
      · have h := (if_pos q10).symm.trans h
        refine wt_iconst 94 0 C dX12_fit_93 rfl (by decide) ?_
        refine wt_sub [0, 2] rfl ?_
        exact wX12_fit_4b_94 C hin hex0 h
      · have h := (if_neg q10).symm.trans h
        refine wt_iconst 88 1 C dX12_fit_87 rfl (by decide) ?_
        refine wt_iload_n 89 2 C dX12_fit_88 rfl rfl ?_
        refine wt_ishl 90 C dX12_fit_89 rfl ?_
        refine wt_goto 94 C dX12_fit_90 (by decide) ?_
        refine wt_sub [0, 2] rfl ?_
        exact wX12_fit_4b_94 C hin hex0 h
def fX12_fit (N : ux_N) : Option (Int32) :=
  (ux_lp (fun s : Int32 × Int32 => fX12_fit_4b s.1 s.2 N) ux_fu ((0 : Int32), (0 : Int32))).bind (fun e8 => some e8)
set_option maxHeartbeats 4000000 in
set_option maxRecDepth 20000 in
theorem wX12_fit {X : ux_X} (C : ux_C X cX12_fit RX12 5 (some .int) 4 95 shM)   {N : ux_N} {L : ux_L} {o : Int32} (hq : ux_Qi X o N L) (h : fX12_fit N = some o) : ux_Wt X 5 0 [(0, .ref (ux_ad X 0))] [] N L := by
  refine wt_iconst 1 0 C dX12_fit_0 rfl (by decide) ?_
  refine wt_istore_n 2 [(1, .int (0 : Int32)), (0, .ref (ux_ad X 0))] C dX12_fit_1 rfl (by decide) rfl ?_
  refine wt_iconst 3 0 C dX12_fit_2 rfl (by decide) ?_
  refine wt_istore_n 4 [(2, .int (0 : Int32)), (1, .int (0 : Int32)), (0, .ref (ux_ad X 0))] C dX12_fit_3 rfl (by decide) rfl ?_
  obtain ⟨e1, hl2, h⟩ := Option.bind_eq_some_iff.mp h
  refine wt_sub [2, 1, 0] rfl ?_
  refine ux_loop (fun s : Int32 × Int32 => fX12_fit_4b s.1 s.2 N) (fun s : Int32 × Int32 => ux_Wt X 5 4 [(0, .ref (ux_ad X 0)), (1, .int s.1), (2, .int s.2)] [] N L) (e := e1) ?_ hl2
  intro s3 o4 hb5 hi6 hx7
  refine wX12_fit_4b C hi6 (fun x0 he => ?_) hb5
  · obtain ⟨e8, rfl⟩ : ∃ z, z = x0 := ⟨_, rfl⟩
    have h9 := hx7 _ he
    subst h9
    refine wt_iload_n 103 0 C dX12_fit_102 rfl rfl ?_
    cases h
    exact wt_iret C hq dX12_fit_103
theorem mX12_fit {l : Launch} {G : ux_G} (hok : ux_ok G shM)   {N : ux_N} {L : ux_L} {o : Int32} (h : fX12_fit N = some o) : ux_Mi l G yX12_fit cX12_fit 5 (some .int) 4 95 [.ref (gad G 0)] N L o N L :=
  ux_ofi shM hok (by decide +kernel) (Nat.le_of_ble_eq_true rfl) (fun X hG hl C hq => by subst hG; subst hl; exact wX12_fit C  hq h)
def fX12_wouldServe_25 (s0 : Int32) (N : ux_N) : Option (Int32) :=
  some s0
set_option maxHeartbeats 4000000 in
set_option maxRecDepth 20000 in
theorem wX12_wouldServe_25 {X : ux_X} (C : ux_C X cX12_wouldServe RX12 3 (some .int) 4 95 shM) {s0 : Int32}  {N : ux_N} {L : ux_L} {o : Int32} (hq : ux_Qi X o N L) (h : fX12_wouldServe_25 s0 N = some o) : ux_Wt X 3 25 [] [.int s0] N L := by
  cases h
  exact wt_iret C hq dX12_wouldServe_25
def fX12_wouldServe (v1 : Int32) (v2 : Int32) (N : ux_N) : Option (Int32) :=
  (fX12_isThere v1 v2 N).bind (fun o1 => if o1 = 0 then (fX12_wouldServe_25 (0 : Int32) N) else ((fX12_mayServe v1 v2 (N 1 2) N).bind (fun o4 => fX12_wouldServe_25 o4 N)))
set_option maxHeartbeats 4000000 in
set_option maxRecDepth 20000 in
theorem wX12_wouldServe {X : ux_X} (C : ux_C X cX12_wouldServe RX12 3 (some .int) 4 95 shM) {v1 : Int32} {v2 : Int32}  {N : ux_N} {L : ux_L} {o : Int32} (hq : ux_Qi X o N L) (h : fX12_wouldServe v1 v2 N = some o) : ux_Wt X 3 0 [(0, .ref (ux_ad X 0)), (1, .int v1), (2, .int v2)] [] N L := by
  refine wt_aload_n 1 0 C dX12_wouldServe_0 rfl rfl ?_
  refine wt_iload_n 2 1 C dX12_wouldServe_1 rfl rfl ?_
  refine wt_iload_n 3 2 C dX12_wouldServe_2 rfl rfl ?_
  obtain ⟨o1, hc2, h⟩ := Option.bind_eq_some_iff.mp h
  refine wt_callVi 6 [] C kvX12_261 sm_0 (mX12_isThere (cx_ok C)  hc2) rfl rfl ⟨Nat.le_of_ble_eq_true rfl, Nat.le_of_ble_eq_true rfl⟩ (Nat.le_of_ble_eq_true rfl) dX12_wouldServe_3 rfl ?_
  refine wt_if_eq 9 24 C dX12_wouldServe_6 rfl (by decide) (fun q3 => ?_) (fun q3 => ?_)
  · have h := (if_pos q3).symm.trans h
    refine wt_iconst 25 0 C dX12_wouldServe_24 rfl (by decide) ?_
    refine wt_sub [] rfl ?_
    exact wX12_wouldServe_25 C hq h
  · have h := (if_neg q3).symm.trans h
    refine wt_aload_n 10 0 C dX12_wouldServe_9 rfl rfl ?_
    refine wt_iload_n 11 1 C dX12_wouldServe_10 rfl rfl ?_
    refine wt_iload_n 12 2 C dX12_wouldServe_11 rfl rfl ?_
    refine wt_aload_n 13 0 C dX12_wouldServe_12 rfl rfl ?_
    refine wt_getR 16 C kfX12_7 sm_0 rfl dX12_wouldServe_13 rfl ?_
    refine wt_iconst 17 2 C dX12_wouldServe_16 rfl (by decide) ?_
    refine wt_iald 18 2 C sm_1 (by decide) (by decide) dX12_wouldServe_17 rfl ?_
    obtain ⟨o4, hc5, h⟩ := Option.bind_eq_some_iff.mp h
    refine wt_callVi 21 [] C kvX12_203 sm_0 (mX12_mayServe (cx_ok C)  hc5) rfl rfl ⟨Nat.le_of_ble_eq_true rfl, Nat.le_of_ble_eq_true rfl⟩ (Nat.le_of_ble_eq_true rfl) dX12_wouldServe_18 rfl ?_
    refine wt_goto 25 C dX12_wouldServe_21 (by decide) ?_
    refine wt_sub [] rfl ?_
    exact wX12_wouldServe_25 C hq h
theorem mX12_wouldServe {l : Launch} {G : ux_G} (hok : ux_ok G shM) {v1 : Int32} {v2 : Int32}  {N : ux_N} {L : ux_L} {o : Int32} (h : fX12_wouldServe v1 v2 N = some o) : ux_Mi l G yX12_wouldServe cX12_wouldServe 3 (some .int) 4 95 [.ref (gad G 0), .int v1, .int v2] N L o N L :=
  ux_ofi shM hok (by decide +kernel) (Nat.le_of_ble_eq_true rfl) (fun X hG hl C hq => by subst hG; subst hl; exact wX12_wouldServe C  hq h)
def fX12_ask_40b_90 (v1 : Int32) (v2 : Int32) (v3 : Int32) (v4 : Int32) (v5 : Int32) (v6 : Int32) (v8 : Int32) (s0 : Int32) (s1 : Int32) (N : ux_N) : Option ((Int32 × Int32) ⊕ (Int32)) :=
  some (.inl ((s1 + s0), (v8 + 1)))
set_option maxHeartbeats 4000000 in
set_option maxRecDepth 20000 in
theorem wX12_ask_40b_90 {X : ux_X} (C : ux_C X cX12_ask RX12 9 (some .int) 5 119 shM) {v1 : Int32} {v2 : Int32} {v3 : Int32} {v4 : Int32} {v5 : Int32} {v6 : Int32} {v8 : Int32} {s0 : Int32} {s1 : Int32}  {N : ux_N} {L : ux_L} {o : (Int32 × Int32) ⊕ (Int32)} (hin : ∀ s : Int32 × Int32, o = .inl s → ux_Wt X 9 40 [(0, .ref (ux_ad X 0)), (1, .int v1), (2, .int v2), (3, .int v3), (4, .int v4), (5, .int v5), (6, .int v6), (7, .int s.1), (8, .int s.2)] [] N L) (hex0 : ∀ e : Int32, o = .inr (e) → ux_Wt X 9 99 [(0, .ref (ux_ad X 0)), (1, .int v1), (2, .int v2), (3, .int v3), (4, .int v4), (5, .int v5), (6, .int v6), (7, .int e)] [] N L) (h : fX12_ask_40b_90 v1 v2 v3 v4 v5 v6 v8 s0 s1 N = some o) : ux_Wt X 9 90 [(0, .ref (ux_ad X 0)), (1, .int v1), (2, .int v2), (3, .int v3), (4, .int v4), (5, .int v5), (6, .int v6), (8, .int v8)] [.int s0, .int s1] N L := by
  refine wt_iadd 91 C dX12_ask_90 rfl ?_
  refine wt_istore 93 [(7, .int (s1 + s0)), (0, .ref (ux_ad X 0)), (1, .int v1), (2, .int v2), (3, .int v3), (4, .int v4), (5, .int v5), (6, .int v6), (8, .int v8)] C dX12_ask_91 rfl (by decide) rfl ?_
  refine wt_iinc 96 8 [(8, .int (v8 + 1)), (7, .int (s1 + s0)), (0, .ref (ux_ad X 0)), (1, .int v1), (2, .int v2), (3, .int v3), (4, .int v4), (5, .int v5), (6, .int v6)] (v8 + 1) C dX12_ask_93 rfl rfl (by rfl) (by decide) rfl ?_
  refine wt_goto 40 C dX12_ask_96 (by decide) ?_
  refine wt_sub [2, 3, 4, 5, 6, 7, 8, 1, 0] rfl ?_
  exact hin _ (Option.some.inj h).symm
def fX12_ask_40b_89 (v1 : Int32) (v2 : Int32) (v3 : Int32) (v4 : Int32) (v5 : Int32) (v6 : Int32) (v8 : Int32) (s0 : Int32) (N : ux_N) : Option ((Int32 × Int32) ⊕ (Int32)) :=
  fX12_ask_40b_90 v1 v2 v3 v4 v5 v6 v8 (0 : Int32) s0 N
set_option maxHeartbeats 4000000 in
set_option maxRecDepth 20000 in
theorem wX12_ask_40b_89 {X : ux_X} (C : ux_C X cX12_ask RX12 9 (some .int) 5 119 shM) {v1 : Int32} {v2 : Int32} {v3 : Int32} {v4 : Int32} {v5 : Int32} {v6 : Int32} {v8 : Int32} {s0 : Int32}  {N : ux_N} {L : ux_L} {o : (Int32 × Int32) ⊕ (Int32)} (hin : ∀ s : Int32 × Int32, o = .inl s → ux_Wt X 9 40 [(0, .ref (ux_ad X 0)), (1, .int v1), (2, .int v2), (3, .int v3), (4, .int v4), (5, .int v5), (6, .int v6), (7, .int s.1), (8, .int s.2)] [] N L) (hex0 : ∀ e : Int32, o = .inr (e) → ux_Wt X 9 99 [(0, .ref (ux_ad X 0)), (1, .int v1), (2, .int v2), (3, .int v3), (4, .int v4), (5, .int v5), (6, .int v6), (7, .int e)] [] N L) (h : fX12_ask_40b_89 v1 v2 v3 v4 v5 v6 v8 s0 N = some o) : ux_Wt X 9 89 [(0, .ref (ux_ad X 0)), (1, .int v1), (2, .int v2), (3, .int v3), (4, .int v4), (5, .int v5), (6, .int v6), (8, .int v8)] [.int s0] N L := by
  refine wt_iconst 90 0 C dX12_ask_89 rfl (by decide) ?_
  exact wX12_ask_40b_90 C hin hex0 h
def fX12_ask_40b (v1 : Int32) (v2 : Int32) (v3 : Int32) (v4 : Int32) (v5 : Int32) (v6 : Int32) (v7 : Int32) (v8 : Int32) (N : ux_N) : Option ((Int32 × Int32) ⊕ (Int32)) :=
  if (5 : Int32) ≤ v8 then (some (.inr (v7))) else ((fX12_has v1 v6).bind (fun o2 => if o2 = 0 then (fX12_ask_40b_89 v1 v2 v3 v4 v5 v6 v8 v7 N) else ((fX12_has v1 v8).bind (fun o5 => if o5 = 0 then (fX12_ask_40b_89 v1 v2 v3 v4 v5 v6 v8 v7 N) else ((fX12_wouldServe v6 v4 N).bind (fun o8 => (fX12_wouldServe v8 v4 N).bind (fun o10 => if o8 = o10 then (fX12_ask_40b_90 v1 v2 v3 v4 v5 v6 v8 (1 : Int32) v7 N) else (fX12_ask_40b_89 v1 v2 v3 v4 v5 v6 v8 v7 N))))))))
set_option maxHeartbeats 4000000 in
set_option maxRecDepth 20000 in
theorem wX12_ask_40b {X : ux_X} (C : ux_C X cX12_ask RX12 9 (some .int) 5 119 shM) {v1 : Int32} {v2 : Int32} {v3 : Int32} {v4 : Int32} {v5 : Int32} {v6 : Int32} {v7 : Int32} {v8 : Int32}  {N : ux_N} {L : ux_L} {o : (Int32 × Int32) ⊕ (Int32)} (hin : ∀ s : Int32 × Int32, o = .inl s → ux_Wt X 9 40 [(0, .ref (ux_ad X 0)), (1, .int v1), (2, .int v2), (3, .int v3), (4, .int v4), (5, .int v5), (6, .int v6), (7, .int s.1), (8, .int s.2)] [] N L) (hex0 : ∀ e : Int32, o = .inr (e) → ux_Wt X 9 99 [(0, .ref (ux_ad X 0)), (1, .int v1), (2, .int v2), (3, .int v3), (4, .int v4), (5, .int v5), (6, .int v6), (7, .int e)] [] N L) (h : fX12_ask_40b v1 v2 v3 v4 v5 v6 v7 v8 N = some o) : ux_Wt X 9 40 [(0, .ref (ux_ad X 0)), (1, .int v1), (2, .int v2), (3, .int v3), (4, .int v4), (5, .int v5), (6, .int v6), (7, .int v7), (8, .int v8)] [] N L := by
  refine wt_iload 42 8 C dX12_ask_40 rfl rfl ?_
  refine wt_iconst 43 5 C dX12_ask_42 rfl (by decide) ?_
  refine wt_icmp_ge 46 99 C dX12_ask_43 rfl (by decide) (fun q1 => ?_) (fun q1 => ?_)
  · have h := (if_pos q1).symm.trans h
    refine wt_sub [0, 1, 2, 3, 4, 5, 6, 7] rfl ?_
    exact hex0 _ (Option.some.inj h).symm
  · have h := (if_neg q1).symm.trans h
    refine wt_iload 48 7 C dX12_ask_46 rfl rfl ?_
    refine wt_iload_n 49 1 C dX12_ask_48 rfl rfl ?_
    refine wt_iload 51 6 C dX12_ask_49 rfl rfl ?_
    obtain ⟨o2, hc3, h⟩ := Option.bind_eq_some_iff.mp h
    refine wt_callSi 54 [.int v7] C ksX12_179 (mX12_has (cx_ok C)  hc3) rfl rfl ⟨Nat.le_of_ble_eq_true rfl, Nat.le_of_ble_eq_true rfl⟩ (Nat.le_of_ble_eq_true rfl) dX12_ask_51 rfl ?_
    refine wt_if_eq 57 89 C dX12_ask_54 rfl (by decide) (fun q4 => ?_) (fun q4 => ?_)
    · have h := (if_pos q4).symm.trans h
      refine wt_sub [0, 1, 2, 3, 4, 5, 6, 8] rfl ?_
      exact wX12_ask_40b_89 C hin hex0 h
    · have h := (if_neg q4).symm.trans h
      refine wt_iload_n 58 1 C dX12_ask_57 rfl rfl ?_
      refine wt_iload 60 8 C dX12_ask_58 rfl rfl ?_
      obtain ⟨o5, hc6, h⟩ := Option.bind_eq_some_iff.mp h
      refine wt_callSi 63 [.int v7] C ksX12_179 (mX12_has (cx_ok C)  hc6) rfl rfl ⟨Nat.le_of_ble_eq_true rfl, Nat.le_of_ble_eq_true rfl⟩ (Nat.le_of_ble_eq_true rfl) dX12_ask_60 rfl ?_
      refine wt_if_eq 66 89 C dX12_ask_63 rfl (by decide) (fun q7 => ?_) (fun q7 => ?_)
      · have h := (if_pos q7).symm.trans h
        refine wt_sub [0, 1, 2, 3, 4, 5, 6, 8] rfl ?_
        exact wX12_ask_40b_89 C hin hex0 h
      · have h := (if_neg q7).symm.trans h
        refine wt_aload_n 67 0 C dX12_ask_66 rfl rfl ?_
        refine wt_iload 69 6 C dX12_ask_67 rfl rfl ?_
        refine wt_iload 71 4 C dX12_ask_69 rfl rfl ?_
        obtain ⟨o8, hc9, h⟩ := Option.bind_eq_some_iff.mp h
        refine wt_callVi 74 [.int v7] C kvX12_289 sm_0 (mX12_wouldServe (cx_ok C)  hc9) rfl rfl ⟨Nat.le_of_ble_eq_true rfl, Nat.le_of_ble_eq_true rfl⟩ (Nat.le_of_ble_eq_true rfl) dX12_ask_71 rfl ?_
        refine wt_aload_n 75 0 C dX12_ask_74 rfl rfl ?_
        refine wt_iload 77 8 C dX12_ask_75 rfl rfl ?_
        refine wt_iload 79 4 C dX12_ask_77 rfl rfl ?_
        obtain ⟨o10, hc11, h⟩ := Option.bind_eq_some_iff.mp h
        refine wt_callVi 82 [.int o8, .int v7] C kvX12_289 sm_0 (mX12_wouldServe (cx_ok C)  hc11) rfl rfl ⟨Nat.le_of_ble_eq_true rfl, Nat.le_of_ble_eq_true rfl⟩ (Nat.le_of_ble_eq_true rfl) dX12_ask_79 rfl ?_
        refine wt_icmp_ne 85 89 C dX12_ask_82 rfl (by decide) (fun q12 => ?_) (fun q12 => ?_)
        · have h := (if_neg q12).symm.trans h
          refine wt_sub [0, 1, 2, 3, 4, 5, 6, 8] rfl ?_
          exact wX12_ask_40b_89 C hin hex0 h
        · have h := (if_pos q12).symm.trans h
          refine wt_iconst 86 1 C dX12_ask_85 rfl (by decide) ?_
          refine wt_goto 90 C dX12_ask_86 (by decide) ?_
          refine wt_sub [0, 1, 2, 3, 4, 5, 6, 8] rfl ?_
          exact wX12_ask_40b_90 C hin hex0 h
def fX12_ask_28b_113 (v1 : Int32) (v2 : Int32) (v3 : Int32) (v4 : Int32) (v6 : Int32) (s0 : Int32) (N : ux_N) : Option ((Int32 × Int32) ⊕ (Int32)) :=
  some (.inl (s0, (v6 + 1)))
set_option maxHeartbeats 4000000 in
set_option maxRecDepth 20000 in
theorem wX12_ask_28b_113 {X : ux_X} (C : ux_C X cX12_ask RX12 9 (some .int) 5 119 shM) {v1 : Int32} {v2 : Int32} {v3 : Int32} {v4 : Int32} {v6 : Int32} {s0 : Int32}  {N : ux_N} {L : ux_L} {o : (Int32 × Int32) ⊕ (Int32)} (hin : ∀ s : Int32 × Int32, o = .inl s → ux_Wt X 9 28 [(0, .ref (ux_ad X 0)), (1, .int v1), (2, .int v2), (3, .int v3), (4, .int v4), (5, .int s.1), (6, .int s.2)] [] N L) (hex0 : ∀ e : Int32, o = .inr (e) → ux_Wt X 9 121 [(0, .ref (ux_ad X 0)), (1, .int v1), (2, .int v2), (3, .int v3), (4, .int v4), (5, .int e)] [] N L) (h : fX12_ask_28b_113 v1 v2 v3 v4 v6 s0 N = some o) : ux_Wt X 9 113 [(0, .ref (ux_ad X 0)), (1, .int v1), (2, .int v2), (3, .int v3), (4, .int v4), (6, .int v6)] [.int s0] N L := by
  refine wt_istore 115 [(5, .int s0), (0, .ref (ux_ad X 0)), (1, .int v1), (2, .int v2), (3, .int v3), (4, .int v4), (6, .int v6)] C dX12_ask_113 rfl (by decide) rfl ?_
  refine wt_iinc 118 6 [(6, .int (v6 + 1)), (5, .int s0), (0, .ref (ux_ad X 0)), (1, .int v1), (2, .int v2), (3, .int v3), (4, .int v4)] (v6 + 1) C dX12_ask_115 rfl rfl (by rfl) (by decide) rfl ?_
  refine wt_goto 28 C dX12_ask_118 (by decide) ?_
  refine wt_sub [2, 3, 4, 5, 6, 1, 0] rfl ?_
  exact hin _ (Option.some.inj h).symm
def fX12_ask_28b (v1 : Int32) (v2 : Int32) (v3 : Int32) (v4 : Int32) (v5 : Int32) (v6 : Int32) (N : ux_N) : Option ((Int32 × Int32) ⊕ (Int32)) :=
  if (5 : Int32) ≤ v6 then (some (.inr (v5))) else ((ux_lp (fun s : Int32 × Int32 => fX12_ask_40b v1 v2 v3 v4 v5 v6 s.1 s.2 N) ux_fu ((0 : Int32), (0 : Int32))).bind (fun e9 => if e9 ≤ v5 then (fX12_ask_28b_113 v1 v2 v3 v4 v6 v5 N) else (fX12_ask_28b_113 v1 v2 v3 v4 v6 e9 N)))
set_option maxHeartbeats 4000000 in
set_option maxRecDepth 20000 in
theorem wX12_ask_28b {X : ux_X} (C : ux_C X cX12_ask RX12 9 (some .int) 5 119 shM) {v1 : Int32} {v2 : Int32} {v3 : Int32} {v4 : Int32} {v5 : Int32} {v6 : Int32}  {N : ux_N} {L : ux_L} {o : (Int32 × Int32) ⊕ (Int32)} (hin : ∀ s : Int32 × Int32, o = .inl s → ux_Wt X 9 28 [(0, .ref (ux_ad X 0)), (1, .int v1), (2, .int v2), (3, .int v3), (4, .int v4), (5, .int s.1), (6, .int s.2)] [] N L) (hex0 : ∀ e : Int32, o = .inr (e) → ux_Wt X 9 121 [(0, .ref (ux_ad X 0)), (1, .int v1), (2, .int v2), (3, .int v3), (4, .int v4), (5, .int e)] [] N L) (h : fX12_ask_28b v1 v2 v3 v4 v5 v6 N = some o) : ux_Wt X 9 28 [(0, .ref (ux_ad X 0)), (1, .int v1), (2, .int v2), (3, .int v3), (4, .int v4), (5, .int v5), (6, .int v6)] [] N L := by
  refine wt_iload 30 6 C dX12_ask_28 rfl rfl ?_
  refine wt_iconst 31 5 C dX12_ask_30 rfl (by decide) ?_
  refine wt_icmp_ge 34 121 C dX12_ask_31 rfl (by decide) (fun q1 => ?_) (fun q1 => ?_)
  · have h := (if_pos q1).symm.trans h
    refine wt_sub [0, 1, 2, 3, 4, 5] rfl ?_
    exact hex0 _ (Option.some.inj h).symm
  · have h := (if_neg q1).symm.trans h
    refine wt_iconst 35 0 C dX12_ask_34 rfl (by decide) ?_
    refine wt_istore 37 [(7, .int (0 : Int32)), (0, .ref (ux_ad X 0)), (1, .int v1), (2, .int v2), (3, .int v3), (4, .int v4), (5, .int v5), (6, .int v6)] C dX12_ask_35 rfl (by decide) rfl ?_
    refine wt_iconst 38 0 C dX12_ask_37 rfl (by decide) ?_
    refine wt_istore 40 [(8, .int (0 : Int32)), (7, .int (0 : Int32)), (0, .ref (ux_ad X 0)), (1, .int v1), (2, .int v2), (3, .int v3), (4, .int v4), (5, .int v5), (6, .int v6)] C dX12_ask_38 rfl (by decide) rfl ?_
    obtain ⟨e2, hl3, h⟩ := Option.bind_eq_some_iff.mp h
    refine wt_sub [2, 3, 4, 5, 6, 7, 8, 1, 0] rfl ?_
    refine ux_loop (fun s : Int32 × Int32 => fX12_ask_40b v1 v2 v3 v4 v5 v6 s.1 s.2 N) (fun s : Int32 × Int32 => ux_Wt X 9 40 [(0, .ref (ux_ad X 0)), (1, .int v1), (2, .int v2), (3, .int v3), (4, .int v4), (5, .int v5), (6, .int v6), (7, .int s.1), (8, .int s.2)] [] N L) (e := e2) ?_ hl3
    intro s4 o5 hb6 hi7 hx8
    refine wX12_ask_40b C hi7 (fun x0 he => ?_) hb6
    · obtain ⟨e9, rfl⟩ : ∃ z, z = x0 := ⟨_, rfl⟩
      have h9 := hx8 _ he
      subst h9
      refine wt_iload 101 7 C dX12_ask_99 rfl rfl ?_
      refine wt_iload 103 5 C dX12_ask_101 rfl rfl ?_
      refine wt_icmp_le 106 111 C dX12_ask_103 rfl (by decide) (fun q10 => ?_) (fun q10 => ?_)
      · have h := (if_pos q10).symm.trans h
        refine wt_iload 113 5 C dX12_ask_111 rfl rfl ?_
        refine wt_sub [0, 1, 2, 3, 4, 6] rfl ?_
        exact wX12_ask_28b_113 C hin hex0 h
      · have h := (if_neg q10).symm.trans h
        refine wt_iload 108 7 C dX12_ask_106 rfl rfl ?_
        refine wt_goto 113 C dX12_ask_108 (by decide) ?_
        refine wt_sub [0, 1, 2, 3, 4, 6] rfl ?_
        exact wX12_ask_28b_113 C hin hex0 h
def fX12_ask_15b_146 (v1 : Int32) (v3 : Int32) (v4 : Int32) (s0 : Int32) (N : ux_N) : Option ((Int32 × Int32 × Int32) ⊕ (Int32)) :=
  some (.inl (s0, v3, (v4 + 1)))
set_option maxHeartbeats 4000000 in
set_option maxRecDepth 20000 in
theorem wX12_ask_15b_146 {X : ux_X} (C : ux_C X cX12_ask RX12 9 (some .int) 5 119 shM) {v1 : Int32} {v3 : Int32} {v4 : Int32} {s0 : Int32}  {N : ux_N} {L : ux_L} {o : (Int32 × Int32 × Int32) ⊕ (Int32)} (hin : ∀ s : Int32 × Int32 × Int32, o = .inl s → ux_Wt X 9 15 [(0, .ref (ux_ad X 0)), (1, .int v1), (2, .int s.1), (3, .int s.2.1), (4, .int s.2.2)] [] N L) (hex0 : ∀ e : Int32, o = .inr (e) → ux_Wt X 9 153 [(3, .int e)] [] N L) (h : fX12_ask_15b_146 v1 v3 v4 s0 N = some o) : ux_Wt X 9 146 [(0, .ref (ux_ad X 0)), (1, .int v1), (3, .int v3), (4, .int v4)] [.int s0] N L := by
  refine wt_istore_n 147 [(2, .int s0), (0, .ref (ux_ad X 0)), (1, .int v1), (3, .int v3), (4, .int v4)] C dX12_ask_146 rfl (by decide) rfl ?_
  refine wt_iinc 150 4 [(4, .int (v4 + 1)), (2, .int s0), (0, .ref (ux_ad X 0)), (1, .int v1), (3, .int v3)] (v4 + 1) C dX12_ask_147 rfl rfl (by rfl) (by decide) rfl ?_
  refine wt_goto 15 C dX12_ask_150 (by decide) ?_
  refine wt_sub [2, 3, 1, 4, 0] rfl ?_
  exact hin _ (Option.some.inj h).symm
def fX12_ask_15b_133 (v1 : Int32) (v2 : Int32) (v4 : Int32) (v5 : Int32) (s0 : Int32) (N : ux_N) : Option ((Int32 × Int32 × Int32) ⊕ (Int32)) :=
  if v2 ≤ v5 then (fX12_ask_15b_146 v1 s0 v4 v2 N) else (fX12_ask_15b_146 v1 s0 v4 v5 N)
set_option maxHeartbeats 4000000 in
set_option maxRecDepth 20000 in
theorem wX12_ask_15b_133 {X : ux_X} (C : ux_C X cX12_ask RX12 9 (some .int) 5 119 shM) {v1 : Int32} {v2 : Int32} {v4 : Int32} {v5 : Int32} {s0 : Int32}  {N : ux_N} {L : ux_L} {o : (Int32 × Int32 × Int32) ⊕ (Int32)} (hin : ∀ s : Int32 × Int32 × Int32, o = .inl s → ux_Wt X 9 15 [(0, .ref (ux_ad X 0)), (1, .int v1), (2, .int s.1), (3, .int s.2.1), (4, .int s.2.2)] [] N L) (hex0 : ∀ e : Int32, o = .inr (e) → ux_Wt X 9 153 [(3, .int e)] [] N L) (h : fX12_ask_15b_133 v1 v2 v4 v5 s0 N = some o) : ux_Wt X 9 133 [(0, .ref (ux_ad X 0)), (1, .int v1), (2, .int v2), (4, .int v4), (5, .int v5)] [.int s0] N L := by
  refine wt_istore_n 134 [(3, .int s0), (0, .ref (ux_ad X 0)), (1, .int v1), (2, .int v2), (4, .int v4), (5, .int v5)] C dX12_ask_133 rfl (by decide) rfl ?_
  refine wt_iload 136 5 C dX12_ask_134 rfl rfl ?_
  refine wt_iload_n 137 3 C dX12_ask_136 rfl rfl ?_
  refine wt_icmp_ge 140 145 C dX12_ask_137 rfl (by decide) (fun q1 => ?_) (fun q1 => ?_)
  · have h := (if_pos q1).symm.trans h
    refine wt_iload_n 146 3 C dX12_ask_145 rfl rfl ?_
    refine wt_sub [1, 2, 0, 4] rfl ?_
    exact wX12_ask_15b_146 C hin hex0 h
  · have h := (if_neg q1).symm.trans h
    refine wt_iload 142 5 C dX12_ask_140 rfl rfl ?_
    refine wt_goto 146 C dX12_ask_142 (by decide) ?_
    refine wt_sub [1, 2, 0, 4] rfl ?_
    exact wX12_ask_15b_146 C hin hex0 h
def fX12_ask_15b (v1 : Int32) (v2 : Int32) (v3 : Int32) (v4 : Int32) (N : ux_N) : Option ((Int32 × Int32 × Int32) ⊕ (Int32)) :=
  if (10 : Int32) ≤ v4 then (some (.inr (v3))) else ((ux_lp (fun s : Int32 × Int32 => fX12_ask_28b v1 v2 v3 v4 s.1 s.2 N) ux_fu ((0 : Int32), (0 : Int32))).bind (fun e9 => if v2 ≤ e9 then (fX12_ask_15b_133 v1 v2 v4 e9 v3 N) else (fX12_ask_15b_133 v1 v2 v4 e9 v4 N)))
set_option maxHeartbeats 4000000 in
set_option maxRecDepth 20000 in
theorem wX12_ask_15b {X : ux_X} (C : ux_C X cX12_ask RX12 9 (some .int) 5 119 shM) {v1 : Int32} {v2 : Int32} {v3 : Int32} {v4 : Int32}  {N : ux_N} {L : ux_L} {o : (Int32 × Int32 × Int32) ⊕ (Int32)} (hin : ∀ s : Int32 × Int32 × Int32, o = .inl s → ux_Wt X 9 15 [(0, .ref (ux_ad X 0)), (1, .int v1), (2, .int s.1), (3, .int s.2.1), (4, .int s.2.2)] [] N L) (hex0 : ∀ e : Int32, o = .inr (e) → ux_Wt X 9 153 [(3, .int e)] [] N L) (h : fX12_ask_15b v1 v2 v3 v4 N = some o) : ux_Wt X 9 15 [(0, .ref (ux_ad X 0)), (1, .int v1), (2, .int v2), (3, .int v3), (4, .int v4)] [] N L := by
  refine wt_iload 17 4 C dX12_ask_15 rfl rfl ?_
  refine wt_bipush 19 10 C dX12_ask_17 rfl (by decide) ?_
  refine wt_icmp_ge 22 153 C dX12_ask_19 rfl (by decide) (fun q1 => ?_) (fun q1 => ?_)
  · have h := (if_pos q1).symm.trans h
    refine wt_sub [3] rfl ?_
    exact hex0 _ (Option.some.inj h).symm
  · have h := (if_neg q1).symm.trans h
    refine wt_iconst 23 0 C dX12_ask_22 rfl (by decide) ?_
    refine wt_istore 25 [(5, .int (0 : Int32)), (0, .ref (ux_ad X 0)), (1, .int v1), (2, .int v2), (3, .int v3), (4, .int v4)] C dX12_ask_23 rfl (by decide) rfl ?_
    refine wt_iconst 26 0 C dX12_ask_25 rfl (by decide) ?_
    refine wt_istore 28 [(6, .int (0 : Int32)), (5, .int (0 : Int32)), (0, .ref (ux_ad X 0)), (1, .int v1), (2, .int v2), (3, .int v3), (4, .int v4)] C dX12_ask_26 rfl (by decide) rfl ?_
    obtain ⟨e2, hl3, h⟩ := Option.bind_eq_some_iff.mp h
    refine wt_sub [2, 3, 4, 5, 6, 1, 0] rfl ?_
    refine ux_loop (fun s : Int32 × Int32 => fX12_ask_28b v1 v2 v3 v4 s.1 s.2 N) (fun s : Int32 × Int32 => ux_Wt X 9 28 [(0, .ref (ux_ad X 0)), (1, .int v1), (2, .int v2), (3, .int v3), (4, .int v4), (5, .int s.1), (6, .int s.2)] [] N L) (e := e2) ?_ hl3
    intro s4 o5 hb6 hi7 hx8
    refine wX12_ask_28b C hi7 (fun x0 he => ?_) hb6
    · obtain ⟨e9, rfl⟩ : ∃ z, z = x0 := ⟨_, rfl⟩
      have h9 := hx8 _ he
      subst h9
      refine wt_iload 123 5 C dX12_ask_121 rfl rfl ?_
      refine wt_iload_n 124 2 C dX12_ask_123 rfl rfl ?_
      refine wt_icmp_ge 127 132 C dX12_ask_124 rfl (by decide) (fun q10 => ?_) (fun q10 => ?_)
      · have h := (if_pos q10).symm.trans h
        refine wt_iload_n 133 3 C dX12_ask_132 rfl rfl ?_
        refine wt_sub [0, 1, 2, 4, 5] rfl ?_
        exact wX12_ask_15b_133 C hin hex0 h
      · have h := (if_neg q10).symm.trans h
        refine wt_iload 129 4 C dX12_ask_127 rfl rfl ?_
        refine wt_goto 133 C dX12_ask_129 (by decide) ?_
        refine wt_sub [0, 1, 2, 4, 5] rfl ?_
        exact wX12_ask_15b_133 C hin hex0 h
def fX12_ask (N : ux_N) : Option (Int32) :=
  (fX12_fit N).bind (fun o1 => (fX12_ones o1).bind (fun o3 => (ux_lp (fun s : Int32 × Int32 × Int32 => fX12_ask_15b o1 s.1 s.2.1 s.2.2 N) ux_fu (o3, (-1 : Int32), (0 : Int32))).bind (fun e12 => some e12)))
set_option maxHeartbeats 4000000 in
set_option maxRecDepth 20000 in
theorem wX12_ask {X : ux_X} (C : ux_C X cX12_ask RX12 9 (some .int) 5 119 shM)   {N : ux_N} {L : ux_L} {o : Int32} (hq : ux_Qi X o N L) (h : fX12_ask N = some o) : ux_Wt X 9 0 [(0, .ref (ux_ad X 0))] [] N L := by
  refine wt_aload_n 1 0 C dX12_ask_0 rfl rfl ?_
  obtain ⟨o1, hc2, h⟩ := Option.bind_eq_some_iff.mp h
  refine wt_callVi 4 [] C kvX12_286 sm_0 (mX12_fit (cx_ok C)  hc2) rfl rfl ⟨Nat.le_of_ble_eq_true rfl, Nat.le_of_ble_eq_true rfl⟩ (Nat.le_of_ble_eq_true rfl) dX12_ask_1 rfl ?_
  refine wt_istore_n 5 [(1, .int o1), (0, .ref (ux_ad X 0))] C dX12_ask_4 rfl (by decide) rfl ?_
  refine wt_iload_n 6 0 C dX12_ask_5 rfl rfl ?_
  obtain ⟨o3, hc4, h⟩ := Option.bind_eq_some_iff.mp h
  refine wt_callSi 9 [] C ksX12_183 (mX12_ones (cx_ok C)  hc4) rfl rfl ⟨Nat.le_of_ble_eq_true rfl, Nat.le_of_ble_eq_true rfl⟩ (Nat.le_of_ble_eq_true rfl) dX12_ask_6 rfl ?_
  refine wt_istore_n 10 [(2, .int o3), (1, .int o1), (0, .ref (ux_ad X 0))] C dX12_ask_9 rfl (by decide) rfl ?_
  refine wt_iconst 11 (-1) C dX12_ask_10 rfl (by decide) ?_
  refine wt_istore_n 12 [(3, .int (-1 : Int32)), (2, .int o3), (1, .int o1), (0, .ref (ux_ad X 0))] C dX12_ask_11 rfl (by decide) rfl ?_
  refine wt_iconst 13 0 C dX12_ask_12 rfl (by decide) ?_
  refine wt_istore 15 [(4, .int (0 : Int32)), (3, .int (-1 : Int32)), (2, .int o3), (1, .int o1), (0, .ref (ux_ad X 0))] C dX12_ask_13 rfl (by decide) rfl ?_
  obtain ⟨e5, hl6, h⟩ := Option.bind_eq_some_iff.mp h
  refine wt_sub [4, 3, 2, 1, 0] rfl ?_
  refine ux_loop (fun s : Int32 × Int32 × Int32 => fX12_ask_15b o1 s.1 s.2.1 s.2.2 N) (fun s : Int32 × Int32 × Int32 => ux_Wt X 9 15 [(0, .ref (ux_ad X 0)), (1, .int o1), (2, .int s.1), (3, .int s.2.1), (4, .int s.2.2)] [] N L) (e := e5) ?_ hl6
  intro s7 o8 hb9 hi10 hx11
  refine wX12_ask_15b C hi10 (fun x0 he => ?_) hb9
  · obtain ⟨e12, rfl⟩ : ∃ z, z = x0 := ⟨_, rfl⟩
    have h9 := hx11 _ he
    subst h9
    refine wt_iload_n 154 0 C dX12_ask_153 rfl rfl ?_
    cases h
    exact wt_iret C hq dX12_ask_154
theorem mX12_ask {l : Launch} {G : ux_G} (hok : ux_ok G shM)   {N : ux_N} {L : ux_L} {o : Int32} (h : fX12_ask N = some o) : ux_Mi l G yX12_ask cX12_ask 9 (some .int) 5 119 [.ref (gad G 0)] N L o N L :=
  ux_ofi shM hok (by decide +kernel) (Nat.le_of_ble_eq_true rfl) (fun X hG hl C hq => by subst hG; subst hl; exact wX12_ask C  hq h)
def fX12_isTray (v0 : Int32) : Option (Int32) :=
  (fX12_in (v0.toInt64) (0 : Int64) (2 : Int64)).bind (fun o1 => if ux_b o1 then (some o1) else none)
set_option maxHeartbeats 4000000 in
set_option maxRecDepth 20000 in
theorem wX12_isTray {X : ux_X} (C : ux_C X cX12_isTray RX12 1 (some .boolean) 1 25 shM) {v0 : Int32}  {N : ux_N} {L : ux_L} {o : Int32} (hq : ux_Qi X o N L) (h : fX12_isTray v0 = some o) : ux_Wt X 1 0 [(0, .int v0)] [] N L := by
  refine wt_iload_n 1 0 C dX12_isTray_0 rfl rfl ?_
  refine wt_i2l 2 C dX12_isTray_1 rfl ?_
  refine wt_lconst 3 0 C dX12_isTray_2 rfl (by decide) ?_
  refine wt_ldc2 6 C tw_1307 dX12_isTray_3 rfl ?_
  obtain ⟨o1, hc2, h⟩ := Option.bind_eq_some_iff.mp h
  refine wt_callSi 9 [] C ksX12_94 (mX12_in (cx_ok C)  hc2) rfl rfl ⟨Nat.le_of_ble_eq_true rfl, Nat.le_of_ble_eq_true rfl⟩ (Nat.le_of_ble_eq_true rfl) dX12_isTray_6 rfl ?_
  obtain ⟨hb3, h⟩ := ux_guard h
  cases h
  exact wt_zret C (ux_b_n hb3).1 hq dX12_isTray_9
theorem mX12_isTray {l : Launch} {G : ux_G} (hok : ux_ok G shM) {v0 : Int32}  {N : ux_N} {L : ux_L} {o : Int32} (h : fX12_isTray v0 = some o) : ux_Mi l G yX12_isTray cX12_isTray 1 (some .boolean) 1 25 [.int v0] N L o N L :=
  ux_ofi shM hok (by decide +kernel) (Nat.le_of_ble_eq_true rfl) (fun X hG hl C hq => by subst hG; subst hl; exact wX12_isTray C  hq h)
def fX12_tray (v1 : Int32) (N : ux_N) : Option (Int32 × ux_N) :=
  (fX12_isTray v1).bind (fun o1 => if o1 = 0 then (some ((-2 : Int32), N)) else (if ux_in v1 3 then (some ((0 : Int32), (ux_u N 8 (v1.toNatClampNeg) (0 : Int32)))) else none))
set_option maxHeartbeats 4000000 in
set_option maxRecDepth 20000 in
theorem wX12_tray {X : ux_X} (C : ux_C X cX12_tray RX12 2 (some .int) 2 45 shM) {v1 : Int32}  {N : ux_N} {L : ux_L} {o : Int32 × ux_N} (hq : ux_Qi X o.1 o.2 L) (h : fX12_tray v1 N = some o) : ux_Wt X 2 0 [(0, .ref (ux_ad X 0)), (1, .int v1)] [] N L := by
  refine wt_iload_n 1 1 C dX12_tray_0 rfl rfl ?_
  obtain ⟨o1, hc2, h⟩ := Option.bind_eq_some_iff.mp h
  refine wt_callSi 4 [] C ksX12_292 (mX12_isTray (cx_ok C)  hc2) rfl rfl ⟨Nat.le_of_ble_eq_true rfl, Nat.le_of_ble_eq_true rfl⟩ (Nat.le_of_ble_eq_true rfl) dX12_tray_1 rfl ?_
  refine wt_if_ne 7 10 C dX12_tray_4 rfl (by decide) (fun q3 => ?_) (fun q3 => ?_)
  · have h := (if_neg q3).symm.trans h
    refine wt_aload_n 11 0 C dX12_tray_10 rfl rfl ?_
    refine wt_getR 14 C kfX12_32 sm_0 rfl dX12_tray_11 rfl ?_
    refine wt_iload_n 15 1 C dX12_tray_14 rfl rfl ?_
    refine wt_iconst 16 0 C dX12_tray_15 rfl (by decide) ?_
    obtain ⟨hi4, h⟩ := ux_guard h
    refine wt_iast 17 (v1.toNatClampNeg) C sm_8 rfl hi4 dX12_tray_16 rfl ?_
    refine wt_iconst 18 0 C dX12_tray_17 rfl (by decide) ?_
    cases h
    exact wt_iret C hq dX12_tray_18
  · have h := (if_pos q3).symm.trans h
    refine wt_bipush 9 (-2) C dX12_tray_7 rfl (by decide) ?_
    cases h
    exact wt_iret C hq dX12_tray_9
theorem mX12_tray {l : Launch} {G : ux_G} (hok : ux_ok G shM) {v1 : Int32}  {N : ux_N} {L : ux_L} {o : Int32 × ux_N} (h : fX12_tray v1 N = some o) : ux_Mi l G yX12_tray cX12_tray 2 (some .int) 2 45 [.ref (gad G 0), .int v1] N L o.1 o.2 L :=
  ux_ofi shM hok (by decide +kernel) (Nat.le_of_ble_eq_true rfl) (fun X hG hl C hq => by subst hG; subst hl; exact wX12_tray C  hq h)
def fX12_lay_20 (N : ux_N) : Option (Int32 × ux_N) :=
  some ((-2 : Int32), N)
set_option maxHeartbeats 4000000 in
set_option maxRecDepth 20000 in
theorem wX12_lay_20 {X : ux_X} (C : ux_C X cX12_lay RX12 4 (some .int) 2 46 shM)   {N : ux_N} {L : ux_L} {o : Int32 × ux_N} (hq : ux_Qi X o.1 o.2 L) (h : fX12_lay_20 N = some o) : ux_Wt X 4 20 [] [] N L := by
  refine wt_bipush 22 (-2) C dX12_lay_20 rfl (by decide) ?_
  cases h
  exact wt_iret C hq dX12_lay_22
def fX12_lay_70 (N : ux_N) : Option (Int32 × ux_N) :=
  some ((-3 : Int32), N)
set_option maxHeartbeats 4000000 in
set_option maxRecDepth 20000 in
theorem wX12_lay_70 {X : ux_X} (C : ux_C X cX12_lay RX12 4 (some .int) 2 46 shM)   {N : ux_N} {L : ux_L} {o : Int32 × ux_N} (hq : ux_Qi X o.1 o.2 L) (h : fX12_lay_70 N = some o) : ux_Wt X 4 70 [] [] N L := by
  refine wt_bipush 72 (-3) C dX12_lay_70 rfl (by decide) ?_
  cases h
  exact wt_iret C hq dX12_lay_72
def fX12_lay_133 (v1 : Int32) (N : ux_N) : Option (Int32 × ux_N) :=
  if ux_in v1 3 then (if ux_in v1 3 then (if ux_in v1 3 then (some (((ux_u N 8 (v1.toNatClampNeg) ((N 8 (v1.toNatClampNeg)) + (1 : Int32))) 8 (v1.toNatClampNeg)), (ux_u N 8 (v1.toNatClampNeg) ((N 8 (v1.toNatClampNeg)) + (1 : Int32))))) else none) else none) else none
set_option maxHeartbeats 4000000 in
set_option maxRecDepth 20000 in
theorem wX12_lay_133 {X : ux_X} (C : ux_C X cX12_lay RX12 4 (some .int) 2 46 shM) {v1 : Int32}  {N : ux_N} {L : ux_L} {o : Int32 × ux_N} (hq : ux_Qi X o.1 o.2 L) (h : fX12_lay_133 v1 N = some o) : ux_Wt X 4 133 [(0, .ref (ux_ad X 0)), (1, .int v1)] [] N L := by
  refine wt_aload_n 134 0 C dX12_lay_133 rfl rfl ?_
  refine wt_getR 137 C kfX12_32 sm_0 rfl dX12_lay_134 rfl ?_
  refine wt_iload_n 138 1 C dX12_lay_137 rfl rfl ?_
  refine wt_dup2 139 C dX12_lay_138 rfl rfl rfl ?_
  obtain ⟨hi1, h⟩ := ux_guard h
  refine wt_iald 140 (v1.toNatClampNeg) C sm_8 rfl hi1 dX12_lay_139 rfl ?_
  refine wt_iconst 141 1 C dX12_lay_140 rfl (by decide) ?_
  refine wt_iadd 142 C dX12_lay_141 rfl ?_
  obtain ⟨hi2, h⟩ := ux_guard h
  refine wt_iast 143 (v1.toNatClampNeg) C sm_8 rfl hi2 dX12_lay_142 rfl ?_
  refine wt_aload_n 144 0 C dX12_lay_143 rfl rfl ?_
  refine wt_getR 147 C kfX12_32 sm_0 rfl dX12_lay_144 rfl ?_
  refine wt_iload_n 148 1 C dX12_lay_147 rfl rfl ?_
  obtain ⟨hi3, h⟩ := ux_guard h
  refine wt_iald 149 (v1.toNatClampNeg) C sm_8 rfl hi3 dX12_lay_148 rfl ?_
  cases h
  exact wt_iret C hq dX12_lay_149
def fX12_lay_73 (v1 : Int32) (v2 : Int32) (v3 : Int32) (N : ux_N) : Option (Int32 × ux_N) :=
  if ux_in v1 3 then (if 0 ≤ (N 8 (v1.toNatClampNeg)) then (if ux_in v1 3 then (if (N 8 (v1.toNatClampNeg)) = (8 : Int32) then (some ((-14 : Int32), N)) else (if ux_in v1 3 then (if ux_in (((8 : Int32) * v1) + (N 8 (v1.toNatClampNeg))) 24 then (if ux_in v1 3 then (if ux_in (((8 : Int32) * v1) + ((ux_u N 9 ((((8 : Int32) * v1) + (N 8 (v1.toNatClampNeg))).toNatClampNeg) v2) 8 (v1.toNatClampNeg))) 24 then (fX12_lay_133 v1 (ux_u (ux_u N 9 ((((8 : Int32) * v1) + (N 8 (v1.toNatClampNeg))).toNatClampNeg) v2) 10 ((((8 : Int32) * v1) + ((ux_u N 9 ((((8 : Int32) * v1) + (N 8 (v1.toNatClampNeg))).toNatClampNeg) v2) 8 (v1.toNatClampNeg))).toNatClampNeg) v3)) else none) else none) else none) else none)) else none) else (some ((-11 : Int32), N))) else none
set_option maxHeartbeats 4000000 in
set_option maxRecDepth 20000 in
theorem wX12_lay_73 {X : ux_X} (C : ux_C X cX12_lay RX12 4 (some .int) 2 46 shM) {v1 : Int32} {v2 : Int32} {v3 : Int32}  {N : ux_N} {L : ux_L} {o : Int32 × ux_N} (hq : ux_Qi X o.1 o.2 L) (h : fX12_lay_73 v1 v2 v3 N = some o) : ux_Wt X 4 73 [(0, .ref (ux_ad X 0)), (1, .int v1), (2, .int v2), (3, .int v3)] [] N L := by
  refine wt_aload_n 74 0 C dX12_lay_73 rfl rfl ?_
  refine wt_getR 77 C kfX12_32 sm_0 rfl dX12_lay_74 rfl ?_
  refine wt_iload_n 78 1 C dX12_lay_77 rfl rfl ?_
  obtain ⟨hi1, h⟩ := ux_guard h
  refine wt_iald 79 (v1.toNatClampNeg) C sm_8 rfl hi1 dX12_lay_78 rfl ?_
  refine wt_if_ge 82 85 C dX12_lay_79 rfl (by decide) (fun q2 => ?_) (fun q2 => ?_)
  · have h := (if_pos q2).symm.trans h
    refine wt_aload_n 86 0 C dX12_lay_85 rfl rfl ?_
    refine wt_getR 89 C kfX12_32 sm_0 rfl dX12_lay_86 rfl ?_
    refine wt_iload_n 90 1 C dX12_lay_89 rfl rfl ?_
    obtain ⟨hi3, h⟩ := ux_guard h
    refine wt_iald 91 (v1.toNatClampNeg) C sm_8 rfl hi3 dX12_lay_90 rfl ?_
    refine wt_bipush 93 8 C dX12_lay_91 rfl (by decide) ?_
    refine wt_icmp_ne 96 99 C dX12_lay_93 rfl (by decide) (fun q4 => ?_) (fun q4 => ?_)
    · have h := (if_neg q4).symm.trans h
      refine wt_aload_n 100 0 C dX12_lay_99 rfl rfl ?_
      refine wt_getR 103 C kfX12_35 sm_0 rfl dX12_lay_100 rfl ?_
      refine wt_bipush 105 8 C dX12_lay_103 rfl (by decide) ?_
      refine wt_iload_n 106 1 C dX12_lay_105 rfl rfl ?_
      refine wt_imul 107 C dX12_lay_106 rfl ?_
      refine wt_aload_n 108 0 C dX12_lay_107 rfl rfl ?_
      refine wt_getR 111 C kfX12_32 sm_0 rfl dX12_lay_108 rfl ?_
      refine wt_iload_n 112 1 C dX12_lay_111 rfl rfl ?_
      obtain ⟨hi5, h⟩ := ux_guard h
      refine wt_iald 113 (v1.toNatClampNeg) C sm_8 rfl hi5 dX12_lay_112 rfl ?_
      refine wt_iadd 114 C dX12_lay_113 rfl ?_
      refine wt_iload_n 115 2 C dX12_lay_114 rfl rfl ?_
      obtain ⟨hi6, h⟩ := ux_guard h
      refine wt_iast 116 ((((8 : Int32) * v1) + (N 8 (v1.toNatClampNeg))).toNatClampNeg) C sm_9 rfl hi6 dX12_lay_115 rfl ?_
      refine wt_aload_n 117 0 C dX12_lay_116 rfl rfl ?_
      refine wt_getR 120 C kfX12_38 sm_0 rfl dX12_lay_117 rfl ?_
      refine wt_bipush 122 8 C dX12_lay_120 rfl (by decide) ?_
      refine wt_iload_n 123 1 C dX12_lay_122 rfl rfl ?_
      refine wt_imul 124 C dX12_lay_123 rfl ?_
      refine wt_aload_n 125 0 C dX12_lay_124 rfl rfl ?_
      refine wt_getR 128 C kfX12_32 sm_0 rfl dX12_lay_125 rfl ?_
      refine wt_iload_n 129 1 C dX12_lay_128 rfl rfl ?_
      obtain ⟨hi7, h⟩ := ux_guard h
      refine wt_iald 130 (v1.toNatClampNeg) C sm_8 rfl hi7 dX12_lay_129 rfl ?_
      refine wt_iadd 131 C dX12_lay_130 rfl ?_
      refine wt_iload_n 132 3 C dX12_lay_131 rfl rfl ?_
      obtain ⟨hi8, h⟩ := ux_guard h
      refine wt_iast 133 ((((8 : Int32) * v1) + ((ux_u N 9 ((((8 : Int32) * v1) + (N 8 (v1.toNatClampNeg))).toNatClampNeg) v2) 8 (v1.toNatClampNeg))).toNatClampNeg) C sm_10 rfl hi8 dX12_lay_132 rfl ?_
      refine wt_sub [0, 1] rfl ?_
      exact wX12_lay_133 C hq h
    · have h := (if_pos q4).symm.trans h
      refine wt_bipush 98 (-14) C dX12_lay_96 rfl (by decide) ?_
      cases h
      exact wt_iret C hq dX12_lay_98
  · have h := (if_neg q2).symm.trans h
    refine wt_bipush 84 (-11) C dX12_lay_82 rfl (by decide) ?_
    cases h
    exact wt_iret C hq dX12_lay_84
def fX12_lay_51 (v1 : Int32) (v2 : Int32) (v3 : Int32) (N : ux_N) : Option (Int32 × ux_N) :=
  if v2 = (1 : Int32) then ((fX12_in (v3.toInt64) (-9999 : Int64) (9999 : Int64)).bind (fun o2 => if o2 = 0 then (fX12_lay_70 N) else (fX12_lay_73 v1 v2 v3 N))) else (fX12_lay_73 v1 v2 v3 N)
set_option maxHeartbeats 4000000 in
set_option maxRecDepth 20000 in
theorem wX12_lay_51 {X : ux_X} (C : ux_C X cX12_lay RX12 4 (some .int) 2 46 shM) {v1 : Int32} {v2 : Int32} {v3 : Int32}  {N : ux_N} {L : ux_L} {o : Int32 × ux_N} (hq : ux_Qi X o.1 o.2 L) (h : fX12_lay_51 v1 v2 v3 N = some o) : ux_Wt X 4 51 [(0, .ref (ux_ad X 0)), (1, .int v1), (2, .int v2), (3, .int v3)] [] N L := by
  refine wt_iload_n 52 2 C dX12_lay_51 rfl rfl ?_
  refine wt_iconst 53 1 C dX12_lay_52 rfl (by decide) ?_
  refine wt_icmp_ne 56 73 C dX12_lay_53 rfl (by decide) (fun q1 => ?_) (fun q1 => ?_)
  · have h := (if_neg q1).symm.trans h
    exact wX12_lay_73 C hq h
  · have h := (if_pos q1).symm.trans h
    refine wt_iload_n 57 3 C dX12_lay_56 rfl rfl ?_
    refine wt_i2l 58 C dX12_lay_57 rfl ?_
    refine wt_ldc2 61 C tw_1424 dX12_lay_58 rfl ?_
    refine wt_ldc2 64 C tw_1425 dX12_lay_61 rfl ?_
    obtain ⟨o2, hc3, h⟩ := Option.bind_eq_some_iff.mp h
    refine wt_callSi 67 [] C ksX12_94 (mX12_in (cx_ok C)  hc3) rfl rfl ⟨Nat.le_of_ble_eq_true rfl, Nat.le_of_ble_eq_true rfl⟩ (Nat.le_of_ble_eq_true rfl) dX12_lay_64 rfl ?_
    refine wt_if_ne 70 73 C dX12_lay_67 rfl (by decide) (fun q4 => ?_) (fun q4 => ?_)
    · have h := (if_neg q4).symm.trans h
      exact wX12_lay_73 C hq h
    · have h := (if_pos q4).symm.trans h
      refine wt_sub [] rfl ?_
      exact wX12_lay_70 C hq h
def fX12_lay_23 (v1 : Int32) (v2 : Int32) (v3 : Int32) (N : ux_N) : Option (Int32 × ux_N) :=
  (fX12_in (v2.toInt64) (0 : Int64) (2 : Int64)).bind (fun o1 => if o1 = 0 then (fX12_lay_70 N) else (if v2 = 0 then ((fX12_in (v3.toInt64) (0 : Int64) (99 : Int64)).bind (fun o5 => if o5 = 0 then (fX12_lay_70 N) else (fX12_lay_51 v1 v2 v3 N))) else (fX12_lay_51 v1 v2 v3 N)))
set_option maxHeartbeats 4000000 in
set_option maxRecDepth 20000 in
theorem wX12_lay_23 {X : ux_X} (C : ux_C X cX12_lay RX12 4 (some .int) 2 46 shM) {v1 : Int32} {v2 : Int32} {v3 : Int32}  {N : ux_N} {L : ux_L} {o : Int32 × ux_N} (hq : ux_Qi X o.1 o.2 L) (h : fX12_lay_23 v1 v2 v3 N = some o) : ux_Wt X 4 23 [(0, .ref (ux_ad X 0)), (1, .int v1), (2, .int v2), (3, .int v3)] [] N L := by
  refine wt_iload_n 24 2 C dX12_lay_23 rfl rfl ?_
  refine wt_i2l 25 C dX12_lay_24 rfl ?_
  refine wt_lconst 26 0 C dX12_lay_25 rfl (by decide) ?_
  refine wt_ldc2 29 C tw_1307 dX12_lay_26 rfl ?_
  obtain ⟨o1, hc2, h⟩ := Option.bind_eq_some_iff.mp h
  refine wt_callSi 32 [] C ksX12_94 (mX12_in (cx_ok C)  hc2) rfl rfl ⟨Nat.le_of_ble_eq_true rfl, Nat.le_of_ble_eq_true rfl⟩ (Nat.le_of_ble_eq_true rfl) dX12_lay_29 rfl ?_
  refine wt_if_eq 35 70 C dX12_lay_32 rfl (by decide) (fun q3 => ?_) (fun q3 => ?_)
  · have h := (if_pos q3).symm.trans h
    refine wt_sub [] rfl ?_
    exact wX12_lay_70 C hq h
  · have h := (if_neg q3).symm.trans h
    refine wt_iload_n 36 2 C dX12_lay_35 rfl rfl ?_
    refine wt_if_ne 39 51 C dX12_lay_36 rfl (by decide) (fun q4 => ?_) (fun q4 => ?_)
    · have h := (if_neg q4).symm.trans h
      exact wX12_lay_51 C hq h
    · have h := (if_pos q4).symm.trans h
      refine wt_iload_n 40 3 C dX12_lay_39 rfl rfl ?_
      refine wt_i2l 41 C dX12_lay_40 rfl ?_
      refine wt_lconst 42 0 C dX12_lay_41 rfl (by decide) ?_
      refine wt_ldc2 45 C tw_1423 dX12_lay_42 rfl ?_
      obtain ⟨o5, hc6, h⟩ := Option.bind_eq_some_iff.mp h
      refine wt_callSi 48 [] C ksX12_94 (mX12_in (cx_ok C)  hc6) rfl rfl ⟨Nat.le_of_ble_eq_true rfl, Nat.le_of_ble_eq_true rfl⟩ (Nat.le_of_ble_eq_true rfl) dX12_lay_45 rfl ?_
      refine wt_if_eq 51 70 C dX12_lay_48 rfl (by decide) (fun q7 => ?_) (fun q7 => ?_)
      · have h := (if_pos q7).symm.trans h
        refine wt_sub [] rfl ?_
        exact wX12_lay_70 C hq h
      · have h := (if_neg q7).symm.trans h
        exact wX12_lay_51 C hq h
def fX12_lay (v1 : Int32) (v2 : Int32) (v3 : Int32) (N : ux_N) : Option (Int32 × ux_N) :=
  (fX12_isTray v1).bind (fun o1 => if o1 = 0 then (fX12_lay_20 N) else (if v2 = (2 : Int32) then ((fX12_isMeter v3 N).bind (fun o5 => if o5 = 0 then (fX12_lay_20 N) else (fX12_lay_23 v1 v2 v3 N))) else (fX12_lay_23 v1 v2 v3 N)))
set_option maxHeartbeats 4000000 in
set_option maxRecDepth 20000 in
theorem wX12_lay {X : ux_X} (C : ux_C X cX12_lay RX12 4 (some .int) 2 46 shM) {v1 : Int32} {v2 : Int32} {v3 : Int32}  {N : ux_N} {L : ux_L} {o : Int32 × ux_N} (hq : ux_Qi X o.1 o.2 L) (h : fX12_lay v1 v2 v3 N = some o) : ux_Wt X 4 0 [(0, .ref (ux_ad X 0)), (1, .int v1), (2, .int v2), (3, .int v3)] [] N L := by
  refine wt_iload_n 1 1 C dX12_lay_0 rfl rfl ?_
  obtain ⟨o1, hc2, h⟩ := Option.bind_eq_some_iff.mp h
  refine wt_callSi 4 [] C ksX12_292 (mX12_isTray (cx_ok C)  hc2) rfl rfl ⟨Nat.le_of_ble_eq_true rfl, Nat.le_of_ble_eq_true rfl⟩ (Nat.le_of_ble_eq_true rfl) dX12_lay_1 rfl ?_
  refine wt_if_eq 7 20 C dX12_lay_4 rfl (by decide) (fun q3 => ?_) (fun q3 => ?_)
  · have h := (if_pos q3).symm.trans h
    refine wt_sub [] rfl ?_
    exact wX12_lay_20 C hq h
  · have h := (if_neg q3).symm.trans h
    refine wt_iload_n 8 2 C dX12_lay_7 rfl rfl ?_
    refine wt_iconst 9 2 C dX12_lay_8 rfl (by decide) ?_
    refine wt_icmp_ne 12 23 C dX12_lay_9 rfl (by decide) (fun q4 => ?_) (fun q4 => ?_)
    · have h := (if_neg q4).symm.trans h
      exact wX12_lay_23 C hq h
    · have h := (if_pos q4).symm.trans h
      refine wt_aload_n 13 0 C dX12_lay_12 rfl rfl ?_
      refine wt_iload_n 14 3 C dX12_lay_13 rfl rfl ?_
      obtain ⟨o5, hc6, h⟩ := Option.bind_eq_some_iff.mp h
      refine wt_callVi 17 [] C kvX12_245 sm_0 (mX12_isMeter (cx_ok C)  hc6) rfl rfl ⟨Nat.le_of_ble_eq_true rfl, Nat.le_of_ble_eq_true rfl⟩ (Nat.le_of_ble_eq_true rfl) dX12_lay_14 rfl ?_
      refine wt_if_ne 20 23 C dX12_lay_17 rfl (by decide) (fun q7 => ?_) (fun q7 => ?_)
      · have h := (if_neg q7).symm.trans h
        exact wX12_lay_23 C hq h
      · have h := (if_pos q7).symm.trans h
        refine wt_sub [] rfl ?_
        exact wX12_lay_20 C hq h
theorem mX12_lay {l : Launch} {G : ux_G} (hok : ux_ok G shM) {v1 : Int32} {v2 : Int32} {v3 : Int32}  {N : ux_N} {L : ux_L} {o : Int32 × ux_N} (h : fX12_lay v1 v2 v3 N = some o) : ux_Mi l G yX12_lay cX12_lay 4 (some .int) 2 46 [.ref (gad G 0), .int v1, .int v2, .int v3] N L o.1 o.2 L :=
  ux_ofi shM hok (by decide +kernel) (Nat.le_of_ble_eq_true rfl) (fun X hG hl C hq => by subst hG; subst hl; exact wX12_lay C  hq h)
def fX12_take_113 (s0 : Int32) (N : ux_N) : Option (Int32 × ux_N) :=
  some (s0, N)
set_option maxHeartbeats 4000000 in
set_option maxRecDepth 20000 in
theorem wX12_take_113 {X : ux_X} (C : ux_C X cX12_take RX12 4 (some .int) 2 45 shM) {s0 : Int32}  {N : ux_N} {L : ux_L} {o : Int32 × ux_N} (hq : ux_Qi X o.1 o.2 L) (h : fX12_take_113 s0 N = some o) : ux_Wt X 4 113 [] [.int s0] N L := by
  cases h
  exact wt_iret C hq dX12_take_113
def fX12_take_104 (s0 : Int32) (N : ux_N) : Option (Int32 × ux_N) :=
  fX12_take_113 s0 N
set_option maxHeartbeats 4000000 in
set_option maxRecDepth 20000 in
theorem wX12_take_104 {X : ux_X} (C : ux_C X cX12_take RX12 4 (some .int) 2 45 shM) {s0 : Int32}  {N : ux_N} {L : ux_L} {o : Int32 × ux_N} (hq : ux_Qi X o.1 o.2 L) (h : fX12_take_104 s0 N = some o) : ux_Wt X 4 104 [] [.int s0] N L := by
  refine wt_goto 113 C dX12_take_104 (by decide) ?_
  exact wX12_take_113 C hq h
def fX12_take_51 (s0 : Int32) (N : ux_N) : Option (Int32 × ux_N) :=
  some (s0, N)
set_option maxHeartbeats 4000000 in
set_option maxRecDepth 20000 in
theorem wX12_take_51 {X : ux_X} (C : ux_C X cX12_take RX12 4 (some .int) 2 45 shM) {s0 : Int32}  {N : ux_N} {L : ux_L} {o : Int32 × ux_N} (hq : ux_Qi X o.1 o.2 L) (h : fX12_take_51 s0 N = some o) : ux_Wt X 4 51 [] [.int s0] N L := by
  cases h
  exact wt_iret C hq dX12_take_51
def fX12_take (v1 : Int32) (v2 : Int32) (N : ux_N) : Option (Int32 × ux_N) :=
  (fX12_isTray v1).bind (fun o1 => if o1 = 0 then (some ((-2 : Int32), N)) else ((fX12_in (v2.toInt64) (0 : Int64) (2 : Int64)).bind (fun o4 => if o4 = 0 then (some ((-3 : Int32), N)) else (if ux_in v1 3 then (if (1 : Int32) ≤ (N 8 (v1.toNatClampNeg)) then (if ux_in v1 3 then (if ux_in ((((8 : Int32) * v1) + (N 8 (v1.toNatClampNeg))) - (1 : Int32)) 24 then (if (N 9 (((((8 : Int32) * v1) + (N 8 (v1.toNatClampNeg))) - (1 : Int32)).toNatClampNeg)) = v2 then (if ux_in v1 3 then (if ux_in v1 3 then (if v2 = (1 : Int32) then (if ux_in ((((8 : Int32) * v1) + (N 8 (v1.toNatClampNeg))) - (1 : Int32)) 24 then (fX12_take_104 (((ux_u N 8 (v1.toNatClampNeg) ((N 8 (v1.toNatClampNeg)) - (1 : Int32))) 10 (((((8 : Int32) * v1) + (N 8 (v1.toNatClampNeg))) - (1 : Int32)).toNatClampNeg)) + (50000 : Int32)) (ux_u N 8 (v1.toNatClampNeg) ((N 8 (v1.toNatClampNeg)) - (1 : Int32)))) else none) else (if ux_in ((((8 : Int32) * v1) + (N 8 (v1.toNatClampNeg))) - (1 : Int32)) 24 then (fX12_take_113 ((ux_u N 8 (v1.toNatClampNeg) ((N 8 (v1.toNatClampNeg)) - (1 : Int32))) 10 (((((8 : Int32) * v1) + (N 8 (v1.toNatClampNeg))) - (1 : Int32)).toNatClampNeg)) (ux_u N 8 (v1.toNatClampNeg) ((N 8 (v1.toNatClampNeg)) - (1 : Int32)))) else none)) else none) else none) else (some ((-13 : Int32), N))) else none) else none) else (if ux_in v1 3 then (if 0 ≤ (N 8 (v1.toNatClampNeg)) then (fX12_take_51 (-12 : Int32) N) else (fX12_take_51 (-11 : Int32) N)) else none)) else none))))
set_option maxHeartbeats 4000000 in
set_option maxRecDepth 20000 in
theorem wX12_take {X : ux_X} (C : ux_C X cX12_take RX12 4 (some .int) 2 45 shM) {v1 : Int32} {v2 : Int32}  {N : ux_N} {L : ux_L} {o : Int32 × ux_N} (hq : ux_Qi X o.1 o.2 L) (h : fX12_take v1 v2 N = some o) : ux_Wt X 4 0 [(0, .ref (ux_ad X 0)), (1, .int v1), (2, .int v2)] [] N L := by
  refine wt_iload_n 1 1 C dX12_take_0 rfl rfl ?_
  obtain ⟨o1, hc2, h⟩ := Option.bind_eq_some_iff.mp h
  refine wt_callSi 4 [] C ksX12_292 (mX12_isTray (cx_ok C)  hc2) rfl rfl ⟨Nat.le_of_ble_eq_true rfl, Nat.le_of_ble_eq_true rfl⟩ (Nat.le_of_ble_eq_true rfl) dX12_take_1 rfl ?_
  refine wt_if_ne 7 10 C dX12_take_4 rfl (by decide) (fun q3 => ?_) (fun q3 => ?_)
  · have h := (if_neg q3).symm.trans h
    refine wt_iload_n 11 2 C dX12_take_10 rfl rfl ?_
    refine wt_i2l 12 C dX12_take_11 rfl ?_
    refine wt_lconst 13 0 C dX12_take_12 rfl (by decide) ?_
    refine wt_ldc2 16 C tw_1307 dX12_take_13 rfl ?_
    obtain ⟨o4, hc5, h⟩ := Option.bind_eq_some_iff.mp h
    refine wt_callSi 19 [] C ksX12_94 (mX12_in (cx_ok C)  hc5) rfl rfl ⟨Nat.le_of_ble_eq_true rfl, Nat.le_of_ble_eq_true rfl⟩ (Nat.le_of_ble_eq_true rfl) dX12_take_16 rfl ?_
    refine wt_if_ne 22 25 C dX12_take_19 rfl (by decide) (fun q6 => ?_) (fun q6 => ?_)
    · have h := (if_neg q6).symm.trans h
      refine wt_aload_n 26 0 C dX12_take_25 rfl rfl ?_
      refine wt_getR 29 C kfX12_32 sm_0 rfl dX12_take_26 rfl ?_
      refine wt_iload_n 30 1 C dX12_take_29 rfl rfl ?_
      obtain ⟨hi7, h⟩ := ux_guard h
      refine wt_iald 31 (v1.toNatClampNeg) C sm_8 rfl hi7 dX12_take_30 rfl ?_
      refine wt_iconst 32 1 C dX12_take_31 rfl (by decide) ?_
      refine wt_icmp_ge 35 52 C dX12_take_32 rfl (by decide) (fun q8 => ?_) (fun q8 => ?_)
      · have h := (if_pos q8).symm.trans h
        refine wt_bipush 54 8 C dX12_take_52 rfl (by decide) ?_
        refine wt_iload_n 55 1 C dX12_take_54 rfl rfl ?_
        refine wt_imul 56 C dX12_take_55 rfl ?_
        refine wt_aload_n 57 0 C dX12_take_56 rfl rfl ?_
        refine wt_getR 60 C kfX12_32 sm_0 rfl dX12_take_57 rfl ?_
        refine wt_iload_n 61 1 C dX12_take_60 rfl rfl ?_
        obtain ⟨hi9, h⟩ := ux_guard h
        refine wt_iald 62 (v1.toNatClampNeg) C sm_8 rfl hi9 dX12_take_61 rfl ?_
        refine wt_iadd 63 C dX12_take_62 rfl ?_
        refine wt_iconst 64 1 C dX12_take_63 rfl (by decide) ?_
        refine wt_isub 65 C dX12_take_64 rfl ?_
        refine wt_istore_n 66 [(3, .int ((((8 : Int32) * v1) + (N 8 (v1.toNatClampNeg))) - (1 : Int32))), (0, .ref (ux_ad X 0)), (1, .int v1), (2, .int v2)] C dX12_take_65 rfl (by decide) rfl ?_
        refine wt_aload_n 67 1 C dX12_take_66 rfl rfl ?_
        refine wt_getR 70 C kfX12_35 sm_0 rfl dX12_take_67 rfl ?_
        refine wt_iload_n 71 0 C dX12_take_70 rfl rfl ?_
        obtain ⟨hi10, h⟩ := ux_guard h
        refine wt_iald 72 (((((8 : Int32) * v1) + (N 8 (v1.toNatClampNeg))) - (1 : Int32)).toNatClampNeg) C sm_9 rfl hi10 dX12_take_71 rfl ?_
        refine wt_iload_n 73 3 C dX12_take_72 rfl rfl ?_
        refine wt_icmp_eq 76 79 C dX12_take_73 rfl (by decide) (fun q11 => ?_) (fun q11 => ?_)
        · have h := (if_pos q11).symm.trans h
          refine wt_aload_n 80 1 C dX12_take_79 rfl rfl ?_
          refine wt_getR 83 C kfX12_32 sm_0 rfl dX12_take_80 rfl ?_
          refine wt_iload_n 84 2 C dX12_take_83 rfl rfl ?_
          refine wt_dup2 85 C dX12_take_84 rfl rfl rfl ?_
          obtain ⟨hi12, h⟩ := ux_guard h
          refine wt_iald 86 (v1.toNatClampNeg) C sm_8 rfl hi12 dX12_take_85 rfl ?_
          refine wt_iconst 87 1 C dX12_take_86 rfl (by decide) ?_
          refine wt_isub 88 C dX12_take_87 rfl ?_
          obtain ⟨hi13, h⟩ := ux_guard h
          refine wt_iast 89 (v1.toNatClampNeg) C sm_8 rfl hi13 dX12_take_88 rfl ?_
          refine wt_iload_n 90 3 C dX12_take_89 rfl rfl ?_
          refine wt_iconst 91 1 C dX12_take_90 rfl (by decide) ?_
          refine wt_icmp_ne 94 107 C dX12_take_91 rfl (by decide) (fun q14 => ?_) (fun q14 => ?_)
          · have h := (if_neg q14).symm.trans h
            refine wt_aload_n 108 1 C dX12_take_107 rfl rfl ?_
            refine wt_getR 111 C kfX12_38 sm_0 rfl dX12_take_108 rfl ?_
            refine wt_iload_n 112 0 C dX12_take_111 rfl rfl ?_
            obtain ⟨hi15, h⟩ := ux_guard h
            refine wt_iald 113 (((((8 : Int32) * v1) + (N 8 (v1.toNatClampNeg))) - (1 : Int32)).toNatClampNeg) C sm_10 rfl hi15 dX12_take_112 rfl ?_
            refine wt_sub [] rfl ?_
            exact wX12_take_113 C hq h
          · have h := (if_pos q14).symm.trans h
            refine wt_aload_n 95 1 C dX12_take_94 rfl rfl ?_
            refine wt_getR 98 C kfX12_38 sm_0 rfl dX12_take_95 rfl ?_
            refine wt_iload_n 99 0 C dX12_take_98 rfl rfl ?_
            obtain ⟨hi16, h⟩ := ux_guard h
            refine wt_iald 100 (((((8 : Int32) * v1) + (N 8 (v1.toNatClampNeg))) - (1 : Int32)).toNatClampNeg) C sm_10 rfl hi16 dX12_take_99 rfl ?_
            refine wt_ldcw 103 C tw_1430 dX12_take_100 rfl ?_
            refine wt_iadd 104 C dX12_take_103 rfl ?_
            refine wt_sub [] rfl ?_
            exact wX12_take_104 C hq h
        · have h := (if_neg q11).symm.trans h
          refine wt_bipush 78 (-13) C dX12_take_76 rfl (by decide) ?_
          cases h
          exact wt_iret C hq dX12_take_78
      · have h := (if_neg q8).symm.trans h
        refine wt_aload_n 36 0 C dX12_take_35 rfl rfl ?_
        refine wt_getR 39 C kfX12_32 sm_0 rfl dX12_take_36 rfl ?_
        refine wt_iload_n 40 1 C dX12_take_39 rfl rfl ?_
        obtain ⟨hi17, h⟩ := ux_guard h
        refine wt_iald 41 (v1.toNatClampNeg) C sm_8 rfl hi17 dX12_take_40 rfl ?_
        refine wt_if_ge 44 49 C dX12_take_41 rfl (by decide) (fun q18 => ?_) (fun q18 => ?_)
        · have h := (if_pos q18).symm.trans h
          refine wt_bipush 51 (-12) C dX12_take_49 rfl (by decide) ?_
          refine wt_sub [] rfl ?_
          exact wX12_take_51 C hq h
        · have h := (if_neg q18).symm.trans h
          refine wt_bipush 46 (-11) C dX12_take_44 rfl (by decide) ?_
          refine wt_goto 51 C dX12_take_46 (by decide) ?_
          refine wt_sub [] rfl ?_
          exact wX12_take_51 C hq h
    · have h := (if_pos q6).symm.trans h
      refine wt_bipush 24 (-3) C dX12_take_22 rfl (by decide) ?_
      cases h
      exact wt_iret C hq dX12_take_24
  · have h := (if_pos q3).symm.trans h
    refine wt_bipush 9 (-2) C dX12_take_7 rfl (by decide) ?_
    cases h
    exact wt_iret C hq dX12_take_9
theorem mX12_take {l : Launch} {G : ux_G} (hok : ux_ok G shM) {v1 : Int32} {v2 : Int32}  {N : ux_N} {L : ux_L} {o : Int32 × ux_N} (h : fX12_take v1 v2 N = some o) : ux_Mi l G yX12_take cX12_take 4 (some .int) 2 45 [.ref (gad G 0), .int v1, .int v2] N L o.1 o.2 L :=
  ux_ofi shM hok (by decide +kernel) (Nat.le_of_ble_eq_true rfl) (fun X hG hl C hq => by subst hG; subst hl; exact wX12_take C  hq h)
