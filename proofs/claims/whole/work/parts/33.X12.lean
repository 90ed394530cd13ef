theorem dX12_layTried_0 : decode cX12_layTried 0 = .ok (.aload_n 0, 1) := by decide +kernel
theorem dX12_layTried_1 : decode cX12_layTried 1 = .ok (.sipush 8192, 3) := by decide +kernel
theorem dX12_layTried_4 : decode cX12_layTried 4 = .ok (.invokevirtual 207, 3) := by decide +kernel
theorem dX12_layTried_7 : decode cX12_layTried 7 = .ok (.iconst 0, 1) := by decide +kernel
theorem dX12_layTried_8 : decode cX12_layTried 8 = .ok (.istore_n 2, 1) := by decide +kernel
theorem dX12_layTried_9 : decode cX12_layTried 9 = .ok (.iload_n 2, 1) := by decide +kernel
theorem dX12_layTried_10 : decode cX12_layTried 10 = .ok (.aload_n 0, 1) := by decide +kernel
theorem dX12_layTried_11 : decode cX12_layTried 11 = .ok (.getfield 7, 3) := by decide +kernel
theorem dX12_layTried_14 : decode cX12_layTried 14 = .ok (.iconst 0, 1) := by decide +kernel
theorem dX12_layTried_15 : decode cX12_layTried 15 = .ok (.iaload, 1) := by decide +kernel
theorem dX12_layTried_16 : decode cX12_layTried 16 = .ok (.if_icmp .ge 59, 3) := by decide +kernel
theorem dX12_layTried_19 : decode cX12_layTried 19 = .ok (.aload_n 0, 1) := by decide +kernel
theorem dX12_layTried_20 : decode cX12_layTried 20 = .ok (.sipush 8192, 3) := by decide +kernel
theorem dX12_layTried_23 : decode cX12_layTried 23 = .ok (.sipush 8208, 3) := by decide +kernel
theorem dX12_layTried_26 : decode cX12_layTried 26 = .ok (.aload_n 0, 1) := by decide +kernel
theorem dX12_layTried_27 : decode cX12_layTried 27 = .ok (.iload_n 2, 1) := by decide +kernel
theorem dX12_layTried_28 : decode cX12_layTried 28 = .ok (.iload_n 1, 1) := by decide +kernel
theorem dX12_layTried_29 : decode cX12_layTried 29 = .ok (.invokevirtual 210, 3) := by decide +kernel
theorem dX12_layTried_32 : decode cX12_layTried 32 = .ok (.invokevirtual 213, 3) := by decide +kernel
theorem dX12_layTried_35 : decode cX12_layTried 35 = .ok (.iconst 0, 1) := by decide +kernel
theorem dX12_layTried_36 : decode cX12_layTried 36 = .ok (.istore_n 3, 1) := by decide +kernel
theorem dX12_layTried_37 : decode cX12_layTried 37 = .ok (.iload_n 3, 1) := by decide +kernel
theorem dX12_layTried_38 : decode cX12_layTried 38 = .ok (.bipush 16, 2) := by decide +kernel
theorem dX12_layTried_40 : decode cX12_layTried 40 = .ok (.if_icmp .ge 29, 3) := by decide +kernel
theorem dX12_layTried_43 : decode cX12_layTried 43 = .ok (.aload_n 0, 1) := by decide +kernel
theorem dX12_layTried_44 : decode cX12_layTried 44 = .ok (.getfield 54, 3) := by decide +kernel
theorem dX12_layTried_47 : decode cX12_layTried 47 = .ok (.sipush 8192, 3) := by decide +kernel
theorem dX12_layTried_50 : decode cX12_layTried 50 = .ok (.iload_n 3, 1) := by decide +kernel
theorem dX12_layTried_51 : decode cX12_layTried 51 = .ok (.iadd, 1) := by decide +kernel
theorem dX12_layTried_52 : decode cX12_layTried 52 = .ok (.aload_n 0, 1) := by decide +kernel
theorem dX12_layTried_53 : decode cX12_layTried 53 = .ok (.getfield 54, 3) := by decide +kernel
theorem dX12_layTried_56 : decode cX12_layTried 56 = .ok (.sipush 8208, 3) := by decide +kernel
theorem dX12_layTried_59 : decode cX12_layTried 59 = .ok (.iload_n 3, 1) := by decide +kernel
theorem dX12_layTried_60 : decode cX12_layTried 60 = .ok (.iadd, 1) := by decide +kernel
theorem dX12_layTried_61 : decode cX12_layTried 61 = .ok (.laload, 1) := by decide +kernel
theorem dX12_layTried_62 : decode cX12_layTried 62 = .ok (.lastore, 1) := by decide +kernel
theorem dX12_layTried_63 : decode cX12_layTried 63 = .ok (.iinc 3 1, 3) := by decide +kernel
theorem dX12_layTried_66 : decode cX12_layTried 66 = .ok (.goto (-29), 3) := by decide +kernel
theorem dX12_layTried_69 : decode cX12_layTried 69 = .ok (.iinc 2 1, 3) := by decide +kernel
theorem dX12_layTried_72 : decode cX12_layTried 72 = .ok (.goto (-63), 3) := by decide +kernel
theorem dX12_layTried_75 : decode cX12_layTried 75 = .ok (.aload_n 0, 1) := by decide +kernel
theorem dX12_layTried_76 : decode cX12_layTried 76 = .ok (.sipush 8192, 3) := by decide +kernel
theorem dX12_layTried_79 : decode cX12_layTried 79 = .ok (.invokevirtual 217, 3) := by decide +kernel
theorem dX12_layTried_82 : decode cX12_layTried 82 = .ok (.ireturn, 1) := by decide +kernel
theorem dX12_rank_0 : decode cX12_rank 0 = .ok (.aload_n 0, 1) := by decide +kernel
theorem dX12_rank_1 : decode cX12_rank 1 = .ok (.aload_n 0, 1) := by decide +kernel
theorem dX12_rank_2 : decode cX12_rank 2 = .ok (.getfield 7, 3) := by decide +kernel
theorem dX12_rank_5 : decode cX12_rank 5 = .ok (.iconst 2, 1) := by decide +kernel
theorem dX12_rank_6 : decode cX12_rank 6 = .ok (.iaload, 1) := by decide +kernel
theorem dX12_rank_7 : decode cX12_rank 7 = .ok (.invokevirtual 220, 3) := by decide +kernel
theorem dX12_rank_10 : decode cX12_rank 10 = .ok (.ireturn, 1) := by decide +kernel
theorem dX12_tree_0 : decode cX12_tree 0 = .ok (.aload_n 0, 1) := by decide +kernel
theorem dX12_tree_1 : decode cX12_tree 1 = .ok (.invokevirtual 223, 3) := by decide +kernel
theorem dX12_tree_4 : decode cX12_tree 4 = .ok (.istore_n 1, 1) := by decide +kernel
theorem dX12_tree_5 : decode cX12_tree 5 = .ok (.iconst 0, 1) := by decide +kernel
theorem dX12_tree_6 : decode cX12_tree 6 = .ok (.istore_n 2, 1) := by decide +kernel
theorem dX12_tree_7 : decode cX12_tree 7 = .ok (.iload_n 2, 1) := by decide +kernel
theorem dX12_tree_8 : decode cX12_tree 8 = .ok (.iconst 1, 1) := by decide +kernel
theorem dX12_tree_9 : decode cX12_tree 9 = .ok (.aload_n 0, 1) := by decide +kernel
theorem dX12_tree_10 : decode cX12_tree 10 = .ok (.getfield 86, 3) := by decide +kernel
theorem dX12_tree_13 : decode cX12_tree 13 = .ok (.ishl, 1) := by decide +kernel
theorem dX12_tree_14 : decode cX12_tree 14 = .ok (.if_icmp .ge 59, 3) := by decide +kernel
theorem dX12_tree_17 : decode cX12_tree 17 = .ok (.iload_n 2, 1) := by decide +kernel
theorem dX12_tree_18 : decode cX12_tree 18 = .ok (.invokestatic 183, 3) := by decide +kernel
theorem dX12_tree_21 : decode cX12_tree 21 = .ok (.iload_n 1, 1) := by decide +kernel
theorem dX12_tree_22 : decode cX12_tree 22 = .ok (.if_icmp .ne 45, 3) := by decide +kernel
theorem dX12_tree_25 : decode cX12_tree 25 = .ok (.aload_n 0, 1) := by decide +kernel
theorem dX12_tree_26 : decode cX12_tree 26 = .ok (.getfield 54, 3) := by decide +kernel
theorem dX12_tree_29 : decode cX12_tree 29 = .ok (.sipush 8192, 3) := by decide +kernel
theorem dX12_tree_32 : decode cX12_tree 32 = .ok (.iload_n 2, 1) := by decide +kernel
theorem dX12_tree_33 : decode cX12_tree 33 = .ok (.bipush 64, 2) := by decide +kernel
theorem dX12_tree_35 : decode cX12_tree 35 = .ok (.idiv, 1) := by decide +kernel
theorem dX12_tree_36 : decode cX12_tree 36 = .ok (.iadd, 1) := by decide +kernel
theorem dX12_tree_37 : decode cX12_tree 37 = .ok (.laload, 1) := by decide +kernel
theorem dX12_tree_38 : decode cX12_tree 38 = .ok (.aload_n 0, 1) := by decide +kernel
theorem dX12_tree_39 : decode cX12_tree 39 = .ok (.getfield 47, 3) := by decide +kernel
theorem dX12_tree_42 : decode cX12_tree 42 = .ok (.bipush 16, 2) := by decide +kernel
theorem dX12_tree_44 : decode cX12_tree 44 = .ok (.iload_n 1, 1) := by decide +kernel
theorem dX12_tree_45 : decode cX12_tree 45 = .ok (.imul, 1) := by decide +kernel
theorem dX12_tree_46 : decode cX12_tree 46 = .ok (.iload_n 2, 1) := by decide +kernel
theorem dX12_tree_47 : decode cX12_tree 47 = .ok (.bipush 64, 2) := by decide +kernel
theorem dX12_tree_49 : decode cX12_tree 49 = .ok (.idiv, 1) := by decide +kernel
theorem dX12_tree_50 : decode cX12_tree 50 = .ok (.iadd, 1) := by decide +kernel
theorem dX12_tree_51 : decode cX12_tree 51 = .ok (.laload, 1) := by decide +kernel
theorem dX12_tree_52 : decode cX12_tree 52 = .ok (.land, 1) := by decide +kernel
theorem dX12_tree_53 : decode cX12_tree 53 = .ok (.lconst 1, 1) := by decide +kernel
theorem dX12_tree_54 : decode cX12_tree 54 = .ok (.iload_n 2, 1) := by decide +kernel
theorem dX12_tree_55 : decode cX12_tree 55 = .ok (.bipush 64, 2) := by decide +kernel
theorem dX12_tree_57 : decode cX12_tree 57 = .ok (.irem, 1) := by decide +kernel
theorem dX12_tree_58 : decode cX12_tree 58 = .ok (.lshl, 1) := by decide +kernel
theorem dX12_tree_59 : decode cX12_tree 59 = .ok (.land, 1) := by decide +kernel
theorem dX12_tree_60 : decode cX12_tree 60 = .ok (.lconst 0, 1) := by decide +kernel
theorem dX12_tree_61 : decode cX12_tree 61 = .ok (.lcmp, 1) := by decide +kernel
theorem dX12_tree_62 : decode cX12_tree 62 = .ok (.ifCond .eq 5, 3) := by decide +kernel
theorem dX12_tree_65 : decode cX12_tree 65 = .ok (.iload_n 2, 1) := by decide +kernel
theorem dX12_tree_66 : decode cX12_tree 66 = .ok (.ireturn, 1) := by decide +kernel
theorem dX12_tree_67 : decode cX12_tree 67 = .ok (.iinc 2 1, 3) := by decide +kernel
theorem dX12_tree_70 : decode cX12_tree 70 = .ok (.goto (-63), 3) := by decide +kernel
theorem dX12_tree_73 : decode cX12_tree 73 = .ok (.iconst 0, 1) := by decide +kernel
theorem dX12_tree_74 : decode cX12_tree 74 = .ok (.ireturn, 1) := by decide +kernel
theorem dX12_canDo_0 : decode cX12_canDo 0 = .ok (.iload_n 3, 1) := by decide +kernel
theorem dX12_canDo_1 : decode cX12_canDo 1 = .ok (.iconst 1, 1) := by decide +kernel
theorem dX12_canDo_2 : decode cX12_canDo 2 = .ok (.iload_n 1, 1) := by decide +kernel
theorem dX12_canDo_3 : decode cX12_canDo 3 = .ok (.ishl, 1) := by decide +kernel
theorem dX12_canDo_4 : decode cX12_canDo 4 = .ok (.iconst (-1), 1) := by decide +kernel
theorem dX12_canDo_5 : decode cX12_canDo 5 = .ok (.ixor, 1) := by decide +kernel
theorem dX12_canDo_6 : decode cX12_canDo 6 = .ok (.iand, 1) := by decide +kernel
theorem dX12_canDo_7 : decode cX12_canDo 7 = .ok (.istore 5, 2) := by decide +kernel
theorem dX12_canDo_9 : decode cX12_canDo 9 = .ok (.iload_n 3, 1) := by decide +kernel
theorem dX12_canDo_10 : decode cX12_canDo 10 = .ok (.iload_n 1, 1) := by decide +kernel
theorem dX12_canDo_11 : decode cX12_canDo 11 = .ok (.invokestatic 179, 3) := by decide +kernel
theorem dX12_canDo_14 : decode cX12_canDo 14 = .ok (.ifCond .eq 54, 3) := by decide +kernel
theorem dX12_canDo_17 : decode cX12_canDo 17 = .ok (.aload_n 0, 1) := by decide +kernel
theorem dX12_canDo_18 : decode cX12_canDo 18 = .ok (.iload_n 1, 1) := by decide +kernel
theorem dX12_canDo_19 : decode cX12_canDo 19 = .ok (.aload_n 0, 1) := by decide +kernel
theorem dX12_canDo_20 : decode cX12_canDo 20 = .ok (.getfield 7, 3) := by decide +kernel
theorem dX12_canDo_23 : decode cX12_canDo 23 = .ok (.iconst 2, 1) := by decide +kernel
theorem dX12_canDo_24 : decode cX12_canDo 24 = .ok (.iaload, 1) := by decide +kernel
theorem dX12_canDo_25 : decode cX12_canDo 25 = .ok (.invokevirtual 210, 3) := by decide +kernel
theorem dX12_canDo_28 : decode cX12_canDo 28 = .ok (.iload_n 2, 1) := by decide +kernel
theorem dX12_canDo_29 : decode cX12_canDo 29 = .ok (.invokestatic 179, 3) := by decide +kernel
theorem dX12_canDo_32 : decode cX12_canDo 32 = .ok (.ifCond .eq 36, 3) := by decide +kernel
theorem dX12_canDo_35 : decode cX12_canDo 35 = .ok (.aload_n 0, 1) := by decide +kernel
theorem dX12_canDo_36 : decode cX12_canDo 36 = .ok (.getfield 54, 3) := by decide +kernel
theorem dX12_canDo_39 : decode cX12_canDo 39 = .ok (.bipush 16, 2) := by decide +kernel
theorem dX12_canDo_41 : decode cX12_canDo 41 = .ok (.iload 5, 2) := by decide +kernel
theorem dX12_canDo_43 : decode cX12_canDo 43 = .ok (.imul, 1) := by decide +kernel
theorem dX12_canDo_44 : decode cX12_canDo 44 = .ok (.iload 4, 2) := by decide +kernel
theorem dX12_canDo_46 : decode cX12_canDo 46 = .ok (.bipush 64, 2) := by decide +kernel
theorem dX12_canDo_48 : decode cX12_canDo 48 = .ok (.idiv, 1) := by decide +kernel
theorem dX12_canDo_49 : decode cX12_canDo 49 = .ok (.iadd, 1) := by decide +kernel
theorem dX12_canDo_50 : decode cX12_canDo 50 = .ok (.laload, 1) := by decide +kernel
theorem dX12_canDo_51 : decode cX12_canDo 51 = .ok (.iload 4, 2) := by decide +kernel
theorem dX12_canDo_53 : decode cX12_canDo 53 = .ok (.bipush 64, 2) := by decide +kernel
theorem dX12_canDo_55 : decode cX12_canDo 55 = .ok (.irem, 1) := by decide +kernel
theorem dX12_canDo_56 : decode cX12_canDo 56 = .ok (.lshr, 1) := by decide +kernel
theorem dX12_canDo_57 : decode cX12_canDo 57 = .ok (.lconst 1, 1) := by decide +kernel
theorem dX12_canDo_58 : decode cX12_canDo 58 = .ok (.land, 1) := by decide +kernel
theorem dX12_canDo_59 : decode cX12_canDo 59 = .ok (.lconst 1, 1) := by decide +kernel
theorem dX12_canDo_60 : decode cX12_canDo 60 = .ok (.lcmp, 1) := by decide +kernel
theorem dX12_canDo_61 : decode cX12_canDo 61 = .ok (.ifCond .ne 7, 3) := by decide +kernel
theorem dX12_canDo_64 : decode cX12_canDo 64 = .ok (.iconst 1, 1) := by decide +kernel
theorem dX12_canDo_65 : decode cX12_canDo 65 = .ok (.goto 4, 3) := by decide +kernel
theorem dX12_canDo_68 : decode cX12_canDo 68 = .ok (.iconst 0, 1) := by decide +kernel
theorem dX12_canDo_69 : decode cX12_canDo 69 = .ok (.ireturn, 1) := by decide +kernel
theorem dX12_layServes_0 : decode cX12_layServes 0 = .ok (.aload_n 0, 1) := by decide +kernel
theorem dX12_layServes_1 : decode cX12_layServes 1 = .ok (.invokevirtual 226, 3) := by decide +kernel
theorem dX12_layServes_4 : decode cX12_layServes 4 = .ok (.istore_n 1, 1) := by decide +kernel
theorem dX12_layServes_5 : decode cX12_layServes 5 = .ok (.iconst 1, 1) := by decide +kernel
theorem dX12_layServes_6 : decode cX12_layServes 6 = .ok (.aload_n 0, 1) := by decide +kernel
theorem dX12_layServes_7 : decode cX12_layServes 7 = .ok (.getfield 7, 3) := by decide +kernel
theorem dX12_layServes_10 : decode cX12_layServes 10 = .ok (.iconst 0, 1) := by decide +kernel
theorem dX12_layServes_11 : decode cX12_layServes 11 = .ok (.iaload, 1) := by decide +kernel
theorem dX12_layServes_12 : decode cX12_layServes 12 = .ok (.ishl, 1) := by decide +kernel
theorem dX12_layServes_13 : decode cX12_layServes 13 = .ok (.iconst 1, 1) := by decide +kernel
theorem dX12_layServes_14 : decode cX12_layServes 14 = .ok (.isub, 1) := by decide +kernel
theorem dX12_layServes_15 : decode cX12_layServes 15 = .ok (.istore_n 2, 1) := by decide +kernel
theorem dX12_layServes_16 : decode cX12_layServes 16 = .ok (.aload_n 0, 1) := by decide +kernel
theorem dX12_layServes_17 : decode cX12_layServes 17 = .ok (.invokevirtual 229, 3) := by decide +kernel
theorem dX12_layServes_20 : decode cX12_layServes 20 = .ok (.iconst 0, 1) := by decide +kernel
theorem dX12_layServes_21 : decode cX12_layServes 21 = .ok (.istore_n 3, 1) := by decide +kernel
theorem dX12_layServes_22 : decode cX12_layServes 22 = .ok (.iload_n 3, 1) := by decide +kernel
theorem dX12_layServes_23 : decode cX12_layServes 23 = .ok (.bipush 10, 2) := by decide +kernel
theorem dX12_layServes_25 : decode cX12_layServes 25 = .ok (.if_icmp .ge 70, 3) := by decide +kernel
theorem dX12_layServes_28 : decode cX12_layServes 28 = .ok (.aload_n 0, 1) := by decide +kernel
theorem dX12_layServes_29 : decode cX12_layServes 29 = .ok (.getfield 72, 3) := by decide +kernel
theorem dX12_layServes_32 : decode cX12_layServes 32 = .ok (.iload_n 3, 1) := by decide +kernel
theorem dX12_layServes_33 : decode cX12_layServes 33 = .ok (.iconst (-1), 1) := by decide +kernel
theorem dX12_layServes_34 : decode cX12_layServes 34 = .ok (.iastore, 1) := by decide +kernel
theorem dX12_layServes_35 : decode cX12_layServes 35 = .ok (.iload_n 1, 1) := by decide +kernel
theorem dX12_layServes_36 : decode cX12_layServes 36 = .ok (.iload_n 3, 1) := by decide +kernel
theorem dX12_layServes_37 : decode cX12_layServes 37 = .ok (.invokestatic 179, 3) := by decide +kernel
theorem dX12_layServes_40 : decode cX12_layServes 40 = .ok (.ifCond .eq 49, 3) := by decide +kernel
theorem dX12_layServes_43 : decode cX12_layServes 43 = .ok (.iload_n 1, 1) := by decide +kernel
theorem dX12_layServes_44 : decode cX12_layServes 44 = .ok (.iconst 1, 1) := by decide +kernel
theorem dX12_layServes_45 : decode cX12_layServes 45 = .ok (.iload_n 3, 1) := by decide +kernel
theorem dX12_layServes_46 : decode cX12_layServes 46 = .ok (.ishl, 1) := by decide +kernel
theorem dX12_layServes_47 : decode cX12_layServes 47 = .ok (.iconst (-1), 1) := by decide +kernel
theorem dX12_layServes_48 : decode cX12_layServes 48 = .ok (.ixor, 1) := by decide +kernel
theorem dX12_layServes_49 : decode cX12_layServes 49 = .ok (.iand, 1) := by decide +kernel
theorem dX12_layServes_50 : decode cX12_layServes 50 = .ok (.istore_n 1, 1) := by decide +kernel
theorem dX12_layServes_51 : decode cX12_layServes 51 = .ok (.iconst 0, 1) := by decide +kernel
theorem dX12_layServes_52 : decode cX12_layServes 52 = .ok (.istore 4, 2) := by decide +kernel
theorem dX12_layServes_54 : decode cX12_layServes 54 = .ok (.aload_n 0, 1) := by decide +kernel
theorem dX12_layServes_55 : decode cX12_layServes 55 = .ok (.iload 4, 2) := by decide +kernel
theorem dX12_layServes_57 : decode cX12_layServes 57 = .ok (.iload_n 3, 1) := by decide +kernel
theorem dX12_layServes_58 : decode cX12_layServes 58 = .ok (.iload_n 2, 1) := by decide +kernel
theorem dX12_layServes_59 : decode cX12_layServes 59 = .ok (.iload_n 1, 1) := by decide +kernel
theorem dX12_layServes_60 : decode cX12_layServes 60 = .ok (.invokevirtual 232, 3) := by decide +kernel
theorem dX12_layServes_63 : decode cX12_layServes 63 = .ok (.ifCond .ne 9, 3) := by decide +kernel
theorem dX12_layServes_66 : decode cX12_layServes 66 = .ok (.iinc 4 1, 3) := by decide +kernel
theorem dX12_layServes_69 : decode cX12_layServes 69 = .ok (.goto (-15), 3) := by decide +kernel
theorem dX12_layServes_72 : decode cX12_layServes 72 = .ok (.aload_n 0, 1) := by decide +kernel
theorem dX12_layServes_73 : decode cX12_layServes 73 = .ok (.getfield 72, 3) := by decide +kernel
theorem dX12_layServes_76 : decode cX12_layServes 76 = .ok (.iload_n 3, 1) := by decide +kernel
theorem dX12_layServes_77 : decode cX12_layServes 77 = .ok (.iload 4, 2) := by decide +kernel
theorem dX12_layServes_79 : decode cX12_layServes 79 = .ok (.iastore, 1) := by decide +kernel
theorem dX12_layServes_80 : decode cX12_layServes 80 = .ok (.iload_n 2, 1) := by decide +kernel
theorem dX12_layServes_81 : decode cX12_layServes 81 = .ok (.iconst 1, 1) := by decide +kernel
theorem dX12_layServes_82 : decode cX12_layServes 82 = .ok (.iload 4, 2) := by decide +kernel
theorem dX12_layServes_84 : decode cX12_layServes 84 = .ok (.ishl, 1) := by decide +kernel
theorem dX12_layServes_85 : decode cX12_layServes 85 = .ok (.iconst (-1), 1) := by decide +kernel
theorem dX12_layServes_86 : decode cX12_layServes 86 = .ok (.ixor, 1) := by decide +kernel
theorem dX12_layServes_87 : decode cX12_layServes 87 = .ok (.iand, 1) := by decide +kernel
theorem dX12_layServes_88 : decode cX12_layServes 88 = .ok (.istore_n 2, 1) := by decide +kernel
theorem dX12_layServes_89 : decode cX12_layServes 89 = .ok (.iinc 3 1, 3) := by decide +kernel
theorem dX12_layServes_92 : decode cX12_layServes 92 = .ok (.goto (-70), 3) := by decide +kernel
theorem dX12_layServes_95 : decode cX12_layServes 95 = .ok (.return_, 1) := by decide +kernel
theorem dX12_isLine_0 : decode cX12_isLine 0 = .ok (.iload_n 1, 1) := by decide +kernel
theorem dX12_isLine_1 : decode cX12_isLine 1 = .ok (.i2l, 1) := by decide +kernel
theorem dX12_isLine_2 : decode cX12_isLine 2 = .ok (.lconst 0, 1) := by decide +kernel
theorem dX12_isLine_3 : decode cX12_isLine 3 = .ok (.aload_n 0, 1) := by decide +kernel
theorem dX12_isLine_4 : decode cX12_isLine 4 = .ok (.getfield 86, 3) := by decide +kernel
theorem dX12_isLine_7 : decode cX12_isLine 7 = .ok (.iconst 1, 1) := by decide +kernel
theorem dX12_isLine_8 : decode cX12_isLine 8 = .ok (.isub, 1) := by decide +kernel
theorem dX12_isLine_9 : decode cX12_isLine 9 = .ok (.i2l, 1) := by decide +kernel
theorem dX12_isLine_10 : decode cX12_isLine 10 = .ok (.invokestatic 94, 3) := by decide +kernel
theorem dX12_isLine_13 : decode cX12_isLine 13 = .ok (.ireturn, 1) := by decide +kernel
theorem dX12_isNode_0 : decode cX12_isNode 0 = .ok (.iload_n 1, 1) := by decide +kernel
theorem dX12_isNode_1 : decode cX12_isNode 1 = .ok (.i2l, 1) := by decide +kernel
theorem dX12_isNode_2 : decode cX12_isNode 2 = .ok (.lconst 0, 1) := by decide +kernel
theorem dX12_isNode_3 : decode cX12_isNode 3 = .ok (.aload_n 0, 1) := by decide +kernel
theorem dX12_isNode_4 : decode cX12_isNode 4 = .ok (.getfield 82, 3) := by decide +kernel
theorem dX12_isNode_7 : decode cX12_isNode 7 = .ok (.iconst 1, 1) := by decide +kernel
theorem dX12_isNode_8 : decode cX12_isNode 8 = .ok (.isub, 1) := by decide +kernel
theorem dX12_isNode_9 : decode cX12_isNode 9 = .ok (.i2l, 1) := by decide +kernel
theorem dX12_isNode_10 : decode cX12_isNode 10 = .ok (.invokestatic 94, 3) := by decide +kernel
theorem dX12_isNode_13 : decode cX12_isNode 13 = .ok (.ireturn, 1) := by decide +kernel
theorem dX12_isMeter_0 : decode cX12_isMeter 0 = .ok (.iload_n 1, 1) := by decide +kernel
theorem dX12_isMeter_1 : decode cX12_isMeter 1 = .ok (.i2l, 1) := by decide +kernel
theorem dX12_isMeter_2 : decode cX12_isMeter 2 = .ok (.lconst 0, 1) := by decide +kernel
theorem dX12_isMeter_3 : decode cX12_isMeter 3 = .ok (.aload_n 0, 1) := by decide +kernel
theorem dX12_isMeter_4 : decode cX12_isMeter 4 = .ok (.getfield 7, 3) := by decide +kernel
theorem dX12_isMeter_7 : decode cX12_isMeter 7 = .ok (.iconst 0, 1) := by decide +kernel
theorem dX12_isMeter_8 : decode cX12_isMeter 8 = .ok (.iaload, 1) := by decide +kernel
theorem dX12_isMeter_9 : decode cX12_isMeter 9 = .ok (.iconst 1, 1) := by decide +kernel
theorem dX12_isMeter_10 : decode cX12_isMeter 10 = .ok (.isub, 1) := by decide +kernel
theorem dX12_isMeter_11 : decode cX12_isMeter 11 = .ok (.i2l, 1) := by decide +kernel
theorem dX12_isMeter_12 : decode cX12_isMeter 12 = .ok (.invokestatic 94, 3) := by decide +kernel
theorem dX12_isMeter_15 : decode cX12_isMeter 15 = .ok (.ireturn, 1) := by decide +kernel
theorem dX12_isThere_0 : decode cX12_isThere 0 = .ok (.iload_n 1, 1) := by decide +kernel
theorem dX12_isThere_1 : decode cX12_isThere 1 = .ok (.invokestatic 132, 3) := by decide +kernel
theorem dX12_isThere_4 : decode cX12_isThere 4 = .ok (.ifCond .eq 11, 3) := by decide +kernel
theorem dX12_isThere_7 : decode cX12_isThere 7 = .ok (.aload_n 0, 1) := by decide +kernel
theorem dX12_isThere_8 : decode cX12_isThere 8 = .ok (.iload_n 2, 1) := by decide +kernel
theorem dX12_isThere_9 : decode cX12_isThere 9 = .ok (.invokevirtual 236, 3) := by decide +kernel
theorem dX12_isThere_12 : decode cX12_isThere 12 = .ok (.goto 8, 3) := by decide +kernel
theorem dX12_isThere_15 : decode cX12_isThere 15 = .ok (.aload_n 0, 1) := by decide +kernel
theorem dX12_isThere_16 : decode cX12_isThere 16 = .ok (.iload_n 2, 1) := by decide +kernel
theorem dX12_isThere_17 : decode cX12_isThere 17 = .ok (.invokevirtual 239, 3) := by decide +kernel
theorem dX12_isThere_20 : decode cX12_isThere 20 = .ok (.ireturn, 1) := by decide +kernel
theorem dX12_line_0 : decode cX12_line 0 = .ok (.aload_n 0, 1) := by decide +kernel
theorem dX12_line_1 : decode cX12_line 1 = .ok (.iload_n 1, 1) := by decide +kernel
theorem dX12_line_2 : decode cX12_line 2 = .ok (.invokevirtual 236, 3) := by decide +kernel
theorem dX12_line_5 : decode cX12_line 5 = .ok (.ifCond .ne 6, 3) := by decide +kernel
theorem dX12_line_8 : decode cX12_line 8 = .ok (.bipush (-2), 2) := by decide +kernel
theorem dX12_line_10 : decode cX12_line 10 = .ok (.ireturn, 1) := by decide +kernel
theorem dX12_line_11 : decode cX12_line 11 = .ok (.iload_n 2, 1) := by decide +kernel
theorem dX12_line_12 : decode cX12_line 12 = .ok (.tableswitch 78 0 4 #[36, 36, 47, 58, 67], 36) := by decide +kernel
theorem dX12_line_48 : decode cX12_line 48 = .ok (.aload_n 0, 1) := by decide +kernel
theorem dX12_line_49 : decode cX12_line 49 = .ok (.getfield 13, 3) := by decide +kernel
theorem dX12_line_52 : decode cX12_line 52 = .ok (.iconst 2, 1) := by decide +kernel
theorem dX12_line_53 : decode cX12_line 53 = .ok (.iload_n 1, 1) := by decide +kernel
theorem dX12_line_54 : decode cX12_line 54 = .ok (.imul, 1) := by decide +kernel
theorem dX12_line_55 : decode cX12_line 55 = .ok (.iload_n 2, 1) := by decide +kernel
theorem dX12_line_56 : decode cX12_line 56 = .ok (.iadd, 1) := by decide +kernel
theorem dX12_line_57 : decode cX12_line 57 = .ok (.iaload, 1) := by decide +kernel
theorem dX12_line_58 : decode cX12_line 58 = .ok (.ireturn, 1) := by decide +kernel
theorem dX12_line_59 : decode cX12_line 59 = .ok (.aload_n 0, 1) := by decide +kernel
theorem dX12_line_60 : decode cX12_line 60 = .ok (.getfield 7, 3) := by decide +kernel
theorem dX12_line_63 : decode cX12_line 63 = .ok (.iconst 2, 1) := by decide +kernel
theorem dX12_line_64 : decode cX12_line 64 = .ok (.iaload, 1) := by decide +kernel
theorem dX12_line_65 : decode cX12_line 65 = .ok (.iload_n 1, 1) := by decide +kernel
theorem dX12_line_66 : decode cX12_line 66 = .ok (.ishr, 1) := by decide +kernel
theorem dX12_line_67 : decode cX12_line 67 = .ok (.iconst 1, 1) := by decide +kernel
theorem dX12_line_68 : decode cX12_line 68 = .ok (.iand, 1) := by decide +kernel
theorem dX12_line_69 : decode cX12_line 69 = .ok (.ireturn, 1) := by decide +kernel
theorem dX12_line_70 : decode cX12_line 70 = .ok (.aload_n 0, 1) := by decide +kernel
theorem dX12_line_71 : decode cX12_line 71 = .ok (.invokevirtual 226, 3) := by decide +kernel
theorem dX12_line_74 : decode cX12_line 74 = .ok (.iload_n 1, 1) := by decide +kernel
theorem dX12_line_75 : decode cX12_line 75 = .ok (.ishr, 1) := by decide +kernel
theorem dX12_line_76 : decode cX12_line 76 = .ok (.iconst 1, 1) := by decide +kernel
theorem dX12_line_77 : decode cX12_line 77 = .ok (.iand, 1) := by decide +kernel
theorem dX12_line_78 : decode cX12_line 78 = .ok (.ireturn, 1) := by decide +kernel
theorem dX12_line_79 : decode cX12_line 79 = .ok (.aload_n 0, 1) := by decide +kernel
theorem dX12_line_80 : decode cX12_line 80 = .ok (.invokevirtual 242, 3) := by decide +kernel
theorem dX12_line_83 : decode cX12_line 83 = .ok (.aload_n 0, 1) := by decide +kernel
theorem dX12_line_84 : decode cX12_line 84 = .ok (.getfield 72, 3) := by decide +kernel
theorem dX12_line_87 : decode cX12_line 87 = .ok (.iload_n 1, 1) := by decide +kernel
theorem dX12_line_88 : decode cX12_line 88 = .ok (.iaload, 1) := by decide +kernel
theorem dX12_line_89 : decode cX12_line 89 = .ok (.ireturn, 1) := by decide +kernel
theorem dX12_line_90 : decode cX12_line 90 = .ok (.bipush (-3), 2) := by decide +kernel
theorem dX12_line_92 : decode cX12_line 92 = .ok (.ireturn, 1) := by decide +kernel
theorem dX12_lineOf_0 : decode cX12_lineOf 0 = .ok (.aload_n 0, 1) := by decide +kernel
theorem dX12_lineOf_1 : decode cX12_lineOf 1 = .ok (.invokevirtual 242, 3) := by decide +kernel
theorem dX12_lineOf_4 : decode cX12_lineOf 4 = .ok (.iconst (-1), 1) := by decide +kernel
theorem dX12_lineOf_5 : decode cX12_lineOf 5 = .ok (.istore_n 2, 1) := by decide +kernel
theorem dX12_lineOf_6 : decode cX12_lineOf 6 = .ok (.iconst 0, 1) := by decide +kernel
theorem dX12_lineOf_7 : decode cX12_lineOf 7 = .ok (.istore_n 3, 1) := by decide +kernel
theorem dX12_lineOf_8 : decode cX12_lineOf 8 = .ok (.iload_n 3, 1) := by decide +kernel
theorem dX12_lineOf_9 : decode cX12_lineOf 9 = .ok (.aload_n 0, 1) := by decide +kernel
theorem dX12_lineOf_10 : decode cX12_lineOf 10 = .ok (.getfield 86, 3) := by decide +kernel
theorem dX12_lineOf_13 : decode cX12_lineOf 13 = .ok (.if_icmp .ge 25, 3) := by decide +kernel
theorem dX12_lineOf_16 : decode cX12_lineOf 16 = .ok (.aload_n 0, 1) := by decide +kernel
theorem dX12_lineOf_17 : decode cX12_lineOf 17 = .ok (.getfield 72, 3) := by decide +kernel
theorem dX12_lineOf_20 : decode cX12_lineOf 20 = .ok (.iload_n 3, 1) := by decide +kernel
theorem dX12_lineOf_21 : decode cX12_lineOf 21 = .ok (.iaload, 1) := by decide +kernel
theorem dX12_lineOf_22 : decode cX12_lineOf 22 = .ok (.iload_n 1, 1) := by decide +kernel
theorem dX12_lineOf_23 : decode cX12_lineOf 23 = .ok (.if_icmp .ne 7, 3) := by decide +kernel
theorem dX12_lineOf_26 : decode cX12_lineOf 26 = .ok (.iload_n 3, 1) := by decide +kernel
theorem dX12_lineOf_27 : decode cX12_lineOf 27 = .ok (.goto 4, 3) := by decide +kernel
theorem dX12_lineOf_30 : decode cX12_lineOf 30 = .ok (.iload_n 2, 1) := by decide +kernel
theorem dX12_lineOf_31 : decode cX12_lineOf 31 = .ok (.istore_n 2, 1) := by decide +kernel
theorem dX12_lineOf_32 : decode cX12_lineOf 32 = .ok (.iinc 3 1, 3) := by decide +kernel
theorem dX12_lineOf_35 : decode cX12_lineOf 35 = .ok (.goto (-27), 3) := by decide +kernel
theorem dX12_lineOf_38 : decode cX12_lineOf 38 = .ok (.iload_n 2, 1) := by decide +kernel
theorem dX12_lineOf_39 : decode cX12_lineOf 39 = .ok (.ireturn, 1) := by decide +kernel
theorem dX12_isCritical_0 : decode cX12_isCritical 0 = .ok (.aload_n 0, 1) := by decide +kernel
theorem dX12_isCritical_1 : decode cX12_isCritical 1 = .ok (.invokevirtual 229, 3) := by decide +kernel
theorem dX12_isCritical_4 : decode cX12_isCritical 4 = .ok (.iconst 1, 1) := by decide +kernel
theorem dX12_isCritical_5 : decode cX12_isCritical 5 = .ok (.aload_n 0, 1) := by decide +kernel
theorem dX12_isCritical_6 : decode cX12_isCritical 6 = .ok (.getfield 7, 3) := by decide +kernel
theorem dX12_isCritical_9 : decode cX12_isCritical 9 = .ok (.iconst 0, 1) := by decide +kernel
theorem dX12_isCritical_10 : decode cX12_isCritical 10 = .ok (.iaload, 1) := by decide +kernel
theorem dX12_isCritical_11 : decode cX12_isCritical 11 = .ok (.ishl, 1) := by decide +kernel
theorem dX12_isCritical_12 : decode cX12_isCritical 12 = .ok (.iconst 1, 1) := by decide +kernel
theorem dX12_isCritical_13 : decode cX12_isCritical 13 = .ok (.isub, 1) := by decide +kernel
theorem dX12_isCritical_14 : decode cX12_isCritical 14 = .ok (.istore_n 2, 1) := by decide +kernel
theorem dX12_isCritical_15 : decode cX12_isCritical 15 = .ok (.aload_n 0, 1) := by decide +kernel
theorem dX12_isCritical_16 : decode cX12_isCritical 16 = .ok (.bipush 16, 2) := by decide +kernel
theorem dX12_isCritical_18 : decode cX12_isCritical 18 = .ok (.iload_n 2, 1) := by decide +kernel
theorem dX12_isCritical_19 : decode cX12_isCritical 19 = .ok (.iconst 1, 1) := by decide +kernel
theorem dX12_isCritical_20 : decode cX12_isCritical 20 = .ok (.iload_n 1, 1) := by decide +kernel
theorem dX12_isCritical_21 : decode cX12_isCritical 21 = .ok (.ishl, 1) := by decide +kernel
theorem dX12_isCritical_22 : decode cX12_isCritical 22 = .ok (.iconst (-1), 1) := by decide +kernel
theorem dX12_isCritical_23 : decode cX12_isCritical 23 = .ok (.ixor, 1) := by decide +kernel
theorem dX12_isCritical_24 : decode cX12_isCritical 24 = .ok (.iand, 1) := by decide +kernel
theorem dX12_isCritical_25 : decode cX12_isCritical 25 = .ok (.imul, 1) := by decide +kernel
theorem dX12_isCritical_26 : decode cX12_isCritical 26 = .ok (.invokevirtual 217, 3) := by decide +kernel
theorem dX12_isCritical_29 : decode cX12_isCritical 29 = .ok (.aload_n 0, 1) := by decide +kernel
theorem dX12_isCritical_30 : decode cX12_isCritical 30 = .ok (.bipush 16, 2) := by decide +kernel
theorem dX12_isCritical_32 : decode cX12_isCritical 32 = .ok (.iload_n 2, 1) := by decide +kernel
theorem dX12_isCritical_33 : decode cX12_isCritical 33 = .ok (.imul, 1) := by decide +kernel
theorem dX12_isCritical_34 : decode cX12_isCritical 34 = .ok (.invokevirtual 217, 3) := by decide +kernel
theorem dX12_isCritical_37 : decode cX12_isCritical 37 = .ok (.if_icmp .ge 7, 3) := by decide +kernel
theorem dX12_isCritical_40 : decode cX12_isCritical 40 = .ok (.iconst 1, 1) := by decide +kernel
theorem dX12_isCritical_41 : decode cX12_isCritical 41 = .ok (.goto 4, 3) := by decide +kernel
theorem dX12_isCritical_44 : decode cX12_isCritical 44 = .ok (.iconst 0, 1) := by decide +kernel
theorem dX12_isCritical_45 : decode cX12_isCritical 45 = .ok (.ireturn, 1) := by decide +kernel
theorem dX12_meter_0 : decode cX12_meter 0 = .ok (.aload_n 0, 1) := by decide +kernel
theorem dX12_meter_1 : decode cX12_meter 1 = .ok (.iload_n 1, 1) := by decide +kernel
theorem dX12_meter_2 : decode cX12_meter 2 = .ok (.invokevirtual 245, 3) := by decide +kernel
theorem dX12_meter_5 : decode cX12_meter 5 = .ok (.ifCond .ne 6, 3) := by decide +kernel
theorem dX12_meter_8 : decode cX12_meter 8 = .ok (.bipush (-2), 2) := by decide +kernel
theorem dX12_meter_10 : decode cX12_meter 10 = .ok (.ireturn, 1) := by decide +kernel
theorem dX12_meter_11 : decode cX12_meter 11 = .ok (.iload_n 2, 1) := by decide +kernel
theorem dX12_meter_12 : decode cX12_meter 12 = .ok (.tableswitch 94 0 5 #[40, 49, 59, 70, 82, 88], 40) := by decide +kernel
theorem dX12_meter_52 : decode cX12_meter 52 = .ok (.aload_n 0, 1) := by decide +kernel
theorem dX12_meter_53 : decode cX12_meter 53 = .ok (.getfield 7, 3) := by decide +kernel
theorem dX12_meter_56 : decode cX12_meter 56 = .ok (.iconst 3, 1) := by decide +kernel
theorem dX12_meter_57 : decode cX12_meter 57 = .ok (.iload_n 1, 1) := by decide +kernel
theorem dX12_meter_58 : decode cX12_meter 58 = .ok (.iadd, 1) := by decide +kernel
theorem dX12_meter_59 : decode cX12_meter 59 = .ok (.iaload, 1) := by decide +kernel
theorem dX12_meter_60 : decode cX12_meter 60 = .ok (.ireturn, 1) := by decide +kernel
theorem dX12_meter_61 : decode cX12_meter 61 = .ok (.aload_n 0, 1) := by decide +kernel
theorem dX12_meter_62 : decode cX12_meter 62 = .ok (.getfield 7, 3) := by decide +kernel
theorem dX12_meter_65 : decode cX12_meter 65 = .ok (.bipush 12, 2) := by decide +kernel
theorem dX12_meter_67 : decode cX12_meter 67 = .ok (.iload_n 1, 1) := by decide +kernel
theorem dX12_meter_68 : decode cX12_meter 68 = .ok (.iadd, 1) := by decide +kernel
theorem dX12_meter_69 : decode cX12_meter 69 = .ok (.iaload, 1) := by decide +kernel
theorem dX12_meter_70 : decode cX12_meter 70 = .ok (.ireturn, 1) := by decide +kernel
theorem dX12_meter_71 : decode cX12_meter 71 = .ok (.aload_n 0, 1) := by decide +kernel
theorem dX12_meter_72 : decode cX12_meter 72 = .ok (.getfield 7, 3) := by decide +kernel
theorem dX12_meter_75 : decode cX12_meter 75 = .ok (.iconst 1, 1) := by decide +kernel
theorem dX12_meter_76 : decode cX12_meter 76 = .ok (.iaload, 1) := by decide +kernel
theorem dX12_meter_77 : decode cX12_meter 77 = .ok (.iload_n 1, 1) := by decide +kernel
theorem dX12_meter_78 : decode cX12_meter 78 = .ok (.ishr, 1) := by decide +kernel
theorem dX12_meter_79 : decode cX12_meter 79 = .ok (.iconst 1, 1) := by decide +kernel
theorem dX12_meter_80 : decode cX12_meter 80 = .ok (.iand, 1) := by decide +kernel
theorem dX12_meter_81 : decode cX12_meter 81 = .ok (.ireturn, 1) := by decide +kernel
theorem dX12_meter_82 : decode cX12_meter 82 = .ok (.aload_n 0, 1) := by decide +kernel
theorem dX12_meter_83 : decode cX12_meter 83 = .ok (.iload_n 1, 1) := by decide +kernel
theorem dX12_meter_84 : decode cX12_meter 84 = .ok (.aload_n 0, 1) := by decide +kernel
theorem dX12_meter_85 : decode cX12_meter 85 = .ok (.getfield 7, 3) := by decide +kernel
theorem dX12_meter_88 : decode cX12_meter 88 = .ok (.iconst 2, 1) := by decide +kernel
theorem dX12_meter_89 : decode cX12_meter 89 = .ok (.iaload, 1) := by decide +kernel
theorem dX12_meter_90 : decode cX12_meter 90 = .ok (.invokevirtual 210, 3) := by decide +kernel
theorem dX12_meter_93 : decode cX12_meter 93 = .ok (.ireturn, 1) := by decide +kernel
theorem dX12_meter_94 : decode cX12_meter 94 = .ok (.aload_n 0, 1) := by decide +kernel
theorem dX12_meter_95 : decode cX12_meter 95 = .ok (.iload_n 1, 1) := by decide +kernel
theorem dX12_meter_96 : decode cX12_meter 96 = .ok (.invokevirtual 248, 3) := by decide +kernel
theorem dX12_meter_99 : decode cX12_meter 99 = .ok (.ireturn, 1) := by decide +kernel
theorem dX12_meter_100 : decode cX12_meter 100 = .ok (.aload_n 0, 1) := by decide +kernel
theorem dX12_meter_101 : decode cX12_meter 101 = .ok (.iload_n 1, 1) := by decide +kernel
theorem dX12_meter_102 : decode cX12_meter 102 = .ok (.invokevirtual 251, 3) := by decide +kernel
theorem dX12_meter_105 : decode cX12_meter 105 = .ok (.ireturn, 1) := by decide +kernel
theorem dX12_meter_106 : decode cX12_meter 106 = .ok (.bipush (-3), 2) := by decide +kernel
theorem dX12_meter_108 : decode cX12_meter 108 = .ok (.ireturn, 1) := by decide +kernel
theorem dX12_bringsOf_0 : decode cX12_bringsOf 0 = .ok (.aload_n 0, 1) := by decide +kernel
theorem dX12_bringsOf_1 : decode cX12_bringsOf 1 = .ok (.invokevirtual 223, 3) := by decide +kernel
theorem dX12_bringsOf_4 : decode cX12_bringsOf 4 = .ok (.istore_n 3, 1) := by decide +kernel
theorem dX12_bringsOf_5 : decode cX12_bringsOf 5 = .ok (.aload_n 0, 1) := by decide +kernel
theorem dX12_bringsOf_6 : decode cX12_bringsOf 6 = .ok (.sipush 8192, 3) := by decide +kernel
theorem dX12_bringsOf_9 : decode cX12_bringsOf 9 = .ok (.sipush 8208, 3) := by decide +kernel
theorem dX12_bringsOf_12 : decode cX12_bringsOf 12 = .ok (.aload_n 0, 1) := by decide +kernel
theorem dX12_bringsOf_13 : decode cX12_bringsOf 13 = .ok (.iload_n 1, 1) := by decide +kernel
theorem dX12_bringsOf_14 : decode cX12_bringsOf 14 = .ok (.iload_n 2, 1) := by decide +kernel
theorem dX12_bringsOf_15 : decode cX12_bringsOf 15 = .ok (.aload_n 0, 1) := by decide +kernel
theorem dX12_bringsOf_16 : decode cX12_bringsOf 16 = .ok (.getfield 7, 3) := by decide +kernel
theorem dX12_bringsOf_19 : decode cX12_bringsOf 19 = .ok (.iconst 2, 1) := by decide +kernel
theorem dX12_bringsOf_20 : decode cX12_bringsOf 20 = .ok (.iaload, 1) := by decide +kernel
theorem dX12_bringsOf_21 : decode cX12_bringsOf 21 = .ok (.invokevirtual 203, 3) := by decide +kernel
theorem dX12_bringsOf_24 : decode cX12_bringsOf 24 = .ok (.invokevirtual 213, 3) := by decide +kernel
theorem dX12_bringsOf_27 : decode cX12_bringsOf 27 = .ok (.aload_n 0, 1) := by decide +kernel
theorem dX12_bringsOf_28 : decode cX12_bringsOf 28 = .ok (.sipush 8208, 3) := by decide +kernel
theorem dX12_bringsOf_31 : decode cX12_bringsOf 31 = .ok (.invokevirtual 217, 3) := by decide +kernel
theorem dX12_bringsOf_34 : decode cX12_bringsOf 34 = .ok (.iload_n 3, 1) := by decide +kernel
theorem dX12_bringsOf_35 : decode cX12_bringsOf 35 = .ok (.isub, 1) := by decide +kernel
theorem dX12_bringsOf_36 : decode cX12_bringsOf 36 = .ok (.ireturn, 1) := by decide +kernel
theorem dX12_offer_0 : decode cX12_offer 0 = .ok (.iload_n 1, 1) := by decide +kernel
theorem dX12_offer_1 : decode cX12_offer 1 = .ok (.i2l, 1) := by decide +kernel
theorem dX12_offer_2 : decode cX12_offer 2 = .ok (.lconst 0, 1) := by decide +kernel
theorem dX12_offer_3 : decode cX12_offer 3 = .ok (.aload_n 0, 1) := by decide +kernel
theorem dX12_offer_4 : decode cX12_offer 4 = .ok (.getfield 89, 3) := by decide +kernel
theorem dX12_offer_7 : decode cX12_offer 7 = .ok (.iconst 1, 1) := by decide +kernel
theorem dX12_offer_8 : decode cX12_offer 8 = .ok (.isub, 1) := by decide +kernel
theorem dX12_offer_9 : decode cX12_offer 9 = .ok (.i2l, 1) := by decide +kernel
theorem dX12_offer_10 : decode cX12_offer 10 = .ok (.invokestatic 94, 3) := by decide +kernel
theorem dX12_offer_13 : decode cX12_offer 13 = .ok (.ifCond .ne 6, 3) := by decide +kernel
theorem dX12_offer_16 : decode cX12_offer 16 = .ok (.bipush (-2), 2) := by decide +kernel
theorem dX12_offer_18 : decode cX12_offer 18 = .ok (.ireturn, 1) := by decide +kernel
theorem dX12_offer_19 : decode cX12_offer 19 = .ok (.iload_n 2, 1) := by decide +kernel
theorem dX12_offer_20 : decode cX12_offer 20 = .ok (.i2l, 1) := by decide +kernel
theorem dX12_offer_21 : decode cX12_offer 21 = .ok (.lconst 0, 1) := by decide +kernel
theorem dX12_offer_22 : decode cX12_offer 22 = .ok (.ldc2_w 254, 3) := by decide +kernel
theorem dX12_offer_25 : decode cX12_offer 25 = .ok (.invokestatic 94, 3) := by decide +kernel
theorem dX12_offer_28 : decode cX12_offer 28 = .ok (.ifCond .eq 16, 3) := by decide +kernel
theorem dX12_offer_31 : decode cX12_offer 31 = .ok (.aload_n 0, 1) := by decide +kernel
theorem dX12_offer_32 : decode cX12_offer 32 = .ok (.getfield 16, 3) := by decide +kernel
theorem dX12_offer_35 : decode cX12_offer 35 = .ok (.iconst 3, 1) := by decide +kernel
theorem dX12_offer_36 : decode cX12_offer 36 = .ok (.iload_n 1, 1) := by decide +kernel
theorem dX12_offer_37 : decode cX12_offer 37 = .ok (.imul, 1) := by decide +kernel
theorem dX12_offer_38 : decode cX12_offer 38 = .ok (.iload_n 2, 1) := by decide +kernel
theorem dX12_offer_39 : decode cX12_offer 39 = .ok (.iadd, 1) := by decide +kernel
theorem dX12_offer_40 : decode cX12_offer 40 = .ok (.iaload, 1) := by decide +kernel
theorem dX12_offer_41 : decode cX12_offer 41 = .ok (.goto 35, 3) := by decide +kernel
theorem dX12_offer_44 : decode cX12_offer 44 = .ok (.iload_n 2, 1) := by decide +kernel
theorem dX12_offer_45 : decode cX12_offer 45 = .ok (.iconst 3, 1) := by decide +kernel
theorem dX12_offer_46 : decode cX12_offer 46 = .ok (.if_icmp .ne 28, 3) := by decide +kernel
theorem dX12_offer_49 : decode cX12_offer 49 = .ok (.aload_n 0, 1) := by decide +kernel
theorem dX12_offer_50 : decode cX12_offer 50 = .ok (.aload_n 0, 1) := by decide +kernel
theorem dX12_offer_51 : decode cX12_offer 51 = .ok (.getfield 16, 3) := by decide +kernel
theorem dX12_offer_54 : decode cX12_offer 54 = .ok (.iconst 3, 1) := by decide +kernel
theorem dX12_offer_55 : decode cX12_offer 55 = .ok (.iload_n 1, 1) := by decide +kernel
theorem dX12_offer_56 : decode cX12_offer 56 = .ok (.imul, 1) := by decide +kernel
theorem dX12_offer_57 : decode cX12_offer 57 = .ok (.iaload, 1) := by decide +kernel
theorem dX12_offer_58 : decode cX12_offer 58 = .ok (.aload_n 0, 1) := by decide +kernel
theorem dX12_offer_59 : decode cX12_offer 59 = .ok (.getfield 16, 3) := by decide +kernel
theorem dX12_offer_62 : decode cX12_offer 62 = .ok (.iconst 3, 1) := by decide +kernel
theorem dX12_offer_63 : decode cX12_offer 63 = .ok (.iload_n 1, 1) := by decide +kernel
theorem dX12_offer_64 : decode cX12_offer 64 = .ok (.imul, 1) := by decide +kernel
theorem dX12_offer_65 : decode cX12_offer 65 = .ok (.iconst 1, 1) := by decide +kernel
theorem dX12_offer_66 : decode cX12_offer 66 = .ok (.iadd, 1) := by decide +kernel
theorem dX12_offer_67 : decode cX12_offer 67 = .ok (.iaload, 1) := by decide +kernel
theorem dX12_offer_68 : decode cX12_offer 68 = .ok (.invokevirtual 256, 3) := by decide +kernel
theorem dX12_offer_71 : decode cX12_offer 71 = .ok (.goto 5, 3) := by decide +kernel
theorem dX12_offer_74 : decode cX12_offer 74 = .ok (.bipush (-3), 2) := by decide +kernel
theorem dX12_offer_76 : decode cX12_offer 76 = .ok (.ireturn, 1) := by decide +kernel
theorem kvX12_217 : ux_LV RX12 217 12 yX12_rankAt cX12_rankAt 4 (some .int) 1 := ⟨⟨TX12, 31, rfl⟩, tw_1271, tw_1273, tw_53, tw_87, tw_1274, ⟨by decide, by decide, by decide +kernel⟩⟩
theorem kvX12_220 : ux_LV RX12 220 12 yX12_layTried cX12_layTried 4 (some .int) 1 := ⟨⟨TX12, 31, rfl⟩, tw_1235, tw_1237, tw_44, tw_87, tw_1238, ⟨by decide, by decide, by decide +kernel⟩⟩
theorem kvX12_223 : ux_LV RX12 223 12 yX12_rank cX12_rank 1 (some .int) 0 := ⟨⟨TX12, 31, rfl⟩, tw_1231, tw_1233, tw_43, tw_87, tw_1234, ⟨by decide, by decide, by decide +kernel⟩⟩
theorem kvX12_226 : ux_LV RX12 226 12 yX12_tree cX12_tree 3 (some .int) 0 := ⟨⟨TX12, 31, rfl⟩, tw_1227, tw_1229, tw_42, tw_87, tw_1230, ⟨by decide, by decide, by decide +kernel⟩⟩
theorem kvX12_229 : ux_LV RX12 229 12 yX12_layAll cX12_layAll 4 none 0 := ⟨⟨TX12, 31, rfl⟩, tw_1279, tw_1281, tw_55, tw_87, tw_1282, ⟨by decide, by decide, by decide +kernel⟩⟩
theorem kfX12_72 : ux_FL RX12 72 12 30 := ⟨RX12, TX12, 31, rfl, lay_X12, by decide, tw_1086⟩
theorem kvX12_232 : ux_LV RX12 232 12 yX12_canDo cX12_canDo 6 (some .boolean) 4 := ⟨⟨TX12, 31, rfl⟩, tw_1283, tw_1285, tw_56, tw_87, tw_1286, ⟨by decide, by decide, by decide +kernel⟩⟩
theorem kvX12_239 : ux_LV RX12 239 12 yX12_isNode cX12_isNode 2 (some .boolean) 1 := ⟨⟨TX12, 31, rfl⟩, tw_1321, tw_1323, tw_62, tw_87, tw_1324, ⟨by decide, by decide, by decide +kernel⟩⟩
theorem kvX12_236 : ux_LV RX12 236 12 yX12_isLine cX12_isLine 2 (some .boolean) 1 := ⟨⟨TX12, 31, rfl⟩, tw_1223, tw_1225, tw_41, tw_87, tw_1226, ⟨by decide, by decide, by decide +kernel⟩⟩
theorem kvX12_242 : ux_LV RX12 242 12 yX12_layServes cX12_layServes 5 none 0 := ⟨⟨TX12, 31, rfl⟩, tw_1275, tw_1277, tw_54, tw_87, tw_1278, ⟨by decide, by decide, by decide +kernel⟩⟩
theorem kvX12_245 : ux_LV RX12 245 12 yX12_isMeter cX12_isMeter 2 (some .boolean) 1 := ⟨⟨TX12, 31, rfl⟩, tw_1291, tw_1293, tw_57, tw_87, tw_1294, ⟨by decide, by decide, by decide +kernel⟩⟩
theorem kvX12_248 : ux_LV RX12 248 12 yX12_lineOf cX12_lineOf 4 (some .int) 1 := ⟨⟨TX12, 31, rfl⟩, tw_1295, tw_1297, tw_58, tw_87, tw_1298, ⟨by decide, by decide, by decide +kernel⟩⟩
theorem kvX12_251 : ux_LV RX12 251 12 yX12_isCritical cX12_isCritical 3 (some .int) 1 := ⟨⟨TX12, 31, rfl⟩, tw_1299, tw_1301, tw_59, tw_87, tw_1302, ⟨by decide, by decide, by decide +kernel⟩⟩
theorem kvX12_256 : ux_LV RX12 256 12 yX12_bringsOf cX12_bringsOf 4 (some .int) 2 := ⟨⟨TX12, 31, rfl⟩, tw_1308, tw_1310, tw_60, tw_87, tw_1311, ⟨by decide, by decide, by decide +kernel⟩⟩
def fX12_layTried_37b (v1 : Int32) (v2 : Int32) (v3 : Int32) (N : ux_N) (L : ux_L) : Option ((Int32 × ux_L) ⊕ (ux_L)) :=
  if (16 : Int32) ≤ v3 then (some (.inr (L))) else (if ux_in ((8208 : Int32) + v3) 8224 then (if ux_in ((8192 : Int32) + v3) 8224 then (some (.inl ((v3 + 1), (ux_w L 15 (((8192 : Int32) + v3).toNatClampNeg) (L 15 (((8208 : Int32) + v3).toNatClampNeg)))))) else none) else none)
set_option maxHeartbeats 4000000 in
set_option maxRecDepth 20000 in
theorem wX12_layTried_37b {X : ux_X} (C : ux_C X cX12_layTried RX12 4 (some .int) 5 117 shM) {v1 : Int32} {v2 : Int32} {v3 : Int32}  {N : ux_N} {L : ux_L} {o : (Int32 × ux_L) ⊕ (ux_L)} (hin : ∀ s : Int32 × ux_L, o = .inl s → ux_Wt X 4 37 [(0, .ref (ux_ad X 0)), (1, .int v1), (2, .int v2), (3, .int s.1)] [] N s.2) (hex0 : ∀ e : ux_L, o = .inr (e) → ux_Wt X 4 69 [(0, .ref (ux_ad X 0)), (1, .int v1), (2, .int v2)] [] N e) (h : fX12_layTried_37b v1 v2 v3 N L = some o) : ux_Wt X 4 37 [(0, .ref (ux_ad X 0)), (1, .int v1), (2, .int v2), (3, .int v3)] [] N L := by
  refine wt_iload_n 38 3 C dX12_layTried_37 rfl rfl ?_
  refine wt_bipush 40 16 C dX12_layTried_38 rfl (by decide) ?_
  refine wt_icmp_ge 43 69 C dX12_layTried_40 rfl (by decide) (fun q1 => ?_) (fun q1 => ?_)
  · have h := (if_pos q1).symm.trans h
    refine wt_sub [0, 1, 2] rfl ?_
    exact hex0 _ (Option.some.inj h).symm
  · have h := (if_neg q1).symm.trans h
    refine wt_aload_n 44 0 C dX12_layTried_43 rfl rfl ?_
    refine wt_getR 47 C kfX12_54 sm_0 rfl dX12_layTried_44 rfl ?_
    refine wt_sipush 50 8192 C dX12_layTried_47 rfl (by decide) ?_
    refine wt_iload_n 51 3 C dX12_layTried_50 rfl rfl ?_
    refine wt_iadd 52 C dX12_layTried_51 rfl ?_
    refine wt_aload_n 53 0 C dX12_layTried_52 rfl rfl ?_
    refine wt_getR 56 C kfX12_54 sm_0 rfl dX12_layTried_53 rfl ?_
    refine wt_sipush 59 8208 C dX12_layTried_56 rfl (by decide) ?_
    refine wt_iload_n 60 3 C dX12_layTried_59 rfl rfl ?_
    refine wt_iadd 61 C dX12_layTried_60 rfl ?_
    obtain ⟨hi2, h⟩ := ux_guard h
    refine wt_lald 62 (((8208 : Int32) + v3).toNatClampNeg) C sm_15 rfl hi2 dX12_layTried_61 rfl ?_
    obtain ⟨hi3, h⟩ := ux_guard h
    refine wt_last 63 (((8192 : Int32) + v3).toNatClampNeg) C sm_15 rfl hi3 dX12_layTried_62 rfl ?_
    refine wt_iinc 66 3 [(3, .int (v3 + 1)), (0, .ref (ux_ad X 0)), (1, .int v1), (2, .int v2)] (v3 + 1) C dX12_layTried_63 rfl rfl (by rfl) (by decide) rfl ?_
    refine wt_goto 37 C dX12_layTried_66 (by decide) ?_
    refine wt_sub [1, 2, 3, 0] rfl ?_
    exact hin _ (Option.some.inj h).symm
def fX12_layTried_9b (v1 : Int32) (v2 : Int32) (N : ux_N) (L : ux_L) : Option ((Int32 × ux_L) ⊕ (ux_L)) :=
  if (N 1 0) ≤ v2 then (some (.inr (L))) else ((fX12_mayOf v2 v1 N).bind (fun o2 => (fX12_layMore (8192 : Int32) (8208 : Int32) o2 N L).bind (fun o4 => (ux_lp (fun s : Int32 × ux_L => fX12_layTried_37b v1 v2 s.1 N s.2) ux_fu ((0 : Int32), o4)).bind (fun e13 => some (.inl ((v2 + 1), e13))))))
set_option maxHeartbeats 4000000 in
set_option maxRecDepth 20000 in
theorem wX12_layTried_9b {X : ux_X} (C : ux_C X cX12_layTried RX12 4 (some .int) 5 117 shM) {v1 : Int32} {v2 : Int32}  {N : ux_N} {L : ux_L} {o : (Int32 × ux_L) ⊕ (ux_L)} (hin : ∀ s : Int32 × ux_L, o = .inl s → ux_Wt X 4 9 [(0, .ref (ux_ad X 0)), (1, .int v1), (2, .int s.1)] [] N s.2) (hex0 : ∀ e : ux_L, o = .inr (e) → ux_Wt X 4 75 [(0, .ref (ux_ad X 0))] [] N e) (h : fX12_layTried_9b v1 v2 N L = some o) : ux_Wt X 4 9 [(0, .ref (ux_ad X 0)), (1, .int v1), (2, .int v2)] [] N L := by
  refine wt_iload_n 10 2 C dX12_layTried_9 rfl rfl ?_
  refine wt_aload_n 11 0 C dX12_layTried_10 rfl rfl ?_
  refine wt_getR 14 C kfX12_7 sm_0 rfl dX12_layTried_11 rfl ?_
  refine wt_iconst 15 0 C dX12_layTried_14 rfl (by decide) ?_
  refine wt_iald 16 0 C sm_1 (by decide) (by decide) dX12_layTried_15 rfl ?_
  refine wt_icmp_ge 19 75 C dX12_layTried_16 rfl (by decide) (fun q1 => ?_) (fun q1 => ?_)
  · have h := (if_pos q1).symm.trans h
    refine wt_sub [0] rfl ?_
    exact hex0 _ (Option.some.inj h).symm
  · have h := (if_neg q1).symm.trans h
    refine wt_aload_n 20 0 C dX12_layTried_19 rfl rfl ?_
    refine wt_sipush 23 8192 C dX12_layTried_20 rfl (by decide) ?_
    refine wt_sipush 26 8208 C dX12_layTried_23 rfl (by decide) ?_
    refine wt_aload_n 27 0 C dX12_layTried_26 rfl rfl ?_
    refine wt_iload_n 28 2 C dX12_layTried_27 rfl rfl ?_
    refine wt_iload_n 29 1 C dX12_layTried_28 rfl rfl ?_
    obtain ⟨o2, hc3, h⟩ := Option.bind_eq_some_iff.mp h
    refine wt_callVi 32 [.int (8208 : Int32), .int (8192 : Int32), .ref (ux_ad X 0)] C kvX12_210 sm_0 (mX12_mayOf (cx_ok C)  hc3) rfl rfl ⟨Nat.le_of_ble_eq_true rfl, Nat.le_of_ble_eq_true rfl⟩ (Nat.le_of_ble_eq_true rfl) dX12_layTried_29 rfl ?_
    obtain ⟨o4, hc5, h⟩ := Option.bind_eq_some_iff.mp h
    refine wt_callVv 35 [] C kvX12_213 sm_0 (mX12_layMore (cx_ok C)  hc5) rfl rfl ⟨Nat.le_of_ble_eq_true rfl, Nat.le_of_ble_eq_true rfl⟩ (Nat.le_of_ble_eq_true rfl) dX12_layTried_32 rfl ?_
    refine wt_iconst 36 0 C dX12_layTried_35 rfl (by decide) ?_
    refine wt_istore_n 37 [(3, .int (0 : Int32)), (0, .ref (ux_ad X 0)), (1, .int v1), (2, .int v2)] C dX12_layTried_36 rfl (by decide) rfl ?_
    obtain ⟨e6, hl7, h⟩ := Option.bind_eq_some_iff.mp h
    refine wt_sub [1, 2, 3, 0] rfl ?_
    refine ux_loop (fun s : Int32 × ux_L => fX12_layTried_37b v1 v2 s.1 N s.2) (fun s : Int32 × ux_L => ux_Wt X 4 37 [(0, .ref (ux_ad X 0)), (1, .int v1), (2, .int v2), (3, .int s.1)] [] N s.2) (e := e6) ?_ hl7
    intro s8 o9 hb10 hi11 hx12
    refine wX12_layTried_37b C hi11 (fun x0 he => ?_) hb10
    · obtain ⟨e13, rfl⟩ : ∃ z, z = x0 := ⟨_, rfl⟩
      have h9 := hx12 _ he
      subst h9
      refine wt_iinc 72 2 [(2, .int (v2 + 1)), (0, .ref (ux_ad X 0)), (1, .int v1)] (v2 + 1) C dX12_layTried_69 rfl rfl (by rfl) (by decide) rfl ?_
      refine wt_goto 9 C dX12_layTried_72 (by decide) ?_
      refine wt_sub [1, 2, 0] rfl ?_
      exact hin _ (Option.some.inj h).symm
def fX12_layTried (v1 : Int32) (N : ux_N) (L : ux_L) : Option (Int32 × ux_L) :=
  (fX12_layNone (8192 : Int32) L).bind (fun o1 => (ux_lp (fun s : Int32 × ux_L => fX12_layTried_9b v1 s.1 N s.2) ux_fu ((0 : Int32), o1)).bind (fun e10 => (fX12_rankAt (8192 : Int32) e10).bind (fun o11 => some (o11, e10))))
set_option maxHeartbeats 4000000 in
set_option maxRecDepth 20000 in
theorem wX12_layTried {X : ux_X} (C : ux_C X cX12_layTried RX12 4 (some .int) 5 117 shM) {v1 : Int32}  {N : ux_N} {L : ux_L} {o : Int32 × ux_L} (hq : ux_Qi X o.1 N o.2) (h : fX12_layTried v1 N L = some o) : ux_Wt X 4 0 [(0, .ref (ux_ad X 0)), (1, .int v1)] [] N L := by
  refine wt_aload_n 1 0 C dX12_layTried_0 rfl rfl ?_
  refine wt_sipush 4 8192 C dX12_layTried_1 rfl (by decide) ?_
  obtain ⟨o1, hc2, h⟩ := Option.bind_eq_some_iff.mp h
  refine wt_callVv 7 [] C kvX12_207 sm_0 (mX12_layNone (cx_ok C)  hc2) rfl rfl ⟨Nat.le_of_ble_eq_true rfl, Nat.le_of_ble_eq_true rfl⟩ (Nat.le_of_ble_eq_true rfl) dX12_layTried_4 rfl ?_
  refine wt_iconst 8 0 C dX12_layTried_7 rfl (by decide) ?_
  refine wt_istore_n 9 [(2, .int (0 : Int32)), (0, .ref (ux_ad X 0)), (1, .int v1)] C dX12_layTried_8 rfl (by decide) rfl ?_
  obtain ⟨e3, hl4, h⟩ := Option.bind_eq_some_iff.mp h
  refine wt_sub [1, 2, 0] rfl ?_
  refine ux_loop (fun s : Int32 × ux_L => fX12_layTried_9b v1 s.1 N s.2) (fun s : Int32 × ux_L => ux_Wt X 4 9 [(0, .ref (ux_ad X 0)), (1, .int v1), (2, .int s.1)] [] N s.2) (e := e3) ?_ hl4
  intro s5 o6 hb7 hi8 hx9
  refine wX12_layTried_9b C hi8 (fun x0 he => ?_) hb7
  · obtain ⟨e10, rfl⟩ : ∃ z, z = x0 := ⟨_, rfl⟩
    have h9 := hx9 _ he
    subst h9
    refine wt_aload_n 76 0 C dX12_layTried_75 rfl rfl ?_
    refine wt_sipush 79 8192 C dX12_layTried_76 rfl (by decide) ?_
    obtain ⟨o11, hc12, h⟩ := Option.bind_eq_some_iff.mp h
    refine wt_callVi 82 [] C kvX12_217 sm_0 (mX12_rankAt (cx_ok C)  hc12) rfl rfl ⟨Nat.le_of_ble_eq_true rfl, Nat.le_of_ble_eq_true rfl⟩ (Nat.le_of_ble_eq_true rfl) dX12_layTried_79 rfl ?_
    cases h
    exact wt_iret C hq dX12_layTried_82
theorem mX12_layTried {l : Launch} {G : ux_G} (hok : ux_ok G shM) {v1 : Int32}  {N : ux_N} {L : ux_L} {o : Int32 × ux_L} (h : fX12_layTried v1 N L = some o) : ux_Mi l G yX12_layTried cX12_layTried 4 (some .int) 5 117 [.ref (gad G 0), .int v1] N L o.1 N o.2 :=
  ux_ofi shM hok (by decide +kernel) (Nat.le_of_ble_eq_true rfl) (fun X hG hl C hq => by subst hG; subst hl; exact wX12_layTried C  hq h)
def fX12_rank (N : ux_N) (L : ux_L) : Option (Int32 × ux_L) :=
  (fX12_layTried (N 1 2) N L).bind (fun o1 => some (o1.1, o1.2))
set_option maxHeartbeats 4000000 in
set_option maxRecDepth 20000 in
theorem wX12_rank {X : ux_X} (C : ux_C X cX12_rank RX12 1 (some .int) 6 140 shM)   {N : ux_N} {L : ux_L} {o : Int32 × ux_L} (hq : ux_Qi X o.1 N o.2) (h : fX12_rank N L = some o) : ux_Wt X 1 0 [(0, .ref (ux_ad X 0))] [] N L := by
  refine wt_aload_n 1 0 C dX12_rank_0 rfl rfl ?_
  refine wt_aload_n 2 0 C dX12_rank_1 rfl rfl ?_
  refine wt_getR 5 C kfX12_7 sm_0 rfl dX12_rank_2 rfl ?_
  refine wt_iconst 6 2 C dX12_rank_5 rfl (by decide) ?_
  refine wt_iald 7 2 C sm_1 (by decide) (by decide) dX12_rank_6 rfl ?_
  obtain ⟨o1, hc2, h⟩ := Option.bind_eq_some_iff.mp h
  refine wt_callVi 10 [] C kvX12_220 sm_0 (mX12_layTried (cx_ok C)  hc2) rfl rfl ⟨Nat.le_of_ble_eq_true rfl, Nat.le_of_ble_eq_true rfl⟩ (Nat.le_of_ble_eq_true rfl) dX12_rank_7 rfl ?_
  cases h
  exact wt_iret C hq dX12_rank_10
theorem mX12_rank {l : Launch} {G : ux_G} (hok : ux_ok G shM)   {N : ux_N} {L : ux_L} {o : Int32 × ux_L} (h : fX12_rank N L = some o) : ux_Mi l G yX12_rank cX12_rank 1 (some .int) 6 140 [.ref (gad G 0)] N L o.1 N o.2 :=
  ux_ofi shM hok (by decide +kernel) (Nat.le_of_ble_eq_true rfl) (fun X hG hl C hq => by subst hG; subst hl; exact wX12_rank C  hq h)
def fX12_tree_7b_67 (v1 : Int32) (v2 : Int32) (N : ux_N) (L : ux_L) : Option ((Int32) ⊕ ((Int32) ⊕ (Unit))) :=
  some (.inl (v2 + 1))
set_option maxHeartbeats 4000000 in
set_option maxRecDepth 20000 in
theorem wX12_tree_7b_67 {X : ux_X} (C : ux_C X cX12_tree RX12 3 (some .int) 7 160 shM) {v1 : Int32} {v2 : Int32}  {N : ux_N} {L : ux_L} {o : (Int32) ⊕ ((Int32) ⊕ (Unit))} (hin : ∀ s : Int32, o = .inl s → ux_Wt X 3 7 [(0, .ref (ux_ad X 0)), (1, .int v1), (2, .int s)] [] N L) (hex0 : ∀ e : Int32, o = .inr (.inl e) → ux_Wt X 3 65 [(2, .int e)] [] N L) (hex1 : ∀ e : Unit, o = .inr (.inr e) → ux_Wt X 3 73 [] [] N L) (h : fX12_tree_7b_67 v1 v2 N L = some o) : ux_Wt X 3 67 [(0, .ref (ux_ad X 0)), (1, .int v1), (2, .int v2)] [] N L := by
  refine wt_iinc 70 2 [(2, .int (v2 + 1)), (0, .ref (ux_ad X 0)), (1, .int v1)] (v2 + 1) C dX12_tree_67 rfl rfl (by rfl) (by decide) rfl ?_
  refine wt_goto 7 C dX12_tree_70 (by decide) ?_
  refine wt_sub [1, 2, 0] rfl ?_
  exact hin _ (Option.some.inj h).symm
def fX12_tree_7b_60 (v1 : Int32) (v2 : Int32) (s0 : Int64) (N : ux_N) (L : ux_L) : Option ((Int32) ⊕ ((Int32) ⊕ (Unit))) :=
  if (lg_cmp s0 (0 : Int64)) = 0 then (fX12_tree_7b_67 v1 v2 N L) else (some (.inr (.inl v2)))
set_option maxHeartbeats 4000000 in
set_option maxRecDepth 20000 in
theorem wX12_tree_7b_60 {X : ux_X} (C : ux_C X cX12_tree RX12 3 (some .int) 7 160 shM) {v1 : Int32} {v2 : Int32} {s0 : Int64}  {N : ux_N} {L : ux_L} {o : (Int32) ⊕ ((Int32) ⊕ (Unit))} (hin : ∀ s : Int32, o = .inl s → ux_Wt X 3 7 [(0, .ref (ux_ad X 0)), (1, .int v1), (2, .int s)] [] N L) (hex0 : ∀ e : Int32, o = .inr (.inl e) → ux_Wt X 3 65 [(2, .int e)] [] N L) (hex1 : ∀ e : Unit, o = .inr (.inr e) → ux_Wt X 3 73 [] [] N L) (h : fX12_tree_7b_60 v1 v2 s0 N L = some o) : ux_Wt X 3 60 [(0, .ref (ux_ad X 0)), (1, .int v1), (2, .int v2)] [.long s0] N L := by
  refine wt_lconst 61 0 C dX12_tree_60 rfl (by decide) ?_
  refine wt_lcmp 62 C dX12_tree_61 rfl ?_
  refine wt_if_eq 65 67 C dX12_tree_62 rfl (by decide) (fun q1 => ?_) (fun q1 => ?_)
  · have h := (if_pos q1).symm.trans h
    exact wX12_tree_7b_67 C hin hex0 hex1 h
  · have h := (if_neg q1).symm.trans h
    refine wt_sub [2] rfl ?_
    exact hex0 _ (Option.some.inj h).symm
def fX12_tree_7b (v1 : Int32) (v2 : Int32) (N : ux_N) (L : ux_L) : Option ((Int32) ⊕ ((Int32) ⊕ (Unit))) :=
  if ((1 : Int32) <<< ((N 0 2) &&& 31)) ≤ v2 then (some (.inr (.inr ()))) else ((fX12_ones v2).bind (fun o2 => if o2 = v1 then (if ux_in ((8192 : Int32) + (v2 / (64 : Int32))) 8224 then (if ux_in (((16 : Int32) * v1) + (v2 / (64 : Int32))) 128 then (fX12_tree_7b_60 v1 v2 (((L 15 (((8192 : Int32) + (v2 / (64 : Int32))).toNatClampNeg)) &&& (L 13 ((((16 : Int32) * v1) + (v2 / (64 : Int32))).toNatClampNeg))) &&& ((1 : Int64) <<< ((v2 - v2 / (64 : Int32) * (64 : Int32)).toInt64 &&& 63))) N L) else none) else none) else (fX12_tree_7b_67 v1 v2 N L)))
set_option maxHeartbeats 4000000 in
set_option maxRecDepth 20000 in
theorem wX12_tree_7b {X : ux_X} (C : ux_C X cX12_tree RX12 3 (some .int) 7 160 shM) {v1 : Int32} {v2 : Int32}  {N : ux_N} {L : ux_L} {o : (Int32) ⊕ ((Int32) ⊕ (Unit))} (hin : ∀ s : Int32, o = .inl s → ux_Wt X 3 7 [(0, .ref (ux_ad X 0)), (1, .int v1), (2, .int s)] [] N L) (hex0 : ∀ e : Int32, o = .inr (.inl e) → ux_Wt X 3 65 [(2, .int e)] [] N L) (hex1 : ∀ e : Unit, o = .inr (.inr e) → ux_Wt X 3 73 [] [] N L) (h : fX12_tree_7b v1 v2 N L = some o) : ux_Wt X 3 7 [(0, .ref (ux_ad X 0)), (1, .int v1), (2, .int v2)] [] N L := by
  refine wt_iload_n 8 2 C dX12_tree_7 rfl rfl ?_
  refine wt_iconst 9 1 C dX12_tree_8 rfl (by decide) ?_
  refine wt_aload_n 10 0 C dX12_tree_9 rfl rfl ?_
  refine wt_getI 13 C kfX12_86 sm_0 rfl dX12_tree_10 rfl ?_
  refine wt_ishl 14 C dX12_tree_13 rfl ?_
  refine wt_icmp_ge 17 73 C dX12_tree_14 rfl (by decide) (fun q1 => ?_) (fun q1 => ?_)
  · have h := (if_pos q1).symm.trans h
    refine wt_sub [] rfl ?_
    exact hex1 _ (Option.some.inj h).symm
  · have h := (if_neg q1).symm.trans h
    refine wt_iload_n 18 2 C dX12_tree_17 rfl rfl ?_
    obtain ⟨o2, hc3, h⟩ := Option.bind_eq_some_iff.mp h
    refine wt_callSi 21 [] C ksX12_183 (mX12_ones (cx_ok C)  hc3) rfl rfl ⟨Nat.le_of_ble_eq_true rfl, Nat.le_of_ble_eq_true rfl⟩ (Nat.le_of_ble_eq_true rfl) dX12_tree_18 rfl ?_
    refine wt_iload_n 22 1 C dX12_tree_21 rfl rfl ?_
    refine wt_icmp_ne 25 67 C dX12_tree_22 rfl (by decide) (fun q4 => ?_) (fun q4 => ?_)
    · have h := (if_neg q4).symm.trans h
      exact wX12_tree_7b_67 C hin hex0 hex1 h
    · have h := (if_pos q4).symm.trans h
      refine wt_aload_n 26 0 C dX12_tree_25 rfl rfl ?_
      refine wt_getR 29 C kfX12_54 sm_0 rfl dX12_tree_26 rfl ?_
      refine wt_sipush 32 8192 C dX12_tree_29 rfl (by decide) ?_
      refine wt_iload_n 33 2 C dX12_tree_32 rfl rfl ?_
      refine wt_bipush 35 64 C dX12_tree_33 rfl (by decide) ?_
      refine wt_idiv 36 C dX12_tree_35 rfl (by decide) ?_
      refine wt_iadd 37 C dX12_tree_36 rfl ?_
      obtain ⟨hi5, h⟩ := ux_guard h
      refine wt_lald 38 (((8192 : Int32) + (v2 / (64 : Int32))).toNatClampNeg) C sm_15 rfl hi5 dX12_tree_37 rfl ?_
      refine wt_aload_n 39 0 C dX12_tree_38 rfl rfl ?_
      refine wt_getR 42 C kfX12_47 sm_0 rfl dX12_tree_39 rfl ?_
      refine wt_bipush 44 16 C dX12_tree_42 rfl (by decide) ?_
      refine wt_iload_n 45 1 C dX12_tree_44 rfl rfl ?_
      refine wt_imul 46 C dX12_tree_45 rfl ?_
      refine wt_iload_n 47 2 C dX12_tree_46 rfl rfl ?_
      refine wt_bipush 49 64 C dX12_tree_47 rfl (by decide) ?_
      refine wt_idiv 50 C dX12_tree_49 rfl (by decide) ?_
      refine wt_iadd 51 C dX12_tree_50 rfl ?_
      obtain ⟨hi6, h⟩ := ux_guard h
      refine wt_lald 52 ((((16 : Int32) * v1) + (v2 / (64 : Int32))).toNatClampNeg) C sm_13 rfl hi6 dX12_tree_51 rfl ?_
      refine wt_land 53 C dX12_tree_52 rfl ?_
      refine wt_lconst 54 1 C dX12_tree_53 rfl (by decide) ?_
      refine wt_iload_n 55 2 C dX12_tree_54 rfl rfl ?_
      refine wt_bipush 57 64 C dX12_tree_55 rfl (by decide) ?_
      refine wt_irem 58 C dX12_tree_57 rfl (by decide) ?_
      refine wt_lshl 59 C dX12_tree_58 rfl ?_
      refine wt_land 60 C dX12_tree_59 rfl ?_
      exact wX12_tree_7b_60 C hin hex0 hex1 h
def fX12_tree (N : ux_N) (L : ux_L) : Option (Int32 × ux_L) :=
  (fX12_rank N L).bind (fun o1 => (ux_lp (fun s : Int32 => fX12_tree_7b o1.1 s N o1.2) ux_fu (0 : Int32)).bind (Sum.elim (fun e10 => some (e10, o1.2)) (fun e11 => some ((0 : Int32), o1.2))))
set_option maxHeartbeats 4000000 in
set_option maxRecDepth 20000 in
theorem wX12_tree {X : ux_X} (C : ux_C X cX12_tree RX12 3 (some .int) 7 160 shM)   {N : ux_N} {L : ux_L} {o : Int32 × ux_L} (hq : ux_Qi X o.1 N o.2) (h : fX12_tree N L = some o) : ux_Wt X 3 0 [(0, .ref (ux_ad X 0))] [] N L := by
  refine wt_aload_n 1 0 C dX12_tree_0 rfl rfl ?_
  obtain ⟨o1, hc2, h⟩ := Option.bind_eq_some_iff.mp h
  refine wt_callVi 4 [] C kvX12_223 sm_0 (mX12_rank (cx_ok C)  hc2) rfl rfl ⟨Nat.le_of_ble_eq_true rfl, Nat.le_of_ble_eq_true rfl⟩ (Nat.le_of_ble_eq_true rfl) dX12_tree_1 rfl ?_
  refine wt_istore_n 5 [(1, .int o1.1), (0, .ref (ux_ad X 0))] C dX12_tree_4 rfl (by decide) rfl ?_
  refine wt_iconst 6 0 C dX12_tree_5 rfl (by decide) ?_
  refine wt_istore_n 7 [(2, .int (0 : Int32)), (1, .int o1.1), (0, .ref (ux_ad X 0))] C dX12_tree_6 rfl (by decide) rfl ?_
  obtain ⟨e3, hl4, h⟩ := Option.bind_eq_some_iff.mp h
  refine wt_sub [2, 1, 0] rfl ?_
  refine ux_loop (fun s : Int32 => fX12_tree_7b o1.1 s N o1.2) (fun s : Int32 => ux_Wt X 3 7 [(0, .ref (ux_ad X 0)), (1, .int o1.1), (2, .int s)] [] N o1.2) (e := e3) ?_ hl4
  intro s5 o6 hb7 hi8 hx9
  refine wX12_tree_7b C hi8 (fun x0 he => ?_) (fun x1 he => ?_) hb7
  · obtain ⟨e10, rfl⟩ : ∃ z, z = x0 := ⟨_, rfl⟩
    have h9 := hx9 _ he
    subst h9
    refine wt_iload_n 66 0 C dX12_tree_65 rfl rfl ?_
    cases h
    exact wt_iret C hq dX12_tree_66
  · obtain ⟨e11, rfl⟩ : ∃ z, z = x1 := ⟨_, rfl⟩
    have h9 := hx9 _ he
    subst h9
    refine wt_iconst 74 0 C dX12_tree_73 rfl (by decide) ?_
    cases h
    exact wt_iret C hq dX12_tree_74
theorem mX12_tree {l : Launch} {G : ux_G} (hok : ux_ok G shM)   {N : ux_N} {L : ux_L} {o : Int32 × ux_L} (h : fX12_tree N L = some o) : ux_Mi l G yX12_tree cX12_tree 3 (some .int) 7 160 [.ref (gad G 0)] N L o.1 N o.2 :=
  ux_ofi shM hok (by decide +kernel) (Nat.le_of_ble_eq_true rfl) (fun X hG hl C hq => by subst hG; subst hl; exact wX12_tree C  hq h)
def fX12_canDo_69 (s0 : Int32) (N : ux_N) (L : ux_L) : Option (Int32) :=
  if ux_b s0 then (some s0) else none
set_option maxHeartbeats 4000000 in
set_option maxRecDepth 20000 in
theorem wX12_canDo_69 {X : ux_X} (C : ux_C X cX12_canDo RX12 6 (some .boolean) 5 117 shM) {s0 : Int32}  {N : ux_N} {L : ux_L} {o : Int32} (hq : ux_Qi X o N L) (h : fX12_canDo_69 s0 N L = some o) : ux_Wt X 6 69 [] [.int s0] N L := by
  obtain ⟨hb1, h⟩ := ux_guard h
  cases h
  exact wt_zret C (ux_b_n hb1).1 hq dX12_canDo_69
def fX12_canDo_68 (N : ux_N) (L : ux_L) : Option (Int32) :=
  fX12_canDo_69 (0 : Int32) N L
set_option maxHeartbeats 4000000 in
set_option maxRecDepth 20000 in
theorem wX12_canDo_68 {X : ux_X} (C : ux_C X cX12_canDo RX12 6 (some .boolean) 5 117 shM)   {N : ux_N} {L : ux_L} {o : Int32} (hq : ux_Qi X o N L) (h : fX12_canDo_68 N L = some o) : ux_Wt X 6 68 [] [] N L := by
  refine wt_iconst 69 0 C dX12_canDo_68 rfl (by decide) ?_
  exact wX12_canDo_69 C hq h
def fX12_canDo_57 (s0 : Int64) (N : ux_N) (L : ux_L) : Option (Int32) :=
  if (lg_cmp (s0 &&& (1 : Int64)) (1 : Int64)) = 0 then (fX12_canDo_69 (1 : Int32) N L) else (fX12_canDo_68 N L)
set_option maxHeartbeats 4000000 in
set_option maxRecDepth 20000 in
theorem wX12_canDo_57 {X : ux_X} (C : ux_C X cX12_canDo RX12 6 (some .boolean) 5 117 shM) {s0 : Int64}  {N : ux_N} {L : ux_L} {o : Int32} (hq : ux_Qi X o N L) (h : fX12_canDo_57 s0 N L = some o) : ux_Wt X 6 57 [] [.long s0] N L := by
  refine wt_lconst 58 1 C dX12_canDo_57 rfl (by decide) ?_
  refine wt_land 59 C dX12_canDo_58 rfl ?_
  refine wt_lconst 60 1 C dX12_canDo_59 rfl (by decide) ?_
  refine wt_lcmp 61 C dX12_canDo_60 rfl ?_
  refine wt_if_ne 64 68 C dX12_canDo_61 rfl (by decide) (fun q1 => ?_) (fun q1 => ?_)
  · have h := (if_neg q1).symm.trans h
    exact wX12_canDo_68 C hq h
  · have h := (if_pos q1).symm.trans h
    refine wt_iconst 65 1 C dX12_canDo_64 rfl (by decide) ?_
    refine wt_goto 69 C dX12_canDo_65 (by decide) ?_
    exact wX12_canDo_69 C hq h
def fX12_canDo (v1 : Int32) (v2 : Int32) (v3 : Int32) (v4 : Int32) (N : ux_N) (L : ux_L) : Option (Int32) :=
  (fX12_has v3 v1).bind (fun o1 => if o1 = 0 then (fX12_canDo_68 N L) else ((fX12_mayOf v1 (N 1 2) N).bind (fun o4 => (fX12_has o4 v2).bind (fun o6 => if o6 = 0 then (fX12_canDo_68 N L) else (if ux_in (((16 : Int32) * (v3 &&& (((1 : Int32) <<< (v1 &&& 31)) ^^^ (-1 : Int32)))) + (v4 / (64 : Int32))) 8224 then (fX12_canDo_57 ((L 15 ((((16 : Int32) * (v3 &&& (((1 : Int32) <<< (v1 &&& 31)) ^^^ (-1 : Int32)))) + (v4 / (64 : Int32))).toNatClampNeg)) >>> ((v4 - v4 / (64 : Int32) * (64 : Int32)).toInt64 &&& 63)) N L) else none)))))
set_option maxHeartbeats 4000000 in
set_option maxRecDepth 20000 in
theorem wX12_canDo {X : ux_X} (C : ux_C X cX12_canDo RX12 6 (some .boolean) 5 117 shM) {v1 : Int32} {v2 : Int32} {v3 : Int32} {v4 : Int32}  {N : ux_N} {L : ux_L} {o : Int32} (hq : ux_Qi X o N L) (h : fX12_canDo v1 v2 v3 v4 N L = some o) : ux_Wt X 6 0 [(0, .ref (ux_ad X 0)), (1, .int v1), (2, .int v2), (3, .int v3), (4, .int v4)] [] N L := by
  refine wt_iload_n 1 3 C dX12_canDo_0 rfl rfl ?_
  refine wt_iconst 2 1 C dX12_canDo_1 rfl (by decide) ?_
  refine wt_iload_n 3 1 C dX12_canDo_2 rfl rfl ?_
  refine wt_ishl 4 C dX12_canDo_3 rfl ?_
  refine wt_iconst 5 (-1) C dX12_canDo_4 rfl (by decide) ?_
  refine wt_ixor 6 C dX12_canDo_5 rfl ?_
  refine wt_iand 7 C dX12_canDo_6 rfl ?_
  refine wt_istore 9 [(5, .int (v3 &&& (((1 : Int32) <<< (v1 &&& 31)) ^^^ (-1 : Int32)))), (0, .ref (ux_ad X 0)), (1, .int v1), (2, .int v2), (3, .int v3), (4, .int v4)] C dX12_canDo_7 rfl (by decide) rfl ?_
  refine wt_iload_n 10 4 C dX12_canDo_9 rfl rfl ?_
  refine wt_iload_n 11 2 C dX12_canDo_10 rfl rfl ?_
  obtain ⟨o1, hc2, h⟩ := Option.bind_eq_some_iff.mp h
  refine wt_callSi 14 [] C ksX12_179 (mX12_has (cx_ok C)  hc2) rfl rfl ⟨Nat.le_of_ble_eq_true rfl, Nat.le_of_ble_eq_true rfl⟩ (Nat.le_of_ble_eq_true rfl) dX12_canDo_11 rfl ?_
  refine wt_if_eq 17 68 C dX12_canDo_14 rfl (by decide) (fun q3 => ?_) (fun q3 => ?_)
  · have h := (if_pos q3).symm.trans h
    refine wt_sub [] rfl ?_
    exact wX12_canDo_68 C hq h
  · have h := (if_neg q3).symm.trans h
    refine wt_aload_n 18 1 C dX12_canDo_17 rfl rfl ?_
    refine wt_iload_n 19 2 C dX12_canDo_18 rfl rfl ?_
    refine wt_aload_n 20 1 C dX12_canDo_19 rfl rfl ?_
    refine wt_getR 23 C kfX12_7 sm_0 rfl dX12_canDo_20 rfl ?_
    refine wt_iconst 24 2 C dX12_canDo_23 rfl (by decide) ?_
    refine wt_iald 25 2 C sm_1 (by decide) (by decide) dX12_canDo_24 rfl ?_
    obtain ⟨o4, hc5, h⟩ := Option.bind_eq_some_iff.mp h
    refine wt_callVi 28 [] C kvX12_210 sm_0 (mX12_mayOf (cx_ok C)  hc5) rfl rfl ⟨Nat.le_of_ble_eq_true rfl, Nat.le_of_ble_eq_true rfl⟩ (Nat.le_of_ble_eq_true rfl) dX12_canDo_25 rfl ?_
    refine wt_iload_n 29 3 C dX12_canDo_28 rfl rfl ?_
    obtain ⟨o6, hc7, h⟩ := Option.bind_eq_some_iff.mp h
    refine wt_callSi 32 [] C ksX12_179 (mX12_has (cx_ok C)  hc7) rfl rfl ⟨Nat.le_of_ble_eq_true rfl, Nat.le_of_ble_eq_true rfl⟩ (Nat.le_of_ble_eq_true rfl) dX12_canDo_29 rfl ?_
    refine wt_if_eq 35 68 C dX12_canDo_32 rfl (by decide) (fun q8 => ?_) (fun q8 => ?_)
    · have h := (if_pos q8).symm.trans h
      refine wt_sub [] rfl ?_
      exact wX12_canDo_68 C hq h
    · have h := (if_neg q8).symm.trans h
      refine wt_aload_n 36 1 C dX12_canDo_35 rfl rfl ?_
      refine wt_getR 39 C kfX12_54 sm_0 rfl dX12_canDo_36 rfl ?_
      refine wt_bipush 41 16 C dX12_canDo_39 rfl (by decide) ?_
      refine wt_iload 43 0 C dX12_canDo_41 rfl rfl ?_
      refine wt_imul 44 C dX12_canDo_43 rfl ?_
      refine wt_iload 46 5 C dX12_canDo_44 rfl rfl ?_
      refine wt_bipush 48 64 C dX12_canDo_46 rfl (by decide) ?_
      refine wt_idiv 49 C dX12_canDo_48 rfl (by decide) ?_
      refine wt_iadd 50 C dX12_canDo_49 rfl ?_
      obtain ⟨hi9, h⟩ := ux_guard h
      refine wt_lald 51 ((((16 : Int32) * (v3 &&& (((1 : Int32) <<< (v1 &&& 31)) ^^^ (-1 : Int32)))) + (v4 / (64 : Int32))).toNatClampNeg) C sm_15 rfl hi9 dX12_canDo_50 rfl ?_
      refine wt_iload 53 5 C dX12_canDo_51 rfl rfl ?_
      refine wt_bipush 55 64 C dX12_canDo_53 rfl (by decide) ?_
      refine wt_irem 56 C dX12_canDo_55 rfl (by decide) ?_
      refine wt_lshr 57 C dX12_canDo_56 rfl ?_
      refine wt_sub [] rfl ?_
      exact wX12_canDo_57 C hq h
theorem mX12_canDo {l : Launch} {G : ux_G} (hok : ux_ok G shM) {v1 : Int32} {v2 : Int32} {v3 : Int32} {v4 : Int32}  {N : ux_N} {L : ux_L} {o : Int32} (h : fX12_canDo v1 v2 v3 v4 N L = some o) : ux_Mi l G yX12_canDo cX12_canDo 6 (some .boolean) 5 117 [.ref (gad G 0), .int v1, .int v2, .int v3, .int v4] N L o N L :=
  ux_ofi shM hok (by decide +kernel) (Nat.le_of_ble_eq_true rfl) (fun X hG hl C hq => by subst hG; subst hl; exact wX12_canDo C  hq h)
def fX12_layServes_22b_89 (v1 : Int32) (v2 : Int32) (v3 : Int32) (N : ux_N) (L : ux_L) : Option ((Int32 × Int32 × Int32 × ux_N) ⊕ (ux_N)) :=
  some (.inl (v1, v2, (v3 + 1), N))
set_option maxHeartbeats 4000000 in
set_option maxRecDepth 20000 in
theorem wX12_layServes_22b_89 {X : ux_X} (C : ux_C X cX12_layServes RX12 5 none 8 182 shM) {v1 : Int32} {v2 : Int32} {v3 : Int32}  {N : ux_N} {L : ux_L} {o : (Int32 × Int32 × Int32 × ux_N) ⊕ (ux_N)} (hin : ∀ s : Int32 × Int32 × Int32 × ux_N, o = .inl s → ux_Wt X 5 22 [(0, .ref (ux_ad X 0)), (1, .int s.1), (2, .int s.2.1), (3, .int s.2.2.1)] [] s.2.2.2 L) (hex0 : ∀ e : ux_N, o = .inr (e) → ux_Wt X 5 95 [] [] e L) (h : fX12_layServes_22b_89 v1 v2 v3 N L = some o) : ux_Wt X 5 89 [(0, .ref (ux_ad X 0)), (1, .int v1), (2, .int v2), (3, .int v3)] [] N L := by
  refine wt_iinc 92 3 [(3, .int (v3 + 1)), (0, .ref (ux_ad X 0)), (1, .int v1), (2, .int v2)] (v3 + 1) C dX12_layServes_89 rfl rfl (by rfl) (by decide) rfl ?_
  refine wt_goto 22 C dX12_layServes_92 (by decide) ?_
  refine wt_sub [1, 2, 3, 0] rfl ?_
  exact hin _ (Option.some.inj h).symm
def fX12_layServes_54b (v1 : Int32) (v2 : Int32) (v3 : Int32) (v4 : Int32) (N : ux_N) (L : ux_L) : Option ((Int32) ⊕ (Int32)) :=
  (fX12_canDo v4 v3 v2 v1 N L).bind (fun o1 => if o1 = 0 then (some (.inl (v4 + 1))) else (some (.inr (v4))))
set_option maxHeartbeats 4000000 in
set_option maxRecDepth 20000 in
theorem wX12_layServes_54b {X : ux_X} (C : ux_C X cX12_layServes RX12 5 none 8 182 shM) {v1 : Int32} {v2 : Int32} {v3 : Int32} {v4 : Int32}  {N : ux_N} {L : ux_L} {o : (Int32) ⊕ (Int32)} (hin : ∀ s : Int32, o = .inl s → ux_Wt X 5 54 [(0, .ref (ux_ad X 0)), (1, .int v1), (2, .int v2), (3, .int v3), (4, .int s)] [] N L) (hex0 : ∀ e : Int32, o = .inr (e) → ux_Wt X 5 72 [(0, .ref (ux_ad X 0)), (1, .int v1), (2, .int v2), (3, .int v3), (4, .int e)] [] N L) (h : fX12_layServes_54b v1 v2 v3 v4 N L = some o) : ux_Wt X 5 54 [(0, .ref (ux_ad X 0)), (1, .int v1), (2, .int v2), (3, .int v3), (4, .int v4)] [] N L := by
  refine wt_aload_n 55 0 C dX12_layServes_54 rfl rfl ?_
  refine wt_iload 57 4 C dX12_layServes_55 rfl rfl ?_
  refine wt_iload_n 58 3 C dX12_layServes_57 rfl rfl ?_
  refine wt_iload_n 59 2 C dX12_layServes_58 rfl rfl ?_
  refine wt_iload_n 60 1 C dX12_layServes_59 rfl rfl ?_
  obtain ⟨o1, hc2, h⟩ := Option.bind_eq_some_iff.mp h
  refine wt_callVi 63 [] C kvX12_232 sm_0 (mX12_canDo (cx_ok C)  hc2) rfl rfl ⟨Nat.le_of_ble_eq_true rfl, Nat.le_of_ble_eq_true rfl⟩ (Nat.le_of_ble_eq_true rfl) dX12_layServes_60 rfl ?_
  refine wt_if_ne 66 72 C dX12_layServes_63 rfl (by decide) (fun q3 => ?_) (fun q3 => ?_)
  · have h := (if_neg q3).symm.trans h
    exact hex0 _ (Option.some.inj h).symm
  · have h := (if_pos q3).symm.trans h
    refine wt_iinc 69 4 [(4, .int (v4 + 1)), (0, .ref (ux_ad X 0)), (1, .int v1), (2, .int v2), (3, .int v3)] (v4 + 1) C dX12_layServes_66 rfl rfl (by rfl) (by decide) rfl ?_
    refine wt_goto 54 C dX12_layServes_69 (by decide) ?_
    refine wt_sub [1, 2, 3, 4, 0] rfl ?_
    exact hin _ (Option.some.inj h).symm
def fX12_layServes_22b (v1 : Int32) (v2 : Int32) (v3 : Int32) (N : ux_N) (L : ux_L) : Option ((Int32 × Int32 × Int32 × ux_N) ⊕ (ux_N)) :=
  if (10 : Int32) ≤ v3 then (some (.inr (N))) else (if ux_in v3 10 then ((fX12_has v1 v3).bind (fun o3 => if o3 = 0 then (fX12_layServes_22b_89 v1 v2 v3 (ux_u N 17 (v3.toNatClampNeg) (-1 : Int32)) L) else ((ux_lp (fun s : Int32 => fX12_layServes_54b (v1 &&& (((1 : Int32) <<< (v3 &&& 31)) ^^^ (-1 : Int32))) v2 v3 s (ux_u N 17 (v3.toNatClampNeg) (-1 : Int32)) L) ux_fu (0 : Int32)).bind (fun e13 => if ux_in v3 10 then (fX12_layServes_22b_89 (v1 &&& (((1 : Int32) <<< (v3 &&& 31)) ^^^ (-1 : Int32))) (v2 &&& (((1 : Int32) <<< (e13 &&& 31)) ^^^ (-1 : Int32))) v3 (ux_u (ux_u N 17 (v3.toNatClampNeg) (-1 : Int32)) 17 (v3.toNatClampNeg) e13) L) else none)))) else none)
set_option maxHeartbeats 4000000 in
set_option maxRecDepth 20000 in
theorem wX12_layServes_22b {X : ux_X} (C : ux_C X cX12_layServes RX12 5 none 8 182 shM) {v1 : Int32} {v2 : Int32} {v3 : Int32}  {N : ux_N} {L : ux_L} {o : (Int32 × Int32 × Int32 × ux_N) ⊕ (ux_N)} (hin : ∀ s : Int32 × Int32 × Int32 × ux_N, o = .inl s → ux_Wt X 5 22 [(0, .ref (ux_ad X 0)), (1, .int s.1), (2, .int s.2.1), (3, .int s.2.2.1)] [] s.2.2.2 L) (hex0 : ∀ e : ux_N, o = .inr (e) → ux_Wt X 5 95 [] [] e L) (h : fX12_layServes_22b v1 v2 v3 N L = some o) : ux_Wt X 5 22 [(0, .ref (ux_ad X 0)), (1, .int v1), (2, .int v2), (3, .int v3)] [] N L := by
  refine wt_iload_n 23 3 C dX12_layServes_22 rfl rfl ?_
  refine wt_bipush 25 10 C dX12_layServes_23 rfl (by decide) ?_
  refine wt_icmp_ge 28 95 C dX12_layServes_25 rfl (by decide) (fun q1 => ?_) (fun q1 => ?_)
  · have h := (if_pos q1).symm.trans h
    refine wt_sub [] rfl ?_
    exact hex0 _ (Option.some.inj h).symm
  · have h := (if_neg q1).symm.trans h
    refine wt_aload_n 29 0 C dX12_layServes_28 rfl rfl ?_
    refine wt_getR 32 C kfX12_72 sm_0 rfl dX12_layServes_29 rfl ?_
    refine wt_iload_n 33 3 C dX12_layServes_32 rfl rfl ?_
    refine wt_iconst 34 (-1) C dX12_layServes_33 rfl (by decide) ?_
    obtain ⟨hi2, h⟩ := ux_guard h
    refine wt_iast 35 (v3.toNatClampNeg) C sm_17 rfl hi2 dX12_layServes_34 rfl ?_
    refine wt_iload_n 36 1 C dX12_layServes_35 rfl rfl ?_
    refine wt_iload_n 37 3 C dX12_layServes_36 rfl rfl ?_
    obtain ⟨o3, hc4, h⟩ := Option.bind_eq_some_iff.mp h
    refine wt_callSi 40 [] C ksX12_179 (mX12_has (cx_ok C)  hc4) rfl rfl ⟨Nat.le_of_ble_eq_true rfl, Nat.le_of_ble_eq_true rfl⟩ (Nat.le_of_ble_eq_true rfl) dX12_layServes_37 rfl ?_
    refine wt_if_eq 43 89 C dX12_layServes_40 rfl (by decide) (fun q5 => ?_) (fun q5 => ?_)
    · have h := (if_pos q5).symm.trans h
      exact wX12_layServes_22b_89 C hin hex0 h
    · have h := (if_neg q5).symm.trans h
      refine wt_iload_n 44 1 C dX12_layServes_43 rfl rfl ?_
      refine wt_iconst 45 1 C dX12_layServes_44 rfl (by decide) ?_
      refine wt_iload_n 46 3 C dX12_layServes_45 rfl rfl ?_
      refine wt_ishl 47 C dX12_layServes_46 rfl ?_
      refine wt_iconst 48 (-1) C dX12_layServes_47 rfl (by decide) ?_
      refine wt_ixor 49 C dX12_layServes_48 rfl ?_
      refine wt_iand 50 C dX12_layServes_49 rfl ?_
      refine wt_istore_n 51 [(1, .int (v1 &&& (((1 : Int32) <<< (v3 &&& 31)) ^^^ (-1 : Int32)))), (0, .ref (ux_ad X 0)), (2, .int v2), (3, .int v3)] C dX12_layServes_50 rfl (by decide) rfl ?_
      refine wt_iconst 52 0 C dX12_layServes_51 rfl (by decide) ?_
      refine wt_istore 54 [(4, .int (0 : Int32)), (1, .int (v1 &&& (((1 : Int32) <<< (v3 &&& 31)) ^^^ (-1 : Int32)))), (0, .ref (ux_ad X 0)), (2, .int v2), (3, .int v3)] C dX12_layServes_52 rfl (by decide) rfl ?_
      obtain ⟨e6, hl7, h⟩ := Option.bind_eq_some_iff.mp h
      refine wt_sub [2, 1, 3, 4, 0] rfl ?_
      refine ux_loop (fun s : Int32 => fX12_layServes_54b (v1 &&& (((1 : Int32) <<< (v3 &&& 31)) ^^^ (-1 : Int32))) v2 v3 s (ux_u N 17 (v3.toNatClampNeg) (-1 : Int32)) L) (fun s : Int32 => ux_Wt X 5 54 [(0, .ref (ux_ad X 0)), (1, .int (v1 &&& (((1 : Int32) <<< (v3 &&& 31)) ^^^ (-1 : Int32)))), (2, .int v2), (3, .int v3), (4, .int s)] [] (ux_u N 17 (v3.toNatClampNeg) (-1 : Int32)) L) (e := e6) ?_ hl7
      intro s8 o9 hb10 hi11 hx12
      refine wX12_layServes_54b C hi11 (fun x0 he => ?_) hb10
      · obtain ⟨e13, rfl⟩ : ∃ z, z = x0 := ⟨_, rfl⟩
        have h9 := hx12 _ he
        subst h9
        refine wt_aload_n 73 0 C dX12_layServes_72 rfl rfl ?_
        refine wt_getR 76 C kfX12_72 sm_0 rfl dX12_layServes_73 rfl ?_
        refine wt_iload_n 77 3 C dX12_layServes_76 rfl rfl ?_
        refine wt_iload 79 4 C dX12_layServes_77 rfl rfl ?_
        obtain ⟨hi14, h⟩ := ux_guard h
        refine wt_iast 80 (v3.toNatClampNeg) C sm_17 rfl hi14 dX12_layServes_79 rfl ?_
        refine wt_iload_n 81 2 C dX12_layServes_80 rfl rfl ?_
        refine wt_iconst 82 1 C dX12_layServes_81 rfl (by decide) ?_
        refine wt_iload 84 4 C dX12_layServes_82 rfl rfl ?_
        refine wt_ishl 85 C dX12_layServes_84 rfl ?_
        refine wt_iconst 86 (-1) C dX12_layServes_85 rfl (by decide) ?_
        refine wt_ixor 87 C dX12_layServes_86 rfl ?_
        refine wt_iand 88 C dX12_layServes_87 rfl ?_
        refine wt_istore_n 89 [(2, .int (v2 &&& (((1 : Int32) <<< (e13 &&& 31)) ^^^ (-1 : Int32)))), (0, .ref (ux_ad X 0)), (1, .int (v1 &&& (((1 : Int32) <<< (v3 &&& 31)) ^^^ (-1 : Int32)))), (3, .int v3), (4, .int e13)] C dX12_layServes_88 rfl (by decide) rfl ?_
        refine wt_sub [1, 2, 0, 3] rfl ?_
        exact wX12_layServes_22b_89 C hin hex0 h
def fX12_layServes (N : ux_N) (L : ux_L) : Option (ux_N × ux_L) :=
  (fX12_tree N L).bind (fun o1 => (fX12_layAll N o1.2).bind (fun o3 => (ux_lp (fun s : Int32 × Int32 × Int32 × ux_N => fX12_layServes_22b s.1 s.2.1 s.2.2.1 s.2.2.2 o3) ux_fu (o1.1, (((1 : Int32) <<< ((N 1 0) &&& 31)) - (1 : Int32)), (0 : Int32), N)).bind (fun e12 => some (e12, o3))))
set_option maxHeartbeats 4000000 in
set_option maxRecDepth 20000 in
theorem wX12_layServes {X : ux_X} (C : ux_C X cX12_layServes RX12 5 none 8 182 shM)   {N : ux_N} {L : ux_L} {o : ux_N × ux_L} (hq : ux_Qv X o.1 o.2) (h : fX12_layServes N L = some o) : ux_Wt X 5 0 [(0, .ref (ux_ad X 0))] [] N L := by
  refine wt_aload_n 1 0 C dX12_layServes_0 rfl rfl ?_
  obtain ⟨o1, hc2, h⟩ := Option.bind_eq_some_iff.mp h
  refine wt_callVi 4 [] C kvX12_226 sm_0 (mX12_tree (cx_ok C)  hc2) rfl rfl ⟨Nat.le_of_ble_eq_true rfl, Nat.le_of_ble_eq_true rfl⟩ (Nat.le_of_ble_eq_true rfl) dX12_layServes_1 rfl ?_
  refine wt_istore_n 5 [(1, .int o1.1), (0, .ref (ux_ad X 0))] C dX12_layServes_4 rfl (by decide) rfl ?_
  refine wt_iconst 6 1 C dX12_layServes_5 rfl (by decide) ?_
  refine wt_aload_n 7 1 C dX12_layServes_6 rfl rfl ?_
  refine wt_getR 10 C kfX12_7 sm_0 rfl dX12_layServes_7 rfl ?_
  refine wt_iconst 11 0 C dX12_layServes_10 rfl (by decide) ?_
  refine wt_iald 12 0 C sm_1 (by decide) (by decide) dX12_layServes_11 rfl ?_
  refine wt_ishl 13 C dX12_layServes_12 rfl ?_
  refine wt_iconst 14 1 C dX12_layServes_13 rfl (by decide) ?_
  refine wt_isub 15 C dX12_layServes_14 rfl ?_
  refine wt_istore_n 16 [(2, .int (((1 : Int32) <<< ((N 1 0) &&& 31)) - (1 : Int32))), (1, .int o1.1), (0, .ref (ux_ad X 0))] C dX12_layServes_15 rfl (by decide) rfl ?_
  refine wt_aload_n 17 2 C dX12_layServes_16 rfl rfl ?_
  obtain ⟨o3, hc4, h⟩ := Option.bind_eq_some_iff.mp h
  refine wt_callVv 20 [] C kvX12_229 sm_0 (mX12_layAll (cx_ok C)  hc4) rfl rfl ⟨Nat.le_of_ble_eq_true rfl, Nat.le_of_ble_eq_true rfl⟩ (Nat.le_of_ble_eq_true rfl) dX12_layServes_17 rfl ?_
  refine wt_iconst 21 0 C dX12_layServes_20 rfl (by decide) ?_
  refine wt_istore_n 22 [(3, .int (0 : Int32)), (2, .int (((1 : Int32) <<< ((N 1 0) &&& 31)) - (1 : Int32))), (1, .int o1.1), (0, .ref (ux_ad X 0))] C dX12_layServes_21 rfl (by decide) rfl ?_
  obtain ⟨e5, hl6, h⟩ := Option.bind_eq_some_iff.mp h
  refine wt_sub [3, 2, 1, 0] rfl ?_
  refine ux_loop (fun s : Int32 × Int32 × Int32 × ux_N => fX12_layServes_22b s.1 s.2.1 s.2.2.1 s.2.2.2 o3) (fun s : Int32 × Int32 × Int32 × ux_N => ux_Wt X 5 22 [(0, .ref (ux_ad X 0)), (1, .int s.1), (2, .int s.2.1), (3, .int s.2.2.1)] [] s.2.2.2 o3) (e := e5) ?_ hl6
  intro s7 o8 hb9 hi10 hx11
  refine wX12_layServes_22b C hi10 (fun x0 he => ?_) hb9
  · obtain ⟨e12, rfl⟩ : ∃ z, z = x0 := ⟨_, rfl⟩
    have h9 := hx11 _ he
    subst h9
    cases h
    exact wt_vret C hq dX12_layServes_95
theorem mX12_layServes {l : Launch} {G : ux_G} (hok : ux_ok G shM)   {N : ux_N} {L : ux_L} {o : ux_N × ux_L} (h : fX12_layServes N L = some o) : ux_Mv l G yX12_layServes cX12_layServes 5 8 182 [.ref (gad G 0)] N L o.1 o.2 :=
  ux_ofv shM hok (by decide +kernel) (Nat.le_of_ble_eq_true rfl) (fun X hG hl C hq => by subst hG; subst hl; exact wX12_layServes C  hq h)
def fX12_isLine (v1 : Int32) (N : ux_N) : Option (Int32) :=
  (fX12_in (v1.toInt64) (0 : Int64) (((N 0 2) - (1 : Int32)).toInt64)).bind (fun o1 => if ux_b o1 then (some o1) else none)
set_option maxHeartbeats 4000000 in
set_option maxRecDepth 20000 in
theorem wX12_isLine {X : ux_X} (C : ux_C X cX12_isLine RX12 2 (some .boolean) 1 25 shM) {v1 : Int32}  {N : ux_N} {L : ux_L} {o : Int32} (hq : ux_Qi X o N L) (h : fX12_isLine v1 N = some o) : ux_Wt X 2 0 [(0, .ref (ux_ad X 0)), (1, .int v1)] [] N L := by
  refine wt_iload_n 1 1 C dX12_isLine_0 rfl rfl ?_
  refine wt_i2l 2 C dX12_isLine_1 rfl ?_
  refine wt_lconst 3 0 C dX12_isLine_2 rfl (by decide) ?_
  refine wt_aload_n 4 0 C dX12_isLine_3 rfl rfl ?_
  refine wt_getI 7 C kfX12_86 sm_0 rfl dX12_isLine_4 rfl ?_
  refine wt_iconst 8 1 C dX12_isLine_7 rfl (by decide) ?_
  refine wt_isub 9 C dX12_isLine_8 rfl ?_
  refine wt_i2l 10 C dX12_isLine_9 rfl ?_
  obtain ⟨o1, hc2, h⟩ := Option.bind_eq_some_iff.mp h
  refine wt_callSi 13 [] C ksX12_94 (mX12_in (cx_ok C)  hc2) rfl rfl ⟨Nat.le_of_ble_eq_true rfl, Nat.le_of_ble_eq_true rfl⟩ (Nat.le_of_ble_eq_true rfl) dX12_isLine_10 rfl ?_
  obtain ⟨hb3, h⟩ := ux_guard h
  cases h
  exact wt_zret C (ux_b_n hb3).1 hq dX12_isLine_13
theorem mX12_isLine {l : Launch} {G : ux_G} (hok : ux_ok G shM) {v1 : Int32}  {N : ux_N} {L : ux_L} {o : Int32} (h : fX12_isLine v1 N = some o) : ux_Mi l G yX12_isLine cX12_isLine 2 (some .boolean) 1 25 [.ref (gad G 0), .int v1] N L o N L :=
  ux_ofi shM hok (by decide +kernel) (Nat.le_of_ble_eq_true rfl) (fun X hG hl C hq => by subst hG; subst hl; exact wX12_isLine C  hq h)
def fX12_isNode (v1 : Int32) (N : ux_N) : Option (Int32) :=
  (fX12_in (v1.toInt64) (0 : Int64) (((N 0 1) - (1 : Int32)).toInt64)).bind (fun o1 => if ux_b o1 then (some o1) else none)
set_option maxHeartbeats 4000000 in
set_option maxRecDepth 20000 in
theorem wX12_isNode {X : ux_X} (C : ux_C X cX12_isNode RX12 2 (some .boolean) 1 25 shM) {v1 : Int32}  {N : ux_N} {L : ux_L} {o : Int32} (hq : ux_Qi X o N L) (h : fX12_isNode v1 N = some o) : ux_Wt X 2 0 [(0, .ref (ux_ad X 0)), (1, .int v1)] [] N L := by
  refine wt_iload_n 1 1 C dX12_isNode_0 rfl rfl ?_
  refine wt_i2l 2 C dX12_isNode_1 rfl ?_
  refine wt_lconst 3 0 C dX12_isNode_2 rfl (by decide) ?_
  refine wt_aload_n 4 0 C dX12_isNode_3 rfl rfl ?_
  refine wt_getI 7 C kfX12_82 sm_0 rfl dX12_isNode_4 rfl ?_
  refine wt_iconst 8 1 C dX12_isNode_7 rfl (by decide) ?_
  refine wt_isub 9 C dX12_isNode_8 rfl ?_
  refine wt_i2l 10 C dX12_isNode_9 rfl ?_
  obtain ⟨o1, hc2, h⟩ := Option.bind_eq_some_iff.mp h
  refine wt_callSi 13 [] C ksX12_94 (mX12_in (cx_ok C)  hc2) rfl rfl ⟨Nat.le_of_ble_eq_true rfl, Nat.le_of_ble_eq_true rfl⟩ (Nat.le_of_ble_eq_true rfl) dX12_isNode_10 rfl ?_
  obtain ⟨hb3, h⟩ := ux_guard h
  cases h
  exact wt_zret C (ux_b_n hb3).1 hq dX12_isNode_13
theorem mX12_isNode {l : Launch} {G : ux_G} (hok : ux_ok G shM) {v1 : Int32}  {N : ux_N} {L : ux_L} {o : Int32} (h : fX12_isNode v1 N = some o) : ux_Mi l G yX12_isNode cX12_isNode 2 (some .boolean) 1 25 [.ref (gad G 0), .int v1] N L o N L :=
  ux_ofi shM hok (by decide +kernel) (Nat.le_of_ble_eq_true rfl) (fun X hG hl C hq => by subst hG; subst hl; exact wX12_isNode C  hq h)
def fX12_isMeter (v1 : Int32) (N : ux_N) : Option (Int32) :=
  (fX12_in (v1.toInt64) (0 : Int64) (((N 1 0) - (1 : Int32)).toInt64)).bind (fun o1 => if ux_b o1 then (some o1) else none)
set_option maxHeartbeats 4000000 in
set_option maxRecDepth 20000 in
theorem wX12_isMeter {X : ux_X} (C : ux_C X cX12_isMeter RX12 2 (some .boolean) 1 25 shM) {v1 : Int32}  {N : ux_N} {L : ux_L} {o : Int32} (hq : ux_Qi X o N L) (h : fX12_isMeter v1 N = some o) : ux_Wt X 2 0 [(0, .ref (ux_ad X 0)), (1, .int v1)] [] N L := by
  refine wt_iload_n 1 1 C dX12_isMeter_0 rfl rfl ?_
  refine wt_i2l 2 C dX12_isMeter_1 rfl ?_
  refine wt_lconst 3 0 C dX12_isMeter_2 rfl (by decide) ?_
  refine wt_aload_n 4 0 C dX12_isMeter_3 rfl rfl ?_
  refine wt_getR 7 C kfX12_7 sm_0 rfl dX12_isMeter_4 rfl ?_
  refine wt_iconst 8 0 C dX12_isMeter_7 rfl (by decide) ?_
  refine wt_iald 9 0 C sm_1 (by decide) (by decide) dX12_isMeter_8 rfl ?_
  refine wt_iconst 10 1 C dX12_isMeter_9 rfl (by decide) ?_
  refine wt_isub 11 C dX12_isMeter_10 rfl ?_
  refine wt_i2l 12 C dX12_isMeter_11 rfl ?_
  obtain ⟨o1, hc2, h⟩ := Option.bind_eq_some_iff.mp h
  refine wt_callSi 15 [] C ksX12_94 (mX12_in (cx_ok C)  hc2) rfl rfl ⟨Nat.le_of_ble_eq_true rfl, Nat.le_of_ble_eq_true rfl⟩ (Nat.le_of_ble_eq_true rfl) dX12_isMeter_12 rfl ?_
  obtain ⟨hb3, h⟩ := ux_guard h
  cases h
  exact wt_zret C (ux_b_n hb3).1 hq dX12_isMeter_15
theorem mX12_isMeter {l : Launch} {G : ux_G} (hok : ux_ok G shM) {v1 : Int32}  {N : ux_N} {L : ux_L} {o : Int32} (h : fX12_isMeter v1 N = some o) : ux_Mi l G yX12_isMeter cX12_isMeter 2 (some .boolean) 1 25 [.ref (gad G 0), .int v1] N L o N L :=
  ux_ofi shM hok (by decide +kernel) (Nat.le_of_ble_eq_true rfl) (fun X hG hl C hq => by subst hG; subst hl; exact wX12_isMeter C  hq h)
def fX12_isThere_20 (s0 : Int32) (N : ux_N) : Option (Int32) :=
  if ux_b s0 then (some s0) else none
set_option maxHeartbeats 4000000 in
set_option maxRecDepth 20000 in
theorem wX12_isThere_20 {X : ux_X} (C : ux_C X cX12_isThere RX12 3 (some .boolean) 2 46 shM) {s0 : Int32}  {N : ux_N} {L : ux_L} {o : Int32} (hq : ux_Qi X o N L) (h : fX12_isThere_20 s0 N = some o) : ux_Wt X 3 20 [] [.int s0] N L := by
  obtain ⟨hb1, h⟩ := ux_guard h
  cases h
  exact wt_zret C (ux_b_n hb1).1 hq dX12_isThere_20
def fX12_isThere (v1 : Int32) (v2 : Int32) (N : ux_N) : Option (Int32) :=
  (fX12_isOnLine v1).bind (fun o1 => if o1 = 0 then ((fX12_isNode v2 N).bind (fun o4 => fX12_isThere_20 o4 N)) else ((fX12_isLine v2 N).bind (fun o6 => fX12_isThere_20 o6 N)))
set_option maxHeartbeats 4000000 in
set_option maxRecDepth 20000 in
theorem wX12_isThere {X : ux_X} (C : ux_C X cX12_isThere RX12 3 (some .boolean) 2 46 shM) {v1 : Int32} {v2 : Int32}  {N : ux_N} {L : ux_L} {o : Int32} (hq : ux_Qi X o N L) (h : fX12_isThere v1 v2 N = some o) : ux_Wt X 3 0 [(0, .ref (ux_ad X 0)), (1, .int v1), (2, .int v2)] [] N L := by
  refine wt_iload_n 1 1 C dX12_isThere_0 rfl rfl ?_
  obtain ⟨o1, hc2, h⟩ := Option.bind_eq_some_iff.mp h
  refine wt_callSi 4 [] C ksX12_132 (mX12_isOnLine (cx_ok C)  hc2) rfl rfl ⟨Nat.le_of_ble_eq_true rfl, Nat.le_of_ble_eq_true rfl⟩ (Nat.le_of_ble_eq_true rfl) dX12_isThere_1 rfl ?_
  refine wt_if_eq 7 15 C dX12_isThere_4 rfl (by decide) (fun q3 => ?_) (fun q3 => ?_)
  · have h := (if_pos q3).symm.trans h
    refine wt_aload_n 16 0 C dX12_isThere_15 rfl rfl ?_
    refine wt_iload_n 17 2 C dX12_isThere_16 rfl rfl ?_
    obtain ⟨o4, hc5, h⟩ := Option.bind_eq_some_iff.mp h
    refine wt_callVi 20 [] C kvX12_239 sm_0 (mX12_isNode (cx_ok C)  hc5) rfl rfl ⟨Nat.le_of_ble_eq_true rfl, Nat.le_of_ble_eq_true rfl⟩ (Nat.le_of_ble_eq_true rfl) dX12_isThere_17 rfl ?_
    refine wt_sub [] rfl ?_
    exact wX12_isThere_20 C hq h
  · have h := (if_neg q3).symm.trans h
    refine wt_aload_n 8 0 C dX12_isThere_7 rfl rfl ?_
    refine wt_iload_n 9 2 C dX12_isThere_8 rfl rfl ?_
    obtain ⟨o6, hc7, h⟩ := Option.bind_eq_some_iff.mp h
    refine wt_callVi 12 [] C kvX12_236 sm_0 (mX12_isLine (cx_ok C)  hc7) rfl rfl ⟨Nat.le_of_ble_eq_true rfl, Nat.le_of_ble_eq_true rfl⟩ (Nat.le_of_ble_eq_true rfl) dX12_isThere_9 rfl ?_
    refine wt_goto 20 C dX12_isThere_12 (by decide) ?_
    refine wt_sub [] rfl ?_
    exact wX12_isThere_20 C hq h
theorem mX12_isThere {l : Launch} {G : ux_G} (hok : ux_ok G shM) {v1 : Int32} {v2 : Int32}  {N : ux_N} {L : ux_L} {o : Int32} (h : fX12_isThere v1 v2 N = some o) : ux_Mi l G yX12_isThere cX12_isThere 3 (some .boolean) 2 46 [.ref (gad G 0), .int v1, .int v2] N L o N L :=
  ux_ofi shM hok (by decide +kernel) (Nat.le_of_ble_eq_true rfl) (fun X hG hl C hq => by subst hG; subst hl; exact wX12_isThere C  hq h)
def fX12_line (v1 : Int32) (v2 : Int32) (N : ux_N) (L : ux_L) : Option (Int32 × ux_N × ux_L) :=
  (fX12_isLine v1 N).bind (fun o1 => if o1 = 0 then (some ((-2 : Int32), N, L)) else (if v2 = (0 : Int32) then (if ux_in (((2 : Int32) * v1) + v2) 20 then (some ((N 2 ((((2 : Int32) * v1) + v2).toNatClampNeg)), N, L)) else none) else (if v2 = (1 : Int32) then (if ux_in (((2 : Int32) * v1) + v2) 20 then (some ((N 2 ((((2 : Int32) * v1) + v2).toNatClampNeg)), N, L)) else none) else (if v2 = (2 : Int32) then (some ((((N 1 2) >>> (v1 &&& 31)) &&& (1 : Int32)), N, L)) else (if v2 = (3 : Int32) then ((fX12_tree N L).bind (fun o10 => some (((o10.1 >>> (v1 &&& 31)) &&& (1 : Int32)), N, o10.2))) else (if v2 = (4 : Int32) then ((fX12_layServes N L).bind (fun o13 => if ux_in v1 10 then (some ((o13.1 17 (v1.toNatClampNeg)), o13.1, o13.2)) else none)) else (some ((-3 : Int32), N, L))))))))
set_option maxHeartbeats 4000000 in
set_option maxRecDepth 20000 in
theorem wX12_line {X : ux_X} (C : ux_C X cX12_line RX12 3 (some .int) 9 206 shM) {v1 : Int32} {v2 : Int32}  {N : ux_N} {L : ux_L} {o : Int32 × ux_N × ux_L} (hq : ux_Qi X o.1 o.2.1 o.2.2) (h : fX12_line v1 v2 N L = some o) : ux_Wt X 3 0 [(0, .ref (ux_ad X 0)), (1, .int v1), (2, .int v2)] [] N L := by
  refine wt_aload_n 1 0 C dX12_line_0 rfl rfl ?_
  refine wt_iload_n 2 1 C dX12_line_1 rfl rfl ?_
  obtain ⟨o1, hc2, h⟩ := Option.bind_eq_some_iff.mp h
  refine wt_callVi 5 [] C kvX12_236 sm_0 (mX12_isLine (cx_ok C)  hc2) rfl rfl ⟨Nat.le_of_ble_eq_true rfl, Nat.le_of_ble_eq_true rfl⟩ (Nat.le_of_ble_eq_true rfl) dX12_line_2 rfl ?_
  refine wt_if_ne 8 11 C dX12_line_5 rfl (by decide) (fun q3 => ?_) (fun q3 => ?_)
  · have h := (if_neg q3).symm.trans h
    refine wt_iload_n 12 2 C dX12_line_11 rfl rfl ?_
    by_cases q4 : v2 = (0 : Int32)
    · have h := (if_pos q4).symm.trans h
      refine wt_tin 48 (0) C dX12_line_12 q4 (by decide) (by decide) rfl (by decide) ?_
      refine wt_aload_n 49 0 C dX12_line_48 rfl rfl ?_
      refine wt_getR 52 C kfX12_13 sm_0 rfl dX12_line_49 rfl ?_
      refine wt_iconst 53 2 C dX12_line_52 rfl (by decide) ?_
      refine wt_iload_n 54 1 C dX12_line_53 rfl rfl ?_
      refine wt_imul 55 C dX12_line_54 rfl ?_
      refine wt_iload_n 56 2 C dX12_line_55 rfl rfl ?_
      refine wt_iadd 57 C dX12_line_56 rfl ?_
      obtain ⟨hi5, h⟩ := ux_guard h
      refine wt_iald 58 ((((2 : Int32) * v1) + v2).toNatClampNeg) C sm_2 rfl hi5 dX12_line_57 rfl ?_
      cases h
      exact wt_iret C hq dX12_line_58
    have h := (if_neg q4).symm.trans h
    by_cases q6 : v2 = (1 : Int32)
    · have h := (if_pos q6).symm.trans h
      refine wt_tin 48 (1) C dX12_line_12 q6 (by decide) (by decide) rfl (by decide) ?_
      refine wt_aload_n 49 0 C dX12_line_48 rfl rfl ?_
      refine wt_getR 52 C kfX12_13 sm_0 rfl dX12_line_49 rfl ?_
      refine wt_iconst 53 2 C dX12_line_52 rfl (by decide) ?_
      refine wt_iload_n 54 1 C dX12_line_53 rfl rfl ?_
      refine wt_imul 55 C dX12_line_54 rfl ?_
      refine wt_iload_n 56 2 C dX12_line_55 rfl rfl ?_
      refine wt_iadd 57 C dX12_line_56 rfl ?_
      obtain ⟨hi7, h⟩ := ux_guard h
      refine wt_iald 58 ((((2 : Int32) * v1) + v2).toNatClampNeg) C sm_2 rfl hi7 dX12_line_57 rfl ?_
      cases h
      exact wt_iret C hq dX12_line_58
    have h := (if_neg q6).symm.trans h
    by_cases q8 : v2 = (2 : Int32)
    · have h := (if_pos q8).symm.trans h
      refine wt_tin 59 (2) C dX12_line_12 q8 (by decide) (by decide) rfl (by decide) ?_
      refine wt_aload_n 60 0 C dX12_line_59 rfl rfl ?_
      refine wt_getR 63 C kfX12_7 sm_0 rfl dX12_line_60 rfl ?_
      refine wt_iconst 64 2 C dX12_line_63 rfl (by decide) ?_
      refine wt_iald 65 2 C sm_1 (by decide) (by decide) dX12_line_64 rfl ?_
      refine wt_iload_n 66 1 C dX12_line_65 rfl rfl ?_
      refine wt_ishr 67 C dX12_line_66 rfl ?_
      refine wt_iconst 68 1 C dX12_line_67 rfl (by decide) ?_
      refine wt_iand 69 C dX12_line_68 rfl ?_
      cases h
      exact wt_iret C hq dX12_line_69
    have h := (if_neg q8).symm.trans h
    by_cases q9 : v2 = (3 : Int32)
    · have h := (if_pos q9).symm.trans h
      refine wt_tin 70 (3) C dX12_line_12 q9 (by decide) (by decide) rfl (by decide) ?_
      refine wt_aload_n 71 0 C dX12_line_70 rfl rfl ?_
      obtain ⟨o10, hc11, h⟩ := Option.bind_eq_some_iff.mp h
      refine wt_callVi 74 [] C kvX12_226 sm_0 (mX12_tree (cx_ok C)  hc11) rfl rfl ⟨Nat.le_of_ble_eq_true rfl, Nat.le_of_ble_eq_true rfl⟩ (Nat.le_of_ble_eq_true rfl) dX12_line_71 rfl ?_
      refine wt_iload_n 75 1 C dX12_line_74 rfl rfl ?_
      refine wt_ishr 76 C dX12_line_75 rfl ?_
      refine wt_iconst 77 1 C dX12_line_76 rfl (by decide) ?_
      refine wt_iand 78 C dX12_line_77 rfl ?_
      cases h
      exact wt_iret C hq dX12_line_78
    have h := (if_neg q9).symm.trans h
    by_cases q12 : v2 = (4 : Int32)
    · have h := (if_pos q12).symm.trans h
      refine wt_tin 79 (4) C dX12_line_12 q12 (by decide) (by decide) rfl (by decide) ?_
      refine wt_aload_n 80 0 C dX12_line_79 rfl rfl ?_
      obtain ⟨o13, hc14, h⟩ := Option.bind_eq_some_iff.mp h
      refine wt_callVv 83 [] C kvX12_242 sm_0 (mX12_layServes (cx_ok C)  hc14) rfl rfl ⟨Nat.le_of_ble_eq_true rfl, Nat.le_of_ble_eq_true rfl⟩ (Nat.le_of_ble_eq_true rfl) dX12_line_80 rfl ?_
      refine wt_aload_n 84 0 C dX12_line_83 rfl rfl ?_
      refine wt_getR 87 C kfX12_72 sm_0 rfl dX12_line_84 rfl ?_
      refine wt_iload_n 88 1 C dX12_line_87 rfl rfl ?_
      obtain ⟨hi15, h⟩ := ux_guard h
      refine wt_iald 89 (v1.toNatClampNeg) C sm_17 rfl hi15 dX12_line_88 rfl ?_
      cases h
      exact wt_iret C hq dX12_line_89
    have h := (if_neg q12).symm.trans h
    refine wt_tout 90 C dX12_line_12 (by have z0 := lv_neT q4 (show (0 : Int32).toInt = 0 from by decide); have z1 := lv_neT q6 (show (1 : Int32).toInt = 1 from by decide); have z2 := lv_neT q8 (show (2 : Int32).toInt = 2 from by decide); have z3 := lv_neT q9 (show (3 : Int32).toInt = 3 from by decide); have z4 := lv_neT q12 (show (4 : Int32).toInt = 4 from by decide); omega) (by decide) ?_
    refine wt_bipush 92 (-3) C dX12_line_90 rfl (by decide) ?_
    cases h
    exact wt_iret C hq dX12_line_92
  · have h := (if_pos q3).symm.trans h
    refine wt_bipush 10 (-2) C dX12_line_8 rfl (by decide) ?_
    cases h
    exact wt_iret C hq dX12_line_10
theorem mX12_line {l : Launch} {G : ux_G} (hok : ux_ok G shM) {v1 : Int32} {v2 : Int32}  {N : ux_N} {L : ux_L} {o : Int32 × ux_N × ux_L} (h : fX12_line v1 v2 N L = some o) : ux_Mi l G yX12_line cX12_line 3 (some .int) 9 206 [.ref (gad G 0), .int v1, .int v2] N L o.1 o.2.1 o.2.2 :=
  ux_ofi shM hok (by decide +kernel) (Nat.le_of_ble_eq_true rfl) (fun X hG hl C hq => by subst hG; subst hl; exact wX12_line C  hq h)
def fX12_lineOf_8b_31 (v1 : Int32) (v3 : Int32) (s0 : Int32) (N : ux_N) (L : ux_L) : Option ((Int32 × Int32) ⊕ (Int32)) :=
  some (.inl (s0, (v3 + 1)))
set_option maxHeartbeats 4000000 in
set_option maxRecDepth 20000 in
theorem wX12_lineOf_8b_31 {X : ux_X} (C : ux_C X cX12_lineOf RX12 4 (some .int) 9 206 shM) {v1 : Int32} {v3 : Int32} {s0 : Int32}  {N : ux_N} {L : ux_L} {o : (Int32 × Int32) ⊕ (Int32)} (hin : ∀ s : Int32 × Int32, o = .inl s → ux_Wt X 4 8 [(0, .ref (ux_ad X 0)), (1, .int v1), (2, .int s.1), (3, .int s.2)] [] N L) (hex0 : ∀ e : Int32, o = .inr (e) → ux_Wt X 4 38 [(2, .int e)] [] N L) (h : fX12_lineOf_8b_31 v1 v3 s0 N L = some o) : ux_Wt X 4 31 [(0, .ref (ux_ad X 0)), (1, .int v1), (3, .int v3)] [.int s0] N L := by
  refine wt_istore_n 32 [(2, .int s0), (0, .ref (ux_ad X 0)), (1, .int v1), (3, .int v3)] C dX12_lineOf_31 rfl (by decide) rfl ?_
  refine wt_iinc 35 3 [(3, .int (v3 + 1)), (2, .int s0), (0, .ref (ux_ad X 0)), (1, .int v1)] (v3 + 1) C dX12_lineOf_32 rfl rfl (by rfl) (by decide) rfl ?_
  refine wt_goto 8 C dX12_lineOf_35 (by decide) ?_
  refine wt_sub [2, 3, 1, 0] rfl ?_
  exact hin _ (Option.some.inj h).symm
def fX12_lineOf_8b (v1 : Int32) (v2 : Int32) (v3 : Int32) (N : ux_N) (L : ux_L) : Option ((Int32 × Int32) ⊕ (Int32)) :=
  if (N 0 2) ≤ v3 then (some (.inr (v2))) else (if ux_in v3 10 then (if (N 17 (v3.toNatClampNeg)) = v1 then (fX12_lineOf_8b_31 v1 v3 v3 N L) else (fX12_lineOf_8b_31 v1 v3 v2 N L)) else none)
set_option maxHeartbeats 4000000 in
set_option maxRecDepth 20000 in
theorem wX12_lineOf_8b {X : ux_X} (C : ux_C X cX12_lineOf RX12 4 (some .int) 9 206 shM) {v1 : Int32} {v2 : Int32} {v3 : Int32}  {N : ux_N} {L : ux_L} {o : (Int32 × Int32) ⊕ (Int32)} (hin : ∀ s : Int32 × Int32, o = .inl s → ux_Wt X 4 8 [(0, .ref (ux_ad X 0)), (1, .int v1), (2, .int s.1), (3, .int s.2)] [] N L) (hex0 : ∀ e : Int32, o = .inr (e) → ux_Wt X 4 38 [(2, .int e)] [] N L) (h : fX12_lineOf_8b v1 v2 v3 N L = some o) : ux_Wt X 4 8 [(0, .ref (ux_ad X 0)), (1, .int v1), (2, .int v2), (3, .int v3)] [] N L := by
  refine wt_iload_n 9 3 C dX12_lineOf_8 rfl rfl ?_
  refine wt_aload_n 10 0 C dX12_lineOf_9 rfl rfl ?_
  refine wt_getI 13 C kfX12_86 sm_0 rfl dX12_lineOf_10 rfl ?_
  refine wt_icmp_ge 16 38 C dX12_lineOf_13 rfl (by decide) (fun q1 => ?_) (fun q1 => ?_)
  · have h := (if_pos q1).symm.trans h
    refine wt_sub [2] rfl ?_
    exact hex0 _ (Option.some.inj h).symm
  · have h := (if_neg q1).symm.trans h
    refine wt_aload_n 17 0 C dX12_lineOf_16 rfl rfl ?_
    refine wt_getR 20 C kfX12_72 sm_0 rfl dX12_lineOf_17 rfl ?_
    refine wt_iload_n 21 3 C dX12_lineOf_20 rfl rfl ?_
    obtain ⟨hi2, h⟩ := ux_guard h
    refine wt_iald 22 (v3.toNatClampNeg) C sm_17 rfl hi2 dX12_lineOf_21 rfl ?_
    refine wt_iload_n 23 1 C dX12_lineOf_22 rfl rfl ?_
    refine wt_icmp_ne 26 30 C dX12_lineOf_23 rfl (by decide) (fun q3 => ?_) (fun q3 => ?_)
    · have h := (if_neg q3).symm.trans h
      refine wt_iload_n 31 2 C dX12_lineOf_30 rfl rfl ?_
      refine wt_sub [0, 1, 3] rfl ?_
      exact wX12_lineOf_8b_31 C hin hex0 h
    · have h := (if_pos q3).symm.trans h
      refine wt_iload_n 27 3 C dX12_lineOf_26 rfl rfl ?_
      refine wt_goto 31 C dX12_lineOf_27 (by decide) ?_
      refine wt_sub [0, 1, 3] rfl ?_
      exact wX12_lineOf_8b_31 C hin hex0 h
def fX12_lineOf (v1 : Int32) (N : ux_N) (L : ux_L) : Option (Int32 × ux_N × ux_L) :=
  (fX12_layServes N L).bind (fun o1 => (ux_lp (fun s : Int32 × Int32 => fX12_lineOf_8b v1 s.1 s.2 o1.1 o1.2) ux_fu ((-1 : Int32), (0 : Int32))).bind (fun e10 => some (e10, o1.1, o1.2)))
set_option maxHeartbeats 4000000 in
set_option maxRecDepth 20000 in
theorem wX12_lineOf {X : ux_X} (C : ux_C X cX12_lineOf RX12 4 (some .int) 9 206 shM) {v1 : Int32}  {N : ux_N} {L : ux_L} {o : Int32 × ux_N × ux_L} (hq : ux_Qi X o.1 o.2.1 o.2.2) (h : fX12_lineOf v1 N L = some o) : ux_Wt X 4 0 [(0, .ref (ux_ad X 0)), (1, .int v1)] [] N L := by
  refine wt_aload_n 1 0 C dX12_lineOf_0 rfl rfl ?_
  obtain ⟨o1, hc2, h⟩ := Option.bind_eq_some_iff.mp h
  refine wt_callVv 4 [] C kvX12_242 sm_0 (mX12_layServes (cx_ok C)  hc2) rfl rfl ⟨Nat.le_of_ble_eq_true rfl, Nat.le_of_ble_eq_true rfl⟩ (Nat.le_of_ble_eq_true rfl) dX12_lineOf_1 rfl ?_
  refine wt_iconst 5 (-1) C dX12_lineOf_4 rfl (by decide) ?_
  refine wt_istore_n 6 [(2, .int (-1 : Int32)), (0, .ref (ux_ad X 0)), (1, .int v1)] C dX12_lineOf_5 rfl (by decide) rfl ?_
  refine wt_iconst 7 0 C dX12_lineOf_6 rfl (by decide) ?_
  refine wt_istore_n 8 [(3, .int (0 : Int32)), (2, .int (-1 : Int32)), (0, .ref (ux_ad X 0)), (1, .int v1)] C dX12_lineOf_7 rfl (by decide) rfl ?_
  obtain ⟨e3, hl4, h⟩ := Option.bind_eq_some_iff.mp h
  refine wt_sub [2, 3, 1, 0] rfl ?_
  refine ux_loop (fun s : Int32 × Int32 => fX12_lineOf_8b v1 s.1 s.2 o1.1 o1.2) (fun s : Int32 × Int32 => ux_Wt X 4 8 [(0, .ref (ux_ad X 0)), (1, .int v1), (2, .int s.1), (3, .int s.2)] [] o1.1 o1.2) (e := e3) ?_ hl4
  intro s5 o6 hb7 hi8 hx9
  refine wX12_lineOf_8b C hi8 (fun x0 he => ?_) hb7
  · obtain ⟨e10, rfl⟩ : ∃ z, z = x0 := ⟨_, rfl⟩
    have h9 := hx9 _ he
    subst h9
    refine wt_iload_n 39 0 C dX12_lineOf_38 rfl rfl ?_
    cases h
    exact wt_iret C hq dX12_lineOf_39
theorem mX12_lineOf {l : Launch} {G : ux_G} (hok : ux_ok G shM) {v1 : Int32}  {N : ux_N} {L : ux_L} {o : Int32 × ux_N × ux_L} (h : fX12_lineOf v1 N L = some o) : ux_Mi l G yX12_lineOf cX12_lineOf 4 (some .int) 9 206 [.ref (gad G 0), .int v1] N L o.1 o.2.1 o.2.2 :=
  ux_ofi shM hok (by decide +kernel) (Nat.le_of_ble_eq_true rfl) (fun X hG hl C hq => by subst hG; subst hl; exact wX12_lineOf C  hq h)
def fX12_isCritical_45 (s0 : Int32) (N : ux_N) (L : ux_L) : Option (Int32 × ux_L) :=
  some (s0, L)
set_option maxHeartbeats 4000000 in
set_option maxRecDepth 20000 in
theorem wX12_isCritical_45 {X : ux_X} (C : ux_C X cX12_isCritical RX12 3 (some .int) 6 140 shM) {s0 : Int32}  {N : ux_N} {L : ux_L} {o : Int32 × ux_L} (hq : ux_Qi X o.1 N o.2) (h : fX12_isCritical_45 s0 N L = some o) : ux_Wt X 3 45 [] [.int s0] N L := by
  cases h
  exact wt_iret C hq dX12_isCritical_45
def fX12_isCritical (v1 : Int32) (N : ux_N) (L : ux_L) : Option (Int32 × ux_L) :=
  (fX12_layAll N L).bind (fun o1 => (fX12_rankAt ((16 : Int32) * ((((1 : Int32) <<< ((N 1 0) &&& 31)) - (1 : Int32)) &&& (((1 : Int32) <<< (v1 &&& 31)) ^^^ (-1 : Int32)))) o1).bind (fun o3 => (fX12_rankAt ((16 : Int32) * (((1 : Int32) <<< ((N 1 0) &&& 31)) - (1 : Int32))) o1).bind (fun o5 => if o5 ≤ o3 then (fX12_isCritical_45 (0 : Int32) N o1) else (fX12_isCritical_45 (1 : Int32) N o1))))
set_option maxHeartbeats 4000000 in
set_option maxRecDepth 20000 in
theorem wX12_isCritical {X : ux_X} (C : ux_C X cX12_isCritical RX12 3 (some .int) 6 140 shM) {v1 : Int32}  {N : ux_N} {L : ux_L} {o : Int32 × ux_L} (hq : ux_Qi X o.1 N o.2) (h : fX12_isCritical v1 N L = some o) : ux_Wt X 3 0 [(0, .ref (ux_ad X 0)), (1, .int v1)] [] N L := by
  refine wt_aload_n 1 0 C dX12_isCritical_0 rfl rfl ?_
  obtain ⟨o1, hc2, h⟩ := Option.bind_eq_some_iff.mp h
  refine wt_callVv 4 [] C kvX12_229 sm_0 (mX12_layAll (cx_ok C)  hc2) rfl rfl ⟨Nat.le_of_ble_eq_true rfl, Nat.le_of_ble_eq_true rfl⟩ (Nat.le_of_ble_eq_true rfl) dX12_isCritical_1 rfl ?_
  refine wt_iconst 5 1 C dX12_isCritical_4 rfl (by decide) ?_
  refine wt_aload_n 6 0 C dX12_isCritical_5 rfl rfl ?_
  refine wt_getR 9 C kfX12_7 sm_0 rfl dX12_isCritical_6 rfl ?_
  refine wt_iconst 10 0 C dX12_isCritical_9 rfl (by decide) ?_
  refine wt_iald 11 0 C sm_1 (by decide) (by decide) dX12_isCritical_10 rfl ?_
  refine wt_ishl 12 C dX12_isCritical_11 rfl ?_
  refine wt_iconst 13 1 C dX12_isCritical_12 rfl (by decide) ?_
  refine wt_isub 14 C dX12_isCritical_13 rfl ?_
  refine wt_istore_n 15 [(2, .int (((1 : Int32) <<< ((N 1 0) &&& 31)) - (1 : Int32))), (0, .ref (ux_ad X 0)), (1, .int v1)] C dX12_isCritical_14 rfl (by decide) rfl ?_
  refine wt_aload_n 16 1 C dX12_isCritical_15 rfl rfl ?_
  refine wt_bipush 18 16 C dX12_isCritical_16 rfl (by decide) ?_
  refine wt_iload_n 19 0 C dX12_isCritical_18 rfl rfl ?_
  refine wt_iconst 20 1 C dX12_isCritical_19 rfl (by decide) ?_
  refine wt_iload_n 21 2 C dX12_isCritical_20 rfl rfl ?_
  refine wt_ishl 22 C dX12_isCritical_21 rfl ?_
  refine wt_iconst 23 (-1) C dX12_isCritical_22 rfl (by decide) ?_
  refine wt_ixor 24 C dX12_isCritical_23 rfl ?_
  refine wt_iand 25 C dX12_isCritical_24 rfl ?_
  refine wt_imul 26 C dX12_isCritical_25 rfl ?_
  obtain ⟨o3, hc4, h⟩ := Option.bind_eq_some_iff.mp h
  refine wt_callVi 29 [] C kvX12_217 sm_0 (mX12_rankAt (cx_ok C)  hc4) rfl rfl ⟨Nat.le_of_ble_eq_true rfl, Nat.le_of_ble_eq_true rfl⟩ (Nat.le_of_ble_eq_true rfl) dX12_isCritical_26 rfl ?_
  refine wt_aload_n 30 1 C dX12_isCritical_29 rfl rfl ?_
  refine wt_bipush 32 16 C dX12_isCritical_30 rfl (by decide) ?_
  refine wt_iload_n 33 0 C dX12_isCritical_32 rfl rfl ?_
  refine wt_imul 34 C dX12_isCritical_33 rfl ?_
  obtain ⟨o5, hc6, h⟩ := Option.bind_eq_some_iff.mp h
  refine wt_callVi 37 [.int o3] C kvX12_217 sm_0 (mX12_rankAt (cx_ok C)  hc6) rfl rfl ⟨Nat.le_of_ble_eq_true rfl, Nat.le_of_ble_eq_true rfl⟩ (Nat.le_of_ble_eq_true rfl) dX12_isCritical_34 rfl ?_
  refine wt_icmp_ge 40 44 C dX12_isCritical_37 rfl (by decide) (fun q7 => ?_) (fun q7 => ?_)
  · have h := (if_pos q7).symm.trans h
    refine wt_iconst 45 0 C dX12_isCritical_44 rfl (by decide) ?_
    refine wt_sub [] rfl ?_
    exact wX12_isCritical_45 C hq h
  · have h := (if_neg q7).symm.trans h
    refine wt_iconst 41 1 C dX12_isCritical_40 rfl (by decide) ?_
    refine wt_goto 45 C dX12_isCritical_41 (by decide) ?_
    refine wt_sub [] rfl ?_
    exact wX12_isCritical_45 C hq h
theorem mX12_isCritical {l : Launch} {G : ux_G} (hok : ux_ok G shM) {v1 : Int32}  {N : ux_N} {L : ux_L} {o : Int32 × ux_L} (h : fX12_isCritical v1 N L = some o) : ux_Mi l G yX12_isCritical cX12_isCritical 3 (some .int) 6 140 [.ref (gad G 0), .int v1] N L o.1 N o.2 :=
  ux_ofi shM hok (by decide +kernel) (Nat.le_of_ble_eq_true rfl) (fun X hG hl C hq => by subst hG; subst hl; exact wX12_isCritical C  hq h)
def fX12_meter (v1 : Int32) (v2 : Int32) (N : ux_N) (L : ux_L) : Option (Int32 × ux_N × ux_L) :=
  (fX12_isMeter v1 N).bind (fun o1 => if o1 = 0 then (some ((-2 : Int32), N, L)) else (if v2 = (0 : Int32) then (if ux_in ((3 : Int32) + v1) 252 then (some ((N 1 (((3 : Int32) + v1).toNatClampNeg)), N, L)) else none) else (if v2 = (1 : Int32) then (if ux_in ((12 : Int32) + v1) 252 then (some ((N 1 (((12 : Int32) + v1).toNatClampNeg)), N, L)) else none) else (if v2 = (2 : Int32) then (some ((((N 1 1) >>> (v1 &&& 31)) &&& (1 : Int32)), N, L)) else (if v2 = (3 : Int32) then ((fX12_mayOf v1 (N 1 2) N).bind (fun o10 => some (o10, N, L))) else (if v2 = (4 : Int32) then ((fX12_lineOf v1 N L).bind (fun o13 => some (o13.1, o13.2.1, o13.2.2))) else (if v2 = (5 : Int32) then ((fX12_isCritical v1 N L).bind (fun o16 => some (o16.1, N, o16.2))) else (some ((-3 : Int32), N, L)))))))))
set_option maxHeartbeats 4000000 in
set_option maxRecDepth 20000 in
theorem wX12_meter {X : ux_X} (C : ux_C X cX12_meter RX12 3 (some .int) 10 229 shM) {v1 : Int32} {v2 : Int32}  {N : ux_N} {L : ux_L} {o : Int32 × ux_N × ux_L} (hq : ux_Qi X o.1 o.2.1 o.2.2) (h : fX12_meter v1 v2 N L = some o) : ux_Wt X 3 0 [(0, .ref (ux_ad X 0)), (1, .int v1), (2, .int v2)] [] N L := by
  refine wt_aload_n 1 0 C dX12_meter_0 rfl rfl ?_
  refine wt_iload_n 2 1 C dX12_meter_1 rfl rfl ?_
  obtain ⟨o1, hc2, h⟩ := Option.bind_eq_some_iff.mp h
  refine wt_callVi 5 [] C kvX12_245 sm_0 (mX12_isMeter (cx_ok C)  hc2) rfl rfl ⟨Nat.le_of_ble_eq_true rfl, Nat.le_of_ble_eq_true rfl⟩ (Nat.le_of_ble_eq_true rfl) dX12_meter_2 rfl ?_
  refine wt_if_ne 8 11 C dX12_meter_5 rfl (by decide) (fun q3 => ?_) (fun q3 => ?_)
  · have h := (if_neg q3).symm.trans h
    refine wt_iload_n 12 2 C dX12_meter_11 rfl rfl ?_
    by_cases q4 : v2 = (0 : Int32)
    · have h := (if_pos q4).symm.trans h
      refine wt_tin 52 (0) C dX12_meter_12 q4 (by decide) (by decide) rfl (by decide) ?_
      refine wt_aload_n 53 0 C dX12_meter_52 rfl rfl ?_
      refine wt_getR 56 C kfX12_7 sm_0 rfl dX12_meter_53 rfl ?_
      refine wt_iconst 57 3 C dX12_meter_56 rfl (by decide) ?_
      refine wt_iload_n 58 1 C dX12_meter_57 rfl rfl ?_
      refine wt_iadd 59 C dX12_meter_58 rfl ?_
      obtain ⟨hi5, h⟩ := ux_guard h
      refine wt_iald 60 (((3 : Int32) + v1).toNatClampNeg) C sm_1 rfl hi5 dX12_meter_59 rfl ?_
      cases h
      exact wt_iret C hq dX12_meter_60
    have h := (if_neg q4).symm.trans h
    by_cases q6 : v2 = (1 : Int32)
    · have h := (if_pos q6).symm.trans h
      refine wt_tin 61 (1) C dX12_meter_12 q6 (by decide) (by decide) rfl (by decide) ?_
      refine wt_aload_n 62 0 C dX12_meter_61 rfl rfl ?_
      refine wt_getR 65 C kfX12_7 sm_0 rfl dX12_meter_62 rfl ?_
      refine wt_bipush 67 12 C dX12_meter_65 rfl (by decide) ?_
      refine wt_iload_n 68 1 C dX12_meter_67 rfl rfl ?_
      refine wt_iadd 69 C dX12_meter_68 rfl ?_
      obtain ⟨hi7, h⟩ := ux_guard h
      refine wt_iald 70 (((12 : Int32) + v1).toNatClampNeg) C sm_1 rfl hi7 dX12_meter_69 rfl ?_
      cases h
      exact wt_iret C hq dX12_meter_70
    have h := (if_neg q6).symm.trans h
    by_cases q8 : v2 = (2 : Int32)
    · have h := (if_pos q8).symm.trans h
      refine wt_tin 71 (2) C dX12_meter_12 q8 (by decide) (by decide) rfl (by decide) ?_
      refine wt_aload_n 72 0 C dX12_meter_71 rfl rfl ?_
      refine wt_getR 75 C kfX12_7 sm_0 rfl dX12_meter_72 rfl ?_
      refine wt_iconst 76 1 C dX12_meter_75 rfl (by decide) ?_
      refine wt_iald 77 1 C sm_1 (by decide) (by decide) dX12_meter_76 rfl ?_
      refine wt_iload_n 78 1 C dX12_meter_77 rfl rfl ?_
      refine wt_ishr 79 C dX12_meter_78 rfl ?_
      refine wt_iconst 80 1 C dX12_meter_79 rfl (by decide) ?_
      refine wt_iand 81 C dX12_meter_80 rfl ?_
      cases h
      exact wt_iret C hq dX12_meter_81
    have h := (if_neg q8).symm.trans h
    by_cases q9 : v2 = (3 : Int32)
    · have h := (if_pos q9).symm.trans h
      refine wt_tin 82 (3) C dX12_meter_12 q9 (by decide) (by decide) rfl (by decide) ?_
      refine wt_aload_n 83 0 C dX12_meter_82 rfl rfl ?_
      refine wt_iload_n 84 1 C dX12_meter_83 rfl rfl ?_
      refine wt_aload_n 85 0 C dX12_meter_84 rfl rfl ?_
      refine wt_getR 88 C kfX12_7 sm_0 rfl dX12_meter_85 rfl ?_
      refine wt_iconst 89 2 C dX12_meter_88 rfl (by decide) ?_
      refine wt_iald 90 2 C sm_1 (by decide) (by decide) dX12_meter_89 rfl ?_
      obtain ⟨o10, hc11, h⟩ := Option.bind_eq_some_iff.mp h
      refine wt_callVi 93 [] C kvX12_210 sm_0 (mX12_mayOf (cx_ok C)  hc11) rfl rfl ⟨Nat.le_of_ble_eq_true rfl, Nat.le_of_ble_eq_true rfl⟩ (Nat.le_of_ble_eq_true rfl) dX12_meter_90 rfl ?_
      cases h
      exact wt_iret C hq dX12_meter_93
    have h := (if_neg q9).symm.trans h
    by_cases q12 : v2 = (4 : Int32)
    · have h := (if_pos q12).symm.trans h
      refine wt_tin 94 (4) C dX12_meter_12 q12 (by decide) (by decide) rfl (by decide) ?_
      refine wt_aload_n 95 0 C dX12_meter_94 rfl rfl ?_
      refine wt_iload_n 96 1 C dX12_meter_95 rfl rfl ?_
      obtain ⟨o13, hc14, h⟩ := Option.bind_eq_some_iff.mp h
      refine wt_callVi 99 [] C kvX12_248 sm_0 (mX12_lineOf (cx_ok C)  hc14) rfl rfl ⟨Nat.le_of_ble_eq_true rfl, Nat.le_of_ble_eq_true rfl⟩ (Nat.le_of_ble_eq_true rfl) dX12_meter_96 rfl ?_
      cases h
      exact wt_iret C hq dX12_meter_99
    have h := (if_neg q12).symm.trans h
    by_cases q15 : v2 = (5 : Int32)
    · have h := (if_pos q15).symm.trans h
      refine wt_tin 100 (5) C dX12_meter_12 q15 (by decide) (by decide) rfl (by decide) ?_
      refine wt_aload_n 101 0 C dX12_meter_100 rfl rfl ?_
      refine wt_iload_n 102 1 C dX12_meter_101 rfl rfl ?_
      obtain ⟨o16, hc17, h⟩ := Option.bind_eq_some_iff.mp h
      refine wt_callVi 105 [] C kvX12_251 sm_0 (mX12_isCritical (cx_ok C)  hc17) rfl rfl ⟨Nat.le_of_ble_eq_true rfl, Nat.le_of_ble_eq_true rfl⟩ (Nat.le_of_ble_eq_true rfl) dX12_meter_102 rfl ?_
      cases h
      exact wt_iret C hq dX12_meter_105
    have h := (if_neg q15).symm.trans h
    refine wt_tout 106 C dX12_meter_12 (by have z0 := lv_neT q4 (show (0 : Int32).toInt = 0 from by decide); have z1 := lv_neT q6 (show (1 : Int32).toInt = 1 from by decide); have z2 := lv_neT q8 (show (2 : Int32).toInt = 2 from by decide); have z3 := lv_neT q9 (show (3 : Int32).toInt = 3 from by decide); have z4 := lv_neT q12 (show (4 : Int32).toInt = 4 from by decide); have z5 := lv_neT q15 (show (5 : Int32).toInt = 5 from by decide); omega) (by decide) ?_
    refine wt_bipush 108 (-3) C dX12_meter_106 rfl (by decide) ?_
    cases h
    exact wt_iret C hq dX12_meter_108
  · have h := (if_pos q3).symm.trans h
    refine wt_bipush 10 (-2) C dX12_meter_8 rfl (by decide) ?_
    cases h
    exact wt_iret C hq dX12_meter_10
theorem mX12_meter {l : Launch} {G : ux_G} (hok : ux_ok G shM) {v1 : Int32} {v2 : Int32}  {N : ux_N} {L : ux_L} {o : Int32 × ux_N × ux_L} (h : fX12_meter v1 v2 N L = some o) : ux_Mi l G yX12_meter cX12_meter 3 (some .int) 10 229 [.ref (gad G 0), .int v1, .int v2] N L o.1 o.2.1 o.2.2 :=
  ux_ofi shM hok (by decide +kernel) (Nat.le_of_ble_eq_true rfl) (fun X hG hl C hq => by subst hG; subst hl; exact wX12_meter C  hq h)
def fX12_bringsOf (v1 : Int32) (v2 : Int32) (N : ux_N) (L : ux_L) : Option (Int32 × ux_L) :=
  (fX12_rank N L).bind (fun o1 => (fX12_mayServe v1 v2 (N 1 2) N).bind (fun o3 => (fX12_layMore (8192 : Int32) (8208 : Int32) o3 N o1.2).bind (fun o5 => (fX12_rankAt (8208 : Int32) o5).bind (fun o7 => some ((o7 - o1.1), o5)))))
set_option maxHeartbeats 4000000 in
set_option maxRecDepth 20000 in
theorem wX12_bringsOf {X : ux_X} (C : ux_C X cX12_bringsOf RX12 4 (some .int) 7 160 shM) {v1 : Int32} {v2 : Int32}  {N : ux_N} {L : ux_L} {o : Int32 × ux_L} (hq : ux_Qi X o.1 N o.2) (h : fX12_bringsOf v1 v2 N L = some o) : ux_Wt X 4 0 [(0, .ref (ux_ad X 0)), (1, .int v1), (2, .int v2)] [] N L := by
  refine wt_aload_n 1 0 C dX12_bringsOf_0 rfl rfl ?_
  obtain ⟨o1, hc2, h⟩ := Option.bind_eq_some_iff.mp h
  refine wt_callVi 4 [] C kvX12_223 sm_0 (mX12_rank (cx_ok C)  hc2) rfl rfl ⟨Nat.le_of_ble_eq_true rfl, Nat.le_of_ble_eq_true rfl⟩ (Nat.le_of_ble_eq_true rfl) dX12_bringsOf_1 rfl ?_
  refine wt_istore_n 5 [(3, .int o1.1), (0, .ref (ux_ad X 0)), (1, .int v1), (2, .int v2)] C dX12_bringsOf_4 rfl (by decide) rfl ?_
  refine wt_aload_n 6 1 C dX12_bringsOf_5 rfl rfl ?_
  refine wt_sipush 9 8192 C dX12_bringsOf_6 rfl (by decide) ?_
  refine wt_sipush 12 8208 C dX12_bringsOf_9 rfl (by decide) ?_
  refine wt_aload_n 13 1 C dX12_bringsOf_12 rfl rfl ?_
  refine wt_iload_n 14 2 C dX12_bringsOf_13 rfl rfl ?_
  refine wt_iload_n 15 3 C dX12_bringsOf_14 rfl rfl ?_
  refine wt_aload_n 16 1 C dX12_bringsOf_15 rfl rfl ?_
  refine wt_getR 19 C kfX12_7 sm_0 rfl dX12_bringsOf_16 rfl ?_
  refine wt_iconst 20 2 C dX12_bringsOf_19 rfl (by decide) ?_
  refine wt_iald 21 2 C sm_1 (by decide) (by decide) dX12_bringsOf_20 rfl ?_
  obtain ⟨o3, hc4, h⟩ := Option.bind_eq_some_iff.mp h
  refine wt_callVi 24 [.int (8208 : Int32), .int (8192 : Int32), .ref (ux_ad X 0)] C kvX12_203 sm_0 (mX12_mayServe (cx_ok C)  hc4) rfl rfl ⟨Nat.le_of_ble_eq_true rfl, Nat.le_of_ble_eq_true rfl⟩ (Nat.le_of_ble_eq_true rfl) dX12_bringsOf_21 rfl ?_
  obtain ⟨o5, hc6, h⟩ := Option.bind_eq_some_iff.mp h
  refine wt_callVv 27 [] C kvX12_213 sm_0 (mX12_layMore (cx_ok C)  hc6) rfl rfl ⟨Nat.le_of_ble_eq_true rfl, Nat.le_of_ble_eq_true rfl⟩ (Nat.le_of_ble_eq_true rfl) dX12_bringsOf_24 rfl ?_
  refine wt_aload_n 28 1 C dX12_bringsOf_27 rfl rfl ?_
  refine wt_sipush 31 8208 C dX12_bringsOf_28 rfl (by decide) ?_
  obtain ⟨o7, hc8, h⟩ := Option.bind_eq_some_iff.mp h
  refine wt_callVi 34 [] C kvX12_217 sm_0 (mX12_rankAt (cx_ok C)  hc8) rfl rfl ⟨Nat.le_of_ble_eq_true rfl, Nat.le_of_ble_eq_true rfl⟩ (Nat.le_of_ble_eq_true rfl) dX12_bringsOf_31 rfl ?_
  refine wt_iload_n 35 0 C dX12_bringsOf_34 rfl rfl ?_
  refine wt_isub 36 C dX12_bringsOf_35 rfl ?_
  cases h
  exact wt_iret C hq dX12_bringsOf_36
theorem mX12_bringsOf {l : Launch} {G : ux_G} (hok : ux_ok G shM) {v1 : Int32} {v2 : Int32}  {N : ux_N} {L : ux_L} {o : Int32 × ux_L} (h : fX12_bringsOf v1 v2 N L = some o) : ux_Mi l G yX12_bringsOf cX12_bringsOf 4 (some .int) 7 160 [.ref (gad G 0), .int v1, .int v2] N L o.1 N o.2 :=
  ux_ofi shM hok (by decide +kernel) (Nat.le_of_ble_eq_true rfl) (fun X hG hl C hq => by subst hG; subst hl; exact wX12_bringsOf C  hq h)
def fX12_offer_76 (s0 : Int32) (N : ux_N) (L : ux_L) : Option (Int32 × ux_L) :=
  some (s0, L)
set_option maxHeartbeats 4000000 in
set_option maxRecDepth 20000 in
theorem wX12_offer_76 {X : ux_X} (C : ux_C X cX12_offer RX12 3 (some .int) 8 183 shM) {s0 : Int32}  {N : ux_N} {L : ux_L} {o : Int32 × ux_L} (hq : ux_Qi X o.1 N o.2) (h : fX12_offer_76 s0 N L = some o) : ux_Wt X 3 76 [] [.int s0] N L := by
  cases h
  exact wt_iret C hq dX12_offer_76
def fX12_offer (v1 : Int32) (v2 : Int32) (N : ux_N) (L : ux_L) : Option (Int32 × ux_L) :=
  (fX12_in (v1.toInt64) (0 : Int64) (((N 0 4) - (1 : Int32)).toInt64)).bind (fun o1 => if o1 = 0 then (some ((-2 : Int32), L)) else ((fX12_in (v2.toInt64) (0 : Int64) (2 : Int64)).bind (fun o4 => if o4 = 0 then (if v2 = (3 : Int32) then (if ux_in ((3 : Int32) * v1) 18 then (if ux_in (((3 : Int32) * v1) + (1 : Int32)) 18 then ((fX12_bringsOf (N 3 (((3 : Int32) * v1).toNatClampNeg)) (N 3 ((((3 : Int32) * v1) + (1 : Int32)).toNatClampNeg)) N L).bind (fun o10 => fX12_offer_76 o10.1 N o10.2)) else none) else none) else (fX12_offer_76 (-3 : Int32) N L)) else (if ux_in (((3 : Int32) * v1) + v2) 18 then (fX12_offer_76 (N 3 ((((3 : Int32) * v1) + v2).toNatClampNeg)) N L) else none))))
set_option maxHeartbeats 4000000 in
set_option maxRecDepth 20000 in
theorem wX12_offer {X : ux_X} (C : ux_C X cX12_offer RX12 3 (some .int) 8 183 shM) {v1 : Int32} {v2 : Int32}  {N : ux_N} {L : ux_L} {o : Int32 × ux_L} (hq : ux_Qi X o.1 N o.2) (h : fX12_offer v1 v2 N L = some o) : ux_Wt X 3 0 [(0, .ref (ux_ad X 0)), (1, .int v1), (2, .int v2)] [] N L := by
  refine wt_iload_n 1 1 C dX12_offer_0 rfl rfl ?_
  refine wt_i2l 2 C dX12_offer_1 rfl ?_
  refine wt_lconst 3 0 C dX12_offer_2 rfl (by decide) ?_
  refine wt_aload_n 4 0 C dX12_offer_3 rfl rfl ?_
  refine wt_getI 7 C kfX12_89 sm_0 rfl dX12_offer_4 rfl ?_
  refine wt_iconst 8 1 C dX12_offer_7 rfl (by decide) ?_
  refine wt_isub 9 C dX12_offer_8 rfl ?_
  refine wt_i2l 10 C dX12_offer_9 rfl ?_
  obtain ⟨o1, hc2, h⟩ := Option.bind_eq_some_iff.mp h
  refine wt_callSi 13 [] C ksX12_94 (mX12_in (cx_ok C)  hc2) rfl rfl ⟨Nat.le_of_ble_eq_true rfl, Nat.le_of_ble_eq_true rfl⟩ (Nat.le_of_ble_eq_true rfl) dX12_offer_10 rfl ?_
  refine wt_if_ne 16 19 C dX12_offer_13 rfl (by decide) (fun q3 => ?_) (fun q3 => ?_)
  · have h := (if_neg q3).symm.trans h
    refine wt_iload_n 20 2 C dX12_offer_19 rfl rfl ?_
    refine wt_i2l 21 C dX12_offer_20 rfl ?_
    refine wt_lconst 22 0 C dX12_offer_21 rfl (by decide) ?_
    refine wt_ldc2 25 C tw_1307 dX12_offer_22 rfl ?_
    obtain ⟨o4, hc5, h⟩ := Option.bind_eq_some_iff.mp h
    refine wt_callSi 28 [] C ksX12_94 (mX12_in (cx_ok C)  hc5) rfl rfl ⟨Nat.le_of_ble_eq_true rfl, Nat.le_of_ble_eq_true rfl⟩ (Nat.le_of_ble_eq_true rfl) dX12_offer_25 rfl ?_
    refine wt_if_eq 31 44 C dX12_offer_28 rfl (by decide) (fun q6 => ?_) (fun q6 => ?_)
    · have h := (if_pos q6).symm.trans h
      refine wt_iload_n 45 2 C dX12_offer_44 rfl rfl ?_
      refine wt_iconst 46 3 C dX12_offer_45 rfl (by decide) ?_
      refine wt_icmp_ne 49 74 C dX12_offer_46 rfl (by decide) (fun q7 => ?_) (fun q7 => ?_)
      · have h := (if_neg q7).symm.trans h
        refine wt_bipush 76 (-3) C dX12_offer_74 rfl (by decide) ?_
        refine wt_sub [] rfl ?_
        exact wX12_offer_76 C hq h
      · have h := (if_pos q7).symm.trans h
        refine wt_aload_n 50 0 C dX12_offer_49 rfl rfl ?_
        refine wt_aload_n 51 0 C dX12_offer_50 rfl rfl ?_
        refine wt_getR 54 C kfX12_16 sm_0 rfl dX12_offer_51 rfl ?_
        refine wt_iconst 55 3 C dX12_offer_54 rfl (by decide) ?_
        refine wt_iload_n 56 1 C dX12_offer_55 rfl rfl ?_
        refine wt_imul 57 C dX12_offer_56 rfl ?_
        obtain ⟨hi8, h⟩ := ux_guard h
        refine wt_iald 58 (((3 : Int32) * v1).toNatClampNeg) C sm_3 rfl hi8 dX12_offer_57 rfl ?_
        refine wt_aload_n 59 0 C dX12_offer_58 rfl rfl ?_
        refine wt_getR 62 C kfX12_16 sm_0 rfl dX12_offer_59 rfl ?_
        refine wt_iconst 63 3 C dX12_offer_62 rfl (by decide) ?_
        refine wt_iload_n 64 1 C dX12_offer_63 rfl rfl ?_
        refine wt_imul 65 C dX12_offer_64 rfl ?_
        refine wt_iconst 66 1 C dX12_offer_65 rfl (by decide) ?_
        refine wt_iadd 67 C dX12_offer_66 rfl ?_
        obtain ⟨hi9, h⟩ := ux_guard h
        refine wt_iald 68 ((((3 : Int32) * v1) + (1 : Int32)).toNatClampNeg) C sm_3 rfl hi9 dX12_offer_67 rfl ?_
        obtain ⟨o10, hc11, h⟩ := Option.bind_eq_some_iff.mp h
        refine wt_callVi 71 [] C kvX12_256 sm_0 (mX12_bringsOf (cx_ok C)  hc11) rfl rfl ⟨Nat.le_of_ble_eq_true rfl, Nat.le_of_ble_eq_true rfl⟩ (Nat.le_of_ble_eq_true rfl) dX12_offer_68 rfl ?_
        refine wt_goto 76 C dX12_offer_71 (by decide) ?_
        refine wt_sub [] rfl ?_
        exact wX12_offer_76 C hq h
    · have h := (if_neg q6).symm.trans h
      refine wt_aload_n 32 0 C dX12_offer_31 rfl rfl ?_
      refine wt_getR 35 C kfX12_16 sm_0 rfl dX12_offer_32 rfl ?_
      refine wt_iconst 36 3 C dX12_offer_35 rfl (by decide) ?_
      refine wt_iload_n 37 1 C dX12_offer_36 rfl rfl ?_
      refine wt_imul 38 C dX12_offer_37 rfl ?_
      refine wt_iload_n 39 2 C dX12_offer_38 rfl rfl ?_
      refine wt_iadd 40 C dX12_offer_39 rfl ?_
      obtain ⟨hi12, h⟩ := ux_guard h
      refine wt_iald 41 ((((3 : Int32) * v1) + v2).toNatClampNeg) C sm_3 rfl hi12 dX12_offer_40 rfl ?_
      refine wt_goto 76 C dX12_offer_41 (by decide) ?_
      refine wt_sub [] rfl ?_
      exact wX12_offer_76 C hq h
  · have h := (if_pos q3).symm.trans h
    refine wt_bipush 18 (-2) C dX12_offer_16 rfl (by decide) ?_
    cases h
    exact wt_iret C hq dX12_offer_18
theorem mX12_offer {l : Launch} {G : ux_G} (hok : ux_ok G shM) {v1 : Int32} {v2 : Int32}  {N : ux_N} {L : ux_L} {o : Int32 × ux_L} (h : fX12_offer v1 v2 N L = some o) : ux_Mi l G yX12_offer cX12_offer 3 (some .int) 8 183 [.ref (gad G 0), .int v1, .int v2] N L o.1 N o.2 :=
  ux_ofi shM hok (by decide +kernel) (Nat.le_of_ble_eq_true rfl) (fun X hG hl C hq => by subst hG; subst hl; exact wX12_offer C  hq h)
