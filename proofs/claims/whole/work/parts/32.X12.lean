theorem dX12_grid_0 : decode cX12_grid 0 = .ok (.aload_n 0, 1) := by decide +kernel
theorem dX12_grid_1 : decode cX12_grid 1 = .ok (.iconst 0, 1) := by decide +kernel
theorem dX12_grid_2 : decode cX12_grid 2 = .ok (.invokevirtual 169, 3) := by decide +kernel
theorem dX12_grid_5 : decode cX12_grid 5 = .ok (.ifCond .ne 6, 3) := by decide +kernel
theorem dX12_grid_8 : decode cX12_grid 8 = .ok (.bipush (-4), 2) := by decide +kernel
theorem dX12_grid_10 : decode cX12_grid 10 = .ok (.ireturn, 1) := by decide +kernel
theorem dX12_grid_11 : decode cX12_grid 11 = .ok (.aload_n 0, 1) := by decide +kernel
theorem dX12_grid_12 : decode cX12_grid 12 = .ok (.sipush 231, 3) := by decide +kernel
theorem dX12_grid_15 : decode cX12_grid 15 = .ok (.iconst 0, 1) := by decide +kernel
theorem dX12_grid_16 : decode cX12_grid 16 = .ok (.invokevirtual 173, 3) := by decide +kernel
theorem dX12_grid_19 : decode cX12_grid 19 = .ok (.aload_n 0, 1) := by decide +kernel
theorem dX12_grid_20 : decode cX12_grid 20 = .ok (.iconst 1, 1) := by decide +kernel
theorem dX12_grid_21 : decode cX12_grid 21 = .ok (.invokevirtual 169, 3) := by decide +kernel
theorem dX12_grid_24 : decode cX12_grid 24 = .ok (.pop, 1) := by decide +kernel
theorem dX12_grid_25 : decode cX12_grid 25 = .ok (.aload_n 0, 1) := by decide +kernel
theorem dX12_grid_26 : decode cX12_grid 26 = .ok (.iconst 0, 1) := by decide +kernel
theorem dX12_grid_27 : decode cX12_grid 27 = .ok (.sipush 231, 3) := by decide +kernel
theorem dX12_grid_30 : decode cX12_grid 30 = .ok (.invokevirtual 173, 3) := by decide +kernel
theorem dX12_grid_33 : decode cX12_grid 33 = .ok (.aload_n 0, 1) := by decide +kernel
theorem dX12_grid_34 : decode cX12_grid 34 = .ok (.invokevirtual 79, 3) := by decide +kernel
theorem dX12_grid_37 : decode cX12_grid 37 = .ok (.aload_n 0, 1) := by decide +kernel
theorem dX12_grid_38 : decode cX12_grid 38 = .ok (.iconst 0, 1) := by decide +kernel
theorem dX12_grid_39 : decode cX12_grid 39 = .ok (.putfield 98, 3) := by decide +kernel
theorem dX12_grid_42 : decode cX12_grid 42 = .ok (.aload_n 0, 1) := by decide +kernel
theorem dX12_grid_43 : decode cX12_grid 43 = .ok (.iconst 0, 1) := by decide +kernel
theorem dX12_grid_44 : decode cX12_grid 44 = .ok (.putfield 176, 3) := by decide +kernel
theorem dX12_grid_47 : decode cX12_grid 47 = .ok (.aload_n 0, 1) := by decide +kernel
theorem dX12_grid_48 : decode cX12_grid 48 = .ok (.getfield 19, 3) := by decide +kernel
theorem dX12_grid_51 : decode cX12_grid 51 = .ok (.iconst 0, 1) := by decide +kernel
theorem dX12_grid_52 : decode cX12_grid 52 = .ok (.iconst 0, 1) := by decide +kernel
theorem dX12_grid_53 : decode cX12_grid 53 = .ok (.bastore, 1) := by decide +kernel
theorem dX12_grid_54 : decode cX12_grid 54 = .ok (.aload_n 0, 1) := by decide +kernel
theorem dX12_grid_55 : decode cX12_grid 55 = .ok (.getfield 19, 3) := by decide +kernel
theorem dX12_grid_58 : decode cX12_grid 58 = .ok (.iconst 1, 1) := by decide +kernel
theorem dX12_grid_59 : decode cX12_grid 59 = .ok (.iconst 0, 1) := by decide +kernel
theorem dX12_grid_60 : decode cX12_grid 60 = .ok (.bastore, 1) := by decide +kernel
theorem dX12_grid_61 : decode cX12_grid 61 = .ok (.iconst 0, 1) := by decide +kernel
theorem dX12_grid_62 : decode cX12_grid 62 = .ok (.istore_n 1, 1) := by decide +kernel
theorem dX12_grid_63 : decode cX12_grid 63 = .ok (.iload_n 1, 1) := by decide +kernel
theorem dX12_grid_64 : decode cX12_grid 64 = .ok (.iconst 3, 1) := by decide +kernel
theorem dX12_grid_65 : decode cX12_grid 65 = .ok (.if_icmp .ge 16, 3) := by decide +kernel
theorem dX12_grid_68 : decode cX12_grid 68 = .ok (.aload_n 0, 1) := by decide +kernel
theorem dX12_grid_69 : decode cX12_grid 69 = .ok (.getfield 32, 3) := by decide +kernel
theorem dX12_grid_72 : decode cX12_grid 72 = .ok (.iload_n 1, 1) := by decide +kernel
theorem dX12_grid_73 : decode cX12_grid 73 = .ok (.iconst (-1), 1) := by decide +kernel
theorem dX12_grid_74 : decode cX12_grid 74 = .ok (.iastore, 1) := by decide +kernel
theorem dX12_grid_75 : decode cX12_grid 75 = .ok (.iinc 1 1, 3) := by decide +kernel
theorem dX12_grid_78 : decode cX12_grid 78 = .ok (.goto (-15), 3) := by decide +kernel
theorem dX12_grid_81 : decode cX12_grid 81 = .ok (.aload_n 0, 1) := by decide +kernel
theorem dX12_grid_82 : decode cX12_grid 82 = .ok (.getfield 162, 3) := by decide +kernel
theorem dX12_grid_85 : decode cX12_grid 85 = .ok (.ireturn, 1) := by decide +kernel
theorem dX12_isEnd_0 : decode cX12_isEnd 0 = .ok (.aload_n 0, 1) := by decide +kernel
theorem dX12_isEnd_1 : decode cX12_isEnd 1 = .ok (.getfield 13, 3) := by decide +kernel
theorem dX12_isEnd_4 : decode cX12_isEnd 4 = .ok (.iconst 2, 1) := by decide +kernel
theorem dX12_isEnd_5 : decode cX12_isEnd 5 = .ok (.iload_n 1, 1) := by decide +kernel
theorem dX12_isEnd_6 : decode cX12_isEnd 6 = .ok (.imul, 1) := by decide +kernel
theorem dX12_isEnd_7 : decode cX12_isEnd 7 = .ok (.iaload, 1) := by decide +kernel
theorem dX12_isEnd_8 : decode cX12_isEnd 8 = .ok (.iload_n 2, 1) := by decide +kernel
theorem dX12_isEnd_9 : decode cX12_isEnd 9 = .ok (.if_icmp .eq 17, 3) := by decide +kernel
theorem dX12_isEnd_12 : decode cX12_isEnd 12 = .ok (.aload_n 0, 1) := by decide +kernel
theorem dX12_isEnd_13 : decode cX12_isEnd 13 = .ok (.getfield 13, 3) := by decide +kernel
theorem dX12_isEnd_16 : decode cX12_isEnd 16 = .ok (.iconst 2, 1) := by decide +kernel
theorem dX12_isEnd_17 : decode cX12_isEnd 17 = .ok (.iload_n 1, 1) := by decide +kernel
theorem dX12_isEnd_18 : decode cX12_isEnd 18 = .ok (.imul, 1) := by decide +kernel
theorem dX12_isEnd_19 : decode cX12_isEnd 19 = .ok (.iconst 1, 1) := by decide +kernel
theorem dX12_isEnd_20 : decode cX12_isEnd 20 = .ok (.iadd, 1) := by decide +kernel
theorem dX12_isEnd_21 : decode cX12_isEnd 21 = .ok (.iaload, 1) := by decide +kernel
theorem dX12_isEnd_22 : decode cX12_isEnd 22 = .ok (.iload_n 2, 1) := by decide +kernel
theorem dX12_isEnd_23 : decode cX12_isEnd 23 = .ok (.if_icmp .ne 7, 3) := by decide +kernel
theorem dX12_isEnd_26 : decode cX12_isEnd 26 = .ok (.iconst 1, 1) := by decide +kernel
theorem dX12_isEnd_27 : decode cX12_isEnd 27 = .ok (.goto 4, 3) := by decide +kernel
theorem dX12_isEnd_30 : decode cX12_isEnd 30 = .ok (.iconst 0, 1) := by decide +kernel
theorem dX12_isEnd_31 : decode cX12_isEnd 31 = .ok (.ireturn, 1) := by decide +kernel
theorem dX12_linesAt_0 : decode cX12_linesAt 0 = .ok (.iconst 0, 1) := by decide +kernel
theorem dX12_linesAt_1 : decode cX12_linesAt 1 = .ok (.istore_n 3, 1) := by decide +kernel
theorem dX12_linesAt_2 : decode cX12_linesAt 2 = .ok (.iconst 0, 1) := by decide +kernel
theorem dX12_linesAt_3 : decode cX12_linesAt 3 = .ok (.istore 4, 2) := by decide +kernel
theorem dX12_linesAt_5 : decode cX12_linesAt 5 = .ok (.iload 4, 2) := by decide +kernel
theorem dX12_linesAt_7 : decode cX12_linesAt 7 = .ok (.aload_n 0, 1) := by decide +kernel
theorem dX12_linesAt_8 : decode cX12_linesAt 8 = .ok (.getfield 86, 3) := by decide +kernel
theorem dX12_linesAt_11 : decode cX12_linesAt 11 = .ok (.if_icmp .ge 39, 3) := by decide +kernel
theorem dX12_linesAt_14 : decode cX12_linesAt 14 = .ok (.iload_n 3, 1) := by decide +kernel
theorem dX12_linesAt_15 : decode cX12_linesAt 15 = .ok (.iload_n 2, 1) := by decide +kernel
theorem dX12_linesAt_16 : decode cX12_linesAt 16 = .ok (.iload 4, 2) := by decide +kernel
theorem dX12_linesAt_18 : decode cX12_linesAt 18 = .ok (.invokestatic 179, 3) := by decide +kernel
theorem dX12_linesAt_21 : decode cX12_linesAt 21 = .ok (.ifCond .ne 20, 3) := by decide +kernel
theorem dX12_linesAt_24 : decode cX12_linesAt 24 = .ok (.aload_n 0, 1) := by decide +kernel
theorem dX12_linesAt_25 : decode cX12_linesAt 25 = .ok (.iload 4, 2) := by decide +kernel
theorem dX12_linesAt_27 : decode cX12_linesAt 27 = .ok (.iload_n 1, 1) := by decide +kernel
theorem dX12_linesAt_28 : decode cX12_linesAt 28 = .ok (.invokevirtual 190, 3) := by decide +kernel
theorem dX12_linesAt_31 : decode cX12_linesAt 31 = .ok (.ifCond .eq 10, 3) := by decide +kernel
theorem dX12_linesAt_34 : decode cX12_linesAt 34 = .ok (.iconst 1, 1) := by decide +kernel
theorem dX12_linesAt_35 : decode cX12_linesAt 35 = .ok (.iload 4, 2) := by decide +kernel
theorem dX12_linesAt_37 : decode cX12_linesAt 37 = .ok (.ishl, 1) := by decide +kernel
theorem dX12_linesAt_38 : decode cX12_linesAt 38 = .ok (.goto 4, 3) := by decide +kernel
theorem dX12_linesAt_41 : decode cX12_linesAt 41 = .ok (.iconst 0, 1) := by decide +kernel
theorem dX12_linesAt_42 : decode cX12_linesAt 42 = .ok (.ior, 1) := by decide +kernel
theorem dX12_linesAt_43 : decode cX12_linesAt 43 = .ok (.istore_n 3, 1) := by decide +kernel
theorem dX12_linesAt_44 : decode cX12_linesAt 44 = .ok (.iinc 4 1, 3) := by decide +kernel
theorem dX12_linesAt_47 : decode cX12_linesAt 47 = .ok (.goto (-42), 3) := by decide +kernel
theorem dX12_linesAt_50 : decode cX12_linesAt 50 = .ok (.iload_n 3, 1) := by decide +kernel
theorem dX12_linesAt_51 : decode cX12_linesAt 51 = .ok (.ireturn, 1) := by decide +kernel
theorem dX12_between_0 : decode cX12_between 0 = .ok (.iconst 0, 1) := by decide +kernel
theorem dX12_between_1 : decode cX12_between 1 = .ok (.istore_n 3, 1) := by decide +kernel
theorem dX12_between_2 : decode cX12_between 2 = .ok (.iconst 0, 1) := by decide +kernel
theorem dX12_between_3 : decode cX12_between 3 = .ok (.istore 4, 2) := by decide +kernel
theorem dX12_between_5 : decode cX12_between 5 = .ok (.iload 4, 2) := by decide +kernel
theorem dX12_between_7 : decode cX12_between 7 = .ok (.aload_n 0, 1) := by decide +kernel
theorem dX12_between_8 : decode cX12_between 8 = .ok (.getfield 86, 3) := by decide +kernel
theorem dX12_between_11 : decode cX12_between 11 = .ok (.if_icmp .ge 73, 3) := by decide +kernel
theorem dX12_between_14 : decode cX12_between 14 = .ok (.iload_n 3, 1) := by decide +kernel
theorem dX12_between_15 : decode cX12_between 15 = .ok (.iload_n 2, 1) := by decide +kernel
theorem dX12_between_16 : decode cX12_between 16 = .ok (.iload 4, 2) := by decide +kernel
theorem dX12_between_18 : decode cX12_between 18 = .ok (.invokestatic 179, 3) := by decide +kernel
theorem dX12_between_21 : decode cX12_between 21 = .ok (.ifCond .ne 54, 3) := by decide +kernel
theorem dX12_between_24 : decode cX12_between 24 = .ok (.aload_n 0, 1) := by decide +kernel
theorem dX12_between_25 : decode cX12_between 25 = .ok (.getfield 13, 3) := by decide +kernel
theorem dX12_between_28 : decode cX12_between 28 = .ok (.iconst 2, 1) := by decide +kernel
theorem dX12_between_29 : decode cX12_between 29 = .ok (.iload 4, 2) := by decide +kernel
theorem dX12_between_31 : decode cX12_between 31 = .ok (.imul, 1) := by decide +kernel
theorem dX12_between_32 : decode cX12_between 32 = .ok (.iaload, 1) := by decide +kernel
theorem dX12_between_33 : decode cX12_between 33 = .ok (.aload_n 0, 1) := by decide +kernel
theorem dX12_between_34 : decode cX12_between 34 = .ok (.getfield 13, 3) := by decide +kernel
theorem dX12_between_37 : decode cX12_between 37 = .ok (.iconst 2, 1) := by decide +kernel
theorem dX12_between_38 : decode cX12_between 38 = .ok (.iload_n 1, 1) := by decide +kernel
theorem dX12_between_39 : decode cX12_between 39 = .ok (.imul, 1) := by decide +kernel
theorem dX12_between_40 : decode cX12_between 40 = .ok (.iaload, 1) := by decide +kernel
theorem dX12_between_41 : decode cX12_between 41 = .ok (.if_icmp .ne 34, 3) := by decide +kernel
theorem dX12_between_44 : decode cX12_between 44 = .ok (.aload_n 0, 1) := by decide +kernel
theorem dX12_between_45 : decode cX12_between 45 = .ok (.getfield 13, 3) := by decide +kernel
theorem dX12_between_48 : decode cX12_between 48 = .ok (.iconst 2, 1) := by decide +kernel
theorem dX12_between_49 : decode cX12_between 49 = .ok (.iload 4, 2) := by decide +kernel
theorem dX12_between_51 : decode cX12_between 51 = .ok (.imul, 1) := by decide +kernel
theorem dX12_between_52 : decode cX12_between 52 = .ok (.iconst 1, 1) := by decide +kernel
theorem dX12_between_53 : decode cX12_between 53 = .ok (.iadd, 1) := by decide +kernel
theorem dX12_between_54 : decode cX12_between 54 = .ok (.iaload, 1) := by decide +kernel
theorem dX12_between_55 : decode cX12_between 55 = .ok (.aload_n 0, 1) := by decide +kernel
theorem dX12_between_56 : decode cX12_between 56 = .ok (.getfield 13, 3) := by decide +kernel
theorem dX12_between_59 : decode cX12_between 59 = .ok (.iconst 2, 1) := by decide +kernel
theorem dX12_between_60 : decode cX12_between 60 = .ok (.iload_n 1, 1) := by decide +kernel
theorem dX12_between_61 : decode cX12_between 61 = .ok (.imul, 1) := by decide +kernel
theorem dX12_between_62 : decode cX12_between 62 = .ok (.iconst 1, 1) := by decide +kernel
theorem dX12_between_63 : decode cX12_between 63 = .ok (.iadd, 1) := by decide +kernel
theorem dX12_between_64 : decode cX12_between 64 = .ok (.iaload, 1) := by decide +kernel
theorem dX12_between_65 : decode cX12_between 65 = .ok (.if_icmp .ne 10, 3) := by decide +kernel
theorem dX12_between_68 : decode cX12_between 68 = .ok (.iconst 1, 1) := by decide +kernel
theorem dX12_between_69 : decode cX12_between 69 = .ok (.iload 4, 2) := by decide +kernel
theorem dX12_between_71 : decode cX12_between 71 = .ok (.ishl, 1) := by decide +kernel
theorem dX12_between_72 : decode cX12_between 72 = .ok (.goto 4, 3) := by decide +kernel
theorem dX12_between_75 : decode cX12_between 75 = .ok (.iconst 0, 1) := by decide +kernel
theorem dX12_between_76 : decode cX12_between 76 = .ok (.ior, 1) := by decide +kernel
theorem dX12_between_77 : decode cX12_between 77 = .ok (.istore_n 3, 1) := by decide +kernel
theorem dX12_between_78 : decode cX12_between 78 = .ok (.iinc 4 1, 3) := by decide +kernel
theorem dX12_between_81 : decode cX12_between 81 = .ok (.goto (-76), 3) := by decide +kernel
theorem dX12_between_84 : decode cX12_between 84 = .ok (.iload_n 3, 1) := by decide +kernel
theorem dX12_between_85 : decode cX12_between 85 = .ok (.ireturn, 1) := by decide +kernel
theorem dX12_wide_0 : decode cX12_wide 0 = .ok (.aload_n 0, 1) := by decide +kernel
theorem dX12_wide_1 : decode cX12_wide 1 = .ok (.iload_n 1, 1) := by decide +kernel
theorem dX12_wide_2 : decode cX12_wide 2 = .ok (.iload_n 2, 1) := by decide +kernel
theorem dX12_wide_3 : decode cX12_wide 3 = .ok (.invokevirtual 193, 3) := by decide +kernel
theorem dX12_wide_6 : decode cX12_wide 6 = .ok (.istore_n 3, 1) := by decide +kernel
theorem dX12_wide_7 : decode cX12_wide 7 = .ok (.iload_n 3, 1) := by decide +kernel
theorem dX12_wide_8 : decode cX12_wide 8 = .ok (.istore 4, 2) := by decide +kernel
theorem dX12_wide_10 : decode cX12_wide 10 = .ok (.iconst 0, 1) := by decide +kernel
theorem dX12_wide_11 : decode cX12_wide 11 = .ok (.istore 5, 2) := by decide +kernel
theorem dX12_wide_13 : decode cX12_wide 13 = .ok (.iload 5, 2) := by decide +kernel
theorem dX12_wide_15 : decode cX12_wide 15 = .ok (.aload_n 0, 1) := by decide +kernel
theorem dX12_wide_16 : decode cX12_wide 16 = .ok (.getfield 86, 3) := by decide +kernel
theorem dX12_wide_19 : decode cX12_wide 19 = .ok (.if_icmp .ge 58, 3) := by decide +kernel
theorem dX12_wide_22 : decode cX12_wide 22 = .ok (.iload 4, 2) := by decide +kernel
theorem dX12_wide_24 : decode cX12_wide 24 = .ok (.iload_n 3, 1) := by decide +kernel
theorem dX12_wide_25 : decode cX12_wide 25 = .ok (.iload 5, 2) := by decide +kernel
theorem dX12_wide_27 : decode cX12_wide 27 = .ok (.invokestatic 179, 3) := by decide +kernel
theorem dX12_wide_30 : decode cX12_wide 30 = .ok (.ifCond .eq 37, 3) := by decide +kernel
theorem dX12_wide_33 : decode cX12_wide 33 = .ok (.aload_n 0, 1) := by decide +kernel
theorem dX12_wide_34 : decode cX12_wide 34 = .ok (.aload_n 0, 1) := by decide +kernel
theorem dX12_wide_35 : decode cX12_wide 35 = .ok (.getfield 13, 3) := by decide +kernel
theorem dX12_wide_38 : decode cX12_wide 38 = .ok (.iconst 2, 1) := by decide +kernel
theorem dX12_wide_39 : decode cX12_wide 39 = .ok (.iload 5, 2) := by decide +kernel
theorem dX12_wide_41 : decode cX12_wide 41 = .ok (.imul, 1) := by decide +kernel
theorem dX12_wide_42 : decode cX12_wide 42 = .ok (.iaload, 1) := by decide +kernel
theorem dX12_wide_43 : decode cX12_wide 43 = .ok (.iload_n 2, 1) := by decide +kernel
theorem dX12_wide_44 : decode cX12_wide 44 = .ok (.invokevirtual 193, 3) := by decide +kernel
theorem dX12_wide_47 : decode cX12_wide 47 = .ok (.aload_n 0, 1) := by decide +kernel
theorem dX12_wide_48 : decode cX12_wide 48 = .ok (.aload_n 0, 1) := by decide +kernel
theorem dX12_wide_49 : decode cX12_wide 49 = .ok (.getfield 13, 3) := by decide +kernel
theorem dX12_wide_52 : decode cX12_wide 52 = .ok (.iconst 2, 1) := by decide +kernel
theorem dX12_wide_53 : decode cX12_wide 53 = .ok (.iload 5, 2) := by decide +kernel
theorem dX12_wide_55 : decode cX12_wide 55 = .ok (.imul, 1) := by decide +kernel
theorem dX12_wide_56 : decode cX12_wide 56 = .ok (.iconst 1, 1) := by decide +kernel
theorem dX12_wide_57 : decode cX12_wide 57 = .ok (.iadd, 1) := by decide +kernel
theorem dX12_wide_58 : decode cX12_wide 58 = .ok (.iaload, 1) := by decide +kernel
theorem dX12_wide_59 : decode cX12_wide 59 = .ok (.iload_n 2, 1) := by decide +kernel
theorem dX12_wide_60 : decode cX12_wide 60 = .ok (.invokevirtual 193, 3) := by decide +kernel
theorem dX12_wide_63 : decode cX12_wide 63 = .ok (.ior, 1) := by decide +kernel
theorem dX12_wide_64 : decode cX12_wide 64 = .ok (.goto 4, 3) := by decide +kernel
theorem dX12_wide_67 : decode cX12_wide 67 = .ok (.iconst 0, 1) := by decide +kernel
theorem dX12_wide_68 : decode cX12_wide 68 = .ok (.ior, 1) := by decide +kernel
theorem dX12_wide_69 : decode cX12_wide 69 = .ok (.istore 4, 2) := by decide +kernel
theorem dX12_wide_71 : decode cX12_wide 71 = .ok (.iinc 5 1, 3) := by decide +kernel
theorem dX12_wide_74 : decode cX12_wide 74 = .ok (.goto (-61), 3) := by decide +kernel
theorem dX12_wide_77 : decode cX12_wide 77 = .ok (.iload 4, 2) := by decide +kernel
theorem dX12_wide_79 : decode cX12_wide 79 = .ok (.ireturn, 1) := by decide +kernel
theorem dX12_mayServe_0 : decode cX12_mayServe 0 = .ok (.iload_n 1, 1) := by decide +kernel
theorem dX12_mayServe_1 : decode cX12_mayServe 1 = .ok (.tableswitch 68 0 3 #[31, 47, 54, 61], 31) := by decide +kernel
theorem dX12_mayServe_32 : decode cX12_mayServe 32 = .ok (.iload_n 3, 1) := by decide +kernel
theorem dX12_mayServe_33 : decode cX12_mayServe 33 = .ok (.iload_n 2, 1) := by decide +kernel
theorem dX12_mayServe_34 : decode cX12_mayServe 34 = .ok (.invokestatic 179, 3) := by decide +kernel
theorem dX12_mayServe_37 : decode cX12_mayServe 37 = .ok (.ifCond .eq 7, 3) := by decide +kernel
theorem dX12_mayServe_40 : decode cX12_mayServe 40 = .ok (.iconst 0, 1) := by decide +kernel
theorem dX12_mayServe_41 : decode cX12_mayServe 41 = .ok (.goto 6, 3) := by decide +kernel
theorem dX12_mayServe_44 : decode cX12_mayServe 44 = .ok (.iconst 1, 1) := by decide +kernel
theorem dX12_mayServe_45 : decode cX12_mayServe 45 = .ok (.iload_n 2, 1) := by decide +kernel
theorem dX12_mayServe_46 : decode cX12_mayServe 46 = .ok (.ishl, 1) := by decide +kernel
theorem dX12_mayServe_47 : decode cX12_mayServe 47 = .ok (.ireturn, 1) := by decide +kernel
theorem dX12_mayServe_48 : decode cX12_mayServe 48 = .ok (.aload_n 0, 1) := by decide +kernel
theorem dX12_mayServe_49 : decode cX12_mayServe 49 = .ok (.iload_n 2, 1) := by decide +kernel
theorem dX12_mayServe_50 : decode cX12_mayServe 50 = .ok (.iload_n 3, 1) := by decide +kernel
theorem dX12_mayServe_51 : decode cX12_mayServe 51 = .ok (.invokevirtual 197, 3) := by decide +kernel
theorem dX12_mayServe_54 : decode cX12_mayServe 54 = .ok (.ireturn, 1) := by decide +kernel
theorem dX12_mayServe_55 : decode cX12_mayServe 55 = .ok (.aload_n 0, 1) := by decide +kernel
theorem dX12_mayServe_56 : decode cX12_mayServe 56 = .ok (.iload_n 2, 1) := by decide +kernel
theorem dX12_mayServe_57 : decode cX12_mayServe 57 = .ok (.iload_n 3, 1) := by decide +kernel
theorem dX12_mayServe_58 : decode cX12_mayServe 58 = .ok (.invokevirtual 193, 3) := by decide +kernel
theorem dX12_mayServe_61 : decode cX12_mayServe 61 = .ok (.ireturn, 1) := by decide +kernel
theorem dX12_mayServe_62 : decode cX12_mayServe 62 = .ok (.aload_n 0, 1) := by decide +kernel
theorem dX12_mayServe_63 : decode cX12_mayServe 63 = .ok (.iload_n 2, 1) := by decide +kernel
theorem dX12_mayServe_64 : decode cX12_mayServe 64 = .ok (.iload_n 3, 1) := by decide +kernel
theorem dX12_mayServe_65 : decode cX12_mayServe 65 = .ok (.invokevirtual 200, 3) := by decide +kernel
theorem dX12_mayServe_68 : decode cX12_mayServe 68 = .ok (.ireturn, 1) := by decide +kernel
theorem dX12_mayServe_69 : decode cX12_mayServe 69 = .ok (.aload_n 0, 1) := by decide +kernel
theorem dX12_mayServe_70 : decode cX12_mayServe 70 = .ok (.iload_n 2, 1) := by decide +kernel
theorem dX12_mayServe_71 : decode cX12_mayServe 71 = .ok (.iload_n 3, 1) := by decide +kernel
theorem dX12_mayServe_72 : decode cX12_mayServe 72 = .ok (.invokevirtual 193, 3) := by decide +kernel
theorem dX12_mayServe_75 : decode cX12_mayServe 75 = .ok (.istore 4, 2) := by decide +kernel
theorem dX12_mayServe_77 : decode cX12_mayServe 77 = .ok (.iload 4, 2) := by decide +kernel
theorem dX12_mayServe_79 : decode cX12_mayServe 79 = .ok (.iload 4, 2) := by decide +kernel
theorem dX12_mayServe_81 : decode cX12_mayServe 81 = .ok (.iconst 1, 1) := by decide +kernel
theorem dX12_mayServe_82 : decode cX12_mayServe 82 = .ok (.isub, 1) := by decide +kernel
theorem dX12_mayServe_83 : decode cX12_mayServe 83 = .ok (.iand, 1) := by decide +kernel
theorem dX12_mayServe_84 : decode cX12_mayServe 84 = .ok (.ireturn, 1) := by decide +kernel
theorem dX12_mayOf_0 : decode cX12_mayOf 0 = .ok (.aload_n 0, 1) := by decide +kernel
theorem dX12_mayOf_1 : decode cX12_mayOf 1 = .ok (.getfield 7, 3) := by decide +kernel
theorem dX12_mayOf_4 : decode cX12_mayOf 4 = .ok (.iconst 1, 1) := by decide +kernel
theorem dX12_mayOf_5 : decode cX12_mayOf 5 = .ok (.iaload, 1) := by decide +kernel
theorem dX12_mayOf_6 : decode cX12_mayOf 6 = .ok (.iload_n 1, 1) := by decide +kernel
theorem dX12_mayOf_7 : decode cX12_mayOf 7 = .ok (.invokestatic 179, 3) := by decide +kernel
theorem dX12_mayOf_10 : decode cX12_mayOf 10 = .ok (.ifCond .eq 7, 3) := by decide +kernel
theorem dX12_mayOf_13 : decode cX12_mayOf 13 = .ok (.iconst 0, 1) := by decide +kernel
theorem dX12_mayOf_14 : decode cX12_mayOf 14 = .ok (.goto 25, 3) := by decide +kernel
theorem dX12_mayOf_17 : decode cX12_mayOf 17 = .ok (.aload_n 0, 1) := by decide +kernel
theorem dX12_mayOf_18 : decode cX12_mayOf 18 = .ok (.aload_n 0, 1) := by decide +kernel
theorem dX12_mayOf_19 : decode cX12_mayOf 19 = .ok (.getfield 7, 3) := by decide +kernel
theorem dX12_mayOf_22 : decode cX12_mayOf 22 = .ok (.iconst 3, 1) := by decide +kernel
theorem dX12_mayOf_23 : decode cX12_mayOf 23 = .ok (.iload_n 1, 1) := by decide +kernel
theorem dX12_mayOf_24 : decode cX12_mayOf 24 = .ok (.iadd, 1) := by decide +kernel
theorem dX12_mayOf_25 : decode cX12_mayOf 25 = .ok (.iaload, 1) := by decide +kernel
theorem dX12_mayOf_26 : decode cX12_mayOf 26 = .ok (.aload_n 0, 1) := by decide +kernel
theorem dX12_mayOf_27 : decode cX12_mayOf 27 = .ok (.getfield 7, 3) := by decide +kernel
theorem dX12_mayOf_30 : decode cX12_mayOf 30 = .ok (.bipush 12, 2) := by decide +kernel
theorem dX12_mayOf_32 : decode cX12_mayOf 32 = .ok (.iload_n 1, 1) := by decide +kernel
theorem dX12_mayOf_33 : decode cX12_mayOf 33 = .ok (.iadd, 1) := by decide +kernel
theorem dX12_mayOf_34 : decode cX12_mayOf 34 = .ok (.iaload, 1) := by decide +kernel
theorem dX12_mayOf_35 : decode cX12_mayOf 35 = .ok (.iload_n 2, 1) := by decide +kernel
theorem dX12_mayOf_36 : decode cX12_mayOf 36 = .ok (.invokevirtual 203, 3) := by decide +kernel
theorem dX12_mayOf_39 : decode cX12_mayOf 39 = .ok (.ireturn, 1) := by decide +kernel
theorem dX12_layMore_0 : decode cX12_layMore 0 = .ok (.iconst 0, 1) := by decide +kernel
theorem dX12_layMore_1 : decode cX12_layMore 1 = .ok (.istore 4, 2) := by decide +kernel
theorem dX12_layMore_3 : decode cX12_layMore 3 = .ok (.iload 4, 2) := by decide +kernel
theorem dX12_layMore_5 : decode cX12_layMore 5 = .ok (.bipush 16, 2) := by decide +kernel
theorem dX12_layMore_7 : decode cX12_layMore 7 = .ok (.if_icmp .ge 27, 3) := by decide +kernel
theorem dX12_layMore_10 : decode cX12_layMore 10 = .ok (.aload_n 0, 1) := by decide +kernel
theorem dX12_layMore_11 : decode cX12_layMore 11 = .ok (.getfield 54, 3) := by decide +kernel
theorem dX12_layMore_14 : decode cX12_layMore 14 = .ok (.iload_n 2, 1) := by decide +kernel
theorem dX12_layMore_15 : decode cX12_layMore 15 = .ok (.iload 4, 2) := by decide +kernel
theorem dX12_layMore_17 : decode cX12_layMore 17 = .ok (.iadd, 1) := by decide +kernel
theorem dX12_layMore_18 : decode cX12_layMore 18 = .ok (.aload_n 0, 1) := by decide +kernel
theorem dX12_layMore_19 : decode cX12_layMore 19 = .ok (.getfield 54, 3) := by decide +kernel
theorem dX12_layMore_22 : decode cX12_layMore 22 = .ok (.iload_n 1, 1) := by decide +kernel
theorem dX12_layMore_23 : decode cX12_layMore 23 = .ok (.iload 4, 2) := by decide +kernel
theorem dX12_layMore_25 : decode cX12_layMore 25 = .ok (.iadd, 1) := by decide +kernel
theorem dX12_layMore_26 : decode cX12_layMore 26 = .ok (.laload, 1) := by decide +kernel
theorem dX12_layMore_27 : decode cX12_layMore 27 = .ok (.lastore, 1) := by decide +kernel
theorem dX12_layMore_28 : decode cX12_layMore 28 = .ok (.iinc 4 1, 3) := by decide +kernel
theorem dX12_layMore_31 : decode cX12_layMore 31 = .ok (.goto (-28), 3) := by decide +kernel
theorem dX12_layMore_34 : decode cX12_layMore 34 = .ok (.iconst 0, 1) := by decide +kernel
theorem dX12_layMore_35 : decode cX12_layMore 35 = .ok (.istore 4, 2) := by decide +kernel
theorem dX12_layMore_37 : decode cX12_layMore 37 = .ok (.iload 4, 2) := by decide +kernel
theorem dX12_layMore_39 : decode cX12_layMore 39 = .ok (.aload_n 0, 1) := by decide +kernel
theorem dX12_layMore_40 : decode cX12_layMore 40 = .ok (.getfield 86, 3) := by decide +kernel
theorem dX12_layMore_43 : decode cX12_layMore 43 = .ok (.if_icmp .ge 120, 3) := by decide +kernel
theorem dX12_layMore_46 : decode cX12_layMore 46 = .ok (.iconst 0, 1) := by decide +kernel
theorem dX12_layMore_47 : decode cX12_layMore 47 = .ok (.istore 5, 2) := by decide +kernel
theorem dX12_layMore_49 : decode cX12_layMore 49 = .ok (.iload 5, 2) := by decide +kernel
theorem dX12_layMore_51 : decode cX12_layMore 51 = .ok (.bipush 16, 2) := by decide +kernel
theorem dX12_layMore_53 : decode cX12_layMore 53 = .ok (.if_icmp .ge 104, 3) := by decide +kernel
theorem dX12_layMore_56 : decode cX12_layMore 56 = .ok (.iload_n 3, 1) := by decide +kernel
theorem dX12_layMore_57 : decode cX12_layMore 57 = .ok (.iload 4, 2) := by decide +kernel
theorem dX12_layMore_59 : decode cX12_layMore 59 = .ok (.invokestatic 179, 3) := by decide +kernel
theorem dX12_layMore_62 : decode cX12_layMore 62 = .ok (.ifCond .eq 95, 3) := by decide +kernel
theorem dX12_layMore_65 : decode cX12_layMore 65 = .ok (.iload 4, 2) := by decide +kernel
theorem dX12_layMore_67 : decode cX12_layMore 67 = .ok (.bipush 6, 2) := by decide +kernel
theorem dX12_layMore_69 : decode cX12_layMore 69 = .ok (.if_icmp .ge 40, 3) := by decide +kernel
theorem dX12_layMore_72 : decode cX12_layMore 72 = .ok (.aload_n 0, 1) := by decide +kernel
theorem dX12_layMore_73 : decode cX12_layMore 73 = .ok (.getfield 54, 3) := by decide +kernel
theorem dX12_layMore_76 : decode cX12_layMore 76 = .ok (.iload_n 2, 1) := by decide +kernel
theorem dX12_layMore_77 : decode cX12_layMore 77 = .ok (.iload 5, 2) := by decide +kernel
theorem dX12_layMore_79 : decode cX12_layMore 79 = .ok (.iadd, 1) := by decide +kernel
theorem dX12_layMore_80 : decode cX12_layMore 80 = .ok (.dup2, 1) := by decide +kernel
theorem dX12_layMore_81 : decode cX12_layMore 81 = .ok (.laload, 1) := by decide +kernel
theorem dX12_layMore_82 : decode cX12_layMore 82 = .ok (.aload_n 0, 1) := by decide +kernel
theorem dX12_layMore_83 : decode cX12_layMore 83 = .ok (.getfield 54, 3) := by decide +kernel
theorem dX12_layMore_86 : decode cX12_layMore 86 = .ok (.iload_n 1, 1) := by decide +kernel
theorem dX12_layMore_87 : decode cX12_layMore 87 = .ok (.iload 5, 2) := by decide +kernel
theorem dX12_layMore_89 : decode cX12_layMore 89 = .ok (.iadd, 1) := by decide +kernel
theorem dX12_layMore_90 : decode cX12_layMore 90 = .ok (.laload, 1) := by decide +kernel
theorem dX12_layMore_91 : decode cX12_layMore 91 = .ok (.aload_n 0, 1) := by decide +kernel
theorem dX12_layMore_92 : decode cX12_layMore 92 = .ok (.getfield 69, 3) := by decide +kernel
theorem dX12_layMore_95 : decode cX12_layMore 95 = .ok (.iload 4, 2) := by decide +kernel
theorem dX12_layMore_97 : decode cX12_layMore 97 = .ok (.laload, 1) := by decide +kernel
theorem dX12_layMore_98 : decode cX12_layMore 98 = .ok (.land, 1) := by decide +kernel
theorem dX12_layMore_99 : decode cX12_layMore 99 = .ok (.iconst 1, 1) := by decide +kernel
theorem dX12_layMore_100 : decode cX12_layMore 100 = .ok (.iload 4, 2) := by decide +kernel
theorem dX12_layMore_102 : decode cX12_layMore 102 = .ok (.ishl, 1) := by decide +kernel
theorem dX12_layMore_103 : decode cX12_layMore 103 = .ok (.lshl, 1) := by decide +kernel
theorem dX12_layMore_104 : decode cX12_layMore 104 = .ok (.lor, 1) := by decide +kernel
theorem dX12_layMore_105 : decode cX12_layMore 105 = .ok (.lastore, 1) := by decide +kernel
theorem dX12_layMore_106 : decode cX12_layMore 106 = .ok (.goto 45, 3) := by decide +kernel
theorem dX12_layMore_109 : decode cX12_layMore 109 = .ok (.iload 5, 2) := by decide +kernel
theorem dX12_layMore_111 : decode cX12_layMore 111 = .ok (.iload 4, 2) := by decide +kernel
theorem dX12_layMore_113 : decode cX12_layMore 113 = .ok (.bipush 6, 2) := by decide +kernel
theorem dX12_layMore_115 : decode cX12_layMore 115 = .ok (.isub, 1) := by decide +kernel
theorem dX12_layMore_116 : decode cX12_layMore 116 = .ok (.invokestatic 179, 3) := by decide +kernel
theorem dX12_layMore_119 : decode cX12_layMore 119 = .ok (.ifCond .ne 32, 3) := by decide +kernel
theorem dX12_layMore_122 : decode cX12_layMore 122 = .ok (.aload_n 0, 1) := by decide +kernel
theorem dX12_layMore_123 : decode cX12_layMore 123 = .ok (.getfield 54, 3) := by decide +kernel
theorem dX12_layMore_126 : decode cX12_layMore 126 = .ok (.iload_n 2, 1) := by decide +kernel
theorem dX12_layMore_127 : decode cX12_layMore 127 = .ok (.iload 5, 2) := by decide +kernel
theorem dX12_layMore_129 : decode cX12_layMore 129 = .ok (.iconst 1, 1) := by decide +kernel
theorem dX12_layMore_130 : decode cX12_layMore 130 = .ok (.iload 4, 2) := by decide +kernel
theorem dX12_layMore_132 : decode cX12_layMore 132 = .ok (.bipush 6, 2) := by decide +kernel
theorem dX12_layMore_134 : decode cX12_layMore 134 = .ok (.isub, 1) := by decide +kernel
theorem dX12_layMore_135 : decode cX12_layMore 135 = .ok (.ishl, 1) := by decide +kernel
theorem dX12_layMore_136 : decode cX12_layMore 136 = .ok (.ior, 1) := by decide +kernel
theorem dX12_layMore_137 : decode cX12_layMore 137 = .ok (.iadd, 1) := by decide +kernel
theorem dX12_layMore_138 : decode cX12_layMore 138 = .ok (.dup2, 1) := by decide +kernel
theorem dX12_layMore_139 : decode cX12_layMore 139 = .ok (.laload, 1) := by decide +kernel
theorem dX12_layMore_140 : decode cX12_layMore 140 = .ok (.aload_n 0, 1) := by decide +kernel
theorem dX12_layMore_141 : decode cX12_layMore 141 = .ok (.getfield 54, 3) := by decide +kernel
theorem dX12_layMore_144 : decode cX12_layMore 144 = .ok (.iload_n 1, 1) := by decide +kernel
theorem dX12_layMore_145 : decode cX12_layMore 145 = .ok (.iload 5, 2) := by decide +kernel
theorem dX12_layMore_147 : decode cX12_layMore 147 = .ok (.iadd, 1) := by decide +kernel
theorem dX12_layMore_148 : decode cX12_layMore 148 = .ok (.laload, 1) := by decide +kernel
theorem dX12_layMore_149 : decode cX12_layMore 149 = .ok (.lor, 1) := by decide +kernel
theorem dX12_layMore_150 : decode cX12_layMore 150 = .ok (.lastore, 1) := by decide +kernel
theorem dX12_layMore_151 : decode cX12_layMore 151 = .ok (.iinc 5 1, 3) := by decide +kernel
theorem dX12_layMore_154 : decode cX12_layMore 154 = .ok (.goto (-105), 3) := by decide +kernel
theorem dX12_layMore_157 : decode cX12_layMore 157 = .ok (.iinc 4 1, 3) := by decide +kernel
theorem dX12_layMore_160 : decode cX12_layMore 160 = .ok (.goto (-123), 3) := by decide +kernel
theorem dX12_layMore_163 : decode cX12_layMore 163 = .ok (.return_, 1) := by decide +kernel
theorem dX12_layNone_0 : decode cX12_layNone 0 = .ok (.iconst 0, 1) := by decide +kernel
theorem dX12_layNone_1 : decode cX12_layNone 1 = .ok (.istore_n 2, 1) := by decide +kernel
theorem dX12_layNone_2 : decode cX12_layNone 2 = .ok (.iload_n 2, 1) := by decide +kernel
theorem dX12_layNone_3 : decode cX12_layNone 3 = .ok (.bipush 16, 2) := by decide +kernel
theorem dX12_layNone_5 : decode cX12_layNone 5 = .ok (.if_icmp .ge 26, 3) := by decide +kernel
theorem dX12_layNone_8 : decode cX12_layNone 8 = .ok (.aload_n 0, 1) := by decide +kernel
theorem dX12_layNone_9 : decode cX12_layNone 9 = .ok (.getfield 54, 3) := by decide +kernel
theorem dX12_layNone_12 : decode cX12_layNone 12 = .ok (.iload_n 1, 1) := by decide +kernel
theorem dX12_layNone_13 : decode cX12_layNone 13 = .ok (.iload_n 2, 1) := by decide +kernel
theorem dX12_layNone_14 : decode cX12_layNone 14 = .ok (.iadd, 1) := by decide +kernel
theorem dX12_layNone_15 : decode cX12_layNone 15 = .ok (.iload_n 2, 1) := by decide +kernel
theorem dX12_layNone_16 : decode cX12_layNone 16 = .ok (.ifCond .ne 7, 3) := by decide +kernel
theorem dX12_layNone_19 : decode cX12_layNone 19 = .ok (.lconst 1, 1) := by decide +kernel
theorem dX12_layNone_20 : decode cX12_layNone 20 = .ok (.goto 4, 3) := by decide +kernel
theorem dX12_layNone_23 : decode cX12_layNone 23 = .ok (.lconst 0, 1) := by decide +kernel
theorem dX12_layNone_24 : decode cX12_layNone 24 = .ok (.lastore, 1) := by decide +kernel
theorem dX12_layNone_25 : decode cX12_layNone 25 = .ok (.iinc 2 1, 3) := by decide +kernel
theorem dX12_layNone_28 : decode cX12_layNone 28 = .ok (.goto (-26), 3) := by decide +kernel
theorem dX12_layNone_31 : decode cX12_layNone 31 = .ok (.return_, 1) := by decide +kernel
theorem dX12_layAll_0 : decode cX12_layAll 0 = .ok (.aload_n 0, 1) := by decide +kernel
theorem dX12_layAll_1 : decode cX12_layAll 1 = .ok (.iconst 0, 1) := by decide +kernel
theorem dX12_layAll_2 : decode cX12_layAll 2 = .ok (.invokevirtual 207, 3) := by decide +kernel
theorem dX12_layAll_5 : decode cX12_layAll 5 = .ok (.iconst 0, 1) := by decide +kernel
theorem dX12_layAll_6 : decode cX12_layAll 6 = .ok (.istore_n 1, 1) := by decide +kernel
theorem dX12_layAll_7 : decode cX12_layAll 7 = .ok (.iload_n 1, 1) := by decide +kernel
theorem dX12_layAll_8 : decode cX12_layAll 8 = .ok (.aload_n 0, 1) := by decide +kernel
theorem dX12_layAll_9 : decode cX12_layAll 9 = .ok (.getfield 7, 3) := by decide +kernel
theorem dX12_layAll_12 : decode cX12_layAll 12 = .ok (.iconst 0, 1) := by decide +kernel
theorem dX12_layAll_13 : decode cX12_layAll 13 = .ok (.iaload, 1) := by decide +kernel
theorem dX12_layAll_14 : decode cX12_layAll 14 = .ok (.if_icmp .ge 53, 3) := by decide +kernel
theorem dX12_layAll_17 : decode cX12_layAll 17 = .ok (.aload_n 0, 1) := by decide +kernel
theorem dX12_layAll_18 : decode cX12_layAll 18 = .ok (.iload_n 1, 1) := by decide +kernel
theorem dX12_layAll_19 : decode cX12_layAll 19 = .ok (.aload_n 0, 1) := by decide +kernel
theorem dX12_layAll_20 : decode cX12_layAll 20 = .ok (.getfield 7, 3) := by decide +kernel
theorem dX12_layAll_23 : decode cX12_layAll 23 = .ok (.iconst 2, 1) := by decide +kernel
theorem dX12_layAll_24 : decode cX12_layAll 24 = .ok (.iaload, 1) := by decide +kernel
theorem dX12_layAll_25 : decode cX12_layAll 25 = .ok (.invokevirtual 210, 3) := by decide +kernel
theorem dX12_layAll_28 : decode cX12_layAll 28 = .ok (.istore_n 2, 1) := by decide +kernel
theorem dX12_layAll_29 : decode cX12_layAll 29 = .ok (.iconst 0, 1) := by decide +kernel
theorem dX12_layAll_30 : decode cX12_layAll 30 = .ok (.istore_n 3, 1) := by decide +kernel
theorem dX12_layAll_31 : decode cX12_layAll 31 = .ok (.iload_n 3, 1) := by decide +kernel
theorem dX12_layAll_32 : decode cX12_layAll 32 = .ok (.iconst 1, 1) := by decide +kernel
theorem dX12_layAll_33 : decode cX12_layAll 33 = .ok (.iload_n 1, 1) := by decide +kernel
theorem dX12_layAll_34 : decode cX12_layAll 34 = .ok (.ishl, 1) := by decide +kernel
theorem dX12_layAll_35 : decode cX12_layAll 35 = .ok (.if_icmp .ge 26, 3) := by decide +kernel
theorem dX12_layAll_38 : decode cX12_layAll 38 = .ok (.aload_n 0, 1) := by decide +kernel
theorem dX12_layAll_39 : decode cX12_layAll 39 = .ok (.bipush 16, 2) := by decide +kernel
theorem dX12_layAll_41 : decode cX12_layAll 41 = .ok (.iload_n 3, 1) := by decide +kernel
theorem dX12_layAll_42 : decode cX12_layAll 42 = .ok (.imul, 1) := by decide +kernel
theorem dX12_layAll_43 : decode cX12_layAll 43 = .ok (.bipush 16, 2) := by decide +kernel
theorem dX12_layAll_45 : decode cX12_layAll 45 = .ok (.iload_n 3, 1) := by decide +kernel
theorem dX12_layAll_46 : decode cX12_layAll 46 = .ok (.iconst 1, 1) := by decide +kernel
theorem dX12_layAll_47 : decode cX12_layAll 47 = .ok (.iload_n 1, 1) := by decide +kernel
theorem dX12_layAll_48 : decode cX12_layAll 48 = .ok (.ishl, 1) := by decide +kernel
theorem dX12_layAll_49 : decode cX12_layAll 49 = .ok (.ior, 1) := by decide +kernel
theorem dX12_layAll_50 : decode cX12_layAll 50 = .ok (.imul, 1) := by decide +kernel
theorem dX12_layAll_51 : decode cX12_layAll 51 = .ok (.iload_n 2, 1) := by decide +kernel
theorem dX12_layAll_52 : decode cX12_layAll 52 = .ok (.invokevirtual 213, 3) := by decide +kernel
theorem dX12_layAll_55 : decode cX12_layAll 55 = .ok (.iinc 3 1, 3) := by decide +kernel
theorem dX12_layAll_58 : decode cX12_layAll 58 = .ok (.goto (-27), 3) := by decide +kernel
theorem dX12_layAll_61 : decode cX12_layAll 61 = .ok (.iinc 1 1, 3) := by decide +kernel
theorem dX12_layAll_64 : decode cX12_layAll 64 = .ok (.goto (-57), 3) := by decide +kernel
theorem dX12_layAll_67 : decode cX12_layAll 67 = .ok (.return_, 1) := by decide +kernel
theorem dX12_rankAt_0 : decode cX12_rankAt 0 = .ok (.bipush 7, 2) := by decide +kernel
theorem dX12_rankAt_2 : decode cX12_rankAt 2 = .ok (.istore_n 2, 1) := by decide +kernel
theorem dX12_rankAt_3 : decode cX12_rankAt 3 = .ok (.iload_n 2, 1) := by decide +kernel
theorem dX12_rankAt_4 : decode cX12_rankAt 4 = .ok (.ifCond .le 50, 3) := by decide +kernel
theorem dX12_rankAt_7 : decode cX12_rankAt 7 = .ok (.iconst 0, 1) := by decide +kernel
theorem dX12_rankAt_8 : decode cX12_rankAt 8 = .ok (.istore_n 3, 1) := by decide +kernel
theorem dX12_rankAt_9 : decode cX12_rankAt 9 = .ok (.iload_n 3, 1) := by decide +kernel
theorem dX12_rankAt_10 : decode cX12_rankAt 10 = .ok (.bipush 16, 2) := by decide +kernel
theorem dX12_rankAt_12 : decode cX12_rankAt 12 = .ok (.if_icmp .ge 36, 3) := by decide +kernel
theorem dX12_rankAt_15 : decode cX12_rankAt 15 = .ok (.aload_n 0, 1) := by decide +kernel
theorem dX12_rankAt_16 : decode cX12_rankAt 16 = .ok (.getfield 54, 3) := by decide +kernel
theorem dX12_rankAt_19 : decode cX12_rankAt 19 = .ok (.iload_n 1, 1) := by decide +kernel
theorem dX12_rankAt_20 : decode cX12_rankAt 20 = .ok (.iload_n 3, 1) := by decide +kernel
theorem dX12_rankAt_21 : decode cX12_rankAt 21 = .ok (.iadd, 1) := by decide +kernel
theorem dX12_rankAt_22 : decode cX12_rankAt 22 = .ok (.laload, 1) := by decide +kernel
theorem dX12_rankAt_23 : decode cX12_rankAt 23 = .ok (.aload_n 0, 1) := by decide +kernel
theorem dX12_rankAt_24 : decode cX12_rankAt 24 = .ok (.getfield 47, 3) := by decide +kernel
theorem dX12_rankAt_27 : decode cX12_rankAt 27 = .ok (.bipush 16, 2) := by decide +kernel
theorem dX12_rankAt_29 : decode cX12_rankAt 29 = .ok (.iload_n 2, 1) := by decide +kernel
theorem dX12_rankAt_30 : decode cX12_rankAt 30 = .ok (.imul, 1) := by decide +kernel
theorem dX12_rankAt_31 : decode cX12_rankAt 31 = .ok (.iload_n 3, 1) := by decide +kernel
theorem dX12_rankAt_32 : decode cX12_rankAt 32 = .ok (.iadd, 1) := by decide +kernel
theorem dX12_rankAt_33 : decode cX12_rankAt 33 = .ok (.laload, 1) := by decide +kernel
theorem dX12_rankAt_34 : decode cX12_rankAt 34 = .ok (.land, 1) := by decide +kernel
theorem dX12_rankAt_35 : decode cX12_rankAt 35 = .ok (.lconst 0, 1) := by decide +kernel
theorem dX12_rankAt_36 : decode cX12_rankAt 36 = .ok (.lcmp, 1) := by decide +kernel
theorem dX12_rankAt_37 : decode cX12_rankAt 37 = .ok (.ifCond .eq 5, 3) := by decide +kernel
theorem dX12_rankAt_40 : decode cX12_rankAt 40 = .ok (.iload_n 2, 1) := by decide +kernel
theorem dX12_rankAt_41 : decode cX12_rankAt 41 = .ok (.ireturn, 1) := by decide +kernel
theorem dX12_rankAt_42 : decode cX12_rankAt 42 = .ok (.iinc 3 1, 3) := by decide +kernel
theorem dX12_rankAt_45 : decode cX12_rankAt 45 = .ok (.goto (-36), 3) := by decide +kernel
theorem dX12_rankAt_48 : decode cX12_rankAt 48 = .ok (.iinc 2 (-1), 3) := by decide +kernel
theorem dX12_rankAt_51 : decode cX12_rankAt 51 = .ok (.goto (-48), 3) := by decide +kernel
theorem dX12_rankAt_54 : decode cX12_rankAt 54 = .ok (.iconst 0, 1) := by decide +kernel
theorem dX12_rankAt_55 : decode cX12_rankAt 55 = .ok (.ireturn, 1) := by decide +kernel
theorem kvX12_173 : ux_LV RX12 173 12 yX12_copyRow cX12_copyRow 4 none 2 := ⟨⟨TX12, 31, rfl⟩, tw_1215, tw_1217, tw_40, tw_87, tw_1218, ⟨by decide, by decide, by decide +kernel⟩⟩
theorem kvX12_79 : ux_LV RX12 79 12 yX12_layForests cX12_layForests 3 none 0 := ⟨⟨TX12, 31, rfl⟩, tw_1042, tw_1044, tw_30, tw_87, tw_1045, ⟨by decide, by decide, by decide +kernel⟩⟩
theorem kpX12_176 : ux_FP RX12 176 12 6 .int := ⟨RX12, TX12, 31, rfl, lay_X12, by decide, tw_1062, tyX12, tyX12_ok, nmX12, rfl, by decide +kernel⟩
theorem kfX12_19 : ux_FL RX12 19 12 7 := ⟨RX12, TX12, 31, rfl, lay_X12, by decide, tw_1063⟩
theorem kfX12_32 : ux_FL RX12 32 12 13 := ⟨RX12, TX12, 31, rfl, lay_X12, by decide, tw_1069⟩
theorem kvX12_190 : ux_LV RX12 190 12 yX12_isEnd cX12_isEnd 3 (some .boolean) 2 := ⟨⟨TX12, 31, rfl⟩, tw_1259, tw_1261, tw_50, tw_87, tw_1262, ⟨by decide, by decide, by decide +kernel⟩⟩
theorem kvX12_193 : ux_LV RX12 193 12 yX12_linesAt cX12_linesAt 5 (some .int) 2 := ⟨⟨TX12, 31, rfl⟩, tw_1255, tw_1257, tw_49, tw_87, tw_1258, ⟨by decide, by decide, by decide +kernel⟩⟩
theorem kvX12_197 : ux_LV RX12 197 12 yX12_between cX12_between 5 (some .int) 2 := ⟨⟨TX12, 31, rfl⟩, tw_1251, tw_1253, tw_48, tw_87, tw_1254, ⟨by decide, by decide, by decide +kernel⟩⟩
theorem kvX12_200 : ux_LV RX12 200 12 yX12_wide cX12_wide 6 (some .int) 2 := ⟨⟨TX12, 31, rfl⟩, tw_1263, tw_1265, tw_51, tw_87, tw_1266, ⟨by decide, by decide, by decide +kernel⟩⟩
theorem kvX12_203 : ux_LV RX12 203 12 yX12_mayServe cX12_mayServe 5 (some .int) 3 := ⟨⟨TX12, 31, rfl⟩, tw_1247, tw_1249, tw_47, tw_87, tw_1250, ⟨by decide, by decide, by decide +kernel⟩⟩
theorem kfX12_54 : ux_FL RX12 54 12 28 := ⟨RX12, TX12, 31, rfl, lay_X12, by decide, tw_1084⟩
theorem kfX12_69 : ux_FL RX12 69 12 29 := ⟨RX12, TX12, 31, rfl, lay_X12, by decide, tw_1085⟩
theorem kvX12_207 : ux_LV RX12 207 12 yX12_layNone cX12_layNone 3 none 1 := ⟨⟨TX12, 31, rfl⟩, tw_1239, tw_1241, tw_45, tw_87, tw_1242, ⟨by decide, by decide, by decide +kernel⟩⟩
theorem kvX12_210 : ux_LV RX12 210 12 yX12_mayOf cX12_mayOf 3 (some .int) 2 := ⟨⟨TX12, 31, rfl⟩, tw_1243, tw_1245, tw_46, tw_87, tw_1246, ⟨by decide, by decide, by decide +kernel⟩⟩
theorem kvX12_213 : ux_LV RX12 213 12 yX12_layMore cX12_layMore 6 none 3 := ⟨⟨TX12, 31, rfl⟩, tw_1267, tw_1269, tw_52, tw_87, tw_1270, ⟨by decide, by decide, by decide +kernel⟩⟩
def fX12_grid_63b (v1 : Int32) (N : ux_N) (L : ux_L) : Option ((Int32 × ux_N) ⊕ (ux_N)) :=
  if (3 : Int32) ≤ v1 then (some (.inr (N))) else (if ux_in v1 3 then (some (.inl ((v1 + 1), (ux_u N 8 (v1.toNatClampNeg) (-1 : Int32))))) else none)
set_option maxHeartbeats 4000000 in
set_option maxRecDepth 20000 in
theorem wX12_grid_63b {X : ux_X} (C : ux_C X cX12_grid RX12 2 (some .int) 7 154 shM) {v1 : Int32}  {N : ux_N} {L : ux_L} {o : (Int32 × ux_N) ⊕ (ux_N)} (hin : ∀ s : Int32 × ux_N, o = .inl s → ux_Wt X 2 63 [(0, .ref (ux_ad X 0)), (1, .int s.1)] [] s.2 L) (hex0 : ∀ e : ux_N, o = .inr (e) → ux_Wt X 2 81 [(0, .ref (ux_ad X 0))] [] e L) (h : fX12_grid_63b v1 N L = some o) : ux_Wt X 2 63 [(0, .ref (ux_ad X 0)), (1, .int v1)] [] N L := by
  refine wt_iload_n 64 1 C dX12_grid_63 rfl rfl ?_
  refine wt_iconst 65 3 C dX12_grid_64 rfl (by decide) ?_
  refine wt_icmp_ge 68 81 C dX12_grid_65 rfl (by decide) (fun q1 => ?_) (fun q1 => ?_)
  · have h := (if_pos q1).symm.trans h
    refine wt_sub [0] rfl ?_
    exact hex0 _ (Option.some.inj h).symm
  · have h := (if_neg q1).symm.trans h
    refine wt_aload_n 69 0 C dX12_grid_68 rfl rfl ?_
    refine wt_getR 72 C kfX12_32 sm_0 rfl dX12_grid_69 rfl ?_
    refine wt_iload_n 73 1 C dX12_grid_72 rfl rfl ?_
    refine wt_iconst 74 (-1) C dX12_grid_73 rfl (by decide) ?_
    obtain ⟨hi2, h⟩ := ux_guard h
    refine wt_iast 75 (v1.toNatClampNeg) C sm_8 rfl hi2 dX12_grid_74 rfl ?_
    refine wt_iinc 78 1 [(1, .int (v1 + 1)), (0, .ref (ux_ad X 0))] (v1 + 1) C dX12_grid_75 rfl rfl (by rfl) (by decide) rfl ?_
    refine wt_goto 63 C dX12_grid_78 (by decide) ?_
    refine wt_sub [1, 0] rfl ?_
    exact hin _ (Option.some.inj h).symm
def fX12_grid (N : ux_N) (L : ux_L) : Option (Int32 × ux_N × ux_L) :=
  (fX12_reads (0 : Int32) N).bind (fun o1 => if o1.1 = 0 then (some ((-4 : Int32), o1.2, L)) else ((fX12_copyRow (231 : Int32) (0 : Int32) o1.2).bind (fun o4 => (fX12_reads (1 : Int32) o4).bind (fun o6 => (fX12_copyRow (0 : Int32) (231 : Int32) o6.2).bind (fun o8 => (fX12_layForests o8 L).bind (fun o10 => (ux_lp (fun s : Int32 × ux_N => fX12_grid_63b s.1 s.2 o10.2) ux_fu ((0 : Int32), (ux_u (ux_u (ux_u (ux_u o10.1 0 9 (0 : Int32)) 0 6 (0 : Int32)) 4 0 (vp_nar .boolean (0 : Int32))) 4 1 (vp_nar .boolean (0 : Int32))))).bind (fun e19 => some ((e19 0 22), e19, o10.2))))))))
set_option maxHeartbeats 4000000 in
set_option maxRecDepth 20000 in
theorem wX12_grid {X : ux_X} (C : ux_C X cX12_grid RX12 2 (some .int) 7 154 shM)   {N : ux_N} {L : ux_L} {o : Int32 × ux_N × ux_L} (hq : ux_Qi X o.1 o.2.1 o.2.2) (h : fX12_grid N L = some o) : ux_Wt X 2 0 [(0, .ref (ux_ad X 0))] [] N L := by
  refine wt_aload_n 1 0 C dX12_grid_0 rfl rfl ?_
  refine wt_iconst 2 0 C dX12_grid_1 rfl (by decide) ?_
  obtain ⟨o1, hc2, h⟩ := Option.bind_eq_some_iff.mp h
  refine wt_callVi 5 [] C kvX12_169 sm_0 (mX12_reads (cx_ok C)  hc2) rfl rfl ⟨Nat.le_of_ble_eq_true rfl, Nat.le_of_ble_eq_true rfl⟩ (Nat.le_of_ble_eq_true rfl) dX12_grid_2 rfl ?_
  refine wt_if_ne 8 11 C dX12_grid_5 rfl (by decide) (fun q3 => ?_) (fun q3 => ?_)
  · have h := (if_neg q3).symm.trans h
    refine wt_aload_n 12 0 C dX12_grid_11 rfl rfl ?_
    refine wt_sipush 15 231 C dX12_grid_12 rfl (by decide) ?_
    refine wt_iconst 16 0 C dX12_grid_15 rfl (by decide) ?_
    obtain ⟨o4, hc5, h⟩ := Option.bind_eq_some_iff.mp h
    refine wt_callVv 19 [] C kvX12_173 sm_0 (mX12_copyRow (cx_ok C)  hc5) rfl rfl ⟨Nat.le_of_ble_eq_true rfl, Nat.le_of_ble_eq_true rfl⟩ (Nat.le_of_ble_eq_true rfl) dX12_grid_16 rfl ?_
    refine wt_aload_n 20 0 C dX12_grid_19 rfl rfl ?_
    refine wt_iconst 21 1 C dX12_grid_20 rfl (by decide) ?_
    obtain ⟨o6, hc7, h⟩ := Option.bind_eq_some_iff.mp h
    refine wt_callVi 24 [] C kvX12_169 sm_0 (mX12_reads (cx_ok C)  hc7) rfl rfl ⟨Nat.le_of_ble_eq_true rfl, Nat.le_of_ble_eq_true rfl⟩ (Nat.le_of_ble_eq_true rfl) dX12_grid_21 rfl ?_
    refine wt_pop 25 C dX12_grid_24 rfl rfl ?_
    refine wt_aload_n 26 0 C dX12_grid_25 rfl rfl ?_
    refine wt_iconst 27 0 C dX12_grid_26 rfl (by decide) ?_
    refine wt_sipush 30 231 C dX12_grid_27 rfl (by decide) ?_
    obtain ⟨o8, hc9, h⟩ := Option.bind_eq_some_iff.mp h
    refine wt_callVv 33 [] C kvX12_173 sm_0 (mX12_copyRow (cx_ok C)  hc9) rfl rfl ⟨Nat.le_of_ble_eq_true rfl, Nat.le_of_ble_eq_true rfl⟩ (Nat.le_of_ble_eq_true rfl) dX12_grid_30 rfl ?_
    refine wt_aload_n 34 0 C dX12_grid_33 rfl rfl ?_
    obtain ⟨o10, hc11, h⟩ := Option.bind_eq_some_iff.mp h
    refine wt_callVv 37 [] C kvX12_79 sm_0 (mX12_layForests (cx_ok C)  hc11) rfl rfl ⟨Nat.le_of_ble_eq_true rfl, Nat.le_of_ble_eq_true rfl⟩ (Nat.le_of_ble_eq_true rfl) dX12_grid_34 rfl ?_
    refine wt_aload_n 38 0 C dX12_grid_37 rfl rfl ?_
    refine wt_iconst 39 0 C dX12_grid_38 rfl (by decide) ?_
    refine wt_putI 42 C kpX12_98 sm_0 rfl rfl rfl dX12_grid_39 rfl ?_
    refine wt_aload_n 43 0 C dX12_grid_42 rfl rfl ?_
    refine wt_iconst 44 0 C dX12_grid_43 rfl (by decide) ?_
    refine wt_putI 47 C kpX12_176 sm_0 rfl rfl rfl dX12_grid_44 rfl ?_
    refine wt_aload_n 48 0 C dX12_grid_47 rfl rfl ?_
    refine wt_getR 51 C kfX12_19 sm_0 rfl dX12_grid_48 rfl ?_
    refine wt_iconst 52 0 C dX12_grid_51 rfl (by decide) ?_
    refine wt_iconst 53 0 C dX12_grid_52 rfl (by decide) ?_
    refine wt_zast 54 0 C sm_4 (by decide) (by decide) dX12_grid_53 rfl ?_
    refine wt_aload_n 55 0 C dX12_grid_54 rfl rfl ?_
    refine wt_getR 58 C kfX12_19 sm_0 rfl dX12_grid_55 rfl ?_
    refine wt_iconst 59 1 C dX12_grid_58 rfl (by decide) ?_
    refine wt_iconst 60 0 C dX12_grid_59 rfl (by decide) ?_
    refine wt_zast 61 1 C sm_4 (by decide) (by decide) dX12_grid_60 rfl ?_
    refine wt_iconst 62 0 C dX12_grid_61 rfl (by decide) ?_
    refine wt_istore_n 63 [(1, .int (0 : Int32)), (0, .ref (ux_ad X 0))] C dX12_grid_62 rfl (by decide) rfl ?_
    obtain ⟨e12, hl13, h⟩ := Option.bind_eq_some_iff.mp h
    refine wt_sub [1, 0] rfl ?_
    refine ux_loop (fun s : Int32 × ux_N => fX12_grid_63b s.1 s.2 o10.2) (fun s : Int32 × ux_N => ux_Wt X 2 63 [(0, .ref (ux_ad X 0)), (1, .int s.1)] [] s.2 o10.2) (e := e12) ?_ hl13
    intro s14 o15 hb16 hi17 hx18
    refine wX12_grid_63b C hi17 (fun x0 he => ?_) hb16
    · obtain ⟨e19, rfl⟩ : ∃ z, z = x0 := ⟨_, rfl⟩
      have h9 := hx18 _ he
      subst h9
      refine wt_aload_n 82 0 C dX12_grid_81 rfl rfl ?_
      refine wt_getI 85 C kfX12_162 sm_0 rfl dX12_grid_82 rfl ?_
      cases h
      exact wt_iret C hq dX12_grid_85
  · have h := (if_pos q3).symm.trans h
    refine wt_bipush 10 (-4) C dX12_grid_8 rfl (by decide) ?_
    cases h
    exact wt_iret C hq dX12_grid_10
theorem mX12_grid {l : Launch} {G : ux_G} (hok : ux_ok G shM)   {N : ux_N} {L : ux_L} {o : Int32 × ux_N × ux_L} (h : fX12_grid N L = some o) : ux_Mi l G yX12_grid cX12_grid 2 (some .int) 7 154 [.ref (gad G 0)] N L o.1 o.2.1 o.2.2 :=
  ux_ofi shM hok (by decide +kernel) (Nat.le_of_ble_eq_true rfl) (fun X hG hl C hq => by subst hG; subst hl; exact wX12_grid C  hq h)
def fX12_isEnd_31 (s0 : Int32) (N : ux_N) : Option (Int32) :=
  if ux_b s0 then (some s0) else none
set_option maxHeartbeats 4000000 in
set_option maxRecDepth 20000 in
theorem wX12_isEnd_31 {X : ux_X} (C : ux_C X cX12_isEnd RX12 3 (some .boolean) 0 0 shM) {s0 : Int32}  {N : ux_N} {L : ux_L} {o : Int32} (hq : ux_Qi X o N L) (h : fX12_isEnd_31 s0 N = some o) : ux_Wt X 3 31 [] [.int s0] N L := by
  obtain ⟨hb1, h⟩ := ux_guard h
  cases h
  exact wt_zret C (ux_b_n hb1).1 hq dX12_isEnd_31
def fX12_isEnd_26 (N : ux_N) : Option (Int32) :=
  fX12_isEnd_31 (1 : Int32) N
set_option maxHeartbeats 4000000 in
set_option maxRecDepth 20000 in
theorem wX12_isEnd_26 {X : ux_X} (C : ux_C X cX12_isEnd RX12 3 (some .boolean) 0 0 shM)   {N : ux_N} {L : ux_L} {o : Int32} (hq : ux_Qi X o N L) (h : fX12_isEnd_26 N = some o) : ux_Wt X 3 26 [] [] N L := by
  refine wt_iconst 27 1 C dX12_isEnd_26 rfl (by decide) ?_
  refine wt_goto 31 C dX12_isEnd_27 (by decide) ?_
  exact wX12_isEnd_31 C hq h
def fX12_isEnd (v1 : Int32) (v2 : Int32) (N : ux_N) : Option (Int32) :=
  if ux_in ((2 : Int32) * v1) 20 then (if (N 2 (((2 : Int32) * v1).toNatClampNeg)) = v2 then (fX12_isEnd_26 N) else (if ux_in (((2 : Int32) * v1) + (1 : Int32)) 20 then (if (N 2 ((((2 : Int32) * v1) + (1 : Int32)).toNatClampNeg)) = v2 then (fX12_isEnd_26 N) else (fX12_isEnd_31 (0 : Int32) N)) else none)) else none
set_option maxHeartbeats 4000000 in
set_option maxRecDepth 20000 in
theorem wX12_isEnd {X : ux_X} (C : ux_C X cX12_isEnd RX12 3 (some .boolean) 0 0 shM) {v1 : Int32} {v2 : Int32}  {N : ux_N} {L : ux_L} {o : Int32} (hq : ux_Qi X o N L) (h : fX12_isEnd v1 v2 N = some o) : ux_Wt X 3 0 [(0, .ref (ux_ad X 0)), (1, .int v1), (2, .int v2)] [] N L := by
  refine wt_aload_n 1 0 C dX12_isEnd_0 rfl rfl ?_
  refine wt_getR 4 C kfX12_13 sm_0 rfl dX12_isEnd_1 rfl ?_
  refine wt_iconst 5 2 C dX12_isEnd_4 rfl (by decide) ?_
  refine wt_iload_n 6 1 C dX12_isEnd_5 rfl rfl ?_
  refine wt_imul 7 C dX12_isEnd_6 rfl ?_
  obtain ⟨hi1, h⟩ := ux_guard h
  refine wt_iald 8 (((2 : Int32) * v1).toNatClampNeg) C sm_2 rfl hi1 dX12_isEnd_7 rfl ?_
  refine wt_iload_n 9 2 C dX12_isEnd_8 rfl rfl ?_
  refine wt_icmp_eq 12 26 C dX12_isEnd_9 rfl (by decide) (fun q2 => ?_) (fun q2 => ?_)
  · have h := (if_pos q2).symm.trans h
    refine wt_sub [] rfl ?_
    exact wX12_isEnd_26 C hq h
  · have h := (if_neg q2).symm.trans h
    refine wt_aload_n 13 0 C dX12_isEnd_12 rfl rfl ?_
    refine wt_getR 16 C kfX12_13 sm_0 rfl dX12_isEnd_13 rfl ?_
    refine wt_iconst 17 2 C dX12_isEnd_16 rfl (by decide) ?_
    refine wt_iload_n 18 1 C dX12_isEnd_17 rfl rfl ?_
    refine wt_imul 19 C dX12_isEnd_18 rfl ?_
    refine wt_iconst 20 1 C dX12_isEnd_19 rfl (by decide) ?_
    refine wt_iadd 21 C dX12_isEnd_20 rfl ?_
    obtain ⟨hi3, h⟩ := ux_guard h
    refine wt_iald 22 ((((2 : Int32) * v1) + (1 : Int32)).toNatClampNeg) C sm_2 rfl hi3 dX12_isEnd_21 rfl ?_
    refine wt_iload_n 23 2 C dX12_isEnd_22 rfl rfl ?_
    refine wt_icmp_ne 26 30 C dX12_isEnd_23 rfl (by decide) (fun q4 => ?_) (fun q4 => ?_)
    · have h := (if_neg q4).symm.trans h
      refine wt_iconst 31 0 C dX12_isEnd_30 rfl (by decide) ?_
      refine wt_sub [] rfl ?_
      exact wX12_isEnd_31 C hq h
    · have h := (if_pos q4).symm.trans h
      refine wt_sub [] rfl ?_
      exact wX12_isEnd_26 C hq h
theorem mX12_isEnd {l : Launch} {G : ux_G} (hok : ux_ok G shM) {v1 : Int32} {v2 : Int32}  {N : ux_N} {L : ux_L} {o : Int32} (h : fX12_isEnd v1 v2 N = some o) : ux_Mi l G yX12_isEnd cX12_isEnd 3 (some .boolean) 0 0 [.ref (gad G 0), .int v1, .int v2] N L o N L :=
  ux_ofi shM hok (by decide +kernel) (Nat.le_of_ble_eq_true rfl) (fun X hG hl C hq => by subst hG; subst hl; exact wX12_isEnd C  hq h)
def fX12_linesAt_5b_42 (v1 : Int32) (v2 : Int32) (v4 : Int32) (s0 : Int32) (s1 : Int32) (N : ux_N) : Option ((Int32 × Int32) ⊕ (Int32)) :=
  some (.inl ((s1 ||| s0), (v4 + 1)))
set_option maxHeartbeats 4000000 in
set_option maxRecDepth 20000 in
theorem wX12_linesAt_5b_42 {X : ux_X} (C : ux_C X cX12_linesAt RX12 5 (some .int) 1 22 shM) {v1 : Int32} {v2 : Int32} {v4 : Int32} {s0 : Int32} {s1 : Int32}  {N : ux_N} {L : ux_L} {o : (Int32 × Int32) ⊕ (Int32)} (hin : ∀ s : Int32 × Int32, o = .inl s → ux_Wt X 5 5 [(0, .ref (ux_ad X 0)), (1, .int v1), (2, .int v2), (3, .int s.1), (4, .int s.2)] [] N L) (hex0 : ∀ e : Int32, o = .inr (e) → ux_Wt X 5 50 [(3, .int e)] [] N L) (h : fX12_linesAt_5b_42 v1 v2 v4 s0 s1 N = some o) : ux_Wt X 5 42 [(0, .ref (ux_ad X 0)), (1, .int v1), (2, .int v2), (4, .int v4)] [.int s0, .int s1] N L := by
  refine wt_ior 43 C dX12_linesAt_42 rfl ?_
  refine wt_istore_n 44 [(3, .int (s1 ||| s0)), (0, .ref (ux_ad X 0)), (1, .int v1), (2, .int v2), (4, .int v4)] C dX12_linesAt_43 rfl (by decide) rfl ?_
  refine wt_iinc 47 4 [(4, .int (v4 + 1)), (3, .int (s1 ||| s0)), (0, .ref (ux_ad X 0)), (1, .int v1), (2, .int v2)] (v4 + 1) C dX12_linesAt_44 rfl rfl (by rfl) (by decide) rfl ?_
  refine wt_goto 5 C dX12_linesAt_47 (by decide) ?_
  refine wt_sub [2, 3, 4, 1, 0] rfl ?_
  exact hin _ (Option.some.inj h).symm
def fX12_linesAt_5b_41 (v1 : Int32) (v2 : Int32) (v4 : Int32) (s0 : Int32) (N : ux_N) : Option ((Int32 × Int32) ⊕ (Int32)) :=
  fX12_linesAt_5b_42 v1 v2 v4 (0 : Int32) s0 N
set_option maxHeartbeats 4000000 in
set_option maxRecDepth 20000 in
theorem wX12_linesAt_5b_41 {X : ux_X} (C : ux_C X cX12_linesAt RX12 5 (some .int) 1 22 shM) {v1 : Int32} {v2 : Int32} {v4 : Int32} {s0 : Int32}  {N : ux_N} {L : ux_L} {o : (Int32 × Int32) ⊕ (Int32)} (hin : ∀ s : Int32 × Int32, o = .inl s → ux_Wt X 5 5 [(0, .ref (ux_ad X 0)), (1, .int v1), (2, .int v2), (3, .int s.1), (4, .int s.2)] [] N L) (hex0 : ∀ e : Int32, o = .inr (e) → ux_Wt X 5 50 [(3, .int e)] [] N L) (h : fX12_linesAt_5b_41 v1 v2 v4 s0 N = some o) : ux_Wt X 5 41 [(0, .ref (ux_ad X 0)), (1, .int v1), (2, .int v2), (4, .int v4)] [.int s0] N L := by
  refine wt_iconst 42 0 C dX12_linesAt_41 rfl (by decide) ?_
  exact wX12_linesAt_5b_42 C hin hex0 h
def fX12_linesAt_5b (v1 : Int32) (v2 : Int32) (v3 : Int32) (v4 : Int32) (N : ux_N) : Option ((Int32 × Int32) ⊕ (Int32)) :=
  if (N 0 2) ≤ v4 then (some (.inr (v3))) else ((fX12_has v2 v4).bind (fun o2 => if o2 = 0 then ((fX12_isEnd v4 v1 N).bind (fun o5 => if o5 = 0 then (fX12_linesAt_5b_41 v1 v2 v4 v3 N) else (fX12_linesAt_5b_42 v1 v2 v4 ((1 : Int32) <<< (v4 &&& 31)) v3 N))) else (fX12_linesAt_5b_41 v1 v2 v4 v3 N)))
set_option maxHeartbeats 4000000 in
set_option maxRecDepth 20000 in
theorem wX12_linesAt_5b {X : ux_X} (C : ux_C X cX12_linesAt RX12 5 (some .int) 1 22 shM) {v1 : Int32} {v2 : Int32} {v3 : Int32} {v4 : Int32}  {N : ux_N} {L : ux_L} {o : (Int32 × Int32) ⊕ (Int32)} (hin : ∀ s : Int32 × Int32, o = .inl s → ux_Wt X 5 5 [(0, .ref (ux_ad X 0)), (1, .int v1), (2, .int v2), (3, .int s.1), (4, .int s.2)] [] N L) (hex0 : ∀ e : Int32, o = .inr (e) → ux_Wt X 5 50 [(3, .int e)] [] N L) (h : fX12_linesAt_5b v1 v2 v3 v4 N = some o) : ux_Wt X 5 5 [(0, .ref (ux_ad X 0)), (1, .int v1), (2, .int v2), (3, .int v3), (4, .int v4)] [] N L := by
  refine wt_iload 7 4 C dX12_linesAt_5 rfl rfl ?_
  refine wt_aload_n 8 0 C dX12_linesAt_7 rfl rfl ?_
  refine wt_getI 11 C kfX12_86 sm_0 rfl dX12_linesAt_8 rfl ?_
  refine wt_icmp_ge 14 50 C dX12_linesAt_11 rfl (by decide) (fun q1 => ?_) (fun q1 => ?_)
  · have h := (if_pos q1).symm.trans h
    refine wt_sub [3] rfl ?_
    exact hex0 _ (Option.some.inj h).symm
  · have h := (if_neg q1).symm.trans h
    refine wt_iload_n 15 3 C dX12_linesAt_14 rfl rfl ?_
    refine wt_iload_n 16 2 C dX12_linesAt_15 rfl rfl ?_
    refine wt_iload 18 4 C dX12_linesAt_16 rfl rfl ?_
    obtain ⟨o2, hc3, h⟩ := Option.bind_eq_some_iff.mp h
    refine wt_callSi 21 [.int v3] C ksX12_179 (mX12_has (cx_ok C)  hc3) rfl rfl ⟨Nat.le_of_ble_eq_true rfl, Nat.le_of_ble_eq_true rfl⟩ (Nat.le_of_ble_eq_true rfl) dX12_linesAt_18 rfl ?_
    refine wt_if_ne 24 41 C dX12_linesAt_21 rfl (by decide) (fun q4 => ?_) (fun q4 => ?_)
    · have h := (if_neg q4).symm.trans h
      refine wt_sub [0, 1, 2, 4] rfl ?_
      exact wX12_linesAt_5b_41 C hin hex0 h
    · have h := (if_pos q4).symm.trans h
      refine wt_aload_n 25 0 C dX12_linesAt_24 rfl rfl ?_
      refine wt_iload 27 4 C dX12_linesAt_25 rfl rfl ?_
      refine wt_iload_n 28 1 C dX12_linesAt_27 rfl rfl ?_
      obtain ⟨o5, hc6, h⟩ := Option.bind_eq_some_iff.mp h
      refine wt_callVi 31 [.int v3] C kvX12_190 sm_0 (mX12_isEnd (cx_ok C)  hc6) rfl rfl ⟨Nat.le_of_ble_eq_true rfl, Nat.le_of_ble_eq_true rfl⟩ (Nat.le_of_ble_eq_true rfl) dX12_linesAt_28 rfl ?_
      refine wt_if_eq 34 41 C dX12_linesAt_31 rfl (by decide) (fun q7 => ?_) (fun q7 => ?_)
      · have h := (if_pos q7).symm.trans h
        refine wt_sub [0, 1, 2, 4] rfl ?_
        exact wX12_linesAt_5b_41 C hin hex0 h
      · have h := (if_neg q7).symm.trans h
        refine wt_iconst 35 1 C dX12_linesAt_34 rfl (by decide) ?_
        refine wt_iload 37 4 C dX12_linesAt_35 rfl rfl ?_
        refine wt_ishl 38 C dX12_linesAt_37 rfl ?_
        refine wt_goto 42 C dX12_linesAt_38 (by decide) ?_
        refine wt_sub [0, 1, 2, 4] rfl ?_
        exact wX12_linesAt_5b_42 C hin hex0 h
def fX12_linesAt (v1 : Int32) (v2 : Int32) (N : ux_N) : Option (Int32) :=
  (ux_lp (fun s : Int32 × Int32 => fX12_linesAt_5b v1 v2 s.1 s.2 N) ux_fu ((0 : Int32), (0 : Int32))).bind (fun e8 => some e8)
set_option maxHeartbeats 4000000 in
set_option maxRecDepth 20000 in
theorem wX12_linesAt {X : ux_X} (C : ux_C X cX12_linesAt RX12 5 (some .int) 1 22 shM) {v1 : Int32} {v2 : Int32}  {N : ux_N} {L : ux_L} {o : Int32} (hq : ux_Qi X o N L) (h : fX12_linesAt v1 v2 N = some o) : ux_Wt X 5 0 [(0, .ref (ux_ad X 0)), (1, .int v1), (2, .int v2)] [] N L := by
  refine wt_iconst 1 0 C dX12_linesAt_0 rfl (by decide) ?_
  refine wt_istore_n 2 [(3, .int (0 : Int32)), (0, .ref (ux_ad X 0)), (1, .int v1), (2, .int v2)] C dX12_linesAt_1 rfl (by decide) rfl ?_
  refine wt_iconst 3 0 C dX12_linesAt_2 rfl (by decide) ?_
  refine wt_istore 5 [(4, .int (0 : Int32)), (3, .int (0 : Int32)), (0, .ref (ux_ad X 0)), (1, .int v1), (2, .int v2)] C dX12_linesAt_3 rfl (by decide) rfl ?_
  obtain ⟨e1, hl2, h⟩ := Option.bind_eq_some_iff.mp h
  refine wt_sub [2, 3, 4, 1, 0] rfl ?_
  refine ux_loop (fun s : Int32 × Int32 => fX12_linesAt_5b v1 v2 s.1 s.2 N) (fun s : Int32 × Int32 => ux_Wt X 5 5 [(0, .ref (ux_ad X 0)), (1, .int v1), (2, .int v2), (3, .int s.1), (4, .int s.2)] [] N L) (e := e1) ?_ hl2
  intro s3 o4 hb5 hi6 hx7
  refine wX12_linesAt_5b C hi6 (fun x0 he => ?_) hb5
  · obtain ⟨e8, rfl⟩ : ∃ z, z = x0 := ⟨_, rfl⟩
    have h9 := hx7 _ he
    subst h9
    refine wt_iload_n 51 0 C dX12_linesAt_50 rfl rfl ?_
    cases h
    exact wt_iret C hq dX12_linesAt_51
theorem mX12_linesAt {l : Launch} {G : ux_G} (hok : ux_ok G shM) {v1 : Int32} {v2 : Int32}  {N : ux_N} {L : ux_L} {o : Int32} (h : fX12_linesAt v1 v2 N = some o) : ux_Mi l G yX12_linesAt cX12_linesAt 5 (some .int) 1 22 [.ref (gad G 0), .int v1, .int v2] N L o N L :=
  ux_ofi shM hok (by decide +kernel) (Nat.le_of_ble_eq_true rfl) (fun X hG hl C hq => by subst hG; subst hl; exact wX12_linesAt C  hq h)
def fX12_between_5b_76 (v1 : Int32) (v2 : Int32) (v4 : Int32) (s0 : Int32) (s1 : Int32) (N : ux_N) : Option ((Int32 × Int32) ⊕ (Int32)) :=
  some (.inl ((s1 ||| s0), (v4 + 1)))
set_option maxHeartbeats 4000000 in
set_option maxRecDepth 20000 in
theorem wX12_between_5b_76 {X : ux_X} (C : ux_C X cX12_between RX12 5 (some .int) 1 21 shM) {v1 : Int32} {v2 : Int32} {v4 : Int32} {s0 : Int32} {s1 : Int32}  {N : ux_N} {L : ux_L} {o : (Int32 × Int32) ⊕ (Int32)} (hin : ∀ s : Int32 × Int32, o = .inl s → ux_Wt X 5 5 [(0, .ref (ux_ad X 0)), (1, .int v1), (2, .int v2), (3, .int s.1), (4, .int s.2)] [] N L) (hex0 : ∀ e : Int32, o = .inr (e) → ux_Wt X 5 84 [(3, .int e)] [] N L) (h : fX12_between_5b_76 v1 v2 v4 s0 s1 N = some o) : ux_Wt X 5 76 [(0, .ref (ux_ad X 0)), (1, .int v1), (2, .int v2), (4, .int v4)] [.int s0, .int s1] N L := by
  refine wt_ior 77 C dX12_between_76 rfl ?_
  refine wt_istore_n 78 [(3, .int (s1 ||| s0)), (0, .ref (ux_ad X 0)), (1, .int v1), (2, .int v2), (4, .int v4)] C dX12_between_77 rfl (by decide) rfl ?_
  refine wt_iinc 81 4 [(4, .int (v4 + 1)), (3, .int (s1 ||| s0)), (0, .ref (ux_ad X 0)), (1, .int v1), (2, .int v2)] (v4 + 1) C dX12_between_78 rfl rfl (by rfl) (by decide) rfl ?_
  refine wt_goto 5 C dX12_between_81 (by decide) ?_
  refine wt_sub [2, 3, 4, 1, 0] rfl ?_
  exact hin _ (Option.some.inj h).symm
def fX12_between_5b_75 (v1 : Int32) (v2 : Int32) (v4 : Int32) (s0 : Int32) (N : ux_N) : Option ((Int32 × Int32) ⊕ (Int32)) :=
  fX12_between_5b_76 v1 v2 v4 (0 : Int32) s0 N
set_option maxHeartbeats 4000000 in
set_option maxRecDepth 20000 in
theorem wX12_between_5b_75 {X : ux_X} (C : ux_C X cX12_between RX12 5 (some .int) 1 21 shM) {v1 : Int32} {v2 : Int32} {v4 : Int32} {s0 : Int32}  {N : ux_N} {L : ux_L} {o : (Int32 × Int32) ⊕ (Int32)} (hin : ∀ s : Int32 × Int32, o = .inl s → ux_Wt X 5 5 [(0, .ref (ux_ad X 0)), (1, .int v1), (2, .int v2), (3, .int s.1), (4, .int s.2)] [] N L) (hex0 : ∀ e : Int32, o = .inr (e) → ux_Wt X 5 84 [(3, .int e)] [] N L) (h : fX12_between_5b_75 v1 v2 v4 s0 N = some o) : ux_Wt X 5 75 [(0, .ref (ux_ad X 0)), (1, .int v1), (2, .int v2), (4, .int v4)] [.int s0] N L := by
  refine wt_iconst 76 0 C dX12_between_75 rfl (by decide) ?_
  exact wX12_between_5b_76 C hin hex0 h
def fX12_between_5b (v1 : Int32) (v2 : Int32) (v3 : Int32) (v4 : Int32) (N : ux_N) : Option ((Int32 × Int32) ⊕ (Int32)) :=
  if (N 0 2) ≤ v4 then (some (.inr (v3))) else ((fX12_has v2 v4).bind (fun o2 => if o2 = 0 then (if ux_in ((2 : Int32) * v4) 20 then (if ux_in ((2 : Int32) * v1) 20 then (if (N 2 (((2 : Int32) * v4).toNatClampNeg)) = (N 2 (((2 : Int32) * v1).toNatClampNeg)) then (if ux_in (((2 : Int32) * v4) + (1 : Int32)) 20 then (if ux_in (((2 : Int32) * v1) + (1 : Int32)) 20 then (if (N 2 ((((2 : Int32) * v4) + (1 : Int32)).toNatClampNeg)) = (N 2 ((((2 : Int32) * v1) + (1 : Int32)).toNatClampNeg)) then (fX12_between_5b_76 v1 v2 v4 ((1 : Int32) <<< (v4 &&& 31)) v3 N) else (fX12_between_5b_75 v1 v2 v4 v3 N)) else none) else none) else (fX12_between_5b_75 v1 v2 v4 v3 N)) else none) else none) else (fX12_between_5b_75 v1 v2 v4 v3 N)))
set_option maxHeartbeats 4000000 in
set_option maxRecDepth 20000 in
theorem wX12_between_5b {X : ux_X} (C : ux_C X cX12_between RX12 5 (some .int) 1 21 shM) {v1 : Int32} {v2 : Int32} {v3 : Int32} {v4 : Int32}  {N : ux_N} {L : ux_L} {o : (Int32 × Int32) ⊕ (Int32)} (hin : ∀ s : Int32 × Int32, o = .inl s → ux_Wt X 5 5 [(0, .ref (ux_ad X 0)), (1, .int v1), (2, .int v2), (3, .int s.1), (4, .int s.2)] [] N L) (hex0 : ∀ e : Int32, o = .inr (e) → ux_Wt X 5 84 [(3, .int e)] [] N L) (h : fX12_between_5b v1 v2 v3 v4 N = some o) : ux_Wt X 5 5 [(0, .ref (ux_ad X 0)), (1, .int v1), (2, .int v2), (3, .int v3), (4, .int v4)] [] N L := by
  refine wt_iload 7 4 C dX12_between_5 rfl rfl ?_
  refine wt_aload_n 8 0 C dX12_between_7 rfl rfl ?_
  refine wt_getI 11 C kfX12_86 sm_0 rfl dX12_between_8 rfl ?_
  refine wt_icmp_ge 14 84 C dX12_between_11 rfl (by decide) (fun q1 => ?_) (fun q1 => ?_)
  · have h := (if_pos q1).symm.trans h
    refine wt_sub [3] rfl ?_
    exact hex0 _ (Option.some.inj h).symm
  · have h := (if_neg q1).symm.trans h
    refine wt_iload_n 15 3 C dX12_between_14 rfl rfl ?_
    refine wt_iload_n 16 2 C dX12_between_15 rfl rfl ?_
    refine wt_iload 18 4 C dX12_between_16 rfl rfl ?_
    obtain ⟨o2, hc3, h⟩ := Option.bind_eq_some_iff.mp h
    refine wt_callSi 21 [.int v3] C ksX12_179 (mX12_has (cx_ok C)  hc3) rfl rfl ⟨Nat.le_of_ble_eq_true rfl, Nat.le_of_ble_eq_true rfl⟩ (Nat.le_of_ble_eq_true rfl) dX12_between_18 rfl ?_
    refine wt_if_ne 24 75 C dX12_between_21 rfl (by decide) (fun q4 => ?_) (fun q4 => ?_)
    · have h := (if_neg q4).symm.trans h
      refine wt_sub [0, 1, 2, 4] rfl ?_
      exact wX12_between_5b_75 C hin hex0 h
    · have h := (if_pos q4).symm.trans h
      refine wt_aload_n 25 0 C dX12_between_24 rfl rfl ?_
      refine wt_getR 28 C kfX12_13 sm_0 rfl dX12_between_25 rfl ?_
      refine wt_iconst 29 2 C dX12_between_28 rfl (by decide) ?_
      refine wt_iload 31 4 C dX12_between_29 rfl rfl ?_
      refine wt_imul 32 C dX12_between_31 rfl ?_
      obtain ⟨hi5, h⟩ := ux_guard h
      refine wt_iald 33 (((2 : Int32) * v4).toNatClampNeg) C sm_2 rfl hi5 dX12_between_32 rfl ?_
      refine wt_aload_n 34 0 C dX12_between_33 rfl rfl ?_
      refine wt_getR 37 C kfX12_13 sm_0 rfl dX12_between_34 rfl ?_
      refine wt_iconst 38 2 C dX12_between_37 rfl (by decide) ?_
      refine wt_iload_n 39 1 C dX12_between_38 rfl rfl ?_
      refine wt_imul 40 C dX12_between_39 rfl ?_
      obtain ⟨hi6, h⟩ := ux_guard h
      refine wt_iald 41 (((2 : Int32) * v1).toNatClampNeg) C sm_2 rfl hi6 dX12_between_40 rfl ?_
      refine wt_icmp_ne 44 75 C dX12_between_41 rfl (by decide) (fun q7 => ?_) (fun q7 => ?_)
      · have h := (if_neg q7).symm.trans h
        refine wt_sub [0, 1, 2, 4] rfl ?_
        exact wX12_between_5b_75 C hin hex0 h
      · have h := (if_pos q7).symm.trans h
        refine wt_aload_n 45 0 C dX12_between_44 rfl rfl ?_
        refine wt_getR 48 C kfX12_13 sm_0 rfl dX12_between_45 rfl ?_
        refine wt_iconst 49 2 C dX12_between_48 rfl (by decide) ?_
        refine wt_iload 51 4 C dX12_between_49 rfl rfl ?_
        refine wt_imul 52 C dX12_between_51 rfl ?_
        refine wt_iconst 53 1 C dX12_between_52 rfl (by decide) ?_
        refine wt_iadd 54 C dX12_between_53 rfl ?_
        obtain ⟨hi8, h⟩ := ux_guard h
        refine wt_iald 55 ((((2 : Int32) * v4) + (1 : Int32)).toNatClampNeg) C sm_2 rfl hi8 dX12_between_54 rfl ?_
        refine wt_aload_n 56 0 C dX12_between_55 rfl rfl ?_
        refine wt_getR 59 C kfX12_13 sm_0 rfl dX12_between_56 rfl ?_
        refine wt_iconst 60 2 C dX12_between_59 rfl (by decide) ?_
        refine wt_iload_n 61 1 C dX12_between_60 rfl rfl ?_
        refine wt_imul 62 C dX12_between_61 rfl ?_
        refine wt_iconst 63 1 C dX12_between_62 rfl (by decide) ?_
        refine wt_iadd 64 C dX12_between_63 rfl ?_
        obtain ⟨hi9, h⟩ := ux_guard h
        refine wt_iald 65 ((((2 : Int32) * v1) + (1 : Int32)).toNatClampNeg) C sm_2 rfl hi9 dX12_between_64 rfl ?_
        refine wt_icmp_ne 68 75 C dX12_between_65 rfl (by decide) (fun q10 => ?_) (fun q10 => ?_)
        · have h := (if_neg q10).symm.trans h
          refine wt_sub [0, 1, 2, 4] rfl ?_
          exact wX12_between_5b_75 C hin hex0 h
        · have h := (if_pos q10).symm.trans h
          refine wt_iconst 69 1 C dX12_between_68 rfl (by decide) ?_
          refine wt_iload 71 4 C dX12_between_69 rfl rfl ?_
          refine wt_ishl 72 C dX12_between_71 rfl ?_
          refine wt_goto 76 C dX12_between_72 (by decide) ?_
          refine wt_sub [0, 1, 2, 4] rfl ?_
          exact wX12_between_5b_76 C hin hex0 h
def fX12_between (v1 : Int32) (v2 : Int32) (N : ux_N) : Option (Int32) :=
  (ux_lp (fun s : Int32 × Int32 => fX12_between_5b v1 v2 s.1 s.2 N) ux_fu ((0 : Int32), (0 : Int32))).bind (fun e8 => some e8)
set_option maxHeartbeats 4000000 in
set_option maxRecDepth 20000 in
theorem wX12_between {X : ux_X} (C : ux_C X cX12_between RX12 5 (some .int) 1 21 shM) {v1 : Int32} {v2 : Int32}  {N : ux_N} {L : ux_L} {o : Int32} (hq : ux_Qi X o N L) (h : fX12_between v1 v2 N = some o) : ux_Wt X 5 0 [(0, .ref (ux_ad X 0)), (1, .int v1), (2, .int v2)] [] N L := by
  refine wt_iconst 1 0 C dX12_between_0 rfl (by decide) ?_
  refine wt_istore_n 2 [(3, .int (0 : Int32)), (0, .ref (ux_ad X 0)), (1, .int v1), (2, .int v2)] C dX12_between_1 rfl (by decide) rfl ?_
  refine wt_iconst 3 0 C dX12_between_2 rfl (by decide) ?_
  refine wt_istore 5 [(4, .int (0 : Int32)), (3, .int (0 : Int32)), (0, .ref (ux_ad X 0)), (1, .int v1), (2, .int v2)] C dX12_between_3 rfl (by decide) rfl ?_
  obtain ⟨e1, hl2, h⟩ := Option.bind_eq_some_iff.mp h
  refine wt_sub [2, 3, 4, 1, 0] rfl ?_
  refine ux_loop (fun s : Int32 × Int32 => fX12_between_5b v1 v2 s.1 s.2 N) (fun s : Int32 × Int32 => ux_Wt X 5 5 [(0, .ref (ux_ad X 0)), (1, .int v1), (2, .int v2), (3, .int s.1), (4, .int s.2)] [] N L) (e := e1) ?_ hl2
  intro s3 o4 hb5 hi6 hx7
  refine wX12_between_5b C hi6 (fun x0 he => ?_) hb5
  · obtain ⟨e8, rfl⟩ : ∃ z, z = x0 := ⟨_, rfl⟩
    have h9 := hx7 _ he
    subst h9
    refine wt_iload_n 85 0 C dX12_between_84 rfl rfl ?_
    cases h
    exact wt_iret C hq dX12_between_85
theorem mX12_between {l : Launch} {G : ux_G} (hok : ux_ok G shM) {v1 : Int32} {v2 : Int32}  {N : ux_N} {L : ux_L} {o : Int32} (h : fX12_between v1 v2 N = some o) : ux_Mi l G yX12_between cX12_between 5 (some .int) 1 21 [.ref (gad G 0), .int v1, .int v2] N L o N L :=
  ux_ofi shM hok (by decide +kernel) (Nat.le_of_ble_eq_true rfl) (fun X hG hl C hq => by subst hG; subst hl; exact wX12_between C  hq h)
def fX12_wide_13b_68 (v2 : Int32) (v3 : Int32) (v5 : Int32) (s0 : Int32) (s1 : Int32) (N : ux_N) : Option ((Int32 × Int32) ⊕ (Int32)) :=
  some (.inl ((s1 ||| s0), (v5 + 1)))
set_option maxHeartbeats 4000000 in
set_option maxRecDepth 20000 in
theorem wX12_wide_13b_68 {X : ux_X} (C : ux_C X cX12_wide RX12 6 (some .int) 2 46 shM) {v2 : Int32} {v3 : Int32} {v5 : Int32} {s0 : Int32} {s1 : Int32}  {N : ux_N} {L : ux_L} {o : (Int32 × Int32) ⊕ (Int32)} (hin : ∀ s : Int32 × Int32, o = .inl s → ux_Wt X 6 13 [(0, .ref (ux_ad X 0)), (2, .int v2), (3, .int v3), (4, .int s.1), (5, .int s.2)] [] N L) (hex0 : ∀ e : Int32, o = .inr (e) → ux_Wt X 6 77 [(4, .int e)] [] N L) (h : fX12_wide_13b_68 v2 v3 v5 s0 s1 N = some o) : ux_Wt X 6 68 [(0, .ref (ux_ad X 0)), (2, .int v2), (3, .int v3), (5, .int v5)] [.int s0, .int s1] N L := by
  refine wt_ior 69 C dX12_wide_68 rfl ?_
  refine wt_istore 71 [(4, .int (s1 ||| s0)), (0, .ref (ux_ad X 0)), (2, .int v2), (3, .int v3), (5, .int v5)] C dX12_wide_69 rfl (by decide) rfl ?_
  refine wt_iinc 74 4 [(5, .int (v5 + 1)), (4, .int (s1 ||| s0)), (0, .ref (ux_ad X 0)), (2, .int v2), (3, .int v3)] (v5 + 1) C dX12_wide_71 rfl rfl (by rfl) (by decide) rfl ?_
  refine wt_goto 13 C dX12_wide_74 (by decide) ?_
  refine wt_sub [2, 3, 4, 1, 0] rfl ?_
  exact hin _ (Option.some.inj h).symm
def fX12_wide_13b (v2 : Int32) (v3 : Int32) (v4 : Int32) (v5 : Int32) (N : ux_N) : Option ((Int32 × Int32) ⊕ (Int32)) :=
  if (N 0 2) ≤ v5 then (some (.inr (v4))) else ((fX12_has v3 v5).bind (fun o2 => if o2 = 0 then (fX12_wide_13b_68 v2 v3 v5 (0 : Int32) v4 N) else (if ux_in ((2 : Int32) * v5) 20 then ((fX12_linesAt (N 2 (((2 : Int32) * v5).toNatClampNeg)) v2 N).bind (fun o6 => if ux_in (((2 : Int32) * v5) + (1 : Int32)) 20 then ((fX12_linesAt (N 2 ((((2 : Int32) * v5) + (1 : Int32)).toNatClampNeg)) v2 N).bind (fun o9 => fX12_wide_13b_68 v2 v3 v5 (o6 ||| o9) v4 N)) else none)) else none)))
set_option maxHeartbeats 4000000 in
set_option maxRecDepth 20000 in
theorem wX12_wide_13b {X : ux_X} (C : ux_C X cX12_wide RX12 6 (some .int) 2 46 shM) {v2 : Int32} {v3 : Int32} {v4 : Int32} {v5 : Int32}  {N : ux_N} {L : ux_L} {o : (Int32 × Int32) ⊕ (Int32)} (hin : ∀ s : Int32 × Int32, o = .inl s → ux_Wt X 6 13 [(0, .ref (ux_ad X 0)), (2, .int v2), (3, .int v3), (4, .int s.1), (5, .int s.2)] [] N L) (hex0 : ∀ e : Int32, o = .inr (e) → ux_Wt X 6 77 [(4, .int e)] [] N L) (h : fX12_wide_13b v2 v3 v4 v5 N = some o) : ux_Wt X 6 13 [(0, .ref (ux_ad X 0)), (2, .int v2), (3, .int v3), (4, .int v4), (5, .int v5)] [] N L := by
  refine wt_iload 15 4 C dX12_wide_13 rfl rfl ?_
  refine wt_aload_n 16 0 C dX12_wide_15 rfl rfl ?_
  refine wt_getI 19 C kfX12_86 sm_0 rfl dX12_wide_16 rfl ?_
  refine wt_icmp_ge 22 77 C dX12_wide_19 rfl (by decide) (fun q1 => ?_) (fun q1 => ?_)
  · have h := (if_pos q1).symm.trans h
    refine wt_sub [3] rfl ?_
    exact hex0 _ (Option.some.inj h).symm
  · have h := (if_neg q1).symm.trans h
    refine wt_iload 24 3 C dX12_wide_22 rfl rfl ?_
    refine wt_iload_n 25 2 C dX12_wide_24 rfl rfl ?_
    refine wt_iload 27 4 C dX12_wide_25 rfl rfl ?_
    obtain ⟨o2, hc3, h⟩ := Option.bind_eq_some_iff.mp h
    refine wt_callSi 30 [.int v4] C ksX12_179 (mX12_has (cx_ok C)  hc3) rfl rfl ⟨Nat.le_of_ble_eq_true rfl, Nat.le_of_ble_eq_true rfl⟩ (Nat.le_of_ble_eq_true rfl) dX12_wide_27 rfl ?_
    refine wt_if_eq 33 67 C dX12_wide_30 rfl (by decide) (fun q4 => ?_) (fun q4 => ?_)
    · have h := (if_pos q4).symm.trans h
      refine wt_iconst 68 0 C dX12_wide_67 rfl (by decide) ?_
      refine wt_sub [0, 1, 2, 4] rfl ?_
      exact wX12_wide_13b_68 C hin hex0 h
    · have h := (if_neg q4).symm.trans h
      refine wt_aload_n 34 0 C dX12_wide_33 rfl rfl ?_
      refine wt_aload_n 35 0 C dX12_wide_34 rfl rfl ?_
      refine wt_getR 38 C kfX12_13 sm_0 rfl dX12_wide_35 rfl ?_
      refine wt_iconst 39 2 C dX12_wide_38 rfl (by decide) ?_
      refine wt_iload 41 4 C dX12_wide_39 rfl rfl ?_
      refine wt_imul 42 C dX12_wide_41 rfl ?_
      obtain ⟨hi5, h⟩ := ux_guard h
      refine wt_iald 43 (((2 : Int32) * v5).toNatClampNeg) C sm_2 rfl hi5 dX12_wide_42 rfl ?_
      refine wt_iload_n 44 1 C dX12_wide_43 rfl rfl ?_
      obtain ⟨o6, hc7, h⟩ := Option.bind_eq_some_iff.mp h
      refine wt_callVi 47 [.int v4] C kvX12_193 sm_0 (mX12_linesAt (cx_ok C)  hc7) rfl rfl ⟨Nat.le_of_ble_eq_true rfl, Nat.le_of_ble_eq_true rfl⟩ (Nat.le_of_ble_eq_true rfl) dX12_wide_44 rfl ?_
      refine wt_aload_n 48 0 C dX12_wide_47 rfl rfl ?_
      refine wt_aload_n 49 0 C dX12_wide_48 rfl rfl ?_
      refine wt_getR 52 C kfX12_13 sm_0 rfl dX12_wide_49 rfl ?_
      refine wt_iconst 53 2 C dX12_wide_52 rfl (by decide) ?_
      refine wt_iload 55 4 C dX12_wide_53 rfl rfl ?_
      refine wt_imul 56 C dX12_wide_55 rfl ?_
      refine wt_iconst 57 1 C dX12_wide_56 rfl (by decide) ?_
      refine wt_iadd 58 C dX12_wide_57 rfl ?_
      obtain ⟨hi8, h⟩ := ux_guard h
      refine wt_iald 59 ((((2 : Int32) * v5) + (1 : Int32)).toNatClampNeg) C sm_2 rfl hi8 dX12_wide_58 rfl ?_
      refine wt_iload_n 60 1 C dX12_wide_59 rfl rfl ?_
      obtain ⟨o9, hc10, h⟩ := Option.bind_eq_some_iff.mp h
      refine wt_callVi 63 [.int o6, .int v4] C kvX12_193 sm_0 (mX12_linesAt (cx_ok C)  hc10) rfl rfl ⟨Nat.le_of_ble_eq_true rfl, Nat.le_of_ble_eq_true rfl⟩ (Nat.le_of_ble_eq_true rfl) dX12_wide_60 rfl ?_
      refine wt_ior 64 C dX12_wide_63 rfl ?_
      refine wt_goto 68 C dX12_wide_64 (by decide) ?_
      refine wt_sub [0, 1, 2, 4] rfl ?_
      exact wX12_wide_13b_68 C hin hex0 h
def fX12_wide (v1 : Int32) (v2 : Int32) (N : ux_N) : Option (Int32) :=
  (fX12_linesAt v1 v2 N).bind (fun o1 => (ux_lp (fun s : Int32 × Int32 => fX12_wide_13b v2 o1 s.1 s.2 N) ux_fu (o1, (0 : Int32))).bind (fun e10 => some e10))
set_option maxHeartbeats 4000000 in
set_option maxRecDepth 20000 in
theorem wX12_wide {X : ux_X} (C : ux_C X cX12_wide RX12 6 (some .int) 2 46 shM) {v1 : Int32} {v2 : Int32}  {N : ux_N} {L : ux_L} {o : Int32} (hq : ux_Qi X o N L) (h : fX12_wide v1 v2 N = some o) : ux_Wt X 6 0 [(0, .ref (ux_ad X 0)), (1, .int v1), (2, .int v2)] [] N L := by
  refine wt_aload_n 1 0 C dX12_wide_0 rfl rfl ?_
  refine wt_iload_n 2 1 C dX12_wide_1 rfl rfl ?_
  refine wt_iload_n 3 2 C dX12_wide_2 rfl rfl ?_
  obtain ⟨o1, hc2, h⟩ := Option.bind_eq_some_iff.mp h
  refine wt_callVi 6 [] C kvX12_193 sm_0 (mX12_linesAt (cx_ok C)  hc2) rfl rfl ⟨Nat.le_of_ble_eq_true rfl, Nat.le_of_ble_eq_true rfl⟩ (Nat.le_of_ble_eq_true rfl) dX12_wide_3 rfl ?_
  refine wt_istore_n 7 [(3, .int o1), (0, .ref (ux_ad X 0)), (1, .int v1), (2, .int v2)] C dX12_wide_6 rfl (by decide) rfl ?_
  refine wt_iload_n 8 0 C dX12_wide_7 rfl rfl ?_
  refine wt_istore 10 [(4, .int o1), (3, .int o1), (0, .ref (ux_ad X 0)), (1, .int v1), (2, .int v2)] C dX12_wide_8 rfl (by decide) rfl ?_
  refine wt_iconst 11 0 C dX12_wide_10 rfl (by decide) ?_
  refine wt_istore 13 [(5, .int (0 : Int32)), (4, .int o1), (3, .int o1), (0, .ref (ux_ad X 0)), (1, .int v1), (2, .int v2)] C dX12_wide_11 rfl (by decide) rfl ?_
  obtain ⟨e3, hl4, h⟩ := Option.bind_eq_some_iff.mp h
  refine wt_sub [3, 5, 2, 1, 0] rfl ?_
  refine ux_loop (fun s : Int32 × Int32 => fX12_wide_13b v2 o1 s.1 s.2 N) (fun s : Int32 × Int32 => ux_Wt X 6 13 [(0, .ref (ux_ad X 0)), (2, .int v2), (3, .int o1), (4, .int s.1), (5, .int s.2)] [] N L) (e := e3) ?_ hl4
  intro s5 o6 hb7 hi8 hx9
  refine wX12_wide_13b C hi8 (fun x0 he => ?_) hb7
  · obtain ⟨e10, rfl⟩ : ∃ z, z = x0 := ⟨_, rfl⟩
    have h9 := hx9 _ he
    subst h9
    refine wt_iload 79 0 C dX12_wide_77 rfl rfl ?_
    cases h
    exact wt_iret C hq dX12_wide_79
theorem mX12_wide {l : Launch} {G : ux_G} (hok : ux_ok G shM) {v1 : Int32} {v2 : Int32}  {N : ux_N} {L : ux_L} {o : Int32} (h : fX12_wide v1 v2 N = some o) : ux_Mi l G yX12_wide cX12_wide 6 (some .int) 2 46 [.ref (gad G 0), .int v1, .int v2] N L o N L :=
  ux_ofi shM hok (by decide +kernel) (Nat.le_of_ble_eq_true rfl) (fun X hG hl C hq => by subst hG; subst hl; exact wX12_wide C  hq h)
def fX12_mayServe_47 (s0 : Int32) (N : ux_N) : Option (Int32) :=
  some s0
set_option maxHeartbeats 4000000 in
set_option maxRecDepth 20000 in
theorem wX12_mayServe_47 {X : ux_X} (C : ux_C X cX12_mayServe RX12 5 (some .int) 3 71 shM) {s0 : Int32}  {N : ux_N} {L : ux_L} {o : Int32} (hq : ux_Qi X o N L) (h : fX12_mayServe_47 s0 N = some o) : ux_Wt X 5 47 [] [.int s0] N L := by
  cases h
  exact wt_iret C hq dX12_mayServe_47
def fX12_mayServe (v1 : Int32) (v2 : Int32) (v3 : Int32) (N : ux_N) : Option (Int32) :=
  if v1 = (0 : Int32) then ((fX12_has v3 v2).bind (fun o2 => if o2 = 0 then (fX12_mayServe_47 ((1 : Int32) <<< (v2 &&& 31)) N) else (fX12_mayServe_47 (0 : Int32) N))) else (if v1 = (1 : Int32) then ((fX12_between v2 v3 N).bind (fun o6 => some o6)) else (if v1 = (2 : Int32) then ((fX12_linesAt v2 v3 N).bind (fun o9 => some o9)) else (if v1 = (3 : Int32) then ((fX12_wide v2 v3 N).bind (fun o12 => some o12)) else ((fX12_linesAt v2 v3 N).bind (fun o14 => some (o14 &&& (o14 - (1 : Int32))))))))
set_option maxHeartbeats 4000000 in
set_option maxRecDepth 20000 in
theorem wX12_mayServe {X : ux_X} (C : ux_C X cX12_mayServe RX12 5 (some .int) 3 71 shM) {v1 : Int32} {v2 : Int32} {v3 : Int32}  {N : ux_N} {L : ux_L} {o : Int32} (hq : ux_Qi X o N L) (h : fX12_mayServe v1 v2 v3 N = some o) : ux_Wt X 5 0 [(0, .ref (ux_ad X 0)), (1, .int v1), (2, .int v2), (3, .int v3)] [] N L := by
  refine wt_iload_n 1 1 C dX12_mayServe_0 rfl rfl ?_
  by_cases q1 : v1 = (0 : Int32)
  · have h := (if_pos q1).symm.trans h
    refine wt_tin 32 (0) C dX12_mayServe_1 q1 (by decide) (by decide) rfl (by decide) ?_
    refine wt_iload_n 33 3 C dX12_mayServe_32 rfl rfl ?_
    refine wt_iload_n 34 2 C dX12_mayServe_33 rfl rfl ?_
    obtain ⟨o2, hc3, h⟩ := Option.bind_eq_some_iff.mp h
    refine wt_callSi 37 [] C ksX12_179 (mX12_has (cx_ok C)  hc3) rfl rfl ⟨Nat.le_of_ble_eq_true rfl, Nat.le_of_ble_eq_true rfl⟩ (Nat.le_of_ble_eq_true rfl) dX12_mayServe_34 rfl ?_
    refine wt_if_eq 40 44 C dX12_mayServe_37 rfl (by decide) (fun q4 => ?_) (fun q4 => ?_)
    · have h := (if_pos q4).symm.trans h
      refine wt_iconst 45 1 C dX12_mayServe_44 rfl (by decide) ?_
      refine wt_iload_n 46 2 C dX12_mayServe_45 rfl rfl ?_
      refine wt_ishl 47 C dX12_mayServe_46 rfl ?_
      refine wt_sub [] rfl ?_
      exact wX12_mayServe_47 C hq h
    · have h := (if_neg q4).symm.trans h
      refine wt_iconst 41 0 C dX12_mayServe_40 rfl (by decide) ?_
      refine wt_goto 47 C dX12_mayServe_41 (by decide) ?_
      refine wt_sub [] rfl ?_
      exact wX12_mayServe_47 C hq h
  have h := (if_neg q1).symm.trans h
  by_cases q5 : v1 = (1 : Int32)
  · have h := (if_pos q5).symm.trans h
    refine wt_tin 48 (1) C dX12_mayServe_1 q5 (by decide) (by decide) rfl (by decide) ?_
    refine wt_aload_n 49 0 C dX12_mayServe_48 rfl rfl ?_
    refine wt_iload_n 50 2 C dX12_mayServe_49 rfl rfl ?_
    refine wt_iload_n 51 3 C dX12_mayServe_50 rfl rfl ?_
    obtain ⟨o6, hc7, h⟩ := Option.bind_eq_some_iff.mp h
    refine wt_callVi 54 [] C kvX12_197 sm_0 (mX12_between (cx_ok C)  hc7) rfl rfl ⟨Nat.le_of_ble_eq_true rfl, Nat.le_of_ble_eq_true rfl⟩ (Nat.le_of_ble_eq_true rfl) dX12_mayServe_51 rfl ?_
    cases h
    exact wt_iret C hq dX12_mayServe_54
  have h := (if_neg q5).symm.trans h
  by_cases q8 : v1 = (2 : Int32)
  · have h := (if_pos q8).symm.trans h
    refine wt_tin 55 (2) C dX12_mayServe_1 q8 (by decide) (by decide) rfl (by decide) ?_
    refine wt_aload_n 56 0 C dX12_mayServe_55 rfl rfl ?_
    refine wt_iload_n 57 2 C dX12_mayServe_56 rfl rfl ?_
    refine wt_iload_n 58 3 C dX12_mayServe_57 rfl rfl ?_
    obtain ⟨o9, hc10, h⟩ := Option.bind_eq_some_iff.mp h
    refine wt_callVi 61 [] C kvX12_193 sm_0 (mX12_linesAt (cx_ok C)  hc10) rfl rfl ⟨Nat.le_of_ble_eq_true rfl, Nat.le_of_ble_eq_true rfl⟩ (Nat.le_of_ble_eq_true rfl) dX12_mayServe_58 rfl ?_
    cases h
    exact wt_iret C hq dX12_mayServe_61
  have h := (if_neg q8).symm.trans h
  by_cases q11 : v1 = (3 : Int32)
  · have h := (if_pos q11).symm.trans h
    refine wt_tin 62 (3) C dX12_mayServe_1 q11 (by decide) (by decide) rfl (by decide) ?_
    refine wt_aload_n 63 0 C dX12_mayServe_62 rfl rfl ?_
    refine wt_iload_n 64 2 C dX12_mayServe_63 rfl rfl ?_
    refine wt_iload_n 65 3 C dX12_mayServe_64 rfl rfl ?_
    obtain ⟨o12, hc13, h⟩ := Option.bind_eq_some_iff.mp h
    refine wt_callVi 68 [] C kvX12_200 sm_0 (mX12_wide (cx_ok C)  hc13) rfl rfl ⟨Nat.le_of_ble_eq_true rfl, Nat.le_of_ble_eq_true rfl⟩ (Nat.le_of_ble_eq_true rfl) dX12_mayServe_65 rfl ?_
    cases h
    exact wt_iret C hq dX12_mayServe_68
  have h := (if_neg q11).symm.trans h
  refine wt_tout 69 C dX12_mayServe_1 (by have z0 := lv_neT q1 (show (0 : Int32).toInt = 0 from by decide); have z1 := lv_neT q5 (show (1 : Int32).toInt = 1 from by decide); have z2 := lv_neT q8 (show (2 : Int32).toInt = 2 from by decide); have z3 := lv_neT q11 (show (3 : Int32).toInt = 3 from by decide); omega) (by decide) ?_
  refine wt_aload_n 70 0 C dX12_mayServe_69 rfl rfl ?_
  refine wt_iload_n 71 2 C dX12_mayServe_70 rfl rfl ?_
  refine wt_iload_n 72 3 C dX12_mayServe_71 rfl rfl ?_
  obtain ⟨o14, hc15, h⟩ := Option.bind_eq_some_iff.mp h
  refine wt_callVi 75 [] C kvX12_193 sm_0 (mX12_linesAt (cx_ok C)  hc15) rfl rfl ⟨Nat.le_of_ble_eq_true rfl, Nat.le_of_ble_eq_true rfl⟩ (Nat.le_of_ble_eq_true rfl) dX12_mayServe_72 rfl ?_
  refine wt_istore 77 [(4, .int o14), (0, .ref (ux_ad X 0)), (1, .int v1), (2, .int v2), (3, .int v3)] C dX12_mayServe_75 rfl (by decide) rfl ?_
  refine wt_iload 79 0 C dX12_mayServe_77 rfl rfl ?_
  refine wt_iload 81 0 C dX12_mayServe_79 rfl rfl ?_
  refine wt_iconst 82 1 C dX12_mayServe_81 rfl (by decide) ?_
  refine wt_isub 83 C dX12_mayServe_82 rfl ?_
  refine wt_iand 84 C dX12_mayServe_83 rfl ?_
  cases h
  exact wt_iret C hq dX12_mayServe_84
theorem mX12_mayServe {l : Launch} {G : ux_G} (hok : ux_ok G shM) {v1 : Int32} {v2 : Int32} {v3 : Int32}  {N : ux_N} {L : ux_L} {o : Int32} (h : fX12_mayServe v1 v2 v3 N = some o) : ux_Mi l G yX12_mayServe cX12_mayServe 5 (some .int) 3 71 [.ref (gad G 0), .int v1, .int v2, .int v3] N L o N L :=
  ux_ofi shM hok (by decide +kernel) (Nat.le_of_ble_eq_true rfl) (fun X hG hl C hq => by subst hG; subst hl; exact wX12_mayServe C  hq h)
def fX12_mayOf_39 (s0 : Int32) (N : ux_N) : Option (Int32) :=
  some s0
set_option maxHeartbeats 4000000 in
set_option maxRecDepth 20000 in
theorem wX12_mayOf_39 {X : ux_X} (C : ux_C X cX12_mayOf RX12 3 (some .int) 4 95 shM) {s0 : Int32}  {N : ux_N} {L : ux_L} {o : Int32} (hq : ux_Qi X o N L) (h : fX12_mayOf_39 s0 N = some o) : ux_Wt X 3 39 [] [.int s0] N L := by
  cases h
  exact wt_iret C hq dX12_mayOf_39
def fX12_mayOf (v1 : Int32) (v2 : Int32) (N : ux_N) : Option (Int32) :=
  (fX12_has (N 1 1) v1).bind (fun o1 => if o1 = 0 then (if ux_in ((3 : Int32) + v1) 252 then (if ux_in ((12 : Int32) + v1) 252 then ((fX12_mayServe (N 1 (((3 : Int32) + v1).toNatClampNeg)) (N 1 (((12 : Int32) + v1).toNatClampNeg)) v2 N).bind (fun o6 => fX12_mayOf_39 o6 N)) else none) else none) else (fX12_mayOf_39 (0 : Int32) N))
set_option maxHeartbeats 4000000 in
set_option maxRecDepth 20000 in
theorem wX12_mayOf {X : ux_X} (C : ux_C X cX12_mayOf RX12 3 (some .int) 4 95 shM) {v1 : Int32} {v2 : Int32}  {N : ux_N} {L : ux_L} {o : Int32} (hq : ux_Qi X o N L) (h : fX12_mayOf v1 v2 N = some o) : ux_Wt X 3 0 [(0, .ref (ux_ad X 0)), (1, .int v1), (2, .int v2)] [] N L := by
  refine wt_aload_n 1 0 C dX12_mayOf_0 rfl rfl ?_
  refine wt_getR 4 C kfX12_7 sm_0 rfl dX12_mayOf_1 rfl ?_
  refine wt_iconst 5 1 C dX12_mayOf_4 rfl (by decide) ?_
  refine wt_iald 6 1 C sm_1 (by decide) (by decide) dX12_mayOf_5 rfl ?_
  refine wt_iload_n 7 1 C dX12_mayOf_6 rfl rfl ?_
  obtain ⟨o1, hc2, h⟩ := Option.bind_eq_some_iff.mp h
  refine wt_callSi 10 [] C ksX12_179 (mX12_has (cx_ok C)  hc2) rfl rfl ⟨Nat.le_of_ble_eq_true rfl, Nat.le_of_ble_eq_true rfl⟩ (Nat.le_of_ble_eq_true rfl) dX12_mayOf_7 rfl ?_
  refine wt_if_eq 13 17 C dX12_mayOf_10 rfl (by decide) (fun q3 => ?_) (fun q3 => ?_)
  · have h := (if_pos q3).symm.trans h
    refine wt_aload_n 18 0 C dX12_mayOf_17 rfl rfl ?_
    refine wt_aload_n 19 0 C dX12_mayOf_18 rfl rfl ?_
    refine wt_getR 22 C kfX12_7 sm_0 rfl dX12_mayOf_19 rfl ?_
    refine wt_iconst 23 3 C dX12_mayOf_22 rfl (by decide) ?_
    refine wt_iload_n 24 1 C dX12_mayOf_23 rfl rfl ?_
    refine wt_iadd 25 C dX12_mayOf_24 rfl ?_
    obtain ⟨hi4, h⟩ := ux_guard h
    refine wt_iald 26 (((3 : Int32) + v1).toNatClampNeg) C sm_1 rfl hi4 dX12_mayOf_25 rfl ?_
    refine wt_aload_n 27 0 C dX12_mayOf_26 rfl rfl ?_
    refine wt_getR 30 C kfX12_7 sm_0 rfl dX12_mayOf_27 rfl ?_
    refine wt_bipush 32 12 C dX12_mayOf_30 rfl (by decide) ?_
    refine wt_iload_n 33 1 C dX12_mayOf_32 rfl rfl ?_
    refine wt_iadd 34 C dX12_mayOf_33 rfl ?_
    obtain ⟨hi5, h⟩ := ux_guard h
    refine wt_iald 35 (((12 : Int32) + v1).toNatClampNeg) C sm_1 rfl hi5 dX12_mayOf_34 rfl ?_
    refine wt_iload_n 36 2 C dX12_mayOf_35 rfl rfl ?_
    obtain ⟨o6, hc7, h⟩ := Option.bind_eq_some_iff.mp h
    refine wt_callVi 39 [] C kvX12_203 sm_0 (mX12_mayServe (cx_ok C)  hc7) rfl rfl ⟨Nat.le_of_ble_eq_true rfl, Nat.le_of_ble_eq_true rfl⟩ (Nat.le_of_ble_eq_true rfl) dX12_mayOf_36 rfl ?_
    refine wt_sub [] rfl ?_
    exact wX12_mayOf_39 C hq h
  · have h := (if_neg q3).symm.trans h
    refine wt_iconst 14 0 C dX12_mayOf_13 rfl (by decide) ?_
    refine wt_goto 39 C dX12_mayOf_14 (by decide) ?_
    refine wt_sub [] rfl ?_
    exact wX12_mayOf_39 C hq h
theorem mX12_mayOf {l : Launch} {G : ux_G} (hok : ux_ok G shM) {v1 : Int32} {v2 : Int32}  {N : ux_N} {L : ux_L} {o : Int32} (h : fX12_mayOf v1 v2 N = some o) : ux_Mi l G yX12_mayOf cX12_mayOf 3 (some .int) 4 95 [.ref (gad G 0), .int v1, .int v2] N L o N L :=
  ux_ofi shM hok (by decide +kernel) (Nat.le_of_ble_eq_true rfl) (fun X hG hl C hq => by subst hG; subst hl; exact wX12_mayOf C  hq h)
def fX12_layMore_3b (v1 : Int32) (v2 : Int32) (v3 : Int32) (v4 : Int32) (N : ux_N) (L : ux_L) : Option ((Int32 × ux_L) ⊕ (ux_L)) :=
  if (16 : Int32) ≤ v4 then (some (.inr (L))) else (if ux_in (v1 + v4) 8224 then (if ux_in (v2 + v4) 8224 then (some (.inl ((v4 + 1), (ux_w L 15 ((v2 + v4).toNatClampNeg) (L 15 ((v1 + v4).toNatClampNeg)))))) else none) else none)
set_option maxHeartbeats 4000000 in
set_option maxRecDepth 20000 in
theorem wX12_layMore_3b {X : ux_X} (C : ux_C X cX12_layMore RX12 6 none 1 21 shM) {v1 : Int32} {v2 : Int32} {v3 : Int32} {v4 : Int32}  {N : ux_N} {L : ux_L} {o : (Int32 × ux_L) ⊕ (ux_L)} (hin : ∀ s : Int32 × ux_L, o = .inl s → ux_Wt X 6 3 [(0, .ref (ux_ad X 0)), (1, .int v1), (2, .int v2), (3, .int v3), (4, .int s.1)] [] N s.2) (hex0 : ∀ e : ux_L, o = .inr (e) → ux_Wt X 6 34 [(0, .ref (ux_ad X 0)), (1, .int v1), (2, .int v2), (3, .int v3)] [] N e) (h : fX12_layMore_3b v1 v2 v3 v4 N L = some o) : ux_Wt X 6 3 [(0, .ref (ux_ad X 0)), (1, .int v1), (2, .int v2), (3, .int v3), (4, .int v4)] [] N L := by
  refine wt_iload 5 4 C dX12_layMore_3 rfl rfl ?_
  refine wt_bipush 7 16 C dX12_layMore_5 rfl (by decide) ?_
  refine wt_icmp_ge 10 34 C dX12_layMore_7 rfl (by decide) (fun q1 => ?_) (fun q1 => ?_)
  · have h := (if_pos q1).symm.trans h
    refine wt_sub [0, 1, 2, 3] rfl ?_
    exact hex0 _ (Option.some.inj h).symm
  · have h := (if_neg q1).symm.trans h
    refine wt_aload_n 11 0 C dX12_layMore_10 rfl rfl ?_
    refine wt_getR 14 C kfX12_54 sm_0 rfl dX12_layMore_11 rfl ?_
    refine wt_iload_n 15 2 C dX12_layMore_14 rfl rfl ?_
    refine wt_iload 17 4 C dX12_layMore_15 rfl rfl ?_
    refine wt_iadd 18 C dX12_layMore_17 rfl ?_
    refine wt_aload_n 19 0 C dX12_layMore_18 rfl rfl ?_
    refine wt_getR 22 C kfX12_54 sm_0 rfl dX12_layMore_19 rfl ?_
    refine wt_iload_n 23 1 C dX12_layMore_22 rfl rfl ?_
    refine wt_iload 25 4 C dX12_layMore_23 rfl rfl ?_
    refine wt_iadd 26 C dX12_layMore_25 rfl ?_
    obtain ⟨hi2, h⟩ := ux_guard h
    refine wt_lald 27 ((v1 + v4).toNatClampNeg) C sm_15 rfl hi2 dX12_layMore_26 rfl ?_
    obtain ⟨hi3, h⟩ := ux_guard h
    refine wt_last 28 ((v2 + v4).toNatClampNeg) C sm_15 rfl hi3 dX12_layMore_27 rfl ?_
    refine wt_iinc 31 4 [(4, .int (v4 + 1)), (0, .ref (ux_ad X 0)), (1, .int v1), (2, .int v2), (3, .int v3)] (v4 + 1) C dX12_layMore_28 rfl rfl (by rfl) (by decide) rfl ?_
    refine wt_goto 3 C dX12_layMore_31 (by decide) ?_
    refine wt_sub [1, 2, 3, 4, 0] rfl ?_
    exact hin _ (Option.some.inj h).symm
def fX12_layMore_49b_151 (v1 : Int32) (v2 : Int32) (v3 : Int32) (v4 : Int32) (v5 : Int32) (N : ux_N) (L : ux_L) : Option ((Int32 × ux_L) ⊕ (ux_L)) :=
  some (.inl ((v5 + 1), L))
set_option maxHeartbeats 4000000 in
set_option maxRecDepth 20000 in
theorem wX12_layMore_49b_151 {X : ux_X} (C : ux_C X cX12_layMore RX12 6 none 1 21 shM) {v1 : Int32} {v2 : Int32} {v3 : Int32} {v4 : Int32} {v5 : Int32}  {N : ux_N} {L : ux_L} {o : (Int32 × ux_L) ⊕ (ux_L)} (hin : ∀ s : Int32 × ux_L, o = .inl s → ux_Wt X 6 49 [(0, .ref (ux_ad X 0)), (1, .int v1), (2, .int v2), (3, .int v3), (4, .int v4), (5, .int s.1)] [] N s.2) (hex0 : ∀ e : ux_L, o = .inr (e) → ux_Wt X 6 157 [(0, .ref (ux_ad X 0)), (1, .int v1), (2, .int v2), (3, .int v3), (4, .int v4)] [] N e) (h : fX12_layMore_49b_151 v1 v2 v3 v4 v5 N L = some o) : ux_Wt X 6 151 [(0, .ref (ux_ad X 0)), (1, .int v1), (2, .int v2), (3, .int v3), (4, .int v4), (5, .int v5)] [] N L := by
  refine wt_iinc 154 5 [(5, .int (v5 + 1)), (0, .ref (ux_ad X 0)), (1, .int v1), (2, .int v2), (3, .int v3), (4, .int v4)] (v5 + 1) C dX12_layMore_151 rfl rfl (by rfl) (by decide) rfl ?_
  refine wt_goto 49 C dX12_layMore_154 (by decide) ?_
  refine wt_sub [1, 2, 3, 4, 5, 0] rfl ?_
  exact hin _ (Option.some.inj h).symm
def fX12_layMore_49b_106 (v1 : Int32) (v2 : Int32) (v3 : Int32) (v4 : Int32) (v5 : Int32) (N : ux_N) (L : ux_L) : Option ((Int32 × ux_L) ⊕ (ux_L)) :=
  fX12_layMore_49b_151 v1 v2 v3 v4 v5 N L
set_option maxHeartbeats 4000000 in
set_option maxRecDepth 20000 in
theorem wX12_layMore_49b_106 {X : ux_X} (C : ux_C X cX12_layMore RX12 6 none 1 21 shM) {v1 : Int32} {v2 : Int32} {v3 : Int32} {v4 : Int32} {v5 : Int32}  {N : ux_N} {L : ux_L} {o : (Int32 × ux_L) ⊕ (ux_L)} (hin : ∀ s : Int32 × ux_L, o = .inl s → ux_Wt X 6 49 [(0, .ref (ux_ad X 0)), (1, .int v1), (2, .int v2), (3, .int v3), (4, .int v4), (5, .int s.1)] [] N s.2) (hex0 : ∀ e : ux_L, o = .inr (e) → ux_Wt X 6 157 [(0, .ref (ux_ad X 0)), (1, .int v1), (2, .int v2), (3, .int v3), (4, .int v4)] [] N e) (h : fX12_layMore_49b_106 v1 v2 v3 v4 v5 N L = some o) : ux_Wt X 6 106 [(0, .ref (ux_ad X 0)), (1, .int v1), (2, .int v2), (3, .int v3), (4, .int v4), (5, .int v5)] [] N L := by
  refine wt_goto 151 C dX12_layMore_106 (by decide) ?_
  exact wX12_layMore_49b_151 C hin hex0 h
def fX12_layMore_49b (v1 : Int32) (v2 : Int32) (v3 : Int32) (v4 : Int32) (v5 : Int32) (N : ux_N) (L : ux_L) : Option ((Int32 × ux_L) ⊕ (ux_L)) :=
  if (16 : Int32) ≤ v5 then (some (.inr (L))) else ((fX12_has v3 v4).bind (fun o2 => if o2 = 0 then (some (.inr (L))) else (if (6 : Int32) ≤ v4 then ((fX12_has v5 (v4 - (6 : Int32))).bind (fun o6 => if o6 = 0 then (if ux_in (v2 + (v5 ||| ((1 : Int32) <<< ((v4 - (6 : Int32)) &&& 31)))) 8224 then (if ux_in (v1 + v5) 8224 then (if ux_in (v2 + (v5 ||| ((1 : Int32) <<< ((v4 - (6 : Int32)) &&& 31)))) 8224 then (fX12_layMore_49b_151 v1 v2 v3 v4 v5 N (ux_w L 15 ((v2 + (v5 ||| ((1 : Int32) <<< ((v4 - (6 : Int32)) &&& 31)))).toNatClampNeg) ((L 15 ((v2 + (v5 ||| ((1 : Int32) <<< ((v4 - (6 : Int32)) &&& 31)))).toNatClampNeg)) ||| (L 15 ((v1 + v5).toNatClampNeg))))) else none) else none) else none) else (fX12_layMore_49b_151 v1 v2 v3 v4 v5 N L))) else (if ux_in (v2 + v5) 8224 then (if ux_in (v1 + v5) 8224 then (if ux_in v4 6 then (if ux_in (v2 + v5) 8224 then (fX12_layMore_49b_106 v1 v2 v3 v4 v5 N (ux_w L 15 ((v2 + v5).toNatClampNeg) ((L 15 ((v2 + v5).toNatClampNeg)) ||| (((L 15 ((v1 + v5).toNatClampNeg)) &&& (L 16 (v4.toNatClampNeg))) <<< (((1 : Int32) <<< (v4 &&& 31)).toInt64 &&& 63))))) else none) else none) else none) else none))))
set_option maxHeartbeats 4000000 in
set_option maxRecDepth 20000 in
theorem wX12_layMore_49b {X : ux_X} (C : ux_C X cX12_layMore RX12 6 none 1 21 shM) {v1 : Int32} {v2 : Int32} {v3 : Int32} {v4 : Int32} {v5 : Int32}  {N : ux_N} {L : ux_L} {o : (Int32 × ux_L) ⊕ (ux_L)} (hin : ∀ s : Int32 × ux_L, o = .inl s → ux_Wt X 6 49 [(0, .ref (ux_ad X 0)), (1, .int v1), (2, .int v2), (3, .int v3), (4, .int v4), (5, .int s.1)] [] N s.2) (hex0 : ∀ e : ux_L, o = .inr (e) → ux_Wt X 6 157 [(0, .ref (ux_ad X 0)), (1, .int v1), (2, .int v2), (3, .int v3), (4, .int v4)] [] N e) (h : fX12_layMore_49b v1 v2 v3 v4 v5 N L = some o) : ux_Wt X 6 49 [(0, .ref (ux_ad X 0)), (1, .int v1), (2, .int v2), (3, .int v3), (4, .int v4), (5, .int v5)] [] N L := by
  refine wt_iload 51 5 C dX12_layMore_49 rfl rfl ?_
  refine wt_bipush 53 16 C dX12_layMore_51 rfl (by decide) ?_
  refine wt_icmp_ge 56 157 C dX12_layMore_53 rfl (by decide) (fun q1 => ?_) (fun q1 => ?_)
  · have h := (if_pos q1).symm.trans h
    refine wt_sub [0, 1, 2, 3, 4] rfl ?_
    exact hex0 _ (Option.some.inj h).symm
  · have h := (if_neg q1).symm.trans h
    refine wt_iload_n 57 3 C dX12_layMore_56 rfl rfl ?_
    refine wt_iload 59 4 C dX12_layMore_57 rfl rfl ?_
    obtain ⟨o2, hc3, h⟩ := Option.bind_eq_some_iff.mp h
    refine wt_callSi 62 [] C ksX12_179 (mX12_has (cx_ok C)  hc3) rfl rfl ⟨Nat.le_of_ble_eq_true rfl, Nat.le_of_ble_eq_true rfl⟩ (Nat.le_of_ble_eq_true rfl) dX12_layMore_59 rfl ?_
    refine wt_if_eq 65 157 C dX12_layMore_62 rfl (by decide) (fun q4 => ?_) (fun q4 => ?_)
    · have h := (if_pos q4).symm.trans h
      refine wt_sub [0, 1, 2, 3, 4] rfl ?_
      exact hex0 _ (Option.some.inj h).symm
    · have h := (if_neg q4).symm.trans h
      refine wt_iload 67 4 C dX12_layMore_65 rfl rfl ?_
      refine wt_bipush 69 6 C dX12_layMore_67 rfl (by decide) ?_
      refine wt_icmp_ge 72 109 C dX12_layMore_69 rfl (by decide) (fun q5 => ?_) (fun q5 => ?_)
      · have h := (if_pos q5).symm.trans h
        refine wt_iload 111 5 C dX12_layMore_109 rfl rfl ?_
        refine wt_iload 113 4 C dX12_layMore_111 rfl rfl ?_
        refine wt_bipush 115 6 C dX12_layMore_113 rfl (by decide) ?_
        refine wt_isub 116 C dX12_layMore_115 rfl ?_
        obtain ⟨o6, hc7, h⟩ := Option.bind_eq_some_iff.mp h
        refine wt_callSi 119 [] C ksX12_179 (mX12_has (cx_ok C)  hc7) rfl rfl ⟨Nat.le_of_ble_eq_true rfl, Nat.le_of_ble_eq_true rfl⟩ (Nat.le_of_ble_eq_true rfl) dX12_layMore_116 rfl ?_
        refine wt_if_ne 122 151 C dX12_layMore_119 rfl (by decide) (fun q8 => ?_) (fun q8 => ?_)
        · have h := (if_neg q8).symm.trans h
          exact wX12_layMore_49b_151 C hin hex0 h
        · have h := (if_pos q8).symm.trans h
          refine wt_aload_n 123 0 C dX12_layMore_122 rfl rfl ?_
          refine wt_getR 126 C kfX12_54 sm_0 rfl dX12_layMore_123 rfl ?_
          refine wt_iload_n 127 2 C dX12_layMore_126 rfl rfl ?_
          refine wt_iload 129 5 C dX12_layMore_127 rfl rfl ?_
          refine wt_iconst 130 1 C dX12_layMore_129 rfl (by decide) ?_
          refine wt_iload 132 4 C dX12_layMore_130 rfl rfl ?_
          refine wt_bipush 134 6 C dX12_layMore_132 rfl (by decide) ?_
          refine wt_isub 135 C dX12_layMore_134 rfl ?_
          refine wt_ishl 136 C dX12_layMore_135 rfl ?_
          refine wt_ior 137 C dX12_layMore_136 rfl ?_
          refine wt_iadd 138 C dX12_layMore_137 rfl ?_
          refine wt_dup2 139 C dX12_layMore_138 rfl rfl rfl ?_
          obtain ⟨hi9, h⟩ := ux_guard h
          refine wt_lald 140 ((v2 + (v5 ||| ((1 : Int32) <<< ((v4 - (6 : Int32)) &&& 31)))).toNatClampNeg) C sm_15 rfl hi9 dX12_layMore_139 rfl ?_
          refine wt_aload_n 141 0 C dX12_layMore_140 rfl rfl ?_
          refine wt_getR 144 C kfX12_54 sm_0 rfl dX12_layMore_141 rfl ?_
          refine wt_iload_n 145 1 C dX12_layMore_144 rfl rfl ?_
          refine wt_iload 147 5 C dX12_layMore_145 rfl rfl ?_
          refine wt_iadd 148 C dX12_layMore_147 rfl ?_
          obtain ⟨hi10, h⟩ := ux_guard h
          refine wt_lald 149 ((v1 + v5).toNatClampNeg) C sm_15 rfl hi10 dX12_layMore_148 rfl ?_
          refine wt_lor 150 C dX12_layMore_149 rfl ?_
          obtain ⟨hi11, h⟩ := ux_guard h
          refine wt_last 151 ((v2 + (v5 ||| ((1 : Int32) <<< ((v4 - (6 : Int32)) &&& 31)))).toNatClampNeg) C sm_15 rfl hi11 dX12_layMore_150 rfl ?_
          exact wX12_layMore_49b_151 C hin hex0 h
      · have h := (if_neg q5).symm.trans h
        refine wt_aload_n 73 0 C dX12_layMore_72 rfl rfl ?_
        refine wt_getR 76 C kfX12_54 sm_0 rfl dX12_layMore_73 rfl ?_
        refine wt_iload_n 77 2 C dX12_layMore_76 rfl rfl ?_
        refine wt_iload 79 5 C dX12_layMore_77 rfl rfl ?_
        refine wt_iadd 80 C dX12_layMore_79 rfl ?_
        refine wt_dup2 81 C dX12_layMore_80 rfl rfl rfl ?_
        obtain ⟨hi12, h⟩ := ux_guard h
        refine wt_lald 82 ((v2 + v5).toNatClampNeg) C sm_15 rfl hi12 dX12_layMore_81 rfl ?_
        refine wt_aload_n 83 0 C dX12_layMore_82 rfl rfl ?_
        refine wt_getR 86 C kfX12_54 sm_0 rfl dX12_layMore_83 rfl ?_
        refine wt_iload_n 87 1 C dX12_layMore_86 rfl rfl ?_
        refine wt_iload 89 5 C dX12_layMore_87 rfl rfl ?_
        refine wt_iadd 90 C dX12_layMore_89 rfl ?_
        obtain ⟨hi13, h⟩ := ux_guard h
        refine wt_lald 91 ((v1 + v5).toNatClampNeg) C sm_15 rfl hi13 dX12_layMore_90 rfl ?_
        refine wt_aload_n 92 0 C dX12_layMore_91 rfl rfl ?_
        refine wt_getR 95 C kfX12_69 sm_0 rfl dX12_layMore_92 rfl ?_
        refine wt_iload 97 4 C dX12_layMore_95 rfl rfl ?_
        obtain ⟨hi14, h⟩ := ux_guard h
        refine wt_lald 98 (v4.toNatClampNeg) C sm_16 rfl hi14 dX12_layMore_97 rfl ?_
        refine wt_land 99 C dX12_layMore_98 rfl ?_
        refine wt_iconst 100 1 C dX12_layMore_99 rfl (by decide) ?_
        refine wt_iload 102 4 C dX12_layMore_100 rfl rfl ?_
        refine wt_ishl 103 C dX12_layMore_102 rfl ?_
        refine wt_lshl 104 C dX12_layMore_103 rfl ?_
        refine wt_lor 105 C dX12_layMore_104 rfl ?_
        obtain ⟨hi15, h⟩ := ux_guard h
        refine wt_last 106 ((v2 + v5).toNatClampNeg) C sm_15 rfl hi15 dX12_layMore_105 rfl ?_
        exact wX12_layMore_49b_106 C hin hex0 h
def fX12_layMore_37b_157 (v1 : Int32) (v2 : Int32) (v3 : Int32) (v4 : Int32) (N : ux_N) (L : ux_L) : Option ((Int32 × ux_L) ⊕ (ux_L)) :=
  some (.inl ((v4 + 1), L))
set_option maxHeartbeats 4000000 in
set_option maxRecDepth 20000 in
theorem wX12_layMore_37b_157 {X : ux_X} (C : ux_C X cX12_layMore RX12 6 none 1 21 shM) {v1 : Int32} {v2 : Int32} {v3 : Int32} {v4 : Int32}  {N : ux_N} {L : ux_L} {o : (Int32 × ux_L) ⊕ (ux_L)} (hin : ∀ s : Int32 × ux_L, o = .inl s → ux_Wt X 6 37 [(0, .ref (ux_ad X 0)), (1, .int v1), (2, .int v2), (3, .int v3), (4, .int s.1)] [] N s.2) (hex0 : ∀ e : ux_L, o = .inr (e) → ux_Wt X 6 163 [] [] N e) (h : fX12_layMore_37b_157 v1 v2 v3 v4 N L = some o) : ux_Wt X 6 157 [(0, .ref (ux_ad X 0)), (1, .int v1), (2, .int v2), (3, .int v3), (4, .int v4)] [] N L := by
  refine wt_iinc 160 4 [(4, .int (v4 + 1)), (0, .ref (ux_ad X 0)), (1, .int v1), (2, .int v2), (3, .int v3)] (v4 + 1) C dX12_layMore_157 rfl rfl (by rfl) (by decide) rfl ?_
  refine wt_goto 37 C dX12_layMore_160 (by decide) ?_
  refine wt_sub [1, 2, 3, 4, 0] rfl ?_
  exact hin _ (Option.some.inj h).symm
def fX12_layMore_37b (v1 : Int32) (v2 : Int32) (v3 : Int32) (v4 : Int32) (N : ux_N) (L : ux_L) : Option ((Int32 × ux_L) ⊕ (ux_L)) :=
  if (N 0 2) ≤ v4 then (some (.inr (L))) else ((ux_lp (fun s : Int32 × ux_L => fX12_layMore_49b v1 v2 v3 v4 s.1 N s.2) ux_fu ((0 : Int32), L)).bind (fun e9 => fX12_layMore_37b_157 v1 v2 v3 v4 N e9))
set_option maxHeartbeats 4000000 in
set_option maxRecDepth 20000 in
theorem wX12_layMore_37b {X : ux_X} (C : ux_C X cX12_layMore RX12 6 none 1 21 shM) {v1 : Int32} {v2 : Int32} {v3 : Int32} {v4 : Int32}  {N : ux_N} {L : ux_L} {o : (Int32 × ux_L) ⊕ (ux_L)} (hin : ∀ s : Int32 × ux_L, o = .inl s → ux_Wt X 6 37 [(0, .ref (ux_ad X 0)), (1, .int v1), (2, .int v2), (3, .int v3), (4, .int s.1)] [] N s.2) (hex0 : ∀ e : ux_L, o = .inr (e) → ux_Wt X 6 163 [] [] N e) (h : fX12_layMore_37b v1 v2 v3 v4 N L = some o) : ux_Wt X 6 37 [(0, .ref (ux_ad X 0)), (1, .int v1), (2, .int v2), (3, .int v3), (4, .int v4)] [] N L := by
  refine wt_iload 39 4 C dX12_layMore_37 rfl rfl ?_
  refine wt_aload_n 40 0 C dX12_layMore_39 rfl rfl ?_
  refine wt_getI 43 C kfX12_86 sm_0 rfl dX12_layMore_40 rfl ?_
  refine wt_icmp_ge 46 163 C dX12_layMore_43 rfl (by decide) (fun q1 => ?_) (fun q1 => ?_)
  · have h := (if_pos q1).symm.trans h
    refine wt_sub [] rfl ?_
    exact hex0 _ (Option.some.inj h).symm
  · have h := (if_neg q1).symm.trans h
    refine wt_iconst 47 0 C dX12_layMore_46 rfl (by decide) ?_
    refine wt_istore 49 [(5, .int (0 : Int32)), (0, .ref (ux_ad X 0)), (1, .int v1), (2, .int v2), (3, .int v3), (4, .int v4)] C dX12_layMore_47 rfl (by decide) rfl ?_
    obtain ⟨e2, hl3, h⟩ := Option.bind_eq_some_iff.mp h
    refine wt_sub [1, 2, 3, 4, 5, 0] rfl ?_
    refine ux_loop (fun s : Int32 × ux_L => fX12_layMore_49b v1 v2 v3 v4 s.1 N s.2) (fun s : Int32 × ux_L => ux_Wt X 6 49 [(0, .ref (ux_ad X 0)), (1, .int v1), (2, .int v2), (3, .int v3), (4, .int v4), (5, .int s.1)] [] N s.2) (e := e2) ?_ hl3
    intro s4 o5 hb6 hi7 hx8
    refine wX12_layMore_49b C hi7 (fun x0 he => ?_) hb6
    · obtain ⟨e9, rfl⟩ : ∃ z, z = x0 := ⟨_, rfl⟩
      have h9 := hx8 _ he
      subst h9
      exact wX12_layMore_37b_157 C hin hex0 h
def fX12_layMore (v1 : Int32) (v2 : Int32) (v3 : Int32) (N : ux_N) (L : ux_L) : Option (ux_L) :=
  (ux_lp (fun s : Int32 × ux_L => fX12_layMore_3b v1 v2 v3 s.1 N s.2) ux_fu ((0 : Int32), L)).bind (fun e8 => (ux_lp (fun s : Int32 × ux_L => fX12_layMore_37b v1 v2 v3 s.1 N s.2) ux_fu ((0 : Int32), e8)).bind (fun e16 => some e16))
set_option maxHeartbeats 4000000 in
set_option maxRecDepth 20000 in
theorem wX12_layMore {X : ux_X} (C : ux_C X cX12_layMore RX12 6 none 1 21 shM) {v1 : Int32} {v2 : Int32} {v3 : Int32}  {N : ux_N} {L : ux_L} {o : ux_L} (hq : ux_Qv X N o) (h : fX12_layMore v1 v2 v3 N L = some o) : ux_Wt X 6 0 [(0, .ref (ux_ad X 0)), (1, .int v1), (2, .int v2), (3, .int v3)] [] N L := by
  refine wt_iconst 1 0 C dX12_layMore_0 rfl (by decide) ?_
  refine wt_istore 3 [(4, .int (0 : Int32)), (0, .ref (ux_ad X 0)), (1, .int v1), (2, .int v2), (3, .int v3)] C dX12_layMore_1 rfl (by decide) rfl ?_
  obtain ⟨e1, hl2, h⟩ := Option.bind_eq_some_iff.mp h
  refine wt_sub [1, 2, 3, 4, 0] rfl ?_
  refine ux_loop (fun s : Int32 × ux_L => fX12_layMore_3b v1 v2 v3 s.1 N s.2) (fun s : Int32 × ux_L => ux_Wt X 6 3 [(0, .ref (ux_ad X 0)), (1, .int v1), (2, .int v2), (3, .int v3), (4, .int s.1)] [] N s.2) (e := e1) ?_ hl2
  intro s3 o4 hb5 hi6 hx7
  refine wX12_layMore_3b C hi6 (fun x0 he => ?_) hb5
  · obtain ⟨e8, rfl⟩ : ∃ z, z = x0 := ⟨_, rfl⟩
    have h9 := hx7 _ he
    subst h9
    refine wt_iconst 35 0 C dX12_layMore_34 rfl (by decide) ?_
    refine wt_istore 37 [(4, .int (0 : Int32)), (0, .ref (ux_ad X 0)), (1, .int v1), (2, .int v2), (3, .int v3)] C dX12_layMore_35 rfl (by decide) rfl ?_
    obtain ⟨e9, hl10, h⟩ := Option.bind_eq_some_iff.mp h
    refine wt_sub [1, 2, 3, 4, 0] rfl ?_
    refine ux_loop (fun s : Int32 × ux_L => fX12_layMore_37b v1 v2 v3 s.1 N s.2) (fun s : Int32 × ux_L => ux_Wt X 6 37 [(0, .ref (ux_ad X 0)), (1, .int v1), (2, .int v2), (3, .int v3), (4, .int s.1)] [] N s.2) (e := e9) ?_ hl10
    intro s11 o12 hb13 hi14 hx15
    refine wX12_layMore_37b C hi14 (fun x0 he => ?_) hb13
    · obtain ⟨e16, rfl⟩ : ∃ z, z = x0 := ⟨_, rfl⟩
      have h9 := hx15 _ he
      subst h9
      cases h
      exact wt_vret C hq dX12_layMore_163
theorem mX12_layMore {l : Launch} {G : ux_G} (hok : ux_ok G shM) {v1 : Int32} {v2 : Int32} {v3 : Int32}  {N : ux_N} {L : ux_L} {o : ux_L} (h : fX12_layMore v1 v2 v3 N L = some o) : ux_Mv l G yX12_layMore cX12_layMore 6 1 21 [.ref (gad G 0), .int v1, .int v2, .int v3] N L N o :=
  ux_ofv shM hok (by decide +kernel) (Nat.le_of_ble_eq_true rfl) (fun X hG hl C hq => by subst hG; subst hl; exact wX12_layMore C  hq h)
def fX12_layNone_2b_24 (v1 : Int32) (v2 : Int32) (s0 : Int64) (s1 : Int32) (L : ux_L) : Option ((Int32 × ux_L) ⊕ (ux_L)) :=
  if ux_in s1 8224 then (some (.inl ((v2 + 1), (ux_w L 15 (s1.toNatClampNeg) s0)))) else none
set_option maxHeartbeats 4000000 in
set_option maxRecDepth 20000 in
theorem wX12_layNone_2b_24 {X : ux_X} (C : ux_C X cX12_layNone RX12 3 none 0 0 shM) {v1 : Int32} {v2 : Int32} {s0 : Int64} {s1 : Int32}  {N : ux_N} {L : ux_L} {o : (Int32 × ux_L) ⊕ (ux_L)} (hin : ∀ s : Int32 × ux_L, o = .inl s → ux_Wt X 3 2 [(0, .ref (ux_ad X 0)), (1, .int v1), (2, .int s.1)] [] N s.2) (hex0 : ∀ e : ux_L, o = .inr (e) → ux_Wt X 3 31 [] [] N e) (h : fX12_layNone_2b_24 v1 v2 s0 s1 L = some o) : ux_Wt X 3 24 [(0, .ref (ux_ad X 0)), (1, .int v1), (2, .int v2)] [.long s0, .int s1, .ref (ux_ad X 15)] N L := by
  obtain ⟨hi1, h⟩ := ux_guard h
  refine wt_last 25 (s1.toNatClampNeg) C sm_15 rfl hi1 dX12_layNone_24 rfl ?_
  refine wt_iinc 28 2 [(2, .int (v2 + 1)), (0, .ref (ux_ad X 0)), (1, .int v1)] (v2 + 1) C dX12_layNone_25 rfl rfl (by rfl) (by decide) rfl ?_
  refine wt_goto 2 C dX12_layNone_28 (by decide) ?_
  refine wt_sub [1, 2, 0] rfl ?_
  exact hin _ (Option.some.inj h).symm
def fX12_layNone_2b (v1 : Int32) (v2 : Int32) (L : ux_L) : Option ((Int32 × ux_L) ⊕ (ux_L)) :=
  if (16 : Int32) ≤ v2 then (some (.inr (L))) else (if v2 = 0 then (fX12_layNone_2b_24 v1 v2 (1 : Int64) (v1 + v2) L) else (fX12_layNone_2b_24 v1 v2 (0 : Int64) (v1 + v2) L))
set_option maxHeartbeats 4000000 in
set_option maxRecDepth 20000 in
theorem wX12_layNone_2b {X : ux_X} (C : ux_C X cX12_layNone RX12 3 none 0 0 shM) {v1 : Int32} {v2 : Int32}  {N : ux_N} {L : ux_L} {o : (Int32 × ux_L) ⊕ (ux_L)} (hin : ∀ s : Int32 × ux_L, o = .inl s → ux_Wt X 3 2 [(0, .ref (ux_ad X 0)), (1, .int v1), (2, .int s.1)] [] N s.2) (hex0 : ∀ e : ux_L, o = .inr (e) → ux_Wt X 3 31 [] [] N e) (h : fX12_layNone_2b v1 v2 L = some o) : ux_Wt X 3 2 [(0, .ref (ux_ad X 0)), (1, .int v1), (2, .int v2)] [] N L := by
  refine wt_iload_n 3 2 C dX12_layNone_2 rfl rfl ?_
  refine wt_bipush 5 16 C dX12_layNone_3 rfl (by decide) ?_
  refine wt_icmp_ge 8 31 C dX12_layNone_5 rfl (by decide) (fun q1 => ?_) (fun q1 => ?_)
  · have h := (if_pos q1).symm.trans h
    refine wt_sub [] rfl ?_
    exact hex0 _ (Option.some.inj h).symm
  · have h := (if_neg q1).symm.trans h
    refine wt_aload_n 9 0 C dX12_layNone_8 rfl rfl ?_
    refine wt_getR 12 C kfX12_54 sm_0 rfl dX12_layNone_9 rfl ?_
    refine wt_iload_n 13 1 C dX12_layNone_12 rfl rfl ?_
    refine wt_iload_n 14 2 C dX12_layNone_13 rfl rfl ?_
    refine wt_iadd 15 C dX12_layNone_14 rfl ?_
    refine wt_iload_n 16 2 C dX12_layNone_15 rfl rfl ?_
    refine wt_if_ne 19 23 C dX12_layNone_16 rfl (by decide) (fun q2 => ?_) (fun q2 => ?_)
    · have h := (if_neg q2).symm.trans h
      refine wt_lconst 24 0 C dX12_layNone_23 rfl (by decide) ?_
      exact wX12_layNone_2b_24 C hin hex0 h
    · have h := (if_pos q2).symm.trans h
      refine wt_lconst 20 1 C dX12_layNone_19 rfl (by decide) ?_
      refine wt_goto 24 C dX12_layNone_20 (by decide) ?_
      exact wX12_layNone_2b_24 C hin hex0 h
def fX12_layNone (v1 : Int32) (L : ux_L) : Option (ux_L) :=
  (ux_lp (fun s : Int32 × ux_L => fX12_layNone_2b v1 s.1 s.2) ux_fu ((0 : Int32), L)).bind (fun e8 => some e8)
set_option maxHeartbeats 4000000 in
set_option maxRecDepth 20000 in
theorem wX12_layNone {X : ux_X} (C : ux_C X cX12_layNone RX12 3 none 0 0 shM) {v1 : Int32}  {N : ux_N} {L : ux_L} {o : ux_L} (hq : ux_Qv X N o) (h : fX12_layNone v1 L = some o) : ux_Wt X 3 0 [(0, .ref (ux_ad X 0)), (1, .int v1)] [] N L := by
  refine wt_iconst 1 0 C dX12_layNone_0 rfl (by decide) ?_
  refine wt_istore_n 2 [(2, .int (0 : Int32)), (0, .ref (ux_ad X 0)), (1, .int v1)] C dX12_layNone_1 rfl (by decide) rfl ?_
  obtain ⟨e1, hl2, h⟩ := Option.bind_eq_some_iff.mp h
  refine wt_sub [1, 2, 0] rfl ?_
  refine ux_loop (fun s : Int32 × ux_L => fX12_layNone_2b v1 s.1 s.2) (fun s : Int32 × ux_L => ux_Wt X 3 2 [(0, .ref (ux_ad X 0)), (1, .int v1), (2, .int s.1)] [] N s.2) (e := e1) ?_ hl2
  intro s3 o4 hb5 hi6 hx7
  refine wX12_layNone_2b C hi6 (fun x0 he => ?_) hb5
  · obtain ⟨e8, rfl⟩ : ∃ z, z = x0 := ⟨_, rfl⟩
    have h9 := hx7 _ he
    subst h9
    cases h
    exact wt_vret C hq dX12_layNone_31
theorem mX12_layNone {l : Launch} {G : ux_G} (hok : ux_ok G shM) {v1 : Int32}  {N : ux_N} {L : ux_L} {o : ux_L} (h : fX12_layNone v1 L = some o) : ux_Mv l G yX12_layNone cX12_layNone 3 0 0 [.ref (gad G 0), .int v1] N L N o :=
  ux_ofv shM hok (by decide +kernel) (Nat.le_of_ble_eq_true rfl) (fun X hG hl C hq => by subst hG; subst hl; exact wX12_layNone C  hq h)
def fX12_layAll_31b (v1 : Int32) (v2 : Int32) (v3 : Int32) (N : ux_N) (L : ux_L) : Option ((Int32 × ux_L) ⊕ (ux_L)) :=
  if ((1 : Int32) <<< (v1 &&& 31)) ≤ v3 then (some (.inr (L))) else ((fX12_layMore ((16 : Int32) * v3) ((16 : Int32) * (v3 ||| ((1 : Int32) <<< (v1 &&& 31)))) v2 N L).bind (fun o2 => some (.inl ((v3 + 1), o2))))
set_option maxHeartbeats 4000000 in
set_option maxRecDepth 20000 in
theorem wX12_layAll_31b {X : ux_X} (C : ux_C X cX12_layAll RX12 4 none 5 117 shM) {v1 : Int32} {v2 : Int32} {v3 : Int32}  {N : ux_N} {L : ux_L} {o : (Int32 × ux_L) ⊕ (ux_L)} (hin : ∀ s : Int32 × ux_L, o = .inl s → ux_Wt X 4 31 [(0, .ref (ux_ad X 0)), (1, .int v1), (2, .int v2), (3, .int s.1)] [] N s.2) (hex0 : ∀ e : ux_L, o = .inr (e) → ux_Wt X 4 61 [(0, .ref (ux_ad X 0)), (1, .int v1)] [] N e) (h : fX12_layAll_31b v1 v2 v3 N L = some o) : ux_Wt X 4 31 [(0, .ref (ux_ad X 0)), (1, .int v1), (2, .int v2), (3, .int v3)] [] N L := by
  refine wt_iload_n 32 3 C dX12_layAll_31 rfl rfl ?_
  refine wt_iconst 33 1 C dX12_layAll_32 rfl (by decide) ?_
  refine wt_iload_n 34 1 C dX12_layAll_33 rfl rfl ?_
  refine wt_ishl 35 C dX12_layAll_34 rfl ?_
  refine wt_icmp_ge 38 61 C dX12_layAll_35 rfl (by decide) (fun q1 => ?_) (fun q1 => ?_)
  · have h := (if_pos q1).symm.trans h
    refine wt_sub [0, 1] rfl ?_
    exact hex0 _ (Option.some.inj h).symm
  · have h := (if_neg q1).symm.trans h
    refine wt_aload_n 39 0 C dX12_layAll_38 rfl rfl ?_
    refine wt_bipush 41 16 C dX12_layAll_39 rfl (by decide) ?_
    refine wt_iload_n 42 3 C dX12_layAll_41 rfl rfl ?_
    refine wt_imul 43 C dX12_layAll_42 rfl ?_
    refine wt_bipush 45 16 C dX12_layAll_43 rfl (by decide) ?_
    refine wt_iload_n 46 3 C dX12_layAll_45 rfl rfl ?_
    refine wt_iconst 47 1 C dX12_layAll_46 rfl (by decide) ?_
    refine wt_iload_n 48 1 C dX12_layAll_47 rfl rfl ?_
    refine wt_ishl 49 C dX12_layAll_48 rfl ?_
    refine wt_ior 50 C dX12_layAll_49 rfl ?_
    refine wt_imul 51 C dX12_layAll_50 rfl ?_
    refine wt_iload_n 52 2 C dX12_layAll_51 rfl rfl ?_
    obtain ⟨o2, hc3, h⟩ := Option.bind_eq_some_iff.mp h
    refine wt_callVv 55 [] C kvX12_213 sm_0 (mX12_layMore (cx_ok C)  hc3) rfl rfl ⟨Nat.le_of_ble_eq_true rfl, Nat.le_of_ble_eq_true rfl⟩ (Nat.le_of_ble_eq_true rfl) dX12_layAll_52 rfl ?_
    refine wt_iinc 58 3 [(3, .int (v3 + 1)), (0, .ref (ux_ad X 0)), (1, .int v1), (2, .int v2)] (v3 + 1) C dX12_layAll_55 rfl rfl (by rfl) (by decide) rfl ?_
    refine wt_goto 31 C dX12_layAll_58 (by decide) ?_
    refine wt_sub [1, 2, 3, 0] rfl ?_
    exact hin _ (Option.some.inj h).symm
def fX12_layAll_7b (v1 : Int32) (N : ux_N) (L : ux_L) : Option ((Int32 × ux_L) ⊕ (ux_L)) :=
  if (N 1 0) ≤ v1 then (some (.inr (L))) else ((fX12_mayOf v1 (N 1 2) N).bind (fun o2 => (ux_lp (fun s : Int32 × ux_L => fX12_layAll_31b v1 o2 s.1 N s.2) ux_fu ((0 : Int32), L)).bind (fun e11 => some (.inl ((v1 + 1), e11)))))
set_option maxHeartbeats 4000000 in
set_option maxRecDepth 20000 in
theorem wX12_layAll_7b {X : ux_X} (C : ux_C X cX12_layAll RX12 4 none 5 117 shM) {v1 : Int32}  {N : ux_N} {L : ux_L} {o : (Int32 × ux_L) ⊕ (ux_L)} (hin : ∀ s : Int32 × ux_L, o = .inl s → ux_Wt X 4 7 [(0, .ref (ux_ad X 0)), (1, .int s.1)] [] N s.2) (hex0 : ∀ e : ux_L, o = .inr (e) → ux_Wt X 4 67 [] [] N e) (h : fX12_layAll_7b v1 N L = some o) : ux_Wt X 4 7 [(0, .ref (ux_ad X 0)), (1, .int v1)] [] N L := by
  refine wt_iload_n 8 1 C dX12_layAll_7 rfl rfl ?_
  refine wt_aload_n 9 0 C dX12_layAll_8 rfl rfl ?_
  refine wt_getR 12 C kfX12_7 sm_0 rfl dX12_layAll_9 rfl ?_
  refine wt_iconst 13 0 C dX12_layAll_12 rfl (by decide) ?_
  refine wt_iald 14 0 C sm_1 (by decide) (by decide) dX12_layAll_13 rfl ?_
  refine wt_icmp_ge 17 67 C dX12_layAll_14 rfl (by decide) (fun q1 => ?_) (fun q1 => ?_)
  · have h := (if_pos q1).symm.trans h
    refine wt_sub [] rfl ?_
    exact hex0 _ (Option.some.inj h).symm
  · have h := (if_neg q1).symm.trans h
    refine wt_aload_n 18 0 C dX12_layAll_17 rfl rfl ?_
    refine wt_iload_n 19 1 C dX12_layAll_18 rfl rfl ?_
    refine wt_aload_n 20 0 C dX12_layAll_19 rfl rfl ?_
    refine wt_getR 23 C kfX12_7 sm_0 rfl dX12_layAll_20 rfl ?_
    refine wt_iconst 24 2 C dX12_layAll_23 rfl (by decide) ?_
    refine wt_iald 25 2 C sm_1 (by decide) (by decide) dX12_layAll_24 rfl ?_
    obtain ⟨o2, hc3, h⟩ := Option.bind_eq_some_iff.mp h
    refine wt_callVi 28 [] C kvX12_210 sm_0 (mX12_mayOf (cx_ok C)  hc3) rfl rfl ⟨Nat.le_of_ble_eq_true rfl, Nat.le_of_ble_eq_true rfl⟩ (Nat.le_of_ble_eq_true rfl) dX12_layAll_25 rfl ?_
    refine wt_istore_n 29 [(2, .int o2), (0, .ref (ux_ad X 0)), (1, .int v1)] C dX12_layAll_28 rfl (by decide) rfl ?_
    refine wt_iconst 30 0 C dX12_layAll_29 rfl (by decide) ?_
    refine wt_istore_n 31 [(3, .int (0 : Int32)), (2, .int o2), (0, .ref (ux_ad X 0)), (1, .int v1)] C dX12_layAll_30 rfl (by decide) rfl ?_
    obtain ⟨e4, hl5, h⟩ := Option.bind_eq_some_iff.mp h
    refine wt_sub [2, 3, 1, 0] rfl ?_
    refine ux_loop (fun s : Int32 × ux_L => fX12_layAll_31b v1 o2 s.1 N s.2) (fun s : Int32 × ux_L => ux_Wt X 4 31 [(0, .ref (ux_ad X 0)), (1, .int v1), (2, .int o2), (3, .int s.1)] [] N s.2) (e := e4) ?_ hl5
    intro s6 o7 hb8 hi9 hx10
    refine wX12_layAll_31b C hi9 (fun x0 he => ?_) hb8
    · obtain ⟨e11, rfl⟩ : ∃ z, z = x0 := ⟨_, rfl⟩
      have h9 := hx10 _ he
      subst h9
      refine wt_iinc 64 1 [(1, .int (v1 + 1)), (0, .ref (ux_ad X 0))] (v1 + 1) C dX12_layAll_61 rfl rfl (by rfl) (by decide) rfl ?_
      refine wt_goto 7 C dX12_layAll_64 (by decide) ?_
      refine wt_sub [1, 0] rfl ?_
      exact hin _ (Option.some.inj h).symm
def fX12_layAll (N : ux_N) (L : ux_L) : Option (ux_L) :=
  (fX12_layNone (0 : Int32) L).bind (fun o1 => (ux_lp (fun s : Int32 × ux_L => fX12_layAll_7b s.1 N s.2) ux_fu ((0 : Int32), o1)).bind (fun e10 => some e10))
set_option maxHeartbeats 4000000 in
set_option maxRecDepth 20000 in
theorem wX12_layAll {X : ux_X} (C : ux_C X cX12_layAll RX12 4 none 5 117 shM)   {N : ux_N} {L : ux_L} {o : ux_L} (hq : ux_Qv X N o) (h : fX12_layAll N L = some o) : ux_Wt X 4 0 [(0, .ref (ux_ad X 0))] [] N L := by
  refine wt_aload_n 1 0 C dX12_layAll_0 rfl rfl ?_
  refine wt_iconst 2 0 C dX12_layAll_1 rfl (by decide) ?_
  obtain ⟨o1, hc2, h⟩ := Option.bind_eq_some_iff.mp h
  refine wt_callVv 5 [] C kvX12_207 sm_0 (mX12_layNone (cx_ok C)  hc2) rfl rfl ⟨Nat.le_of_ble_eq_true rfl, Nat.le_of_ble_eq_true rfl⟩ (Nat.le_of_ble_eq_true rfl) dX12_layAll_2 rfl ?_
  refine wt_iconst 6 0 C dX12_layAll_5 rfl (by decide) ?_
  refine wt_istore_n 7 [(1, .int (0 : Int32)), (0, .ref (ux_ad X 0))] C dX12_layAll_6 rfl (by decide) rfl ?_
  obtain ⟨e3, hl4, h⟩ := Option.bind_eq_some_iff.mp h
  refine wt_sub [1, 0] rfl ?_
  refine ux_loop (fun s : Int32 × ux_L => fX12_layAll_7b s.1 N s.2) (fun s : Int32 × ux_L => ux_Wt X 4 7 [(0, .ref (ux_ad X 0)), (1, .int s.1)] [] N s.2) (e := e3) ?_ hl4
  intro s5 o6 hb7 hi8 hx9
  refine wX12_layAll_7b C hi8 (fun x0 he => ?_) hb7
  · obtain ⟨e10, rfl⟩ : ∃ z, z = x0 := ⟨_, rfl⟩
    have h9 := hx9 _ he
    subst h9
    cases h
    exact wt_vret C hq dX12_layAll_67
theorem mX12_layAll {l : Launch} {G : ux_G} (hok : ux_ok G shM)   {N : ux_N} {L : ux_L} {o : ux_L} (h : fX12_layAll N L = some o) : ux_Mv l G yX12_layAll cX12_layAll 4 5 117 [.ref (gad G 0)] N L N o :=
  ux_ofv shM hok (by decide +kernel) (Nat.le_of_ble_eq_true rfl) (fun X hG hl C hq => by subst hG; subst hl; exact wX12_layAll C  hq h)
def fX12_rankAt_9b (v1 : Int32) (v2 : Int32) (v3 : Int32) (L : ux_L) : Option ((Int32) ⊕ ((Unit) ⊕ (Unit))) :=
  if (16 : Int32) ≤ v3 then (some (.inr (.inr ()))) else (if ux_in (v1 + v3) 8224 then (if ux_in (((16 : Int32) * v2) + v3) 128 then (if (lg_cmp ((L 15 ((v1 + v3).toNatClampNeg)) &&& (L 13 ((((16 : Int32) * v2) + v3).toNatClampNeg))) (0 : Int64)) = 0 then (some (.inl (v3 + 1))) else (some (.inr (.inl ())))) else none) else none)
set_option maxHeartbeats 4000000 in
set_option maxRecDepth 20000 in
theorem wX12_rankAt_9b {X : ux_X} (C : ux_C X cX12_rankAt RX12 4 (some .int) 0 0 shM) {v1 : Int32} {v2 : Int32} {v3 : Int32}  {N : ux_N} {L : ux_L} {o : (Int32) ⊕ ((Unit) ⊕ (Unit))} (hin : ∀ s : Int32, o = .inl s → ux_Wt X 4 9 [(0, .ref (ux_ad X 0)), (1, .int v1), (2, .int v2), (3, .int s)] [] N L) (hex0 : ∀ e : Unit, o = .inr (.inl e) → ux_Wt X 4 40 [(2, .int v2)] [] N L) (hex1 : ∀ e : Unit, o = .inr (.inr e) → ux_Wt X 4 48 [(0, .ref (ux_ad X 0)), (1, .int v1), (2, .int v2)] [] N L) (h : fX12_rankAt_9b v1 v2 v3 L = some o) : ux_Wt X 4 9 [(0, .ref (ux_ad X 0)), (1, .int v1), (2, .int v2), (3, .int v3)] [] N L := by
  refine wt_iload_n 10 3 C dX12_rankAt_9 rfl rfl ?_
  refine wt_bipush 12 16 C dX12_rankAt_10 rfl (by decide) ?_
  refine wt_icmp_ge 15 48 C dX12_rankAt_12 rfl (by decide) (fun q1 => ?_) (fun q1 => ?_)
  · have h := (if_pos q1).symm.trans h
    refine wt_sub [0, 1, 2] rfl ?_
    exact hex1 _ (Option.some.inj h).symm
  · have h := (if_neg q1).symm.trans h
    refine wt_aload_n 16 0 C dX12_rankAt_15 rfl rfl ?_
    refine wt_getR 19 C kfX12_54 sm_0 rfl dX12_rankAt_16 rfl ?_
    refine wt_iload_n 20 1 C dX12_rankAt_19 rfl rfl ?_
    refine wt_iload_n 21 3 C dX12_rankAt_20 rfl rfl ?_
    refine wt_iadd 22 C dX12_rankAt_21 rfl ?_
    obtain ⟨hi2, h⟩ := ux_guard h
    refine wt_lald 23 ((v1 + v3).toNatClampNeg) C sm_15 rfl hi2 dX12_rankAt_22 rfl ?_
    refine wt_aload_n 24 0 C dX12_rankAt_23 rfl rfl ?_
    refine wt_getR 27 C kfX12_47 sm_0 rfl dX12_rankAt_24 rfl ?_
    refine wt_bipush 29 16 C dX12_rankAt_27 rfl (by decide) ?_
    refine wt_iload_n 30 2 C dX12_rankAt_29 rfl rfl ?_
    refine wt_imul 31 C dX12_rankAt_30 rfl ?_
    refine wt_iload_n 32 3 C dX12_rankAt_31 rfl rfl ?_
    refine wt_iadd 33 C dX12_rankAt_32 rfl ?_
    obtain ⟨hi3, h⟩ := ux_guard h
    refine wt_lald 34 ((((16 : Int32) * v2) + v3).toNatClampNeg) C sm_13 rfl hi3 dX12_rankAt_33 rfl ?_
    refine wt_land 35 C dX12_rankAt_34 rfl ?_
    refine wt_lconst 36 0 C dX12_rankAt_35 rfl (by decide) ?_
    refine wt_lcmp 37 C dX12_rankAt_36 rfl ?_
    refine wt_if_eq 40 42 C dX12_rankAt_37 rfl (by decide) (fun q4 => ?_) (fun q4 => ?_)
    · have h := (if_pos q4).symm.trans h
      refine wt_iinc 45 3 [(3, .int (v3 + 1)), (0, .ref (ux_ad X 0)), (1, .int v1), (2, .int v2)] (v3 + 1) C dX12_rankAt_42 rfl rfl (by rfl) (by decide) rfl ?_
      refine wt_goto 9 C dX12_rankAt_45 (by decide) ?_
      refine wt_sub [1, 2, 3, 0] rfl ?_
      exact hin _ (Option.some.inj h).symm
    · have h := (if_neg q4).symm.trans h
      refine wt_sub [2] rfl ?_
      exact hex0 _ (Option.some.inj h).symm
def fX12_rankAt_3b (v1 : Int32) (v2 : Int32) (L : ux_L) : Option ((Int32) ⊕ ((Int32) ⊕ (Unit))) :=
  if v2 ≤ 0 then (some (.inr (.inr ()))) else ((ux_lp (fun s : Int32 => fX12_rankAt_9b v1 v2 s L) ux_fu (0 : Int32)).bind (Sum.elim (fun e9 => some (.inr (.inl v2))) (fun e10 => some (.inl (v2 + (-1))))))
set_option maxHeartbeats 4000000 in
set_option maxRecDepth 20000 in
theorem wX12_rankAt_3b {X : ux_X} (C : ux_C X cX12_rankAt RX12 4 (some .int) 0 0 shM) {v1 : Int32} {v2 : Int32}  {N : ux_N} {L : ux_L} {o : (Int32) ⊕ ((Int32) ⊕ (Unit))} (hin : ∀ s : Int32, o = .inl s → ux_Wt X 4 3 [(0, .ref (ux_ad X 0)), (1, .int v1), (2, .int s)] [] N L) (hex0 : ∀ e : Int32, o = .inr (.inl e) → ux_Wt X 4 40 [(2, .int e)] [] N L) (hex1 : ∀ e : Unit, o = .inr (.inr e) → ux_Wt X 4 54 [] [] N L) (h : fX12_rankAt_3b v1 v2 L = some o) : ux_Wt X 4 3 [(0, .ref (ux_ad X 0)), (1, .int v1), (2, .int v2)] [] N L := by
  refine wt_iload_n 4 2 C dX12_rankAt_3 rfl rfl ?_
  refine wt_if_le 7 54 C dX12_rankAt_4 rfl (by decide) (fun q1 => ?_) (fun q1 => ?_)
  · have h := (if_pos q1).symm.trans h
    refine wt_sub [] rfl ?_
    exact hex1 _ (Option.some.inj h).symm
  · have h := (if_neg q1).symm.trans h
    refine wt_iconst 8 0 C dX12_rankAt_7 rfl (by decide) ?_
    refine wt_istore_n 9 [(3, .int (0 : Int32)), (0, .ref (ux_ad X 0)), (1, .int v1), (2, .int v2)] C dX12_rankAt_8 rfl (by decide) rfl ?_
    obtain ⟨e2, hl3, h⟩ := Option.bind_eq_some_iff.mp h
    refine wt_sub [1, 2, 3, 0] rfl ?_
    refine ux_loop (fun s : Int32 => fX12_rankAt_9b v1 v2 s L) (fun s : Int32 => ux_Wt X 4 9 [(0, .ref (ux_ad X 0)), (1, .int v1), (2, .int v2), (3, .int s)] [] N L) (e := e2) ?_ hl3
    intro s4 o5 hb6 hi7 hx8
    refine wX12_rankAt_9b C hi7 (fun x0 he => ?_) (fun x1 he => ?_) hb6
    · obtain ⟨e9, rfl⟩ : ∃ z, z = x0 := ⟨_, rfl⟩
      have h9 := hx8 _ he
      subst h9
      exact hex0 _ (Option.some.inj h).symm
    · obtain ⟨e10, rfl⟩ : ∃ z, z = x1 := ⟨_, rfl⟩
      have h9 := hx8 _ he
      subst h9
      refine wt_iinc 51 2 [(2, .int (v2 + (-1))), (0, .ref (ux_ad X 0)), (1, .int v1)] (v2 + (-1)) C dX12_rankAt_48 rfl rfl (by rfl) (by decide) rfl ?_
      refine wt_goto 3 C dX12_rankAt_51 (by decide) ?_
      refine wt_sub [1, 2, 0] rfl ?_
      exact hin _ (Option.some.inj h).symm
def fX12_rankAt (v1 : Int32) (L : ux_L) : Option (Int32) :=
  (ux_lp (fun s : Int32 => fX12_rankAt_3b v1 s L) ux_fu (7 : Int32)).bind (Sum.elim (fun e8 => some e8) (fun e9 => some (0 : Int32)))
set_option maxHeartbeats 4000000 in
set_option maxRecDepth 20000 in
theorem wX12_rankAt {X : ux_X} (C : ux_C X cX12_rankAt RX12 4 (some .int) 0 0 shM) {v1 : Int32}  {N : ux_N} {L : ux_L} {o : Int32} (hq : ux_Qi X o N L) (h : fX12_rankAt v1 L = some o) : ux_Wt X 4 0 [(0, .ref (ux_ad X 0)), (1, .int v1)] [] N L := by
  refine wt_bipush 2 7 C dX12_rankAt_0 rfl (by decide) ?_
  refine wt_istore_n 3 [(2, .int (7 : Int32)), (0, .ref (ux_ad X 0)), (1, .int v1)] C dX12_rankAt_2 rfl (by decide) rfl ?_
  obtain ⟨e1, hl2, h⟩ := Option.bind_eq_some_iff.mp h
  refine wt_sub [1, 2, 0] rfl ?_
  refine ux_loop (fun s : Int32 => fX12_rankAt_3b v1 s L) (fun s : Int32 => ux_Wt X 4 3 [(0, .ref (ux_ad X 0)), (1, .int v1), (2, .int s)] [] N L) (e := e1) ?_ hl2
  intro s3 o4 hb5 hi6 hx7
  refine wX12_rankAt_3b C hi6 (fun x0 he => ?_) (fun x1 he => ?_) hb5
  · obtain ⟨e8, rfl⟩ : ∃ z, z = x0 := ⟨_, rfl⟩
    have h9 := hx7 _ he
    subst h9
    refine wt_iload_n 41 0 C dX12_rankAt_40 rfl rfl ?_
    cases h
    exact wt_iret C hq dX12_rankAt_41
  · obtain ⟨e9, rfl⟩ : ∃ z, z = x1 := ⟨_, rfl⟩
    have h9 := hx7 _ he
    subst h9
    refine wt_iconst 55 0 C dX12_rankAt_54 rfl (by decide) ?_
    cases h
    exact wt_iret C hq dX12_rankAt_55
theorem mX12_rankAt {l : Launch} {G : ux_G} (hok : ux_ok G shM) {v1 : Int32}  {N : ux_N} {L : ux_L} {o : Int32} (h : fX12_rankAt v1 L = some o) : ux_Mi l G yX12_rankAt cX12_rankAt 4 (some .int) 0 0 [.ref (gad G 0), .int v1] N L o N L :=
  ux_ofi shM hok (by decide +kernel) (Nat.le_of_ble_eq_true rfl) (fun X hG hl C hq => by subst hG; subst hl; exact wX12_rankAt C  hq h)
