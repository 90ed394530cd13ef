theorem dX12_keepPast_0 : decode cX12_keepPast 0 = .ok (.iconst 0, 1) := by decide +kernel
theorem dX12_keepPast_1 : decode cX12_keepPast 1 = .ok (.istore_n 1, 1) := by decide +kernel
theorem dX12_keepPast_2 : decode cX12_keepPast 2 = .ok (.iload_n 1, 1) := by decide +kernel
theorem dX12_keepPast_3 : decode cX12_keepPast 3 = .ok (.sipush 147, 3) := by decide +kernel
theorem dX12_keepPast_6 : decode cX12_keepPast 6 = .ok (.if_icmp .ge 36, 3) := by decide +kernel
theorem dX12_keepPast_9 : decode cX12_keepPast 9 = .ok (.aload_n 0, 1) := by decide +kernel
theorem dX12_keepPast_10 : decode cX12_keepPast 10 = .ok (.getfield 176, 3) := by decide +kernel
theorem dX12_keepPast_13 : decode cX12_keepPast 13 = .ok (.bipush 8, 2) := by decide +kernel
theorem dX12_keepPast_15 : decode cX12_keepPast 15 = .ok (.if_icmp .ne 27, 3) := by decide +kernel
theorem dX12_keepPast_18 : decode cX12_keepPast 18 = .ok (.aload_n 0, 1) := by decide +kernel
theorem dX12_keepPast_19 : decode cX12_keepPast 19 = .ok (.getfield 7, 3) := by decide +kernel
theorem dX12_keepPast_22 : decode cX12_keepPast 22 = .ok (.bipush 21, 2) := by decide +kernel
theorem dX12_keepPast_24 : decode cX12_keepPast 24 = .ok (.iload_n 1, 1) := by decide +kernel
theorem dX12_keepPast_25 : decode cX12_keepPast 25 = .ok (.iadd, 1) := by decide +kernel
theorem dX12_keepPast_26 : decode cX12_keepPast 26 = .ok (.aload_n 0, 1) := by decide +kernel
theorem dX12_keepPast_27 : decode cX12_keepPast 27 = .ok (.getfield 7, 3) := by decide +kernel
theorem dX12_keepPast_30 : decode cX12_keepPast 30 = .ok (.bipush 42, 2) := by decide +kernel
theorem dX12_keepPast_32 : decode cX12_keepPast 32 = .ok (.iload_n 1, 1) := by decide +kernel
theorem dX12_keepPast_33 : decode cX12_keepPast 33 = .ok (.iadd, 1) := by decide +kernel
theorem dX12_keepPast_34 : decode cX12_keepPast 34 = .ok (.iaload, 1) := by decide +kernel
theorem dX12_keepPast_35 : decode cX12_keepPast 35 = .ok (.iastore, 1) := by decide +kernel
theorem dX12_keepPast_36 : decode cX12_keepPast 36 = .ok (.iinc 1 1, 3) := by decide +kernel
theorem dX12_keepPast_39 : decode cX12_keepPast 39 = .ok (.goto (-37), 3) := by decide +kernel
theorem dX12_keepPast_42 : decode cX12_keepPast 42 = .ok (.aload_n 0, 1) := by decide +kernel
theorem dX12_keepPast_43 : decode cX12_keepPast 43 = .ok (.dup, 1) := by decide +kernel
theorem dX12_keepPast_44 : decode cX12_keepPast 44 = .ok (.getfield 176, 3) := by decide +kernel
theorem dX12_keepPast_47 : decode cX12_keepPast 47 = .ok (.aload_n 0, 1) := by decide +kernel
theorem dX12_keepPast_48 : decode cX12_keepPast 48 = .ok (.getfield 176, 3) := by decide +kernel
theorem dX12_keepPast_51 : decode cX12_keepPast 51 = .ok (.bipush 8, 2) := by decide +kernel
theorem dX12_keepPast_53 : decode cX12_keepPast 53 = .ok (.if_icmp .ne 7, 3) := by decide +kernel
theorem dX12_keepPast_56 : decode cX12_keepPast 56 = .ok (.iconst 1, 1) := by decide +kernel
theorem dX12_keepPast_57 : decode cX12_keepPast 57 = .ok (.goto 4, 3) := by decide +kernel
theorem dX12_keepPast_60 : decode cX12_keepPast 60 = .ok (.iconst 0, 1) := by decide +kernel
theorem dX12_keepPast_61 : decode cX12_keepPast 61 = .ok (.isub, 1) := by decide +kernel
theorem dX12_keepPast_62 : decode cX12_keepPast 62 = .ok (.putfield 176, 3) := by decide +kernel
theorem dX12_keepPast_65 : decode cX12_keepPast 65 = .ok (.aload_n 0, 1) := by decide +kernel
theorem dX12_keepPast_66 : decode cX12_keepPast 66 = .ok (.iconst 0, 1) := by decide +kernel
theorem dX12_keepPast_67 : decode cX12_keepPast 67 = .ok (.bipush 21, 2) := by decide +kernel
theorem dX12_keepPast_69 : decode cX12_keepPast 69 = .ok (.bipush 21, 2) := by decide +kernel
theorem dX12_keepPast_71 : decode cX12_keepPast 71 = .ok (.aload_n 0, 1) := by decide +kernel
theorem dX12_keepPast_72 : decode cX12_keepPast 72 = .ok (.getfield 176, 3) := by decide +kernel
theorem dX12_keepPast_75 : decode cX12_keepPast 75 = .ok (.imul, 1) := by decide +kernel
theorem dX12_keepPast_76 : decode cX12_keepPast 76 = .ok (.iadd, 1) := by decide +kernel
theorem dX12_keepPast_77 : decode cX12_keepPast 77 = .ok (.invokevirtual 173, 3) := by decide +kernel
theorem dX12_keepPast_80 : decode cX12_keepPast 80 = .ok (.aload_n 0, 1) := by decide +kernel
theorem dX12_keepPast_81 : decode cX12_keepPast 81 = .ok (.dup, 1) := by decide +kernel
theorem dX12_keepPast_82 : decode cX12_keepPast 82 = .ok (.getfield 176, 3) := by decide +kernel
theorem dX12_keepPast_85 : decode cX12_keepPast 85 = .ok (.iconst 1, 1) := by decide +kernel
theorem dX12_keepPast_86 : decode cX12_keepPast 86 = .ok (.iadd, 1) := by decide +kernel
theorem dX12_keepPast_87 : decode cX12_keepPast 87 = .ok (.putfield 176, 3) := by decide +kernel
theorem dX12_keepPast_90 : decode cX12_keepPast 90 = .ok (.return_, 1) := by decide +kernel
theorem dX12_put_0 : decode cX12_put 0 = .ok (.iload_n 1, 1) := by decide +kernel
theorem dX12_put_1 : decode cX12_put 1 = .ok (.i2l, 1) := by decide +kernel
theorem dX12_put_2 : decode cX12_put 2 = .ok (.lconst 0, 1) := by decide +kernel
theorem dX12_put_3 : decode cX12_put 3 = .ok (.ldc2_w 259, 3) := by decide +kernel
theorem dX12_put_6 : decode cX12_put 6 = .ok (.invokestatic 94, 3) := by decide +kernel
theorem dX12_put_9 : decode cX12_put 9 = .ok (.ifCond .ne 6, 3) := by decide +kernel
theorem dX12_put_12 : decode cX12_put 12 = .ok (.bipush (-3), 2) := by decide +kernel
theorem dX12_put_14 : decode cX12_put 14 = .ok (.ireturn, 1) := by decide +kernel
theorem dX12_put_15 : decode cX12_put 15 = .ok (.aload_n 0, 1) := by decide +kernel
theorem dX12_put_16 : decode cX12_put 16 = .ok (.iload_n 1, 1) := by decide +kernel
theorem dX12_put_17 : decode cX12_put 17 = .ok (.iload_n 2, 1) := by decide +kernel
theorem dX12_put_18 : decode cX12_put 18 = .ok (.invokevirtual 261, 3) := by decide +kernel
theorem dX12_put_21 : decode cX12_put 21 = .ok (.ifCond .ne 6, 3) := by decide +kernel
theorem dX12_put_24 : decode cX12_put 24 = .ok (.bipush (-2), 2) := by decide +kernel
theorem dX12_put_26 : decode cX12_put 26 = .ok (.ireturn, 1) := by decide +kernel
theorem dX12_put_27 : decode cX12_put 27 = .ok (.aload_n 0, 1) := by decide +kernel
theorem dX12_put_28 : decode cX12_put 28 = .ok (.getfield 7, 3) := by decide +kernel
theorem dX12_put_31 : decode cX12_put 31 = .ok (.iconst 0, 1) := by decide +kernel
theorem dX12_put_32 : decode cX12_put 32 = .ok (.iaload, 1) := by decide +kernel
theorem dX12_put_33 : decode cX12_put 33 = .ok (.bipush 9, 2) := by decide +kernel
theorem dX12_put_35 : decode cX12_put 35 = .ok (.if_icmp .ne 6, 3) := by decide +kernel
theorem dX12_put_38 : decode cX12_put 38 = .ok (.bipush (-5), 2) := by decide +kernel
theorem dX12_put_40 : decode cX12_put 40 = .ok (.ireturn, 1) := by decide +kernel
theorem dX12_put_41 : decode cX12_put 41 = .ok (.aload_n 0, 1) := by decide +kernel
theorem dX12_put_42 : decode cX12_put 42 = .ok (.invokevirtual 264, 3) := by decide +kernel
theorem dX12_put_45 : decode cX12_put 45 = .ok (.aload_n 0, 1) := by decide +kernel
theorem dX12_put_46 : decode cX12_put 46 = .ok (.getfield 7, 3) := by decide +kernel
theorem dX12_put_49 : decode cX12_put 49 = .ok (.iconst 1, 1) := by decide +kernel
theorem dX12_put_50 : decode cX12_put 50 = .ok (.dup2, 1) := by decide +kernel
theorem dX12_put_51 : decode cX12_put 51 = .ok (.iaload, 1) := by decide +kernel
theorem dX12_put_52 : decode cX12_put 52 = .ok (.iconst 1, 1) := by decide +kernel
theorem dX12_put_53 : decode cX12_put 53 = .ok (.aload_n 0, 1) := by decide +kernel
theorem dX12_put_54 : decode cX12_put 54 = .ok (.getfield 7, 3) := by decide +kernel
theorem dX12_put_57 : decode cX12_put 57 = .ok (.iconst 0, 1) := by decide +kernel
theorem dX12_put_58 : decode cX12_put 58 = .ok (.iaload, 1) := by decide +kernel
theorem dX12_put_59 : decode cX12_put 59 = .ok (.ishl, 1) := by decide +kernel
theorem dX12_put_60 : decode cX12_put 60 = .ok (.iconst (-1), 1) := by decide +kernel
theorem dX12_put_61 : decode cX12_put 61 = .ok (.ixor, 1) := by decide +kernel
theorem dX12_put_62 : decode cX12_put 62 = .ok (.iand, 1) := by decide +kernel
theorem dX12_put_63 : decode cX12_put 63 = .ok (.iastore, 1) := by decide +kernel
theorem dX12_put_64 : decode cX12_put 64 = .ok (.aload_n 0, 1) := by decide +kernel
theorem dX12_put_65 : decode cX12_put 65 = .ok (.iload_n 1, 1) := by decide +kernel
theorem dX12_put_66 : decode cX12_put 66 = .ok (.iload_n 2, 1) := by decide +kernel
theorem dX12_put_67 : decode cX12_put 67 = .ok (.invokevirtual 138, 3) := by decide +kernel
theorem dX12_put_70 : decode cX12_put 70 = .ok (.aload_n 0, 1) := by decide +kernel
theorem dX12_put_71 : decode cX12_put 71 = .ok (.getfield 7, 3) := by decide +kernel
theorem dX12_put_74 : decode cX12_put 74 = .ok (.iconst 0, 1) := by decide +kernel
theorem dX12_put_75 : decode cX12_put 75 = .ok (.iaload, 1) := by decide +kernel
theorem dX12_put_76 : decode cX12_put 76 = .ok (.iconst 1, 1) := by decide +kernel
theorem dX12_put_77 : decode cX12_put 77 = .ok (.isub, 1) := by decide +kernel
theorem dX12_put_78 : decode cX12_put 78 = .ok (.ireturn, 1) := by decide +kernel
theorem dX12_turn_0 : decode cX12_turn 0 = .ok (.aload_n 0, 1) := by decide +kernel
theorem dX12_turn_1 : decode cX12_turn 1 = .ok (.invokevirtual 264, 3) := by decide +kernel
theorem dX12_turn_4 : decode cX12_turn 4 = .ok (.aload_n 0, 1) := by decide +kernel
theorem dX12_turn_5 : decode cX12_turn 5 = .ok (.getfield 7, 3) := by decide +kernel
theorem dX12_turn_8 : decode cX12_turn 8 = .ok (.iload_n 1, 1) := by decide +kernel
theorem dX12_turn_9 : decode cX12_turn 9 = .ok (.dup2, 1) := by decide +kernel
theorem dX12_turn_10 : decode cX12_turn 10 = .ok (.iaload, 1) := by decide +kernel
theorem dX12_turn_11 : decode cX12_turn 11 = .ok (.iconst 1, 1) := by decide +kernel
theorem dX12_turn_12 : decode cX12_turn 12 = .ok (.iload_n 2, 1) := by decide +kernel
theorem dX12_turn_13 : decode cX12_turn 13 = .ok (.ishl, 1) := by decide +kernel
theorem dX12_turn_14 : decode cX12_turn 14 = .ok (.ixor, 1) := by decide +kernel
theorem dX12_turn_15 : decode cX12_turn 15 = .ok (.iastore, 1) := by decide +kernel
theorem dX12_turn_16 : decode cX12_turn 16 = .ok (.aload_n 0, 1) := by decide +kernel
theorem dX12_turn_17 : decode cX12_turn 17 = .ok (.invokevirtual 223, 3) := by decide +kernel
theorem dX12_turn_20 : decode cX12_turn 20 = .ok (.ireturn, 1) := by decide +kernel
theorem dX12_spoil_0 : decode cX12_spoil 0 = .ok (.aload_n 0, 1) := by decide +kernel
theorem dX12_spoil_1 : decode cX12_spoil 1 = .ok (.iload_n 1, 1) := by decide +kernel
theorem dX12_spoil_2 : decode cX12_spoil 2 = .ok (.invokevirtual 245, 3) := by decide +kernel
theorem dX12_spoil_5 : decode cX12_spoil 5 = .ok (.ifCond .ne 8, 3) := by decide +kernel
theorem dX12_spoil_8 : decode cX12_spoil 8 = .ok (.bipush (-2), 2) := by decide +kernel
theorem dX12_spoil_10 : decode cX12_spoil 10 = .ok (.goto 27, 3) := by decide +kernel
theorem dX12_spoil_13 : decode cX12_spoil 13 = .ok (.aload_n 0, 1) := by decide +kernel
theorem dX12_spoil_14 : decode cX12_spoil 14 = .ok (.getfield 7, 3) := by decide +kernel
theorem dX12_spoil_17 : decode cX12_spoil 17 = .ok (.iconst 1, 1) := by decide +kernel
theorem dX12_spoil_18 : decode cX12_spoil 18 = .ok (.iaload, 1) := by decide +kernel
theorem dX12_spoil_19 : decode cX12_spoil 19 = .ok (.iload_n 1, 1) := by decide +kernel
theorem dX12_spoil_20 : decode cX12_spoil 20 = .ok (.invokestatic 179, 3) := by decide +kernel
theorem dX12_spoil_23 : decode cX12_spoil 23 = .ok (.ifCond .eq 8, 3) := by decide +kernel
theorem dX12_spoil_26 : decode cX12_spoil 26 = .ok (.bipush (-4), 2) := by decide +kernel
theorem dX12_spoil_28 : decode cX12_spoil 28 = .ok (.goto 9, 3) := by decide +kernel
theorem dX12_spoil_31 : decode cX12_spoil 31 = .ok (.aload_n 0, 1) := by decide +kernel
theorem dX12_spoil_32 : decode cX12_spoil 32 = .ok (.iconst 1, 1) := by decide +kernel
theorem dX12_spoil_33 : decode cX12_spoil 33 = .ok (.iload_n 1, 1) := by decide +kernel
theorem dX12_spoil_34 : decode cX12_spoil 34 = .ok (.invokevirtual 267, 3) := by decide +kernel
theorem dX12_spoil_37 : decode cX12_spoil 37 = .ok (.ireturn, 1) := by decide +kernel
theorem dX12_mend_0 : decode cX12_mend 0 = .ok (.aload_n 0, 1) := by decide +kernel
theorem dX12_mend_1 : decode cX12_mend 1 = .ok (.iload_n 1, 1) := by decide +kernel
theorem dX12_mend_2 : decode cX12_mend 2 = .ok (.invokevirtual 245, 3) := by decide +kernel
theorem dX12_mend_5 : decode cX12_mend 5 = .ok (.ifCond .ne 8, 3) := by decide +kernel
theorem dX12_mend_8 : decode cX12_mend 8 = .ok (.bipush (-2), 2) := by decide +kernel
theorem dX12_mend_10 : decode cX12_mend 10 = .ok (.goto 27, 3) := by decide +kernel
theorem dX12_mend_13 : decode cX12_mend 13 = .ok (.aload_n 0, 1) := by decide +kernel
theorem dX12_mend_14 : decode cX12_mend 14 = .ok (.getfield 7, 3) := by decide +kernel
theorem dX12_mend_17 : decode cX12_mend 17 = .ok (.iconst 1, 1) := by decide +kernel
theorem dX12_mend_18 : decode cX12_mend 18 = .ok (.iaload, 1) := by decide +kernel
theorem dX12_mend_19 : decode cX12_mend 19 = .ok (.iload_n 1, 1) := by decide +kernel
theorem dX12_mend_20 : decode cX12_mend 20 = .ok (.invokestatic 179, 3) := by decide +kernel
theorem dX12_mend_23 : decode cX12_mend 23 = .ok (.ifCond .eq 12, 3) := by decide +kernel
theorem dX12_mend_26 : decode cX12_mend 26 = .ok (.aload_n 0, 1) := by decide +kernel
theorem dX12_mend_27 : decode cX12_mend 27 = .ok (.iconst 1, 1) := by decide +kernel
theorem dX12_mend_28 : decode cX12_mend 28 = .ok (.iload_n 1, 1) := by decide +kernel
theorem dX12_mend_29 : decode cX12_mend 29 = .ok (.invokevirtual 267, 3) := by decide +kernel
theorem dX12_mend_32 : decode cX12_mend 32 = .ok (.goto 5, 3) := by decide +kernel
theorem dX12_mend_35 : decode cX12_mend 35 = .ok (.bipush (-4), 2) := by decide +kernel
theorem dX12_mend_37 : decode cX12_mend 37 = .ok (.ireturn, 1) := by decide +kernel
theorem dX12_cut_0 : decode cX12_cut 0 = .ok (.aload_n 0, 1) := by decide +kernel
theorem dX12_cut_1 : decode cX12_cut 1 = .ok (.iload_n 1, 1) := by decide +kernel
theorem dX12_cut_2 : decode cX12_cut 2 = .ok (.invokevirtual 236, 3) := by decide +kernel
theorem dX12_cut_5 : decode cX12_cut 5 = .ok (.ifCond .ne 8, 3) := by decide +kernel
theorem dX12_cut_8 : decode cX12_cut 8 = .ok (.bipush (-2), 2) := by decide +kernel
theorem dX12_cut_10 : decode cX12_cut 10 = .ok (.goto 27, 3) := by decide +kernel
theorem dX12_cut_13 : decode cX12_cut 13 = .ok (.aload_n 0, 1) := by decide +kernel
theorem dX12_cut_14 : decode cX12_cut 14 = .ok (.getfield 7, 3) := by decide +kernel
theorem dX12_cut_17 : decode cX12_cut 17 = .ok (.iconst 2, 1) := by decide +kernel
theorem dX12_cut_18 : decode cX12_cut 18 = .ok (.iaload, 1) := by decide +kernel
theorem dX12_cut_19 : decode cX12_cut 19 = .ok (.iload_n 1, 1) := by decide +kernel
theorem dX12_cut_20 : decode cX12_cut 20 = .ok (.invokestatic 179, 3) := by decide +kernel
theorem dX12_cut_23 : decode cX12_cut 23 = .ok (.ifCond .eq 8, 3) := by decide +kernel
theorem dX12_cut_26 : decode cX12_cut 26 = .ok (.bipush (-4), 2) := by decide +kernel
theorem dX12_cut_28 : decode cX12_cut 28 = .ok (.goto 9, 3) := by decide +kernel
theorem dX12_cut_31 : decode cX12_cut 31 = .ok (.aload_n 0, 1) := by decide +kernel
theorem dX12_cut_32 : decode cX12_cut 32 = .ok (.iconst 2, 1) := by decide +kernel
theorem dX12_cut_33 : decode cX12_cut 33 = .ok (.iload_n 1, 1) := by decide +kernel
theorem dX12_cut_34 : decode cX12_cut 34 = .ok (.invokevirtual 267, 3) := by decide +kernel
theorem dX12_cut_37 : decode cX12_cut 37 = .ok (.ireturn, 1) := by decide +kernel
theorem dX12_undo_0 : decode cX12_undo 0 = .ok (.aload_n 0, 1) := by decide +kernel
theorem dX12_undo_1 : decode cX12_undo 1 = .ok (.getfield 176, 3) := by decide +kernel
theorem dX12_undo_4 : decode cX12_undo 4 = .ok (.ifCond .ne 6, 3) := by decide +kernel
theorem dX12_undo_7 : decode cX12_undo 7 = .ok (.bipush (-4), 2) := by decide +kernel
theorem dX12_undo_9 : decode cX12_undo 9 = .ok (.ireturn, 1) := by decide +kernel
theorem dX12_undo_10 : decode cX12_undo 10 = .ok (.aload_n 0, 1) := by decide +kernel
theorem dX12_undo_11 : decode cX12_undo 11 = .ok (.dup, 1) := by decide +kernel
theorem dX12_undo_12 : decode cX12_undo 12 = .ok (.getfield 176, 3) := by decide +kernel
theorem dX12_undo_15 : decode cX12_undo 15 = .ok (.iconst 1, 1) := by decide +kernel
theorem dX12_undo_16 : decode cX12_undo 16 = .ok (.isub, 1) := by decide +kernel
theorem dX12_undo_17 : decode cX12_undo 17 = .ok (.putfield 176, 3) := by decide +kernel
theorem dX12_undo_20 : decode cX12_undo 20 = .ok (.aload_n 0, 1) := by decide +kernel
theorem dX12_undo_21 : decode cX12_undo 21 = .ok (.bipush 21, 2) := by decide +kernel
theorem dX12_undo_23 : decode cX12_undo 23 = .ok (.bipush 21, 2) := by decide +kernel
theorem dX12_undo_25 : decode cX12_undo 25 = .ok (.aload_n 0, 1) := by decide +kernel
theorem dX12_undo_26 : decode cX12_undo 26 = .ok (.getfield 176, 3) := by decide +kernel
theorem dX12_undo_29 : decode cX12_undo 29 = .ok (.imul, 1) := by decide +kernel
theorem dX12_undo_30 : decode cX12_undo 30 = .ok (.iadd, 1) := by decide +kernel
theorem dX12_undo_31 : decode cX12_undo 31 = .ok (.iconst 0, 1) := by decide +kernel
theorem dX12_undo_32 : decode cX12_undo 32 = .ok (.invokevirtual 173, 3) := by decide +kernel
theorem dX12_undo_35 : decode cX12_undo 35 = .ok (.aload_n 0, 1) := by decide +kernel
theorem dX12_undo_36 : decode cX12_undo 36 = .ok (.getfield 176, 3) := by decide +kernel
theorem dX12_undo_39 : decode cX12_undo 39 = .ok (.ireturn, 1) := by decide +kernel
theorem dX12_keep_0 : decode cX12_keep 0 = .ok (.iload_n 1, 1) := by decide +kernel
theorem dX12_keep_1 : decode cX12_keep 1 = .ok (.i2l, 1) := by decide +kernel
theorem dX12_keep_2 : decode cX12_keep 2 = .ok (.lconst 0, 1) := by decide +kernel
theorem dX12_keep_3 : decode cX12_keep 3 = .ok (.lconst 1, 1) := by decide +kernel
theorem dX12_keep_4 : decode cX12_keep 4 = .ok (.invokestatic 94, 3) := by decide +kernel
theorem dX12_keep_7 : decode cX12_keep 7 = .ok (.ifCond .ne 6, 3) := by decide +kernel
theorem dX12_keep_10 : decode cX12_keep 10 = .ok (.bipush (-2), 2) := by decide +kernel
theorem dX12_keep_12 : decode cX12_keep 12 = .ok (.ireturn, 1) := by decide +kernel
theorem dX12_keep_13 : decode cX12_keep 13 = .ok (.aload_n 0, 1) := by decide +kernel
theorem dX12_keep_14 : decode cX12_keep 14 = .ok (.iconst 0, 1) := by decide +kernel
theorem dX12_keep_15 : decode cX12_keep 15 = .ok (.sipush 189, 3) := by decide +kernel
theorem dX12_keep_18 : decode cX12_keep 18 = .ok (.bipush 21, 2) := by decide +kernel
theorem dX12_keep_20 : decode cX12_keep 20 = .ok (.iload_n 1, 1) := by decide +kernel
theorem dX12_keep_21 : decode cX12_keep 21 = .ok (.imul, 1) := by decide +kernel
theorem dX12_keep_22 : decode cX12_keep 22 = .ok (.iadd, 1) := by decide +kernel
theorem dX12_keep_23 : decode cX12_keep 23 = .ok (.invokevirtual 173, 3) := by decide +kernel
theorem dX12_keep_26 : decode cX12_keep 26 = .ok (.aload_n 0, 1) := by decide +kernel
theorem dX12_keep_27 : decode cX12_keep 27 = .ok (.getfield 19, 3) := by decide +kernel
theorem dX12_keep_30 : decode cX12_keep 30 = .ok (.iload_n 1, 1) := by decide +kernel
theorem dX12_keep_31 : decode cX12_keep 31 = .ok (.iconst 1, 1) := by decide +kernel
theorem dX12_keep_32 : decode cX12_keep 32 = .ok (.bastore, 1) := by decide +kernel
theorem dX12_keep_33 : decode cX12_keep 33 = .ok (.aload_n 0, 1) := by decide +kernel
theorem dX12_keep_34 : decode cX12_keep 34 = .ok (.invokevirtual 223, 3) := by decide +kernel
theorem dX12_keep_37 : decode cX12_keep 37 = .ok (.ireturn, 1) := by decide +kernel
theorem dX12_back_0 : decode cX12_back 0 = .ok (.iload_n 1, 1) := by decide +kernel
theorem dX12_back_1 : decode cX12_back 1 = .ok (.i2l, 1) := by decide +kernel
theorem dX12_back_2 : decode cX12_back 2 = .ok (.lconst 0, 1) := by decide +kernel
theorem dX12_back_3 : decode cX12_back 3 = .ok (.lconst 1, 1) := by decide +kernel
theorem dX12_back_4 : decode cX12_back 4 = .ok (.invokestatic 94, 3) := by decide +kernel
theorem dX12_back_7 : decode cX12_back 7 = .ok (.ifCond .ne 6, 3) := by decide +kernel
theorem dX12_back_10 : decode cX12_back 10 = .ok (.bipush (-2), 2) := by decide +kernel
theorem dX12_back_12 : decode cX12_back 12 = .ok (.ireturn, 1) := by decide +kernel
theorem dX12_back_13 : decode cX12_back 13 = .ok (.aload_n 0, 1) := by decide +kernel
theorem dX12_back_14 : decode cX12_back 14 = .ok (.getfield 19, 3) := by decide +kernel
theorem dX12_back_17 : decode cX12_back 17 = .ok (.iload_n 1, 1) := by decide +kernel
theorem dX12_back_18 : decode cX12_back 18 = .ok (.baload, 1) := by decide +kernel
theorem dX12_back_19 : decode cX12_back 19 = .ok (.ifCond .ne 6, 3) := by decide +kernel
theorem dX12_back_22 : decode cX12_back 22 = .ok (.bipush (-4), 2) := by decide +kernel
theorem dX12_back_24 : decode cX12_back 24 = .ok (.ireturn, 1) := by decide +kernel
theorem dX12_back_25 : decode cX12_back 25 = .ok (.aload_n 0, 1) := by decide +kernel
theorem dX12_back_26 : decode cX12_back 26 = .ok (.sipush 189, 3) := by decide +kernel
theorem dX12_back_29 : decode cX12_back 29 = .ok (.bipush 21, 2) := by decide +kernel
theorem dX12_back_31 : decode cX12_back 31 = .ok (.iload_n 1, 1) := by decide +kernel
theorem dX12_back_32 : decode cX12_back 32 = .ok (.imul, 1) := by decide +kernel
theorem dX12_back_33 : decode cX12_back 33 = .ok (.iadd, 1) := by decide +kernel
theorem dX12_back_34 : decode cX12_back 34 = .ok (.iconst 0, 1) := by decide +kernel
theorem dX12_back_35 : decode cX12_back 35 = .ok (.invokevirtual 173, 3) := by decide +kernel
theorem dX12_back_38 : decode cX12_back 38 = .ok (.aload_n 0, 1) := by decide +kernel
theorem dX12_back_39 : decode cX12_back 39 = .ok (.iconst 0, 1) := by decide +kernel
theorem dX12_back_40 : decode cX12_back 40 = .ok (.putfield 176, 3) := by decide +kernel
theorem dX12_back_43 : decode cX12_back 43 = .ok (.aload_n 0, 1) := by decide +kernel
theorem dX12_back_44 : decode cX12_back 44 = .ok (.invokevirtual 223, 3) := by decide +kernel
theorem dX12_back_47 : decode cX12_back 47 = .ok (.ireturn, 1) := by decide +kernel
theorem dX12_island_0 : decode cX12_island 0 = .ok (.aload_n 0, 1) := by decide +kernel
theorem dX12_island_1 : decode cX12_island 1 = .ok (.iload_n 1, 1) := by decide +kernel
theorem dX12_island_2 : decode cX12_island 2 = .ok (.invokevirtual 239, 3) := by decide +kernel
theorem dX12_island_5 : decode cX12_island 5 = .ok (.ifCond .ne 6, 3) := by decide +kernel
theorem dX12_island_8 : decode cX12_island 8 = .ok (.bipush (-2), 2) := by decide +kernel
theorem dX12_island_10 : decode cX12_island 10 = .ok (.ireturn, 1) := by decide +kernel
theorem dX12_island_11 : decode cX12_island 11 = .ok (.aload_n 0, 1) := by decide +kernel
theorem dX12_island_12 : decode cX12_island 12 = .ok (.aload_n 0, 1) := by decide +kernel
theorem dX12_island_13 : decode cX12_island 13 = .ok (.invokevirtual 226, 3) := by decide +kernel
theorem dX12_island_16 : decode cX12_island 16 = .ok (.invokevirtual 187, 3) := by decide +kernel
theorem dX12_island_19 : decode cX12_island 19 = .ok (.pop, 1) := by decide +kernel
theorem dX12_island_20 : decode cX12_island 20 = .ok (.iconst 0, 1) := by decide +kernel
theorem dX12_island_21 : decode cX12_island 21 = .ok (.istore_n 2, 1) := by decide +kernel
theorem dX12_island_22 : decode cX12_island 22 = .ok (.iconst 0, 1) := by decide +kernel
theorem dX12_island_23 : decode cX12_island 23 = .ok (.istore_n 3, 1) := by decide +kernel
theorem dX12_island_24 : decode cX12_island 24 = .ok (.iload_n 3, 1) := by decide +kernel
theorem dX12_island_25 : decode cX12_island 25 = .ok (.aload_n 0, 1) := by decide +kernel
theorem dX12_island_26 : decode cX12_island 26 = .ok (.getfield 82, 3) := by decide +kernel
theorem dX12_island_29 : decode cX12_island 29 = .ok (.if_icmp .ge 34, 3) := by decide +kernel
theorem dX12_island_32 : decode cX12_island 32 = .ok (.iload_n 2, 1) := by decide +kernel
theorem dX12_island_33 : decode cX12_island 33 = .ok (.aload_n 0, 1) := by decide +kernel
theorem dX12_island_34 : decode cX12_island 34 = .ok (.getfield 51, 3) := by decide +kernel
theorem dX12_island_37 : decode cX12_island 37 = .ok (.iload_n 3, 1) := by decide +kernel
theorem dX12_island_38 : decode cX12_island 38 = .ok (.iaload, 1) := by decide +kernel
theorem dX12_island_39 : decode cX12_island 39 = .ok (.aload_n 0, 1) := by decide +kernel
theorem dX12_island_40 : decode cX12_island 40 = .ok (.getfield 51, 3) := by decide +kernel
theorem dX12_island_43 : decode cX12_island 43 = .ok (.iload_n 1, 1) := by decide +kernel
theorem dX12_island_44 : decode cX12_island 44 = .ok (.iaload, 1) := by decide +kernel
theorem dX12_island_45 : decode cX12_island 45 = .ok (.if_icmp .ne 9, 3) := by decide +kernel
theorem dX12_island_48 : decode cX12_island 48 = .ok (.iconst 1, 1) := by decide +kernel
theorem dX12_island_49 : decode cX12_island 49 = .ok (.iload_n 3, 1) := by decide +kernel
theorem dX12_island_50 : decode cX12_island 50 = .ok (.ishl, 1) := by decide +kernel
theorem dX12_island_51 : decode cX12_island 51 = .ok (.goto 4, 3) := by decide +kernel
theorem dX12_island_54 : decode cX12_island 54 = .ok (.iconst 0, 1) := by decide +kernel
theorem dX12_island_55 : decode cX12_island 55 = .ok (.ior, 1) := by decide +kernel
theorem dX12_island_56 : decode cX12_island 56 = .ok (.istore_n 2, 1) := by decide +kernel
theorem dX12_island_57 : decode cX12_island 57 = .ok (.iinc 3 1, 3) := by decide +kernel
theorem dX12_island_60 : decode cX12_island 60 = .ok (.goto (-36), 3) := by decide +kernel
theorem dX12_island_63 : decode cX12_island 63 = .ok (.iload_n 2, 1) := by decide +kernel
theorem dX12_island_64 : decode cX12_island 64 = .ok (.ireturn, 1) := by decide +kernel
theorem dX12_weak_0 : decode cX12_weak 0 = .ok (.iload_n 1, 1) := by decide +kernel
theorem dX12_weak_1 : decode cX12_weak 1 = .ok (.i2l, 1) := by decide +kernel
theorem dX12_weak_2 : decode cX12_weak 2 = .ok (.lconst 0, 1) := by decide +kernel
theorem dX12_weak_3 : decode cX12_weak 3 = .ok (.lconst 1, 1) := by decide +kernel
theorem dX12_weak_4 : decode cX12_weak 4 = .ok (.invokestatic 94, 3) := by decide +kernel
theorem dX12_weak_7 : decode cX12_weak 7 = .ok (.ifCond .ne 6, 3) := by decide +kernel
theorem dX12_weak_10 : decode cX12_weak 10 = .ok (.bipush (-3), 2) := by decide +kernel
theorem dX12_weak_12 : decode cX12_weak 12 = .ok (.ireturn, 1) := by decide +kernel
theorem dX12_weak_13 : decode cX12_weak 13 = .ok (.aload_n 0, 1) := by decide +kernel
theorem dX12_weak_14 : decode cX12_weak 14 = .ok (.invokevirtual 229, 3) := by decide +kernel
theorem dX12_weak_17 : decode cX12_weak 17 = .ok (.iconst 1, 1) := by decide +kernel
theorem dX12_weak_18 : decode cX12_weak 18 = .ok (.aload_n 0, 1) := by decide +kernel
theorem dX12_weak_19 : decode cX12_weak 19 = .ok (.getfield 7, 3) := by decide +kernel
theorem dX12_weak_22 : decode cX12_weak 22 = .ok (.iconst 0, 1) := by decide +kernel
theorem dX12_weak_23 : decode cX12_weak 23 = .ok (.iaload, 1) := by decide +kernel
theorem dX12_weak_24 : decode cX12_weak 24 = .ok (.ishl, 1) := by decide +kernel
theorem dX12_weak_25 : decode cX12_weak 25 = .ok (.iconst 1, 1) := by decide +kernel
theorem dX12_weak_26 : decode cX12_weak 26 = .ok (.isub, 1) := by decide +kernel
theorem dX12_weak_27 : decode cX12_weak 27 = .ok (.istore_n 2, 1) := by decide +kernel
theorem dX12_weak_28 : decode cX12_weak 28 = .ok (.aload_n 0, 1) := by decide +kernel
theorem dX12_weak_29 : decode cX12_weak 29 = .ok (.bipush 16, 2) := by decide +kernel
theorem dX12_weak_31 : decode cX12_weak 31 = .ok (.iload_n 2, 1) := by decide +kernel
theorem dX12_weak_32 : decode cX12_weak 32 = .ok (.imul, 1) := by decide +kernel
theorem dX12_weak_33 : decode cX12_weak 33 = .ok (.invokevirtual 217, 3) := by decide +kernel
theorem dX12_weak_36 : decode cX12_weak 36 = .ok (.istore_n 3, 1) := by decide +kernel
theorem dX12_weak_37 : decode cX12_weak 37 = .ok (.iconst (-1), 1) := by decide +kernel
theorem dX12_weak_38 : decode cX12_weak 38 = .ok (.istore 4, 2) := by decide +kernel
theorem dX12_weak_40 : decode cX12_weak 40 = .ok (.iconst 1, 1) := by decide +kernel
theorem dX12_weak_41 : decode cX12_weak 41 = .ok (.istore 5, 2) := by decide +kernel
theorem dX12_weak_43 : decode cX12_weak 43 = .ok (.iload 5, 2) := by decide +kernel
theorem dX12_weak_45 : decode cX12_weak 45 = .ok (.iload_n 2, 1) := by decide +kernel
theorem dX12_weak_46 : decode cX12_weak 46 = .ok (.if_icmp .gt 73, 3) := by decide +kernel
theorem dX12_weak_49 : decode cX12_weak 49 = .ok (.iload 5, 2) := by decide +kernel
theorem dX12_weak_51 : decode cX12_weak 51 = .ok (.aload_n 0, 1) := by decide +kernel
theorem dX12_weak_52 : decode cX12_weak 52 = .ok (.getfield 7, 3) := by decide +kernel
theorem dX12_weak_55 : decode cX12_weak 55 = .ok (.iconst 1, 1) := by decide +kernel
theorem dX12_weak_56 : decode cX12_weak 56 = .ok (.iaload, 1) := by decide +kernel
theorem dX12_weak_57 : decode cX12_weak 57 = .ok (.iand, 1) := by decide +kernel
theorem dX12_weak_58 : decode cX12_weak 58 = .ok (.ifCond .ne 26, 3) := by decide +kernel
theorem dX12_weak_61 : decode cX12_weak 61 = .ok (.iload 4, 2) := by decide +kernel
theorem dX12_weak_63 : decode cX12_weak 63 = .ok (.iconst (-1), 1) := by decide +kernel
theorem dX12_weak_64 : decode cX12_weak 64 = .ok (.if_icmp .eq 16, 3) := by decide +kernel
theorem dX12_weak_67 : decode cX12_weak 67 = .ok (.iload 5, 2) := by decide +kernel
theorem dX12_weak_69 : decode cX12_weak 69 = .ok (.invokestatic 183, 3) := by decide +kernel
theorem dX12_weak_72 : decode cX12_weak 72 = .ok (.iload 4, 2) := by decide +kernel
theorem dX12_weak_74 : decode cX12_weak 74 = .ok (.invokestatic 183, 3) := by decide +kernel
theorem dX12_weak_77 : decode cX12_weak 77 = .ok (.if_icmp .ge 7, 3) := by decide +kernel
theorem dX12_weak_80 : decode cX12_weak 80 = .ok (.iconst 1, 1) := by decide +kernel
theorem dX12_weak_81 : decode cX12_weak 81 = .ok (.goto 4, 3) := by decide +kernel
theorem dX12_weak_84 : decode cX12_weak 84 = .ok (.iconst 0, 1) := by decide +kernel
theorem dX12_weak_85 : decode cX12_weak 85 = .ok (.istore 6, 2) := by decide +kernel
theorem dX12_weak_87 : decode cX12_weak 87 = .ok (.iload 6, 2) := by decide +kernel
theorem dX12_weak_89 : decode cX12_weak 89 = .ok (.ifCond .eq 24, 3) := by decide +kernel
theorem dX12_weak_92 : decode cX12_weak 92 = .ok (.aload_n 0, 1) := by decide +kernel
theorem dX12_weak_93 : decode cX12_weak 93 = .ok (.bipush 16, 2) := by decide +kernel
theorem dX12_weak_95 : decode cX12_weak 95 = .ok (.iload_n 2, 1) := by decide +kernel
theorem dX12_weak_96 : decode cX12_weak 96 = .ok (.iload 5, 2) := by decide +kernel
theorem dX12_weak_98 : decode cX12_weak 98 = .ok (.iconst (-1), 1) := by decide +kernel
theorem dX12_weak_99 : decode cX12_weak 99 = .ok (.ixor, 1) := by decide +kernel
theorem dX12_weak_100 : decode cX12_weak 100 = .ok (.iand, 1) := by decide +kernel
theorem dX12_weak_101 : decode cX12_weak 101 = .ok (.imul, 1) := by decide +kernel
theorem dX12_weak_102 : decode cX12_weak 102 = .ok (.invokevirtual 217, 3) := by decide +kernel
theorem dX12_weak_105 : decode cX12_weak 105 = .ok (.iload_n 3, 1) := by decide +kernel
theorem dX12_weak_106 : decode cX12_weak 106 = .ok (.if_icmp .ge 7, 3) := by decide +kernel
theorem dX12_weak_109 : decode cX12_weak 109 = .ok (.iload 5, 2) := by decide +kernel
theorem dX12_weak_111 : decode cX12_weak 111 = .ok (.istore 4, 2) := by decide +kernel
theorem dX12_weak_113 : decode cX12_weak 113 = .ok (.iinc 5 1, 3) := by decide +kernel
theorem dX12_weak_116 : decode cX12_weak 116 = .ok (.goto (-73), 3) := by decide +kernel
theorem dX12_weak_119 : decode cX12_weak 119 = .ok (.iload_n 1, 1) := by decide +kernel
theorem dX12_weak_120 : decode cX12_weak 120 = .ok (.ifCond .eq 9, 3) := by decide +kernel
theorem dX12_weak_123 : decode cX12_weak 123 = .ok (.iload 4, 2) := by decide +kernel
theorem dX12_weak_125 : decode cX12_weak 125 = .ok (.iconst (-1), 1) := by decide +kernel
theorem dX12_weak_126 : decode cX12_weak 126 = .ok (.if_icmp .ne 8, 3) := by decide +kernel
theorem dX12_weak_129 : decode cX12_weak 129 = .ok (.iload 4, 2) := by decide +kernel
theorem dX12_weak_131 : decode cX12_weak 131 = .ok (.goto 8, 3) := by decide +kernel
theorem dX12_weak_134 : decode cX12_weak 134 = .ok (.iload 4, 2) := by decide +kernel
theorem dX12_weak_136 : decode cX12_weak 136 = .ok (.invokestatic 183, 3) := by decide +kernel
theorem dX12_weak_139 : decode cX12_weak 139 = .ok (.ireturn, 1) := by decide +kernel
theorem dX12_wholeRank_0 : decode cX12_wholeRank 0 = .ok (.aload_n 0, 1) := by decide +kernel
theorem dX12_wholeRank_1 : decode cX12_wholeRank 1 = .ok (.getfield 82, 3) := by decide +kernel
theorem dX12_wholeRank_4 : decode cX12_wholeRank 4 = .ok (.aload_n 0, 1) := by decide +kernel
theorem dX12_wholeRank_5 : decode cX12_wholeRank 5 = .ok (.iconst 1, 1) := by decide +kernel
theorem dX12_wholeRank_6 : decode cX12_wholeRank 6 = .ok (.aload_n 0, 1) := by decide +kernel
theorem dX12_wholeRank_7 : decode cX12_wholeRank 7 = .ok (.getfield 86, 3) := by decide +kernel
theorem dX12_wholeRank_10 : decode cX12_wholeRank 10 = .ok (.ishl, 1) := by decide +kernel
theorem dX12_wholeRank_11 : decode cX12_wholeRank 11 = .ok (.iconst 1, 1) := by decide +kernel
theorem dX12_wholeRank_12 : decode cX12_wholeRank 12 = .ok (.isub, 1) := by decide +kernel
theorem dX12_wholeRank_13 : decode cX12_wholeRank 13 = .ok (.aload_n 0, 1) := by decide +kernel
theorem dX12_wholeRank_14 : decode cX12_wholeRank 14 = .ok (.getfield 7, 3) := by decide +kernel
theorem dX12_wholeRank_17 : decode cX12_wholeRank 17 = .ok (.iconst 2, 1) := by decide +kernel
theorem dX12_wholeRank_18 : decode cX12_wholeRank 18 = .ok (.iaload, 1) := by decide +kernel
theorem dX12_wholeRank_19 : decode cX12_wholeRank 19 = .ok (.iconst (-1), 1) := by decide +kernel
theorem dX12_wholeRank_20 : decode cX12_wholeRank 20 = .ok (.ixor, 1) := by decide +kernel
theorem dX12_wholeRank_21 : decode cX12_wholeRank 21 = .ok (.iand, 1) := by decide +kernel
theorem dX12_wholeRank_22 : decode cX12_wholeRank 22 = .ok (.invokevirtual 187, 3) := by decide +kernel
theorem dX12_wholeRank_25 : decode cX12_wholeRank 25 = .ok (.isub, 1) := by decide +kernel
theorem dX12_wholeRank_26 : decode cX12_wholeRank 26 = .ok (.ireturn, 1) := by decide +kernel
theorem dX12_costOf_0 : decode cX12_costOf 0 = .ok (.iconst 0, 1) := by decide +kernel
theorem dX12_costOf_1 : decode cX12_costOf 1 = .ok (.istore_n 2, 1) := by decide +kernel
theorem dX12_costOf_2 : decode cX12_costOf 2 = .ok (.iconst 0, 1) := by decide +kernel
theorem dX12_costOf_3 : decode cX12_costOf 3 = .ok (.istore_n 3, 1) := by decide +kernel
theorem dX12_costOf_4 : decode cX12_costOf 4 = .ok (.iload_n 3, 1) := by decide +kernel
theorem dX12_costOf_5 : decode cX12_costOf 5 = .ok (.aload_n 0, 1) := by decide +kernel
theorem dX12_costOf_6 : decode cX12_costOf 6 = .ok (.getfield 89, 3) := by decide +kernel
theorem dX12_costOf_9 : decode cX12_costOf 9 = .ok (.if_icmp .ge 34, 3) := by decide +kernel
theorem dX12_costOf_12 : decode cX12_costOf 12 = .ok (.iload_n 2, 1) := by decide +kernel
theorem dX12_costOf_13 : decode cX12_costOf 13 = .ok (.iload_n 1, 1) := by decide +kernel
theorem dX12_costOf_14 : decode cX12_costOf 14 = .ok (.iload_n 3, 1) := by decide +kernel
theorem dX12_costOf_15 : decode cX12_costOf 15 = .ok (.invokestatic 179, 3) := by decide +kernel
theorem dX12_costOf_18 : decode cX12_costOf 18 = .ok (.ifCond .eq 16, 3) := by decide +kernel
theorem dX12_costOf_21 : decode cX12_costOf 21 = .ok (.aload_n 0, 1) := by decide +kernel
theorem dX12_costOf_22 : decode cX12_costOf 22 = .ok (.getfield 16, 3) := by decide +kernel
theorem dX12_costOf_25 : decode cX12_costOf 25 = .ok (.iconst 3, 1) := by decide +kernel
theorem dX12_costOf_26 : decode cX12_costOf 26 = .ok (.iload_n 3, 1) := by decide +kernel
theorem dX12_costOf_27 : decode cX12_costOf 27 = .ok (.imul, 1) := by decide +kernel
theorem dX12_costOf_28 : decode cX12_costOf 28 = .ok (.iconst 2, 1) := by decide +kernel
theorem dX12_costOf_29 : decode cX12_costOf 29 = .ok (.iadd, 1) := by decide +kernel
theorem dX12_costOf_30 : decode cX12_costOf 30 = .ok (.iaload, 1) := by decide +kernel
theorem dX12_costOf_31 : decode cX12_costOf 31 = .ok (.goto 4, 3) := by decide +kernel
theorem dX12_costOf_34 : decode cX12_costOf 34 = .ok (.iconst 0, 1) := by decide +kernel
theorem dX12_costOf_35 : decode cX12_costOf 35 = .ok (.iadd, 1) := by decide +kernel
theorem dX12_costOf_36 : decode cX12_costOf 36 = .ok (.istore_n 2, 1) := by decide +kernel
theorem dX12_costOf_37 : decode cX12_costOf 37 = .ok (.iinc 3 1, 3) := by decide +kernel
theorem dX12_costOf_40 : decode cX12_costOf 40 = .ok (.goto (-36), 3) := by decide +kernel
theorem dX12_costOf_43 : decode cX12_costOf 43 = .ok (.iload_n 2, 1) := by decide +kernel
theorem dX12_costOf_44 : decode cX12_costOf 44 = .ok (.ireturn, 1) := by decide +kernel
theorem dX12_isWhole_0 : decode cX12_isWhole 0 = .ok (.aload_n 0, 1) := by decide +kernel
theorem dX12_isWhole_1 : decode cX12_isWhole 1 = .ok (.invokevirtual 223, 3) := by decide +kernel
theorem dX12_isWhole_4 : decode cX12_isWhole 4 = .ok (.pop, 1) := by decide +kernel
theorem dX12_isWhole_5 : decode cX12_isWhole 5 = .ok (.iconst 0, 1) := by decide +kernel
theorem dX12_isWhole_6 : decode cX12_isWhole 6 = .ok (.istore_n 3, 1) := by decide +kernel
theorem dX12_isWhole_7 : decode cX12_isWhole 7 = .ok (.iload_n 3, 1) := by decide +kernel
theorem dX12_isWhole_8 : decode cX12_isWhole 8 = .ok (.aload_n 0, 1) := by decide +kernel
theorem dX12_isWhole_9 : decode cX12_isWhole 9 = .ok (.getfield 89, 3) := by decide +kernel
theorem dX12_isWhole_12 : decode cX12_isWhole 12 = .ok (.if_icmp .ge 93, 3) := by decide +kernel
theorem dX12_isWhole_15 : decode cX12_isWhole 15 = .ok (.iload_n 1, 1) := by decide +kernel
theorem dX12_isWhole_16 : decode cX12_isWhole 16 = .ok (.iload_n 3, 1) := by decide +kernel
theorem dX12_isWhole_17 : decode cX12_isWhole 17 = .ok (.invokestatic 179, 3) := by decide +kernel
theorem dX12_isWhole_20 : decode cX12_isWhole 20 = .ok (.ifCond .eq 79, 3) := by decide +kernel
theorem dX12_isWhole_23 : decode cX12_isWhole 23 = .ok (.aload_n 0, 1) := by decide +kernel
theorem dX12_isWhole_24 : decode cX12_isWhole 24 = .ok (.sipush 8192, 3) := by decide +kernel
theorem dX12_isWhole_27 : decode cX12_isWhole 27 = .ok (.sipush 8208, 3) := by decide +kernel
theorem dX12_isWhole_30 : decode cX12_isWhole 30 = .ok (.aload_n 0, 1) := by decide +kernel
theorem dX12_isWhole_31 : decode cX12_isWhole 31 = .ok (.aload_n 0, 1) := by decide +kernel
theorem dX12_isWhole_32 : decode cX12_isWhole 32 = .ok (.getfield 16, 3) := by decide +kernel
theorem dX12_isWhole_35 : decode cX12_isWhole 35 = .ok (.iconst 3, 1) := by decide +kernel
theorem dX12_isWhole_36 : decode cX12_isWhole 36 = .ok (.iload_n 3, 1) := by decide +kernel
theorem dX12_isWhole_37 : decode cX12_isWhole 37 = .ok (.imul, 1) := by decide +kernel
theorem dX12_isWhole_38 : decode cX12_isWhole 38 = .ok (.iaload, 1) := by decide +kernel
theorem dX12_isWhole_39 : decode cX12_isWhole 39 = .ok (.aload_n 0, 1) := by decide +kernel
theorem dX12_isWhole_40 : decode cX12_isWhole 40 = .ok (.getfield 16, 3) := by decide +kernel
theorem dX12_isWhole_43 : decode cX12_isWhole 43 = .ok (.iconst 3, 1) := by decide +kernel
theorem dX12_isWhole_44 : decode cX12_isWhole 44 = .ok (.iload_n 3, 1) := by decide +kernel
theorem dX12_isWhole_45 : decode cX12_isWhole 45 = .ok (.imul, 1) := by decide +kernel
theorem dX12_isWhole_46 : decode cX12_isWhole 46 = .ok (.iconst 1, 1) := by decide +kernel
theorem dX12_isWhole_47 : decode cX12_isWhole 47 = .ok (.iadd, 1) := by decide +kernel
theorem dX12_isWhole_48 : decode cX12_isWhole 48 = .ok (.iaload, 1) := by decide +kernel
theorem dX12_isWhole_49 : decode cX12_isWhole 49 = .ok (.aload_n 0, 1) := by decide +kernel
theorem dX12_isWhole_50 : decode cX12_isWhole 50 = .ok (.getfield 7, 3) := by decide +kernel
theorem dX12_isWhole_53 : decode cX12_isWhole 53 = .ok (.iconst 2, 1) := by decide +kernel
theorem dX12_isWhole_54 : decode cX12_isWhole 54 = .ok (.iaload, 1) := by decide +kernel
theorem dX12_isWhole_55 : decode cX12_isWhole 55 = .ok (.invokevirtual 203, 3) := by decide +kernel
theorem dX12_isWhole_58 : decode cX12_isWhole 58 = .ok (.invokevirtual 213, 3) := by decide +kernel
theorem dX12_isWhole_61 : decode cX12_isWhole 61 = .ok (.iconst 0, 1) := by decide +kernel
theorem dX12_isWhole_62 : decode cX12_isWhole 62 = .ok (.istore 4, 2) := by decide +kernel
theorem dX12_isWhole_64 : decode cX12_isWhole 64 = .ok (.iload 4, 2) := by decide +kernel
theorem dX12_isWhole_66 : decode cX12_isWhole 66 = .ok (.bipush 16, 2) := by decide +kernel
theorem dX12_isWhole_68 : decode cX12_isWhole 68 = .ok (.if_icmp .ge 31, 3) := by decide +kernel
theorem dX12_isWhole_71 : decode cX12_isWhole 71 = .ok (.aload_n 0, 1) := by decide +kernel
theorem dX12_isWhole_72 : decode cX12_isWhole 72 = .ok (.getfield 54, 3) := by decide +kernel
theorem dX12_isWhole_75 : decode cX12_isWhole 75 = .ok (.sipush 8192, 3) := by decide +kernel
theorem dX12_isWhole_78 : decode cX12_isWhole 78 = .ok (.iload 4, 2) := by decide +kernel
theorem dX12_isWhole_80 : decode cX12_isWhole 80 = .ok (.iadd, 1) := by decide +kernel
theorem dX12_isWhole_81 : decode cX12_isWhole 81 = .ok (.aload_n 0, 1) := by decide +kernel
theorem dX12_isWhole_82 : decode cX12_isWhole 82 = .ok (.getfield 54, 3) := by decide +kernel
theorem dX12_isWhole_85 : decode cX12_isWhole 85 = .ok (.sipush 8208, 3) := by decide +kernel
theorem dX12_isWhole_88 : decode cX12_isWhole 88 = .ok (.iload 4, 2) := by decide +kernel
theorem dX12_isWhole_90 : decode cX12_isWhole 90 = .ok (.iadd, 1) := by decide +kernel
theorem dX12_isWhole_91 : decode cX12_isWhole 91 = .ok (.laload, 1) := by decide +kernel
theorem dX12_isWhole_92 : decode cX12_isWhole 92 = .ok (.lastore, 1) := by decide +kernel
theorem dX12_isWhole_93 : decode cX12_isWhole 93 = .ok (.iinc 4 1, 3) := by decide +kernel
theorem dX12_isWhole_96 : decode cX12_isWhole 96 = .ok (.goto (-32), 3) := by decide +kernel
theorem dX12_isWhole_99 : decode cX12_isWhole 99 = .ok (.iinc 3 1, 3) := by decide +kernel
theorem dX12_isWhole_102 : decode cX12_isWhole 102 = .ok (.goto (-95), 3) := by decide +kernel
theorem dX12_isWhole_105 : decode cX12_isWhole 105 = .ok (.aload_n 0, 1) := by decide +kernel
theorem dX12_isWhole_106 : decode cX12_isWhole 106 = .ok (.sipush 8192, 3) := by decide +kernel
theorem dX12_isWhole_109 : decode cX12_isWhole 109 = .ok (.invokevirtual 217, 3) := by decide +kernel
theorem dX12_isWhole_112 : decode cX12_isWhole 112 = .ok (.iload_n 2, 1) := by decide +kernel
theorem dX12_isWhole_113 : decode cX12_isWhole 113 = .ok (.if_icmp .ne 7, 3) := by decide +kernel
theorem dX12_isWhole_116 : decode cX12_isWhole 116 = .ok (.iconst 1, 1) := by decide +kernel
theorem dX12_isWhole_117 : decode cX12_isWhole 117 = .ok (.goto 4, 3) := by decide +kernel
theorem dX12_isWhole_120 : decode cX12_isWhole 120 = .ok (.iconst 0, 1) := by decide +kernel
theorem dX12_isWhole_121 : decode cX12_isWhole 121 = .ok (.ireturn, 1) := by decide +kernel
theorem kfX12_176 : ux_FL RX12 176 12 6 := ⟨RX12, TX12, 31, rfl, lay_X12, by decide, tw_1062⟩
theorem kvX12_261 : ux_LV RX12 261 12 yX12_isThere cX12_isThere 3 (some .boolean) 2 := ⟨⟨TX12, 31, rfl⟩, tw_1317, tw_1319, tw_61, tw_87, tw_1320, ⟨by decide, by decide, by decide +kernel⟩⟩
theorem kvX12_264 : ux_LV RX12 264 12 yX12_keepPast cX12_keepPast 2 none 0 := ⟨⟨TX12, 31, rfl⟩, tw_1325, tw_1327, tw_63, tw_87, tw_1328, ⟨by decide, by decide, by decide +kernel⟩⟩
theorem kvX12_267 : ux_LV RX12 267 12 yX12_turn cX12_turn 3 (some .int) 2 := ⟨⟨TX12, 31, rfl⟩, tw_1333, tw_1335, tw_64, tw_87, tw_1336, ⟨by decide, by decide, by decide +kernel⟩⟩
def fX12_keepPast_2b (v1 : Int32) (N : ux_N) : Option ((Int32 × ux_N) ⊕ (ux_N)) :=
  if (147 : Int32) ≤ v1 then (some (.inr (N))) else (if (N 0 6) = (8 : Int32) then (if ux_in ((42 : Int32) + v1) 252 then (if ux_in ((21 : Int32) + v1) 252 then (some (.inl ((v1 + 1), (ux_u N 1 (((21 : Int32) + v1).toNatClampNeg) (N 1 (((42 : Int32) + v1).toNatClampNeg)))))) else none) else none) else (some (.inr (N))))
set_option maxHeartbeats 4000000 in
set_option maxRecDepth 20000 in
theorem wX12_keepPast_2b {X : ux_X} (C : ux_C X cX12_keepPast RX12 2 none 1 23 shM) {v1 : Int32}  {N : ux_N} {L : ux_L} {o : (Int32 × ux_N) ⊕ (ux_N)} (hin : ∀ s : Int32 × ux_N, o = .inl s → ux_Wt X 2 2 [(0, .ref (ux_ad X 0)), (1, .int s.1)] [] s.2 L) (hex0 : ∀ e : ux_N, o = .inr (e) → ux_Wt X 2 42 [(0, .ref (ux_ad X 0))] [] e L) (h : fX12_keepPast_2b v1 N = some o) : ux_Wt X 2 2 [(0, .ref (ux_ad X 0)), (1, .int v1)] [] N L := by
  refine wt_iload_n 3 1 C dX12_keepPast_2 rfl rfl ?_
  refine wt_sipush 6 147 C dX12_keepPast_3 rfl (by decide) ?_
  refine wt_icmp_ge 9 42 C dX12_keepPast_6 rfl (by decide) (fun q1 => ?_) (fun q1 => ?_)
  · have h := (if_pos q1).symm.trans h
    refine wt_sub [0] rfl ?_
    exact hex0 _ (Option.some.inj h).symm
  · have h := (if_neg q1).symm.trans h
    refine wt_aload_n 10 0 C dX12_keepPast_9 rfl rfl ?_
    refine wt_getI 13 C kfX12_176 sm_0 rfl dX12_keepPast_10 rfl ?_
    refine wt_bipush 15 8 C dX12_keepPast_13 rfl (by decide) ?_
    refine wt_icmp_ne 18 42 C dX12_keepPast_15 rfl (by decide) (fun q2 => ?_) (fun q2 => ?_)
    · have h := (if_neg q2).symm.trans h
      refine wt_sub [0] rfl ?_
      exact hex0 _ (Option.some.inj h).symm
    · have h := (if_pos q2).symm.trans h
      refine wt_aload_n 19 0 C dX12_keepPast_18 rfl rfl ?_
      refine wt_getR 22 C kfX12_7 sm_0 rfl dX12_keepPast_19 rfl ?_
      refine wt_bipush 24 21 C dX12_keepPast_22 rfl (by decide) ?_
      refine wt_iload_n 25 1 C dX12_keepPast_24 rfl rfl ?_
      refine wt_iadd 26 C dX12_keepPast_25 rfl ?_
      refine wt_aload_n 27 0 C dX12_keepPast_26 rfl rfl ?_
      refine wt_getR 30 C kfX12_7 sm_0 rfl dX12_keepPast_27 rfl ?_
      refine wt_bipush 32 42 C dX12_keepPast_30 rfl (by decide) ?_
      refine wt_iload_n 33 1 C dX12_keepPast_32 rfl rfl ?_
      refine wt_iadd 34 C dX12_keepPast_33 rfl ?_
      obtain ⟨hi3, h⟩ := ux_guard h
      refine wt_iald 35 (((42 : Int32) + v1).toNatClampNeg) C sm_1 rfl hi3 dX12_keepPast_34 rfl ?_
      obtain ⟨hi4, h⟩ := ux_guard h
      refine wt_iast 36 (((21 : Int32) + v1).toNatClampNeg) C sm_1 rfl hi4 dX12_keepPast_35 rfl ?_
      refine wt_iinc 39 1 [(1, .int (v1 + 1)), (0, .ref (ux_ad X 0))] (v1 + 1) C dX12_keepPast_36 rfl rfl (by rfl) (by decide) rfl ?_
      refine wt_goto 2 C dX12_keepPast_39 (by decide) ?_
      refine wt_sub [1, 0] rfl ?_
      exact hin _ (Option.some.inj h).symm
def fX12_keepPast_61 (s0 : Int32) (s1 : Int32) (N : ux_N) : Option (ux_N) :=
  (fX12_copyRow (0 : Int32) ((21 : Int32) + ((21 : Int32) * ((ux_u N 0 6 (s1 - s0)) 0 6))) (ux_u N 0 6 (s1 - s0))).bind (fun o1 => some (ux_u o1 0 6 ((o1 0 6) + (1 : Int32))))
set_option maxHeartbeats 4000000 in
set_option maxRecDepth 20000 in
theorem wX12_keepPast_61 {X : ux_X} (C : ux_C X cX12_keepPast RX12 2 none 1 23 shM) {s0 : Int32} {s1 : Int32}  {N : ux_N} {L : ux_L} {o : ux_N} (hq : ux_Qv X o L) (h : fX12_keepPast_61 s0 s1 N = some o) : ux_Wt X 2 61 [(0, .ref (ux_ad X 0))] [.int s0, .int s1, .ref (ux_ad X 0)] N L := by
  refine wt_isub 62 C dX12_keepPast_61 rfl ?_
  refine wt_putI 65 C kpX12_176 sm_0 rfl rfl rfl dX12_keepPast_62 rfl ?_
  refine wt_aload_n 66 0 C dX12_keepPast_65 rfl rfl ?_
  refine wt_iconst 67 0 C dX12_keepPast_66 rfl (by decide) ?_
  refine wt_bipush 69 21 C dX12_keepPast_67 rfl (by decide) ?_
  refine wt_bipush 71 21 C dX12_keepPast_69 rfl (by decide) ?_
  refine wt_aload_n 72 0 C dX12_keepPast_71 rfl rfl ?_
  refine wt_getI 75 C kfX12_176 sm_0 rfl dX12_keepPast_72 rfl ?_
  refine wt_imul 76 C dX12_keepPast_75 rfl ?_
  refine wt_iadd 77 C dX12_keepPast_76 rfl ?_
  obtain ⟨o1, hc2, h⟩ := Option.bind_eq_some_iff.mp h
  refine wt_callVv 80 [] C kvX12_173 sm_0 (mX12_copyRow (cx_ok C)  hc2) rfl rfl ⟨Nat.le_of_ble_eq_true rfl, Nat.le_of_ble_eq_true rfl⟩ (Nat.le_of_ble_eq_true rfl) dX12_keepPast_77 rfl ?_
  refine wt_aload_n 81 0 C dX12_keepPast_80 rfl rfl ?_
  refine wt_dup 82 C dX12_keepPast_81 rfl rfl ?_
  refine wt_getI 85 C kfX12_176 sm_0 rfl dX12_keepPast_82 rfl ?_
  refine wt_iconst 86 1 C dX12_keepPast_85 rfl (by decide) ?_
  refine wt_iadd 87 C dX12_keepPast_86 rfl ?_
  refine wt_putI 90 C kpX12_176 sm_0 rfl rfl rfl dX12_keepPast_87 rfl ?_
  cases h
  exact wt_vret C hq dX12_keepPast_90
def fX12_keepPast_42 (N : ux_N) : Option (ux_N) :=
  if (N 0 6) = (8 : Int32) then (fX12_keepPast_61 (1 : Int32) (N 0 6) N) else (fX12_keepPast_61 (0 : Int32) (N 0 6) N)
set_option maxHeartbeats 4000000 in
set_option maxRecDepth 20000 in
theorem wX12_keepPast_42 {X : ux_X} (C : ux_C X cX12_keepPast RX12 2 none 1 23 shM)   {N : ux_N} {L : ux_L} {o : ux_N} (hq : ux_Qv X o L) (h : fX12_keepPast_42 N = some o) : ux_Wt X 2 42 [(0, .ref (ux_ad X 0))] [] N L := by
  refine wt_aload_n 43 0 C dX12_keepPast_42 rfl rfl ?_
  refine wt_dup 44 C dX12_keepPast_43 rfl rfl ?_
  refine wt_getI 47 C kfX12_176 sm_0 rfl dX12_keepPast_44 rfl ?_
  refine wt_aload_n 48 0 C dX12_keepPast_47 rfl rfl ?_
  refine wt_getI 51 C kfX12_176 sm_0 rfl dX12_keepPast_48 rfl ?_
  refine wt_bipush 53 8 C dX12_keepPast_51 rfl (by decide) ?_
  refine wt_icmp_ne 56 60 C dX12_keepPast_53 rfl (by decide) (fun q1 => ?_) (fun q1 => ?_)
  · have h := (if_neg q1).symm.trans h
    refine wt_iconst 61 0 C dX12_keepPast_60 rfl (by decide) ?_
    exact wX12_keepPast_61 C hq h
  · have h := (if_pos q1).symm.trans h
    refine wt_iconst 57 1 C dX12_keepPast_56 rfl (by decide) ?_
    refine wt_goto 61 C dX12_keepPast_57 (by decide) ?_
    exact wX12_keepPast_61 C hq h
def fX12_keepPast (N : ux_N) : Option (ux_N) :=
  (ux_lp (fun s : Int32 × ux_N => fX12_keepPast_2b s.1 s.2) ux_fu ((0 : Int32), N)).bind (fun e8 => fX12_keepPast_42 e8)
set_option maxHeartbeats 4000000 in
set_option maxRecDepth 20000 in
theorem wX12_keepPast {X : ux_X} (C : ux_C X cX12_keepPast RX12 2 none 1 23 shM)   {N : ux_N} {L : ux_L} {o : ux_N} (hq : ux_Qv X o L) (h : fX12_keepPast N = some o) : ux_Wt X 2 0 [(0, .ref (ux_ad X 0))] [] N L := by
  refine wt_iconst 1 0 C dX12_keepPast_0 rfl (by decide) ?_
  refine wt_istore_n 2 [(1, .int (0 : Int32)), (0, .ref (ux_ad X 0))] C dX12_keepPast_1 rfl (by decide) rfl ?_
  obtain ⟨e1, hl2, h⟩ := Option.bind_eq_some_iff.mp h
  refine wt_sub [1, 0] rfl ?_
  refine ux_loop (fun s : Int32 × ux_N => fX12_keepPast_2b s.1 s.2) (fun s : Int32 × ux_N => ux_Wt X 2 2 [(0, .ref (ux_ad X 0)), (1, .int s.1)] [] s.2 L) (e := e1) ?_ hl2
  intro s3 o4 hb5 hi6 hx7
  refine wX12_keepPast_2b C hi6 (fun x0 he => ?_) hb5
  · obtain ⟨e8, rfl⟩ : ∃ z, z = x0 := ⟨_, rfl⟩
    have h9 := hx7 _ he
    subst h9
    exact wX12_keepPast_42 C hq h
theorem mX12_keepPast {l : Launch} {G : ux_G} (hok : ux_ok G shM)   {N : ux_N} {L : ux_L} {o : ux_N} (h : fX12_keepPast N = some o) : ux_Mv l G yX12_keepPast cX12_keepPast 2 1 23 [.ref (gad G 0)] N L o L :=
  ux_ofv shM hok (by decide +kernel) (Nat.le_of_ble_eq_true rfl) (fun X hG hl C hq => by subst hG; subst hl; exact wX12_keepPast C  hq h)
def fX12_put (v1 : Int32) (v2 : Int32) (N : ux_N) : Option (Int32 × ux_N) :=
  (fX12_in (v1.toInt64) (0 : Int64) (4 : Int64)).bind (fun o1 => if o1 = 0 then (some ((-3 : Int32), N)) else ((fX12_isThere v1 v2 N).bind (fun o4 => if o4 = 0 then (some ((-2 : Int32), N)) else (if (N 1 0) = (9 : Int32) then (some ((-5 : Int32), N)) else ((fX12_keepPast N).bind (fun o8 => (fX12_addMeter v1 v2 (ux_u o8 1 1 ((o8 1 1) &&& (((1 : Int32) <<< ((o8 1 0) &&& 31)) ^^^ (-1 : Int32))))).bind (fun o10 => some (((o10 1 0) - (1 : Int32)), o10))))))))
set_option maxHeartbeats 4000000 in
set_option maxRecDepth 20000 in
theorem wX12_put {X : ux_X} (C : ux_C X cX12_put RX12 3 (some .int) 3 68 shM) {v1 : Int32} {v2 : Int32}  {N : ux_N} {L : ux_L} {o : Int32 × ux_N} (hq : ux_Qi X o.1 o.2 L) (h : fX12_put v1 v2 N = some o) : ux_Wt X 3 0 [(0, .ref (ux_ad X 0)), (1, .int v1), (2, .int v2)] [] N L := by
  refine wt_iload_n 1 1 C dX12_put_0 rfl rfl ?_
  refine wt_i2l 2 C dX12_put_1 rfl ?_
  refine wt_lconst 3 0 C dX12_put_2 rfl (by decide) ?_
  refine wt_ldc2 6 C tw_1316 dX12_put_3 rfl ?_
  obtain ⟨o1, hc2, h⟩ := Option.bind_eq_some_iff.mp h
  refine wt_callSi 9 [] C ksX12_94 (mX12_in (cx_ok C)  hc2) rfl rfl ⟨Nat.le_of_ble_eq_true rfl, Nat.le_of_ble_eq_true rfl⟩ (Nat.le_of_ble_eq_true rfl) dX12_put_6 rfl ?_
  refine wt_if_ne 12 15 C dX12_put_9 rfl (by decide) (fun q3 => ?_) (fun q3 => ?_)
  · have h := (if_neg q3).symm.trans h
    refine wt_aload_n 16 0 C dX12_put_15 rfl rfl ?_
    refine wt_iload_n 17 1 C dX12_put_16 rfl rfl ?_
    refine wt_iload_n 18 2 C dX12_put_17 rfl rfl ?_
    obtain ⟨o4, hc5, h⟩ := Option.bind_eq_some_iff.mp h
    refine wt_callVi 21 [] C kvX12_261 sm_0 (mX12_isThere (cx_ok C)  hc5) rfl rfl ⟨Nat.le_of_ble_eq_true rfl, Nat.le_of_ble_eq_true rfl⟩ (Nat.le_of_ble_eq_true rfl) dX12_put_18 rfl ?_
    refine wt_if_ne 24 27 C dX12_put_21 rfl (by decide) (fun q6 => ?_) (fun q6 => ?_)
    · have h := (if_neg q6).symm.trans h
      refine wt_aload_n 28 0 C dX12_put_27 rfl rfl ?_
      refine wt_getR 31 C kfX12_7 sm_0 rfl dX12_put_28 rfl ?_
      refine wt_iconst 32 0 C dX12_put_31 rfl (by decide) ?_
      refine wt_iald 33 0 C sm_1 (by decide) (by decide) dX12_put_32 rfl ?_
      refine wt_bipush 35 9 C dX12_put_33 rfl (by decide) ?_
      refine wt_icmp_ne 38 41 C dX12_put_35 rfl (by decide) (fun q7 => ?_) (fun q7 => ?_)
      · have h := (if_neg q7).symm.trans h
        refine wt_aload_n 42 0 C dX12_put_41 rfl rfl ?_
        obtain ⟨o8, hc9, h⟩ := Option.bind_eq_some_iff.mp h
        refine wt_callVv 45 [] C kvX12_264 sm_0 (mX12_keepPast (cx_ok C)  hc9) rfl rfl ⟨Nat.le_of_ble_eq_true rfl, Nat.le_of_ble_eq_true rfl⟩ (Nat.le_of_ble_eq_true rfl) dX12_put_42 rfl ?_
        refine wt_aload_n 46 0 C dX12_put_45 rfl rfl ?_
        refine wt_getR 49 C kfX12_7 sm_0 rfl dX12_put_46 rfl ?_
        refine wt_iconst 50 1 C dX12_put_49 rfl (by decide) ?_
        refine wt_dup2 51 C dX12_put_50 rfl rfl rfl ?_
        refine wt_iald 52 1 C sm_1 (by decide) (by decide) dX12_put_51 rfl ?_
        refine wt_iconst 53 1 C dX12_put_52 rfl (by decide) ?_
        refine wt_aload_n 54 0 C dX12_put_53 rfl rfl ?_
        refine wt_getR 57 C kfX12_7 sm_0 rfl dX12_put_54 rfl ?_
        refine wt_iconst 58 0 C dX12_put_57 rfl (by decide) ?_
        refine wt_iald 59 0 C sm_1 (by decide) (by decide) dX12_put_58 rfl ?_
        refine wt_ishl 60 C dX12_put_59 rfl ?_
        refine wt_iconst 61 (-1) C dX12_put_60 rfl (by decide) ?_
        refine wt_ixor 62 C dX12_put_61 rfl ?_
        refine wt_iand 63 C dX12_put_62 rfl ?_
        refine wt_iast 64 1 C sm_1 (by decide) (by decide) dX12_put_63 rfl ?_
        refine wt_aload_n 65 0 C dX12_put_64 rfl rfl ?_
        refine wt_iload_n 66 1 C dX12_put_65 rfl rfl ?_
        refine wt_iload_n 67 2 C dX12_put_66 rfl rfl ?_
        obtain ⟨o10, hc11, h⟩ := Option.bind_eq_some_iff.mp h
        refine wt_callVv 70 [] C kvX12_138 sm_0 (mX12_addMeter (cx_ok C)  hc11) rfl rfl ⟨Nat.le_of_ble_eq_true rfl, Nat.le_of_ble_eq_true rfl⟩ (Nat.le_of_ble_eq_true rfl) dX12_put_67 rfl ?_
        refine wt_aload_n 71 0 C dX12_put_70 rfl rfl ?_
        refine wt_getR 74 C kfX12_7 sm_0 rfl dX12_put_71 rfl ?_
        refine wt_iconst 75 0 C dX12_put_74 rfl (by decide) ?_
        refine wt_iald 76 0 C sm_1 (by decide) (by decide) dX12_put_75 rfl ?_
        refine wt_iconst 77 1 C dX12_put_76 rfl (by decide) ?_
        refine wt_isub 78 C dX12_put_77 rfl ?_
        cases h
        exact wt_iret C hq dX12_put_78
      · have h := (if_pos q7).symm.trans h
        refine wt_bipush 40 (-5) C dX12_put_38 rfl (by decide) ?_
        cases h
        exact wt_iret C hq dX12_put_40
    · have h := (if_pos q6).symm.trans h
      refine wt_bipush 26 (-2) C dX12_put_24 rfl (by decide) ?_
      cases h
      exact wt_iret C hq dX12_put_26
  · have h := (if_pos q3).symm.trans h
    refine wt_bipush 14 (-3) C dX12_put_12 rfl (by decide) ?_
    cases h
    exact wt_iret C hq dX12_put_14
theorem mX12_put {l : Launch} {G : ux_G} (hok : ux_ok G shM) {v1 : Int32} {v2 : Int32}  {N : ux_N} {L : ux_L} {o : Int32 × ux_N} (h : fX12_put v1 v2 N = some o) : ux_Mi l G yX12_put cX12_put 3 (some .int) 3 68 [.ref (gad G 0), .int v1, .int v2] N L o.1 o.2 L :=
  ux_ofi shM hok (by decide +kernel) (Nat.le_of_ble_eq_true rfl) (fun X hG hl C hq => by subst hG; subst hl; exact wX12_put C  hq h)
def fX12_turn (v1 : Int32) (v2 : Int32) (N : ux_N) (L : ux_L) : Option (Int32 × ux_N × ux_L) :=
  (fX12_keepPast N).bind (fun o1 => if ux_in v1 252 then (if ux_in v1 252 then ((fX12_rank (ux_u o1 1 (v1.toNatClampNeg) ((o1 1 (v1.toNatClampNeg)) ^^^ ((1 : Int32) <<< (v2 &&& 31)))) L).bind (fun o5 => some (o5.1, (ux_u o1 1 (v1.toNatClampNeg) ((o1 1 (v1.toNatClampNeg)) ^^^ ((1 : Int32) <<< (v2 &&& 31)))), o5.2))) else none) else none)
set_option maxHeartbeats 4000000 in
set_option maxRecDepth 20000 in
theorem wX12_turn {X : ux_X} (C : ux_C X cX12_turn RX12 3 (some .int) 7 160 shM) {v1 : Int32} {v2 : Int32}  {N : ux_N} {L : ux_L} {o : Int32 × ux_N × ux_L} (hq : ux_Qi X o.1 o.2.1 o.2.2) (h : fX12_turn v1 v2 N L = some o) : ux_Wt X 3 0 [(0, .ref (ux_ad X 0)), (1, .int v1), (2, .int v2)] [] N L := by
  refine wt_aload_n 1 0 C dX12_turn_0 rfl rfl ?_
  obtain ⟨o1, hc2, h⟩ := Option.bind_eq_some_iff.mp h
  refine wt_callVv 4 [] C kvX12_264 sm_0 (mX12_keepPast (cx_ok C)  hc2) rfl rfl ⟨Nat.le_of_ble_eq_true rfl, Nat.le_of_ble_eq_true rfl⟩ (Nat.le_of_ble_eq_true rfl) dX12_turn_1 rfl ?_
  refine wt_aload_n 5 0 C dX12_turn_4 rfl rfl ?_
  refine wt_getR 8 C kfX12_7 sm_0 rfl dX12_turn_5 rfl ?_
  refine wt_iload_n 9 1 C dX12_turn_8 rfl rfl ?_
  refine wt_dup2 10 C dX12_turn_9 rfl rfl rfl ?_
  obtain ⟨hi3, h⟩ := ux_guard h
  refine wt_iald 11 (v1.toNatClampNeg) C sm_1 rfl hi3 dX12_turn_10 rfl ?_
  refine wt_iconst 12 1 C dX12_turn_11 rfl (by decide) ?_
  refine wt_iload_n 13 2 C dX12_turn_12 rfl rfl ?_
  refine wt_ishl 14 C dX12_turn_13 rfl ?_
  refine wt_ixor 15 C dX12_turn_14 rfl ?_
  obtain ⟨hi4, h⟩ := ux_guard h
  refine wt_iast 16 (v1.toNatClampNeg) C sm_1 rfl hi4 dX12_turn_15 rfl ?_
  refine wt_aload_n 17 0 C dX12_turn_16 rfl rfl ?_
  obtain ⟨o5, hc6, h⟩ := Option.bind_eq_some_iff.mp h
  refine wt_callVi 20 [] C kvX12_223 sm_0 (mX12_rank (cx_ok C)  hc6) rfl rfl ⟨Nat.le_of_ble_eq_true rfl, Nat.le_of_ble_eq_true rfl⟩ (Nat.le_of_ble_eq_true rfl) dX12_turn_17 rfl ?_
  cases h
  exact wt_iret C hq dX12_turn_20
theorem mX12_turn {l : Launch} {G : ux_G} (hok : ux_ok G shM) {v1 : Int32} {v2 : Int32}  {N : ux_N} {L : ux_L} {o : Int32 × ux_N × ux_L} (h : fX12_turn v1 v2 N L = some o) : ux_Mi l G yX12_turn cX12_turn 3 (some .int) 7 160 [.ref (gad G 0), .int v1, .int v2] N L o.1 o.2.1 o.2.2 :=
  ux_ofi shM hok (by decide +kernel) (Nat.le_of_ble_eq_true rfl) (fun X hG hl C hq => by subst hG; subst hl; exact wX12_turn C  hq h)
def fX12_spoil_37 (s0 : Int32) (N : ux_N) (L : ux_L) : Option (Int32 × ux_N × ux_L) :=
  some (s0, N, L)
set_option maxHeartbeats 4000000 in
set_option maxRecDepth 20000 in
theorem wX12_spoil_37 {X : ux_X} (C : ux_C X cX12_spoil RX12 2 (some .int) 8 182 shM) {s0 : Int32}  {N : ux_N} {L : ux_L} {o : Int32 × ux_N × ux_L} (hq : ux_Qi X o.1 o.2.1 o.2.2) (h : fX12_spoil_37 s0 N L = some o) : ux_Wt X 2 37 [] [.int s0] N L := by
  cases h
  exact wt_iret C hq dX12_spoil_37
def fX12_spoil (v1 : Int32) (N : ux_N) (L : ux_L) : Option (Int32 × ux_N × ux_L) :=
  (fX12_isMeter v1 N).bind (fun o1 => if o1 = 0 then (fX12_spoil_37 (-2 : Int32) N L) else ((fX12_has (N 1 1) v1).bind (fun o4 => if o4 = 0 then ((fX12_turn (1 : Int32) v1 N L).bind (fun o7 => fX12_spoil_37 o7.1 o7.2.1 o7.2.2)) else (fX12_spoil_37 (-4 : Int32) N L))))
set_option maxHeartbeats 4000000 in
set_option maxRecDepth 20000 in
theorem wX12_spoil {X : ux_X} (C : ux_C X cX12_spoil RX12 2 (some .int) 8 182 shM) {v1 : Int32}  {N : ux_N} {L : ux_L} {o : Int32 × ux_N × ux_L} (hq : ux_Qi X o.1 o.2.1 o.2.2) (h : fX12_spoil v1 N L = some o) : ux_Wt X 2 0 [(0, .ref (ux_ad X 0)), (1, .int v1)] [] N L := by
  refine wt_aload_n 1 0 C dX12_spoil_0 rfl rfl ?_
  refine wt_iload_n 2 1 C dX12_spoil_1 rfl rfl ?_
  obtain ⟨o1, hc2, h⟩ := Option.bind_eq_some_iff.mp h
  refine wt_callVi 5 [] C kvX12_245 sm_0 (mX12_isMeter (cx_ok C)  hc2) rfl rfl ⟨Nat.le_of_ble_eq_true rfl, Nat.le_of_ble_eq_true rfl⟩ (Nat.le_of_ble_eq_true rfl) dX12_spoil_2 rfl ?_
  refine wt_if_ne 8 13 C dX12_spoil_5 rfl (by decide) (fun q3 => ?_) (fun q3 => ?_)
  · have h := (if_neg q3).symm.trans h
    refine wt_aload_n 14 0 C dX12_spoil_13 rfl rfl ?_
    refine wt_getR 17 C kfX12_7 sm_0 rfl dX12_spoil_14 rfl ?_
    refine wt_iconst 18 1 C dX12_spoil_17 rfl (by decide) ?_
    refine wt_iald 19 1 C sm_1 (by decide) (by decide) dX12_spoil_18 rfl ?_
    refine wt_iload_n 20 1 C dX12_spoil_19 rfl rfl ?_
    obtain ⟨o4, hc5, h⟩ := Option.bind_eq_some_iff.mp h
    refine wt_callSi 23 [] C ksX12_179 (mX12_has (cx_ok C)  hc5) rfl rfl ⟨Nat.le_of_ble_eq_true rfl, Nat.le_of_ble_eq_true rfl⟩ (Nat.le_of_ble_eq_true rfl) dX12_spoil_20 rfl ?_
    refine wt_if_eq 26 31 C dX12_spoil_23 rfl (by decide) (fun q6 => ?_) (fun q6 => ?_)
    · have h := (if_pos q6).symm.trans h
      refine wt_aload_n 32 0 C dX12_spoil_31 rfl rfl ?_
      refine wt_iconst 33 1 C dX12_spoil_32 rfl (by decide) ?_
      refine wt_iload_n 34 1 C dX12_spoil_33 rfl rfl ?_
      obtain ⟨o7, hc8, h⟩ := Option.bind_eq_some_iff.mp h
      refine wt_callVi 37 [] C kvX12_267 sm_0 (mX12_turn (cx_ok C)  hc8) rfl rfl ⟨Nat.le_of_ble_eq_true rfl, Nat.le_of_ble_eq_true rfl⟩ (Nat.le_of_ble_eq_true rfl) dX12_spoil_34 rfl ?_
      refine wt_sub [] rfl ?_
      exact wX12_spoil_37 C hq h
    · have h := (if_neg q6).symm.trans h
      refine wt_bipush 28 (-4) C dX12_spoil_26 rfl (by decide) ?_
      refine wt_goto 37 C dX12_spoil_28 (by decide) ?_
      refine wt_sub [] rfl ?_
      exact wX12_spoil_37 C hq h
  · have h := (if_pos q3).symm.trans h
    refine wt_bipush 10 (-2) C dX12_spoil_8 rfl (by decide) ?_
    refine wt_goto 37 C dX12_spoil_10 (by decide) ?_
    refine wt_sub [] rfl ?_
    exact wX12_spoil_37 C hq h
theorem mX12_spoil {l : Launch} {G : ux_G} (hok : ux_ok G shM) {v1 : Int32}  {N : ux_N} {L : ux_L} {o : Int32 × ux_N × ux_L} (h : fX12_spoil v1 N L = some o) : ux_Mi l G yX12_spoil cX12_spoil 2 (some .int) 8 182 [.ref (gad G 0), .int v1] N L o.1 o.2.1 o.2.2 :=
  ux_ofi shM hok (by decide +kernel) (Nat.le_of_ble_eq_true rfl) (fun X hG hl C hq => by subst hG; subst hl; exact wX12_spoil C  hq h)
def fX12_mend_37 (s0 : Int32) (N : ux_N) (L : ux_L) : Option (Int32 × ux_N × ux_L) :=
  some (s0, N, L)
set_option maxHeartbeats 4000000 in
set_option maxRecDepth 20000 in
theorem wX12_mend_37 {X : ux_X} (C : ux_C X cX12_mend RX12 2 (some .int) 8 182 shM) {s0 : Int32}  {N : ux_N} {L : ux_L} {o : Int32 × ux_N × ux_L} (hq : ux_Qi X o.1 o.2.1 o.2.2) (h : fX12_mend_37 s0 N L = some o) : ux_Wt X 2 37 [] [.int s0] N L := by
  cases h
  exact wt_iret C hq dX12_mend_37
def fX12_mend (v1 : Int32) (N : ux_N) (L : ux_L) : Option (Int32 × ux_N × ux_L) :=
  (fX12_isMeter v1 N).bind (fun o1 => if o1 = 0 then (fX12_mend_37 (-2 : Int32) N L) else ((fX12_has (N 1 1) v1).bind (fun o4 => if o4 = 0 then (fX12_mend_37 (-4 : Int32) N L) else ((fX12_turn (1 : Int32) v1 N L).bind (fun o7 => fX12_mend_37 o7.1 o7.2.1 o7.2.2)))))
set_option maxHeartbeats 4000000 in
set_option maxRecDepth 20000 in
theorem wX12_mend {X : ux_X} (C : ux_C X cX12_mend RX12 2 (some .int) 8 182 shM) {v1 : Int32}  {N : ux_N} {L : ux_L} {o : Int32 × ux_N × ux_L} (hq : ux_Qi X o.1 o.2.1 o.2.2) (h : fX12_mend v1 N L = some o) : ux_Wt X 2 0 [(0, .ref (ux_ad X 0)), (1, .int v1)] [] N L := by
  refine wt_aload_n 1 0 C dX12_mend_0 rfl rfl ?_
  refine wt_iload_n 2 1 C dX12_mend_1 rfl rfl ?_
  obtain ⟨o1, hc2, h⟩ := Option.bind_eq_some_iff.mp h
  refine wt_callVi 5 [] C kvX12_245 sm_0 (mX12_isMeter (cx_ok C)  hc2) rfl rfl ⟨Nat.le_of_ble_eq_true rfl, Nat.le_of_ble_eq_true rfl⟩ (Nat.le_of_ble_eq_true rfl) dX12_mend_2 rfl ?_
  refine wt_if_ne 8 13 C dX12_mend_5 rfl (by decide) (fun q3 => ?_) (fun q3 => ?_)
  · have h := (if_neg q3).symm.trans h
    refine wt_aload_n 14 0 C dX12_mend_13 rfl rfl ?_
    refine wt_getR 17 C kfX12_7 sm_0 rfl dX12_mend_14 rfl ?_
    refine wt_iconst 18 1 C dX12_mend_17 rfl (by decide) ?_
    refine wt_iald 19 1 C sm_1 (by decide) (by decide) dX12_mend_18 rfl ?_
    refine wt_iload_n 20 1 C dX12_mend_19 rfl rfl ?_
    obtain ⟨o4, hc5, h⟩ := Option.bind_eq_some_iff.mp h
    refine wt_callSi 23 [] C ksX12_179 (mX12_has (cx_ok C)  hc5) rfl rfl ⟨Nat.le_of_ble_eq_true rfl, Nat.le_of_ble_eq_true rfl⟩ (Nat.le_of_ble_eq_true rfl) dX12_mend_20 rfl ?_
    refine wt_if_eq 26 35 C dX12_mend_23 rfl (by decide) (fun q6 => ?_) (fun q6 => ?_)
    · have h := (if_pos q6).symm.trans h
      refine wt_bipush 37 (-4) C dX12_mend_35 rfl (by decide) ?_
      refine wt_sub [] rfl ?_
      exact wX12_mend_37 C hq h
    · have h := (if_neg q6).symm.trans h
      refine wt_aload_n 27 0 C dX12_mend_26 rfl rfl ?_
      refine wt_iconst 28 1 C dX12_mend_27 rfl (by decide) ?_
      refine wt_iload_n 29 1 C dX12_mend_28 rfl rfl ?_
      obtain ⟨o7, hc8, h⟩ := Option.bind_eq_some_iff.mp h
      refine wt_callVi 32 [] C kvX12_267 sm_0 (mX12_turn (cx_ok C)  hc8) rfl rfl ⟨Nat.le_of_ble_eq_true rfl, Nat.le_of_ble_eq_true rfl⟩ (Nat.le_of_ble_eq_true rfl) dX12_mend_29 rfl ?_
      refine wt_goto 37 C dX12_mend_32 (by decide) ?_
      refine wt_sub [] rfl ?_
      exact wX12_mend_37 C hq h
  · have h := (if_pos q3).symm.trans h
    refine wt_bipush 10 (-2) C dX12_mend_8 rfl (by decide) ?_
    refine wt_goto 37 C dX12_mend_10 (by decide) ?_
    refine wt_sub [] rfl ?_
    exact wX12_mend_37 C hq h
theorem mX12_mend {l : Launch} {G : ux_G} (hok : ux_ok G shM) {v1 : Int32}  {N : ux_N} {L : ux_L} {o : Int32 × ux_N × ux_L} (h : fX12_mend v1 N L = some o) : ux_Mi l G yX12_mend cX12_mend 2 (some .int) 8 182 [.ref (gad G 0), .int v1] N L o.1 o.2.1 o.2.2 :=
  ux_ofi shM hok (by decide +kernel) (Nat.le_of_ble_eq_true rfl) (fun X hG hl C hq => by subst hG; subst hl; exact wX12_mend C  hq h)
def fX12_cut_37 (s0 : Int32) (N : ux_N) (L : ux_L) : Option (Int32 × ux_N × ux_L) :=
  some (s0, N, L)
set_option maxHeartbeats 4000000 in
set_option maxRecDepth 20000 in
theorem wX12_cut_37 {X : ux_X} (C : ux_C X cX12_cut RX12 2 (some .int) 8 182 shM) {s0 : Int32}  {N : ux_N} {L : ux_L} {o : Int32 × ux_N × ux_L} (hq : ux_Qi X o.1 o.2.1 o.2.2) (h : fX12_cut_37 s0 N L = some o) : ux_Wt X 2 37 [] [.int s0] N L := by
  cases h
  exact wt_iret C hq dX12_cut_37
def fX12_cut (v1 : Int32) (N : ux_N) (L : ux_L) : Option (Int32 × ux_N × ux_L) :=
  (fX12_isLine v1 N).bind (fun o1 => if o1 = 0 then (fX12_cut_37 (-2 : Int32) N L) else ((fX12_has (N 1 2) v1).bind (fun o4 => if o4 = 0 then ((fX12_turn (2 : Int32) v1 N L).bind (fun o7 => fX12_cut_37 o7.1 o7.2.1 o7.2.2)) else (fX12_cut_37 (-4 : Int32) N L))))
set_option maxHeartbeats 4000000 in
set_option maxRecDepth 20000 in
theorem wX12_cut {X : ux_X} (C : ux_C X cX12_cut RX12 2 (some .int) 8 182 shM) {v1 : Int32}  {N : ux_N} {L : ux_L} {o : Int32 × ux_N × ux_L} (hq : ux_Qi X o.1 o.2.1 o.2.2) (h : fX12_cut v1 N L = some o) : ux_Wt X 2 0 [(0, .ref (ux_ad X 0)), (1, .int v1)] [] N L := by
  refine wt_aload_n 1 0 C dX12_cut_0 rfl rfl ?_
  refine wt_iload_n 2 1 C dX12_cut_1 rfl rfl ?_
  obtain ⟨o1, hc2, h⟩ := Option.bind_eq_some_iff.mp h
  refine wt_callVi 5 [] C kvX12_236 sm_0 (mX12_isLine (cx_ok C)  hc2) rfl rfl ⟨Nat.le_of_ble_eq_true rfl, Nat.le_of_ble_eq_true rfl⟩ (Nat.le_of_ble_eq_true rfl) dX12_cut_2 rfl ?_
  refine wt_if_ne 8 13 C dX12_cut_5 rfl (by decide) (fun q3 => ?_) (fun q3 => ?_)
  · have h := (if_neg q3).symm.trans h
    refine wt_aload_n 14 0 C dX12_cut_13 rfl rfl ?_
    refine wt_getR 17 C kfX12_7 sm_0 rfl dX12_cut_14 rfl ?_
    refine wt_iconst 18 2 C dX12_cut_17 rfl (by decide) ?_
    refine wt_iald 19 2 C sm_1 (by decide) (by decide) dX12_cut_18 rfl ?_
    refine wt_iload_n 20 1 C dX12_cut_19 rfl rfl ?_
    obtain ⟨o4, hc5, h⟩ := Option.bind_eq_some_iff.mp h
    refine wt_callSi 23 [] C ksX12_179 (mX12_has (cx_ok C)  hc5) rfl rfl ⟨Nat.le_of_ble_eq_true rfl, Nat.le_of_ble_eq_true rfl⟩ (Nat.le_of_ble_eq_true rfl) dX12_cut_20 rfl ?_
    refine wt_if_eq 26 31 C dX12_cut_23 rfl (by decide) (fun q6 => ?_) (fun q6 => ?_)
    · have h := (if_pos q6).symm.trans h
      refine wt_aload_n 32 0 C dX12_cut_31 rfl rfl ?_
      refine wt_iconst 33 2 C dX12_cut_32 rfl (by decide) ?_
      refine wt_iload_n 34 1 C dX12_cut_33 rfl rfl ?_
      obtain ⟨o7, hc8, h⟩ := Option.bind_eq_some_iff.mp h
      refine wt_callVi 37 [] C kvX12_267 sm_0 (mX12_turn (cx_ok C)  hc8) rfl rfl ⟨Nat.le_of_ble_eq_true rfl, Nat.le_of_ble_eq_true rfl⟩ (Nat.le_of_ble_eq_true rfl) dX12_cut_34 rfl ?_
      refine wt_sub [] rfl ?_
      exact wX12_cut_37 C hq h
    · have h := (if_neg q6).symm.trans h
      refine wt_bipush 28 (-4) C dX12_cut_26 rfl (by decide) ?_
      refine wt_goto 37 C dX12_cut_28 (by decide) ?_
      refine wt_sub [] rfl ?_
      exact wX12_cut_37 C hq h
  · have h := (if_pos q3).symm.trans h
    refine wt_bipush 10 (-2) C dX12_cut_8 rfl (by decide) ?_
    refine wt_goto 37 C dX12_cut_10 (by decide) ?_
    refine wt_sub [] rfl ?_
    exact wX12_cut_37 C hq h
theorem mX12_cut {l : Launch} {G : ux_G} (hok : ux_ok G shM) {v1 : Int32}  {N : ux_N} {L : ux_L} {o : Int32 × ux_N × ux_L} (h : fX12_cut v1 N L = some o) : ux_Mi l G yX12_cut cX12_cut 2 (some .int) 8 182 [.ref (gad G 0), .int v1] N L o.1 o.2.1 o.2.2 :=
  ux_ofi shM hok (by decide +kernel) (Nat.le_of_ble_eq_true rfl) (fun X hG hl C hq => by subst hG; subst hl; exact wX12_cut C  hq h)
def fX12_undo (N : ux_N) : Option (Int32 × ux_N) :=
  if (N 0 6) = 0 then (some ((-4 : Int32), N)) else ((fX12_copyRow ((21 : Int32) + ((21 : Int32) * ((ux_u N 0 6 ((N 0 6) - (1 : Int32))) 0 6))) (0 : Int32) (ux_u N 0 6 ((N 0 6) - (1 : Int32)))).bind (fun o2 => some ((o2 0 6), o2)))
set_option maxHeartbeats 4000000 in
set_option maxRecDepth 20000 in
theorem wX12_undo {X : ux_X} (C : ux_C X cX12_undo RX12 1 (some .int) 1 23 shM)   {N : ux_N} {L : ux_L} {o : Int32 × ux_N} (hq : ux_Qi X o.1 o.2 L) (h : fX12_undo N = some o) : ux_Wt X 1 0 [(0, .ref (ux_ad X 0))] [] N L := by
  refine wt_aload_n 1 0 C dX12_undo_0 rfl rfl ?_
  refine wt_getI 4 C kfX12_176 sm_0 rfl dX12_undo_1 rfl ?_
  refine wt_if_ne 7 10 C dX12_undo_4 rfl (by decide) (fun q1 => ?_) (fun q1 => ?_)
  · have h := (if_neg q1).symm.trans h
    refine wt_aload_n 11 0 C dX12_undo_10 rfl rfl ?_
    refine wt_dup 12 C dX12_undo_11 rfl rfl ?_
    refine wt_getI 15 C kfX12_176 sm_0 rfl dX12_undo_12 rfl ?_
    refine wt_iconst 16 1 C dX12_undo_15 rfl (by decide) ?_
    refine wt_isub 17 C dX12_undo_16 rfl ?_
    refine wt_putI 20 C kpX12_176 sm_0 rfl rfl rfl dX12_undo_17 rfl ?_
    refine wt_aload_n 21 0 C dX12_undo_20 rfl rfl ?_
    refine wt_bipush 23 21 C dX12_undo_21 rfl (by decide) ?_
    refine wt_bipush 25 21 C dX12_undo_23 rfl (by decide) ?_
    refine wt_aload_n 26 0 C dX12_undo_25 rfl rfl ?_
    refine wt_getI 29 C kfX12_176 sm_0 rfl dX12_undo_26 rfl ?_
    refine wt_imul 30 C dX12_undo_29 rfl ?_
    refine wt_iadd 31 C dX12_undo_30 rfl ?_
    refine wt_iconst 32 0 C dX12_undo_31 rfl (by decide) ?_
    obtain ⟨o2, hc3, h⟩ := Option.bind_eq_some_iff.mp h
    refine wt_callVv 35 [] C kvX12_173 sm_0 (mX12_copyRow (cx_ok C)  hc3) rfl rfl ⟨Nat.le_of_ble_eq_true rfl, Nat.le_of_ble_eq_true rfl⟩ (Nat.le_of_ble_eq_true rfl) dX12_undo_32 rfl ?_
    refine wt_aload_n 36 0 C dX12_undo_35 rfl rfl ?_
    refine wt_getI 39 C kfX12_176 sm_0 rfl dX12_undo_36 rfl ?_
    cases h
    exact wt_iret C hq dX12_undo_39
  · have h := (if_pos q1).symm.trans h
    refine wt_bipush 9 (-4) C dX12_undo_7 rfl (by decide) ?_
    cases h
    exact wt_iret C hq dX12_undo_9
theorem mX12_undo {l : Launch} {G : ux_G} (hok : ux_ok G shM)   {N : ux_N} {L : ux_L} {o : Int32 × ux_N} (h : fX12_undo N = some o) : ux_Mi l G yX12_undo cX12_undo 1 (some .int) 1 23 [.ref (gad G 0)] N L o.1 o.2 L :=
  ux_ofi shM hok (by decide +kernel) (Nat.le_of_ble_eq_true rfl) (fun X hG hl C hq => by subst hG; subst hl; exact wX12_undo C  hq h)
def fX12_keep (v1 : Int32) (N : ux_N) (L : ux_L) : Option (Int32 × ux_N × ux_L) :=
  (fX12_in (v1.toInt64) (0 : Int64) (1 : Int64)).bind (fun o1 => if o1 = 0 then (some ((-2 : Int32), N, L)) else ((fX12_copyRow (0 : Int32) ((189 : Int32) + ((21 : Int32) * v1)) N).bind (fun o4 => if ux_in v1 2 then ((fX12_rank (ux_u o4 4 (v1.toNatClampNeg) (vp_nar .boolean (1 : Int32))) L).bind (fun o7 => some (o7.1, (ux_u o4 4 (v1.toNatClampNeg) (vp_nar .boolean (1 : Int32))), o7.2))) else none)))
set_option maxHeartbeats 4000000 in
set_option maxRecDepth 20000 in
theorem wX12_keep {X : ux_X} (C : ux_C X cX12_keep RX12 2 (some .int) 7 160 shM) {v1 : Int32}  {N : ux_N} {L : ux_L} {o : Int32 × ux_N × ux_L} (hq : ux_Qi X o.1 o.2.1 o.2.2) (h : fX12_keep v1 N L = some o) : ux_Wt X 2 0 [(0, .ref (ux_ad X 0)), (1, .int v1)] [] N L := by
  refine wt_iload_n 1 1 C dX12_keep_0 rfl rfl ?_
  refine wt_i2l 2 C dX12_keep_1 rfl ?_
  refine wt_lconst 3 0 C dX12_keep_2 rfl (by decide) ?_
  refine wt_lconst 4 1 C dX12_keep_3 rfl (by decide) ?_
  obtain ⟨o1, hc2, h⟩ := Option.bind_eq_some_iff.mp h
  refine wt_callSi 7 [] C ksX12_94 (mX12_in (cx_ok C)  hc2) rfl rfl ⟨Nat.le_of_ble_eq_true rfl, Nat.le_of_ble_eq_true rfl⟩ (Nat.le_of_ble_eq_true rfl) dX12_keep_4 rfl ?_
  refine wt_if_ne 10 13 C dX12_keep_7 rfl (by decide) (fun q3 => ?_) (fun q3 => ?_)
  · have h := (if_neg q3).symm.trans h
    refine wt_aload_n 14 0 C dX12_keep_13 rfl rfl ?_
    refine wt_iconst 15 0 C dX12_keep_14 rfl (by decide) ?_
    refine wt_sipush 18 189 C dX12_keep_15 rfl (by decide) ?_
    refine wt_bipush 20 21 C dX12_keep_18 rfl (by decide) ?_
    refine wt_iload_n 21 1 C dX12_keep_20 rfl rfl ?_
    refine wt_imul 22 C dX12_keep_21 rfl ?_
    refine wt_iadd 23 C dX12_keep_22 rfl ?_
    obtain ⟨o4, hc5, h⟩ := Option.bind_eq_some_iff.mp h
    refine wt_callVv 26 [] C kvX12_173 sm_0 (mX12_copyRow (cx_ok C)  hc5) rfl rfl ⟨Nat.le_of_ble_eq_true rfl, Nat.le_of_ble_eq_true rfl⟩ (Nat.le_of_ble_eq_true rfl) dX12_keep_23 rfl ?_
    refine wt_aload_n 27 0 C dX12_keep_26 rfl rfl ?_
    refine wt_getR 30 C kfX12_19 sm_0 rfl dX12_keep_27 rfl ?_
    refine wt_iload_n 31 1 C dX12_keep_30 rfl rfl ?_
    refine wt_iconst 32 1 C dX12_keep_31 rfl (by decide) ?_
    obtain ⟨hi6, h⟩ := ux_guard h
    refine wt_zast 33 (v1.toNatClampNeg) C sm_4 rfl hi6 dX12_keep_32 rfl ?_
    refine wt_aload_n 34 0 C dX12_keep_33 rfl rfl ?_
    obtain ⟨o7, hc8, h⟩ := Option.bind_eq_some_iff.mp h
    refine wt_callVi 37 [] C kvX12_223 sm_0 (mX12_rank (cx_ok C)  hc8) rfl rfl ⟨Nat.le_of_ble_eq_true rfl, Nat.le_of_ble_eq_true rfl⟩ (Nat.le_of_ble_eq_true rfl) dX12_keep_34 rfl ?_
    cases h
    exact wt_iret C hq dX12_keep_37
  · have h := (if_pos q3).symm.trans h
    refine wt_bipush 12 (-2) C dX12_keep_10 rfl (by decide) ?_
    cases h
    exact wt_iret C hq dX12_keep_12
theorem mX12_keep {l : Launch} {G : ux_G} (hok : ux_ok G shM) {v1 : Int32}  {N : ux_N} {L : ux_L} {o : Int32 × ux_N × ux_L} (h : fX12_keep v1 N L = some o) : ux_Mi l G yX12_keep cX12_keep 2 (some .int) 7 160 [.ref (gad G 0), .int v1] N L o.1 o.2.1 o.2.2 :=
  ux_ofi shM hok (by decide +kernel) (Nat.le_of_ble_eq_true rfl) (fun X hG hl C hq => by subst hG; subst hl; exact wX12_keep C  hq h)
def fX12_back (v1 : Int32) (N : ux_N) (L : ux_L) : Option (Int32 × ux_N × ux_L) :=
  (fX12_in (v1.toInt64) (0 : Int64) (1 : Int64)).bind (fun o1 => if o1 = 0 then (some ((-2 : Int32), N, L)) else (if ux_in v1 2 then (if (N 4 (v1.toNatClampNeg)) = 0 then (some ((-4 : Int32), N, L)) else ((fX12_copyRow ((189 : Int32) + ((21 : Int32) * v1)) (0 : Int32) N).bind (fun o6 => (fX12_rank (ux_u o6 0 6 (0 : Int32)) L).bind (fun o8 => some (o8.1, (ux_u o6 0 6 (0 : Int32)), o8.2))))) else none))
set_option maxHeartbeats 4000000 in
set_option maxRecDepth 20000 in
theorem wX12_back {X : ux_X} (C : ux_C X cX12_back RX12 2 (some .int) 7 160 shM) {v1 : Int32}  {N : ux_N} {L : ux_L} {o : Int32 × ux_N × ux_L} (hq : ux_Qi X o.1 o.2.1 o.2.2) (h : fX12_back v1 N L = some o) : ux_Wt X 2 0 [(0, .ref (ux_ad X 0)), (1, .int v1)] [] N L := by
  refine wt_iload_n 1 1 C dX12_back_0 rfl rfl ?_
  refine wt_i2l 2 C dX12_back_1 rfl ?_
  refine wt_lconst 3 0 C dX12_back_2 rfl (by decide) ?_
  refine wt_lconst 4 1 C dX12_back_3 rfl (by decide) ?_
  obtain ⟨o1, hc2, h⟩ := Option.bind_eq_some_iff.mp h
  refine wt_callSi 7 [] C ksX12_94 (mX12_in (cx_ok C)  hc2) rfl rfl ⟨Nat.le_of_ble_eq_true rfl, Nat.le_of_ble_eq_true rfl⟩ (Nat.le_of_ble_eq_true rfl) dX12_back_4 rfl ?_
  refine wt_if_ne 10 13 C dX12_back_7 rfl (by decide) (fun q3 => ?_) (fun q3 => ?_)
  · have h := (if_neg q3).symm.trans h
    refine wt_aload_n 14 0 C dX12_back_13 rfl rfl ?_
    refine wt_getR 17 C kfX12_19 sm_0 rfl dX12_back_14 rfl ?_
    refine wt_iload_n 18 1 C dX12_back_17 rfl rfl ?_
    obtain ⟨hi4, h⟩ := ux_guard h
    refine wt_zald 19 (v1.toNatClampNeg) C sm_4 rfl hi4 dX12_back_18 rfl ?_
    refine wt_if_ne 22 25 C dX12_back_19 rfl (by decide) (fun q5 => ?_) (fun q5 => ?_)
    · have h := (if_neg q5).symm.trans h
      refine wt_aload_n 26 0 C dX12_back_25 rfl rfl ?_
      refine wt_sipush 29 189 C dX12_back_26 rfl (by decide) ?_
      refine wt_bipush 31 21 C dX12_back_29 rfl (by decide) ?_
      refine wt_iload_n 32 1 C dX12_back_31 rfl rfl ?_
      refine wt_imul 33 C dX12_back_32 rfl ?_
      refine wt_iadd 34 C dX12_back_33 rfl ?_
      refine wt_iconst 35 0 C dX12_back_34 rfl (by decide) ?_
      obtain ⟨o6, hc7, h⟩ := Option.bind_eq_some_iff.mp h
      refine wt_callVv 38 [] C kvX12_173 sm_0 (mX12_copyRow (cx_ok C)  hc7) rfl rfl ⟨Nat.le_of_ble_eq_true rfl, Nat.le_of_ble_eq_true rfl⟩ (Nat.le_of_ble_eq_true rfl) dX12_back_35 rfl ?_
      refine wt_aload_n 39 0 C dX12_back_38 rfl rfl ?_
      refine wt_iconst 40 0 C dX12_back_39 rfl (by decide) ?_
      refine wt_putI 43 C kpX12_176 sm_0 rfl rfl rfl dX12_back_40 rfl ?_
      refine wt_aload_n 44 0 C dX12_back_43 rfl rfl ?_
      obtain ⟨o8, hc9, h⟩ := Option.bind_eq_some_iff.mp h
      refine wt_callVi 47 [] C kvX12_223 sm_0 (mX12_rank (cx_ok C)  hc9) rfl rfl ⟨Nat.le_of_ble_eq_true rfl, Nat.le_of_ble_eq_true rfl⟩ (Nat.le_of_ble_eq_true rfl) dX12_back_44 rfl ?_
      cases h
      exact wt_iret C hq dX12_back_47
    · have h := (if_pos q5).symm.trans h
      refine wt_bipush 24 (-4) C dX12_back_22 rfl (by decide) ?_
      cases h
      exact wt_iret C hq dX12_back_24
  · have h := (if_pos q3).symm.trans h
    refine wt_bipush 12 (-2) C dX12_back_10 rfl (by decide) ?_
    cases h
    exact wt_iret C hq dX12_back_12
theorem mX12_back {l : Launch} {G : ux_G} (hok : ux_ok G shM) {v1 : Int32}  {N : ux_N} {L : ux_L} {o : Int32 × ux_N × ux_L} (h : fX12_back v1 N L = some o) : ux_Mi l G yX12_back cX12_back 2 (some .int) 7 160 [.ref (gad G 0), .int v1] N L o.1 o.2.1 o.2.2 :=
  ux_ofi shM hok (by decide +kernel) (Nat.le_of_ble_eq_true rfl) (fun X hG hl C hq => by subst hG; subst hl; exact wX12_back C  hq h)
def fX12_island_24b_55 (v1 : Int32) (v3 : Int32) (s0 : Int32) (s1 : Int32) (N : ux_N) (L : ux_L) : Option ((Int32 × Int32) ⊕ (Int32)) :=
  some (.inl ((s1 ||| s0), (v3 + 1)))
set_option maxHeartbeats 4000000 in
set_option maxRecDepth 20000 in
theorem wX12_island_24b_55 {X : ux_X} (C : ux_C X cX12_island RX12 4 (some .int) 8 182 shM) {v1 : Int32} {v3 : Int32} {s0 : Int32} {s1 : Int32}  {N : ux_N} {L : ux_L} {o : (Int32 × Int32) ⊕ (Int32)} (hin : ∀ s : Int32 × Int32, o = .inl s → ux_Wt X 4 24 [(0, .ref (ux_ad X 0)), (1, .int v1), (2, .int s.1), (3, .int s.2)] [] N L) (hex0 : ∀ e : Int32, o = .inr (e) → ux_Wt X 4 63 [(2, .int e)] [] N L) (h : fX12_island_24b_55 v1 v3 s0 s1 N L = some o) : ux_Wt X 4 55 [(0, .ref (ux_ad X 0)), (1, .int v1), (3, .int v3)] [.int s0, .int s1] N L := by
  refine wt_ior 56 C dX12_island_55 rfl ?_
  refine wt_istore_n 57 [(2, .int (s1 ||| s0)), (0, .ref (ux_ad X 0)), (1, .int v1), (3, .int v3)] C dX12_island_56 rfl (by decide) rfl ?_
  refine wt_iinc 60 3 [(3, .int (v3 + 1)), (2, .int (s1 ||| s0)), (0, .ref (ux_ad X 0)), (1, .int v1)] (v3 + 1) C dX12_island_57 rfl rfl (by rfl) (by decide) rfl ?_
  refine wt_goto 24 C dX12_island_60 (by decide) ?_
  refine wt_sub [2, 3, 1, 0] rfl ?_
  exact hin _ (Option.some.inj h).symm
def fX12_island_24b (v1 : Int32) (v2 : Int32) (v3 : Int32) (N : ux_N) (L : ux_L) : Option ((Int32 × Int32) ⊕ (Int32)) :=
  if (N 0 1) ≤ v3 then (some (.inr (v2))) else (if ux_in v3 8 then (if ux_in v1 8 then (if (N 14 (v3.toNatClampNeg)) = (N 14 (v1.toNatClampNeg)) then (fX12_island_24b_55 v1 v3 ((1 : Int32) <<< (v3 &&& 31)) v2 N L) else (fX12_island_24b_55 v1 v3 (0 : Int32) v2 N L)) else none) else none)
set_option maxHeartbeats 4000000 in
set_option maxRecDepth 20000 in
theorem wX12_island_24b {X : ux_X} (C : ux_C X cX12_island RX12 4 (some .int) 8 182 shM) {v1 : Int32} {v2 : Int32} {v3 : Int32}  {N : ux_N} {L : ux_L} {o : (Int32 × Int32) ⊕ (Int32)} (hin : ∀ s : Int32 × Int32, o = .inl s → ux_Wt X 4 24 [(0, .ref (ux_ad X 0)), (1, .int v1), (2, .int s.1), (3, .int s.2)] [] N L) (hex0 : ∀ e : Int32, o = .inr (e) → ux_Wt X 4 63 [(2, .int e)] [] N L) (h : fX12_island_24b v1 v2 v3 N L = some o) : ux_Wt X 4 24 [(0, .ref (ux_ad X 0)), (1, .int v1), (2, .int v2), (3, .int v3)] [] N L := by
  refine wt_iload_n 25 3 C dX12_island_24 rfl rfl ?_
  refine wt_aload_n 26 0 C dX12_island_25 rfl rfl ?_
  refine wt_getI 29 C kfX12_82 sm_0 rfl dX12_island_26 rfl ?_
  refine wt_icmp_ge 32 63 C dX12_island_29 rfl (by decide) (fun q1 => ?_) (fun q1 => ?_)
  · have h := (if_pos q1).symm.trans h
    refine wt_sub [2] rfl ?_
    exact hex0 _ (Option.some.inj h).symm
  · have h := (if_neg q1).symm.trans h
    refine wt_iload_n 33 2 C dX12_island_32 rfl rfl ?_
    refine wt_aload_n 34 0 C dX12_island_33 rfl rfl ?_
    refine wt_getR 37 C kfX12_51 sm_0 rfl dX12_island_34 rfl ?_
    refine wt_iload_n 38 3 C dX12_island_37 rfl rfl ?_
    obtain ⟨hi2, h⟩ := ux_guard h
    refine wt_iald 39 (v3.toNatClampNeg) C sm_14 rfl hi2 dX12_island_38 rfl ?_
    refine wt_aload_n 40 0 C dX12_island_39 rfl rfl ?_
    refine wt_getR 43 C kfX12_51 sm_0 rfl dX12_island_40 rfl ?_
    refine wt_iload_n 44 1 C dX12_island_43 rfl rfl ?_
    obtain ⟨hi3, h⟩ := ux_guard h
    refine wt_iald 45 (v1.toNatClampNeg) C sm_14 rfl hi3 dX12_island_44 rfl ?_
    refine wt_icmp_ne 48 54 C dX12_island_45 rfl (by decide) (fun q4 => ?_) (fun q4 => ?_)
    · have h := (if_neg q4).symm.trans h
      refine wt_iconst 55 0 C dX12_island_54 rfl (by decide) ?_
      refine wt_sub [0, 1, 3] rfl ?_
      exact wX12_island_24b_55 C hin hex0 h
    · have h := (if_pos q4).symm.trans h
      refine wt_iconst 49 1 C dX12_island_48 rfl (by decide) ?_
      refine wt_iload_n 50 3 C dX12_island_49 rfl rfl ?_
      refine wt_ishl 51 C dX12_island_50 rfl ?_
      refine wt_goto 55 C dX12_island_51 (by decide) ?_
      refine wt_sub [0, 1, 3] rfl ?_
      exact wX12_island_24b_55 C hin hex0 h
def fX12_island (v1 : Int32) (N : ux_N) (L : ux_L) : Option (Int32 × ux_N × ux_L) :=
  (fX12_isNode v1 N).bind (fun o1 => if o1 = 0 then (some ((-2 : Int32), N, L)) else ((fX12_tree N L).bind (fun o4 => (fX12_layParts o4.1 N).bind (fun o6 => (ux_lp (fun s : Int32 × Int32 => fX12_island_24b v1 s.1 s.2 o6.2 o4.2) ux_fu ((0 : Int32), (0 : Int32))).bind (fun e15 => some (e15, o6.2, o4.2))))))
set_option maxHeartbeats 4000000 in
set_option maxRecDepth 20000 in
theorem wX12_island {X : ux_X} (C : ux_C X cX12_island RX12 4 (some .int) 8 182 shM) {v1 : Int32}  {N : ux_N} {L : ux_L} {o : Int32 × ux_N × ux_L} (hq : ux_Qi X o.1 o.2.1 o.2.2) (h : fX12_island v1 N L = some o) : ux_Wt X 4 0 [(0, .ref (ux_ad X 0)), (1, .int v1)] [] N L := by
  refine wt_aload_n 1 0 C dX12_island_0 rfl rfl ?_
  refine wt_iload_n 2 1 C dX12_island_1 rfl rfl ?_
  obtain ⟨o1, hc2, h⟩ := Option.bind_eq_some_iff.mp h
  refine wt_callVi 5 [] C kvX12_239 sm_0 (mX12_isNode (cx_ok C)  hc2) rfl rfl ⟨Nat.le_of_ble_eq_true rfl, Nat.le_of_ble_eq_true rfl⟩ (Nat.le_of_ble_eq_true rfl) dX12_island_2 rfl ?_
  refine wt_if_ne 8 11 C dX12_island_5 rfl (by decide) (fun q3 => ?_) (fun q3 => ?_)
  · have h := (if_neg q3).symm.trans h
    refine wt_aload_n 12 0 C dX12_island_11 rfl rfl ?_
    refine wt_aload_n 13 0 C dX12_island_12 rfl rfl ?_
    obtain ⟨o4, hc5, h⟩ := Option.bind_eq_some_iff.mp h
    refine wt_callVi 16 [.ref (ux_ad X 0)] C kvX12_226 sm_0 (mX12_tree (cx_ok C)  hc5) rfl rfl ⟨Nat.le_of_ble_eq_true rfl, Nat.le_of_ble_eq_true rfl⟩ (Nat.le_of_ble_eq_true rfl) dX12_island_13 rfl ?_
    obtain ⟨o6, hc7, h⟩ := Option.bind_eq_some_iff.mp h
    refine wt_callVi 19 [] C kvX12_187 sm_0 (mX12_layParts (cx_ok C)  hc7) rfl rfl ⟨Nat.le_of_ble_eq_true rfl, Nat.le_of_ble_eq_true rfl⟩ (Nat.le_of_ble_eq_true rfl) dX12_island_16 rfl ?_
    refine wt_pop 20 C dX12_island_19 rfl rfl ?_
    refine wt_iconst 21 0 C dX12_island_20 rfl (by decide) ?_
    refine wt_istore_n 22 [(2, .int (0 : Int32)), (0, .ref (ux_ad X 0)), (1, .int v1)] C dX12_island_21 rfl (by decide) rfl ?_
    refine wt_iconst 23 0 C dX12_island_22 rfl (by decide) ?_
    refine wt_istore_n 24 [(3, .int (0 : Int32)), (2, .int (0 : Int32)), (0, .ref (ux_ad X 0)), (1, .int v1)] C dX12_island_23 rfl (by decide) rfl ?_
    obtain ⟨e8, hl9, h⟩ := Option.bind_eq_some_iff.mp h
    refine wt_sub [2, 3, 1, 0] rfl ?_
    refine ux_loop (fun s : Int32 × Int32 => fX12_island_24b v1 s.1 s.2 o6.2 o4.2) (fun s : Int32 × Int32 => ux_Wt X 4 24 [(0, .ref (ux_ad X 0)), (1, .int v1), (2, .int s.1), (3, .int s.2)] [] o6.2 o4.2) (e := e8) ?_ hl9
    intro s10 o11 hb12 hi13 hx14
    refine wX12_island_24b C hi13 (fun x0 he => ?_) hb12
    · obtain ⟨e15, rfl⟩ : ∃ z, z = x0 := ⟨_, rfl⟩
      have h9 := hx14 _ he
      subst h9
      refine wt_iload_n 64 0 C dX12_island_63 rfl rfl ?_
      cases h
      exact wt_iret C hq dX12_island_64
  · have h := (if_pos q3).symm.trans h
    refine wt_bipush 10 (-2) C dX12_island_8 rfl (by decide) ?_
    cases h
    exact wt_iret C hq dX12_island_10
theorem mX12_island {l : Launch} {G : ux_G} (hok : ux_ok G shM) {v1 : Int32}  {N : ux_N} {L : ux_L} {o : Int32 × ux_N × ux_L} (h : fX12_island v1 N L = some o) : ux_Mi l G yX12_island cX12_island 4 (some .int) 8 182 [.ref (gad G 0), .int v1] N L o.1 o.2.1 o.2.2 :=
  ux_ofi shM hok (by decide +kernel) (Nat.le_of_ble_eq_true rfl) (fun X hG hl C hq => by subst hG; subst hl; exact wX12_island C  hq h)
def fX12_weak_43b_113 (v1 : Int32) (v2 : Int32) (v3 : Int32) (v4 : Int32) (v5 : Int32) (N : ux_N) (L : ux_L) : Option ((Int32 × Int32) ⊕ (Int32)) :=
  some (.inl (v4, (v5 + 1)))
set_option maxHeartbeats 4000000 in
set_option maxRecDepth 20000 in
theorem wX12_weak_43b_113 {X : ux_X} (C : ux_C X cX12_weak RX12 7 (some .int) 6 140 shM) {v1 : Int32} {v2 : Int32} {v3 : Int32} {v4 : Int32} {v5 : Int32}  {N : ux_N} {L : ux_L} {o : (Int32 × Int32) ⊕ (Int32)} (hin : ∀ s : Int32 × Int32, o = .inl s → ux_Wt X 7 43 [(0, .ref (ux_ad X 0)), (1, .int v1), (2, .int v2), (3, .int v3), (4, .int s.1), (5, .int s.2)] [] N L) (hex0 : ∀ e : Int32, o = .inr (e) → ux_Wt X 7 119 [(1, .int v1), (4, .int e)] [] N L) (h : fX12_weak_43b_113 v1 v2 v3 v4 v5 N L = some o) : ux_Wt X 7 113 [(0, .ref (ux_ad X 0)), (1, .int v1), (2, .int v2), (3, .int v3), (4, .int v4), (5, .int v5)] [] N L := by
  refine wt_iinc 116 5 [(5, .int (v5 + 1)), (0, .ref (ux_ad X 0)), (1, .int v1), (2, .int v2), (3, .int v3), (4, .int v4)] (v5 + 1) C dX12_weak_113 rfl rfl (by rfl) (by decide) rfl ?_
  refine wt_goto 43 C dX12_weak_116 (by decide) ?_
  refine wt_sub [1, 2, 3, 4, 5, 0] rfl ?_
  exact hin _ (Option.some.inj h).symm
def fX12_weak_43b_85 (v1 : Int32) (v2 : Int32) (v3 : Int32) (v4 : Int32) (v5 : Int32) (s0 : Int32) (N : ux_N) (L : ux_L) : Option ((Int32 × Int32) ⊕ (Int32)) :=
  if s0 = 0 then (fX12_weak_43b_113 v1 v2 v3 v4 v5 N L) else ((fX12_rankAt ((16 : Int32) * (v2 &&& (v5 ^^^ (-1 : Int32)))) L).bind (fun o2 => if v3 ≤ o2 then (fX12_weak_43b_113 v1 v2 v3 v4 v5 N L) else (fX12_weak_43b_113 v1 v2 v3 v5 v5 N L)))
set_option maxHeartbeats 4000000 in
set_option maxRecDepth 20000 in
theorem wX12_weak_43b_85 {X : ux_X} (C : ux_C X cX12_weak RX12 7 (some .int) 6 140 shM) {v1 : Int32} {v2 : Int32} {v3 : Int32} {v4 : Int32} {v5 : Int32} {s0 : Int32}  {N : ux_N} {L : ux_L} {o : (Int32 × Int32) ⊕ (Int32)} (hin : ∀ s : Int32 × Int32, o = .inl s → ux_Wt X 7 43 [(0, .ref (ux_ad X 0)), (1, .int v1), (2, .int v2), (3, .int v3), (4, .int s.1), (5, .int s.2)] [] N L) (hex0 : ∀ e : Int32, o = .inr (e) → ux_Wt X 7 119 [(1, .int v1), (4, .int e)] [] N L) (h : fX12_weak_43b_85 v1 v2 v3 v4 v5 s0 N L = some o) : ux_Wt X 7 85 [(0, .ref (ux_ad X 0)), (1, .int v1), (2, .int v2), (3, .int v3), (4, .int v4), (5, .int v5)] [.int s0] N L := by
  refine wt_istore 87 [(6, .int s0), (0, .ref (ux_ad X 0)), (1, .int v1), (2, .int v2), (3, .int v3), (4, .int v4), (5, .int v5)] C dX12_weak_85 rfl (by decide) rfl ?_
  refine wt_iload 89 0 C dX12_weak_87 rfl rfl ?_
  refine wt_if_eq 92 113 C dX12_weak_89 rfl (by decide) (fun q1 => ?_) (fun q1 => ?_)
  · have h := (if_pos q1).symm.trans h
    refine wt_sub [1, 2, 3, 4, 5, 6] rfl ?_
    exact wX12_weak_43b_113 C hin hex0 h
  · have h := (if_neg q1).symm.trans h
    refine wt_aload_n 93 1 C dX12_weak_92 rfl rfl ?_
    refine wt_bipush 95 16 C dX12_weak_93 rfl (by decide) ?_
    refine wt_iload_n 96 3 C dX12_weak_95 rfl rfl ?_
    refine wt_iload 98 6 C dX12_weak_96 rfl rfl ?_
    refine wt_iconst 99 (-1) C dX12_weak_98 rfl (by decide) ?_
    refine wt_ixor 100 C dX12_weak_99 rfl ?_
    refine wt_iand 101 C dX12_weak_100 rfl ?_
    refine wt_imul 102 C dX12_weak_101 rfl ?_
    obtain ⟨o2, hc3, h⟩ := Option.bind_eq_some_iff.mp h
    refine wt_callVi 105 [] C kvX12_217 sm_0 (mX12_rankAt (cx_ok C)  hc3) rfl rfl ⟨Nat.le_of_ble_eq_true rfl, Nat.le_of_ble_eq_true rfl⟩ (Nat.le_of_ble_eq_true rfl) dX12_weak_102 rfl ?_
    refine wt_iload_n 106 4 C dX12_weak_105 rfl rfl ?_
    refine wt_icmp_ge 109 113 C dX12_weak_106 rfl (by decide) (fun q4 => ?_) (fun q4 => ?_)
    · have h := (if_pos q4).symm.trans h
      refine wt_sub [1, 2, 3, 4, 5, 6] rfl ?_
      exact wX12_weak_43b_113 C hin hex0 h
    · have h := (if_neg q4).symm.trans h
      refine wt_iload 111 6 C dX12_weak_109 rfl rfl ?_
      refine wt_istore 113 [(4, .int v5), (6, .int s0), (0, .ref (ux_ad X 0)), (1, .int v1), (2, .int v2), (3, .int v3), (5, .int v5)] C dX12_weak_111 rfl (by decide) rfl ?_
      refine wt_sub [2, 3, 4, 5, 0, 6] rfl ?_
      exact wX12_weak_43b_113 C hin hex0 h
def fX12_weak_43b_84 (v1 : Int32) (v2 : Int32) (v3 : Int32) (v4 : Int32) (v5 : Int32) (N : ux_N) (L : ux_L) : Option ((Int32 × Int32) ⊕ (Int32)) :=
  fX12_weak_43b_85 v1 v2 v3 v4 v5 (0 : Int32) N L
set_option maxHeartbeats 4000000 in
set_option maxRecDepth 20000 in
theorem wX12_weak_43b_84 {X : ux_X} (C : ux_C X cX12_weak RX12 7 (some .int) 6 140 shM) {v1 : Int32} {v2 : Int32} {v3 : Int32} {v4 : Int32} {v5 : Int32}  {N : ux_N} {L : ux_L} {o : (Int32 × Int32) ⊕ (Int32)} (hin : ∀ s : Int32 × Int32, o = .inl s → ux_Wt X 7 43 [(0, .ref (ux_ad X 0)), (1, .int v1), (2, .int v2), (3, .int v3), (4, .int s.1), (5, .int s.2)] [] N L) (hex0 : ∀ e : Int32, o = .inr (e) → ux_Wt X 7 119 [(1, .int v1), (4, .int e)] [] N L) (h : fX12_weak_43b_84 v1 v2 v3 v4 v5 N L = some o) : ux_Wt X 7 84 [(0, .ref (ux_ad X 0)), (1, .int v1), (2, .int v2), (3, .int v3), (4, .int v4), (5, .int v5)] [] N L := by
  refine wt_iconst 85 0 C dX12_weak_84 rfl (by decide) ?_
  exact wX12_weak_43b_85 C hin hex0 h
def fX12_weak_43b_80 (v1 : Int32) (v2 : Int32) (v3 : Int32) (v4 : Int32) (v5 : Int32) (N : ux_N) (L : ux_L) : Option ((Int32 × Int32) ⊕ (Int32)) :=
  fX12_weak_43b_85 v1 v2 v3 v4 v5 (1 : Int32) N L
set_option maxHeartbeats 4000000 in
set_option maxRecDepth 20000 in
theorem wX12_weak_43b_80 {X : ux_X} (C : ux_C X cX12_weak RX12 7 (some .int) 6 140 shM) {v1 : Int32} {v2 : Int32} {v3 : Int32} {v4 : Int32} {v5 : Int32}  {N : ux_N} {L : ux_L} {o : (Int32 × Int32) ⊕ (Int32)} (hin : ∀ s : Int32 × Int32, o = .inl s → ux_Wt X 7 43 [(0, .ref (ux_ad X 0)), (1, .int v1), (2, .int v2), (3, .int v3), (4, .int s.1), (5, .int s.2)] [] N L) (hex0 : ∀ e : Int32, o = .inr (e) → ux_Wt X 7 119 [(1, .int v1), (4, .int e)] [] N L) (h : fX12_weak_43b_80 v1 v2 v3 v4 v5 N L = some o) : ux_Wt X 7 80 [(0, .ref (ux_ad X 0)), (1, .int v1), (2, .int v2), (3, .int v3), (4, .int v4), (5, .int v5)] [] N L := by
  refine wt_iconst 81 1 C dX12_weak_80 rfl (by decide) ?_
  refine wt_goto 85 C dX12_weak_81 (by decide) ?_
  exact wX12_weak_43b_85 C hin hex0 h
def fX12_weak_43b (v1 : Int32) (v2 : Int32) (v3 : Int32) (v4 : Int32) (v5 : Int32) (N : ux_N) (L : ux_L) : Option ((Int32 × Int32) ⊕ (Int32)) :=
  if v2 < v5 then (some (.inr (v4))) else (if (v5 &&& (N 1 1)) = 0 then (if v4 = (-1 : Int32) then (fX12_weak_43b_80 v1 v2 v3 v4 v5 N L) else ((fX12_ones v5).bind (fun o4 => (fX12_ones v4).bind (fun o6 => if o6 ≤ o4 then (fX12_weak_43b_84 v1 v2 v3 v4 v5 N L) else (fX12_weak_43b_80 v1 v2 v3 v4 v5 N L))))) else (fX12_weak_43b_84 v1 v2 v3 v4 v5 N L))
set_option maxHeartbeats 4000000 in
set_option maxRecDepth 20000 in
theorem wX12_weak_43b {X : ux_X} (C : ux_C X cX12_weak RX12 7 (some .int) 6 140 shM) {v1 : Int32} {v2 : Int32} {v3 : Int32} {v4 : Int32} {v5 : Int32}  {N : ux_N} {L : ux_L} {o : (Int32 × Int32) ⊕ (Int32)} (hin : ∀ s : Int32 × Int32, o = .inl s → ux_Wt X 7 43 [(0, .ref (ux_ad X 0)), (1, .int v1), (2, .int v2), (3, .int v3), (4, .int s.1), (5, .int s.2)] [] N L) (hex0 : ∀ e : Int32, o = .inr (e) → ux_Wt X 7 119 [(1, .int v1), (4, .int e)] [] N L) (h : fX12_weak_43b v1 v2 v3 v4 v5 N L = some o) : ux_Wt X 7 43 [(0, .ref (ux_ad X 0)), (1, .int v1), (2, .int v2), (3, .int v3), (4, .int v4), (5, .int v5)] [] N L := by
  refine wt_iload 45 5 C dX12_weak_43 rfl rfl ?_
  refine wt_iload_n 46 2 C dX12_weak_45 rfl rfl ?_
  refine wt_icmp_gt 49 119 C dX12_weak_46 rfl (by decide) (fun q1 => ?_) (fun q1 => ?_)
  · have h := (if_pos q1).symm.trans h
    refine wt_sub [1, 4] rfl ?_
    exact hex0 _ (Option.some.inj h).symm
  · have h := (if_neg q1).symm.trans h
    refine wt_iload 51 5 C dX12_weak_49 rfl rfl ?_
    refine wt_aload_n 52 0 C dX12_weak_51 rfl rfl ?_
    refine wt_getR 55 C kfX12_7 sm_0 rfl dX12_weak_52 rfl ?_
    refine wt_iconst 56 1 C dX12_weak_55 rfl (by decide) ?_
    refine wt_iald 57 1 C sm_1 (by decide) (by decide) dX12_weak_56 rfl ?_
    refine wt_iand 58 C dX12_weak_57 rfl ?_
    refine wt_if_ne 61 84 C dX12_weak_58 rfl (by decide) (fun q2 => ?_) (fun q2 => ?_)
    · have h := (if_neg q2).symm.trans h
      exact wX12_weak_43b_84 C hin hex0 h
    · have h := (if_pos q2).symm.trans h
      refine wt_iload 63 4 C dX12_weak_61 rfl rfl ?_
      refine wt_iconst 64 (-1) C dX12_weak_63 rfl (by decide) ?_
      refine wt_icmp_eq 67 80 C dX12_weak_64 rfl (by decide) (fun q3 => ?_) (fun q3 => ?_)
      · have h := (if_pos q3).symm.trans h
        exact wX12_weak_43b_80 C hin hex0 h
      · have h := (if_neg q3).symm.trans h
        refine wt_iload 69 5 C dX12_weak_67 rfl rfl ?_
        obtain ⟨o4, hc5, h⟩ := Option.bind_eq_some_iff.mp h
        refine wt_callSi 72 [] C ksX12_183 (mX12_ones (cx_ok C)  hc5) rfl rfl ⟨Nat.le_of_ble_eq_true rfl, Nat.le_of_ble_eq_true rfl⟩ (Nat.le_of_ble_eq_true rfl) dX12_weak_69 rfl ?_
        refine wt_iload 74 4 C dX12_weak_72 rfl rfl ?_
        obtain ⟨o6, hc7, h⟩ := Option.bind_eq_some_iff.mp h
        refine wt_callSi 77 [.int o4] C ksX12_183 (mX12_ones (cx_ok C)  hc7) rfl rfl ⟨Nat.le_of_ble_eq_true rfl, Nat.le_of_ble_eq_true rfl⟩ (Nat.le_of_ble_eq_true rfl) dX12_weak_74 rfl ?_
        refine wt_icmp_ge 80 84 C dX12_weak_77 rfl (by decide) (fun q8 => ?_) (fun q8 => ?_)
        · have h := (if_pos q8).symm.trans h
          exact wX12_weak_43b_84 C hin hex0 h
        · have h := (if_neg q8).symm.trans h
          exact wX12_weak_43b_80 C hin hex0 h
def fX12_weak_139 (s0 : Int32) (N : ux_N) (L : ux_L) : Option (Int32 × ux_L) :=
  some (s0, L)
set_option maxHeartbeats 4000000 in
set_option maxRecDepth 20000 in
theorem wX12_weak_139 {X : ux_X} (C : ux_C X cX12_weak RX12 7 (some .int) 6 140 shM) {s0 : Int32}  {N : ux_N} {L : ux_L} {o : Int32 × ux_L} (hq : ux_Qi X o.1 N o.2) (h : fX12_weak_139 s0 N L = some o) : ux_Wt X 7 139 [] [.int s0] N L := by
  cases h
  exact wt_iret C hq dX12_weak_139
def fX12_weak_129 (v4 : Int32) (N : ux_N) (L : ux_L) : Option (Int32 × ux_L) :=
  fX12_weak_139 v4 N L
set_option maxHeartbeats 4000000 in
set_option maxRecDepth 20000 in
theorem wX12_weak_129 {X : ux_X} (C : ux_C X cX12_weak RX12 7 (some .int) 6 140 shM) {v4 : Int32}  {N : ux_N} {L : ux_L} {o : Int32 × ux_L} (hq : ux_Qi X o.1 N o.2) (h : fX12_weak_129 v4 N L = some o) : ux_Wt X 7 129 [(4, .int v4)] [] N L := by
  refine wt_iload 131 0 C dX12_weak_129 rfl rfl ?_
  refine wt_goto 139 C dX12_weak_131 (by decide) ?_
  refine wt_sub [] rfl ?_
  exact wX12_weak_139 C hq h
def fX12_weak (v1 : Int32) (N : ux_N) (L : ux_L) : Option (Int32 × ux_L) :=
  (fX12_in (v1.toInt64) (0 : Int64) (1 : Int64)).bind (fun o1 => if o1 = 0 then (some ((-3 : Int32), L)) else ((fX12_layAll N L).bind (fun o4 => (fX12_rankAt ((16 : Int32) * (((1 : Int32) <<< ((N 1 0) &&& 31)) - (1 : Int32))) o4).bind (fun o6 => (ux_lp (fun s : Int32 × Int32 => fX12_weak_43b v1 (((1 : Int32) <<< ((N 1 0) &&& 31)) - (1 : Int32)) o6 s.1 s.2 N o4) ux_fu ((-1 : Int32), (1 : Int32))).bind (fun e15 => if v1 = 0 then (fX12_weak_129 e15 N o4) else (if e15 = (-1 : Int32) then (fX12_weak_129 e15 N o4) else ((fX12_ones e15).bind (fun o18 => fX12_weak_139 o18 N o4))))))))
set_option maxHeartbeats 4000000 in
set_option maxRecDepth 20000 in
theorem wX12_weak {X : ux_X} (C : ux_C X cX12_weak RX12 7 (some .int) 6 140 shM) {v1 : Int32}  {N : ux_N} {L : ux_L} {o : Int32 × ux_L} (hq : ux_Qi X o.1 N o.2) (h : fX12_weak v1 N L = some o) : ux_Wt X 7 0 [(0, .ref (ux_ad X 0)), (1, .int v1)] [] N L := by
  refine wt_iload_n 1 1 C dX12_weak_0 rfl rfl ?_
  refine wt_i2l 2 C dX12_weak_1 rfl ?_
  refine wt_lconst 3 0 C dX12_weak_2 rfl (by decide) ?_
  refine wt_lconst 4 1 C dX12_weak_3 rfl (by decide) ?_
  obtain ⟨o1, hc2, h⟩ := Option.bind_eq_some_iff.mp h
  refine wt_callSi 7 [] C ksX12_94 (mX12_in (cx_ok C)  hc2) rfl rfl ⟨Nat.le_of_ble_eq_true rfl, Nat.le_of_ble_eq_true rfl⟩ (Nat.le_of_ble_eq_true rfl) dX12_weak_4 rfl ?_
  refine wt_if_ne 10 13 C dX12_weak_7 rfl (by decide) (fun q3 => ?_) (fun q3 => ?_)
  · have h := (if_neg q3).symm.trans h
    refine wt_aload_n 14 0 C dX12_weak_13 rfl rfl ?_
    obtain ⟨o4, hc5, h⟩ := Option.bind_eq_some_iff.mp h
    refine wt_callVv 17 [] C kvX12_229 sm_0 (mX12_layAll (cx_ok C)  hc5) rfl rfl ⟨Nat.le_of_ble_eq_true rfl, Nat.le_of_ble_eq_true rfl⟩ (Nat.le_of_ble_eq_true rfl) dX12_weak_14 rfl ?_
    refine wt_iconst 18 1 C dX12_weak_17 rfl (by decide) ?_
    refine wt_aload_n 19 0 C dX12_weak_18 rfl rfl ?_
    refine wt_getR 22 C kfX12_7 sm_0 rfl dX12_weak_19 rfl ?_
    refine wt_iconst 23 0 C dX12_weak_22 rfl (by decide) ?_
    refine wt_iald 24 0 C sm_1 (by decide) (by decide) dX12_weak_23 rfl ?_
    refine wt_ishl 25 C dX12_weak_24 rfl ?_
    refine wt_iconst 26 1 C dX12_weak_25 rfl (by decide) ?_
    refine wt_isub 27 C dX12_weak_26 rfl ?_
    refine wt_istore_n 28 [(2, .int (((1 : Int32) <<< ((N 1 0) &&& 31)) - (1 : Int32))), (0, .ref (ux_ad X 0)), (1, .int v1)] C dX12_weak_27 rfl (by decide) rfl ?_
    refine wt_aload_n 29 1 C dX12_weak_28 rfl rfl ?_
    refine wt_bipush 31 16 C dX12_weak_29 rfl (by decide) ?_
    refine wt_iload_n 32 0 C dX12_weak_31 rfl rfl ?_
    refine wt_imul 33 C dX12_weak_32 rfl ?_
    obtain ⟨o6, hc7, h⟩ := Option.bind_eq_some_iff.mp h
    refine wt_callVi 36 [] C kvX12_217 sm_0 (mX12_rankAt (cx_ok C)  hc7) rfl rfl ⟨Nat.le_of_ble_eq_true rfl, Nat.le_of_ble_eq_true rfl⟩ (Nat.le_of_ble_eq_true rfl) dX12_weak_33 rfl ?_
    refine wt_istore_n 37 [(3, .int o6), (2, .int (((1 : Int32) <<< ((N 1 0) &&& 31)) - (1 : Int32))), (0, .ref (ux_ad X 0)), (1, .int v1)] C dX12_weak_36 rfl (by decide) rfl ?_
    refine wt_iconst 38 (-1) C dX12_weak_37 rfl (by decide) ?_
    refine wt_istore 40 [(4, .int (-1 : Int32)), (3, .int o6), (2, .int (((1 : Int32) <<< ((N 1 0) &&& 31)) - (1 : Int32))), (0, .ref (ux_ad X 0)), (1, .int v1)] C dX12_weak_38 rfl (by decide) rfl ?_
    refine wt_iconst 41 1 C dX12_weak_40 rfl (by decide) ?_
    refine wt_istore 43 [(5, .int (1 : Int32)), (4, .int (-1 : Int32)), (3, .int o6), (2, .int (((1 : Int32) <<< ((N 1 0) &&& 31)) - (1 : Int32))), (0, .ref (ux_ad X 0)), (1, .int v1)] C dX12_weak_41 rfl (by decide) rfl ?_
    obtain ⟨e8, hl9, h⟩ := Option.bind_eq_some_iff.mp h
    refine wt_sub [4, 5, 3, 2, 1, 0] rfl ?_
    refine ux_loop (fun s : Int32 × Int32 => fX12_weak_43b v1 (((1 : Int32) <<< ((N 1 0) &&& 31)) - (1 : Int32)) o6 s.1 s.2 N o4) (fun s : Int32 × Int32 => ux_Wt X 7 43 [(0, .ref (ux_ad X 0)), (1, .int v1), (2, .int (((1 : Int32) <<< ((N 1 0) &&& 31)) - (1 : Int32))), (3, .int o6), (4, .int s.1), (5, .int s.2)] [] N o4) (e := e8) ?_ hl9
    intro s10 o11 hb12 hi13 hx14
    refine wX12_weak_43b C hi13 (fun x0 he => ?_) hb12
    · obtain ⟨e15, rfl⟩ : ∃ z, z = x0 := ⟨_, rfl⟩
      have h9 := hx14 _ he
      subst h9
      refine wt_iload_n 120 0 C dX12_weak_119 rfl rfl ?_
      refine wt_if_eq 123 129 C dX12_weak_120 rfl (by decide) (fun q16 => ?_) (fun q16 => ?_)
      · have h := (if_pos q16).symm.trans h
        refine wt_sub [1] rfl ?_
        exact wX12_weak_129 C hq h
      · have h := (if_neg q16).symm.trans h
        refine wt_iload 125 1 C dX12_weak_123 rfl rfl ?_
        refine wt_iconst 126 (-1) C dX12_weak_125 rfl (by decide) ?_
        refine wt_icmp_ne 129 134 C dX12_weak_126 rfl (by decide) (fun q17 => ?_) (fun q17 => ?_)
        · have h := (if_neg q17).symm.trans h
          refine wt_iload 136 1 C dX12_weak_134 rfl rfl ?_
          obtain ⟨o18, hc19, h⟩ := Option.bind_eq_some_iff.mp h
          refine wt_callSi 139 [] C ksX12_183 (mX12_ones (cx_ok C)  hc19) rfl rfl ⟨Nat.le_of_ble_eq_true rfl, Nat.le_of_ble_eq_true rfl⟩ (Nat.le_of_ble_eq_true rfl) dX12_weak_136 rfl ?_
          refine wt_sub [] rfl ?_
          exact wX12_weak_139 C hq h
        · have h := (if_pos q17).symm.trans h
          refine wt_sub [1] rfl ?_
          exact wX12_weak_129 C hq h
  · have h := (if_pos q3).symm.trans h
    refine wt_bipush 12 (-3) C dX12_weak_10 rfl (by decide) ?_
    cases h
    exact wt_iret C hq dX12_weak_12
theorem mX12_weak {l : Launch} {G : ux_G} (hok : ux_ok G shM) {v1 : Int32}  {N : ux_N} {L : ux_L} {o : Int32 × ux_L} (h : fX12_weak v1 N L = some o) : ux_Mi l G yX12_weak cX12_weak 7 (some .int) 6 140 [.ref (gad G 0), .int v1] N L o.1 N o.2 :=
  ux_ofi shM hok (by decide +kernel) (Nat.le_of_ble_eq_true rfl) (fun X hG hl C hq => by subst hG; subst hl; exact wX12_weak C  hq h)
def fX12_wholeRank (N : ux_N) : Option (Int32 × ux_N) :=
  (fX12_layParts ((((1 : Int32) <<< ((N 0 2) &&& 31)) - (1 : Int32)) &&& ((N 1 2) ^^^ (-1 : Int32))) N).bind (fun o1 => some (((N 0 1) - o1.1), o1.2))
set_option maxHeartbeats 4000000 in
set_option maxRecDepth 20000 in
theorem wX12_wholeRank {X : ux_X} (C : ux_C X cX12_wholeRank RX12 1 (some .int) 2 48 shM)   {N : ux_N} {L : ux_L} {o : Int32 × ux_N} (hq : ux_Qi X o.1 o.2 L) (h : fX12_wholeRank N = some o) : ux_Wt X 1 0 [(0, .ref (ux_ad X 0))] [] N L := by
  refine wt_aload_n 1 0 C dX12_wholeRank_0 rfl rfl ?_
  refine wt_getI 4 C kfX12_82 sm_0 rfl dX12_wholeRank_1 rfl ?_
  refine wt_aload_n 5 0 C dX12_wholeRank_4 rfl rfl ?_
  refine wt_iconst 6 1 C dX12_wholeRank_5 rfl (by decide) ?_
  refine wt_aload_n 7 0 C dX12_wholeRank_6 rfl rfl ?_
  refine wt_getI 10 C kfX12_86 sm_0 rfl dX12_wholeRank_7 rfl ?_
  refine wt_ishl 11 C dX12_wholeRank_10 rfl ?_
  refine wt_iconst 12 1 C dX12_wholeRank_11 rfl (by decide) ?_
  refine wt_isub 13 C dX12_wholeRank_12 rfl ?_
  refine wt_aload_n 14 0 C dX12_wholeRank_13 rfl rfl ?_
  refine wt_getR 17 C kfX12_7 sm_0 rfl dX12_wholeRank_14 rfl ?_
  refine wt_iconst 18 2 C dX12_wholeRank_17 rfl (by decide) ?_
  refine wt_iald 19 2 C sm_1 (by decide) (by decide) dX12_wholeRank_18 rfl ?_
  refine wt_iconst 20 (-1) C dX12_wholeRank_19 rfl (by decide) ?_
  refine wt_ixor 21 C dX12_wholeRank_20 rfl ?_
  refine wt_iand 22 C dX12_wholeRank_21 rfl ?_
  obtain ⟨o1, hc2, h⟩ := Option.bind_eq_some_iff.mp h
  refine wt_callVi 25 [.int (N 0 1)] C kvX12_187 sm_0 (mX12_layParts (cx_ok C)  hc2) rfl rfl ⟨Nat.le_of_ble_eq_true rfl, Nat.le_of_ble_eq_true rfl⟩ (Nat.le_of_ble_eq_true rfl) dX12_wholeRank_22 rfl ?_
  refine wt_isub 26 C dX12_wholeRank_25 rfl ?_
  cases h
  exact wt_iret C hq dX12_wholeRank_26
theorem mX12_wholeRank {l : Launch} {G : ux_G} (hok : ux_ok G shM)   {N : ux_N} {L : ux_L} {o : Int32 × ux_N} (h : fX12_wholeRank N = some o) : ux_Mi l G yX12_wholeRank cX12_wholeRank 1 (some .int) 2 48 [.ref (gad G 0)] N L o.1 o.2 L :=
  ux_ofi shM hok (by decide +kernel) (Nat.le_of_ble_eq_true rfl) (fun X hG hl C hq => by subst hG; subst hl; exact wX12_wholeRank C  hq h)
def fX12_costOf_4b_35 (v1 : Int32) (v3 : Int32) (s0 : Int32) (s1 : Int32) (N : ux_N) : Option ((Int32 × Int32) ⊕ (Int32)) :=
  some (.inl ((s1 + s0), (v3 + 1)))
set_option maxHeartbeats 4000000 in
set_option maxRecDepth 20000 in
theorem wX12_costOf_4b_35 {X : ux_X} (C : ux_C X cX12_costOf RX12 4 (some .int) 1 21 shM) {v1 : Int32} {v3 : Int32} {s0 : Int32} {s1 : Int32}  {N : ux_N} {L : ux_L} {o : (Int32 × Int32) ⊕ (Int32)} (hin : ∀ s : Int32 × Int32, o = .inl s → ux_Wt X 4 4 [(0, .ref (ux_ad X 0)), (1, .int v1), (2, .int s.1), (3, .int s.2)] [] N L) (hex0 : ∀ e : Int32, o = .inr (e) → ux_Wt X 4 43 [(2, .int e)] [] N L) (h : fX12_costOf_4b_35 v1 v3 s0 s1 N = some o) : ux_Wt X 4 35 [(0, .ref (ux_ad X 0)), (1, .int v1), (3, .int v3)] [.int s0, .int s1] N L := by
  refine wt_iadd 36 C dX12_costOf_35 rfl ?_
  refine wt_istore_n 37 [(2, .int (s1 + s0)), (0, .ref (ux_ad X 0)), (1, .int v1), (3, .int v3)] C dX12_costOf_36 rfl (by decide) rfl ?_
  refine wt_iinc 40 3 [(3, .int (v3 + 1)), (2, .int (s1 + s0)), (0, .ref (ux_ad X 0)), (1, .int v1)] (v3 + 1) C dX12_costOf_37 rfl rfl (by rfl) (by decide) rfl ?_
  refine wt_goto 4 C dX12_costOf_40 (by decide) ?_
  refine wt_sub [2, 3, 1, 0] rfl ?_
  exact hin _ (Option.some.inj h).symm
def fX12_costOf_4b (v1 : Int32) (v2 : Int32) (v3 : Int32) (N : ux_N) : Option ((Int32 × Int32) ⊕ (Int32)) :=
  if (N 0 4) ≤ v3 then (some (.inr (v2))) else ((fX12_has v1 v3).bind (fun o2 => if o2 = 0 then (fX12_costOf_4b_35 v1 v3 (0 : Int32) v2 N) else (if ux_in (((3 : Int32) * v3) + (2 : Int32)) 18 then (fX12_costOf_4b_35 v1 v3 (N 3 ((((3 : Int32) * v3) + (2 : Int32)).toNatClampNeg)) v2 N) else none)))
set_option maxHeartbeats 4000000 in
set_option maxRecDepth 20000 in
theorem wX12_costOf_4b {X : ux_X} (C : ux_C X cX12_costOf RX12 4 (some .int) 1 21 shM) {v1 : Int32} {v2 : Int32} {v3 : Int32}  {N : ux_N} {L : ux_L} {o : (Int32 × Int32) ⊕ (Int32)} (hin : ∀ s : Int32 × Int32, o = .inl s → ux_Wt X 4 4 [(0, .ref (ux_ad X 0)), (1, .int v1), (2, .int s.1), (3, .int s.2)] [] N L) (hex0 : ∀ e : Int32, o = .inr (e) → ux_Wt X 4 43 [(2, .int e)] [] N L) (h : fX12_costOf_4b v1 v2 v3 N = some o) : ux_Wt X 4 4 [(0, .ref (ux_ad X 0)), (1, .int v1), (2, .int v2), (3, .int v3)] [] N L := by
  refine wt_iload_n 5 3 C dX12_costOf_4 rfl rfl ?_
  refine wt_aload_n 6 0 C dX12_costOf_5 rfl rfl ?_
  refine wt_getI 9 C kfX12_89 sm_0 rfl dX12_costOf_6 rfl ?_
  refine wt_icmp_ge 12 43 C dX12_costOf_9 rfl (by decide) (fun q1 => ?_) (fun q1 => ?_)
  · have h := (if_pos q1).symm.trans h
    refine wt_sub [2] rfl ?_
    exact hex0 _ (Option.some.inj h).symm
  · have h := (if_neg q1).symm.trans h
    refine wt_iload_n 13 2 C dX12_costOf_12 rfl rfl ?_
    refine wt_iload_n 14 1 C dX12_costOf_13 rfl rfl ?_
    refine wt_iload_n 15 3 C dX12_costOf_14 rfl rfl ?_
    obtain ⟨o2, hc3, h⟩ := Option.bind_eq_some_iff.mp h
    refine wt_callSi 18 [.int v2] C ksX12_179 (mX12_has (cx_ok C)  hc3) rfl rfl ⟨Nat.le_of_ble_eq_true rfl, Nat.le_of_ble_eq_true rfl⟩ (Nat.le_of_ble_eq_true rfl) dX12_costOf_15 rfl ?_
    refine wt_if_eq 21 34 C dX12_costOf_18 rfl (by decide) (fun q4 => ?_) (fun q4 => ?_)
    · have h := (if_pos q4).symm.trans h
      refine wt_iconst 35 0 C dX12_costOf_34 rfl (by decide) ?_
      refine wt_sub [0, 1, 3] rfl ?_
      exact wX12_costOf_4b_35 C hin hex0 h
    · have h := (if_neg q4).symm.trans h
      refine wt_aload_n 22 0 C dX12_costOf_21 rfl rfl ?_
      refine wt_getR 25 C kfX12_16 sm_0 rfl dX12_costOf_22 rfl ?_
      refine wt_iconst 26 3 C dX12_costOf_25 rfl (by decide) ?_
      refine wt_iload_n 27 3 C dX12_costOf_26 rfl rfl ?_
      refine wt_imul 28 C dX12_costOf_27 rfl ?_
      refine wt_iconst 29 2 C dX12_costOf_28 rfl (by decide) ?_
      refine wt_iadd 30 C dX12_costOf_29 rfl ?_
      obtain ⟨hi5, h⟩ := ux_guard h
      refine wt_iald 31 ((((3 : Int32) * v3) + (2 : Int32)).toNatClampNeg) C sm_3 rfl hi5 dX12_costOf_30 rfl ?_
      refine wt_goto 35 C dX12_costOf_31 (by decide) ?_
      refine wt_sub [0, 1, 3] rfl ?_
      exact wX12_costOf_4b_35 C hin hex0 h
def fX12_costOf (v1 : Int32) (N : ux_N) : Option (Int32) :=
  (ux_lp (fun s : Int32 × Int32 => fX12_costOf_4b v1 s.1 s.2 N) ux_fu ((0 : Int32), (0 : Int32))).bind (fun e8 => some e8)
set_option maxHeartbeats 4000000 in
set_option maxRecDepth 20000 in
theorem wX12_costOf {X : ux_X} (C : ux_C X cX12_costOf RX12 4 (some .int) 1 21 shM) {v1 : Int32}  {N : ux_N} {L : ux_L} {o : Int32} (hq : ux_Qi X o N L) (h : fX12_costOf v1 N = some o) : ux_Wt X 4 0 [(0, .ref (ux_ad X 0)), (1, .int v1)] [] N L := by
  refine wt_iconst 1 0 C dX12_costOf_0 rfl (by decide) ?_
  refine wt_istore_n 2 [(2, .int (0 : Int32)), (0, .ref (ux_ad X 0)), (1, .int v1)] C dX12_costOf_1 rfl (by decide) rfl ?_
  refine wt_iconst 3 0 C dX12_costOf_2 rfl (by decide) ?_
  refine wt_istore_n 4 [(3, .int (0 : Int32)), (2, .int (0 : Int32)), (0, .ref (ux_ad X 0)), (1, .int v1)] C dX12_costOf_3 rfl (by decide) rfl ?_
  obtain ⟨e1, hl2, h⟩ := Option.bind_eq_some_iff.mp h
  refine wt_sub [2, 3, 1, 0] rfl ?_
  refine ux_loop (fun s : Int32 × Int32 => fX12_costOf_4b v1 s.1 s.2 N) (fun s : Int32 × Int32 => ux_Wt X 4 4 [(0, .ref (ux_ad X 0)), (1, .int v1), (2, .int s.1), (3, .int s.2)] [] N L) (e := e1) ?_ hl2
  intro s3 o4 hb5 hi6 hx7
  refine wX12_costOf_4b C hi6 (fun x0 he => ?_) hb5
  · obtain ⟨e8, rfl⟩ : ∃ z, z = x0 := ⟨_, rfl⟩
    have h9 := hx7 _ he
    subst h9
    refine wt_iload_n 44 0 C dX12_costOf_43 rfl rfl ?_
    cases h
    exact wt_iret C hq dX12_costOf_44
theorem mX12_costOf {l : Launch} {G : ux_G} (hok : ux_ok G shM) {v1 : Int32}  {N : ux_N} {L : ux_L} {o : Int32} (h : fX12_costOf v1 N = some o) : ux_Mi l G yX12_costOf cX12_costOf 4 (some .int) 1 21 [.ref (gad G 0), .int v1] N L o N L :=
  ux_ofi shM hok (by decide +kernel) (Nat.le_of_ble_eq_true rfl) (fun X hG hl C hq => by subst hG; subst hl; exact wX12_costOf C  hq h)
def fX12_isWhole_7b_99 (v1 : Int32) (v2 : Int32) (v3 : Int32) (N : ux_N) (L : ux_L) : Option ((Int32 × ux_L) ⊕ (ux_L)) :=
  some (.inl ((v3 + 1), L))
set_option maxHeartbeats 4000000 in
set_option maxRecDepth 20000 in
theorem wX12_isWhole_7b_99 {X : ux_X} (C : ux_C X cX12_isWhole RX12 5 (some .boolean) 7 160 shM) {v1 : Int32} {v2 : Int32} {v3 : Int32}  {N : ux_N} {L : ux_L} {o : (Int32 × ux_L) ⊕ (ux_L)} (hin : ∀ s : Int32 × ux_L, o = .inl s → ux_Wt X 5 7 [(0, .ref (ux_ad X 0)), (1, .int v1), (2, .int v2), (3, .int s.1)] [] N s.2) (hex0 : ∀ e : ux_L, o = .inr (e) → ux_Wt X 5 105 [(0, .ref (ux_ad X 0)), (2, .int v2)] [] N e) (h : fX12_isWhole_7b_99 v1 v2 v3 N L = some o) : ux_Wt X 5 99 [(0, .ref (ux_ad X 0)), (1, .int v1), (2, .int v2), (3, .int v3)] [] N L := by
  refine wt_iinc 102 3 [(3, .int (v3 + 1)), (0, .ref (ux_ad X 0)), (1, .int v1), (2, .int v2)] (v3 + 1) C dX12_isWhole_99 rfl rfl (by rfl) (by decide) rfl ?_
  refine wt_goto 7 C dX12_isWhole_102 (by decide) ?_
  refine wt_sub [1, 2, 3, 0] rfl ?_
  exact hin _ (Option.some.inj h).symm
def fX12_isWhole_64b (v1 : Int32) (v2 : Int32) (v3 : Int32) (v4 : Int32) (N : ux_N) (L : ux_L) : Option ((Int32 × ux_L) ⊕ (ux_L)) :=
  if (16 : Int32) ≤ v4 then (some (.inr (L))) else (if ux_in ((8208 : Int32) + v4) 8224 then (if ux_in ((8192 : Int32) + v4) 8224 then (some (.inl ((v4 + 1), (ux_w L 15 (((8192 : Int32) + v4).toNatClampNeg) (L 15 (((8208 : Int32) + v4).toNatClampNeg)))))) else none) else none)
set_option maxHeartbeats 4000000 in
set_option maxRecDepth 20000 in
theorem wX12_isWhole_64b {X : ux_X} (C : ux_C X cX12_isWhole RX12 5 (some .boolean) 7 160 shM) {v1 : Int32} {v2 : Int32} {v3 : Int32} {v4 : Int32}  {N : ux_N} {L : ux_L} {o : (Int32 × ux_L) ⊕ (ux_L)} (hin : ∀ s : Int32 × ux_L, o = .inl s → ux_Wt X 5 64 [(0, .ref (ux_ad X 0)), (1, .int v1), (2, .int v2), (3, .int v3), (4, .int s.1)] [] N s.2) (hex0 : ∀ e : ux_L, o = .inr (e) → ux_Wt X 5 99 [(0, .ref (ux_ad X 0)), (1, .int v1), (2, .int v2), (3, .int v3)] [] N e) (h : fX12_isWhole_64b v1 v2 v3 v4 N L = some o) : ux_Wt X 5 64 [(0, .ref (ux_ad X 0)), (1, .int v1), (2, .int v2), (3, .int v3), (4, .int v4)] [] N L := by
  refine wt_iload 66 4 C dX12_isWhole_64 rfl rfl ?_
  refine wt_bipush 68 16 C dX12_isWhole_66 rfl (by decide) ?_
  refine wt_icmp_ge 71 99 C dX12_isWhole_68 rfl (by decide) (fun q1 => ?_) (fun q1 => ?_)
  · have h := (if_pos q1).symm.trans h
    refine wt_sub [0, 1, 2, 3] rfl ?_
    exact hex0 _ (Option.some.inj h).symm
  · have h := (if_neg q1).symm.trans h
    refine wt_aload_n 72 0 C dX12_isWhole_71 rfl rfl ?_
    refine wt_getR 75 C kfX12_54 sm_0 rfl dX12_isWhole_72 rfl ?_
    refine wt_sipush 78 8192 C dX12_isWhole_75 rfl (by decide) ?_
    refine wt_iload 80 4 C dX12_isWhole_78 rfl rfl ?_
    refine wt_iadd 81 C dX12_isWhole_80 rfl ?_
    refine wt_aload_n 82 0 C dX12_isWhole_81 rfl rfl ?_
    refine wt_getR 85 C kfX12_54 sm_0 rfl dX12_isWhole_82 rfl ?_
    refine wt_sipush 88 8208 C dX12_isWhole_85 rfl (by decide) ?_
    refine wt_iload 90 4 C dX12_isWhole_88 rfl rfl ?_
    refine wt_iadd 91 C dX12_isWhole_90 rfl ?_
    obtain ⟨hi2, h⟩ := ux_guard h
    refine wt_lald 92 (((8208 : Int32) + v4).toNatClampNeg) C sm_15 rfl hi2 dX12_isWhole_91 rfl ?_
    obtain ⟨hi3, h⟩ := ux_guard h
    refine wt_last 93 (((8192 : Int32) + v4).toNatClampNeg) C sm_15 rfl hi3 dX12_isWhole_92 rfl ?_
    refine wt_iinc 96 4 [(4, .int (v4 + 1)), (0, .ref (ux_ad X 0)), (1, .int v1), (2, .int v2), (3, .int v3)] (v4 + 1) C dX12_isWhole_93 rfl rfl (by rfl) (by decide) rfl ?_
    refine wt_goto 64 C dX12_isWhole_96 (by decide) ?_
    refine wt_sub [1, 2, 3, 4, 0] rfl ?_
    exact hin _ (Option.some.inj h).symm
def fX12_isWhole_7b (v1 : Int32) (v2 : Int32) (v3 : Int32) (N : ux_N) (L : ux_L) : Option ((Int32 × ux_L) ⊕ (ux_L)) :=
  if (N 0 4) ≤ v3 then (some (.inr (L))) else ((fX12_has v1 v3).bind (fun o2 => if o2 = 0 then (fX12_isWhole_7b_99 v1 v2 v3 N L) else (if ux_in ((3 : Int32) * v3) 18 then (if ux_in (((3 : Int32) * v3) + (1 : Int32)) 18 then ((fX12_mayServe (N 3 (((3 : Int32) * v3).toNatClampNeg)) (N 3 ((((3 : Int32) * v3) + (1 : Int32)).toNatClampNeg)) (N 1 2) N).bind (fun o7 => (fX12_layMore (8192 : Int32) (8208 : Int32) o7 N L).bind (fun o9 => (ux_lp (fun s : Int32 × ux_L => fX12_isWhole_64b v1 v2 v3 s.1 N s.2) ux_fu ((0 : Int32), o9)).bind (fun e18 => fX12_isWhole_7b_99 v1 v2 v3 N e18)))) else none) else none)))
set_option maxHeartbeats 4000000 in
set_option maxRecDepth 20000 in
theorem wX12_isWhole_7b {X : ux_X} (C : ux_C X cX12_isWhole RX12 5 (some .boolean) 7 160 shM) {v1 : Int32} {v2 : Int32} {v3 : Int32}  {N : ux_N} {L : ux_L} {o : (Int32 × ux_L) ⊕ (ux_L)} (hin : ∀ s : Int32 × ux_L, o = .inl s → ux_Wt X 5 7 [(0, .ref (ux_ad X 0)), (1, .int v1), (2, .int v2), (3, .int s.1)] [] N s.2) (hex0 : ∀ e : ux_L, o = .inr (e) → ux_Wt X 5 105 [(0, .ref (ux_ad X 0)), (2, .int v2)] [] N e) (h : fX12_isWhole_7b v1 v2 v3 N L = some o) : ux_Wt X 5 7 [(0, .ref (ux_ad X 0)), (1, .int v1), (2, .int v2), (3, .int v3)] [] N L := by
  refine wt_iload_n 8 3 C dX12_isWhole_7 rfl rfl ?_
  refine wt_aload_n 9 0 C dX12_isWhole_8 rfl rfl ?_
  refine wt_getI 12 C kfX12_89 sm_0 rfl dX12_isWhole_9 rfl ?_
  refine wt_icmp_ge 15 105 C dX12_isWhole_12 rfl (by decide) (fun q1 => ?_) (fun q1 => ?_)
  · have h := (if_pos q1).symm.trans h
    refine wt_sub [0, 2] rfl ?_
    exact hex0 _ (Option.some.inj h).symm
  · have h := (if_neg q1).symm.trans h
    refine wt_iload_n 16 1 C dX12_isWhole_15 rfl rfl ?_
    refine wt_iload_n 17 3 C dX12_isWhole_16 rfl rfl ?_
    obtain ⟨o2, hc3, h⟩ := Option.bind_eq_some_iff.mp h
    refine wt_callSi 20 [] C ksX12_179 (mX12_has (cx_ok C)  hc3) rfl rfl ⟨Nat.le_of_ble_eq_true rfl, Nat.le_of_ble_eq_true rfl⟩ (Nat.le_of_ble_eq_true rfl) dX12_isWhole_17 rfl ?_
    refine wt_if_eq 23 99 C dX12_isWhole_20 rfl (by decide) (fun q4 => ?_) (fun q4 => ?_)
    · have h := (if_pos q4).symm.trans h
      exact wX12_isWhole_7b_99 C hin hex0 h
    · have h := (if_neg q4).symm.trans h
      refine wt_aload_n 24 0 C dX12_isWhole_23 rfl rfl ?_
      refine wt_sipush 27 8192 C dX12_isWhole_24 rfl (by decide) ?_
      refine wt_sipush 30 8208 C dX12_isWhole_27 rfl (by decide) ?_
      refine wt_aload_n 31 0 C dX12_isWhole_30 rfl rfl ?_
      refine wt_aload_n 32 0 C dX12_isWhole_31 rfl rfl ?_
      refine wt_getR 35 C kfX12_16 sm_0 rfl dX12_isWhole_32 rfl ?_
      refine wt_iconst 36 3 C dX12_isWhole_35 rfl (by decide) ?_
      refine wt_iload_n 37 3 C dX12_isWhole_36 rfl rfl ?_
      refine wt_imul 38 C dX12_isWhole_37 rfl ?_
      obtain ⟨hi5, h⟩ := ux_guard h
      refine wt_iald 39 (((3 : Int32) * v3).toNatClampNeg) C sm_3 rfl hi5 dX12_isWhole_38 rfl ?_
      refine wt_aload_n 40 0 C dX12_isWhole_39 rfl rfl ?_
      refine wt_getR 43 C kfX12_16 sm_0 rfl dX12_isWhole_40 rfl ?_
      refine wt_iconst 44 3 C dX12_isWhole_43 rfl (by decide) ?_
      refine wt_iload_n 45 3 C dX12_isWhole_44 rfl rfl ?_
      refine wt_imul 46 C dX12_isWhole_45 rfl ?_
      refine wt_iconst 47 1 C dX12_isWhole_46 rfl (by decide) ?_
      refine wt_iadd 48 C dX12_isWhole_47 rfl ?_
      obtain ⟨hi6, h⟩ := ux_guard h
      refine wt_iald 49 ((((3 : Int32) * v3) + (1 : Int32)).toNatClampNeg) C sm_3 rfl hi6 dX12_isWhole_48 rfl ?_
      refine wt_aload_n 50 0 C dX12_isWhole_49 rfl rfl ?_
      refine wt_getR 53 C kfX12_7 sm_0 rfl dX12_isWhole_50 rfl ?_
      refine wt_iconst 54 2 C dX12_isWhole_53 rfl (by decide) ?_
      refine wt_iald 55 2 C sm_1 (by decide) (by decide) dX12_isWhole_54 rfl ?_
      obtain ⟨o7, hc8, h⟩ := Option.bind_eq_some_iff.mp h
      refine wt_callVi 58 [.int (8208 : Int32), .int (8192 : Int32), .ref (ux_ad X 0)] C kvX12_203 sm_0 (mX12_mayServe (cx_ok C)  hc8) rfl rfl ⟨Nat.le_of_ble_eq_true rfl, Nat.le_of_ble_eq_true rfl⟩ (Nat.le_of_ble_eq_true rfl) dX12_isWhole_55 rfl ?_
      obtain ⟨o9, hc10, h⟩ := Option.bind_eq_some_iff.mp h
      refine wt_callVv 61 [] C kvX12_213 sm_0 (mX12_layMore (cx_ok C)  hc10) rfl rfl ⟨Nat.le_of_ble_eq_true rfl, Nat.le_of_ble_eq_true rfl⟩ (Nat.le_of_ble_eq_true rfl) dX12_isWhole_58 rfl ?_
      refine wt_iconst 62 0 C dX12_isWhole_61 rfl (by decide) ?_
      refine wt_istore 64 [(4, .int (0 : Int32)), (0, .ref (ux_ad X 0)), (1, .int v1), (2, .int v2), (3, .int v3)] C dX12_isWhole_62 rfl (by decide) rfl ?_
      obtain ⟨e11, hl12, h⟩ := Option.bind_eq_some_iff.mp h
      refine wt_sub [1, 2, 3, 4, 0] rfl ?_
      refine ux_loop (fun s : Int32 × ux_L => fX12_isWhole_64b v1 v2 v3 s.1 N s.2) (fun s : Int32 × ux_L => ux_Wt X 5 64 [(0, .ref (ux_ad X 0)), (1, .int v1), (2, .int v2), (3, .int v3), (4, .int s.1)] [] N s.2) (e := e11) ?_ hl12
      intro s13 o14 hb15 hi16 hx17
      refine wX12_isWhole_64b C hi16 (fun x0 he => ?_) hb15
      · obtain ⟨e18, rfl⟩ : ∃ z, z = x0 := ⟨_, rfl⟩
        have h9 := hx17 _ he
        subst h9
        exact wX12_isWhole_7b_99 C hin hex0 h
def fX12_isWhole_121 (s0 : Int32) (N : ux_N) (L : ux_L) : Option (Int32 × ux_L) :=
  if ux_b s0 then (some (s0, L)) else none
set_option maxHeartbeats 4000000 in
set_option maxRecDepth 20000 in
theorem wX12_isWhole_121 {X : ux_X} (C : ux_C X cX12_isWhole RX12 5 (some .boolean) 7 160 shM) {s0 : Int32}  {N : ux_N} {L : ux_L} {o : Int32 × ux_L} (hq : ux_Qi X o.1 N o.2) (h : fX12_isWhole_121 s0 N L = some o) : ux_Wt X 5 121 [] [.int s0] N L := by
  obtain ⟨hb1, h⟩ := ux_guard h
  cases h
  exact wt_zret C (ux_b_n hb1).1 hq dX12_isWhole_121
def fX12_isWhole (v1 : Int32) (v2 : Int32) (N : ux_N) (L : ux_L) : Option (Int32 × ux_L) :=
  (fX12_rank N L).bind (fun o1 => (ux_lp (fun s : Int32 × ux_L => fX12_isWhole_7b v1 v2 s.1 N s.2) ux_fu ((0 : Int32), o1.2)).bind (fun e10 => (fX12_rankAt (8192 : Int32) e10).bind (fun o11 => if o11 = v2 then (fX12_isWhole_121 (1 : Int32) N e10) else (fX12_isWhole_121 (0 : Int32) N e10))))
set_option maxHeartbeats 4000000 in
set_option maxRecDepth 20000 in
theorem wX12_isWhole {X : ux_X} (C : ux_C X cX12_isWhole RX12 5 (some .boolean) 7 160 shM) {v1 : Int32} {v2 : Int32}  {N : ux_N} {L : ux_L} {o : Int32 × ux_L} (hq : ux_Qi X o.1 N o.2) (h : fX12_isWhole v1 v2 N L = some o) : ux_Wt X 5 0 [(0, .ref (ux_ad X 0)), (1, .int v1), (2, .int v2)] [] N L := by
  refine wt_aload_n 1 0 C dX12_isWhole_0 rfl rfl ?_
  obtain ⟨o1, hc2, h⟩ := Option.bind_eq_some_iff.mp h
  refine wt_callVi 4 [] C kvX12_223 sm_0 (mX12_rank (cx_ok C)  hc2) rfl rfl ⟨Nat.le_of_ble_eq_true rfl, Nat.le_of_ble_eq_true rfl⟩ (Nat.le_of_ble_eq_true rfl) dX12_isWhole_1 rfl ?_
  refine wt_pop 5 C dX12_isWhole_4 rfl rfl ?_
  refine wt_iconst 6 0 C dX12_isWhole_5 rfl (by decide) ?_
  refine wt_istore_n 7 [(3, .int (0 : Int32)), (0, .ref (ux_ad X 0)), (1, .int v1), (2, .int v2)] C dX12_isWhole_6 rfl (by decide) rfl ?_
  obtain ⟨e3, hl4, h⟩ := Option.bind_eq_some_iff.mp h
  refine wt_sub [1, 2, 3, 0] rfl ?_
  refine ux_loop (fun s : Int32 × ux_L => fX12_isWhole_7b v1 v2 s.1 N s.2) (fun s : Int32 × ux_L => ux_Wt X 5 7 [(0, .ref (ux_ad X 0)), (1, .int v1), (2, .int v2), (3, .int s.1)] [] N s.2) (e := e3) ?_ hl4
  intro s5 o6 hb7 hi8 hx9
  refine wX12_isWhole_7b C hi8 (fun x0 he => ?_) hb7
  · obtain ⟨e10, rfl⟩ : ∃ z, z = x0 := ⟨_, rfl⟩
    have h9 := hx9 _ he
    subst h9
    refine wt_aload_n 106 0 C dX12_isWhole_105 rfl rfl ?_
    refine wt_sipush 109 8192 C dX12_isWhole_106 rfl (by decide) ?_
    obtain ⟨o11, hc12, h⟩ := Option.bind_eq_some_iff.mp h
    refine wt_callVi 112 [] C kvX12_217 sm_0 (mX12_rankAt (cx_ok C)  hc12) rfl rfl ⟨Nat.le_of_ble_eq_true rfl, Nat.le_of_ble_eq_true rfl⟩ (Nat.le_of_ble_eq_true rfl) dX12_isWhole_109 rfl ?_
    refine wt_iload_n 113 1 C dX12_isWhole_112 rfl rfl ?_
    refine wt_icmp_ne 116 120 C dX12_isWhole_113 rfl (by decide) (fun q13 => ?_) (fun q13 => ?_)
    · have h := (if_neg q13).symm.trans h
      refine wt_iconst 121 0 C dX12_isWhole_120 rfl (by decide) ?_
      refine wt_sub [] rfl ?_
      exact wX12_isWhole_121 C hq h
    · have h := (if_pos q13).symm.trans h
      refine wt_iconst 117 1 C dX12_isWhole_116 rfl (by decide) ?_
      refine wt_goto 121 C dX12_isWhole_117 (by decide) ?_
      refine wt_sub [] rfl ?_
      exact wX12_isWhole_121 C hq h
theorem mX12_isWhole {l : Launch} {G : ux_G} (hok : ux_ok G shM) {v1 : Int32} {v2 : Int32}  {N : ux_N} {L : ux_L} {o : Int32 × ux_L} (h : fX12_isWhole v1 v2 N L = some o) : ux_Mi l G yX12_isWhole cX12_isWhole 5 (some .boolean) 7 160 [.ref (gad G 0), .int v1, .int v2] N L o.1 N o.2 :=
  ux_ofi shM hok (by decide +kernel) (Nat.le_of_ble_eq_true rfl) (fun X hG hl C hq => by subst hG; subst hl; exact wX12_isWhole C  hq h)
