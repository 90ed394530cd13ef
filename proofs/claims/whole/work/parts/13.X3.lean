theorem dX3_copyFrom_0 : decode cX3_copyFrom 0 = .ok (.aload_n 0, 1) := by decide +kernel
theorem dX3_copyFrom_1 : decode cX3_copyFrom 1 = .ok (.aload_n 1, 1) := by decide +kernel
theorem dX3_copyFrom_2 : decode cX3_copyFrom 2 = .ok (.getfield 9, 3) := by decide +kernel
theorem dX3_copyFrom_5 : decode cX3_copyFrom 5 = .ok (.putfield 9, 3) := by decide +kernel
theorem dX3_copyFrom_8 : decode cX3_copyFrom 8 = .ok (.aload_n 0, 1) := by decide +kernel
theorem dX3_copyFrom_9 : decode cX3_copyFrom 9 = .ok (.aload_n 1, 1) := by decide +kernel
theorem dX3_copyFrom_10 : decode cX3_copyFrom 10 = .ok (.getfield 37, 3) := by decide +kernel
theorem dX3_copyFrom_13 : decode cX3_copyFrom 13 = .ok (.putfield 37, 3) := by decide +kernel
theorem dX3_copyFrom_16 : decode cX3_copyFrom 16 = .ok (.aload_n 0, 1) := by decide +kernel
theorem dX3_copyFrom_17 : decode cX3_copyFrom 17 = .ok (.aload_n 1, 1) := by decide +kernel
theorem dX3_copyFrom_18 : decode cX3_copyFrom 18 = .ok (.getfield 40, 3) := by decide +kernel
theorem dX3_copyFrom_21 : decode cX3_copyFrom 21 = .ok (.putfield 40, 3) := by decide +kernel
theorem dX3_copyFrom_24 : decode cX3_copyFrom 24 = .ok (.aload_n 0, 1) := by decide +kernel
theorem dX3_copyFrom_25 : decode cX3_copyFrom 25 = .ok (.aload_n 1, 1) := by decide +kernel
theorem dX3_copyFrom_26 : decode cX3_copyFrom 26 = .ok (.getfield 43, 3) := by decide +kernel
theorem dX3_copyFrom_29 : decode cX3_copyFrom 29 = .ok (.putfield 43, 3) := by decide +kernel
theorem dX3_copyFrom_32 : decode cX3_copyFrom 32 = .ok (.aload_n 1, 1) := by decide +kernel
theorem dX3_copyFrom_33 : decode cX3_copyFrom 33 = .ok (.getfield 15, 3) := by decide +kernel
theorem dX3_copyFrom_36 : decode cX3_copyFrom 36 = .ok (.iconst 0, 1) := by decide +kernel
theorem dX3_copyFrom_37 : decode cX3_copyFrom 37 = .ok (.aload_n 0, 1) := by decide +kernel
theorem dX3_copyFrom_38 : decode cX3_copyFrom 38 = .ok (.getfield 15, 3) := by decide +kernel
theorem dX3_copyFrom_41 : decode cX3_copyFrom 41 = .ok (.iconst 0, 1) := by decide +kernel
theorem dX3_copyFrom_42 : decode cX3_copyFrom 42 = .ok (.bipush 10, 2) := by decide +kernel
theorem dX3_copyFrom_44 : decode cX3_copyFrom 44 = .ok (.invokestatic 46, 3) := by decide +kernel
theorem dX3_copyFrom_47 : decode cX3_copyFrom 47 = .ok (.aload_n 1, 1) := by decide +kernel
theorem dX3_copyFrom_48 : decode cX3_copyFrom 48 = .ok (.getfield 19, 3) := by decide +kernel
theorem dX3_copyFrom_51 : decode cX3_copyFrom 51 = .ok (.iconst 0, 1) := by decide +kernel
theorem dX3_copyFrom_52 : decode cX3_copyFrom 52 = .ok (.aload_n 0, 1) := by decide +kernel
theorem dX3_copyFrom_53 : decode cX3_copyFrom 53 = .ok (.getfield 19, 3) := by decide +kernel
theorem dX3_copyFrom_56 : decode cX3_copyFrom 56 = .ok (.iconst 0, 1) := by decide +kernel
theorem dX3_copyFrom_57 : decode cX3_copyFrom 57 = .ok (.bipush 10, 2) := by decide +kernel
theorem dX3_copyFrom_59 : decode cX3_copyFrom 59 = .ok (.invokestatic 46, 3) := by decide +kernel
theorem dX3_copyFrom_62 : decode cX3_copyFrom 62 = .ok (.aload_n 1, 1) := by decide +kernel
theorem dX3_copyFrom_63 : decode cX3_copyFrom 63 = .ok (.getfield 22, 3) := by decide +kernel
theorem dX3_copyFrom_66 : decode cX3_copyFrom 66 = .ok (.iconst 0, 1) := by decide +kernel
theorem dX3_copyFrom_67 : decode cX3_copyFrom 67 = .ok (.aload_n 0, 1) := by decide +kernel
theorem dX3_copyFrom_68 : decode cX3_copyFrom 68 = .ok (.getfield 22, 3) := by decide +kernel
theorem dX3_copyFrom_71 : decode cX3_copyFrom 71 = .ok (.iconst 0, 1) := by decide +kernel
theorem dX3_copyFrom_72 : decode cX3_copyFrom 72 = .ok (.bipush 9, 2) := by decide +kernel
theorem dX3_copyFrom_74 : decode cX3_copyFrom 74 = .ok (.invokestatic 46, 3) := by decide +kernel
theorem dX3_copyFrom_77 : decode cX3_copyFrom 77 = .ok (.aload_n 1, 1) := by decide +kernel
theorem dX3_copyFrom_78 : decode cX3_copyFrom 78 = .ok (.getfield 25, 3) := by decide +kernel
theorem dX3_copyFrom_81 : decode cX3_copyFrom 81 = .ok (.iconst 0, 1) := by decide +kernel
theorem dX3_copyFrom_82 : decode cX3_copyFrom 82 = .ok (.aload_n 0, 1) := by decide +kernel
theorem dX3_copyFrom_83 : decode cX3_copyFrom 83 = .ok (.getfield 25, 3) := by decide +kernel
theorem dX3_copyFrom_86 : decode cX3_copyFrom 86 = .ok (.iconst 0, 1) := by decide +kernel
theorem dX3_copyFrom_87 : decode cX3_copyFrom 87 = .ok (.bipush 9, 2) := by decide +kernel
theorem dX3_copyFrom_89 : decode cX3_copyFrom 89 = .ok (.invokestatic 46, 3) := by decide +kernel
theorem dX3_copyFrom_92 : decode cX3_copyFrom 92 = .ok (.aload_n 1, 1) := by decide +kernel
theorem dX3_copyFrom_93 : decode cX3_copyFrom 93 = .ok (.getfield 28, 3) := by decide +kernel
theorem dX3_copyFrom_96 : decode cX3_copyFrom 96 = .ok (.iconst 0, 1) := by decide +kernel
theorem dX3_copyFrom_97 : decode cX3_copyFrom 97 = .ok (.aload_n 0, 1) := by decide +kernel
theorem dX3_copyFrom_98 : decode cX3_copyFrom 98 = .ok (.getfield 28, 3) := by decide +kernel
theorem dX3_copyFrom_101 : decode cX3_copyFrom 101 = .ok (.iconst 0, 1) := by decide +kernel
theorem dX3_copyFrom_102 : decode cX3_copyFrom 102 = .ok (.bipush 6, 2) := by decide +kernel
theorem dX3_copyFrom_104 : decode cX3_copyFrom 104 = .ok (.invokestatic 46, 3) := by decide +kernel
theorem dX3_copyFrom_107 : decode cX3_copyFrom 107 = .ok (.aload_n 1, 1) := by decide +kernel
theorem dX3_copyFrom_108 : decode cX3_copyFrom 108 = .ok (.getfield 31, 3) := by decide +kernel
theorem dX3_copyFrom_111 : decode cX3_copyFrom 111 = .ok (.iconst 0, 1) := by decide +kernel
theorem dX3_copyFrom_112 : decode cX3_copyFrom 112 = .ok (.aload_n 0, 1) := by decide +kernel
theorem dX3_copyFrom_113 : decode cX3_copyFrom 113 = .ok (.getfield 31, 3) := by decide +kernel
theorem dX3_copyFrom_116 : decode cX3_copyFrom 116 = .ok (.iconst 0, 1) := by decide +kernel
theorem dX3_copyFrom_117 : decode cX3_copyFrom 117 = .ok (.bipush 6, 2) := by decide +kernel
theorem dX3_copyFrom_119 : decode cX3_copyFrom 119 = .ok (.invokestatic 46, 3) := by decide +kernel
theorem dX3_copyFrom_122 : decode cX3_copyFrom 122 = .ok (.aload_n 1, 1) := by decide +kernel
theorem dX3_copyFrom_123 : decode cX3_copyFrom 123 = .ok (.getfield 34, 3) := by decide +kernel
theorem dX3_copyFrom_126 : decode cX3_copyFrom 126 = .ok (.iconst 0, 1) := by decide +kernel
theorem dX3_copyFrom_127 : decode cX3_copyFrom 127 = .ok (.aload_n 0, 1) := by decide +kernel
theorem dX3_copyFrom_128 : decode cX3_copyFrom 128 = .ok (.getfield 34, 3) := by decide +kernel
theorem dX3_copyFrom_131 : decode cX3_copyFrom 131 = .ok (.iconst 0, 1) := by decide +kernel
theorem dX3_copyFrom_132 : decode cX3_copyFrom 132 = .ok (.bipush 6, 2) := by decide +kernel
theorem dX3_copyFrom_134 : decode cX3_copyFrom 134 = .ok (.invokestatic 46, 3) := by decide +kernel
theorem dX3_copyFrom_137 : decode cX3_copyFrom 137 = .ok (.return_, 1) := by decide +kernel
theorem dX3_beginAnew_0 : decode cX3_beginAnew 0 = .ok (.aload_n 0, 1) := by decide +kernel
theorem dX3_beginAnew_1 : decode cX3_beginAnew 1 = .ok (.iload_n 1, 1) := by decide +kernel
theorem dX3_beginAnew_2 : decode cX3_beginAnew 2 = .ok (.putfield 9, 3) := by decide +kernel
theorem dX3_beginAnew_5 : decode cX3_beginAnew 5 = .ok (.aload_n 0, 1) := by decide +kernel
theorem dX3_beginAnew_6 : decode cX3_beginAnew 6 = .ok (.iconst 0, 1) := by decide +kernel
theorem dX3_beginAnew_7 : decode cX3_beginAnew 7 = .ok (.putfield 37, 3) := by decide +kernel
theorem dX3_beginAnew_10 : decode cX3_beginAnew 10 = .ok (.aload_n 0, 1) := by decide +kernel
theorem dX3_beginAnew_11 : decode cX3_beginAnew 11 = .ok (.iconst 0, 1) := by decide +kernel
theorem dX3_beginAnew_12 : decode cX3_beginAnew 12 = .ok (.putfield 40, 3) := by decide +kernel
theorem dX3_beginAnew_15 : decode cX3_beginAnew 15 = .ok (.aload_n 0, 1) := by decide +kernel
theorem dX3_beginAnew_16 : decode cX3_beginAnew 16 = .ok (.iconst 0, 1) := by decide +kernel
theorem dX3_beginAnew_17 : decode cX3_beginAnew 17 = .ok (.putfield 43, 3) := by decide +kernel
theorem dX3_beginAnew_20 : decode cX3_beginAnew 20 = .ok (.return_, 1) := by decide +kernel
theorem dX3_addLine_0 : decode cX3_addLine 0 = .ok (.aload_n 0, 1) := by decide +kernel
theorem dX3_addLine_1 : decode cX3_addLine 1 = .ok (.getfield 37, 3) := by decide +kernel
theorem dX3_addLine_4 : decode cX3_addLine 4 = .ok (.bipush 10, 2) := by decide +kernel
theorem dX3_addLine_6 : decode cX3_addLine 6 = .ok (.if_icmp .ge 41, 3) := by decide +kernel
theorem dX3_addLine_9 : decode cX3_addLine 9 = .ok (.aload_n 0, 1) := by decide +kernel
theorem dX3_addLine_10 : decode cX3_addLine 10 = .ok (.getfield 15, 3) := by decide +kernel
theorem dX3_addLine_13 : decode cX3_addLine 13 = .ok (.aload_n 0, 1) := by decide +kernel
theorem dX3_addLine_14 : decode cX3_addLine 14 = .ok (.getfield 37, 3) := by decide +kernel
theorem dX3_addLine_17 : decode cX3_addLine 17 = .ok (.iload_n 1, 1) := by decide +kernel
theorem dX3_addLine_18 : decode cX3_addLine 18 = .ok (.iload_n 2, 1) := by decide +kernel
theorem dX3_addLine_19 : decode cX3_addLine 19 = .ok (.invokestatic 52, 3) := by decide +kernel
theorem dX3_addLine_22 : decode cX3_addLine 22 = .ok (.iastore, 1) := by decide +kernel
theorem dX3_addLine_23 : decode cX3_addLine 23 = .ok (.aload_n 0, 1) := by decide +kernel
theorem dX3_addLine_24 : decode cX3_addLine 24 = .ok (.getfield 19, 3) := by decide +kernel
theorem dX3_addLine_27 : decode cX3_addLine 27 = .ok (.aload_n 0, 1) := by decide +kernel
theorem dX3_addLine_28 : decode cX3_addLine 28 = .ok (.getfield 37, 3) := by decide +kernel
theorem dX3_addLine_31 : decode cX3_addLine 31 = .ok (.iload_n 1, 1) := by decide +kernel
theorem dX3_addLine_32 : decode cX3_addLine 32 = .ok (.iload_n 2, 1) := by decide +kernel
theorem dX3_addLine_33 : decode cX3_addLine 33 = .ok (.invokestatic 58, 3) := by decide +kernel
theorem dX3_addLine_36 : decode cX3_addLine 36 = .ok (.iastore, 1) := by decide +kernel
theorem dX3_addLine_37 : decode cX3_addLine 37 = .ok (.aload_n 0, 1) := by decide +kernel
theorem dX3_addLine_38 : decode cX3_addLine 38 = .ok (.dup, 1) := by decide +kernel
theorem dX3_addLine_39 : decode cX3_addLine 39 = .ok (.getfield 37, 3) := by decide +kernel
theorem dX3_addLine_42 : decode cX3_addLine 42 = .ok (.iconst 1, 1) := by decide +kernel
theorem dX3_addLine_43 : decode cX3_addLine 43 = .ok (.iadd, 1) := by decide +kernel
theorem dX3_addLine_44 : decode cX3_addLine 44 = .ok (.putfield 37, 3) := by decide +kernel
theorem dX3_addLine_47 : decode cX3_addLine 47 = .ok (.return_, 1) := by decide +kernel
theorem dX3_addMeter_0 : decode cX3_addMeter 0 = .ok (.aload_n 0, 1) := by decide +kernel
theorem dX3_addMeter_1 : decode cX3_addMeter 1 = .ok (.getfield 40, 3) := by decide +kernel
theorem dX3_addMeter_4 : decode cX3_addMeter 4 = .ok (.bipush 9, 2) := by decide +kernel
theorem dX3_addMeter_6 : decode cX3_addMeter 6 = .ok (.if_icmp .ge 33, 3) := by decide +kernel
theorem dX3_addMeter_9 : decode cX3_addMeter 9 = .ok (.aload_n 0, 1) := by decide +kernel
theorem dX3_addMeter_10 : decode cX3_addMeter 10 = .ok (.getfield 22, 3) := by decide +kernel
theorem dX3_addMeter_13 : decode cX3_addMeter 13 = .ok (.aload_n 0, 1) := by decide +kernel
theorem dX3_addMeter_14 : decode cX3_addMeter 14 = .ok (.getfield 40, 3) := by decide +kernel
theorem dX3_addMeter_17 : decode cX3_addMeter 17 = .ok (.iload_n 1, 1) := by decide +kernel
theorem dX3_addMeter_18 : decode cX3_addMeter 18 = .ok (.iastore, 1) := by decide +kernel
theorem dX3_addMeter_19 : decode cX3_addMeter 19 = .ok (.aload_n 0, 1) := by decide +kernel
theorem dX3_addMeter_20 : decode cX3_addMeter 20 = .ok (.getfield 25, 3) := by decide +kernel
theorem dX3_addMeter_23 : decode cX3_addMeter 23 = .ok (.aload_n 0, 1) := by decide +kernel
theorem dX3_addMeter_24 : decode cX3_addMeter 24 = .ok (.getfield 40, 3) := by decide +kernel
theorem dX3_addMeter_27 : decode cX3_addMeter 27 = .ok (.iload_n 2, 1) := by decide +kernel
theorem dX3_addMeter_28 : decode cX3_addMeter 28 = .ok (.iastore, 1) := by decide +kernel
theorem dX3_addMeter_29 : decode cX3_addMeter 29 = .ok (.aload_n 0, 1) := by decide +kernel
theorem dX3_addMeter_30 : decode cX3_addMeter 30 = .ok (.dup, 1) := by decide +kernel
theorem dX3_addMeter_31 : decode cX3_addMeter 31 = .ok (.getfield 40, 3) := by decide +kernel
theorem dX3_addMeter_34 : decode cX3_addMeter 34 = .ok (.iconst 1, 1) := by decide +kernel
theorem dX3_addMeter_35 : decode cX3_addMeter 35 = .ok (.iadd, 1) := by decide +kernel
theorem dX3_addMeter_36 : decode cX3_addMeter 36 = .ok (.putfield 40, 3) := by decide +kernel
theorem dX3_addMeter_39 : decode cX3_addMeter 39 = .ok (.return_, 1) := by decide +kernel
theorem dX3_addOffer_0 : decode cX3_addOffer 0 = .ok (.aload_n 0, 1) := by decide +kernel
theorem dX3_addOffer_1 : decode cX3_addOffer 1 = .ok (.getfield 43, 3) := by decide +kernel
theorem dX3_addOffer_4 : decode cX3_addOffer 4 = .ok (.bipush 6, 2) := by decide +kernel
theorem dX3_addOffer_6 : decode cX3_addOffer 6 = .ok (.if_icmp .ge 43, 3) := by decide +kernel
theorem dX3_addOffer_9 : decode cX3_addOffer 9 = .ok (.aload_n 0, 1) := by decide +kernel
theorem dX3_addOffer_10 : decode cX3_addOffer 10 = .ok (.getfield 28, 3) := by decide +kernel
theorem dX3_addOffer_13 : decode cX3_addOffer 13 = .ok (.aload_n 0, 1) := by decide +kernel
theorem dX3_addOffer_14 : decode cX3_addOffer 14 = .ok (.getfield 43, 3) := by decide +kernel
theorem dX3_addOffer_17 : decode cX3_addOffer 17 = .ok (.iload_n 1, 1) := by decide +kernel
theorem dX3_addOffer_18 : decode cX3_addOffer 18 = .ok (.iastore, 1) := by decide +kernel
theorem dX3_addOffer_19 : decode cX3_addOffer 19 = .ok (.aload_n 0, 1) := by decide +kernel
theorem dX3_addOffer_20 : decode cX3_addOffer 20 = .ok (.getfield 31, 3) := by decide +kernel
theorem dX3_addOffer_23 : decode cX3_addOffer 23 = .ok (.aload_n 0, 1) := by decide +kernel
theorem dX3_addOffer_24 : decode cX3_addOffer 24 = .ok (.getfield 43, 3) := by decide +kernel
theorem dX3_addOffer_27 : decode cX3_addOffer 27 = .ok (.iload_n 2, 1) := by decide +kernel
theorem dX3_addOffer_28 : decode cX3_addOffer 28 = .ok (.iastore, 1) := by decide +kernel
theorem dX3_addOffer_29 : decode cX3_addOffer 29 = .ok (.aload_n 0, 1) := by decide +kernel
theorem dX3_addOffer_30 : decode cX3_addOffer 30 = .ok (.getfield 34, 3) := by decide +kernel
theorem dX3_addOffer_33 : decode cX3_addOffer 33 = .ok (.aload_n 0, 1) := by decide +kernel
theorem dX3_addOffer_34 : decode cX3_addOffer 34 = .ok (.getfield 43, 3) := by decide +kernel
theorem dX3_addOffer_37 : decode cX3_addOffer 37 = .ok (.iload_n 3, 1) := by decide +kernel
theorem dX3_addOffer_38 : decode cX3_addOffer 38 = .ok (.iastore, 1) := by decide +kernel
theorem dX3_addOffer_39 : decode cX3_addOffer 39 = .ok (.aload_n 0, 1) := by decide +kernel
theorem dX3_addOffer_40 : decode cX3_addOffer 40 = .ok (.dup, 1) := by decide +kernel
theorem dX3_addOffer_41 : decode cX3_addOffer 41 = .ok (.getfield 43, 3) := by decide +kernel
theorem dX3_addOffer_44 : decode cX3_addOffer 44 = .ok (.iconst 1, 1) := by decide +kernel
theorem dX3_addOffer_45 : decode cX3_addOffer 45 = .ok (.iadd, 1) := by decide +kernel
theorem dX3_addOffer_46 : decode cX3_addOffer 46 = .ok (.putfield 43, 3) := by decide +kernel
theorem dX3_addOffer_49 : decode cX3_addOffer 49 = .ok (.return_, 1) := by decide +kernel
theorem dX3_placesFor_0 : decode cX3_placesFor 0 = .ok (.iload_n 1, 1) := by decide +kernel
theorem dX3_placesFor_1 : decode cX3_placesFor 1 = .ok (.ifCond .eq 8, 3) := by decide +kernel
theorem dX3_placesFor_4 : decode cX3_placesFor 4 = .ok (.iload_n 1, 1) := by decide +kernel
theorem dX3_placesFor_5 : decode cX3_placesFor 5 = .ok (.iconst 1, 1) := by decide +kernel
theorem dX3_placesFor_6 : decode cX3_placesFor 6 = .ok (.if_icmp .ne 10, 3) := by decide +kernel
theorem dX3_placesFor_9 : decode cX3_placesFor 9 = .ok (.aload_n 0, 1) := by decide +kernel
theorem dX3_placesFor_10 : decode cX3_placesFor 10 = .ok (.getfield 37, 3) := by decide +kernel
theorem dX3_placesFor_13 : decode cX3_placesFor 13 = .ok (.goto 7, 3) := by decide +kernel
theorem dX3_placesFor_16 : decode cX3_placesFor 16 = .ok (.aload_n 0, 1) := by decide +kernel
theorem dX3_placesFor_17 : decode cX3_placesFor 17 = .ok (.getfield 9, 3) := by decide +kernel
theorem dX3_placesFor_20 : decode cX3_placesFor 20 = .ok (.ireturn, 1) := by decide +kernel
theorem dX3_hasPlace_0 : decode cX3_hasPlace 0 = .ok (.iload_n 2, 1) := by decide +kernel
theorem dX3_hasPlace_1 : decode cX3_hasPlace 1 = .ok (.ifCond .lt 16, 3) := by decide +kernel
theorem dX3_hasPlace_4 : decode cX3_hasPlace 4 = .ok (.iload_n 2, 1) := by decide +kernel
theorem dX3_hasPlace_5 : decode cX3_hasPlace 5 = .ok (.aload_n 0, 1) := by decide +kernel
theorem dX3_hasPlace_6 : decode cX3_hasPlace 6 = .ok (.iload_n 1, 1) := by decide +kernel
theorem dX3_hasPlace_7 : decode cX3_hasPlace 7 = .ok (.invokevirtual 61, 3) := by decide +kernel
theorem dX3_hasPlace_10 : decode cX3_hasPlace 10 = .ok (.if_icmp .ge 7, 3) := by decide +kernel
theorem dX3_hasPlace_13 : decode cX3_hasPlace 13 = .ok (.iconst 1, 1) := by decide +kernel
theorem dX3_hasPlace_14 : decode cX3_hasPlace 14 = .ok (.goto 4, 3) := by decide +kernel
theorem dX3_hasPlace_17 : decode cX3_hasPlace 17 = .ok (.iconst 0, 1) := by decide +kernel
theorem dX3_hasPlace_18 : decode cX3_hasPlace 18 = .ok (.ireturn, 1) := by decide +kernel
theorem dX3_allLines_0 : decode cX3_allLines 0 = .ok (.iconst 1, 1) := by decide +kernel
theorem dX3_allLines_1 : decode cX3_allLines 1 = .ok (.aload_n 0, 1) := by decide +kernel
theorem dX3_allLines_2 : decode cX3_allLines 2 = .ok (.getfield 37, 3) := by decide +kernel
theorem dX3_allLines_5 : decode cX3_allLines 5 = .ok (.ishl, 1) := by decide +kernel
theorem dX3_allLines_6 : decode cX3_allLines 6 = .ok (.iconst 1, 1) := by decide +kernel
theorem dX3_allLines_7 : decode cX3_allLines 7 = .ok (.isub, 1) := by decide +kernel
theorem dX3_allLines_8 : decode cX3_allLines 8 = .ok (.ireturn, 1) := by decide +kernel
theorem dX3_linesBeside_0 : decode cX3_linesBeside 0 = .ok (.iconst 0, 1) := by decide +kernel
theorem dX3_linesBeside_1 : decode cX3_linesBeside 1 = .ok (.istore_n 2, 1) := by decide +kernel
theorem dX3_linesBeside_2 : decode cX3_linesBeside 2 = .ok (.iconst 0, 1) := by decide +kernel
theorem dX3_linesBeside_3 : decode cX3_linesBeside 3 = .ok (.istore_n 3, 1) := by decide +kernel
theorem dX3_linesBeside_4 : decode cX3_linesBeside 4 = .ok (.iload_n 3, 1) := by decide +kernel
theorem dX3_linesBeside_5 : decode cX3_linesBeside 5 = .ok (.aload_n 0, 1) := by decide +kernel
theorem dX3_linesBeside_6 : decode cX3_linesBeside 6 = .ok (.getfield 37, 3) := by decide +kernel
theorem dX3_linesBeside_9 : decode cX3_linesBeside 9 = .ok (.if_icmp .ge 45, 3) := by decide +kernel
theorem dX3_linesBeside_12 : decode cX3_linesBeside 12 = .ok (.aload_n 0, 1) := by decide +kernel
theorem dX3_linesBeside_13 : decode cX3_linesBeside 13 = .ok (.getfield 15, 3) := by decide +kernel
theorem dX3_linesBeside_16 : decode cX3_linesBeside 16 = .ok (.iload_n 3, 1) := by decide +kernel
theorem dX3_linesBeside_17 : decode cX3_linesBeside 17 = .ok (.iaload, 1) := by decide +kernel
theorem dX3_linesBeside_18 : decode cX3_linesBeside 18 = .ok (.aload_n 0, 1) := by decide +kernel
theorem dX3_linesBeside_19 : decode cX3_linesBeside 19 = .ok (.getfield 15, 3) := by decide +kernel
theorem dX3_linesBeside_22 : decode cX3_linesBeside 22 = .ok (.iload_n 1, 1) := by decide +kernel
theorem dX3_linesBeside_23 : decode cX3_linesBeside 23 = .ok (.iaload, 1) := by decide +kernel
theorem dX3_linesBeside_24 : decode cX3_linesBeside 24 = .ok (.if_icmp .ne 24, 3) := by decide +kernel
theorem dX3_linesBeside_27 : decode cX3_linesBeside 27 = .ok (.aload_n 0, 1) := by decide +kernel
theorem dX3_linesBeside_28 : decode cX3_linesBeside 28 = .ok (.getfield 19, 3) := by decide +kernel
theorem dX3_linesBeside_31 : decode cX3_linesBeside 31 = .ok (.iload_n 3, 1) := by decide +kernel
theorem dX3_linesBeside_32 : decode cX3_linesBeside 32 = .ok (.iaload, 1) := by decide +kernel
theorem dX3_linesBeside_33 : decode cX3_linesBeside 33 = .ok (.aload_n 0, 1) := by decide +kernel
theorem dX3_linesBeside_34 : decode cX3_linesBeside 34 = .ok (.getfield 19, 3) := by decide +kernel
theorem dX3_linesBeside_37 : decode cX3_linesBeside 37 = .ok (.iload_n 1, 1) := by decide +kernel
theorem dX3_linesBeside_38 : decode cX3_linesBeside 38 = .ok (.iaload, 1) := by decide +kernel
theorem dX3_linesBeside_39 : decode cX3_linesBeside 39 = .ok (.if_icmp .ne 9, 3) := by decide +kernel
theorem dX3_linesBeside_42 : decode cX3_linesBeside 42 = .ok (.iload_n 2, 1) := by decide +kernel
theorem dX3_linesBeside_43 : decode cX3_linesBeside 43 = .ok (.iconst 1, 1) := by decide +kernel
theorem dX3_linesBeside_44 : decode cX3_linesBeside 44 = .ok (.iload_n 3, 1) := by decide +kernel
theorem dX3_linesBeside_45 : decode cX3_linesBeside 45 = .ok (.ishl, 1) := by decide +kernel
theorem dX3_linesBeside_46 : decode cX3_linesBeside 46 = .ok (.ior, 1) := by decide +kernel
theorem dX3_linesBeside_47 : decode cX3_linesBeside 47 = .ok (.istore_n 2, 1) := by decide +kernel
theorem dX3_linesBeside_48 : decode cX3_linesBeside 48 = .ok (.iinc 3 1, 3) := by decide +kernel
theorem dX3_linesBeside_51 : decode cX3_linesBeside 51 = .ok (.goto (-47), 3) := by decide +kernel
theorem dX3_linesBeside_54 : decode cX3_linesBeside 54 = .ok (.iload_n 2, 1) := by decide +kernel
theorem dX3_linesBeside_55 : decode cX3_linesBeside 55 = .ok (.ireturn, 1) := by decide +kernel
theorem dX3_linesAt_0 : decode cX3_linesAt 0 = .ok (.iconst 0, 1) := by decide +kernel
theorem dX3_linesAt_1 : decode cX3_linesAt 1 = .ok (.istore_n 3, 1) := by decide +kernel
theorem dX3_linesAt_2 : decode cX3_linesAt 2 = .ok (.iconst 0, 1) := by decide +kernel
theorem dX3_linesAt_3 : decode cX3_linesAt 3 = .ok (.istore 4, 2) := by decide +kernel
theorem dX3_linesAt_5 : decode cX3_linesAt 5 = .ok (.iload 4, 2) := by decide +kernel
theorem dX3_linesAt_7 : decode cX3_linesAt 7 = .ok (.aload_n 0, 1) := by decide +kernel
theorem dX3_linesAt_8 : decode cX3_linesAt 8 = .ok (.getfield 37, 3) := by decide +kernel
theorem dX3_linesAt_11 : decode cX3_linesAt 11 = .ok (.if_icmp .ge 38, 3) := by decide +kernel
theorem dX3_linesAt_14 : decode cX3_linesAt 14 = .ok (.aload_n 0, 1) := by decide +kernel
theorem dX3_linesAt_15 : decode cX3_linesAt 15 = .ok (.getfield 15, 3) := by decide +kernel
theorem dX3_linesAt_18 : decode cX3_linesAt 18 = .ok (.iload 4, 2) := by decide +kernel
theorem dX3_linesAt_20 : decode cX3_linesAt 20 = .ok (.iaload, 1) := by decide +kernel
theorem dX3_linesAt_21 : decode cX3_linesAt 21 = .ok (.iload_n 1, 1) := by decide +kernel
theorem dX3_linesAt_22 : decode cX3_linesAt 22 = .ok (.if_icmp .eq 14, 3) := by decide +kernel
theorem dX3_linesAt_25 : decode cX3_linesAt 25 = .ok (.aload_n 0, 1) := by decide +kernel
theorem dX3_linesAt_26 : decode cX3_linesAt 26 = .ok (.getfield 19, 3) := by decide +kernel
theorem dX3_linesAt_29 : decode cX3_linesAt 29 = .ok (.iload 4, 2) := by decide +kernel
theorem dX3_linesAt_31 : decode cX3_linesAt 31 = .ok (.iaload, 1) := by decide +kernel
theorem dX3_linesAt_32 : decode cX3_linesAt 32 = .ok (.iload_n 1, 1) := by decide +kernel
theorem dX3_linesAt_33 : decode cX3_linesAt 33 = .ok (.if_icmp .ne 10, 3) := by decide +kernel
theorem dX3_linesAt_36 : decode cX3_linesAt 36 = .ok (.iload_n 3, 1) := by decide +kernel
theorem dX3_linesAt_37 : decode cX3_linesAt 37 = .ok (.iconst 1, 1) := by decide +kernel
theorem dX3_linesAt_38 : decode cX3_linesAt 38 = .ok (.iload 4, 2) := by decide +kernel
theorem dX3_linesAt_40 : decode cX3_linesAt 40 = .ok (.ishl, 1) := by decide +kernel
theorem dX3_linesAt_41 : decode cX3_linesAt 41 = .ok (.ior, 1) := by decide +kernel
theorem dX3_linesAt_42 : decode cX3_linesAt 42 = .ok (.istore_n 3, 1) := by decide +kernel
theorem dX3_linesAt_43 : decode cX3_linesAt 43 = .ok (.iinc 4 1, 3) := by decide +kernel
theorem dX3_linesAt_46 : decode cX3_linesAt 46 = .ok (.goto (-41), 3) := by decide +kernel
theorem dX3_linesAt_49 : decode cX3_linesAt 49 = .ok (.iload_n 3, 1) := by decide +kernel
theorem dX3_linesAt_50 : decode cX3_linesAt 50 = .ok (.iload_n 2, 1) := by decide +kernel
theorem dX3_linesAt_51 : decode cX3_linesAt 51 = .ok (.iand, 1) := by decide +kernel
theorem dX3_linesAt_52 : decode cX3_linesAt 52 = .ok (.ireturn, 1) := by decide +kernel
theorem dX3_linesNear_0 : decode cX3_linesNear 0 = .ok (.aload_n 0, 1) := by decide +kernel
theorem dX3_linesNear_1 : decode cX3_linesNear 1 = .ok (.iload_n 1, 1) := by decide +kernel
theorem dX3_linesNear_2 : decode cX3_linesNear 2 = .ok (.iload_n 2, 1) := by decide +kernel
theorem dX3_linesNear_3 : decode cX3_linesNear 3 = .ok (.invokevirtual 72, 3) := by decide +kernel
theorem dX3_linesNear_6 : decode cX3_linesNear 6 = .ok (.istore_n 3, 1) := by decide +kernel
theorem dX3_linesNear_7 : decode cX3_linesNear 7 = .ok (.iconst 0, 1) := by decide +kernel
theorem dX3_linesNear_8 : decode cX3_linesNear 8 = .ok (.istore 4, 2) := by decide +kernel
theorem dX3_linesNear_10 : decode cX3_linesNear 10 = .ok (.iconst 0, 1) := by decide +kernel
theorem dX3_linesNear_11 : decode cX3_linesNear 11 = .ok (.istore 5, 2) := by decide +kernel
theorem dX3_linesNear_13 : decode cX3_linesNear 13 = .ok (.iload 5, 2) := by decide +kernel
theorem dX3_linesNear_15 : decode cX3_linesNear 15 = .ok (.aload_n 0, 1) := by decide +kernel
theorem dX3_linesNear_16 : decode cX3_linesNear 16 = .ok (.getfield 37, 3) := by decide +kernel
theorem dX3_linesNear_19 : decode cX3_linesNear 19 = .ok (.if_icmp .ge 49, 3) := by decide +kernel
theorem dX3_linesNear_22 : decode cX3_linesNear 22 = .ok (.iload_n 3, 1) := by decide +kernel
theorem dX3_linesNear_23 : decode cX3_linesNear 23 = .ok (.iload 5, 2) := by decide +kernel
theorem dX3_linesNear_25 : decode cX3_linesNear 25 = .ok (.ishr, 1) := by decide +kernel
theorem dX3_linesNear_26 : decode cX3_linesNear 26 = .ok (.iconst 1, 1) := by decide +kernel
theorem dX3_linesNear_27 : decode cX3_linesNear 27 = .ok (.iand, 1) := by decide +kernel
theorem dX3_linesNear_28 : decode cX3_linesNear 28 = .ok (.iconst 1, 1) := by decide +kernel
theorem dX3_linesNear_29 : decode cX3_linesNear 29 = .ok (.if_icmp .ne 33, 3) := by decide +kernel
theorem dX3_linesNear_32 : decode cX3_linesNear 32 = .ok (.iload 4, 2) := by decide +kernel
theorem dX3_linesNear_34 : decode cX3_linesNear 34 = .ok (.aload_n 0, 1) := by decide +kernel
theorem dX3_linesNear_35 : decode cX3_linesNear 35 = .ok (.aload_n 0, 1) := by decide +kernel
theorem dX3_linesNear_36 : decode cX3_linesNear 36 = .ok (.getfield 15, 3) := by decide +kernel
theorem dX3_linesNear_39 : decode cX3_linesNear 39 = .ok (.iload 5, 2) := by decide +kernel
theorem dX3_linesNear_41 : decode cX3_linesNear 41 = .ok (.iaload, 1) := by decide +kernel
theorem dX3_linesNear_42 : decode cX3_linesNear 42 = .ok (.iload_n 2, 1) := by decide +kernel
theorem dX3_linesNear_43 : decode cX3_linesNear 43 = .ok (.invokevirtual 72, 3) := by decide +kernel
theorem dX3_linesNear_46 : decode cX3_linesNear 46 = .ok (.aload_n 0, 1) := by decide +kernel
theorem dX3_linesNear_47 : decode cX3_linesNear 47 = .ok (.aload_n 0, 1) := by decide +kernel
theorem dX3_linesNear_48 : decode cX3_linesNear 48 = .ok (.getfield 19, 3) := by decide +kernel
theorem dX3_linesNear_51 : decode cX3_linesNear 51 = .ok (.iload 5, 2) := by decide +kernel
theorem dX3_linesNear_53 : decode cX3_linesNear 53 = .ok (.iaload, 1) := by decide +kernel
theorem dX3_linesNear_54 : decode cX3_linesNear 54 = .ok (.iload_n 2, 1) := by decide +kernel
theorem dX3_linesNear_55 : decode cX3_linesNear 55 = .ok (.invokevirtual 72, 3) := by decide +kernel
theorem dX3_linesNear_58 : decode cX3_linesNear 58 = .ok (.ior, 1) := by decide +kernel
theorem dX3_linesNear_59 : decode cX3_linesNear 59 = .ok (.ior, 1) := by decide +kernel
theorem dX3_linesNear_60 : decode cX3_linesNear 60 = .ok (.istore 4, 2) := by decide +kernel
theorem dX3_linesNear_62 : decode cX3_linesNear 62 = .ok (.iinc 5 1, 3) := by decide +kernel
theorem dX3_linesNear_65 : decode cX3_linesNear 65 = .ok (.goto (-52), 3) := by decide +kernel
theorem dX3_linesNear_68 : decode cX3_linesNear 68 = .ok (.iload 4, 2) := by decide +kernel
theorem dX3_linesNear_70 : decode cX3_linesNear 70 = .ok (.ireturn, 1) := by decide +kernel
theorem dX3_withoutLeast_0 : decode cX3_withoutLeast 0 = .ok (.iload_n 0, 1) := by decide +kernel
theorem dX3_withoutLeast_1 : decode cX3_withoutLeast 1 = .ok (.iload_n 0, 1) := by decide +kernel
theorem dX3_withoutLeast_2 : decode cX3_withoutLeast 2 = .ok (.iconst 1, 1) := by decide +kernel
theorem dX3_withoutLeast_3 : decode cX3_withoutLeast 3 = .ok (.isub, 1) := by decide +kernel
theorem dX3_withoutLeast_4 : decode cX3_withoutLeast 4 = .ok (.iand, 1) := by decide +kernel
theorem dX3_withoutLeast_5 : decode cX3_withoutLeast 5 = .ok (.ireturn, 1) := by decide +kernel
theorem dX3_linesFor_0 : decode cX3_linesFor 0 = .ok (.aload_n 0, 1) := by decide +kernel
theorem dX3_linesFor_1 : decode cX3_linesFor 1 = .ok (.iload_n 1, 1) := by decide +kernel
theorem dX3_linesFor_2 : decode cX3_linesFor 2 = .ok (.iload_n 2, 1) := by decide +kernel
theorem dX3_linesFor_3 : decode cX3_linesFor 3 = .ok (.invokevirtual 65, 3) := by decide +kernel
theorem dX3_linesFor_6 : decode cX3_linesFor 6 = .ok (.ifCond .ne 5, 3) := by decide +kernel
theorem dX3_linesFor_9 : decode cX3_linesFor 9 = .ok (.iconst 0, 1) := by decide +kernel
theorem dX3_linesFor_10 : decode cX3_linesFor 10 = .ok (.ireturn, 1) := by decide +kernel
theorem dX3_linesFor_11 : decode cX3_linesFor 11 = .ok (.iload_n 1, 1) := by decide +kernel
theorem dX3_linesFor_12 : decode cX3_linesFor 12 = .ok (.tableswitch 74 0 4 #[36, 42, 50, 57, 64], 36) := by decide +kernel
theorem dX3_linesFor_48 : decode cX3_linesFor 48 = .ok (.iconst 1, 1) := by decide +kernel
theorem dX3_linesFor_49 : decode cX3_linesFor 49 = .ok (.iload_n 2, 1) := by decide +kernel
theorem dX3_linesFor_50 : decode cX3_linesFor 50 = .ok (.ishl, 1) := by decide +kernel
theorem dX3_linesFor_51 : decode cX3_linesFor 51 = .ok (.iload_n 3, 1) := by decide +kernel
theorem dX3_linesFor_52 : decode cX3_linesFor 52 = .ok (.iand, 1) := by decide +kernel
theorem dX3_linesFor_53 : decode cX3_linesFor 53 = .ok (.ireturn, 1) := by decide +kernel
theorem dX3_linesFor_54 : decode cX3_linesFor 54 = .ok (.aload_n 0, 1) := by decide +kernel
theorem dX3_linesFor_55 : decode cX3_linesFor 55 = .ok (.iload_n 2, 1) := by decide +kernel
theorem dX3_linesFor_56 : decode cX3_linesFor 56 = .ok (.invokevirtual 69, 3) := by decide +kernel
theorem dX3_linesFor_59 : decode cX3_linesFor 59 = .ok (.iload_n 3, 1) := by decide +kernel
theorem dX3_linesFor_60 : decode cX3_linesFor 60 = .ok (.iand, 1) := by decide +kernel
theorem dX3_linesFor_61 : decode cX3_linesFor 61 = .ok (.ireturn, 1) := by decide +kernel
theorem dX3_linesFor_62 : decode cX3_linesFor 62 = .ok (.aload_n 0, 1) := by decide +kernel
theorem dX3_linesFor_63 : decode cX3_linesFor 63 = .ok (.iload_n 2, 1) := by decide +kernel
theorem dX3_linesFor_64 : decode cX3_linesFor 64 = .ok (.iload_n 3, 1) := by decide +kernel
theorem dX3_linesFor_65 : decode cX3_linesFor 65 = .ok (.invokevirtual 72, 3) := by decide +kernel
theorem dX3_linesFor_68 : decode cX3_linesFor 68 = .ok (.ireturn, 1) := by decide +kernel
theorem dX3_linesFor_69 : decode cX3_linesFor 69 = .ok (.aload_n 0, 1) := by decide +kernel
theorem dX3_linesFor_70 : decode cX3_linesFor 70 = .ok (.iload_n 2, 1) := by decide +kernel
theorem dX3_linesFor_71 : decode cX3_linesFor 71 = .ok (.iload_n 3, 1) := by decide +kernel
theorem dX3_linesFor_72 : decode cX3_linesFor 72 = .ok (.invokevirtual 75, 3) := by decide +kernel
theorem dX3_linesFor_75 : decode cX3_linesFor 75 = .ok (.ireturn, 1) := by decide +kernel
theorem dX3_linesFor_76 : decode cX3_linesFor 76 = .ok (.aload_n 0, 1) := by decide +kernel
theorem dX3_linesFor_77 : decode cX3_linesFor 77 = .ok (.iload_n 2, 1) := by decide +kernel
theorem dX3_linesFor_78 : decode cX3_linesFor 78 = .ok (.iload_n 3, 1) := by decide +kernel
theorem dX3_linesFor_79 : decode cX3_linesFor 79 = .ok (.invokevirtual 72, 3) := by decide +kernel
theorem dX3_linesFor_82 : decode cX3_linesFor 82 = .ok (.invokestatic 78, 3) := by decide +kernel
theorem dX3_linesFor_85 : decode cX3_linesFor 85 = .ok (.ireturn, 1) := by decide +kernel
theorem dX3_linesFor_86 : decode cX3_linesFor 86 = .ok (.iconst 0, 1) := by decide +kernel
theorem dX3_linesFor_87 : decode cX3_linesFor 87 = .ok (.ireturn, 1) := by decide +kernel
theorem dX3_priceOf_0 : decode cX3_priceOf 0 = .ok (.iconst 0, 1) := by decide +kernel
theorem dX3_priceOf_1 : decode cX3_priceOf 1 = .ok (.istore_n 2, 1) := by decide +kernel
theorem dX3_priceOf_2 : decode cX3_priceOf 2 = .ok (.iconst 0, 1) := by decide +kernel
theorem dX3_priceOf_3 : decode cX3_priceOf 3 = .ok (.istore_n 3, 1) := by decide +kernel
theorem dX3_priceOf_4 : decode cX3_priceOf 4 = .ok (.iload_n 3, 1) := by decide +kernel
theorem dX3_priceOf_5 : decode cX3_priceOf 5 = .ok (.aload_n 0, 1) := by decide +kernel
theorem dX3_priceOf_6 : decode cX3_priceOf 6 = .ok (.getfield 43, 3) := by decide +kernel
theorem dX3_priceOf_9 : decode cX3_priceOf 9 = .ok (.if_icmp .ge 27, 3) := by decide +kernel
theorem dX3_priceOf_12 : decode cX3_priceOf 12 = .ok (.iload_n 1, 1) := by decide +kernel
theorem dX3_priceOf_13 : decode cX3_priceOf 13 = .ok (.iload_n 3, 1) := by decide +kernel
theorem dX3_priceOf_14 : decode cX3_priceOf 14 = .ok (.ishr, 1) := by decide +kernel
theorem dX3_priceOf_15 : decode cX3_priceOf 15 = .ok (.iconst 1, 1) := by decide +kernel
theorem dX3_priceOf_16 : decode cX3_priceOf 16 = .ok (.iand, 1) := by decide +kernel
theorem dX3_priceOf_17 : decode cX3_priceOf 17 = .ok (.iconst 1, 1) := by decide +kernel
theorem dX3_priceOf_18 : decode cX3_priceOf 18 = .ok (.if_icmp .ne 12, 3) := by decide +kernel
theorem dX3_priceOf_21 : decode cX3_priceOf 21 = .ok (.iload_n 2, 1) := by decide +kernel
theorem dX3_priceOf_22 : decode cX3_priceOf 22 = .ok (.aload_n 0, 1) := by decide +kernel
theorem dX3_priceOf_23 : decode cX3_priceOf 23 = .ok (.getfield 34, 3) := by decide +kernel
theorem dX3_priceOf_26 : decode cX3_priceOf 26 = .ok (.iload_n 3, 1) := by decide +kernel
theorem dX3_priceOf_27 : decode cX3_priceOf 27 = .ok (.iaload, 1) := by decide +kernel
theorem dX3_priceOf_28 : decode cX3_priceOf 28 = .ok (.iadd, 1) := by decide +kernel
theorem dX3_priceOf_29 : decode cX3_priceOf 29 = .ok (.istore_n 2, 1) := by decide +kernel
theorem dX3_priceOf_30 : decode cX3_priceOf 30 = .ok (.iinc 3 1, 3) := by decide +kernel
theorem dX3_priceOf_33 : decode cX3_priceOf 33 = .ok (.goto (-29), 3) := by decide +kernel
theorem dX3_priceOf_36 : decode cX3_priceOf 36 = .ok (.iload_n 2, 1) := by decide +kernel
theorem dX3_priceOf_37 : decode cX3_priceOf 37 = .ok (.ireturn, 1) := by decide +kernel
theorem kfX3_9 : ux_FL RX3 9 3 0 := ⟨RX3, TX3, 11, rfl, lay_X3, by decide, tw_107⟩
theorem kpX3_9 : ux_FP RX3 9 3 0 .int := ⟨RX3, TX3, 11, rfl, lay_X3, by decide, tw_107, tyX3, tyX3_ok, nmX3, rfl, by decide +kernel⟩
theorem kfX3_37 : ux_FL RX3 37 3 1 := ⟨RX3, TX3, 11, rfl, lay_X3, by decide, tw_111⟩
theorem kpX3_37 : ux_FP RX3 37 3 1 .int := ⟨RX3, TX3, 11, rfl, lay_X3, by decide, tw_111, tyX3, tyX3_ok, nmX3, rfl, by decide +kernel⟩
theorem kfX3_40 : ux_FL RX3 40 3 2 := ⟨RX3, TX3, 11, rfl, lay_X3, by decide, tw_116⟩
theorem kpX3_40 : ux_FP RX3 40 3 2 .int := ⟨RX3, TX3, 11, rfl, lay_X3, by decide, tw_116, tyX3, tyX3_ok, nmX3, rfl, by decide +kernel⟩
theorem kfX3_43 : ux_FL RX3 43 3 3 := ⟨RX3, TX3, 11, rfl, lay_X3, by decide, tw_118⟩
theorem kpX3_43 : ux_FP RX3 43 3 3 .int := ⟨RX3, TX3, 11, rfl, lay_X3, by decide, tw_118, tyX3, tyX3_ok, nmX3, rfl, by decide +kernel⟩
theorem kfX3_15 : ux_FL RX3 15 3 4 := ⟨RX3, TX3, 11, rfl, lay_X3, by decide, tw_122⟩
theorem kaX3_46 : ux_LA RX3 46 := ⟨tw_596, tw_464, tw_463, tw_85⟩
theorem kfX3_19 : ux_FL RX3 19 3 5 := ⟨RX3, TX3, 11, rfl, lay_X3, by decide, tw_125⟩
theorem kfX3_22 : ux_FL RX3 22 3 6 := ⟨RX3, TX3, 11, rfl, lay_X3, by decide, tw_128⟩
theorem kfX3_25 : ux_FL RX3 25 3 7 := ⟨RX3, TX3, 11, rfl, lay_X3, by decide, tw_130⟩
theorem kfX3_28 : ux_FL RX3 28 3 8 := ⟨RX3, TX3, 11, rfl, lay_X3, by decide, tw_132⟩
theorem kfX3_31 : ux_FL RX3 31 3 9 := ⟨RX3, TX3, 11, rfl, lay_X3, by decide, tw_135⟩
theorem kfX3_34 : ux_FL RX3 34 3 10 := ⟨RX3, TX3, 11, rfl, lay_X3, by decide, tw_138⟩
theorem kmX3_52 : ux_LM RX3 52 Lib.Math.min.name Lib.Math.min.code := ⟨tw_682, tw_683, tw_92, tw_684⟩
theorem kmX3_58 : ux_LM RX3 58 Lib.Math.max.name Lib.Math.max.code := ⟨tw_685, tw_686, tw_92, tw_687⟩
theorem kvX3_61 : ux_LV RX3 61 3 yX3_placesFor cX3_placesFor 2 (some .int) 1 := ⟨⟨TX3, 11, rfl⟩, tw_489, tw_490, tw_491, tw_73, tw_492, ⟨by decide, by decide, by decide +kernel⟩⟩
theorem kvX3_72 : ux_LV RX3 72 3 yX3_linesAt cX3_linesAt 5 (some .int) 2 := ⟨⟨TX3, 11, rfl⟩, tw_497, tw_499, tw_3, tw_73, tw_500, ⟨by decide, by decide, by decide +kernel⟩⟩
theorem kvX3_65 : ux_LV RX3 65 3 yX3_hasPlace cX3_hasPlace 3 (some .boolean) 2 := ⟨⟨TX3, 11, rfl⟩, tw_485, tw_486, tw_487, tw_73, tw_488, ⟨by decide, by decide, by decide +kernel⟩⟩
theorem kvX3_69 : ux_LV RX3 69 3 yX3_linesBeside cX3_linesBeside 4 (some .int) 1 := ⟨⟨TX3, 11, rfl⟩, tw_493, tw_495, tw_2, tw_73, tw_496, ⟨by decide, by decide, by decide +kernel⟩⟩
theorem kvX3_75 : ux_LV RX3 75 3 yX3_linesNear cX3_linesNear 6 (some .int) 2 := ⟨⟨TX3, 11, rfl⟩, tw_501, tw_503, tw_4, tw_73, tw_504, ⟨by decide, by decide, by decide +kernel⟩⟩
theorem ksX3_78 : ux_LS RX3 78 yX3_withoutLeast cX3_withoutLeast 1 (some .int) 1 := ⟨tw_505, tw_506, tw_73, tw_507, ⟨by decide, by decide, by decide +kernel⟩⟩
def fX3_copyFrom_107 (c0 : Nat) (c1 : Nat) (N : ux_N) : Option (ux_N) :=
  some (ux_cpN (ux_cpN N (c1 + 6) (c0 + 6) 0 0 6) (c1 + 7) (c0 + 7) 0 0 6)
set_option maxHeartbeats 4000000 in
set_option maxRecDepth 20000 in
theorem wX3_copyFrom_107 {X : ux_X} (C : ux_C X cX3_copyFrom RX3 2 none 1 60 shC) {c0 : Nat} {c1 : Nat} (p0 : is_X3 c0) (p1 : is_X3 c1) {N : ux_N} {L : ux_L} {o : ux_N} (hq : ux_Qv X o L) (h : fX3_copyFrom_107 c0 c1 N = some o) : ux_Wt X 2 107 [(0, .ref (ux_ad X c0)), (1, .ref (ux_ad X c1))] [] N L := by
  refine wt_aload_n 108 1 C dX3_copyFrom_107 rfl rfl ?_
  refine wt_getR 111 C kfX3_31 (p1).1 rfl dX3_copyFrom_108 rfl ?_
  refine wt_iconst 112 0 C dX3_copyFrom_111 rfl (by decide) ?_
  refine wt_aload_n 113 0 C dX3_copyFrom_112 rfl rfl ?_
  refine wt_getR 116 C kfX3_31 (p0).1 rfl dX3_copyFrom_113 rfl ?_
  refine wt_iconst 117 0 C dX3_copyFrom_116 rfl (by decide) ?_
  refine wt_bipush 119 6 C dX3_copyFrom_117 rfl (by decide) ?_
  refine wt_copyI 122 0 0 6 C kaX3_46 (p1).2.2.2.2.2.2.1 (p0).2.2.2.2.2.2.1 (by decide) (by decide) (by decide) (by decide) (by decide) (by decide) (by decide) (by decide) (by decide) (Nat.le_of_ble_eq_true rfl) dX3_copyFrom_119 rfl ?_
  refine wt_aload_n 123 1 C dX3_copyFrom_122 rfl rfl ?_
  refine wt_getR 126 C kfX3_34 (p1).1 rfl dX3_copyFrom_123 rfl ?_
  refine wt_iconst 127 0 C dX3_copyFrom_126 rfl (by decide) ?_
  refine wt_aload_n 128 0 C dX3_copyFrom_127 rfl rfl ?_
  refine wt_getR 131 C kfX3_34 (p0).1 rfl dX3_copyFrom_128 rfl ?_
  refine wt_iconst 132 0 C dX3_copyFrom_131 rfl (by decide) ?_
  refine wt_bipush 134 6 C dX3_copyFrom_132 rfl (by decide) ?_
  refine wt_copyI 137 0 0 6 C kaX3_46 (p1).2.2.2.2.2.2.2 (p0).2.2.2.2.2.2.2 (by decide) (by decide) (by decide) (by decide) (by decide) (by decide) (by decide) (by decide) (by decide) (Nat.le_of_ble_eq_true rfl) dX3_copyFrom_134 rfl ?_
  cases h
  exact wt_vret C hq dX3_copyFrom_137
def fX3_copyFrom_32 (c0 : Nat) (c1 : Nat) (N : ux_N) : Option (ux_N) :=
  fX3_copyFrom_107 c0 c1 (ux_cpN (ux_cpN (ux_cpN (ux_cpN (ux_cpN N (c1 + 1) (c0 + 1) 0 0 10) (c1 + 2) (c0 + 2) 0 0 10) (c1 + 3) (c0 + 3) 0 0 9) (c1 + 4) (c0 + 4) 0 0 9) (c1 + 5) (c0 + 5) 0 0 6)
set_option maxHeartbeats 4000000 in
set_option maxRecDepth 20000 in
theorem wX3_copyFrom_32 {X : ux_X} (C : ux_C X cX3_copyFrom RX3 2 none 1 60 shC) {c0 : Nat} {c1 : Nat} (p0 : is_X3 c0) (p1 : is_X3 c1) {N : ux_N} {L : ux_L} {o : ux_N} (hq : ux_Qv X o L) (h : fX3_copyFrom_32 c0 c1 N = some o) : ux_Wt X 2 32 [(0, .ref (ux_ad X c0)), (1, .ref (ux_ad X c1))] [] N L := by
  refine wt_aload_n 33 1 C dX3_copyFrom_32 rfl rfl ?_
  refine wt_getR 36 C kfX3_15 (p1).1 rfl dX3_copyFrom_33 rfl ?_
  refine wt_iconst 37 0 C dX3_copyFrom_36 rfl (by decide) ?_
  refine wt_aload_n 38 0 C dX3_copyFrom_37 rfl rfl ?_
  refine wt_getR 41 C kfX3_15 (p0).1 rfl dX3_copyFrom_38 rfl ?_
  refine wt_iconst 42 0 C dX3_copyFrom_41 rfl (by decide) ?_
  refine wt_bipush 44 10 C dX3_copyFrom_42 rfl (by decide) ?_
  refine wt_copyI 47 0 0 10 C kaX3_46 (p1).2.1 (p0).2.1 (by decide) (by decide) (by decide) (by decide) (by decide) (by decide) (by decide) (by decide) (by decide) (Nat.le_of_ble_eq_true rfl) dX3_copyFrom_44 rfl ?_
  refine wt_aload_n 48 1 C dX3_copyFrom_47 rfl rfl ?_
  refine wt_getR 51 C kfX3_19 (p1).1 rfl dX3_copyFrom_48 rfl ?_
  refine wt_iconst 52 0 C dX3_copyFrom_51 rfl (by decide) ?_
  refine wt_aload_n 53 0 C dX3_copyFrom_52 rfl rfl ?_
  refine wt_getR 56 C kfX3_19 (p0).1 rfl dX3_copyFrom_53 rfl ?_
  refine wt_iconst 57 0 C dX3_copyFrom_56 rfl (by decide) ?_
  refine wt_bipush 59 10 C dX3_copyFrom_57 rfl (by decide) ?_
  refine wt_copyI 62 0 0 10 C kaX3_46 (p1).2.2.1 (p0).2.2.1 (by decide) (by decide) (by decide) (by decide) (by decide) (by decide) (by decide) (by decide) (by decide) (Nat.le_of_ble_eq_true rfl) dX3_copyFrom_59 rfl ?_
  refine wt_aload_n 63 1 C dX3_copyFrom_62 rfl rfl ?_
  refine wt_getR 66 C kfX3_22 (p1).1 rfl dX3_copyFrom_63 rfl ?_
  refine wt_iconst 67 0 C dX3_copyFrom_66 rfl (by decide) ?_
  refine wt_aload_n 68 0 C dX3_copyFrom_67 rfl rfl ?_
  refine wt_getR 71 C kfX3_22 (p0).1 rfl dX3_copyFrom_68 rfl ?_
  refine wt_iconst 72 0 C dX3_copyFrom_71 rfl (by decide) ?_
  refine wt_bipush 74 9 C dX3_copyFrom_72 rfl (by decide) ?_
  refine wt_copyI 77 0 0 9 C kaX3_46 (p1).2.2.2.1 (p0).2.2.2.1 (by decide) (by decide) (by decide) (by decide) (by decide) (by decide) (by decide) (by decide) (by decide) (Nat.le_of_ble_eq_true rfl) dX3_copyFrom_74 rfl ?_
  refine wt_aload_n 78 1 C dX3_copyFrom_77 rfl rfl ?_
  refine wt_getR 81 C kfX3_25 (p1).1 rfl dX3_copyFrom_78 rfl ?_
  refine wt_iconst 82 0 C dX3_copyFrom_81 rfl (by decide) ?_
  refine wt_aload_n 83 0 C dX3_copyFrom_82 rfl rfl ?_
  refine wt_getR 86 C kfX3_25 (p0).1 rfl dX3_copyFrom_83 rfl ?_
  refine wt_iconst 87 0 C dX3_copyFrom_86 rfl (by decide) ?_
  refine wt_bipush 89 9 C dX3_copyFrom_87 rfl (by decide) ?_
  refine wt_copyI 92 0 0 9 C kaX3_46 (p1).2.2.2.2.1 (p0).2.2.2.2.1 (by decide) (by decide) (by decide) (by decide) (by decide) (by decide) (by decide) (by decide) (by decide) (Nat.le_of_ble_eq_true rfl) dX3_copyFrom_89 rfl ?_
  refine wt_aload_n 93 1 C dX3_copyFrom_92 rfl rfl ?_
  refine wt_getR 96 C kfX3_28 (p1).1 rfl dX3_copyFrom_93 rfl ?_
  refine wt_iconst 97 0 C dX3_copyFrom_96 rfl (by decide) ?_
  refine wt_aload_n 98 0 C dX3_copyFrom_97 rfl rfl ?_
  refine wt_getR 101 C kfX3_28 (p0).1 rfl dX3_copyFrom_98 rfl ?_
  refine wt_iconst 102 0 C dX3_copyFrom_101 rfl (by decide) ?_
  refine wt_bipush 104 6 C dX3_copyFrom_102 rfl (by decide) ?_
  refine wt_copyI 107 0 0 6 C kaX3_46 (p1).2.2.2.2.2.1 (p0).2.2.2.2.2.1 (by decide) (by decide) (by decide) (by decide) (by decide) (by decide) (by decide) (by decide) (by decide) (Nat.le_of_ble_eq_true rfl) dX3_copyFrom_104 rfl ?_
  exact wX3_copyFrom_107 C p0 p1 hq h
def fX3_copyFrom (c0 : Nat) (c1 : Nat) (N : ux_N) : Option (ux_N) :=
  fX3_copyFrom_32 c0 c1 (ux_u (ux_u (ux_u (ux_u N c0 0 (N c1 0)) c0 1 ((ux_u N c0 0 (N c1 0)) c1 1)) c0 2 ((ux_u (ux_u N c0 0 (N c1 0)) c0 1 ((ux_u N c0 0 (N c1 0)) c1 1)) c1 2)) c0 3 ((ux_u (ux_u (ux_u N c0 0 (N c1 0)) c0 1 ((ux_u N c0 0 (N c1 0)) c1 1)) c0 2 ((ux_u (ux_u N c0 0 (N c1 0)) c0 1 ((ux_u N c0 0 (N c1 0)) c1 1)) c1 2)) c1 3))
set_option maxHeartbeats 4000000 in
set_option maxRecDepth 20000 in
theorem wX3_copyFrom {X : ux_X} (C : ux_C X cX3_copyFrom RX3 2 none 1 60 shC) {c0 : Nat} {c1 : Nat} (p0 : is_X3 c0) (p1 : is_X3 c1) {N : ux_N} {L : ux_L} {o : ux_N} (hq : ux_Qv X o L) (h : fX3_copyFrom c0 c1 N = some o) : ux_Wt X 2 0 [(0, .ref (ux_ad X c0)), (1, .ref (ux_ad X c1))] [] N L := by
  refine wt_aload_n 1 0 C dX3_copyFrom_0 rfl rfl ?_
  refine wt_aload_n 2 1 C dX3_copyFrom_1 rfl rfl ?_
  refine wt_getI 5 C kfX3_9 (p1).1 rfl dX3_copyFrom_2 rfl ?_
  refine wt_putI 8 C kpX3_9 (p0).1 rfl rfl rfl dX3_copyFrom_5 rfl ?_
  refine wt_aload_n 9 0 C dX3_copyFrom_8 rfl rfl ?_
  refine wt_aload_n 10 1 C dX3_copyFrom_9 rfl rfl ?_
  refine wt_getI 13 C kfX3_37 (p1).1 rfl dX3_copyFrom_10 rfl ?_
  refine wt_putI 16 C kpX3_37 (p0).1 rfl rfl rfl dX3_copyFrom_13 rfl ?_
  refine wt_aload_n 17 0 C dX3_copyFrom_16 rfl rfl ?_
  refine wt_aload_n 18 1 C dX3_copyFrom_17 rfl rfl ?_
  refine wt_getI 21 C kfX3_40 (p1).1 rfl dX3_copyFrom_18 rfl ?_
  refine wt_putI 24 C kpX3_40 (p0).1 rfl rfl rfl dX3_copyFrom_21 rfl ?_
  refine wt_aload_n 25 0 C dX3_copyFrom_24 rfl rfl ?_
  refine wt_aload_n 26 1 C dX3_copyFrom_25 rfl rfl ?_
  refine wt_getI 29 C kfX3_43 (p1).1 rfl dX3_copyFrom_26 rfl ?_
  refine wt_putI 32 C kpX3_43 (p0).1 rfl rfl rfl dX3_copyFrom_29 rfl ?_
  exact wX3_copyFrom_32 C p0 p1 hq h
theorem mX3_copyFrom {l : Launch} {G : ux_G} (hok : ux_ok G shC) {c0 : Nat} {c1 : Nat} (p0 : is_X3 c0) (p1 : is_X3 c1) {N : ux_N} {L : ux_L} {o : ux_N} (h : fX3_copyFrom c0 c1 N = some o) : ux_Mv l G yX3_copyFrom cX3_copyFrom 2 1 60 [.ref (gad G c0), .ref (gad G c1)] N L o L :=
  ux_ofv shC hok (by decide +kernel) (Nat.le_of_ble_eq_true rfl) (fun X hG hl C hq => by subst hG; subst hl; exact wX3_copyFrom C p0 p1 hq h)
def fX3_beginAnew (c0 : Nat) (v1 : Int32) (N : ux_N) : Option (ux_N) :=
  some (ux_u (ux_u (ux_u (ux_u N c0 0 v1) c0 1 (0 : Int32)) c0 2 (0 : Int32)) c0 3 (0 : Int32))
set_option maxHeartbeats 4000000 in
set_option maxRecDepth 20000 in
theorem wX3_beginAnew {X : ux_X} (C : ux_C X cX3_beginAnew RX3 2 none 0 0 shC) {c0 : Nat} {v1 : Int32} (p0 : is_X3 c0) {N : ux_N} {L : ux_L} {o : ux_N} (hq : ux_Qv X o L) (h : fX3_beginAnew c0 v1 N = some o) : ux_Wt X 2 0 [(0, .ref (ux_ad X c0)), (1, .int v1)] [] N L := by
  refine wt_aload_n 1 0 C dX3_beginAnew_0 rfl rfl ?_
  refine wt_iload_n 2 1 C dX3_beginAnew_1 rfl rfl ?_
  refine wt_putI 5 C kpX3_9 (p0).1 rfl rfl rfl dX3_beginAnew_2 rfl ?_
  refine wt_aload_n 6 0 C dX3_beginAnew_5 rfl rfl ?_
  refine wt_iconst 7 0 C dX3_beginAnew_6 rfl (by decide) ?_
  refine wt_putI 10 C kpX3_37 (p0).1 rfl rfl rfl dX3_beginAnew_7 rfl ?_
  refine wt_aload_n 11 0 C dX3_beginAnew_10 rfl rfl ?_
  refine wt_iconst 12 0 C dX3_beginAnew_11 rfl (by decide) ?_
  refine wt_putI 15 C kpX3_40 (p0).1 rfl rfl rfl dX3_beginAnew_12 rfl ?_
  refine wt_aload_n 16 0 C dX3_beginAnew_15 rfl rfl ?_
  refine wt_iconst 17 0 C dX3_beginAnew_16 rfl (by decide) ?_
  refine wt_putI 20 C kpX3_43 (p0).1 rfl rfl rfl dX3_beginAnew_17 rfl ?_
  cases h
  exact wt_vret C hq dX3_beginAnew_20
theorem mX3_beginAnew {l : Launch} {G : ux_G} (hok : ux_ok G shC) {c0 : Nat} {v1 : Int32} (p0 : is_X3 c0) {N : ux_N} {L : ux_L} {o : ux_N} (h : fX3_beginAnew c0 v1 N = some o) : ux_Mv l G yX3_beginAnew cX3_beginAnew 2 0 0 [.ref (gad G c0), .int v1] N L o L :=
  ux_ofv shC hok (by decide +kernel) (Nat.le_of_ble_eq_true rfl) (fun X hG hl C hq => by subst hG; subst hl; exact wX3_beginAnew C p0 hq h)
def fX3_addLine_47 (c0 : Nat) (N : ux_N) : Option (ux_N) :=
  some N
set_option maxHeartbeats 4000000 in
set_option maxRecDepth 20000 in
theorem wX3_addLine_47 {X : ux_X} (C : ux_C X cX3_addLine RX3 3 none 1 24 shC) {c0 : Nat} (p0 : is_X3 c0) {N : ux_N} {L : ux_L} {o : ux_N} (hq : ux_Qv X o L) (h : fX3_addLine_47 c0 N = some o) : ux_Wt X 3 47 [] [] N L := by
  cases h
  exact wt_vret C hq dX3_addLine_47
def fX3_addLine_37 (c0 : Nat) (N : ux_N) : Option (ux_N) :=
  fX3_addLine_47 c0 (ux_u N c0 1 ((N c0 1) + (1 : Int32)))
set_option maxHeartbeats 4000000 in
set_option maxRecDepth 20000 in
theorem wX3_addLine_37 {X : ux_X} (C : ux_C X cX3_addLine RX3 3 none 1 24 shC) {c0 : Nat} (p0 : is_X3 c0) {N : ux_N} {L : ux_L} {o : ux_N} (hq : ux_Qv X o L) (h : fX3_addLine_37 c0 N = some o) : ux_Wt X 3 37 [(0, .ref (ux_ad X c0))] [] N L := by
  refine wt_aload_n 38 0 C dX3_addLine_37 rfl rfl ?_
  refine wt_dup 39 C dX3_addLine_38 rfl rfl ?_
  refine wt_getI 42 C kfX3_37 (p0).1 rfl dX3_addLine_39 rfl ?_
  refine wt_iconst 43 1 C dX3_addLine_42 rfl (by decide) ?_
  refine wt_iadd 44 C dX3_addLine_43 rfl ?_
  refine wt_putI 47 C kpX3_37 (p0).1 rfl rfl rfl dX3_addLine_44 rfl ?_
  refine wt_sub [] rfl ?_
  exact wX3_addLine_47 C p0 hq h
def fX3_addLine (c0 : Nat) (v1 : Int32) (v2 : Int32) (N : ux_N) : Option (ux_N) :=
  if (10 : Int32) ≤ (N c0 1) then (fX3_addLine_47 c0 N) else (if ux_in (N c0 1) 10 then (if ux_in ((ux_u N (c0 + 1) ((N c0 1).toNatClampNeg) (if v2 < v1 then v2 else v1)) c0 1) 10 then (fX3_addLine_37 c0 (ux_u (ux_u N (c0 + 1) ((N c0 1).toNatClampNeg) (if v2 < v1 then v2 else v1)) (c0 + 2) (((ux_u N (c0 + 1) ((N c0 1).toNatClampNeg) (if v2 < v1 then v2 else v1)) c0 1).toNatClampNeg) (if v1 < v2 then v2 else v1))) else none) else none)
set_option maxHeartbeats 4000000 in
set_option maxRecDepth 20000 in
theorem wX3_addLine {X : ux_X} (C : ux_C X cX3_addLine RX3 3 none 1 24 shC) {c0 : Nat} {v1 : Int32} {v2 : Int32} (p0 : is_X3 c0) {N : ux_N} {L : ux_L} {o : ux_N} (hq : ux_Qv X o L) (h : fX3_addLine c0 v1 v2 N = some o) : ux_Wt X 3 0 [(0, .ref (ux_ad X c0)), (1, .int v1), (2, .int v2)] [] N L := by
  refine wt_aload_n 1 0 C dX3_addLine_0 rfl rfl ?_
  refine wt_getI 4 C kfX3_37 (p0).1 rfl dX3_addLine_1 rfl ?_
  refine wt_bipush 6 10 C dX3_addLine_4 rfl (by decide) ?_
  refine wt_icmp_ge 9 47 C dX3_addLine_6 rfl (by decide) (fun q1 => ?_) (fun q1 => ?_)
  · have h := (if_pos q1).symm.trans h
    refine wt_sub [] rfl ?_
    exact wX3_addLine_47 C p0 hq h
  · have h := (if_neg q1).symm.trans h
    refine wt_aload_n 10 0 C dX3_addLine_9 rfl rfl ?_
    refine wt_getR 13 C kfX3_15 (p0).1 rfl dX3_addLine_10 rfl ?_
    refine wt_aload_n 14 0 C dX3_addLine_13 rfl rfl ?_
    refine wt_getI 17 C kfX3_37 (p0).1 rfl dX3_addLine_14 rfl ?_
    refine wt_iload_n 18 1 C dX3_addLine_17 rfl rfl ?_
    refine wt_iload_n 19 2 C dX3_addLine_18 rfl rfl ?_
    refine wt_mmin 22 C kmX3_52 (by decide) (Nat.le_of_ble_eq_true rfl) dX3_addLine_19 rfl ?_
    obtain ⟨hi2, h⟩ := ux_guard h
    refine wt_iast 23 ((N c0 1).toNatClampNeg) C (p0).2.1 rfl hi2 dX3_addLine_22 rfl ?_
    refine wt_aload_n 24 0 C dX3_addLine_23 rfl rfl ?_
    refine wt_getR 27 C kfX3_19 (p0).1 rfl dX3_addLine_24 rfl ?_
    refine wt_aload_n 28 0 C dX3_addLine_27 rfl rfl ?_
    refine wt_getI 31 C kfX3_37 (p0).1 rfl dX3_addLine_28 rfl ?_
    refine wt_iload_n 32 1 C dX3_addLine_31 rfl rfl ?_
    refine wt_iload_n 33 2 C dX3_addLine_32 rfl rfl ?_
    refine wt_mmax 36 C kmX3_58 (by decide) (Nat.le_of_ble_eq_true rfl) dX3_addLine_33 rfl ?_
    obtain ⟨hi3, h⟩ := ux_guard h
    refine wt_iast 37 (((ux_u N (c0 + 1) ((N c0 1).toNatClampNeg) (if v2 < v1 then v2 else v1)) c0 1).toNatClampNeg) C (p0).2.2.1 rfl hi3 dX3_addLine_36 rfl ?_
    refine wt_sub [0] rfl ?_
    exact wX3_addLine_37 C p0 hq h
theorem mX3_addLine {l : Launch} {G : ux_G} (hok : ux_ok G shC) {c0 : Nat} {v1 : Int32} {v2 : Int32} (p0 : is_X3 c0) {N : ux_N} {L : ux_L} {o : ux_N} (h : fX3_addLine c0 v1 v2 N = some o) : ux_Mv l G yX3_addLine cX3_addLine 3 1 24 [.ref (gad G c0), .int v1, .int v2] N L o L :=
  ux_ofv shC hok (by decide +kernel) (Nat.le_of_ble_eq_true rfl) (fun X hG hl C hq => by subst hG; subst hl; exact wX3_addLine C p0 hq h)
def fX3_addMeter_39 (c0 : Nat) (N : ux_N) : Option (ux_N) :=
  some N
set_option maxHeartbeats 4000000 in
set_option maxRecDepth 20000 in
theorem wX3_addMeter_39 {X : ux_X} (C : ux_C X cX3_addMeter RX3 3 none 0 0 shC) {c0 : Nat} (p0 : is_X3 c0) {N : ux_N} {L : ux_L} {o : ux_N} (hq : ux_Qv X o L) (h : fX3_addMeter_39 c0 N = some o) : ux_Wt X 3 39 [] [] N L := by
  cases h
  exact wt_vret C hq dX3_addMeter_39
def fX3_addMeter (c0 : Nat) (v1 : Int32) (v2 : Int32) (N : ux_N) : Option (ux_N) :=
  if (9 : Int32) ≤ (N c0 2) then (fX3_addMeter_39 c0 N) else (if ux_in (N c0 2) 9 then (if ux_in ((ux_u N (c0 + 3) ((N c0 2).toNatClampNeg) v1) c0 2) 9 then (fX3_addMeter_39 c0 (ux_u (ux_u (ux_u N (c0 + 3) ((N c0 2).toNatClampNeg) v1) (c0 + 4) (((ux_u N (c0 + 3) ((N c0 2).toNatClampNeg) v1) c0 2).toNatClampNeg) v2) c0 2 (((ux_u (ux_u N (c0 + 3) ((N c0 2).toNatClampNeg) v1) (c0 + 4) (((ux_u N (c0 + 3) ((N c0 2).toNatClampNeg) v1) c0 2).toNatClampNeg) v2) c0 2) + (1 : Int32)))) else none) else none)
set_option maxHeartbeats 4000000 in
set_option maxRecDepth 20000 in
theorem wX3_addMeter {X : ux_X} (C : ux_C X cX3_addMeter RX3 3 none 0 0 shC) {c0 : Nat} {v1 : Int32} {v2 : Int32} (p0 : is_X3 c0) {N : ux_N} {L : ux_L} {o : ux_N} (hq : ux_Qv X o L) (h : fX3_addMeter c0 v1 v2 N = some o) : ux_Wt X 3 0 [(0, .ref (ux_ad X c0)), (1, .int v1), (2, .int v2)] [] N L := by
  refine wt_aload_n 1 0 C dX3_addMeter_0 rfl rfl ?_
  refine wt_getI 4 C kfX3_40 (p0).1 rfl dX3_addMeter_1 rfl ?_
  refine wt_bipush 6 9 C dX3_addMeter_4 rfl (by decide) ?_
  refine wt_icmp_ge 9 39 C dX3_addMeter_6 rfl (by decide) (fun q1 => ?_) (fun q1 => ?_)
  · have h := (if_pos q1).symm.trans h
    refine wt_sub [] rfl ?_
    exact wX3_addMeter_39 C p0 hq h
  · have h := (if_neg q1).symm.trans h
    refine wt_aload_n 10 0 C dX3_addMeter_9 rfl rfl ?_
    refine wt_getR 13 C kfX3_22 (p0).1 rfl dX3_addMeter_10 rfl ?_
    refine wt_aload_n 14 0 C dX3_addMeter_13 rfl rfl ?_
    refine wt_getI 17 C kfX3_40 (p0).1 rfl dX3_addMeter_14 rfl ?_
    refine wt_iload_n 18 1 C dX3_addMeter_17 rfl rfl ?_
    obtain ⟨hi2, h⟩ := ux_guard h
    refine wt_iast 19 ((N c0 2).toNatClampNeg) C (p0).2.2.2.1 rfl hi2 dX3_addMeter_18 rfl ?_
    refine wt_aload_n 20 0 C dX3_addMeter_19 rfl rfl ?_
    refine wt_getR 23 C kfX3_25 (p0).1 rfl dX3_addMeter_20 rfl ?_
    refine wt_aload_n 24 0 C dX3_addMeter_23 rfl rfl ?_
    refine wt_getI 27 C kfX3_40 (p0).1 rfl dX3_addMeter_24 rfl ?_
    refine wt_iload_n 28 2 C dX3_addMeter_27 rfl rfl ?_
    obtain ⟨hi3, h⟩ := ux_guard h
    refine wt_iast 29 (((ux_u N (c0 + 3) ((N c0 2).toNatClampNeg) v1) c0 2).toNatClampNeg) C (p0).2.2.2.2.1 rfl hi3 dX3_addMeter_28 rfl ?_
    refine wt_aload_n 30 0 C dX3_addMeter_29 rfl rfl ?_
    refine wt_dup 31 C dX3_addMeter_30 rfl rfl ?_
    refine wt_getI 34 C kfX3_40 (p0).1 rfl dX3_addMeter_31 rfl ?_
    refine wt_iconst 35 1 C dX3_addMeter_34 rfl (by decide) ?_
    refine wt_iadd 36 C dX3_addMeter_35 rfl ?_
    refine wt_putI 39 C kpX3_40 (p0).1 rfl rfl rfl dX3_addMeter_36 rfl ?_
    refine wt_sub [] rfl ?_
    exact wX3_addMeter_39 C p0 hq h
theorem mX3_addMeter {l : Launch} {G : ux_G} (hok : ux_ok G shC) {c0 : Nat} {v1 : Int32} {v2 : Int32} (p0 : is_X3 c0) {N : ux_N} {L : ux_L} {o : ux_N} (h : fX3_addMeter c0 v1 v2 N = some o) : ux_Mv l G yX3_addMeter cX3_addMeter 3 0 0 [.ref (gad G c0), .int v1, .int v2] N L o L :=
  ux_ofv shC hok (by decide +kernel) (Nat.le_of_ble_eq_true rfl) (fun X hG hl C hq => by subst hG; subst hl; exact wX3_addMeter C p0 hq h)
def fX3_addOffer_49 (c0 : Nat) (N : ux_N) : Option (ux_N) :=
  some N
set_option maxHeartbeats 4000000 in
set_option maxRecDepth 20000 in
theorem wX3_addOffer_49 {X : ux_X} (C : ux_C X cX3_addOffer RX3 4 none 0 0 shC) {c0 : Nat} (p0 : is_X3 c0) {N : ux_N} {L : ux_L} {o : ux_N} (hq : ux_Qv X o L) (h : fX3_addOffer_49 c0 N = some o) : ux_Wt X 4 49 [] [] N L := by
  cases h
  exact wt_vret C hq dX3_addOffer_49
def fX3_addOffer_39 (c0 : Nat) (N : ux_N) : Option (ux_N) :=
  fX3_addOffer_49 c0 (ux_u N c0 3 ((N c0 3) + (1 : Int32)))
set_option maxHeartbeats 4000000 in
set_option maxRecDepth 20000 in
theorem wX3_addOffer_39 {X : ux_X} (C : ux_C X cX3_addOffer RX3 4 none 0 0 shC) {c0 : Nat} (p0 : is_X3 c0) {N : ux_N} {L : ux_L} {o : ux_N} (hq : ux_Qv X o L) (h : fX3_addOffer_39 c0 N = some o) : ux_Wt X 4 39 [(0, .ref (ux_ad X c0))] [] N L := by
  refine wt_aload_n 40 0 C dX3_addOffer_39 rfl rfl ?_
  refine wt_dup 41 C dX3_addOffer_40 rfl rfl ?_
  refine wt_getI 44 C kfX3_43 (p0).1 rfl dX3_addOffer_41 rfl ?_
  refine wt_iconst 45 1 C dX3_addOffer_44 rfl (by decide) ?_
  refine wt_iadd 46 C dX3_addOffer_45 rfl ?_
  refine wt_putI 49 C kpX3_43 (p0).1 rfl rfl rfl dX3_addOffer_46 rfl ?_
  refine wt_sub [] rfl ?_
  exact wX3_addOffer_49 C p0 hq h
def fX3_addOffer (c0 : Nat) (v1 : Int32) (v2 : Int32) (v3 : Int32) (N : ux_N) : Option (ux_N) :=
  if (6 : Int32) ≤ (N c0 3) then (fX3_addOffer_49 c0 N) else (if ux_in (N c0 3) 6 then (if ux_in ((ux_u N (c0 + 5) ((N c0 3).toNatClampNeg) v1) c0 3) 6 then (if ux_in ((ux_u (ux_u N (c0 + 5) ((N c0 3).toNatClampNeg) v1) (c0 + 6) (((ux_u N (c0 + 5) ((N c0 3).toNatClampNeg) v1) c0 3).toNatClampNeg) v2) c0 3) 6 then (fX3_addOffer_39 c0 (ux_u (ux_u (ux_u N (c0 + 5) ((N c0 3).toNatClampNeg) v1) (c0 + 6) (((ux_u N (c0 + 5) ((N c0 3).toNatClampNeg) v1) c0 3).toNatClampNeg) v2) (c0 + 7) (((ux_u (ux_u N (c0 + 5) ((N c0 3).toNatClampNeg) v1) (c0 + 6) (((ux_u N (c0 + 5) ((N c0 3).toNatClampNeg) v1) c0 3).toNatClampNeg) v2) c0 3).toNatClampNeg) v3)) else none) else none) else none)
set_option maxHeartbeats 4000000 in
set_option maxRecDepth 20000 in
theorem wX3_addOffer {X : ux_X} (C : ux_C X cX3_addOffer RX3 4 none 0 0 shC) {c0 : Nat} {v1 : Int32} {v2 : Int32} {v3 : Int32} (p0 : is_X3 c0) {N : ux_N} {L : ux_L} {o : ux_N} (hq : ux_Qv X o L) (h : fX3_addOffer c0 v1 v2 v3 N = some o) : ux_Wt X 4 0 [(0, .ref (ux_ad X c0)), (1, .int v1), (2, .int v2), (3, .int v3)] [] N L := by
  refine wt_aload_n 1 0 C dX3_addOffer_0 rfl rfl ?_
  refine wt_getI 4 C kfX3_43 (p0).1 rfl dX3_addOffer_1 rfl ?_
  refine wt_bipush 6 6 C dX3_addOffer_4 rfl (by decide) ?_
  refine wt_icmp_ge 9 49 C dX3_addOffer_6 rfl (by decide) (fun q1 => ?_) (fun q1 => ?_)
  · have h := (if_pos q1).symm.trans h
    refine wt_sub [] rfl ?_
    exact wX3_addOffer_49 C p0 hq h
  · have h := (if_neg q1).symm.trans h
    refine wt_aload_n 10 0 C dX3_addOffer_9 rfl rfl ?_
    refine wt_getR 13 C kfX3_28 (p0).1 rfl dX3_addOffer_10 rfl ?_
    refine wt_aload_n 14 0 C dX3_addOffer_13 rfl rfl ?_
    refine wt_getI 17 C kfX3_43 (p0).1 rfl dX3_addOffer_14 rfl ?_
    refine wt_iload_n 18 1 C dX3_addOffer_17 rfl rfl ?_
    obtain ⟨hi2, h⟩ := ux_guard h
    refine wt_iast 19 ((N c0 3).toNatClampNeg) C (p0).2.2.2.2.2.1 rfl hi2 dX3_addOffer_18 rfl ?_
    refine wt_aload_n 20 0 C dX3_addOffer_19 rfl rfl ?_
    refine wt_getR 23 C kfX3_31 (p0).1 rfl dX3_addOffer_20 rfl ?_
    refine wt_aload_n 24 0 C dX3_addOffer_23 rfl rfl ?_
    refine wt_getI 27 C kfX3_43 (p0).1 rfl dX3_addOffer_24 rfl ?_
    refine wt_iload_n 28 2 C dX3_addOffer_27 rfl rfl ?_
    obtain ⟨hi3, h⟩ := ux_guard h
    refine wt_iast 29 (((ux_u N (c0 + 5) ((N c0 3).toNatClampNeg) v1) c0 3).toNatClampNeg) C (p0).2.2.2.2.2.2.1 rfl hi3 dX3_addOffer_28 rfl ?_
    refine wt_aload_n 30 0 C dX3_addOffer_29 rfl rfl ?_
    refine wt_getR 33 C kfX3_34 (p0).1 rfl dX3_addOffer_30 rfl ?_
    refine wt_aload_n 34 0 C dX3_addOffer_33 rfl rfl ?_
    refine wt_getI 37 C kfX3_43 (p0).1 rfl dX3_addOffer_34 rfl ?_
    refine wt_iload_n 38 3 C dX3_addOffer_37 rfl rfl ?_
    obtain ⟨hi4, h⟩ := ux_guard h
    refine wt_iast 39 (((ux_u (ux_u N (c0 + 5) ((N c0 3).toNatClampNeg) v1) (c0 + 6) (((ux_u N (c0 + 5) ((N c0 3).toNatClampNeg) v1) c0 3).toNatClampNeg) v2) c0 3).toNatClampNeg) C (p0).2.2.2.2.2.2.2 rfl hi4 dX3_addOffer_38 rfl ?_
    refine wt_sub [0] rfl ?_
    exact wX3_addOffer_39 C p0 hq h
theorem mX3_addOffer {l : Launch} {G : ux_G} (hok : ux_ok G shC) {c0 : Nat} {v1 : Int32} {v2 : Int32} {v3 : Int32} (p0 : is_X3 c0) {N : ux_N} {L : ux_L} {o : ux_N} (h : fX3_addOffer c0 v1 v2 v3 N = some o) : ux_Mv l G yX3_addOffer cX3_addOffer 4 0 0 [.ref (gad G c0), .int v1, .int v2, .int v3] N L o L :=
  ux_ofv shC hok (by decide +kernel) (Nat.le_of_ble_eq_true rfl) (fun X hG hl C hq => by subst hG; subst hl; exact wX3_addOffer C p0 hq h)
def fX3_placesFor_20 (c0 : Nat) (s0 : Int32) (N : ux_N) : Option (Int32) :=
  some s0
set_option maxHeartbeats 4000000 in
set_option maxRecDepth 20000 in
theorem wX3_placesFor_20 {X : ux_X} (C : ux_C X cX3_placesFor RX3 2 (some .int) 0 0 shC) {c0 : Nat} {s0 : Int32} (p0 : is_X3 c0) {N : ux_N} {L : ux_L} {o : Int32} (hq : ux_Qi X o N L) (h : fX3_placesFor_20 c0 s0 N = some o) : ux_Wt X 2 20 [] [.int s0] N L := by
  cases h
  exact wt_iret C hq dX3_placesFor_20
def fX3_placesFor_9 (c0 : Nat) (N : ux_N) : Option (Int32) :=
  fX3_placesFor_20 c0 (N c0 1) N
set_option maxHeartbeats 4000000 in
set_option maxRecDepth 20000 in
theorem wX3_placesFor_9 {X : ux_X} (C : ux_C X cX3_placesFor RX3 2 (some .int) 0 0 shC) {c0 : Nat} (p0 : is_X3 c0) {N : ux_N} {L : ux_L} {o : Int32} (hq : ux_Qi X o N L) (h : fX3_placesFor_9 c0 N = some o) : ux_Wt X 2 9 [(0, .ref (ux_ad X c0))] [] N L := by
  refine wt_aload_n 10 0 C dX3_placesFor_9 rfl rfl ?_
  refine wt_getI 13 C kfX3_37 (p0).1 rfl dX3_placesFor_10 rfl ?_
  refine wt_goto 20 C dX3_placesFor_13 (by decide) ?_
  refine wt_sub [] rfl ?_
  exact wX3_placesFor_20 C p0 hq h
def fX3_placesFor (c0 : Nat) (v1 : Int32) (N : ux_N) : Option (Int32) :=
  if v1 = 0 then (fX3_placesFor_9 c0 N) else (if v1 = (1 : Int32) then (fX3_placesFor_9 c0 N) else (fX3_placesFor_20 c0 (N c0 0) N))
set_option maxHeartbeats 4000000 in
set_option maxRecDepth 20000 in
theorem wX3_placesFor {X : ux_X} (C : ux_C X cX3_placesFor RX3 2 (some .int) 0 0 shC) {c0 : Nat} {v1 : Int32} (p0 : is_X3 c0) {N : ux_N} {L : ux_L} {o : Int32} (hq : ux_Qi X o N L) (h : fX3_placesFor c0 v1 N = some o) : ux_Wt X 2 0 [(0, .ref (ux_ad X c0)), (1, .int v1)] [] N L := by
  refine wt_iload_n 1 1 C dX3_placesFor_0 rfl rfl ?_
  refine wt_if_eq 4 9 C dX3_placesFor_1 rfl (by decide) (fun q1 => ?_) (fun q1 => ?_)
  · have h := (if_pos q1).symm.trans h
    refine wt_sub [0] rfl ?_
    exact wX3_placesFor_9 C p0 hq h
  · have h := (if_neg q1).symm.trans h
    refine wt_iload_n 5 1 C dX3_placesFor_4 rfl rfl ?_
    refine wt_iconst 6 1 C dX3_placesFor_5 rfl (by decide) ?_
    refine wt_icmp_ne 9 16 C dX3_placesFor_6 rfl (by decide) (fun q2 => ?_) (fun q2 => ?_)
    · have h := (if_neg q2).symm.trans h
      refine wt_aload_n 17 0 C dX3_placesFor_16 rfl rfl ?_
      refine wt_getI 20 C kfX3_9 (p0).1 rfl dX3_placesFor_17 rfl ?_
      refine wt_sub [] rfl ?_
      exact wX3_placesFor_20 C p0 hq h
    · have h := (if_pos q2).symm.trans h
      refine wt_sub [0] rfl ?_
      exact wX3_placesFor_9 C p0 hq h
theorem mX3_placesFor {l : Launch} {G : ux_G} (hok : ux_ok G shC) {c0 : Nat} {v1 : Int32} (p0 : is_X3 c0) {N : ux_N} {L : ux_L} {o : Int32} (h : fX3_placesFor c0 v1 N = some o) : ux_Mi l G yX3_placesFor cX3_placesFor 2 (some .int) 0 0 [.ref (gad G c0), .int v1] N L o N L :=
  ux_ofi shC hok (by decide +kernel) (Nat.le_of_ble_eq_true rfl) (fun X hG hl C hq => by subst hG; subst hl; exact wX3_placesFor C p0 hq h)
def fX3_hasPlace_18 (c0 : Nat) (s0 : Int32) (N : ux_N) : Option (Int32) :=
  if ux_b s0 then (some s0) else none
set_option maxHeartbeats 4000000 in
set_option maxRecDepth 20000 in
theorem wX3_hasPlace_18 {X : ux_X} (C : ux_C X cX3_hasPlace RX3 3 (some .boolean) 1 21 shC) {c0 : Nat} {s0 : Int32} (p0 : is_X3 c0) {N : ux_N} {L : ux_L} {o : Int32} (hq : ux_Qi X o N L) (h : fX3_hasPlace_18 c0 s0 N = some o) : ux_Wt X 3 18 [] [.int s0] N L := by
  obtain ⟨hb1, h⟩ := ux_guard h
  cases h
  exact wt_zret C (ux_b_n hb1).1 hq dX3_hasPlace_18
def fX3_hasPlace_17 (c0 : Nat) (N : ux_N) : Option (Int32) :=
  fX3_hasPlace_18 c0 (0 : Int32) N
set_option maxHeartbeats 4000000 in
set_option maxRecDepth 20000 in
theorem wX3_hasPlace_17 {X : ux_X} (C : ux_C X cX3_hasPlace RX3 3 (some .boolean) 1 21 shC) {c0 : Nat} (p0 : is_X3 c0) {N : ux_N} {L : ux_L} {o : Int32} (hq : ux_Qi X o N L) (h : fX3_hasPlace_17 c0 N = some o) : ux_Wt X 3 17 [] [] N L := by
  refine wt_iconst 18 0 C dX3_hasPlace_17 rfl (by decide) ?_
  exact wX3_hasPlace_18 C p0 hq h
def fX3_hasPlace (c0 : Nat) (v1 : Int32) (v2 : Int32) (N : ux_N) : Option (Int32) :=
  if v2 < 0 then (fX3_hasPlace_17 c0 N) else ((fX3_placesFor c0 v1 N).bind (fun o2 => if o2 ≤ v2 then (fX3_hasPlace_17 c0 N) else (fX3_hasPlace_18 c0 (1 : Int32) N)))
set_option maxHeartbeats 4000000 in
set_option maxRecDepth 20000 in
theorem wX3_hasPlace {X : ux_X} (C : ux_C X cX3_hasPlace RX3 3 (some .boolean) 1 21 shC) {c0 : Nat} {v1 : Int32} {v2 : Int32} (p0 : is_X3 c0) {N : ux_N} {L : ux_L} {o : Int32} (hq : ux_Qi X o N L) (h : fX3_hasPlace c0 v1 v2 N = some o) : ux_Wt X 3 0 [(0, .ref (ux_ad X c0)), (1, .int v1), (2, .int v2)] [] N L := by
  refine wt_iload_n 1 2 C dX3_hasPlace_0 rfl rfl ?_
  refine wt_if_lt 4 17 C dX3_hasPlace_1 rfl (by decide) (fun q1 => ?_) (fun q1 => ?_)
  · have h := (if_pos q1).symm.trans h
    refine wt_sub [] rfl ?_
    exact wX3_hasPlace_17 C p0 hq h
  · have h := (if_neg q1).symm.trans h
    refine wt_iload_n 5 2 C dX3_hasPlace_4 rfl rfl ?_
    refine wt_aload_n 6 0 C dX3_hasPlace_5 rfl rfl ?_
    refine wt_iload_n 7 1 C dX3_hasPlace_6 rfl rfl ?_
    obtain ⟨o2, hc3, h⟩ := Option.bind_eq_some_iff.mp h
    refine wt_callVi 10 [.int v2] C kvX3_61 (p0).1 (mX3_placesFor (cx_ok C) (p0) hc3) rfl rfl ⟨Nat.le_of_ble_eq_true rfl, Nat.le_of_ble_eq_true rfl⟩ (Nat.le_of_ble_eq_true rfl) dX3_hasPlace_7 rfl ?_
    refine wt_icmp_ge 13 17 C dX3_hasPlace_10 rfl (by decide) (fun q4 => ?_) (fun q4 => ?_)
    · have h := (if_pos q4).symm.trans h
      refine wt_sub [] rfl ?_
      exact wX3_hasPlace_17 C p0 hq h
    · have h := (if_neg q4).symm.trans h
      refine wt_iconst 14 1 C dX3_hasPlace_13 rfl (by decide) ?_
      refine wt_goto 18 C dX3_hasPlace_14 (by decide) ?_
      refine wt_sub [] rfl ?_
      exact wX3_hasPlace_18 C p0 hq h
theorem mX3_hasPlace {l : Launch} {G : ux_G} (hok : ux_ok G shC) {c0 : Nat} {v1 : Int32} {v2 : Int32} (p0 : is_X3 c0) {N : ux_N} {L : ux_L} {o : Int32} (h : fX3_hasPlace c0 v1 v2 N = some o) : ux_Mi l G yX3_hasPlace cX3_hasPlace 3 (some .boolean) 1 21 [.ref (gad G c0), .int v1, .int v2] N L o N L :=
  ux_ofi shC hok (by decide +kernel) (Nat.le_of_ble_eq_true rfl) (fun X hG hl C hq => by subst hG; subst hl; exact wX3_hasPlace C p0 hq h)
def fX3_allLines (c0 : Nat) (N : ux_N) : Option (Int32) :=
  some (((1 : Int32) <<< ((N c0 1) &&& 31)) - (1 : Int32))
set_option maxHeartbeats 4000000 in
set_option maxRecDepth 20000 in
theorem wX3_allLines {X : ux_X} (C : ux_C X cX3_allLines RX3 1 (some .int) 0 0 shC) {c0 : Nat} (p0 : is_X3 c0) {N : ux_N} {L : ux_L} {o : Int32} (hq : ux_Qi X o N L) (h : fX3_allLines c0 N = some o) : ux_Wt X 1 0 [(0, .ref (ux_ad X c0))] [] N L := by
  refine wt_iconst 1 1 C dX3_allLines_0 rfl (by decide) ?_
  refine wt_aload_n 2 0 C dX3_allLines_1 rfl rfl ?_
  refine wt_getI 5 C kfX3_37 (p0).1 rfl dX3_allLines_2 rfl ?_
  refine wt_ishl 6 C dX3_allLines_5 rfl ?_
  refine wt_iconst 7 1 C dX3_allLines_6 rfl (by decide) ?_
  refine wt_isub 8 C dX3_allLines_7 rfl ?_
  cases h
  exact wt_iret C hq dX3_allLines_8
theorem mX3_allLines {l : Launch} {G : ux_G} (hok : ux_ok G shC) {c0 : Nat} (p0 : is_X3 c0) {N : ux_N} {L : ux_L} {o : Int32} (h : fX3_allLines c0 N = some o) : ux_Mi l G yX3_allLines cX3_allLines 1 (some .int) 0 0 [.ref (gad G c0)] N L o N L :=
  ux_ofi shC hok (by decide +kernel) (Nat.le_of_ble_eq_true rfl) (fun X hG hl C hq => by subst hG; subst hl; exact wX3_allLines C p0 hq h)
def fX3_linesBeside_4b_48 (c0 : Nat) (v1 : Int32) (v2 : Int32) (v3 : Int32) (N : ux_N) : Option ((Int32 × Int32) ⊕ (Int32)) :=
  some (.inl (v2, (v3 + 1)))
set_option maxHeartbeats 4000000 in
set_option maxRecDepth 20000 in
theorem wX3_linesBeside_4b_48 {X : ux_X} (C : ux_C X cX3_linesBeside RX3 4 (some .int) 0 0 shC) {c0 : Nat} {v1 : Int32} {v2 : Int32} {v3 : Int32} (p0 : is_X3 c0) {N : ux_N} {L : ux_L} {o : (Int32 × Int32) ⊕ (Int32)} (hin : ∀ s : Int32 × Int32, o = .inl s → ux_Wt X 4 4 [(0, .ref (ux_ad X c0)), (1, .int v1), (2, .int s.1), (3, .int s.2)] [] N L) (hex0 : ∀ e : Int32, o = .inr (e) → ux_Wt X 4 54 [(2, .int e)] [] N L) (h : fX3_linesBeside_4b_48 c0 v1 v2 v3 N = some o) : ux_Wt X 4 48 [(0, .ref (ux_ad X c0)), (1, .int v1), (2, .int v2), (3, .int v3)] [] N L := by
  refine wt_iinc 51 3 [(3, .int (v3 + 1)), (0, .ref (ux_ad X c0)), (1, .int v1), (2, .int v2)] (v3 + 1) C dX3_linesBeside_48 rfl rfl (by rfl) (by decide) rfl ?_
  refine wt_goto 4 C dX3_linesBeside_51 (by decide) ?_
  refine wt_sub [1, 2, 3, 0] rfl ?_
  exact hin _ (Option.some.inj h).symm
def fX3_linesBeside_4b (c0 : Nat) (v1 : Int32) (v2 : Int32) (v3 : Int32) (N : ux_N) : Option ((Int32 × Int32) ⊕ (Int32)) :=
  if (N c0 1) ≤ v3 then (some (.inr (v2))) else (if ux_in v3 10 then (if ux_in v1 10 then (if (N (c0 + 1) (v3.toNatClampNeg)) = (N (c0 + 1) (v1.toNatClampNeg)) then (if ux_in v3 10 then (if ux_in v1 10 then (if (N (c0 + 2) (v3.toNatClampNeg)) = (N (c0 + 2) (v1.toNatClampNeg)) then (fX3_linesBeside_4b_48 c0 v1 (v2 ||| ((1 : Int32) <<< (v3 &&& 31))) v3 N) else (fX3_linesBeside_4b_48 c0 v1 v2 v3 N)) else none) else none) else (fX3_linesBeside_4b_48 c0 v1 v2 v3 N)) else none) else none)
set_option maxHeartbeats 4000000 in
set_option maxRecDepth 20000 in
theorem wX3_linesBeside_4b {X : ux_X} (C : ux_C X cX3_linesBeside RX3 4 (some .int) 0 0 shC) {c0 : Nat} {v1 : Int32} {v2 : Int32} {v3 : Int32} (p0 : is_X3 c0) {N : ux_N} {L : ux_L} {o : (Int32 × Int32) ⊕ (Int32)} (hin : ∀ s : Int32 × Int32, o = .inl s → ux_Wt X 4 4 [(0, .ref (ux_ad X c0)), (1, .int v1), (2, .int s.1), (3, .int s.2)] [] N L) (hex0 : ∀ e : Int32, o = .inr (e) → ux_Wt X 4 54 [(2, .int e)] [] N L) (h : fX3_linesBeside_4b c0 v1 v2 v3 N = some o) : ux_Wt X 4 4 [(0, .ref (ux_ad X c0)), (1, .int v1), (2, .int v2), (3, .int v3)] [] N L := by
  refine wt_iload_n 5 3 C dX3_linesBeside_4 rfl rfl ?_
  refine wt_aload_n 6 0 C dX3_linesBeside_5 rfl rfl ?_
  refine wt_getI 9 C kfX3_37 (p0).1 rfl dX3_linesBeside_6 rfl ?_
  refine wt_icmp_ge 12 54 C dX3_linesBeside_9 rfl (by decide) (fun q1 => ?_) (fun q1 => ?_)
  · have h := (if_pos q1).symm.trans h
    refine wt_sub [2] rfl ?_
    exact hex0 _ (Option.some.inj h).symm
  · have h := (if_neg q1).symm.trans h
    refine wt_aload_n 13 0 C dX3_linesBeside_12 rfl rfl ?_
    refine wt_getR 16 C kfX3_15 (p0).1 rfl dX3_linesBeside_13 rfl ?_
    refine wt_iload_n 17 3 C dX3_linesBeside_16 rfl rfl ?_
    obtain ⟨hi2, h⟩ := ux_guard h
    refine wt_iald 18 (v3.toNatClampNeg) C (p0).2.1 rfl hi2 dX3_linesBeside_17 rfl ?_
    refine wt_aload_n 19 0 C dX3_linesBeside_18 rfl rfl ?_
    refine wt_getR 22 C kfX3_15 (p0).1 rfl dX3_linesBeside_19 rfl ?_
    refine wt_iload_n 23 1 C dX3_linesBeside_22 rfl rfl ?_
    obtain ⟨hi3, h⟩ := ux_guard h
    refine wt_iald 24 (v1.toNatClampNeg) C (p0).2.1 rfl hi3 dX3_linesBeside_23 rfl ?_
    refine wt_icmp_ne 27 48 C dX3_linesBeside_24 rfl (by decide) (fun q4 => ?_) (fun q4 => ?_)
    · have h := (if_neg q4).symm.trans h
      exact wX3_linesBeside_4b_48 C p0 hin hex0 h
    · have h := (if_pos q4).symm.trans h
      refine wt_aload_n 28 0 C dX3_linesBeside_27 rfl rfl ?_
      refine wt_getR 31 C kfX3_19 (p0).1 rfl dX3_linesBeside_28 rfl ?_
      refine wt_iload_n 32 3 C dX3_linesBeside_31 rfl rfl ?_
      obtain ⟨hi5, h⟩ := ux_guard h
      refine wt_iald 33 (v3.toNatClampNeg) C (p0).2.2.1 rfl hi5 dX3_linesBeside_32 rfl ?_
      refine wt_aload_n 34 0 C dX3_linesBeside_33 rfl rfl ?_
      refine wt_getR 37 C kfX3_19 (p0).1 rfl dX3_linesBeside_34 rfl ?_
      refine wt_iload_n 38 1 C dX3_linesBeside_37 rfl rfl ?_
      obtain ⟨hi6, h⟩ := ux_guard h
      refine wt_iald 39 (v1.toNatClampNeg) C (p0).2.2.1 rfl hi6 dX3_linesBeside_38 rfl ?_
      refine wt_icmp_ne 42 48 C dX3_linesBeside_39 rfl (by decide) (fun q7 => ?_) (fun q7 => ?_)
      · have h := (if_neg q7).symm.trans h
        exact wX3_linesBeside_4b_48 C p0 hin hex0 h
      · have h := (if_pos q7).symm.trans h
        refine wt_iload_n 43 2 C dX3_linesBeside_42 rfl rfl ?_
        refine wt_iconst 44 1 C dX3_linesBeside_43 rfl (by decide) ?_
        refine wt_iload_n 45 3 C dX3_linesBeside_44 rfl rfl ?_
        refine wt_ishl 46 C dX3_linesBeside_45 rfl ?_
        refine wt_ior 47 C dX3_linesBeside_46 rfl ?_
        refine wt_istore_n 48 [(2, .int (v2 ||| ((1 : Int32) <<< (v3 &&& 31)))), (0, .ref (ux_ad X c0)), (1, .int v1), (3, .int v3)] C dX3_linesBeside_47 rfl (by decide) rfl ?_
        refine wt_sub [1, 2, 0, 3] rfl ?_
        exact wX3_linesBeside_4b_48 C p0 hin hex0 h
def fX3_linesBeside (c0 : Nat) (v1 : Int32) (N : ux_N) : Option (Int32) :=
  (ux_lp (fun s : Int32 × Int32 => fX3_linesBeside_4b c0 v1 s.1 s.2 N) ux_fu ((0 : Int32), (0 : Int32))).bind (fun e8 => some e8)
set_option maxHeartbeats 4000000 in
set_option maxRecDepth 20000 in
theorem wX3_linesBeside {X : ux_X} (C : ux_C X cX3_linesBeside RX3 4 (some .int) 0 0 shC) {c0 : Nat} {v1 : Int32} (p0 : is_X3 c0) {N : ux_N} {L : ux_L} {o : Int32} (hq : ux_Qi X o N L) (h : fX3_linesBeside c0 v1 N = some o) : ux_Wt X 4 0 [(0, .ref (ux_ad X c0)), (1, .int v1)] [] N L := by
  refine wt_iconst 1 0 C dX3_linesBeside_0 rfl (by decide) ?_
  refine wt_istore_n 2 [(2, .int (0 : Int32)), (0, .ref (ux_ad X c0)), (1, .int v1)] C dX3_linesBeside_1 rfl (by decide) rfl ?_
  refine wt_iconst 3 0 C dX3_linesBeside_2 rfl (by decide) ?_
  refine wt_istore_n 4 [(3, .int (0 : Int32)), (2, .int (0 : Int32)), (0, .ref (ux_ad X c0)), (1, .int v1)] C dX3_linesBeside_3 rfl (by decide) rfl ?_
  obtain ⟨e1, hl2, h⟩ := Option.bind_eq_some_iff.mp h
  refine wt_sub [2, 3, 1, 0] rfl ?_
  refine ux_loop (fun s : Int32 × Int32 => fX3_linesBeside_4b c0 v1 s.1 s.2 N) (fun s : Int32 × Int32 => ux_Wt X 4 4 [(0, .ref (ux_ad X c0)), (1, .int v1), (2, .int s.1), (3, .int s.2)] [] N L) (e := e1) ?_ hl2
  intro s3 o4 hb5 hi6 hx7
  refine wX3_linesBeside_4b C p0 hi6 (fun x0 he => ?_) hb5
  · obtain ⟨e8, rfl⟩ : ∃ z, z = x0 := ⟨_, rfl⟩
    have h9 := hx7 _ he
    subst h9
    refine wt_iload_n 55 0 C dX3_linesBeside_54 rfl rfl ?_
    cases h
    exact wt_iret C hq dX3_linesBeside_55
theorem mX3_linesBeside {l : Launch} {G : ux_G} (hok : ux_ok G shC) {c0 : Nat} {v1 : Int32} (p0 : is_X3 c0) {N : ux_N} {L : ux_L} {o : Int32} (h : fX3_linesBeside c0 v1 N = some o) : ux_Mi l G yX3_linesBeside cX3_linesBeside 4 (some .int) 0 0 [.ref (gad G c0), .int v1] N L o N L :=
  ux_ofi shC hok (by decide +kernel) (Nat.le_of_ble_eq_true rfl) (fun X hG hl C hq => by subst hG; subst hl; exact wX3_linesBeside C p0 hq h)
def fX3_linesAt_5b_43 (c0 : Nat) (v1 : Int32) (v2 : Int32) (v3 : Int32) (v4 : Int32) (N : ux_N) : Option ((Int32 × Int32) ⊕ (Int32)) :=
  some (.inl (v3, (v4 + 1)))
set_option maxHeartbeats 4000000 in
set_option maxRecDepth 20000 in
theorem wX3_linesAt_5b_43 {X : ux_X} (C : ux_C X cX3_linesAt RX3 5 (some .int) 0 0 shC) {c0 : Nat} {v1 : Int32} {v2 : Int32} {v3 : Int32} {v4 : Int32} (p0 : is_X3 c0) {N : ux_N} {L : ux_L} {o : (Int32 × Int32) ⊕ (Int32)} (hin : ∀ s : Int32 × Int32, o = .inl s → ux_Wt X 5 5 [(0, .ref (ux_ad X c0)), (1, .int v1), (2, .int v2), (3, .int s.1), (4, .int s.2)] [] N L) (hex0 : ∀ e : Int32, o = .inr (e) → ux_Wt X 5 49 [(2, .int v2), (3, .int e)] [] N L) (h : fX3_linesAt_5b_43 c0 v1 v2 v3 v4 N = some o) : ux_Wt X 5 43 [(0, .ref (ux_ad X c0)), (1, .int v1), (2, .int v2), (3, .int v3), (4, .int v4)] [] N L := by
  refine wt_iinc 46 4 [(4, .int (v4 + 1)), (0, .ref (ux_ad X c0)), (1, .int v1), (2, .int v2), (3, .int v3)] (v4 + 1) C dX3_linesAt_43 rfl rfl (by rfl) (by decide) rfl ?_
  refine wt_goto 5 C dX3_linesAt_46 (by decide) ?_
  refine wt_sub [1, 2, 3, 4, 0] rfl ?_
  exact hin _ (Option.some.inj h).symm
def fX3_linesAt_5b_36 (c0 : Nat) (v1 : Int32) (v2 : Int32) (v3 : Int32) (v4 : Int32) (N : ux_N) : Option ((Int32 × Int32) ⊕ (Int32)) :=
  fX3_linesAt_5b_43 c0 v1 v2 (v3 ||| ((1 : Int32) <<< (v4 &&& 31))) v4 N
set_option maxHeartbeats 4000000 in
set_option maxRecDepth 20000 in
theorem wX3_linesAt_5b_36 {X : ux_X} (C : ux_C X cX3_linesAt RX3 5 (some .int) 0 0 shC) {c0 : Nat} {v1 : Int32} {v2 : Int32} {v3 : Int32} {v4 : Int32} (p0 : is_X3 c0) {N : ux_N} {L : ux_L} {o : (Int32 × Int32) ⊕ (Int32)} (hin : ∀ s : Int32 × Int32, o = .inl s → ux_Wt X 5 5 [(0, .ref (ux_ad X c0)), (1, .int v1), (2, .int v2), (3, .int s.1), (4, .int s.2)] [] N L) (hex0 : ∀ e : Int32, o = .inr (e) → ux_Wt X 5 49 [(2, .int v2), (3, .int e)] [] N L) (h : fX3_linesAt_5b_36 c0 v1 v2 v3 v4 N = some o) : ux_Wt X 5 36 [(0, .ref (ux_ad X c0)), (1, .int v1), (2, .int v2), (3, .int v3), (4, .int v4)] [] N L := by
  refine wt_iload_n 37 3 C dX3_linesAt_36 rfl rfl ?_
  refine wt_iconst 38 1 C dX3_linesAt_37 rfl (by decide) ?_
  refine wt_iload 40 4 C dX3_linesAt_38 rfl rfl ?_
  refine wt_ishl 41 C dX3_linesAt_40 rfl ?_
  refine wt_ior 42 C dX3_linesAt_41 rfl ?_
  refine wt_istore_n 43 [(3, .int (v3 ||| ((1 : Int32) <<< (v4 &&& 31)))), (0, .ref (ux_ad X c0)), (1, .int v1), (2, .int v2), (4, .int v4)] C dX3_linesAt_42 rfl (by decide) rfl ?_
  refine wt_sub [1, 2, 3, 0, 4] rfl ?_
  exact wX3_linesAt_5b_43 C p0 hin hex0 h
def fX3_linesAt_5b (c0 : Nat) (v1 : Int32) (v2 : Int32) (v3 : Int32) (v4 : Int32) (N : ux_N) : Option ((Int32 × Int32) ⊕ (Int32)) :=
  if (N c0 1) ≤ v4 then (some (.inr (v3))) else (if ux_in v4 10 then (if (N (c0 + 1) (v4.toNatClampNeg)) = v1 then (fX3_linesAt_5b_36 c0 v1 v2 v3 v4 N) else (if ux_in v4 10 then (if (N (c0 + 2) (v4.toNatClampNeg)) = v1 then (fX3_linesAt_5b_36 c0 v1 v2 v3 v4 N) else (fX3_linesAt_5b_43 c0 v1 v2 v3 v4 N)) else none)) else none)
set_option maxHeartbeats 4000000 in
set_option maxRecDepth 20000 in
theorem wX3_linesAt_5b {X : ux_X} (C : ux_C X cX3_linesAt RX3 5 (some .int) 0 0 shC) {c0 : Nat} {v1 : Int32} {v2 : Int32} {v3 : Int32} {v4 : Int32} (p0 : is_X3 c0) {N : ux_N} {L : ux_L} {o : (Int32 × Int32) ⊕ (Int32)} (hin : ∀ s : Int32 × Int32, o = .inl s → ux_Wt X 5 5 [(0, .ref (ux_ad X c0)), (1, .int v1), (2, .int v2), (3, .int s.1), (4, .int s.2)] [] N L) (hex0 : ∀ e : Int32, o = .inr (e) → ux_Wt X 5 49 [(2, .int v2), (3, .int e)] [] N L) (h : fX3_linesAt_5b c0 v1 v2 v3 v4 N = some o) : ux_Wt X 5 5 [(0, .ref (ux_ad X c0)), (1, .int v1), (2, .int v2), (3, .int v3), (4, .int v4)] [] N L := by
  refine wt_iload 7 4 C dX3_linesAt_5 rfl rfl ?_
  refine wt_aload_n 8 0 C dX3_linesAt_7 rfl rfl ?_
  refine wt_getI 11 C kfX3_37 (p0).1 rfl dX3_linesAt_8 rfl ?_
  refine wt_icmp_ge 14 49 C dX3_linesAt_11 rfl (by decide) (fun q1 => ?_) (fun q1 => ?_)
  · have h := (if_pos q1).symm.trans h
    refine wt_sub [2, 3] rfl ?_
    exact hex0 _ (Option.some.inj h).symm
  · have h := (if_neg q1).symm.trans h
    refine wt_aload_n 15 0 C dX3_linesAt_14 rfl rfl ?_
    refine wt_getR 18 C kfX3_15 (p0).1 rfl dX3_linesAt_15 rfl ?_
    refine wt_iload 20 4 C dX3_linesAt_18 rfl rfl ?_
    obtain ⟨hi2, h⟩ := ux_guard h
    refine wt_iald 21 (v4.toNatClampNeg) C (p0).2.1 rfl hi2 dX3_linesAt_20 rfl ?_
    refine wt_iload_n 22 1 C dX3_linesAt_21 rfl rfl ?_
    refine wt_icmp_eq 25 36 C dX3_linesAt_22 rfl (by decide) (fun q3 => ?_) (fun q3 => ?_)
    · have h := (if_pos q3).symm.trans h
      exact wX3_linesAt_5b_36 C p0 hin hex0 h
    · have h := (if_neg q3).symm.trans h
      refine wt_aload_n 26 0 C dX3_linesAt_25 rfl rfl ?_
      refine wt_getR 29 C kfX3_19 (p0).1 rfl dX3_linesAt_26 rfl ?_
      refine wt_iload 31 4 C dX3_linesAt_29 rfl rfl ?_
      obtain ⟨hi4, h⟩ := ux_guard h
      refine wt_iald 32 (v4.toNatClampNeg) C (p0).2.2.1 rfl hi4 dX3_linesAt_31 rfl ?_
      refine wt_iload_n 33 1 C dX3_linesAt_32 rfl rfl ?_
      refine wt_icmp_ne 36 43 C dX3_linesAt_33 rfl (by decide) (fun q5 => ?_) (fun q5 => ?_)
      · have h := (if_neg q5).symm.trans h
        exact wX3_linesAt_5b_43 C p0 hin hex0 h
      · have h := (if_pos q5).symm.trans h
        exact wX3_linesAt_5b_36 C p0 hin hex0 h
def fX3_linesAt (c0 : Nat) (v1 : Int32) (v2 : Int32) (N : ux_N) : Option (Int32) :=
  (ux_lp (fun s : Int32 × Int32 => fX3_linesAt_5b c0 v1 v2 s.1 s.2 N) ux_fu ((0 : Int32), (0 : Int32))).bind (fun e8 => some (e8 &&& v2))
set_option maxHeartbeats 4000000 in
set_option maxRecDepth 20000 in
theorem wX3_linesAt {X : ux_X} (C : ux_C X cX3_linesAt RX3 5 (some .int) 0 0 shC) {c0 : Nat} {v1 : Int32} {v2 : Int32} (p0 : is_X3 c0) {N : ux_N} {L : ux_L} {o : Int32} (hq : ux_Qi X o N L) (h : fX3_linesAt c0 v1 v2 N = some o) : ux_Wt X 5 0 [(0, .ref (ux_ad X c0)), (1, .int v1), (2, .int v2)] [] N L := by
  refine wt_iconst 1 0 C dX3_linesAt_0 rfl (by decide) ?_
  refine wt_istore_n 2 [(3, .int (0 : Int32)), (0, .ref (ux_ad X c0)), (1, .int v1), (2, .int v2)] C dX3_linesAt_1 rfl (by decide) rfl ?_
  refine wt_iconst 3 0 C dX3_linesAt_2 rfl (by decide) ?_
  refine wt_istore 5 [(4, .int (0 : Int32)), (3, .int (0 : Int32)), (0, .ref (ux_ad X c0)), (1, .int v1), (2, .int v2)] C dX3_linesAt_3 rfl (by decide) rfl ?_
  obtain ⟨e1, hl2, h⟩ := Option.bind_eq_some_iff.mp h
  refine wt_sub [2, 3, 4, 1, 0] rfl ?_
  refine ux_loop (fun s : Int32 × Int32 => fX3_linesAt_5b c0 v1 v2 s.1 s.2 N) (fun s : Int32 × Int32 => ux_Wt X 5 5 [(0, .ref (ux_ad X c0)), (1, .int v1), (2, .int v2), (3, .int s.1), (4, .int s.2)] [] N L) (e := e1) ?_ hl2
  intro s3 o4 hb5 hi6 hx7
  refine wX3_linesAt_5b C p0 hi6 (fun x0 he => ?_) hb5
  · obtain ⟨e8, rfl⟩ : ∃ z, z = x0 := ⟨_, rfl⟩
    have h9 := hx7 _ he
    subst h9
    refine wt_iload_n 50 1 C dX3_linesAt_49 rfl rfl ?_
    refine wt_iload_n 51 0 C dX3_linesAt_50 rfl rfl ?_
    refine wt_iand 52 C dX3_linesAt_51 rfl ?_
    cases h
    exact wt_iret C hq dX3_linesAt_52
theorem mX3_linesAt {l : Launch} {G : ux_G} (hok : ux_ok G shC) {c0 : Nat} {v1 : Int32} {v2 : Int32} (p0 : is_X3 c0) {N : ux_N} {L : ux_L} {o : Int32} (h : fX3_linesAt c0 v1 v2 N = some o) : ux_Mi l G yX3_linesAt cX3_linesAt 5 (some .int) 0 0 [.ref (gad G c0), .int v1, .int v2] N L o N L :=
  ux_ofi shC hok (by decide +kernel) (Nat.le_of_ble_eq_true rfl) (fun X hG hl C hq => by subst hG; subst hl; exact wX3_linesAt C p0 hq h)
def fX3_linesNear_13b_62 (c0 : Nat) (v2 : Int32) (v3 : Int32) (v4 : Int32) (v5 : Int32) (N : ux_N) : Option ((Int32 × Int32) ⊕ (Int32)) :=
  some (.inl (v4, (v5 + 1)))
set_option maxHeartbeats 4000000 in
set_option maxRecDepth 20000 in
theorem wX3_linesNear_13b_62 {X : ux_X} (C : ux_C X cX3_linesNear RX3 6 (some .int) 1 24 shC) {c0 : Nat} {v2 : Int32} {v3 : Int32} {v4 : Int32} {v5 : Int32} (p0 : is_X3 c0) {N : ux_N} {L : ux_L} {o : (Int32 × Int32) ⊕ (Int32)} (hin : ∀ s : Int32 × Int32, o = .inl s → ux_Wt X 6 13 [(0, .ref (ux_ad X c0)), (2, .int v2), (3, .int v3), (4, .int s.1), (5, .int s.2)] [] N L) (hex0 : ∀ e : Int32, o = .inr (e) → ux_Wt X 6 68 [(4, .int e)] [] N L) (h : fX3_linesNear_13b_62 c0 v2 v3 v4 v5 N = some o) : ux_Wt X 6 62 [(0, .ref (ux_ad X c0)), (2, .int v2), (3, .int v3), (4, .int v4), (5, .int v5)] [] N L := by
  refine wt_iinc 65 4 [(5, .int (v5 + 1)), (0, .ref (ux_ad X c0)), (2, .int v2), (3, .int v3), (4, .int v4)] (v5 + 1) C dX3_linesNear_62 rfl rfl (by rfl) (by decide) rfl ?_
  refine wt_goto 13 C dX3_linesNear_65 (by decide) ?_
  refine wt_sub [1, 2, 3, 4, 0] rfl ?_
  exact hin _ (Option.some.inj h).symm
def fX3_linesNear_13b (c0 : Nat) (v2 : Int32) (v3 : Int32) (v4 : Int32) (v5 : Int32) (N : ux_N) : Option ((Int32 × Int32) ⊕ (Int32)) :=
  if (N c0 1) ≤ v5 then (some (.inr (v4))) else (if ((v3 >>> (v5 &&& 31)) &&& (1 : Int32)) = (1 : Int32) then (if ux_in v5 10 then ((fX3_linesAt c0 (N (c0 + 1) (v5.toNatClampNeg)) v2 N).bind (fun o4 => if ux_in v5 10 then ((fX3_linesAt c0 (N (c0 + 2) (v5.toNatClampNeg)) v2 N).bind (fun o7 => fX3_linesNear_13b_62 c0 v2 v3 (v4 ||| (o4 ||| o7)) v5 N)) else none)) else none) else (fX3_linesNear_13b_62 c0 v2 v3 v4 v5 N))
set_option maxHeartbeats 4000000 in
set_option maxRecDepth 20000 in
theorem wX3_linesNear_13b {X : ux_X} (C : ux_C X cX3_linesNear RX3 6 (some .int) 1 24 shC) {c0 : Nat} {v2 : Int32} {v3 : Int32} {v4 : Int32} {v5 : Int32} (p0 : is_X3 c0) {N : ux_N} {L : ux_L} {o : (Int32 × Int32) ⊕ (Int32)} (hin : ∀ s : Int32 × Int32, o = .inl s → ux_Wt X 6 13 [(0, .ref (ux_ad X c0)), (2, .int v2), (3, .int v3), (4, .int s.1), (5, .int s.2)] [] N L) (hex0 : ∀ e : Int32, o = .inr (e) → ux_Wt X 6 68 [(4, .int e)] [] N L) (h : fX3_linesNear_13b c0 v2 v3 v4 v5 N = some o) : ux_Wt X 6 13 [(0, .ref (ux_ad X c0)), (2, .int v2), (3, .int v3), (4, .int v4), (5, .int v5)] [] N L := by
  refine wt_iload 15 4 C dX3_linesNear_13 rfl rfl ?_
  refine wt_aload_n 16 0 C dX3_linesNear_15 rfl rfl ?_
  refine wt_getI 19 C kfX3_37 (p0).1 rfl dX3_linesNear_16 rfl ?_
  refine wt_icmp_ge 22 68 C dX3_linesNear_19 rfl (by decide) (fun q1 => ?_) (fun q1 => ?_)
  · have h := (if_pos q1).symm.trans h
    refine wt_sub [3] rfl ?_
    exact hex0 _ (Option.some.inj h).symm
  · have h := (if_neg q1).symm.trans h
    refine wt_iload_n 23 2 C dX3_linesNear_22 rfl rfl ?_
    refine wt_iload 25 4 C dX3_linesNear_23 rfl rfl ?_
    refine wt_ishr 26 C dX3_linesNear_25 rfl ?_
    refine wt_iconst 27 1 C dX3_linesNear_26 rfl (by decide) ?_
    refine wt_iand 28 C dX3_linesNear_27 rfl ?_
    refine wt_iconst 29 1 C dX3_linesNear_28 rfl (by decide) ?_
    refine wt_icmp_ne 32 62 C dX3_linesNear_29 rfl (by decide) (fun q2 => ?_) (fun q2 => ?_)
    · have h := (if_neg q2).symm.trans h
      exact wX3_linesNear_13b_62 C p0 hin hex0 h
    · have h := (if_pos q2).symm.trans h
      refine wt_iload 34 3 C dX3_linesNear_32 rfl rfl ?_
      refine wt_aload_n 35 0 C dX3_linesNear_34 rfl rfl ?_
      refine wt_aload_n 36 0 C dX3_linesNear_35 rfl rfl ?_
      refine wt_getR 39 C kfX3_15 (p0).1 rfl dX3_linesNear_36 rfl ?_
      refine wt_iload 41 4 C dX3_linesNear_39 rfl rfl ?_
      obtain ⟨hi3, h⟩ := ux_guard h
      refine wt_iald 42 (v5.toNatClampNeg) C (p0).2.1 rfl hi3 dX3_linesNear_41 rfl ?_
      refine wt_iload_n 43 1 C dX3_linesNear_42 rfl rfl ?_
      obtain ⟨o4, hc5, h⟩ := Option.bind_eq_some_iff.mp h
      refine wt_callVi 46 [.int v4] C kvX3_72 (p0).1 (mX3_linesAt (cx_ok C) (p0) hc5) rfl rfl ⟨Nat.le_of_ble_eq_true rfl, Nat.le_of_ble_eq_true rfl⟩ (Nat.le_of_ble_eq_true rfl) dX3_linesNear_43 rfl ?_
      refine wt_aload_n 47 0 C dX3_linesNear_46 rfl rfl ?_
      refine wt_aload_n 48 0 C dX3_linesNear_47 rfl rfl ?_
      refine wt_getR 51 C kfX3_19 (p0).1 rfl dX3_linesNear_48 rfl ?_
      refine wt_iload 53 4 C dX3_linesNear_51 rfl rfl ?_
      obtain ⟨hi6, h⟩ := ux_guard h
      refine wt_iald 54 (v5.toNatClampNeg) C (p0).2.2.1 rfl hi6 dX3_linesNear_53 rfl ?_
      refine wt_iload_n 55 1 C dX3_linesNear_54 rfl rfl ?_
      obtain ⟨o7, hc8, h⟩ := Option.bind_eq_some_iff.mp h
      refine wt_callVi 58 [.int o4, .int v4] C kvX3_72 (p0).1 (mX3_linesAt (cx_ok C) (p0) hc8) rfl rfl ⟨Nat.le_of_ble_eq_true rfl, Nat.le_of_ble_eq_true rfl⟩ (Nat.le_of_ble_eq_true rfl) dX3_linesNear_55 rfl ?_
      refine wt_ior 59 C dX3_linesNear_58 rfl ?_
      refine wt_ior 60 C dX3_linesNear_59 rfl ?_
      refine wt_istore 62 [(4, .int (v4 ||| (o4 ||| o7))), (0, .ref (ux_ad X c0)), (2, .int v2), (3, .int v3), (5, .int v5)] C dX3_linesNear_60 rfl (by decide) rfl ?_
      refine wt_sub [1, 2, 3, 0, 4] rfl ?_
      exact wX3_linesNear_13b_62 C p0 hin hex0 h
def fX3_linesNear (c0 : Nat) (v1 : Int32) (v2 : Int32) (N : ux_N) : Option (Int32) :=
  (fX3_linesAt c0 v1 v2 N).bind (fun o1 => (ux_lp (fun s : Int32 × Int32 => fX3_linesNear_13b c0 v2 o1 s.1 s.2 N) ux_fu ((0 : Int32), (0 : Int32))).bind (fun e10 => some e10))
set_option maxHeartbeats 4000000 in
set_option maxRecDepth 20000 in
theorem wX3_linesNear {X : ux_X} (C : ux_C X cX3_linesNear RX3 6 (some .int) 1 24 shC) {c0 : Nat} {v1 : Int32} {v2 : Int32} (p0 : is_X3 c0) {N : ux_N} {L : ux_L} {o : Int32} (hq : ux_Qi X o N L) (h : fX3_linesNear c0 v1 v2 N = some o) : ux_Wt X 6 0 [(0, .ref (ux_ad X c0)), (1, .int v1), (2, .int v2)] [] N L := by
  refine wt_aload_n 1 0 C dX3_linesNear_0 rfl rfl ?_
  refine wt_iload_n 2 1 C dX3_linesNear_1 rfl rfl ?_
  refine wt_iload_n 3 2 C dX3_linesNear_2 rfl rfl ?_
  obtain ⟨o1, hc2, h⟩ := Option.bind_eq_some_iff.mp h
  refine wt_callVi 6 [] C kvX3_72 (p0).1 (mX3_linesAt (cx_ok C) (p0) hc2) rfl rfl ⟨Nat.le_of_ble_eq_true rfl, Nat.le_of_ble_eq_true rfl⟩ (Nat.le_of_ble_eq_true rfl) dX3_linesNear_3 rfl ?_
  refine wt_istore_n 7 [(3, .int o1), (0, .ref (ux_ad X c0)), (1, .int v1), (2, .int v2)] C dX3_linesNear_6 rfl (by decide) rfl ?_
  refine wt_iconst 8 0 C dX3_linesNear_7 rfl (by decide) ?_
  refine wt_istore 10 [(4, .int (0 : Int32)), (3, .int o1), (0, .ref (ux_ad X c0)), (1, .int v1), (2, .int v2)] C dX3_linesNear_8 rfl (by decide) rfl ?_
  refine wt_iconst 11 0 C dX3_linesNear_10 rfl (by decide) ?_
  refine wt_istore 13 [(5, .int (0 : Int32)), (4, .int (0 : Int32)), (3, .int o1), (0, .ref (ux_ad X c0)), (1, .int v1), (2, .int v2)] C dX3_linesNear_11 rfl (by decide) rfl ?_
  obtain ⟨e3, hl4, h⟩ := Option.bind_eq_some_iff.mp h
  refine wt_sub [3, 5, 2, 1, 0] rfl ?_
  refine ux_loop (fun s : Int32 × Int32 => fX3_linesNear_13b c0 v2 o1 s.1 s.2 N) (fun s : Int32 × Int32 => ux_Wt X 6 13 [(0, .ref (ux_ad X c0)), (2, .int v2), (3, .int o1), (4, .int s.1), (5, .int s.2)] [] N L) (e := e3) ?_ hl4
  intro s5 o6 hb7 hi8 hx9
  refine wX3_linesNear_13b C p0 hi8 (fun x0 he => ?_) hb7
  · obtain ⟨e10, rfl⟩ : ∃ z, z = x0 := ⟨_, rfl⟩
    have h9 := hx9 _ he
    subst h9
    refine wt_iload 70 0 C dX3_linesNear_68 rfl rfl ?_
    cases h
    exact wt_iret C hq dX3_linesNear_70
theorem mX3_linesNear {l : Launch} {G : ux_G} (hok : ux_ok G shC) {c0 : Nat} {v1 : Int32} {v2 : Int32} (p0 : is_X3 c0) {N : ux_N} {L : ux_L} {o : Int32} (h : fX3_linesNear c0 v1 v2 N = some o) : ux_Mi l G yX3_linesNear cX3_linesNear 6 (some .int) 1 24 [.ref (gad G c0), .int v1, .int v2] N L o N L :=
  ux_ofi shC hok (by decide +kernel) (Nat.le_of_ble_eq_true rfl) (fun X hG hl C hq => by subst hG; subst hl; exact wX3_linesNear C p0 hq h)
def fX3_withoutLeast (v0 : Int32) : Option (Int32) :=
  some (v0 &&& (v0 - (1 : Int32)))
set_option maxHeartbeats 4000000 in
set_option maxRecDepth 20000 in
theorem wX3_withoutLeast {X : ux_X} (C : ux_C X cX3_withoutLeast RX3 1 (some .int) 0 0 shC) {v0 : Int32}  {N : ux_N} {L : ux_L} {o : Int32} (hq : ux_Qi X o N L) (h : fX3_withoutLeast v0 = some o) : ux_Wt X 1 0 [(0, .int v0)] [] N L := by
  refine wt_iload_n 1 0 C dX3_withoutLeast_0 rfl rfl ?_
  refine wt_iload_n 2 0 C dX3_withoutLeast_1 rfl rfl ?_
  refine wt_iconst 3 1 C dX3_withoutLeast_2 rfl (by decide) ?_
  refine wt_isub 4 C dX3_withoutLeast_3 rfl ?_
  refine wt_iand 5 C dX3_withoutLeast_4 rfl ?_
  cases h
  exact wt_iret C hq dX3_withoutLeast_5
theorem mX3_withoutLeast {l : Launch} {G : ux_G} (hok : ux_ok G shC) {v0 : Int32}  {N : ux_N} {L : ux_L} {o : Int32} (h : fX3_withoutLeast v0 = some o) : ux_Mi l G yX3_withoutLeast cX3_withoutLeast 1 (some .int) 0 0 [.int v0] N L o N L :=
  ux_ofi shC hok (by decide +kernel) (Nat.le_of_ble_eq_true rfl) (fun X hG hl C hq => by subst hG; subst hl; exact wX3_withoutLeast C  hq h)
def fX3_linesFor (c0 : Nat) (v1 : Int32) (v2 : Int32) (v3 : Int32) (N : ux_N) : Option (Int32) :=
  (fX3_hasPlace c0 v1 v2 N).bind (fun o1 => if o1 = 0 then (some (0 : Int32)) else (if v1 = (0 : Int32) then (some (((1 : Int32) <<< (v2 &&& 31)) &&& v3)) else (if v1 = (1 : Int32) then ((fX3_linesBeside c0 v2 N).bind (fun o6 => some (o6 &&& v3))) else (if v1 = (2 : Int32) then ((fX3_linesAt c0 v2 v3 N).bind (fun o9 => some o9)) else (if v1 = (3 : Int32) then ((fX3_linesNear c0 v2 v3 N).bind (fun o12 => some o12)) else (if v1 = (4 : Int32) then ((fX3_linesAt c0 v2 v3 N).bind (fun o15 => (fX3_withoutLeast o15).bind (fun o17 => some o17))) else (some (0 : Int32))))))))
set_option maxHeartbeats 4000000 in
set_option maxRecDepth 20000 in
theorem wX3_linesFor {X : ux_X} (C : ux_C X cX3_linesFor RX3 4 (some .int) 2 49 shC) {c0 : Nat} {v1 : Int32} {v2 : Int32} {v3 : Int32} (p0 : is_X3 c0) {N : ux_N} {L : ux_L} {o : Int32} (hq : ux_Qi X o N L) (h : fX3_linesFor c0 v1 v2 v3 N = some o) : ux_Wt X 4 0 [(0, .ref (ux_ad X c0)), (1, .int v1), (2, .int v2), (3, .int v3)] [] N L := by
  refine wt_aload_n 1 0 C dX3_linesFor_0 rfl rfl ?_
  refine wt_iload_n 2 1 C dX3_linesFor_1 rfl rfl ?_
  refine wt_iload_n 3 2 C dX3_linesFor_2 rfl rfl ?_
  obtain ⟨o1, hc2, h⟩ := Option.bind_eq_some_iff.mp h
  refine wt_callVi 6 [] C kvX3_65 (p0).1 (mX3_hasPlace (cx_ok C) (p0) hc2) rfl rfl ⟨Nat.le_of_ble_eq_true rfl, Nat.le_of_ble_eq_true rfl⟩ (Nat.le_of_ble_eq_true rfl) dX3_linesFor_3 rfl ?_
  refine wt_if_ne 9 11 C dX3_linesFor_6 rfl (by decide) (fun q3 => ?_) (fun q3 => ?_)
  · have h := (if_neg q3).symm.trans h
    refine wt_iload_n 12 1 C dX3_linesFor_11 rfl rfl ?_
    by_cases q4 : v1 = (0 : Int32)
    · have h := (if_pos q4).symm.trans h
      refine wt_tin 48 (0) C dX3_linesFor_12 q4 (by decide) (by decide) rfl (by decide) ?_
      refine wt_iconst 49 1 C dX3_linesFor_48 rfl (by decide) ?_
      refine wt_iload_n 50 2 C dX3_linesFor_49 rfl rfl ?_
      refine wt_ishl 51 C dX3_linesFor_50 rfl ?_
      refine wt_iload_n 52 3 C dX3_linesFor_51 rfl rfl ?_
      refine wt_iand 53 C dX3_linesFor_52 rfl ?_
      cases h
      exact wt_iret C hq dX3_linesFor_53
    have h := (if_neg q4).symm.trans h
    by_cases q5 : v1 = (1 : Int32)
    · have h := (if_pos q5).symm.trans h
      refine wt_tin 54 (1) C dX3_linesFor_12 q5 (by decide) (by decide) rfl (by decide) ?_
      refine wt_aload_n 55 0 C dX3_linesFor_54 rfl rfl ?_
      refine wt_iload_n 56 2 C dX3_linesFor_55 rfl rfl ?_
      obtain ⟨o6, hc7, h⟩ := Option.bind_eq_some_iff.mp h
      refine wt_callVi 59 [] C kvX3_69 (p0).1 (mX3_linesBeside (cx_ok C) (p0) hc7) rfl rfl ⟨Nat.le_of_ble_eq_true rfl, Nat.le_of_ble_eq_true rfl⟩ (Nat.le_of_ble_eq_true rfl) dX3_linesFor_56 rfl ?_
      refine wt_iload_n 60 3 C dX3_linesFor_59 rfl rfl ?_
      refine wt_iand 61 C dX3_linesFor_60 rfl ?_
      cases h
      exact wt_iret C hq dX3_linesFor_61
    have h := (if_neg q5).symm.trans h
    by_cases q8 : v1 = (2 : Int32)
    · have h := (if_pos q8).symm.trans h
      refine wt_tin 62 (2) C dX3_linesFor_12 q8 (by decide) (by decide) rfl (by decide) ?_
      refine wt_aload_n 63 0 C dX3_linesFor_62 rfl rfl ?_
      refine wt_iload_n 64 2 C dX3_linesFor_63 rfl rfl ?_
      refine wt_iload_n 65 3 C dX3_linesFor_64 rfl rfl ?_
      obtain ⟨o9, hc10, h⟩ := Option.bind_eq_some_iff.mp h
      refine wt_callVi 68 [] C kvX3_72 (p0).1 (mX3_linesAt (cx_ok C) (p0) hc10) rfl rfl ⟨Nat.le_of_ble_eq_true rfl, Nat.le_of_ble_eq_true rfl⟩ (Nat.le_of_ble_eq_true rfl) dX3_linesFor_65 rfl ?_
      cases h
      exact wt_iret C hq dX3_linesFor_68
    have h := (if_neg q8).symm.trans h
    by_cases q11 : v1 = (3 : Int32)
    · have h := (if_pos q11).symm.trans h
      refine wt_tin 69 (3) C dX3_linesFor_12 q11 (by decide) (by decide) rfl (by decide) ?_
      refine wt_aload_n 70 0 C dX3_linesFor_69 rfl rfl ?_
      refine wt_iload_n 71 2 C dX3_linesFor_70 rfl rfl ?_
      refine wt_iload_n 72 3 C dX3_linesFor_71 rfl rfl ?_
      obtain ⟨o12, hc13, h⟩ := Option.bind_eq_some_iff.mp h
      refine wt_callVi 75 [] C kvX3_75 (p0).1 (mX3_linesNear (cx_ok C) (p0) hc13) rfl rfl ⟨Nat.le_of_ble_eq_true rfl, Nat.le_of_ble_eq_true rfl⟩ (Nat.le_of_ble_eq_true rfl) dX3_linesFor_72 rfl ?_
      cases h
      exact wt_iret C hq dX3_linesFor_75
    have h := (if_neg q11).symm.trans h
    by_cases q14 : v1 = (4 : Int32)
    · have h := (if_pos q14).symm.trans h
      refine wt_tin 76 (4) C dX3_linesFor_12 q14 (by decide) (by decide) rfl (by decide) ?_
      refine wt_aload_n 77 0 C dX3_linesFor_76 rfl rfl ?_
      refine wt_iload_n 78 2 C dX3_linesFor_77 rfl rfl ?_
      refine wt_iload_n 79 3 C dX3_linesFor_78 rfl rfl ?_
      obtain ⟨o15, hc16, h⟩ := Option.bind_eq_some_iff.mp h
      refine wt_callVi 82 [] C kvX3_72 (p0).1 (mX3_linesAt (cx_ok C) (p0) hc16) rfl rfl ⟨Nat.le_of_ble_eq_true rfl, Nat.le_of_ble_eq_true rfl⟩ (Nat.le_of_ble_eq_true rfl) dX3_linesFor_79 rfl ?_
      obtain ⟨o17, hc18, h⟩ := Option.bind_eq_some_iff.mp h
      refine wt_callSi 85 [] C ksX3_78 (mX3_withoutLeast (cx_ok C)  hc18) rfl rfl ⟨Nat.le_of_ble_eq_true rfl, Nat.le_of_ble_eq_true rfl⟩ (Nat.le_of_ble_eq_true rfl) dX3_linesFor_82 rfl ?_
      cases h
      exact wt_iret C hq dX3_linesFor_85
    have h := (if_neg q14).symm.trans h
    refine wt_tout 86 C dX3_linesFor_12 (by have z0 := lv_neT q4 (show (0 : Int32).toInt = 0 from by decide); have z1 := lv_neT q5 (show (1 : Int32).toInt = 1 from by decide); have z2 := lv_neT q8 (show (2 : Int32).toInt = 2 from by decide); have z3 := lv_neT q11 (show (3 : Int32).toInt = 3 from by decide); have z4 := lv_neT q14 (show (4 : Int32).toInt = 4 from by decide); omega) (by decide) ?_
    refine wt_iconst 87 0 C dX3_linesFor_86 rfl (by decide) ?_
    cases h
    exact wt_iret C hq dX3_linesFor_87
  · have h := (if_pos q3).symm.trans h
    refine wt_iconst 10 0 C dX3_linesFor_9 rfl (by decide) ?_
    cases h
    exact wt_iret C hq dX3_linesFor_10
theorem mX3_linesFor {l : Launch} {G : ux_G} (hok : ux_ok G shC) {c0 : Nat} {v1 : Int32} {v2 : Int32} {v3 : Int32} (p0 : is_X3 c0) {N : ux_N} {L : ux_L} {o : Int32} (h : fX3_linesFor c0 v1 v2 v3 N = some o) : ux_Mi l G yX3_linesFor cX3_linesFor 4 (some .int) 2 49 [.ref (gad G c0), .int v1, .int v2, .int v3] N L o N L :=
  ux_ofi shC hok (by decide +kernel) (Nat.le_of_ble_eq_true rfl) (fun X hG hl C hq => by subst hG; subst hl; exact wX3_linesFor C p0 hq h)
def fX3_priceOf_4b_30 (c0 : Nat) (v1 : Int32) (v2 : Int32) (v3 : Int32) (N : ux_N) : Option ((Int32 × Int32) ⊕ (Int32)) :=
  some (.inl (v2, (v3 + 1)))
set_option maxHeartbeats 4000000 in
set_option maxRecDepth 20000 in
theorem wX3_priceOf_4b_30 {X : ux_X} (C : ux_C X cX3_priceOf RX3 4 (some .int) 0 0 shC) {c0 : Nat} {v1 : Int32} {v2 : Int32} {v3 : Int32} (p0 : is_X3 c0) {N : ux_N} {L : ux_L} {o : (Int32 × Int32) ⊕ (Int32)} (hin : ∀ s : Int32 × Int32, o = .inl s → ux_Wt X 4 4 [(0, .ref (ux_ad X c0)), (1, .int v1), (2, .int s.1), (3, .int s.2)] [] N L) (hex0 : ∀ e : Int32, o = .inr (e) → ux_Wt X 4 36 [(2, .int e)] [] N L) (h : fX3_priceOf_4b_30 c0 v1 v2 v3 N = some o) : ux_Wt X 4 30 [(0, .ref (ux_ad X c0)), (1, .int v1), (2, .int v2), (3, .int v3)] [] N L := by
  refine wt_iinc 33 3 [(3, .int (v3 + 1)), (0, .ref (ux_ad X c0)), (1, .int v1), (2, .int v2)] (v3 + 1) C dX3_priceOf_30 rfl rfl (by rfl) (by decide) rfl ?_
  refine wt_goto 4 C dX3_priceOf_33 (by decide) ?_
  refine wt_sub [1, 2, 3, 0] rfl ?_
  exact hin _ (Option.some.inj h).symm
def fX3_priceOf_4b (c0 : Nat) (v1 : Int32) (v2 : Int32) (v3 : Int32) (N : ux_N) : Option ((Int32 × Int32) ⊕ (Int32)) :=
  if (N c0 3) ≤ v3 then (some (.inr (v2))) else (if ((v1 >>> (v3 &&& 31)) &&& (1 : Int32)) = (1 : Int32) then (if ux_in v3 6 then (fX3_priceOf_4b_30 c0 v1 (v2 + (N (c0 + 7) (v3.toNatClampNeg))) v3 N) else none) else (fX3_priceOf_4b_30 c0 v1 v2 v3 N))
set_option maxHeartbeats 4000000 in
set_option maxRecDepth 20000 in
theorem wX3_priceOf_4b {X : ux_X} (C : ux_C X cX3_priceOf RX3 4 (some .int) 0 0 shC) {c0 : Nat} {v1 : Int32} {v2 : Int32} {v3 : Int32} (p0 : is_X3 c0) {N : ux_N} {L : ux_L} {o : (Int32 × Int32) ⊕ (Int32)} (hin : ∀ s : Int32 × Int32, o = .inl s → ux_Wt X 4 4 [(0, .ref (ux_ad X c0)), (1, .int v1), (2, .int s.1), (3, .int s.2)] [] N L) (hex0 : ∀ e : Int32, o = .inr (e) → ux_Wt X 4 36 [(2, .int e)] [] N L) (h : fX3_priceOf_4b c0 v1 v2 v3 N = some o) : ux_Wt X 4 4 [(0, .ref (ux_ad X c0)), (1, .int v1), (2, .int v2), (3, .int v3)] [] N L := by
  refine wt_iload_n 5 3 C dX3_priceOf_4 rfl rfl ?_
  refine wt_aload_n 6 0 C dX3_priceOf_5 rfl rfl ?_
  refine wt_getI 9 C kfX3_43 (p0).1 rfl dX3_priceOf_6 rfl ?_
  refine wt_icmp_ge 12 36 C dX3_priceOf_9 rfl (by decide) (fun q1 => ?_) (fun q1 => ?_)
  · have h := (if_pos q1).symm.trans h
    refine wt_sub [2] rfl ?_
    exact hex0 _ (Option.some.inj h).symm
  · have h := (if_neg q1).symm.trans h
    refine wt_iload_n 13 1 C dX3_priceOf_12 rfl rfl ?_
    refine wt_iload_n 14 3 C dX3_priceOf_13 rfl rfl ?_
    refine wt_ishr 15 C dX3_priceOf_14 rfl ?_
    refine wt_iconst 16 1 C dX3_priceOf_15 rfl (by decide) ?_
    refine wt_iand 17 C dX3_priceOf_16 rfl ?_
    refine wt_iconst 18 1 C dX3_priceOf_17 rfl (by decide) ?_
    refine wt_icmp_ne 21 30 C dX3_priceOf_18 rfl (by decide) (fun q2 => ?_) (fun q2 => ?_)
    · have h := (if_neg q2).symm.trans h
      exact wX3_priceOf_4b_30 C p0 hin hex0 h
    · have h := (if_pos q2).symm.trans h
      refine wt_iload_n 22 2 C dX3_priceOf_21 rfl rfl ?_
      refine wt_aload_n 23 0 C dX3_priceOf_22 rfl rfl ?_
      refine wt_getR 26 C kfX3_34 (p0).1 rfl dX3_priceOf_23 rfl ?_
      refine wt_iload_n 27 3 C dX3_priceOf_26 rfl rfl ?_
      obtain ⟨hi3, h⟩ := ux_guard h
      refine wt_iald 28 (v3.toNatClampNeg) C (p0).2.2.2.2.2.2.2 rfl hi3 dX3_priceOf_27 rfl ?_
      refine wt_iadd 29 C dX3_priceOf_28 rfl ?_
      refine wt_istore_n 30 [(2, .int (v2 + (N (c0 + 7) (v3.toNatClampNeg)))), (0, .ref (ux_ad X c0)), (1, .int v1), (3, .int v3)] C dX3_priceOf_29 rfl (by decide) rfl ?_
      refine wt_sub [1, 2, 0, 3] rfl ?_
      exact wX3_priceOf_4b_30 C p0 hin hex0 h
def fX3_priceOf (c0 : Nat) (v1 : Int32) (N : ux_N) : Option (Int32) :=
  (ux_lp (fun s : Int32 × Int32 => fX3_priceOf_4b c0 v1 s.1 s.2 N) ux_fu ((0 : Int32), (0 : Int32))).bind (fun e8 => some e8)
set_option maxHeartbeats 4000000 in
set_option maxRecDepth 20000 in
theorem wX3_priceOf {X : ux_X} (C : ux_C X cX3_priceOf RX3 4 (some .int) 0 0 shC) {c0 : Nat} {v1 : Int32} (p0 : is_X3 c0) {N : ux_N} {L : ux_L} {o : Int32} (hq : ux_Qi X o N L) (h : fX3_priceOf c0 v1 N = some o) : ux_Wt X 4 0 [(0, .ref (ux_ad X c0)), (1, .int v1)] [] N L := by
  refine wt_iconst 1 0 C dX3_priceOf_0 rfl (by decide) ?_
  refine wt_istore_n 2 [(2, .int (0 : Int32)), (0, .ref (ux_ad X c0)), (1, .int v1)] C dX3_priceOf_1 rfl (by decide) rfl ?_
  refine wt_iconst 3 0 C dX3_priceOf_2 rfl (by decide) ?_
  refine wt_istore_n 4 [(3, .int (0 : Int32)), (2, .int (0 : Int32)), (0, .ref (ux_ad X c0)), (1, .int v1)] C dX3_priceOf_3 rfl (by decide) rfl ?_
  obtain ⟨e1, hl2, h⟩ := Option.bind_eq_some_iff.mp h
  refine wt_sub [2, 3, 1, 0] rfl ?_
  refine ux_loop (fun s : Int32 × Int32 => fX3_priceOf_4b c0 v1 s.1 s.2 N) (fun s : Int32 × Int32 => ux_Wt X 4 4 [(0, .ref (ux_ad X c0)), (1, .int v1), (2, .int s.1), (3, .int s.2)] [] N L) (e := e1) ?_ hl2
  intro s3 o4 hb5 hi6 hx7
  refine wX3_priceOf_4b C p0 hi6 (fun x0 he => ?_) hb5
  · obtain ⟨e8, rfl⟩ : ∃ z, z = x0 := ⟨_, rfl⟩
    have h9 := hx7 _ he
    subst h9
    refine wt_iload_n 37 0 C dX3_priceOf_36 rfl rfl ?_
    cases h
    exact wt_iret C hq dX3_priceOf_37
theorem mX3_priceOf {l : Launch} {G : ux_G} (hok : ux_ok G shC) {c0 : Nat} {v1 : Int32} (p0 : is_X3 c0) {N : ux_N} {L : ux_L} {o : Int32} (h : fX3_priceOf c0 v1 N = some o) : ux_Mi l G yX3_priceOf cX3_priceOf 4 (some .int) 0 0 [.ref (gad G c0), .int v1] N L o N L :=
  ux_ofi shC hok (by decide +kernel) (Nat.le_of_ble_eq_true rfl) (fun X hG hl C hq => by subst hG; subst hl; exact wX3_priceOf C p0 hq h)
