theorem dX11_write_0 : decode cX11_write 0 = .ok (.iload_n 1, 1) := by decide +kernel
theorem dX11_write_1 : decode cX11_write 1 = .ok (.ifCond .lt 10, 3) := by decide +kernel
theorem dX11_write_4 : decode cX11_write 4 = .ok (.iload_n 1, 1) := by decide +kernel
theorem dX11_write_5 : decode cX11_write 5 = .ok (.sipush 255, 3) := by decide +kernel
theorem dX11_write_8 : decode cX11_write 8 = .ok (.if_icmp .le 6, 3) := by decide +kernel
theorem dX11_write_11 : decode cX11_write 11 = .ok (.bipush (-3), 2) := by decide +kernel
theorem dX11_write_13 : decode cX11_write 13 = .ok (.ireturn, 1) := by decide +kernel
theorem dX11_write_14 : decode cX11_write 14 = .ok (.aload_n 0, 1) := by decide +kernel
theorem dX11_write_15 : decode cX11_write 15 = .ok (.getfield 19, 3) := by decide +kernel
theorem dX11_write_18 : decode cX11_write 18 = .ok (.iload_n 1, 1) := by decide +kernel
theorem dX11_write_19 : decode cX11_write 19 = .ok (.i2c, 1) := by decide +kernel
theorem dX11_write_20 : decode cX11_write 20 = .ok (.invokevirtual 75, 3) := by decide +kernel
theorem dX11_write_23 : decode cX11_write 23 = .ok (.ifCond .eq 13, 3) := by decide +kernel
theorem dX11_write_26 : decode cX11_write 26 = .ok (.aload_n 0, 1) := by decide +kernel
theorem dX11_write_27 : decode cX11_write 27 = .ok (.getfield 19, 3) := by decide +kernel
theorem dX11_write_30 : decode cX11_write 30 = .ok (.getfield 79, 3) := by decide +kernel
theorem dX11_write_33 : decode cX11_write 33 = .ok (.goto 5, 3) := by decide +kernel
theorem dX11_write_36 : decode cX11_write 36 = .ok (.bipush (-5), 2) := by decide +kernel
theorem dX11_write_38 : decode cX11_write 38 = .ok (.ireturn, 1) := by decide +kernel
theorem dX11_erase_0 : decode cX11_erase 0 = .ok (.aload_n 0, 1) := by decide +kernel
theorem dX11_erase_1 : decode cX11_erase 1 = .ok (.getfield 19, 3) := by decide +kernel
theorem dX11_erase_4 : decode cX11_erase 4 = .ok (.invokevirtual 83, 3) := by decide +kernel
theorem dX11_erase_7 : decode cX11_erase 7 = .ok (.ireturn, 1) := by decide +kernel
theorem dX11_fault_0 : decode cX11_fault 0 = .ok (.aload_n 0, 1) := by decide +kernel
theorem dX11_fault_1 : decode cX11_fault 1 = .ok (.getfield 19, 3) := by decide +kernel
theorem dX11_fault_4 : decode cX11_fault 4 = .ok (.aload_n 0, 1) := by decide +kernel
theorem dX11_fault_5 : decode cX11_fault 5 = .ok (.getfield 10, 3) := by decide +kernel
theorem dX11_fault_8 : decode cX11_fault 8 = .ok (.invokevirtual 86, 3) := by decide +kernel
theorem dX11_fault_11 : decode cX11_fault 11 = .ok (.ireturn, 1) := by decide +kernel
theorem dX11_grid_0 : decode cX11_grid 0 = .ok (.aload_n 0, 1) := by decide +kernel
theorem dX11_grid_1 : decode cX11_grid 1 = .ok (.getfield 19, 3) := by decide +kernel
theorem dX11_grid_4 : decode cX11_grid 4 = .ok (.aload_n 0, 1) := by decide +kernel
theorem dX11_grid_5 : decode cX11_grid 5 = .ok (.getfield 10, 3) := by decide +kernel
theorem dX11_grid_8 : decode cX11_grid 8 = .ok (.invokevirtual 86, 3) := by decide +kernel
theorem dX11_grid_11 : decode cX11_grid 11 = .ok (.iconst (-1), 1) := by decide +kernel
theorem dX11_grid_12 : decode cX11_grid 12 = .ok (.if_icmp .eq 6, 3) := by decide +kernel
theorem dX11_grid_15 : decode cX11_grid 15 = .ok (.bipush (-4), 2) := by decide +kernel
theorem dX11_grid_17 : decode cX11_grid 17 = .ok (.ireturn, 1) := by decide +kernel
theorem dX11_grid_18 : decode cX11_grid 18 = .ok (.aload_n 0, 1) := by decide +kernel
theorem dX11_grid_19 : decode cX11_grid 19 = .ok (.getfield 10, 3) := by decide +kernel
theorem dX11_grid_22 : decode cX11_grid 22 = .ok (.aload_n 0, 1) := by decide +kernel
theorem dX11_grid_23 : decode cX11_grid 23 = .ok (.getfield 19, 3) := by decide +kernel
theorem dX11_grid_26 : decode cX11_grid 26 = .ok (.getfield 90, 3) := by decide +kernel
theorem dX11_grid_29 : decode cX11_grid 29 = .ok (.invokevirtual 93, 3) := by decide +kernel
theorem dX11_grid_32 : decode cX11_grid 32 = .ok (.aload_n 0, 1) := by decide +kernel
theorem dX11_grid_33 : decode cX11_grid 33 = .ok (.getfield 19, 3) := by decide +kernel
theorem dX11_grid_36 : decode cX11_grid 36 = .ok (.invokevirtual 83, 3) := by decide +kernel
theorem dX11_grid_39 : decode cX11_grid 39 = .ok (.pop, 1) := by decide +kernel
theorem dX11_grid_40 : decode cX11_grid 40 = .ok (.aload_n 0, 1) := by decide +kernel
theorem dX11_grid_41 : decode cX11_grid 41 = .ok (.getfield 26, 3) := by decide +kernel
theorem dX11_grid_44 : decode cX11_grid 44 = .ok (.aload_n 0, 1) := by decide +kernel
theorem dX11_grid_45 : decode cX11_grid 45 = .ok (.getfield 10, 3) := by decide +kernel
theorem dX11_grid_48 : decode cX11_grid 48 = .ok (.invokevirtual 97, 3) := by decide +kernel
theorem dX11_grid_51 : decode cX11_grid 51 = .ok (.aload_n 0, 1) := by decide +kernel
theorem dX11_grid_52 : decode cX11_grid 52 = .ok (.getfield 41, 3) := by decide +kernel
theorem dX11_grid_55 : decode cX11_grid 55 = .ok (.iconst 0, 1) := by decide +kernel
theorem dX11_grid_56 : decode cX11_grid 56 = .ok (.putfield 100, 3) := by decide +kernel
theorem dX11_grid_59 : decode cX11_grid 59 = .ok (.iconst 0, 1) := by decide +kernel
theorem dX11_grid_60 : decode cX11_grid 60 = .ok (.istore_n 1, 1) := by decide +kernel
theorem dX11_grid_61 : decode cX11_grid 61 = .ok (.iload_n 1, 1) := by decide +kernel
theorem dX11_grid_62 : decode cX11_grid 62 = .ok (.iconst 2, 1) := by decide +kernel
theorem dX11_grid_63 : decode cX11_grid 63 = .ok (.if_icmp .ge 16, 3) := by decide +kernel
theorem dX11_grid_66 : decode cX11_grid 66 = .ok (.aload_n 0, 1) := by decide +kernel
theorem dX11_grid_67 : decode cX11_grid 67 = .ok (.getfield 34, 3) := by decide +kernel
theorem dX11_grid_70 : decode cX11_grid 70 = .ok (.iload_n 1, 1) := by decide +kernel
theorem dX11_grid_71 : decode cX11_grid 71 = .ok (.iconst 0, 1) := by decide +kernel
theorem dX11_grid_72 : decode cX11_grid 72 = .ok (.bastore, 1) := by decide +kernel
theorem dX11_grid_73 : decode cX11_grid 73 = .ok (.iinc 1 1, 3) := by decide +kernel
theorem dX11_grid_76 : decode cX11_grid 76 = .ok (.goto (-15), 3) := by decide +kernel
theorem dX11_grid_79 : decode cX11_grid 79 = .ok (.iconst 0, 1) := by decide +kernel
theorem dX11_grid_80 : decode cX11_grid 80 = .ok (.istore_n 1, 1) := by decide +kernel
theorem dX11_grid_81 : decode cX11_grid 81 = .ok (.iload_n 1, 1) := by decide +kernel
theorem dX11_grid_82 : decode cX11_grid 82 = .ok (.iconst 3, 1) := by decide +kernel
theorem dX11_grid_83 : decode cX11_grid 83 = .ok (.if_icmp .ge 18, 3) := by decide +kernel
theorem dX11_grid_86 : decode cX11_grid 86 = .ok (.aload_n 0, 1) := by decide +kernel
theorem dX11_grid_87 : decode cX11_grid 87 = .ok (.getfield 63, 3) := by decide +kernel
theorem dX11_grid_90 : decode cX11_grid 90 = .ok (.iload_n 1, 1) := by decide +kernel
theorem dX11_grid_91 : decode cX11_grid 91 = .ok (.aaload, 1) := by decide +kernel
theorem dX11_grid_92 : decode cX11_grid 92 = .ok (.invokevirtual 103, 3) := by decide +kernel
theorem dX11_grid_95 : decode cX11_grid 95 = .ok (.iinc 1 1, 3) := by decide +kernel
theorem dX11_grid_98 : decode cX11_grid 98 = .ok (.goto (-17), 3) := by decide +kernel
theorem dX11_grid_101 : decode cX11_grid 101 = .ok (.aload_n 0, 1) := by decide +kernel
theorem dX11_grid_102 : decode cX11_grid 102 = .ok (.getfield 50, 3) := by decide +kernel
theorem dX11_grid_105 : decode cX11_grid 105 = .ok (.invokevirtual 68, 3) := by decide +kernel
theorem dX11_grid_108 : decode cX11_grid 108 = .ok (.aload_n 0, 1) := by decide +kernel
theorem dX11_grid_109 : decode cX11_grid 109 = .ok (.getfield 50, 3) := by decide +kernel
theorem dX11_grid_112 : decode cX11_grid 112 = .ok (.invokevirtual 71, 3) := by decide +kernel
theorem dX11_grid_115 : decode cX11_grid 115 = .ok (.pop, 1) := by decide +kernel
theorem dX11_grid_116 : decode cX11_grid 116 = .ok (.aload_n 0, 1) := by decide +kernel
theorem dX11_grid_117 : decode cX11_grid 117 = .ok (.getfield 19, 3) := by decide +kernel
theorem dX11_grid_120 : decode cX11_grid 120 = .ok (.getfield 106, 3) := by decide +kernel
theorem dX11_grid_123 : decode cX11_grid 123 = .ok (.ireturn, 1) := by decide +kernel
theorem dX11_isLine_0 : decode cX11_isLine 0 = .ok (.iload_n 1, 1) := by decide +kernel
theorem dX11_isLine_1 : decode cX11_isLine 1 = .ok (.ifCond .lt 18, 3) := by decide +kernel
theorem dX11_isLine_4 : decode cX11_isLine 4 = .ok (.iload_n 1, 1) := by decide +kernel
theorem dX11_isLine_5 : decode cX11_isLine 5 = .ok (.aload_n 0, 1) := by decide +kernel
theorem dX11_isLine_6 : decode cX11_isLine 6 = .ok (.getfield 10, 3) := by decide +kernel
theorem dX11_isLine_9 : decode cX11_isLine 9 = .ok (.getfield 255, 3) := by decide +kernel
theorem dX11_isLine_12 : decode cX11_isLine 12 = .ok (.if_icmp .ge 7, 3) := by decide +kernel
theorem dX11_isLine_15 : decode cX11_isLine 15 = .ok (.iconst 1, 1) := by decide +kernel
theorem dX11_isLine_16 : decode cX11_isLine 16 = .ok (.goto 4, 3) := by decide +kernel
theorem dX11_isLine_19 : decode cX11_isLine 19 = .ok (.iconst 0, 1) := by decide +kernel
theorem dX11_isLine_20 : decode cX11_isLine 20 = .ok (.ireturn, 1) := by decide +kernel
theorem dX11_line_0 : decode cX11_line 0 = .ok (.aload_n 0, 1) := by decide +kernel
theorem dX11_line_1 : decode cX11_line 1 = .ok (.iload_n 1, 1) := by decide +kernel
theorem dX11_line_2 : decode cX11_line 2 = .ok (.invokevirtual 109, 3) := by decide +kernel
theorem dX11_line_5 : decode cX11_line 5 = .ok (.ifCond .ne 6, 3) := by decide +kernel
theorem dX11_line_8 : decode cX11_line 8 = .ok (.bipush (-2), 2) := by decide +kernel
theorem dX11_line_10 : decode cX11_line 10 = .ok (.ireturn, 1) := by decide +kernel
theorem dX11_line_11 : decode cX11_line 11 = .ok (.iload_n 2, 1) := by decide +kernel
theorem dX11_line_12 : decode cX11_line 12 = .ok (.tableswitch 89 0 4 #[36, 46, 56, 68, 80], 36) := by decide +kernel
theorem dX11_line_48 : decode cX11_line 48 = .ok (.aload_n 0, 1) := by decide +kernel
theorem dX11_line_49 : decode cX11_line 49 = .ok (.getfield 10, 3) := by decide +kernel
theorem dX11_line_52 : decode cX11_line 52 = .ok (.getfield 113, 3) := by decide +kernel
theorem dX11_line_55 : decode cX11_line 55 = .ok (.iload_n 1, 1) := by decide +kernel
theorem dX11_line_56 : decode cX11_line 56 = .ok (.iaload, 1) := by decide +kernel
theorem dX11_line_57 : decode cX11_line 57 = .ok (.ireturn, 1) := by decide +kernel
theorem dX11_line_58 : decode cX11_line 58 = .ok (.aload_n 0, 1) := by decide +kernel
theorem dX11_line_59 : decode cX11_line 59 = .ok (.getfield 10, 3) := by decide +kernel
theorem dX11_line_62 : decode cX11_line 62 = .ok (.getfield 117, 3) := by decide +kernel
theorem dX11_line_65 : decode cX11_line 65 = .ok (.iload_n 1, 1) := by decide +kernel
theorem dX11_line_66 : decode cX11_line 66 = .ok (.iaload, 1) := by decide +kernel
theorem dX11_line_67 : decode cX11_line 67 = .ok (.ireturn, 1) := by decide +kernel
theorem dX11_line_68 : decode cX11_line 68 = .ok (.aload_n 0, 1) := by decide +kernel
theorem dX11_line_69 : decode cX11_line 69 = .ok (.getfield 26, 3) := by decide +kernel
theorem dX11_line_72 : decode cX11_line 72 = .ok (.getfield 120, 3) := by decide +kernel
theorem dX11_line_75 : decode cX11_line 75 = .ok (.iload_n 1, 1) := by decide +kernel
theorem dX11_line_76 : decode cX11_line 76 = .ok (.ishr, 1) := by decide +kernel
theorem dX11_line_77 : decode cX11_line 77 = .ok (.iconst 1, 1) := by decide +kernel
theorem dX11_line_78 : decode cX11_line 78 = .ok (.iand, 1) := by decide +kernel
theorem dX11_line_79 : decode cX11_line 79 = .ok (.ireturn, 1) := by decide +kernel
theorem dX11_line_80 : decode cX11_line 80 = .ok (.aload_n 0, 1) := by decide +kernel
theorem dX11_line_81 : decode cX11_line 81 = .ok (.getfield 50, 3) := by decide +kernel
theorem dX11_line_84 : decode cX11_line 84 = .ok (.getfield 123, 3) := by decide +kernel
theorem dX11_line_87 : decode cX11_line 87 = .ok (.iload_n 1, 1) := by decide +kernel
theorem dX11_line_88 : decode cX11_line 88 = .ok (.ishr, 1) := by decide +kernel
theorem dX11_line_89 : decode cX11_line 89 = .ok (.iconst 1, 1) := by decide +kernel
theorem dX11_line_90 : decode cX11_line 90 = .ok (.iand, 1) := by decide +kernel
theorem dX11_line_91 : decode cX11_line 91 = .ok (.ireturn, 1) := by decide +kernel
theorem dX11_line_92 : decode cX11_line 92 = .ok (.aload_n 0, 1) := by decide +kernel
theorem dX11_line_93 : decode cX11_line 93 = .ok (.getfield 50, 3) := by decide +kernel
theorem dX11_line_96 : decode cX11_line 96 = .ok (.iload_n 1, 1) := by decide +kernel
theorem dX11_line_97 : decode cX11_line 97 = .ok (.invokevirtual 126, 3) := by decide +kernel
theorem dX11_line_100 : decode cX11_line 100 = .ok (.ireturn, 1) := by decide +kernel
theorem dX11_line_101 : decode cX11_line 101 = .ok (.bipush (-3), 2) := by decide +kernel
theorem dX11_line_103 : decode cX11_line 103 = .ok (.ireturn, 1) := by decide +kernel
theorem dX11_isMeter_0 : decode cX11_isMeter 0 = .ok (.iload_n 1, 1) := by decide +kernel
theorem dX11_isMeter_1 : decode cX11_isMeter 1 = .ok (.ifCond .lt 18, 3) := by decide +kernel
theorem dX11_isMeter_4 : decode cX11_isMeter 4 = .ok (.iload_n 1, 1) := by decide +kernel
theorem dX11_isMeter_5 : decode cX11_isMeter 5 = .ok (.aload_n 0, 1) := by decide +kernel
theorem dX11_isMeter_6 : decode cX11_isMeter 6 = .ok (.getfield 26, 3) := by decide +kernel
theorem dX11_isMeter_9 : decode cX11_isMeter 9 = .ok (.getfield 170, 3) := by decide +kernel
theorem dX11_isMeter_12 : decode cX11_isMeter 12 = .ok (.if_icmp .ge 7, 3) := by decide +kernel
theorem dX11_isMeter_15 : decode cX11_isMeter 15 = .ok (.iconst 1, 1) := by decide +kernel
theorem dX11_isMeter_16 : decode cX11_isMeter 16 = .ok (.goto 4, 3) := by decide +kernel
theorem dX11_isMeter_19 : decode cX11_isMeter 19 = .ok (.iconst 0, 1) := by decide +kernel
theorem dX11_isMeter_20 : decode cX11_isMeter 20 = .ok (.ireturn, 1) := by decide +kernel
theorem dX11_meter_0 : decode cX11_meter 0 = .ok (.aload_n 0, 1) := by decide +kernel
theorem dX11_meter_1 : decode cX11_meter 1 = .ok (.iload_n 1, 1) := by decide +kernel
theorem dX11_meter_2 : decode cX11_meter 2 = .ok (.invokevirtual 130, 3) := by decide +kernel
theorem dX11_meter_5 : decode cX11_meter 5 = .ok (.ifCond .ne 6, 3) := by decide +kernel
theorem dX11_meter_8 : decode cX11_meter 8 = .ok (.bipush (-2), 2) := by decide +kernel
theorem dX11_meter_10 : decode cX11_meter 10 = .ok (.ireturn, 1) := by decide +kernel
theorem dX11_meter_11 : decode cX11_meter 11 = .ok (.iload_n 2, 1) := by decide +kernel
theorem dX11_meter_12 : decode cX11_meter 12 = .ok (.tableswitch 108 0 5 #[40, 50, 60, 72, 82, 91], 40) := by decide +kernel
theorem dX11_meter_52 : decode cX11_meter 52 = .ok (.aload_n 0, 1) := by decide +kernel
theorem dX11_meter_53 : decode cX11_meter 53 = .ok (.getfield 26, 3) := by decide +kernel
theorem dX11_meter_56 : decode cX11_meter 56 = .ok (.getfield 133, 3) := by decide +kernel
theorem dX11_meter_59 : decode cX11_meter 59 = .ok (.iload_n 1, 1) := by decide +kernel
theorem dX11_meter_60 : decode cX11_meter 60 = .ok (.iaload, 1) := by decide +kernel
theorem dX11_meter_61 : decode cX11_meter 61 = .ok (.ireturn, 1) := by decide +kernel
theorem dX11_meter_62 : decode cX11_meter 62 = .ok (.aload_n 0, 1) := by decide +kernel
theorem dX11_meter_63 : decode cX11_meter 63 = .ok (.getfield 26, 3) := by decide +kernel
theorem dX11_meter_66 : decode cX11_meter 66 = .ok (.getfield 136, 3) := by decide +kernel
theorem dX11_meter_69 : decode cX11_meter 69 = .ok (.iload_n 1, 1) := by decide +kernel
theorem dX11_meter_70 : decode cX11_meter 70 = .ok (.iaload, 1) := by decide +kernel
theorem dX11_meter_71 : decode cX11_meter 71 = .ok (.ireturn, 1) := by decide +kernel
theorem dX11_meter_72 : decode cX11_meter 72 = .ok (.aload_n 0, 1) := by decide +kernel
theorem dX11_meter_73 : decode cX11_meter 73 = .ok (.getfield 26, 3) := by decide +kernel
theorem dX11_meter_76 : decode cX11_meter 76 = .ok (.getfield 139, 3) := by decide +kernel
theorem dX11_meter_79 : decode cX11_meter 79 = .ok (.iload_n 1, 1) := by decide +kernel
theorem dX11_meter_80 : decode cX11_meter 80 = .ok (.ishr, 1) := by decide +kernel
theorem dX11_meter_81 : decode cX11_meter 81 = .ok (.iconst 1, 1) := by decide +kernel
theorem dX11_meter_82 : decode cX11_meter 82 = .ok (.iand, 1) := by decide +kernel
theorem dX11_meter_83 : decode cX11_meter 83 = .ok (.ireturn, 1) := by decide +kernel
theorem dX11_meter_84 : decode cX11_meter 84 = .ok (.aload_n 0, 1) := by decide +kernel
theorem dX11_meter_85 : decode cX11_meter 85 = .ok (.getfield 50, 3) := by decide +kernel
theorem dX11_meter_88 : decode cX11_meter 88 = .ok (.getfield 142, 3) := by decide +kernel
theorem dX11_meter_91 : decode cX11_meter 91 = .ok (.iload_n 1, 1) := by decide +kernel
theorem dX11_meter_92 : decode cX11_meter 92 = .ok (.iaload, 1) := by decide +kernel
theorem dX11_meter_93 : decode cX11_meter 93 = .ok (.ireturn, 1) := by decide +kernel
theorem dX11_meter_94 : decode cX11_meter 94 = .ok (.aload_n 0, 1) := by decide +kernel
theorem dX11_meter_95 : decode cX11_meter 95 = .ok (.getfield 50, 3) := by decide +kernel
theorem dX11_meter_98 : decode cX11_meter 98 = .ok (.iload_n 1, 1) := by decide +kernel
theorem dX11_meter_99 : decode cX11_meter 99 = .ok (.invokevirtual 145, 3) := by decide +kernel
theorem dX11_meter_102 : decode cX11_meter 102 = .ok (.ireturn, 1) := by decide +kernel
theorem dX11_meter_103 : decode cX11_meter 103 = .ok (.aload_n 0, 1) := by decide +kernel
theorem dX11_meter_104 : decode cX11_meter 104 = .ok (.getfield 50, 3) := by decide +kernel
theorem dX11_meter_107 : decode cX11_meter 107 = .ok (.iload_n 1, 1) := by decide +kernel
theorem dX11_meter_108 : decode cX11_meter 108 = .ok (.invokevirtual 148, 3) := by decide +kernel
theorem dX11_meter_111 : decode cX11_meter 111 = .ok (.ifCond .eq 7, 3) := by decide +kernel
theorem dX11_meter_114 : decode cX11_meter 114 = .ok (.iconst 1, 1) := by decide +kernel
theorem dX11_meter_115 : decode cX11_meter 115 = .ok (.goto 4, 3) := by decide +kernel
theorem dX11_meter_118 : decode cX11_meter 118 = .ok (.iconst 0, 1) := by decide +kernel
theorem dX11_meter_119 : decode cX11_meter 119 = .ok (.ireturn, 1) := by decide +kernel
theorem dX11_meter_120 : decode cX11_meter 120 = .ok (.bipush (-3), 2) := by decide +kernel
theorem dX11_meter_122 : decode cX11_meter 122 = .ok (.ireturn, 1) := by decide +kernel
theorem dX11_offer_0 : decode cX11_offer 0 = .ok (.iload_n 1, 1) := by decide +kernel
theorem dX11_offer_1 : decode cX11_offer 1 = .ok (.ifCond .lt 14, 3) := by decide +kernel
theorem dX11_offer_4 : decode cX11_offer 4 = .ok (.iload_n 1, 1) := by decide +kernel
theorem dX11_offer_5 : decode cX11_offer 5 = .ok (.aload_n 0, 1) := by decide +kernel
theorem dX11_offer_6 : decode cX11_offer 6 = .ok (.getfield 10, 3) := by decide +kernel
theorem dX11_offer_9 : decode cX11_offer 9 = .ok (.getfield 151, 3) := by decide +kernel
theorem dX11_offer_12 : decode cX11_offer 12 = .ok (.if_icmp .lt 6, 3) := by decide +kernel
theorem dX11_offer_15 : decode cX11_offer 15 = .ok (.bipush (-2), 2) := by decide +kernel
theorem dX11_offer_17 : decode cX11_offer 17 = .ok (.ireturn, 1) := by decide +kernel
theorem dX11_offer_18 : decode cX11_offer 18 = .ok (.iload_n 2, 1) := by decide +kernel
theorem dX11_offer_19 : decode cX11_offer 19 = .ok (.tableswitch 85 0 3 #[29, 39, 49, 59], 29) := by decide +kernel
theorem dX11_offer_48 : decode cX11_offer 48 = .ok (.aload_n 0, 1) := by decide +kernel
theorem dX11_offer_49 : decode cX11_offer 49 = .ok (.getfield 10, 3) := by decide +kernel
theorem dX11_offer_52 : decode cX11_offer 52 = .ok (.getfield 154, 3) := by decide +kernel
theorem dX11_offer_55 : decode cX11_offer 55 = .ok (.iload_n 1, 1) := by decide +kernel
theorem dX11_offer_56 : decode cX11_offer 56 = .ok (.iaload, 1) := by decide +kernel
theorem dX11_offer_57 : decode cX11_offer 57 = .ok (.ireturn, 1) := by decide +kernel
theorem dX11_offer_58 : decode cX11_offer 58 = .ok (.aload_n 0, 1) := by decide +kernel
theorem dX11_offer_59 : decode cX11_offer 59 = .ok (.getfield 10, 3) := by decide +kernel
theorem dX11_offer_62 : decode cX11_offer 62 = .ok (.getfield 157, 3) := by decide +kernel
theorem dX11_offer_65 : decode cX11_offer 65 = .ok (.iload_n 1, 1) := by decide +kernel
theorem dX11_offer_66 : decode cX11_offer 66 = .ok (.iaload, 1) := by decide +kernel
theorem dX11_offer_67 : decode cX11_offer 67 = .ok (.ireturn, 1) := by decide +kernel
theorem dX11_offer_68 : decode cX11_offer 68 = .ok (.aload_n 0, 1) := by decide +kernel
theorem dX11_offer_69 : decode cX11_offer 69 = .ok (.getfield 10, 3) := by decide +kernel
theorem dX11_offer_72 : decode cX11_offer 72 = .ok (.getfield 160, 3) := by decide +kernel
theorem dX11_offer_75 : decode cX11_offer 75 = .ok (.iload_n 1, 1) := by decide +kernel
theorem dX11_offer_76 : decode cX11_offer 76 = .ok (.iaload, 1) := by decide +kernel
theorem dX11_offer_77 : decode cX11_offer 77 = .ok (.ireturn, 1) := by decide +kernel
theorem dX11_offer_78 : decode cX11_offer 78 = .ok (.aload_n 0, 1) := by decide +kernel
theorem dX11_offer_79 : decode cX11_offer 79 = .ok (.getfield 50, 3) := by decide +kernel
theorem dX11_offer_82 : decode cX11_offer 82 = .ok (.aload_n 0, 1) := by decide +kernel
theorem dX11_offer_83 : decode cX11_offer 83 = .ok (.getfield 10, 3) := by decide +kernel
theorem dX11_offer_86 : decode cX11_offer 86 = .ok (.getfield 154, 3) := by decide +kernel
theorem dX11_offer_89 : decode cX11_offer 89 = .ok (.iload_n 1, 1) := by decide +kernel
theorem dX11_offer_90 : decode cX11_offer 90 = .ok (.iaload, 1) := by decide +kernel
theorem dX11_offer_91 : decode cX11_offer 91 = .ok (.aload_n 0, 1) := by decide +kernel
theorem dX11_offer_92 : decode cX11_offer 92 = .ok (.getfield 10, 3) := by decide +kernel
theorem dX11_offer_95 : decode cX11_offer 95 = .ok (.getfield 157, 3) := by decide +kernel
theorem dX11_offer_98 : decode cX11_offer 98 = .ok (.iload_n 1, 1) := by decide +kernel
theorem dX11_offer_99 : decode cX11_offer 99 = .ok (.iaload, 1) := by decide +kernel
theorem dX11_offer_100 : decode cX11_offer 100 = .ok (.invokevirtual 163, 3) := by decide +kernel
theorem dX11_offer_103 : decode cX11_offer 103 = .ok (.ireturn, 1) := by decide +kernel
theorem dX11_offer_104 : decode cX11_offer 104 = .ok (.bipush (-3), 2) := by decide +kernel
theorem dX11_offer_106 : decode cX11_offer 106 = .ok (.ireturn, 1) := by decide +kernel
theorem dX11_refusePlace_0 : decode cX11_refusePlace 0 = .ok (.iload_n 1, 1) := by decide +kernel
theorem dX11_refusePlace_1 : decode cX11_refusePlace 1 = .ok (.ifCond .lt 8, 3) := by decide +kernel
theorem dX11_refusePlace_4 : decode cX11_refusePlace 4 = .ok (.iload_n 1, 1) := by decide +kernel
theorem dX11_refusePlace_5 : decode cX11_refusePlace 5 = .ok (.iconst 5, 1) := by decide +kernel
theorem dX11_refusePlace_6 : decode cX11_refusePlace 6 = .ok (.if_icmp .lt 6, 3) := by decide +kernel
theorem dX11_refusePlace_9 : decode cX11_refusePlace 9 = .ok (.bipush (-3), 2) := by decide +kernel
theorem dX11_refusePlace_11 : decode cX11_refusePlace 11 = .ok (.ireturn, 1) := by decide +kernel
theorem dX11_refusePlace_12 : decode cX11_refusePlace 12 = .ok (.aload_n 0, 1) := by decide +kernel
theorem dX11_refusePlace_13 : decode cX11_refusePlace 13 = .ok (.getfield 10, 3) := by decide +kernel
theorem dX11_refusePlace_16 : decode cX11_refusePlace 16 = .ok (.iload_n 1, 1) := by decide +kernel
theorem dX11_refusePlace_17 : decode cX11_refusePlace 17 = .ok (.iload_n 2, 1) := by decide +kernel
theorem dX11_refusePlace_18 : decode cX11_refusePlace 18 = .ok (.invokevirtual 267, 3) := by decide +kernel
theorem dX11_refusePlace_21 : decode cX11_refusePlace 21 = .ok (.ifCond .eq 7, 3) := by decide +kernel
theorem dX11_refusePlace_24 : decode cX11_refusePlace 24 = .ok (.iconst 0, 1) := by decide +kernel
theorem dX11_refusePlace_25 : decode cX11_refusePlace 25 = .ok (.goto 5, 3) := by decide +kernel
theorem dX11_refusePlace_28 : decode cX11_refusePlace 28 = .ok (.bipush (-2), 2) := by decide +kernel
theorem dX11_refusePlace_30 : decode cX11_refusePlace 30 = .ok (.ireturn, 1) := by decide +kernel
theorem dX11_put_0 : decode cX11_put 0 = .ok (.aload_n 0, 1) := by decide +kernel
theorem dX11_put_1 : decode cX11_put 1 = .ok (.iload_n 1, 1) := by decide +kernel
theorem dX11_put_2 : decode cX11_put 2 = .ok (.iload_n 2, 1) := by decide +kernel
theorem dX11_put_3 : decode cX11_put 3 = .ok (.invokevirtual 167, 3) := by decide +kernel
theorem dX11_put_6 : decode cX11_put 6 = .ok (.istore_n 3, 1) := by decide +kernel
theorem dX11_put_7 : decode cX11_put 7 = .ok (.iload_n 3, 1) := by decide +kernel
theorem dX11_put_8 : decode cX11_put 8 = .ok (.ifCond .eq 5, 3) := by decide +kernel
theorem dX11_put_11 : decode cX11_put 11 = .ok (.iload_n 3, 1) := by decide +kernel
theorem dX11_put_12 : decode cX11_put 12 = .ok (.ireturn, 1) := by decide +kernel
theorem dX11_put_13 : decode cX11_put 13 = .ok (.aload_n 0, 1) := by decide +kernel
theorem dX11_put_14 : decode cX11_put 14 = .ok (.getfield 26, 3) := by decide +kernel
theorem dX11_put_17 : decode cX11_put 17 = .ok (.getfield 170, 3) := by decide +kernel
theorem dX11_put_20 : decode cX11_put 20 = .ok (.bipush 9, 2) := by decide +kernel
theorem dX11_put_22 : decode cX11_put 22 = .ok (.if_icmp .lt 6, 3) := by decide +kernel
theorem dX11_put_25 : decode cX11_put 25 = .ok (.bipush (-5), 2) := by decide +kernel
theorem dX11_put_27 : decode cX11_put 27 = .ok (.ireturn, 1) := by decide +kernel
theorem dX11_put_28 : decode cX11_put 28 = .ok (.aload_n 0, 1) := by decide +kernel
theorem dX11_put_29 : decode cX11_put 29 = .ok (.getfield 26, 3) := by decide +kernel
theorem dX11_put_32 : decode cX11_put 32 = .ok (.iload_n 1, 1) := by decide +kernel
theorem dX11_put_33 : decode cX11_put 33 = .ok (.iload_n 2, 1) := by decide +kernel
theorem dX11_put_34 : decode cX11_put 34 = .ok (.invokevirtual 173, 3) := by decide +kernel
theorem dX11_put_37 : decode cX11_put 37 = .ok (.istore 4, 2) := by decide +kernel
theorem dX11_put_39 : decode cX11_put 39 = .ok (.aload_n 0, 1) := by decide +kernel
theorem dX11_put_40 : decode cX11_put 40 = .ok (.getfield 41, 3) := by decide +kernel
theorem dX11_put_43 : decode cX11_put 43 = .ok (.iconst 0, 1) := by decide +kernel
theorem dX11_put_44 : decode cX11_put 44 = .ok (.iload 4, 2) := by decide +kernel
theorem dX11_put_46 : decode cX11_put 46 = .ok (.invokevirtual 176, 3) := by decide +kernel
theorem dX11_put_49 : decode cX11_put 49 = .ok (.aload_n 0, 1) := by decide +kernel
theorem dX11_put_50 : decode cX11_put 50 = .ok (.getfield 50, 3) := by decide +kernel
theorem dX11_put_53 : decode cX11_put 53 = .ok (.invokevirtual 71, 3) := by decide +kernel
theorem dX11_put_56 : decode cX11_put 56 = .ok (.pop, 1) := by decide +kernel
theorem dX11_put_57 : decode cX11_put 57 = .ok (.iload 4, 2) := by decide +kernel
theorem dX11_put_59 : decode cX11_put 59 = .ok (.ireturn, 1) := by decide +kernel
theorem dX11_spoil_0 : decode cX11_spoil 0 = .ok (.aload_n 0, 1) := by decide +kernel
theorem dX11_spoil_1 : decode cX11_spoil 1 = .ok (.iload_n 1, 1) := by decide +kernel
theorem dX11_spoil_2 : decode cX11_spoil 2 = .ok (.invokevirtual 130, 3) := by decide +kernel
theorem dX11_spoil_5 : decode cX11_spoil 5 = .ok (.ifCond .ne 6, 3) := by decide +kernel
theorem dX11_spoil_8 : decode cX11_spoil 8 = .ok (.bipush (-2), 2) := by decide +kernel
theorem dX11_spoil_10 : decode cX11_spoil 10 = .ok (.ireturn, 1) := by decide +kernel
theorem dX11_spoil_11 : decode cX11_spoil 11 = .ok (.aload_n 0, 1) := by decide +kernel
theorem dX11_spoil_12 : decode cX11_spoil 12 = .ok (.getfield 26, 3) := by decide +kernel
theorem dX11_spoil_15 : decode cX11_spoil 15 = .ok (.getfield 139, 3) := by decide +kernel
theorem dX11_spoil_18 : decode cX11_spoil 18 = .ok (.iload_n 1, 1) := by decide +kernel
theorem dX11_spoil_19 : decode cX11_spoil 19 = .ok (.ishr, 1) := by decide +kernel
theorem dX11_spoil_20 : decode cX11_spoil 20 = .ok (.iconst 1, 1) := by decide +kernel
theorem dX11_spoil_21 : decode cX11_spoil 21 = .ok (.iand, 1) := by decide +kernel
theorem dX11_spoil_22 : decode cX11_spoil 22 = .ok (.iconst 1, 1) := by decide +kernel
theorem dX11_spoil_23 : decode cX11_spoil 23 = .ok (.if_icmp .ne 6, 3) := by decide +kernel
theorem dX11_spoil_26 : decode cX11_spoil 26 = .ok (.bipush (-4), 2) := by decide +kernel
theorem dX11_spoil_28 : decode cX11_spoil 28 = .ok (.ireturn, 1) := by decide +kernel
theorem dX11_spoil_29 : decode cX11_spoil 29 = .ok (.aload_n 0, 1) := by decide +kernel
theorem dX11_spoil_30 : decode cX11_spoil 30 = .ok (.getfield 26, 3) := by decide +kernel
theorem dX11_spoil_33 : decode cX11_spoil 33 = .ok (.dup, 1) := by decide +kernel
theorem dX11_spoil_34 : decode cX11_spoil 34 = .ok (.getfield 139, 3) := by decide +kernel
theorem dX11_spoil_37 : decode cX11_spoil 37 = .ok (.iconst 1, 1) := by decide +kernel
theorem dX11_spoil_38 : decode cX11_spoil 38 = .ok (.iload_n 1, 1) := by decide +kernel
theorem dX11_spoil_39 : decode cX11_spoil 39 = .ok (.ishl, 1) := by decide +kernel
theorem dX11_spoil_40 : decode cX11_spoil 40 = .ok (.ior, 1) := by decide +kernel
theorem dX11_spoil_41 : decode cX11_spoil 41 = .ok (.putfield 139, 3) := by decide +kernel
theorem dX11_spoil_44 : decode cX11_spoil 44 = .ok (.aload_n 0, 1) := by decide +kernel
theorem dX11_spoil_45 : decode cX11_spoil 45 = .ok (.getfield 41, 3) := by decide +kernel
theorem dX11_spoil_48 : decode cX11_spoil 48 = .ok (.iconst 1, 1) := by decide +kernel
theorem dX11_spoil_49 : decode cX11_spoil 49 = .ok (.iload_n 1, 1) := by decide +kernel
theorem dX11_spoil_50 : decode cX11_spoil 50 = .ok (.invokevirtual 176, 3) := by decide +kernel
theorem dX11_spoil_53 : decode cX11_spoil 53 = .ok (.aload_n 0, 1) := by decide +kernel
theorem dX11_spoil_54 : decode cX11_spoil 54 = .ok (.getfield 50, 3) := by decide +kernel
theorem dX11_spoil_57 : decode cX11_spoil 57 = .ok (.invokevirtual 71, 3) := by decide +kernel
theorem dX11_spoil_60 : decode cX11_spoil 60 = .ok (.ireturn, 1) := by decide +kernel
theorem dX11_mend_0 : decode cX11_mend 0 = .ok (.aload_n 0, 1) := by decide +kernel
theorem dX11_mend_1 : decode cX11_mend 1 = .ok (.iload_n 1, 1) := by decide +kernel
theorem dX11_mend_2 : decode cX11_mend 2 = .ok (.invokevirtual 130, 3) := by decide +kernel
theorem dX11_mend_5 : decode cX11_mend 5 = .ok (.ifCond .ne 6, 3) := by decide +kernel
theorem dX11_mend_8 : decode cX11_mend 8 = .ok (.bipush (-2), 2) := by decide +kernel
theorem dX11_mend_10 : decode cX11_mend 10 = .ok (.ireturn, 1) := by decide +kernel
theorem dX11_mend_11 : decode cX11_mend 11 = .ok (.aload_n 0, 1) := by decide +kernel
theorem dX11_mend_12 : decode cX11_mend 12 = .ok (.getfield 26, 3) := by decide +kernel
theorem dX11_mend_15 : decode cX11_mend 15 = .ok (.getfield 139, 3) := by decide +kernel
theorem dX11_mend_18 : decode cX11_mend 18 = .ok (.iload_n 1, 1) := by decide +kernel
theorem dX11_mend_19 : decode cX11_mend 19 = .ok (.ishr, 1) := by decide +kernel
theorem dX11_mend_20 : decode cX11_mend 20 = .ok (.iconst 1, 1) := by decide +kernel
theorem dX11_mend_21 : decode cX11_mend 21 = .ok (.iand, 1) := by decide +kernel
theorem dX11_mend_22 : decode cX11_mend 22 = .ok (.ifCond .ne 6, 3) := by decide +kernel
theorem dX11_mend_25 : decode cX11_mend 25 = .ok (.bipush (-4), 2) := by decide +kernel
theorem dX11_mend_27 : decode cX11_mend 27 = .ok (.ireturn, 1) := by decide +kernel
theorem dX11_mend_28 : decode cX11_mend 28 = .ok (.aload_n 0, 1) := by decide +kernel
theorem dX11_mend_29 : decode cX11_mend 29 = .ok (.getfield 26, 3) := by decide +kernel
theorem dX11_mend_32 : decode cX11_mend 32 = .ok (.dup, 1) := by decide +kernel
theorem dX11_mend_33 : decode cX11_mend 33 = .ok (.getfield 139, 3) := by decide +kernel
theorem dX11_mend_36 : decode cX11_mend 36 = .ok (.iconst 1, 1) := by decide +kernel
theorem dX11_mend_37 : decode cX11_mend 37 = .ok (.iload_n 1, 1) := by decide +kernel
theorem dX11_mend_38 : decode cX11_mend 38 = .ok (.ishl, 1) := by decide +kernel
theorem dX11_mend_39 : decode cX11_mend 39 = .ok (.iconst (-1), 1) := by decide +kernel
theorem dX11_mend_40 : decode cX11_mend 40 = .ok (.ixor, 1) := by decide +kernel
theorem dX11_mend_41 : decode cX11_mend 41 = .ok (.iand, 1) := by decide +kernel
theorem dX11_mend_42 : decode cX11_mend 42 = .ok (.putfield 139, 3) := by decide +kernel
theorem dX11_mend_45 : decode cX11_mend 45 = .ok (.aload_n 0, 1) := by decide +kernel
theorem dX11_mend_46 : decode cX11_mend 46 = .ok (.getfield 41, 3) := by decide +kernel
theorem dX11_mend_49 : decode cX11_mend 49 = .ok (.iconst 2, 1) := by decide +kernel
theorem dX11_mend_50 : decode cX11_mend 50 = .ok (.iload_n 1, 1) := by decide +kernel
theorem dX11_mend_51 : decode cX11_mend 51 = .ok (.invokevirtual 176, 3) := by decide +kernel
theorem dX11_mend_54 : decode cX11_mend 54 = .ok (.aload_n 0, 1) := by decide +kernel
theorem dX11_mend_55 : decode cX11_mend 55 = .ok (.getfield 50, 3) := by decide +kernel
theorem dX11_mend_58 : decode cX11_mend 58 = .ok (.invokevirtual 71, 3) := by decide +kernel
theorem dX11_mend_61 : decode cX11_mend 61 = .ok (.ireturn, 1) := by decide +kernel
theorem dX11_cut_0 : decode cX11_cut 0 = .ok (.aload_n 0, 1) := by decide +kernel
theorem dX11_cut_1 : decode cX11_cut 1 = .ok (.iload_n 1, 1) := by decide +kernel
theorem dX11_cut_2 : decode cX11_cut 2 = .ok (.invokevirtual 109, 3) := by decide +kernel
theorem dX11_cut_5 : decode cX11_cut 5 = .ok (.ifCond .ne 6, 3) := by decide +kernel
theorem dX11_cut_8 : decode cX11_cut 8 = .ok (.bipush (-2), 2) := by decide +kernel
theorem dX11_cut_10 : decode cX11_cut 10 = .ok (.ireturn, 1) := by decide +kernel
theorem dX11_cut_11 : decode cX11_cut 11 = .ok (.aload_n 0, 1) := by decide +kernel
theorem dX11_cut_12 : decode cX11_cut 12 = .ok (.getfield 26, 3) := by decide +kernel
theorem dX11_cut_15 : decode cX11_cut 15 = .ok (.getfield 120, 3) := by decide +kernel
theorem dX11_cut_18 : decode cX11_cut 18 = .ok (.iload_n 1, 1) := by decide +kernel
theorem dX11_cut_19 : decode cX11_cut 19 = .ok (.ishr, 1) := by decide +kernel
theorem dX11_cut_20 : decode cX11_cut 20 = .ok (.iconst 1, 1) := by decide +kernel
theorem dX11_cut_21 : decode cX11_cut 21 = .ok (.iand, 1) := by decide +kernel
theorem dX11_cut_22 : decode cX11_cut 22 = .ok (.iconst 1, 1) := by decide +kernel
theorem dX11_cut_23 : decode cX11_cut 23 = .ok (.if_icmp .ne 6, 3) := by decide +kernel
theorem dX11_cut_26 : decode cX11_cut 26 = .ok (.bipush (-4), 2) := by decide +kernel
theorem dX11_cut_28 : decode cX11_cut 28 = .ok (.ireturn, 1) := by decide +kernel
theorem dX11_cut_29 : decode cX11_cut 29 = .ok (.aload_n 0, 1) := by decide +kernel
theorem dX11_cut_30 : decode cX11_cut 30 = .ok (.getfield 26, 3) := by decide +kernel
theorem dX11_cut_33 : decode cX11_cut 33 = .ok (.dup, 1) := by decide +kernel
theorem dX11_cut_34 : decode cX11_cut 34 = .ok (.getfield 120, 3) := by decide +kernel
theorem dX11_cut_37 : decode cX11_cut 37 = .ok (.iconst 1, 1) := by decide +kernel
theorem dX11_cut_38 : decode cX11_cut 38 = .ok (.iload_n 1, 1) := by decide +kernel
theorem dX11_cut_39 : decode cX11_cut 39 = .ok (.ishl, 1) := by decide +kernel
theorem dX11_cut_40 : decode cX11_cut 40 = .ok (.ior, 1) := by decide +kernel
theorem dX11_cut_41 : decode cX11_cut 41 = .ok (.putfield 120, 3) := by decide +kernel
theorem dX11_cut_44 : decode cX11_cut 44 = .ok (.aload_n 0, 1) := by decide +kernel
theorem dX11_cut_45 : decode cX11_cut 45 = .ok (.getfield 41, 3) := by decide +kernel
theorem dX11_cut_48 : decode cX11_cut 48 = .ok (.iconst 3, 1) := by decide +kernel
theorem dX11_cut_49 : decode cX11_cut 49 = .ok (.iload_n 1, 1) := by decide +kernel
theorem dX11_cut_50 : decode cX11_cut 50 = .ok (.invokevirtual 176, 3) := by decide +kernel
theorem dX11_cut_53 : decode cX11_cut 53 = .ok (.aload_n 0, 1) := by decide +kernel
theorem dX11_cut_54 : decode cX11_cut 54 = .ok (.getfield 50, 3) := by decide +kernel
theorem dX11_cut_57 : decode cX11_cut 57 = .ok (.invokevirtual 71, 3) := by decide +kernel
theorem dX11_cut_60 : decode cX11_cut 60 = .ok (.ireturn, 1) := by decide +kernel
theorem dX11_undo_0 : decode cX11_undo 0 = .ok (.aload_n 0, 1) := by decide +kernel
theorem dX11_undo_1 : decode cX11_undo 1 = .ok (.getfield 41, 3) := by decide +kernel
theorem dX11_undo_4 : decode cX11_undo 4 = .ok (.getfield 100, 3) := by decide +kernel
theorem dX11_undo_7 : decode cX11_undo 7 = .ok (.ifCond .gt 6, 3) := by decide +kernel
theorem dX11_undo_10 : decode cX11_undo 10 = .ok (.bipush (-4), 2) := by decide +kernel
theorem dX11_undo_12 : decode cX11_undo 12 = .ok (.ireturn, 1) := by decide +kernel
theorem dX11_undo_13 : decode cX11_undo 13 = .ok (.aload_n 0, 1) := by decide +kernel
theorem dX11_undo_14 : decode cX11_undo 14 = .ok (.getfield 41, 3) := by decide +kernel
theorem dX11_undo_17 : decode cX11_undo 17 = .ok (.aload_n 0, 1) := by decide +kernel
theorem dX11_undo_18 : decode cX11_undo 18 = .ok (.getfield 26, 3) := by decide +kernel
theorem dX11_undo_21 : decode cX11_undo 21 = .ok (.invokevirtual 180, 3) := by decide +kernel
theorem dX11_undo_24 : decode cX11_undo 24 = .ok (.aload_n 0, 1) := by decide +kernel
theorem dX11_undo_25 : decode cX11_undo 25 = .ok (.getfield 50, 3) := by decide +kernel
theorem dX11_undo_28 : decode cX11_undo 28 = .ok (.invokevirtual 71, 3) := by decide +kernel
theorem dX11_undo_31 : decode cX11_undo 31 = .ok (.pop, 1) := by decide +kernel
theorem dX11_undo_32 : decode cX11_undo 32 = .ok (.aload_n 0, 1) := by decide +kernel
theorem dX11_undo_33 : decode cX11_undo 33 = .ok (.getfield 41, 3) := by decide +kernel
theorem dX11_undo_36 : decode cX11_undo 36 = .ok (.getfield 100, 3) := by decide +kernel
theorem dX11_undo_39 : decode cX11_undo 39 = .ok (.ireturn, 1) := by decide +kernel
theorem dX11_keep_0 : decode cX11_keep 0 = .ok (.iload_n 1, 1) := by decide +kernel
theorem dX11_keep_1 : decode cX11_keep 1 = .ok (.ifCond .lt 8, 3) := by decide +kernel
theorem dX11_keep_4 : decode cX11_keep 4 = .ok (.iload_n 1, 1) := by decide +kernel
theorem dX11_keep_5 : decode cX11_keep 5 = .ok (.iconst 2, 1) := by decide +kernel
theorem dX11_keep_6 : decode cX11_keep 6 = .ok (.if_icmp .lt 6, 3) := by decide +kernel
theorem dX11_keep_9 : decode cX11_keep 9 = .ok (.bipush (-2), 2) := by decide +kernel
theorem dX11_keep_11 : decode cX11_keep 11 = .ok (.ireturn, 1) := by decide +kernel
theorem dX11_keep_12 : decode cX11_keep 12 = .ok (.aload_n 0, 1) := by decide +kernel
theorem dX11_keep_13 : decode cX11_keep 13 = .ok (.getfield 30, 3) := by decide +kernel
theorem dX11_keep_16 : decode cX11_keep 16 = .ok (.iload_n 1, 1) := by decide +kernel
theorem dX11_keep_17 : decode cX11_keep 17 = .ok (.aaload, 1) := by decide +kernel
theorem dX11_keep_18 : decode cX11_keep 18 = .ok (.aload_n 0, 1) := by decide +kernel
theorem dX11_keep_19 : decode cX11_keep 19 = .ok (.getfield 26, 3) := by decide +kernel
theorem dX11_keep_22 : decode cX11_keep 22 = .ok (.invokevirtual 184, 3) := by decide +kernel
theorem dX11_keep_25 : decode cX11_keep 25 = .ok (.aload_n 0, 1) := by decide +kernel
theorem dX11_keep_26 : decode cX11_keep 26 = .ok (.getfield 34, 3) := by decide +kernel
theorem dX11_keep_29 : decode cX11_keep 29 = .ok (.iload_n 1, 1) := by decide +kernel
theorem dX11_keep_30 : decode cX11_keep 30 = .ok (.iconst 1, 1) := by decide +kernel
theorem dX11_keep_31 : decode cX11_keep 31 = .ok (.bastore, 1) := by decide +kernel
theorem dX11_keep_32 : decode cX11_keep 32 = .ok (.aload_n 0, 1) := by decide +kernel
theorem dX11_keep_33 : decode cX11_keep 33 = .ok (.getfield 50, 3) := by decide +kernel
theorem dX11_keep_36 : decode cX11_keep 36 = .ok (.getfield 186, 3) := by decide +kernel
theorem dX11_keep_39 : decode cX11_keep 39 = .ok (.ireturn, 1) := by decide +kernel
theorem dX11_back_0 : decode cX11_back 0 = .ok (.iload_n 1, 1) := by decide +kernel
theorem dX11_back_1 : decode cX11_back 1 = .ok (.ifCond .lt 8, 3) := by decide +kernel
theorem dX11_back_4 : decode cX11_back 4 = .ok (.iload_n 1, 1) := by decide +kernel
theorem dX11_back_5 : decode cX11_back 5 = .ok (.iconst 2, 1) := by decide +kernel
theorem dX11_back_6 : decode cX11_back 6 = .ok (.if_icmp .lt 6, 3) := by decide +kernel
theorem dX11_back_9 : decode cX11_back 9 = .ok (.bipush (-2), 2) := by decide +kernel
theorem dX11_back_11 : decode cX11_back 11 = .ok (.ireturn, 1) := by decide +kernel
theorem dX11_back_12 : decode cX11_back 12 = .ok (.aload_n 0, 1) := by decide +kernel
theorem dX11_back_13 : decode cX11_back 13 = .ok (.getfield 34, 3) := by decide +kernel
theorem dX11_back_16 : decode cX11_back 16 = .ok (.iload_n 1, 1) := by decide +kernel
theorem dX11_back_17 : decode cX11_back 17 = .ok (.baload, 1) := by decide +kernel
theorem dX11_back_18 : decode cX11_back 18 = .ok (.ifCond .ne 6, 3) := by decide +kernel
theorem dX11_back_21 : decode cX11_back 21 = .ok (.bipush (-4), 2) := by decide +kernel
theorem dX11_back_23 : decode cX11_back 23 = .ok (.ireturn, 1) := by decide +kernel
theorem dX11_back_24 : decode cX11_back 24 = .ok (.aload_n 0, 1) := by decide +kernel
theorem dX11_back_25 : decode cX11_back 25 = .ok (.getfield 26, 3) := by decide +kernel
theorem dX11_back_28 : decode cX11_back 28 = .ok (.aload_n 0, 1) := by decide +kernel
theorem dX11_back_29 : decode cX11_back 29 = .ok (.getfield 30, 3) := by decide +kernel
theorem dX11_back_32 : decode cX11_back 32 = .ok (.iload_n 1, 1) := by decide +kernel
theorem dX11_back_33 : decode cX11_back 33 = .ok (.aaload, 1) := by decide +kernel
theorem dX11_back_34 : decode cX11_back 34 = .ok (.invokevirtual 184, 3) := by decide +kernel
theorem dX11_back_37 : decode cX11_back 37 = .ok (.aload_n 0, 1) := by decide +kernel
theorem dX11_back_38 : decode cX11_back 38 = .ok (.getfield 41, 3) := by decide +kernel
theorem dX11_back_41 : decode cX11_back 41 = .ok (.iconst 0, 1) := by decide +kernel
theorem dX11_back_42 : decode cX11_back 42 = .ok (.putfield 100, 3) := by decide +kernel
theorem dX11_back_45 : decode cX11_back 45 = .ok (.aload_n 0, 1) := by decide +kernel
theorem dX11_back_46 : decode cX11_back 46 = .ok (.getfield 50, 3) := by decide +kernel
theorem dX11_back_49 : decode cX11_back 49 = .ok (.invokevirtual 71, 3) := by decide +kernel
theorem dX11_back_52 : decode cX11_back 52 = .ok (.ireturn, 1) := by decide +kernel
theorem dX11_island_0 : decode cX11_island 0 = .ok (.iload_n 1, 1) := by decide +kernel
theorem dX11_island_1 : decode cX11_island 1 = .ok (.ifCond .lt 14, 3) := by decide +kernel
theorem dX11_island_4 : decode cX11_island 4 = .ok (.iload_n 1, 1) := by decide +kernel
theorem dX11_island_5 : decode cX11_island 5 = .ok (.aload_n 0, 1) := by decide +kernel
theorem dX11_island_6 : decode cX11_island 6 = .ok (.getfield 10, 3) := by decide +kernel
theorem dX11_island_9 : decode cX11_island 9 = .ok (.getfield 189, 3) := by decide +kernel
theorem dX11_island_12 : decode cX11_island 12 = .ok (.if_icmp .lt 6, 3) := by decide +kernel
theorem dX11_island_15 : decode cX11_island 15 = .ok (.bipush (-2), 2) := by decide +kernel
theorem dX11_island_17 : decode cX11_island 17 = .ok (.ireturn, 1) := by decide +kernel
theorem dX11_island_18 : decode cX11_island 18 = .ok (.aload_n 0, 1) := by decide +kernel
theorem dX11_island_19 : decode cX11_island 19 = .ok (.getfield 50, 3) := by decide +kernel
theorem dX11_island_22 : decode cX11_island 22 = .ok (.iload_n 1, 1) := by decide +kernel
theorem dX11_island_23 : decode cX11_island 23 = .ok (.invokevirtual 192, 3) := by decide +kernel
theorem dX11_island_26 : decode cX11_island 26 = .ok (.ireturn, 1) := by decide +kernel
theorem dX11_weak_0 : decode cX11_weak 0 = .ok (.iload_n 1, 1) := by decide +kernel
theorem dX11_weak_1 : decode cX11_weak 1 = .ok (.ifCond .eq 11, 3) := by decide +kernel
theorem dX11_weak_4 : decode cX11_weak 4 = .ok (.iload_n 1, 1) := by decide +kernel
theorem dX11_weak_5 : decode cX11_weak 5 = .ok (.iconst 1, 1) := by decide +kernel
theorem dX11_weak_6 : decode cX11_weak 6 = .ok (.if_icmp .eq 6, 3) := by decide +kernel
theorem dX11_weak_9 : decode cX11_weak 9 = .ok (.bipush (-3), 2) := by decide +kernel
theorem dX11_weak_11 : decode cX11_weak 11 = .ok (.ireturn, 1) := by decide +kernel
theorem dX11_weak_12 : decode cX11_weak 12 = .ok (.aload_n 0, 1) := by decide +kernel
theorem dX11_weak_13 : decode cX11_weak 13 = .ok (.getfield 50, 3) := by decide +kernel
theorem dX11_weak_16 : decode cX11_weak 16 = .ok (.invokevirtual 195, 3) := by decide +kernel
theorem dX11_weak_19 : decode cX11_weak 19 = .ok (.istore_n 2, 1) := by decide +kernel
theorem dX11_weak_20 : decode cX11_weak 20 = .ok (.iload_n 2, 1) := by decide +kernel
theorem dX11_weak_21 : decode cX11_weak 21 = .ok (.iconst (-1), 1) := by decide +kernel
theorem dX11_weak_22 : decode cX11_weak 22 = .ok (.if_icmp .eq 7, 3) := by decide +kernel
theorem dX11_weak_25 : decode cX11_weak 25 = .ok (.iload_n 1, 1) := by decide +kernel
theorem dX11_weak_26 : decode cX11_weak 26 = .ok (.ifCond .ne 7, 3) := by decide +kernel
theorem dX11_weak_29 : decode cX11_weak 29 = .ok (.iload_n 2, 1) := by decide +kernel
theorem dX11_weak_30 : decode cX11_weak 30 = .ok (.goto 7, 3) := by decide +kernel
theorem dX11_weak_33 : decode cX11_weak 33 = .ok (.iload_n 2, 1) := by decide +kernel
theorem dX11_weak_34 : decode cX11_weak 34 = .ok (.invokestatic 198, 3) := by decide +kernel
theorem dX11_weak_37 : decode cX11_weak 37 = .ok (.ireturn, 1) := by decide +kernel
theorem dX11_deal_0 : decode cX11_deal 0 = .ok (.iload_n 1, 1) := by decide +kernel
theorem dX11_deal_1 : decode cX11_deal 1 = .ok (.ifCond .eq 11, 3) := by decide +kernel
theorem dX11_deal_4 : decode cX11_deal 4 = .ok (.iload_n 1, 1) := by decide +kernel
theorem dX11_deal_5 : decode cX11_deal 5 = .ok (.iconst 1, 1) := by decide +kernel
theorem dX11_deal_6 : decode cX11_deal 6 = .ok (.if_icmp .eq 6, 3) := by decide +kernel
theorem dX11_deal_9 : decode cX11_deal 9 = .ok (.bipush (-3), 2) := by decide +kernel
theorem dX11_deal_11 : decode cX11_deal 11 = .ok (.ireturn, 1) := by decide +kernel
theorem dX11_deal_12 : decode cX11_deal 12 = .ok (.aload_n 0, 1) := by decide +kernel
theorem dX11_deal_13 : decode cX11_deal 13 = .ok (.getfield 50, 3) := by decide +kernel
theorem dX11_deal_16 : decode cX11_deal 16 = .ok (.invokevirtual 203, 3) := by decide +kernel
theorem dX11_deal_19 : decode cX11_deal 19 = .ok (.istore_n 2, 1) := by decide +kernel
theorem dX11_deal_20 : decode cX11_deal 20 = .ok (.iload_n 2, 1) := by decide +kernel
theorem dX11_deal_21 : decode cX11_deal 21 = .ok (.iconst (-1), 1) := by decide +kernel
theorem dX11_deal_22 : decode cX11_deal 22 = .ok (.if_icmp .eq 7, 3) := by decide +kernel
theorem dX11_deal_25 : decode cX11_deal 25 = .ok (.iload_n 1, 1) := by decide +kernel
theorem dX11_deal_26 : decode cX11_deal 26 = .ok (.ifCond .ne 7, 3) := by decide +kernel
theorem dX11_deal_29 : decode cX11_deal 29 = .ok (.iload_n 2, 1) := by decide +kernel
theorem dX11_deal_30 : decode cX11_deal 30 = .ok (.goto 11, 3) := by decide +kernel
theorem dX11_deal_33 : decode cX11_deal 33 = .ok (.aload_n 0, 1) := by decide +kernel
theorem dX11_deal_34 : decode cX11_deal 34 = .ok (.getfield 10, 3) := by decide +kernel
theorem dX11_deal_37 : decode cX11_deal 37 = .ok (.iload_n 2, 1) := by decide +kernel
theorem dX11_deal_38 : decode cX11_deal 38 = .ok (.invokevirtual 206, 3) := by decide +kernel
theorem dX11_deal_41 : decode cX11_deal 41 = .ok (.ireturn, 1) := by decide +kernel
theorem dX11_lost_0 : decode cX11_lost 0 = .ok (.aload_n 0, 1) := by decide +kernel
theorem dX11_lost_1 : decode cX11_lost 1 = .ok (.iload_n 1, 1) := by decide +kernel
theorem dX11_lost_2 : decode cX11_lost 2 = .ok (.invokevirtual 109, 3) := by decide +kernel
theorem dX11_lost_5 : decode cX11_lost 5 = .ok (.ifCond .ne 6, 3) := by decide +kernel
theorem dX11_lost_8 : decode cX11_lost 8 = .ok (.bipush (-2), 2) := by decide +kernel
theorem dX11_lost_10 : decode cX11_lost 10 = .ok (.ireturn, 1) := by decide +kernel
theorem dX11_lost_11 : decode cX11_lost 11 = .ok (.aload_n 0, 1) := by decide +kernel
theorem dX11_lost_12 : decode cX11_lost 12 = .ok (.getfield 26, 3) := by decide +kernel
theorem dX11_lost_15 : decode cX11_lost 15 = .ok (.getfield 120, 3) := by decide +kernel
theorem dX11_lost_18 : decode cX11_lost 18 = .ok (.iload_n 1, 1) := by decide +kernel
theorem dX11_lost_19 : decode cX11_lost 19 = .ok (.ishr, 1) := by decide +kernel
theorem dX11_lost_20 : decode cX11_lost 20 = .ok (.iconst 1, 1) := by decide +kernel
theorem dX11_lost_21 : decode cX11_lost 21 = .ok (.iand, 1) := by decide +kernel
theorem dX11_lost_22 : decode cX11_lost 22 = .ok (.iconst 1, 1) := by decide +kernel
theorem dX11_lost_23 : decode cX11_lost 23 = .ok (.if_icmp .ne 6, 3) := by decide +kernel
theorem dX11_lost_26 : decode cX11_lost 26 = .ok (.bipush (-4), 2) := by decide +kernel
theorem dX11_lost_28 : decode cX11_lost 28 = .ok (.ireturn, 1) := by decide +kernel
theorem dX11_lost_29 : decode cX11_lost 29 = .ok (.aload_n 0, 1) := by decide +kernel
theorem dX11_lost_30 : decode cX11_lost 30 = .ok (.getfield 50, 3) := by decide +kernel
theorem dX11_lost_33 : decode cX11_lost 33 = .ok (.iload_n 1, 1) := by decide +kernel
theorem dX11_lost_34 : decode cX11_lost 34 = .ok (.invokevirtual 209, 3) := by decide +kernel
theorem dX11_lost_37 : decode cX11_lost 37 = .ok (.ireturn, 1) := by decide +kernel
theorem dX11_brings_0 : decode cX11_brings 0 = .ok (.aload_n 0, 1) := by decide +kernel
theorem dX11_brings_1 : decode cX11_brings 1 = .ok (.iload_n 1, 1) := by decide +kernel
theorem dX11_brings_2 : decode cX11_brings 2 = .ok (.iload_n 2, 1) := by decide +kernel
theorem dX11_brings_3 : decode cX11_brings 3 = .ok (.invokevirtual 167, 3) := by decide +kernel
theorem dX11_brings_6 : decode cX11_brings 6 = .ok (.istore_n 3, 1) := by decide +kernel
theorem dX11_brings_7 : decode cX11_brings 7 = .ok (.iload_n 3, 1) := by decide +kernel
theorem dX11_brings_8 : decode cX11_brings 8 = .ok (.ifCond .eq 7, 3) := by decide +kernel
theorem dX11_brings_11 : decode cX11_brings 11 = .ok (.iload_n 3, 1) := by decide +kernel
theorem dX11_brings_12 : decode cX11_brings 12 = .ok (.goto 12, 3) := by decide +kernel
theorem dX11_brings_15 : decode cX11_brings 15 = .ok (.aload_n 0, 1) := by decide +kernel
theorem dX11_brings_16 : decode cX11_brings 16 = .ok (.getfield 50, 3) := by decide +kernel
theorem dX11_brings_19 : decode cX11_brings 19 = .ok (.iload_n 1, 1) := by decide +kernel
theorem dX11_brings_20 : decode cX11_brings 20 = .ok (.iload_n 2, 1) := by decide +kernel
theorem dX11_brings_21 : decode cX11_brings 21 = .ok (.invokevirtual 163, 3) := by decide +kernel
theorem dX11_brings_24 : decode cX11_brings 24 = .ok (.ireturn, 1) := by decide +kernel
theorem dX11_seen_0 : decode cX11_seen 0 = .ok (.iload_n 1, 1) := by decide +kernel
theorem dX11_seen_1 : decode cX11_seen 1 = .ok (.ifCond .lt 20, 3) := by decide +kernel
theorem dX11_seen_4 : decode cX11_seen 4 = .ok (.iload_n 1, 1) := by decide +kernel
theorem dX11_seen_5 : decode cX11_seen 5 = .ok (.bipush 9, 2) := by decide +kernel
theorem dX11_seen_7 : decode cX11_seen 7 = .ok (.if_icmp .gt 14, 3) := by decide +kernel
theorem dX11_seen_10 : decode cX11_seen 10 = .ok (.iload_n 2, 1) := by decide +kernel
theorem dX11_seen_11 : decode cX11_seen 11 = .ok (.ifCond .lt 10, 3) := by decide +kernel
theorem dX11_seen_14 : decode cX11_seen 14 = .ok (.iload_n 2, 1) := by decide +kernel
theorem dX11_seen_15 : decode cX11_seen 15 = .ok (.sipush 1023, 3) := by decide +kernel
theorem dX11_seen_18 : decode cX11_seen 18 = .ok (.if_icmp .le 6, 3) := by decide +kernel
theorem dX11_seen_21 : decode cX11_seen 21 = .ok (.bipush (-3), 2) := by decide +kernel
theorem dX11_seen_23 : decode cX11_seen 23 = .ok (.ireturn, 1) := by decide +kernel
theorem dX11_seen_24 : decode cX11_seen 24 = .ok (.aload_n 0, 1) := by decide +kernel
theorem dX11_seen_25 : decode cX11_seen 25 = .ok (.getfield 57, 3) := by decide +kernel
theorem dX11_seen_28 : decode cX11_seen 28 = .ok (.iload_n 1, 1) := by decide +kernel
theorem dX11_seen_29 : decode cX11_seen 29 = .ok (.iload_n 2, 1) := by decide +kernel
theorem dX11_seen_30 : decode cX11_seen 30 = .ok (.invokevirtual 212, 3) := by decide +kernel
theorem dX11_seen_33 : decode cX11_seen 33 = .ok (.ifCond .eq 13, 3) := by decide +kernel
theorem dX11_seen_36 : decode cX11_seen 36 = .ok (.aload_n 0, 1) := by decide +kernel
theorem dX11_seen_37 : decode cX11_seen 37 = .ok (.getfield 57, 3) := by decide +kernel
theorem dX11_seen_40 : decode cX11_seen 40 = .ok (.getfield 216, 3) := by decide +kernel
theorem dX11_seen_43 : decode cX11_seen 43 = .ok (.goto 5, 3) := by decide +kernel
theorem dX11_seen_46 : decode cX11_seen 46 = .ok (.bipush (-5), 2) := by decide +kernel
theorem dX11_seen_48 : decode cX11_seen 48 = .ok (.ireturn, 1) := by decide +kernel
theorem dX11_forget_0 : decode cX11_forget 0 = .ok (.aload_n 0, 1) := by decide +kernel
theorem dX11_forget_1 : decode cX11_forget 1 = .ok (.getfield 57, 3) := by decide +kernel
theorem dX11_forget_4 : decode cX11_forget 4 = .ok (.getfield 216, 3) := by decide +kernel
theorem dX11_forget_7 : decode cX11_forget 7 = .ok (.istore_n 1, 1) := by decide +kernel
theorem dX11_forget_8 : decode cX11_forget 8 = .ok (.aload_n 0, 1) := by decide +kernel
theorem dX11_forget_9 : decode cX11_forget 9 = .ok (.getfield 57, 3) := by decide +kernel
theorem dX11_forget_12 : decode cX11_forget 12 = .ok (.iconst 0, 1) := by decide +kernel
theorem dX11_forget_13 : decode cX11_forget 13 = .ok (.putfield 216, 3) := by decide +kernel
theorem dX11_forget_16 : decode cX11_forget 16 = .ok (.iload_n 1, 1) := by decide +kernel
theorem dX11_forget_17 : decode cX11_forget 17 = .ok (.ireturn, 1) := by decide +kernel
theorem dX11_openLines_0 : decode cX11_openLines 0 = .ok (.aload_n 0, 1) := by decide +kernel
theorem dX11_openLines_1 : decode cX11_openLines 1 = .ok (.getfield 10, 3) := by decide +kernel
theorem dX11_openLines_4 : decode cX11_openLines 4 = .ok (.invokevirtual 270, 3) := by decide +kernel
theorem dX11_openLines_7 : decode cX11_openLines 7 = .ok (.aload_n 0, 1) := by decide +kernel
theorem dX11_openLines_8 : decode cX11_openLines 8 = .ok (.getfield 26, 3) := by decide +kernel
theorem dX11_openLines_11 : decode cX11_openLines 11 = .ok (.getfield 120, 3) := by decide +kernel
theorem dX11_openLines_14 : decode cX11_openLines 14 = .ok (.iconst (-1), 1) := by decide +kernel
theorem dX11_openLines_15 : decode cX11_openLines 15 = .ok (.ixor, 1) := by decide +kernel
theorem dX11_openLines_16 : decode cX11_openLines 16 = .ok (.iand, 1) := by decide +kernel
theorem dX11_openLines_17 : decode cX11_openLines 17 = .ok (.ireturn, 1) := by decide +kernel
theorem dX11_fit_0 : decode cX11_fit 0 = .ok (.aload_n 0, 1) := by decide +kernel
theorem dX11_fit_1 : decode cX11_fit 1 = .ok (.getfield 57, 3) := by decide +kernel
theorem dX11_fit_4 : decode cX11_fit 4 = .ok (.aload_n 0, 1) := by decide +kernel
theorem dX11_fit_5 : decode cX11_fit 5 = .ok (.getfield 10, 3) := by decide +kernel
theorem dX11_fit_8 : decode cX11_fit 8 = .ok (.aload_n 0, 1) := by decide +kernel
theorem dX11_fit_9 : decode cX11_fit 9 = .ok (.invokevirtual 217, 3) := by decide +kernel
theorem dX11_fit_12 : decode cX11_fit 12 = .ok (.invokevirtual 220, 3) := by decide +kernel
theorem dX11_fit_15 : decode cX11_fit 15 = .ok (.ireturn, 1) := by decide +kernel
theorem dX11_ask_0 : decode cX11_ask 0 = .ok (.aload_n 0, 1) := by decide +kernel
theorem dX11_ask_1 : decode cX11_ask 1 = .ok (.getfield 57, 3) := by decide +kernel
theorem dX11_ask_4 : decode cX11_ask 4 = .ok (.aload_n 0, 1) := by decide +kernel
theorem dX11_ask_5 : decode cX11_ask 5 = .ok (.getfield 10, 3) := by decide +kernel
theorem dX11_ask_8 : decode cX11_ask 8 = .ok (.aload_n 0, 1) := by decide +kernel
theorem dX11_ask_9 : decode cX11_ask 9 = .ok (.invokevirtual 217, 3) := by decide +kernel
theorem dX11_ask_12 : decode cX11_ask 12 = .ok (.invokevirtual 224, 3) := by decide +kernel
theorem dX11_ask_15 : decode cX11_ask 15 = .ok (.ireturn, 1) := by decide +kernel
theorem dX11_isTray_0 : decode cX11_isTray 0 = .ok (.iload_n 0, 1) := by decide +kernel
theorem dX11_isTray_1 : decode cX11_isTray 1 = .ok (.ifCond .lt 12, 3) := by decide +kernel
theorem dX11_isTray_4 : decode cX11_isTray 4 = .ok (.iload_n 0, 1) := by decide +kernel
theorem dX11_isTray_5 : decode cX11_isTray 5 = .ok (.iconst 3, 1) := by decide +kernel
theorem dX11_isTray_6 : decode cX11_isTray 6 = .ok (.if_icmp .ge 7, 3) := by decide +kernel
theorem dX11_isTray_9 : decode cX11_isTray 9 = .ok (.iconst 1, 1) := by decide +kernel
theorem dX11_isTray_10 : decode cX11_isTray 10 = .ok (.goto 4, 3) := by decide +kernel
theorem dX11_isTray_13 : decode cX11_isTray 13 = .ok (.iconst 0, 1) := by decide +kernel
theorem dX11_isTray_14 : decode cX11_isTray 14 = .ok (.ireturn, 1) := by decide +kernel
theorem dX11_tray_0 : decode cX11_tray 0 = .ok (.iload_n 1, 1) := by decide +kernel
theorem dX11_tray_1 : decode cX11_tray 1 = .ok (.invokestatic 227, 3) := by decide +kernel
theorem dX11_tray_4 : decode cX11_tray 4 = .ok (.ifCond .ne 6, 3) := by decide +kernel
theorem dX11_tray_7 : decode cX11_tray 7 = .ok (.bipush (-2), 2) := by decide +kernel
theorem dX11_tray_9 : decode cX11_tray 9 = .ok (.ireturn, 1) := by decide +kernel
theorem dX11_tray_10 : decode cX11_tray 10 = .ok (.aload_n 0, 1) := by decide +kernel
theorem dX11_tray_11 : decode cX11_tray 11 = .ok (.getfield 63, 3) := by decide +kernel
theorem dX11_tray_14 : decode cX11_tray 14 = .ok (.iload_n 1, 1) := by decide +kernel
theorem dX11_tray_15 : decode cX11_tray 15 = .ok (.aaload, 1) := by decide +kernel
theorem dX11_tray_16 : decode cX11_tray 16 = .ok (.invokevirtual 230, 3) := by decide +kernel
theorem dX11_tray_19 : decode cX11_tray 19 = .ok (.iconst 0, 1) := by decide +kernel
theorem dX11_tray_20 : decode cX11_tray 20 = .ok (.ireturn, 1) := by decide +kernel
theorem dX11_canBeLaid_0 : decode cX11_canBeLaid 0 = .ok (.iload_n 0, 1) := by decide +kernel
theorem dX11_canBeLaid_1 : decode cX11_canBeLaid 1 = .ok (.tableswitch 65 0 2 #[27, 43, 63], 27) := by decide +kernel
theorem dX11_canBeLaid_28 : decode cX11_canBeLaid 28 = .ok (.iload_n 1, 1) := by decide +kernel
theorem dX11_canBeLaid_29 : decode cX11_canBeLaid 29 = .ok (.ifCond .lt 13, 3) := by decide +kernel
theorem dX11_canBeLaid_32 : decode cX11_canBeLaid 32 = .ok (.iload_n 1, 1) := by decide +kernel
theorem dX11_canBeLaid_33 : decode cX11_canBeLaid 33 = .ok (.bipush 99, 2) := by decide +kernel
theorem dX11_canBeLaid_35 : decode cX11_canBeLaid 35 = .ok (.if_icmp .gt 7, 3) := by decide +kernel
theorem dX11_canBeLaid_38 : decode cX11_canBeLaid 38 = .ok (.iconst 1, 1) := by decide +kernel
theorem dX11_canBeLaid_39 : decode cX11_canBeLaid 39 = .ok (.goto 4, 3) := by decide +kernel
theorem dX11_canBeLaid_42 : decode cX11_canBeLaid 42 = .ok (.iconst 0, 1) := by decide +kernel
theorem dX11_canBeLaid_43 : decode cX11_canBeLaid 43 = .ok (.ireturn, 1) := by decide +kernel
theorem dX11_canBeLaid_44 : decode cX11_canBeLaid 44 = .ok (.iload_n 1, 1) := by decide +kernel
theorem dX11_canBeLaid_45 : decode cX11_canBeLaid 45 = .ok (.sipush (-9999), 3) := by decide +kernel
theorem dX11_canBeLaid_48 : decode cX11_canBeLaid 48 = .ok (.if_icmp .lt 14, 3) := by decide +kernel
theorem dX11_canBeLaid_51 : decode cX11_canBeLaid 51 = .ok (.iload_n 1, 1) := by decide +kernel
theorem dX11_canBeLaid_52 : decode cX11_canBeLaid 52 = .ok (.sipush 9999, 3) := by decide +kernel
theorem dX11_canBeLaid_55 : decode cX11_canBeLaid 55 = .ok (.if_icmp .gt 7, 3) := by decide +kernel
theorem dX11_canBeLaid_58 : decode cX11_canBeLaid 58 = .ok (.iconst 1, 1) := by decide +kernel
theorem dX11_canBeLaid_59 : decode cX11_canBeLaid 59 = .ok (.goto 4, 3) := by decide +kernel
theorem dX11_canBeLaid_62 : decode cX11_canBeLaid 62 = .ok (.iconst 0, 1) := by decide +kernel
theorem dX11_canBeLaid_63 : decode cX11_canBeLaid 63 = .ok (.ireturn, 1) := by decide +kernel
theorem dX11_canBeLaid_64 : decode cX11_canBeLaid 64 = .ok (.iconst 1, 1) := by decide +kernel
theorem dX11_canBeLaid_65 : decode cX11_canBeLaid 65 = .ok (.ireturn, 1) := by decide +kernel
theorem dX11_canBeLaid_66 : decode cX11_canBeLaid 66 = .ok (.iconst 0, 1) := by decide +kernel
theorem dX11_canBeLaid_67 : decode cX11_canBeLaid 67 = .ok (.ireturn, 1) := by decide +kernel
theorem dX11_lay_0 : decode cX11_lay 0 = .ok (.iload_n 1, 1) := by decide +kernel
theorem dX11_lay_1 : decode cX11_lay 1 = .ok (.invokestatic 227, 3) := by decide +kernel
theorem dX11_lay_4 : decode cX11_lay 4 = .ok (.ifCond .eq 16, 3) := by decide +kernel
theorem dX11_lay_7 : decode cX11_lay 7 = .ok (.iload_n 2, 1) := by decide +kernel
theorem dX11_lay_8 : decode cX11_lay 8 = .ok (.iconst 2, 1) := by decide +kernel
theorem dX11_lay_9 : decode cX11_lay 9 = .ok (.if_icmp .ne 14, 3) := by decide +kernel
theorem dX11_lay_12 : decode cX11_lay 12 = .ok (.aload_n 0, 1) := by decide +kernel
theorem dX11_lay_13 : decode cX11_lay 13 = .ok (.iload_n 3, 1) := by decide +kernel
theorem dX11_lay_14 : decode cX11_lay 14 = .ok (.invokevirtual 130, 3) := by decide +kernel
theorem dX11_lay_17 : decode cX11_lay 17 = .ok (.ifCond .ne 6, 3) := by decide +kernel
theorem dX11_lay_20 : decode cX11_lay 20 = .ok (.bipush (-2), 2) := by decide +kernel
theorem dX11_lay_22 : decode cX11_lay 22 = .ok (.ireturn, 1) := by decide +kernel
theorem dX11_lay_23 : decode cX11_lay 23 = .ok (.iload_n 2, 1) := by decide +kernel
theorem dX11_lay_24 : decode cX11_lay 24 = .ok (.iload_n 3, 1) := by decide +kernel
theorem dX11_lay_25 : decode cX11_lay 25 = .ok (.invokestatic 233, 3) := by decide +kernel
theorem dX11_lay_28 : decode cX11_lay 28 = .ok (.ifCond .ne 6, 3) := by decide +kernel
theorem dX11_lay_31 : decode cX11_lay 31 = .ok (.bipush (-3), 2) := by decide +kernel
theorem dX11_lay_33 : decode cX11_lay 33 = .ok (.ireturn, 1) := by decide +kernel
theorem dX11_lay_34 : decode cX11_lay 34 = .ok (.aload_n 0, 1) := by decide +kernel
theorem dX11_lay_35 : decode cX11_lay 35 = .ok (.getfield 63, 3) := by decide +kernel
theorem dX11_lay_38 : decode cX11_lay 38 = .ok (.iload_n 1, 1) := by decide +kernel
theorem dX11_lay_39 : decode cX11_lay 39 = .ok (.aaload, 1) := by decide +kernel
theorem dX11_lay_40 : decode cX11_lay 40 = .ok (.iload_n 2, 1) := by decide +kernel
theorem dX11_lay_41 : decode cX11_lay 41 = .ok (.iload_n 3, 1) := by decide +kernel
theorem dX11_lay_42 : decode cX11_lay 42 = .ok (.invokevirtual 236, 3) := by decide +kernel
theorem dX11_lay_45 : decode cX11_lay 45 = .ok (.ireturn, 1) := by decide +kernel
theorem dX11_isKind_0 : decode cX11_isKind 0 = .ok (.iload_n 0, 1) := by decide +kernel
theorem dX11_isKind_1 : decode cX11_isKind 1 = .ok (.ifCond .eq 13, 3) := by decide +kernel
theorem dX11_isKind_4 : decode cX11_isKind 4 = .ok (.iload_n 0, 1) := by decide +kernel
theorem dX11_isKind_5 : decode cX11_isKind 5 = .ok (.iconst 1, 1) := by decide +kernel
theorem dX11_isKind_6 : decode cX11_isKind 6 = .ok (.if_icmp .eq 8, 3) := by decide +kernel
theorem dX11_isKind_9 : decode cX11_isKind 9 = .ok (.iload_n 0, 1) := by decide +kernel
theorem dX11_isKind_10 : decode cX11_isKind 10 = .ok (.iconst 2, 1) := by decide +kernel
theorem dX11_isKind_11 : decode cX11_isKind 11 = .ok (.if_icmp .ne 7, 3) := by decide +kernel
theorem dX11_isKind_14 : decode cX11_isKind 14 = .ok (.iconst 1, 1) := by decide +kernel
theorem dX11_isKind_15 : decode cX11_isKind 15 = .ok (.goto 4, 3) := by decide +kernel
theorem dX11_isKind_18 : decode cX11_isKind 18 = .ok (.iconst 0, 1) := by decide +kernel
theorem dX11_isKind_19 : decode cX11_isKind 19 = .ok (.ireturn, 1) := by decide +kernel
theorem dX11_take_0 : decode cX11_take 0 = .ok (.iload_n 1, 1) := by decide +kernel
theorem dX11_take_1 : decode cX11_take 1 = .ok (.invokestatic 227, 3) := by decide +kernel
theorem dX11_take_4 : decode cX11_take 4 = .ok (.ifCond .ne 6, 3) := by decide +kernel
theorem dX11_take_7 : decode cX11_take 7 = .ok (.bipush (-2), 2) := by decide +kernel
theorem dX11_take_9 : decode cX11_take 9 = .ok (.ireturn, 1) := by decide +kernel
theorem dX11_take_10 : decode cX11_take 10 = .ok (.iload_n 2, 1) := by decide +kernel
theorem dX11_take_11 : decode cX11_take 11 = .ok (.invokestatic 239, 3) := by decide +kernel
theorem dX11_take_14 : decode cX11_take 14 = .ok (.ifCond .ne 6, 3) := by decide +kernel
theorem dX11_take_17 : decode cX11_take 17 = .ok (.bipush (-3), 2) := by decide +kernel
theorem dX11_take_19 : decode cX11_take 19 = .ok (.ireturn, 1) := by decide +kernel
theorem dX11_take_20 : decode cX11_take 20 = .ok (.aload_n 0, 1) := by decide +kernel
theorem dX11_take_21 : decode cX11_take 21 = .ok (.getfield 63, 3) := by decide +kernel
theorem dX11_take_24 : decode cX11_take 24 = .ok (.iload_n 1, 1) := by decide +kernel
theorem dX11_take_25 : decode cX11_take 25 = .ok (.aaload, 1) := by decide +kernel
theorem dX11_take_26 : decode cX11_take 26 = .ok (.iload_n 2, 1) := by decide +kernel
theorem dX11_take_27 : decode cX11_take 27 = .ok (.invokevirtual 242, 3) := by decide +kernel
theorem dX11_take_30 : decode cX11_take 30 = .ok (.ireturn, 1) := by decide +kernel
theorem dX11_all_0 : decode cX11_all 0 = .ok (.iload_n 1, 1) := by decide +kernel
theorem dX11_all_1 : decode cX11_all 1 = .ok (.invokestatic 227, 3) := by decide +kernel
theorem dX11_all_4 : decode cX11_all 4 = .ok (.ifCond .ne 6, 3) := by decide +kernel
theorem dX11_all_7 : decode cX11_all 7 = .ok (.bipush (-2), 2) := by decide +kernel
theorem dX11_all_9 : decode cX11_all 9 = .ok (.ireturn, 1) := by decide +kernel
theorem dX11_all_10 : decode cX11_all 10 = .ok (.iload_n 2, 1) := by decide +kernel
theorem dX11_all_11 : decode cX11_all 11 = .ok (.invokestatic 239, 3) := by decide +kernel
theorem dX11_all_14 : decode cX11_all 14 = .ok (.ifCond .ne 6, 3) := by decide +kernel
theorem dX11_all_17 : decode cX11_all 17 = .ok (.bipush (-3), 2) := by decide +kernel
theorem dX11_all_19 : decode cX11_all 19 = .ok (.ireturn, 1) := by decide +kernel
theorem dX11_all_20 : decode cX11_all 20 = .ok (.aload_n 0, 1) := by decide +kernel
theorem dX11_all_21 : decode cX11_all 21 = .ok (.getfield 63, 3) := by decide +kernel
theorem dX11_all_24 : decode cX11_all 24 = .ok (.iload_n 1, 1) := by decide +kernel
theorem dX11_all_25 : decode cX11_all 25 = .ok (.aaload, 1) := by decide +kernel
theorem dX11_all_26 : decode cX11_all 26 = .ok (.iload_n 2, 1) := by decide +kernel
theorem dX11_all_27 : decode cX11_all 27 = .ok (.invokevirtual 245, 3) := by decide +kernel
theorem dX11_all_30 : decode cX11_all 30 = .ok (.ireturn, 1) := by decide +kernel
theorem dX11_drop_0 : decode cX11_drop 0 = .ok (.iload_n 1, 1) := by decide +kernel
theorem dX11_drop_1 : decode cX11_drop 1 = .ok (.invokestatic 227, 3) := by decide +kernel
theorem dX11_drop_4 : decode cX11_drop 4 = .ok (.ifCond .ne 6, 3) := by decide +kernel
theorem dX11_drop_7 : decode cX11_drop 7 = .ok (.bipush (-2), 2) := by decide +kernel
theorem dX11_drop_9 : decode cX11_drop 9 = .ok (.ireturn, 1) := by decide +kernel
theorem dX11_drop_10 : decode cX11_drop 10 = .ok (.aload_n 0, 1) := by decide +kernel
theorem dX11_drop_11 : decode cX11_drop 11 = .ok (.getfield 63, 3) := by decide +kernel
theorem dX11_drop_14 : decode cX11_drop 14 = .ok (.iload_n 1, 1) := by decide +kernel
theorem dX11_drop_15 : decode cX11_drop 15 = .ok (.aaload, 1) := by decide +kernel
theorem dX11_drop_16 : decode cX11_drop 16 = .ok (.invokevirtual 248, 3) := by decide +kernel
theorem dX11_drop_19 : decode cX11_drop 19 = .ok (.ifCond .eq 6, 3) := by decide +kernel
theorem dX11_drop_22 : decode cX11_drop 22 = .ok (.bipush (-11), 2) := by decide +kernel
theorem dX11_drop_24 : decode cX11_drop 24 = .ok (.ireturn, 1) := by decide +kernel
theorem dX11_drop_25 : decode cX11_drop 25 = .ok (.aload_n 0, 1) := by decide +kernel
theorem dX11_drop_26 : decode cX11_drop 26 = .ok (.getfield 63, 3) := by decide +kernel
theorem dX11_drop_29 : decode cX11_drop 29 = .ok (.iload_n 1, 1) := by decide +kernel
theorem dX11_drop_30 : decode cX11_drop 30 = .ok (.aaload, 1) := by decide +kernel
theorem dX11_drop_31 : decode cX11_drop 31 = .ok (.invokevirtual 252, 3) := by decide +kernel
theorem dX11_drop_34 : decode cX11_drop 34 = .ok (.istore_n 2, 1) := by decide +kernel
theorem dX11_drop_35 : decode cX11_drop 35 = .ok (.aload_n 0, 1) := by decide +kernel
theorem dX11_drop_36 : decode cX11_drop 36 = .ok (.getfield 63, 3) := by decide +kernel
theorem dX11_drop_39 : decode cX11_drop 39 = .ok (.iload_n 1, 1) := by decide +kernel
theorem dX11_drop_40 : decode cX11_drop 40 = .ok (.aaload, 1) := by decide +kernel
theorem dX11_drop_41 : decode cX11_drop 41 = .ok (.invokevirtual 103, 3) := by decide +kernel
theorem dX11_drop_44 : decode cX11_drop 44 = .ok (.iload_n 2, 1) := by decide +kernel
theorem dX11_drop_45 : decode cX11_drop 45 = .ok (.ireturn, 1) := by decide +kernel
theorem dX11_thingsOfAllTrays_0 : decode cX11_thingsOfAllTrays 0 = .ok (.iconst 0, 1) := by decide +kernel
theorem dX11_thingsOfAllTrays_1 : decode cX11_thingsOfAllTrays 1 = .ok (.istore_n 1, 1) := by decide +kernel
theorem dX11_thingsOfAllTrays_2 : decode cX11_thingsOfAllTrays 2 = .ok (.iconst 0, 1) := by decide +kernel
theorem dX11_thingsOfAllTrays_3 : decode cX11_thingsOfAllTrays 3 = .ok (.istore_n 2, 1) := by decide +kernel
theorem dX11_thingsOfAllTrays_4 : decode cX11_thingsOfAllTrays 4 = .ok (.iload_n 2, 1) := by decide +kernel
theorem dX11_thingsOfAllTrays_5 : decode cX11_thingsOfAllTrays 5 = .ok (.iconst 3, 1) := by decide +kernel
theorem dX11_thingsOfAllTrays_6 : decode cX11_thingsOfAllTrays 6 = .ok (.if_icmp .ge 21, 3) := by decide +kernel
theorem dX11_thingsOfAllTrays_9 : decode cX11_thingsOfAllTrays 9 = .ok (.iload_n 1, 1) := by decide +kernel
theorem dX11_thingsOfAllTrays_10 : decode cX11_thingsOfAllTrays 10 = .ok (.aload_n 0, 1) := by decide +kernel
theorem dX11_thingsOfAllTrays_11 : decode cX11_thingsOfAllTrays 11 = .ok (.getfield 63, 3) := by decide +kernel
theorem dX11_thingsOfAllTrays_14 : decode cX11_thingsOfAllTrays 14 = .ok (.iload_n 2, 1) := by decide +kernel
theorem dX11_thingsOfAllTrays_15 : decode cX11_thingsOfAllTrays 15 = .ok (.aaload, 1) := by decide +kernel
theorem dX11_thingsOfAllTrays_16 : decode cX11_thingsOfAllTrays 16 = .ok (.invokevirtual 252, 3) := by decide +kernel
theorem dX11_thingsOfAllTrays_19 : decode cX11_thingsOfAllTrays 19 = .ok (.iadd, 1) := by decide +kernel
theorem dX11_thingsOfAllTrays_20 : decode cX11_thingsOfAllTrays 20 = .ok (.istore_n 1, 1) := by decide +kernel
theorem dX11_thingsOfAllTrays_21 : decode cX11_thingsOfAllTrays 21 = .ok (.iinc 2 1, 3) := by decide +kernel
theorem dX11_thingsOfAllTrays_24 : decode cX11_thingsOfAllTrays 24 = .ok (.goto (-20), 3) := by decide +kernel
theorem dX11_thingsOfAllTrays_27 : decode cX11_thingsOfAllTrays 27 = .ok (.iload_n 1, 1) := by decide +kernel
theorem dX11_thingsOfAllTrays_28 : decode cX11_thingsOfAllTrays 28 = .ok (.ireturn, 1) := by decide +kernel
theorem dX11_count_0 : decode cX11_count 0 = .ok (.iload_n 1, 1) := by decide +kernel
theorem dX11_count_1 : decode cX11_count 1 = .ok (.tableswitch 188 0 13 #[71, 79, 87, 95, 103, 111, 119, 127, 135, 143, 151, 156, 164, 172], 71) := by decide +kernel
theorem dX11_count_72 : decode cX11_count 72 = .ok (.aload_n 0, 1) := by decide +kernel
theorem dX11_count_73 : decode cX11_count 73 = .ok (.getfield 10, 3) := by decide +kernel
theorem dX11_count_76 : decode cX11_count 76 = .ok (.getfield 189, 3) := by decide +kernel
theorem dX11_count_79 : decode cX11_count 79 = .ok (.ireturn, 1) := by decide +kernel
theorem dX11_count_80 : decode cX11_count 80 = .ok (.aload_n 0, 1) := by decide +kernel
theorem dX11_count_81 : decode cX11_count 81 = .ok (.getfield 10, 3) := by decide +kernel
theorem dX11_count_84 : decode cX11_count 84 = .ok (.getfield 255, 3) := by decide +kernel
theorem dX11_count_87 : decode cX11_count 87 = .ok (.ireturn, 1) := by decide +kernel
theorem dX11_count_88 : decode cX11_count 88 = .ok (.aload_n 0, 1) := by decide +kernel
theorem dX11_count_89 : decode cX11_count 89 = .ok (.getfield 26, 3) := by decide +kernel
theorem dX11_count_92 : decode cX11_count 92 = .ok (.getfield 170, 3) := by decide +kernel
theorem dX11_count_95 : decode cX11_count 95 = .ok (.ireturn, 1) := by decide +kernel
theorem dX11_count_96 : decode cX11_count 96 = .ok (.aload_n 0, 1) := by decide +kernel
theorem dX11_count_97 : decode cX11_count 97 = .ok (.getfield 10, 3) := by decide +kernel
theorem dX11_count_100 : decode cX11_count 100 = .ok (.getfield 151, 3) := by decide +kernel
theorem dX11_count_103 : decode cX11_count 103 = .ok (.ireturn, 1) := by decide +kernel
theorem dX11_count_104 : decode cX11_count 104 = .ok (.aload_n 0, 1) := by decide +kernel
theorem dX11_count_105 : decode cX11_count 105 = .ok (.getfield 50, 3) := by decide +kernel
theorem dX11_count_108 : decode cX11_count 108 = .ok (.getfield 186, 3) := by decide +kernel
theorem dX11_count_111 : decode cX11_count 111 = .ok (.ireturn, 1) := by decide +kernel
theorem dX11_count_112 : decode cX11_count 112 = .ok (.aload_n 0, 1) := by decide +kernel
theorem dX11_count_113 : decode cX11_count 113 = .ok (.getfield 50, 3) := by decide +kernel
theorem dX11_count_116 : decode cX11_count 116 = .ok (.getfield 258, 3) := by decide +kernel
theorem dX11_count_119 : decode cX11_count 119 = .ok (.ireturn, 1) := by decide +kernel
theorem dX11_count_120 : decode cX11_count 120 = .ok (.aload_n 0, 1) := by decide +kernel
theorem dX11_count_121 : decode cX11_count 121 = .ok (.getfield 50, 3) := by decide +kernel
theorem dX11_count_124 : decode cX11_count 124 = .ok (.getfield 123, 3) := by decide +kernel
theorem dX11_count_127 : decode cX11_count 127 = .ok (.ireturn, 1) := by decide +kernel
theorem dX11_count_128 : decode cX11_count 128 = .ok (.aload_n 0, 1) := by decide +kernel
theorem dX11_count_129 : decode cX11_count 129 = .ok (.getfield 50, 3) := by decide +kernel
theorem dX11_count_132 : decode cX11_count 132 = .ok (.invokevirtual 261, 3) := by decide +kernel
theorem dX11_count_135 : decode cX11_count 135 = .ok (.ireturn, 1) := by decide +kernel
theorem dX11_count_136 : decode cX11_count 136 = .ok (.aload_n 0, 1) := by decide +kernel
theorem dX11_count_137 : decode cX11_count 137 = .ok (.getfield 26, 3) := by decide +kernel
theorem dX11_count_140 : decode cX11_count 140 = .ok (.getfield 139, 3) := by decide +kernel
theorem dX11_count_143 : decode cX11_count 143 = .ok (.ireturn, 1) := by decide +kernel
theorem dX11_count_144 : decode cX11_count 144 = .ok (.aload_n 0, 1) := by decide +kernel
theorem dX11_count_145 : decode cX11_count 145 = .ok (.getfield 57, 3) := by decide +kernel
theorem dX11_count_148 : decode cX11_count 148 = .ok (.getfield 216, 3) := by decide +kernel
theorem dX11_count_151 : decode cX11_count 151 = .ok (.ireturn, 1) := by decide +kernel
theorem dX11_count_152 : decode cX11_count 152 = .ok (.aload_n 0, 1) := by decide +kernel
theorem dX11_count_153 : decode cX11_count 153 = .ok (.invokevirtual 264, 3) := by decide +kernel
theorem dX11_count_156 : decode cX11_count 156 = .ok (.ireturn, 1) := by decide +kernel
theorem dX11_count_157 : decode cX11_count 157 = .ok (.aload_n 0, 1) := by decide +kernel
theorem dX11_count_158 : decode cX11_count 158 = .ok (.getfield 41, 3) := by decide +kernel
theorem dX11_count_161 : decode cX11_count 161 = .ok (.getfield 100, 3) := by decide +kernel
theorem dX11_count_164 : decode cX11_count 164 = .ok (.ireturn, 1) := by decide +kernel
theorem dX11_count_165 : decode cX11_count 165 = .ok (.aload_n 0, 1) := by decide +kernel
theorem dX11_count_166 : decode cX11_count 166 = .ok (.getfield 19, 3) := by decide +kernel
theorem dX11_count_169 : decode cX11_count 169 = .ok (.getfield 79, 3) := by decide +kernel
theorem dX11_count_172 : decode cX11_count 172 = .ok (.ireturn, 1) := by decide +kernel
theorem dX11_count_173 : decode cX11_count 173 = .ok (.aload_n 0, 1) := by decide +kernel
theorem dX11_count_174 : decode cX11_count 174 = .ok (.getfield 10, 3) := by decide +kernel
theorem dX11_count_177 : decode cX11_count 177 = .ok (.getfield 189, 3) := by decide +kernel
theorem dX11_count_180 : decode cX11_count 180 = .ok (.aload_n 0, 1) := by decide +kernel
theorem dX11_count_181 : decode cX11_count 181 = .ok (.getfield 50, 3) := by decide +kernel
theorem dX11_count_184 : decode cX11_count 184 = .ok (.getfield 186, 3) := by decide +kernel
theorem dX11_count_187 : decode cX11_count 187 = .ok (.isub, 1) := by decide +kernel
theorem dX11_count_188 : decode cX11_count 188 = .ok (.ireturn, 1) := by decide +kernel
theorem dX11_count_189 : decode cX11_count 189 = .ok (.bipush (-3), 2) := by decide +kernel
theorem dX11_count_191 : decode cX11_count 191 = .ok (.ireturn, 1) := by decide +kernel
theorem kfX11_19 : ux_FL RX11 19 11 1 := ⟨RX11, TX11, 9, rfl, lay_X11, by decide, tw_541⟩
theorem kvX11_75 : ux_LV RX11 75 4 yX4_append cX4_append 2 (some .boolean) 1 := ⟨⟨TX4, 7, rfl⟩, tw_572, tw_573, tw_574, tw_74, tw_575, ⟨by decide, by decide, by decide +kernel⟩⟩
theorem kfX11_79 : ux_FL RX11 79 4 0 := ⟨RX4, TX4, 7, rfl, lay_X4, by decide, tw_173⟩
theorem kvX11_83 : ux_LV RX11 83 4 yX4_empty cX4_empty 2 (some .int) 0 := ⟨⟨TX4, 7, rfl⟩, tw_580, tw_581, tw_582, tw_74, tw_583, ⟨by decide, by decide, by decide +kernel⟩⟩
theorem kfX11_10 : ux_FL RX11 10 11 0 := ⟨RX11, TX11, 9, rfl, lay_X11, by decide, tw_540⟩
theorem kvX11_86 : ux_LV RX11 86 4 yX4_findFault cX4_findFault 3 (some .int) 1 := ⟨⟨TX4, 7, rfl⟩, tw_588, tw_589, tw_590, tw_74, tw_591, ⟨by decide, by decide, by decide +kernel⟩⟩
theorem kfX11_90 : ux_FL RX11 90 4 2 := ⟨RX4, TX4, 7, rfl, lay_X4, by decide, tw_177⟩
theorem kvX11_93 : ux_LV RX11 93 3 yX3_copyFrom cX3_copyFrom 2 none 1 := ⟨⟨TX3, 11, rfl⟩, tw_720, tw_593, tw_594, tw_73, tw_595, ⟨by decide, by decide, by decide +kernel⟩⟩
theorem kfX11_26 : ux_FL RX11 26 11 2 := ⟨RX11, TX11, 9, rfl, lay_X11, by decide, tw_542⟩
theorem kvX11_97 : ux_LV RX11 97 8 yX8_startFrom cX8_startFrom 2 none 1 := ⟨⟨TX8, 5, rfl⟩, tw_721, tw_722, tw_723, tw_75, tw_724, ⟨by decide, by decide, by decide +kernel⟩⟩
theorem kfX11_41 : ux_FL RX11 41 11 5 := ⟨RX11, TX11, 9, rfl, lay_X11, by decide, tw_545⟩
theorem kpX11_100 : ux_FP RX11 100 1 0 .int := ⟨RX1, TX1, 3, rfl, lay_X1, by decide, tw_241, tyX1, tyX1_ok, nmX1, rfl, by decide +kernel⟩
theorem kfX11_34 : ux_FL RX11 34 11 4 := ⟨RX11, TX11, 9, rfl, lay_X11, by decide, tw_544⟩
theorem kfX11_63 : ux_FL RX11 63 11 8 := ⟨RX11, TX11, 9, rfl, lay_X11, by decide, tw_548⟩
theorem kvX11_103 : ux_LV RX11 103 9 yX9_remove cX9_remove 1 none 0 := ⟨⟨TX9, 4, rfl⟩, tw_726, tw_727, tw_728, tw_83, tw_729, ⟨by decide, by decide, by decide +kernel⟩⟩
theorem kfX11_50 : ux_FL RX11 50 11 6 := ⟨RX11, TX11, 9, rfl, lay_X11, by decide, tw_546⟩
theorem kvX11_68 : ux_LV RX11 68 6 yX6_learnForests cX6_learnForests 5 none 0 := ⟨⟨TX6, 19, rfl⟩, tw_421, tw_422, tw_423, tw_77, tw_424, ⟨by decide, by decide, by decide +kernel⟩⟩
theorem kvX11_71 : ux_LV RX11 71 6 yX6_refresh cX6_refresh 3 (some .int) 0 := ⟨⟨TX6, 19, rfl⟩, tw_469, tw_470, tw_471, tw_77, tw_472, ⟨by decide, by decide, by decide +kernel⟩⟩
theorem kfX11_106 : ux_FL RX11 106 4 1 := ⟨RX4, TX4, 7, rfl, lay_X4, by decide, tw_175⟩
theorem kfX11_255 : ux_FL RX11 255 3 1 := ⟨RX3, TX3, 11, rfl, lay_X3, by decide, tw_114⟩
theorem kvX11_109 : ux_LV RX11 109 11 yX11_isLine cX11_isLine 2 (some .boolean) 1 := ⟨⟨TX11, 9, rfl⟩, tw_734, tw_736, tw_16, tw_72, tw_737, ⟨by decide, by decide, by decide +kernel⟩⟩
theorem kfX11_113 : ux_FL RX11 113 3 4 := ⟨RX3, TX3, 11, rfl, lay_X3, by decide, tw_124⟩
theorem kfX11_117 : ux_FL RX11 117 3 5 := ⟨RX3, TX3, 11, rfl, lay_X3, by decide, tw_127⟩
theorem kfX11_120 : ux_FL RX11 120 8 2 := ⟨RX8, TX8, 5, rfl, lay_X8, by decide, tw_215⟩
theorem kfX11_123 : ux_FL RX11 123 6 2 := ⟨RX6, TX6, 19, rfl, lay_X6, by decide, tw_327⟩
theorem kvX11_126 : ux_LV RX11 126 6 yX6_meterOf cX6_meterOf 2 (some .int) 1 := ⟨⟨TX6, 19, rfl⟩, tw_738, tw_739, tw_740, tw_77, tw_741, ⟨by decide, by decide, by decide +kernel⟩⟩
theorem kfX11_170 : ux_FL RX11 170 8 0 := ⟨RX8, TX8, 5, rfl, lay_X8, by decide, tw_207⟩
theorem kvX11_130 : ux_LV RX11 130 11 yX11_isMeter cX11_isMeter 2 (some .boolean) 1 := ⟨⟨TX11, 9, rfl⟩, tw_775, tw_777, tw_21, tw_72, tw_778, ⟨by decide, by decide, by decide +kernel⟩⟩
theorem kfX11_133 : ux_FL RX11 133 8 3 := ⟨RX8, TX8, 5, rfl, lay_X8, by decide, tw_218⟩
theorem kfX11_136 : ux_FL RX11 136 8 4 := ⟨RX8, TX8, 5, rfl, lay_X8, by decide, tw_221⟩
theorem kfX11_139 : ux_FL RX11 139 8 1 := ⟨RX8, TX8, 5, rfl, lay_X8, by decide, tw_211⟩
theorem kfX11_142 : ux_FL RX11 142 6 3 := ⟨RX6, TX6, 19, rfl, lay_X6, by decide, tw_329⟩
theorem kvX11_145 : ux_LV RX11 145 6 yX6_lineOf cX6_lineOf 2 (some .int) 1 := ⟨⟨TX6, 19, rfl⟩, tw_779, tw_780, tw_781, tw_77, tw_782, ⟨by decide, by decide, by decide +kernel⟩⟩
theorem kvX11_148 : ux_LV RX11 148 6 yX6_isCritical cX6_isCritical 3 (some .boolean) 1 := ⟨⟨TX6, 19, rfl⟩, tw_783, tw_784, tw_785, tw_77, tw_786, ⟨by decide, by decide, by decide +kernel⟩⟩
theorem kfX11_151 : ux_FL RX11 151 3 3 := ⟨RX3, TX3, 11, rfl, lay_X3, by decide, tw_119⟩
theorem kfX11_154 : ux_FL RX11 154 3 8 := ⟨RX3, TX3, 11, rfl, lay_X3, by decide, tw_133⟩
theorem kfX11_157 : ux_FL RX11 157 3 9 := ⟨RX3, TX3, 11, rfl, lay_X3, by decide, tw_136⟩
theorem kfX11_160 : ux_FL RX11 160 3 10 := ⟨RX3, TX3, 11, rfl, lay_X3, by decide, tw_139⟩
theorem kvX11_163 : ux_LV RX11 163 6 yX6_gain cX6_gain 3 (some .int) 2 := ⟨⟨TX6, 19, rfl⟩, tw_791, tw_792, tw_793, tw_77, tw_794, ⟨by decide, by decide, by decide +kernel⟩⟩
theorem kvX11_267 : ux_LV RX11 267 3 yX3_hasPlace cX3_hasPlace 3 (some .boolean) 2 := ⟨⟨TX3, 11, rfl⟩, tw_807, tw_486, tw_487, tw_73, tw_488, ⟨by decide, by decide, by decide +kernel⟩⟩
theorem kvX11_167 : ux_LV RX11 167 11 yX11_refusePlace cX11_refusePlace 3 (some .int) 2 := ⟨⟨TX11, 9, rfl⟩, tw_803, tw_805, tw_22, tw_72, tw_806, ⟨by decide, by decide, by decide +kernel⟩⟩
theorem kvX11_173 : ux_LV RX11 173 8 yX8_addMeter cX8_addMeter 3 (some .int) 2 := ⟨⟨TX8, 5, rfl⟩, tw_808, tw_809, tw_810, tw_75, tw_811, ⟨by decide, by decide, by decide +kernel⟩⟩
theorem kvX11_176 : ux_LV RX11 176 1 yX1_note cX1_note 3 none 2 := ⟨⟨TX1, 3, rfl⟩, tw_812, tw_813, tw_814, tw_76, tw_815, ⟨by decide, by decide, by decide +kernel⟩⟩
theorem kpX11_139 : ux_FP RX11 139 8 1 .int := ⟨RX8, TX8, 5, rfl, lay_X8, by decide, tw_211, tyX8, tyX8_ok, nmX8, rfl, by decide +kernel⟩
theorem kpX11_120 : ux_FP RX11 120 8 2 .int := ⟨RX8, TX8, 5, rfl, lay_X8, by decide, tw_215, tyX8, tyX8_ok, nmX8, rfl, by decide +kernel⟩
theorem kfX11_100 : ux_FL RX11 100 1 0 := ⟨RX1, TX1, 3, rfl, lay_X1, by decide, tw_241⟩
theorem kvX11_180 : ux_LV RX11 180 1 yX1_revertLatest cX1_revertLatest 3 none 1 := ⟨⟨TX1, 3, rfl⟩, tw_833, tw_834, tw_835, tw_76, tw_836, ⟨by decide, by decide, by decide +kernel⟩⟩
theorem kfX11_30 : ux_FL RX11 30 11 3 := ⟨RX11, TX11, 9, rfl, lay_X11, by decide, tw_543⟩
theorem kvX11_184 : ux_LV RX11 184 8 yX8_copyFrom cX8_copyFrom 2 none 1 := ⟨⟨TX8, 5, rfl⟩, tw_841, tw_842, tw_843, tw_75, tw_844, ⟨by decide, by decide, by decide +kernel⟩⟩
theorem kfX11_186 : ux_FL RX11 186 6 0 := ⟨RX6, TX6, 19, rfl, lay_X6, by decide, tw_323⟩
theorem kfX11_189 : ux_FL RX11 189 3 0 := ⟨RX3, TX3, 11, rfl, lay_X3, by decide, tw_110⟩
theorem kvX11_192 : ux_LV RX11 192 6 yX6_islandOf cX6_islandOf 4 (some .int) 1 := ⟨⟨TX6, 19, rfl⟩, tw_853, tw_854, tw_855, tw_77, tw_856, ⟨by decide, by decide, by decide +kernel⟩⟩
theorem kvX11_195 : ux_LV RX11 195 6 yX6_weakSet cX6_weakSet 1 (some .int) 0 := ⟨⟨TX6, 19, rfl⟩, tw_861, tw_862, tw_863, tw_77, tw_864, ⟨by decide, by decide, by decide +kernel⟩⟩
theorem kvX11_203 : ux_LV RX11 203 6 yX6_dealSet cX6_dealSet 1 (some .int) 0 := ⟨⟨TX6, 19, rfl⟩, tw_882, tw_883, tw_884, tw_77, tw_885, ⟨by decide, by decide, by decide +kernel⟩⟩
theorem kvX11_206 : ux_LV RX11 206 3 yX3_priceOf cX3_priceOf 4 (some .int) 1 := ⟨⟨TX3, 11, rfl⟩, tw_898, tw_895, tw_896, tw_73, tw_897, ⟨by decide, by decide, by decide +kernel⟩⟩
theorem kvX11_209 : ux_LV RX11 209 6 yX6_lossOf cX6_lossOf 4 (some .int) 1 := ⟨⟨TX6, 19, rfl⟩, tw_903, tw_904, tw_905, tw_77, tw_906, ⟨by decide, by decide, by decide +kernel⟩⟩
theorem kfX11_57 : ux_FL RX11 57 11 7 := ⟨RX11, TX11, 9, rfl, lay_X11, by decide, tw_547⟩
theorem kvX11_212 : ux_LV RX11 212 7 yX7_add cX7_add 3 (some .boolean) 2 := ⟨⟨TX7, 3, rfl⟩, tw_915, tw_916, tw_917, tw_82, tw_918, ⟨by decide, by decide, by decide +kernel⟩⟩
theorem kfX11_216 : ux_FL RX11 216 7 0 := ⟨RX7, TX7, 3, rfl, lay_X7, by decide, tw_391⟩
theorem kpX11_216 : ux_FP RX11 216 7 0 .int := ⟨RX7, TX7, 3, rfl, lay_X7, by decide, tw_391, tyX7, tyX7_ok, nmX7, rfl, by decide +kernel⟩
theorem kvX11_270 : ux_LV RX11 270 3 yX3_allLines cX3_allLines 1 (some .int) 0 := ⟨⟨TX3, 11, rfl⟩, tw_931, tw_434, tw_435, tw_73, tw_436, ⟨by decide, by decide, by decide +kernel⟩⟩
theorem kvX11_217 : ux_LV RX11 217 11 yX11_openLines cX11_openLines 1 (some .int) 0 := ⟨⟨TX11, 9, rfl⟩, tw_927, tw_929, tw_26, tw_72, tw_930, ⟨by decide, by decide, by decide +kernel⟩⟩
theorem kvX11_220 : ux_LV RX11 220 7 yX7_fitting cX7_fitting 5 (some .int) 2 := ⟨⟨TX7, 3, rfl⟩, tw_932, tw_933, tw_934, tw_82, tw_935, ⟨by decide, by decide, by decide +kernel⟩⟩
theorem kvX11_224 : ux_LV RX11 224 7 yX7_bestPlace cX7_bestPlace 8 (some .int) 2 := ⟨⟨TX7, 3, rfl⟩, tw_946, tw_947, tw_948, tw_82, tw_949, ⟨by decide, by decide, by decide +kernel⟩⟩
theorem ksX11_227 : ux_LS RX11 227 yX11_isTray cX11_isTray 1 (some .boolean) 1 := ⟨tw_963, tw_964, tw_72, tw_965, ⟨by decide, by decide, by decide +kernel⟩⟩
theorem kvX11_230 : ux_LV RX11 230 9 yX9_renew cX9_renew 1 none 0 := ⟨⟨TX9, 4, rfl⟩, tw_966, tw_967, tw_968, tw_83, tw_969, ⟨by decide, by decide, by decide +kernel⟩⟩
theorem ksX11_233 : ux_LS RX11 233 yX11_canBeLaid cX11_canBeLaid 2 (some .boolean) 2 := ⟨tw_974, tw_975, tw_72, tw_976, ⟨by decide, by decide, by decide +kernel⟩⟩
theorem kvX11_236 : ux_LV RX11 236 9 yX9_push cX9_push 3 (some .int) 2 := ⟨⟨TX9, 4, rfl⟩, tw_977, tw_978, tw_979, tw_83, tw_980, ⟨by decide, by decide, by decide +kernel⟩⟩
theorem ksX11_239 : ux_LS RX11 239 yX11_isKind cX11_isKind 1 (some .boolean) 1 := ⟨tw_985, tw_986, tw_72, tw_987, ⟨by decide, by decide, by decide +kernel⟩⟩
theorem kvX11_242 : ux_LV RX11 242 9 yX9_pop cX9_pop 2 (some .int) 1 := ⟨⟨TX9, 4, rfl⟩, tw_988, tw_989, tw_990, tw_83, tw_991, ⟨by decide, by decide, by decide +kernel⟩⟩
theorem kvX11_245 : ux_LV RX11 245 9 yX9_together cX9_together 6 (some .int) 1 := ⟨⟨TX9, 4, rfl⟩, tw_997, tw_998, tw_999, tw_83, tw_1000, ⟨by decide, by decide, by decide +kernel⟩⟩
theorem kvX11_248 : ux_LV RX11 248 9 yX9_isMissing cX9_isMissing 1 (some .boolean) 0 := ⟨⟨TX9, 4, rfl⟩, tw_1006, tw_1007, tw_1008, tw_83, tw_1009, ⟨by decide, by decide, by decide +kernel⟩⟩
theorem kvX11_252 : ux_LV RX11 252 9 yX9_things cX9_things 1 (some .int) 0 := ⟨⟨TX9, 4, rfl⟩, tw_1010, tw_1011, tw_1012, tw_83, tw_1013, ⟨by decide, by decide, by decide +kernel⟩⟩
theorem kfX11_258 : ux_FL RX11 258 6 1 := ⟨RX6, TX6, 19, rfl, lay_X6, by decide, tw_325⟩
theorem kvX11_261 : ux_LV RX11 261 6 yX6_spares cX6_spares 1 (some .int) 0 := ⟨⟨TX6, 19, rfl⟩, tw_1018, tw_1019, tw_1020, tw_77, tw_1021, ⟨by decide, by decide, by decide +kernel⟩⟩
theorem kvX11_264 : ux_LV RX11 264 11 yX11_thingsOfAllTrays cX11_thingsOfAllTrays 3 (some .int) 0 := ⟨⟨TX11, 9, rfl⟩, tw_1022, tw_1024, tw_28, tw_72, tw_1025, ⟨by decide, by decide, by decide +kernel⟩⟩
def fX11_write_11 (N : ux_N) : Option (Int32 × ux_N) :=
  some ((-3 : Int32), N)
set_option maxHeartbeats 4000000 in
set_option maxRecDepth 20000 in
theorem wX11_write_11 {X : ux_X} (C : ux_C X cX11_write RX11 2 (some .int) 1 21 shC)   {N : ux_N} {L : ux_L} {o : Int32 × ux_N} (hq : ux_Qi X o.1 o.2 L) (h : fX11_write_11 N = some o) : ux_Wt X 2 11 [] [] N L := by
  refine wt_bipush 13 (-3) C dX11_write_11 rfl (by decide) ?_
  cases h
  exact wt_iret C hq dX11_write_13
def fX11_write_38 (s0 : Int32) (N : ux_N) : Option (Int32 × ux_N) :=
  some (s0, N)
set_option maxHeartbeats 4000000 in
set_option maxRecDepth 20000 in
theorem wX11_write_38 {X : ux_X} (C : ux_C X cX11_write RX11 2 (some .int) 1 21 shC) {s0 : Int32}  {N : ux_N} {L : ux_L} {o : Int32 × ux_N} (hq : ux_Qi X o.1 o.2 L) (h : fX11_write_38 s0 N = some o) : ux_Wt X 2 38 [] [.int s0] N L := by
  cases h
  exact wt_iret C hq dX11_write_38
def fX11_write (v1 : Int32) (N : ux_N) : Option (Int32 × ux_N) :=
  if v1 < 0 then (fX11_write_11 N) else (if v1 ≤ (255 : Int32) then ((fX4_append ((v1.toUInt32 % 65536).toInt32) N).bind (fun o3 => if o3.1 = 0 then (fX11_write_38 (-5 : Int32) o3.2) else (fX11_write_38 (o3.2 9 0) o3.2))) else (fX11_write_11 N))
set_option maxHeartbeats 4000000 in
set_option maxRecDepth 20000 in
theorem wX11_write {X : ux_X} (C : ux_C X cX11_write RX11 2 (some .int) 1 21 shC) {v1 : Int32}  {N : ux_N} {L : ux_L} {o : Int32 × ux_N} (hq : ux_Qi X o.1 o.2 L) (h : fX11_write v1 N = some o) : ux_Wt X 2 0 [(0, .ref (ux_ad X 0)), (1, .int v1)] [] N L := by
  refine wt_iload_n 1 1 C dX11_write_0 rfl rfl ?_
  refine wt_if_lt 4 11 C dX11_write_1 rfl (by decide) (fun q1 => ?_) (fun q1 => ?_)
  · have h := (if_pos q1).symm.trans h
    refine wt_sub [] rfl ?_
    exact wX11_write_11 C hq h
  · have h := (if_neg q1).symm.trans h
    refine wt_iload_n 5 1 C dX11_write_4 rfl rfl ?_
    refine wt_sipush 8 255 C dX11_write_5 rfl (by decide) ?_
    refine wt_icmp_le 11 14 C dX11_write_8 rfl (by decide) (fun q2 => ?_) (fun q2 => ?_)
    · have h := (if_pos q2).symm.trans h
      refine wt_aload_n 15 0 C dX11_write_14 rfl rfl ?_
      refine wt_getR 18 C kfX11_19 sc_0 rfl dX11_write_15 rfl ?_
      refine wt_iload_n 19 1 C dX11_write_18 rfl rfl ?_
      refine wt_i2c 20 C dX11_write_19 rfl ?_
      obtain ⟨o3, hc4, h⟩ := Option.bind_eq_some_iff.mp h
      refine wt_callVi 23 [] C kvX11_75 sc_9 (mX4_append (cx_ok C)  hc4) rfl rfl ⟨Nat.le_of_ble_eq_true rfl, Nat.le_of_ble_eq_true rfl⟩ (Nat.le_of_ble_eq_true rfl) dX11_write_20 rfl ?_
      refine wt_if_eq 26 36 C dX11_write_23 rfl (by decide) (fun q5 => ?_) (fun q5 => ?_)
      · have h := (if_pos q5).symm.trans h
        refine wt_bipush 38 (-5) C dX11_write_36 rfl (by decide) ?_
        refine wt_sub [] rfl ?_
        exact wX11_write_38 C hq h
      · have h := (if_neg q5).symm.trans h
        refine wt_aload_n 27 0 C dX11_write_26 rfl rfl ?_
        refine wt_getR 30 C kfX11_19 sc_0 rfl dX11_write_27 rfl ?_
        refine wt_getI 33 C kfX11_79 sc_9 rfl dX11_write_30 rfl ?_
        refine wt_goto 38 C dX11_write_33 (by decide) ?_
        refine wt_sub [] rfl ?_
        exact wX11_write_38 C hq h
    · have h := (if_neg q2).symm.trans h
      refine wt_sub [] rfl ?_
      exact wX11_write_11 C hq h
theorem mX11_write {l : Launch} {G : ux_G} (hok : ux_ok G shC) {v1 : Int32}  {N : ux_N} {L : ux_L} {o : Int32 × ux_N} (h : fX11_write v1 N = some o) : ux_Mi l G yX11_write cX11_write 2 (some .int) 1 21 [.ref (gad G 0), .int v1] N L o.1 o.2 L :=
  ux_ofi shC hok (by decide +kernel) (Nat.le_of_ble_eq_true rfl) (fun X hG hl C hq => by subst hG; subst hl; exact wX11_write C  hq h)
def fX11_erase (N : ux_N) : Option (Int32 × ux_N) :=
  (fX4_empty N).bind (fun o1 => some (o1.1, o1.2))
set_option maxHeartbeats 4000000 in
set_option maxRecDepth 20000 in
theorem wX11_erase {X : ux_X} (C : ux_C X cX11_erase RX11 1 (some .int) 1 21 shC)   {N : ux_N} {L : ux_L} {o : Int32 × ux_N} (hq : ux_Qi X o.1 o.2 L) (h : fX11_erase N = some o) : ux_Wt X 1 0 [(0, .ref (ux_ad X 0))] [] N L := by
  refine wt_aload_n 1 0 C dX11_erase_0 rfl rfl ?_
  refine wt_getR 4 C kfX11_19 sc_0 rfl dX11_erase_1 rfl ?_
  obtain ⟨o1, hc2, h⟩ := Option.bind_eq_some_iff.mp h
  refine wt_callVi 7 [] C kvX11_83 sc_9 (mX4_empty (cx_ok C)  hc2) rfl rfl ⟨Nat.le_of_ble_eq_true rfl, Nat.le_of_ble_eq_true rfl⟩ (Nat.le_of_ble_eq_true rfl) dX11_erase_4 rfl ?_
  cases h
  exact wt_iret C hq dX11_erase_7
theorem mX11_erase {l : Launch} {G : ux_G} (hok : ux_ok G shC)   {N : ux_N} {L : ux_L} {o : Int32 × ux_N} (h : fX11_erase N = some o) : ux_Mi l G yX11_erase cX11_erase 1 (some .int) 1 21 [.ref (gad G 0)] N L o.1 o.2 L :=
  ux_ofi shC hok (by decide +kernel) (Nat.le_of_ble_eq_true rfl) (fun X hG hl C hq => by subst hG; subst hl; exact wX11_erase C  hq h)
def fX11_fault (N : ux_N) : Option (Int32 × ux_N) :=
  (fX4_findFault 1 N).bind (fun o1 => some (o1.1, o1.2))
set_option maxHeartbeats 4000000 in
set_option maxRecDepth 20000 in
theorem wX11_fault {X : ux_X} (C : ux_C X cX11_fault RX11 1 (some .int) 8 170 shC)   {N : ux_N} {L : ux_L} {o : Int32 × ux_N} (hq : ux_Qi X o.1 o.2 L) (h : fX11_fault N = some o) : ux_Wt X 1 0 [(0, .ref (ux_ad X 0))] [] N L := by
  refine wt_aload_n 1 0 C dX11_fault_0 rfl rfl ?_
  refine wt_getR 4 C kfX11_19 sc_0 rfl dX11_fault_1 rfl ?_
  refine wt_aload_n 5 0 C dX11_fault_4 rfl rfl ?_
  refine wt_getR 8 C kfX11_10 sc_0 rfl dX11_fault_5 rfl ?_
  obtain ⟨o1, hc2, h⟩ := Option.bind_eq_some_iff.mp h
  refine wt_callVi 11 [] C kvX11_86 sc_9 (mX4_findFault (cx_ok C) (is3_1) hc2) rfl rfl ⟨Nat.le_of_ble_eq_true rfl, Nat.le_of_ble_eq_true rfl⟩ (Nat.le_of_ble_eq_true rfl) dX11_fault_8 rfl ?_
  cases h
  exact wt_iret C hq dX11_fault_11
theorem mX11_fault {l : Launch} {G : ux_G} (hok : ux_ok G shC)   {N : ux_N} {L : ux_L} {o : Int32 × ux_N} (h : fX11_fault N = some o) : ux_Mi l G yX11_fault cX11_fault 1 (some .int) 8 170 [.ref (gad G 0)] N L o.1 o.2 L :=
  ux_ofi shC hok (by decide +kernel) (Nat.le_of_ble_eq_true rfl) (fun X hG hl C hq => by subst hG; subst hl; exact wX11_fault C  hq h)
def fX11_grid_61b (v1 : Int32) (N : ux_N) (L : ux_L) : Option ((Int32 × ux_N) ⊕ (ux_N)) :=
  if (2 : Int32) ≤ v1 then (some (.inr (N))) else (if ux_in v1 2 then (some (.inl ((v1 + 1), (ux_u N 29 (v1.toNatClampNeg) (vp_nar .boolean (0 : Int32)))))) else none)
set_option maxHeartbeats 4000000 in
set_option maxRecDepth 20000 in
theorem wX11_grid_61b {X : ux_X} (C : ux_C X cX11_grid RX11 2 (some .int) 8 170 shC) {v1 : Int32}  {N : ux_N} {L : ux_L} {o : (Int32 × ux_N) ⊕ (ux_N)} (hin : ∀ s : Int32 × ux_N, o = .inl s → ux_Wt X 2 61 [(0, .ref (ux_ad X 0)), (1, .int s.1)] [] s.2 L) (hex0 : ∀ e : ux_N, o = .inr (e) → ux_Wt X 2 79 [(0, .ref (ux_ad X 0))] [] e L) (h : fX11_grid_61b v1 N L = some o) : ux_Wt X 2 61 [(0, .ref (ux_ad X 0)), (1, .int v1)] [] N L := by
  refine wt_iload_n 62 1 C dX11_grid_61 rfl rfl ?_
  refine wt_iconst 63 2 C dX11_grid_62 rfl (by decide) ?_
  refine wt_icmp_ge 66 79 C dX11_grid_63 rfl (by decide) (fun q1 => ?_) (fun q1 => ?_)
  · have h := (if_pos q1).symm.trans h
    refine wt_sub [0] rfl ?_
    exact hex0 _ (Option.some.inj h).symm
  · have h := (if_neg q1).symm.trans h
    refine wt_aload_n 67 0 C dX11_grid_66 rfl rfl ?_
    refine wt_getR 70 C kfX11_34 sc_0 rfl dX11_grid_67 rfl ?_
    refine wt_iload_n 71 1 C dX11_grid_70 rfl rfl ?_
    refine wt_iconst 72 0 C dX11_grid_71 rfl (by decide) ?_
    obtain ⟨hi2, h⟩ := ux_guard h
    refine wt_zast 73 (v1.toNatClampNeg) C sc_29 rfl hi2 dX11_grid_72 rfl ?_
    refine wt_iinc 76 1 [(1, .int (v1 + 1)), (0, .ref (ux_ad X 0))] (v1 + 1) C dX11_grid_73 rfl rfl (by rfl) (by decide) rfl ?_
    refine wt_goto 61 C dX11_grid_76 (by decide) ?_
    refine wt_sub [1, 0] rfl ?_
    exact hin _ (Option.some.inj h).symm
def fX11_grid_81b (v1 : Int32) (N : ux_N) (L : ux_L) : Option ((Int32 × ux_N) ⊕ (ux_N)) :=
  if (3 : Int32) ≤ v1 then (some (.inr (N))) else (if ux_in v1 3 then ((fX9_remove (111 + 3 * v1.toNatClampNeg) N).bind (fun o3 => some (.inl ((v1 + 1), o3)))) else none)
set_option maxHeartbeats 4000000 in
set_option maxRecDepth 20000 in
theorem wX11_grid_81b {X : ux_X} (C : ux_C X cX11_grid RX11 2 (some .int) 8 170 shC) {v1 : Int32}  {N : ux_N} {L : ux_L} {o : (Int32 × ux_N) ⊕ (ux_N)} (hin : ∀ s : Int32 × ux_N, o = .inl s → ux_Wt X 2 81 [(0, .ref (ux_ad X 0)), (1, .int s.1)] [] s.2 L) (hex0 : ∀ e : ux_N, o = .inr (e) → ux_Wt X 2 101 [(0, .ref (ux_ad X 0))] [] e L) (h : fX11_grid_81b v1 N L = some o) : ux_Wt X 2 81 [(0, .ref (ux_ad X 0)), (1, .int v1)] [] N L := by
  refine wt_iload_n 82 1 C dX11_grid_81 rfl rfl ?_
  refine wt_iconst 83 3 C dX11_grid_82 rfl (by decide) ?_
  refine wt_icmp_ge 86 101 C dX11_grid_83 rfl (by decide) (fun q1 => ?_) (fun q1 => ?_)
  · have h := (if_pos q1).symm.trans h
    refine wt_sub [0] rfl ?_
    exact hex0 _ (Option.some.inj h).symm
  · have h := (if_neg q1).symm.trans h
    refine wt_aload_n 87 0 C dX11_grid_86 rfl rfl ?_
    refine wt_getR 90 C kfX11_63 sc_0 rfl dX11_grid_87 rfl ?_
    refine wt_iload_n 91 1 C dX11_grid_90 rfl rfl ?_
    obtain ⟨hi2, h⟩ := ux_guard h
    refine wt_aald 92 (v1.toNatClampNeg) 111 3 C sc_110 rfl (by decide) rfl hi2 dX11_grid_91 rfl ?_
    obtain ⟨o3, hc4, h⟩ := Option.bind_eq_some_iff.mp h
    refine wt_callVv 95 [] C kvX11_103 (is9_arr111 _ (ux_in_lt hi2)).1 (mX9_remove (cx_ok C) (is9_arr111 _ (ux_in_lt hi2)) hc4) rfl rfl ⟨Nat.le_of_ble_eq_true rfl, Nat.le_of_ble_eq_true rfl⟩ (Nat.le_of_ble_eq_true rfl) dX11_grid_92 rfl ?_
    refine wt_iinc 98 1 [(1, .int (v1 + 1)), (0, .ref (ux_ad X 0))] (v1 + 1) C dX11_grid_95 rfl rfl (by rfl) (by decide) rfl ?_
    refine wt_goto 81 C dX11_grid_98 (by decide) ?_
    refine wt_sub [1, 0] rfl ?_
    exact hin _ (Option.some.inj h).symm
def fX11_grid (N : ux_N) (L : ux_L) : Option (Int32 × ux_N × ux_L) :=
  (fX4_findFault 1 N).bind (fun o1 => if o1.1 = (-1 : Int32) then ((fX3_copyFrom 1 10 o1.2).bind (fun o4 => (fX4_empty o4).bind (fun o6 => (fX8_startFrom 19 1 o6.2).bind (fun o8 => (ux_lp (fun s : Int32 × ux_N => fX11_grid_61b s.1 s.2 L) ux_fu ((0 : Int32), (ux_u o8 30 0 (0 : Int32)))).bind (fun e17 => (ux_lp (fun s : Int32 × ux_N => fX11_grid_81b s.1 s.2 L) ux_fu ((0 : Int32), e17)).bind (fun e25 => (fX6_learnForests e25 L).bind (fun o26 => (fX6_refresh o26.1 o26.2).bind (fun o28 => some ((o28.2.1 9 1), o28.2.1, o28.2.2))))))))) else (some ((-4 : Int32), o1.2, L)))
set_option maxHeartbeats 4000000 in
set_option maxRecDepth 20000 in
theorem wX11_grid {X : ux_X} (C : ux_C X cX11_grid RX11 2 (some .int) 8 170 shC)   {N : ux_N} {L : ux_L} {o : Int32 × ux_N × ux_L} (hq : ux_Qi X o.1 o.2.1 o.2.2) (h : fX11_grid N L = some o) : ux_Wt X 2 0 [(0, .ref (ux_ad X 0))] [] N L := by
  refine wt_aload_n 1 0 C dX11_grid_0 rfl rfl ?_
  refine wt_getR 4 C kfX11_19 sc_0 rfl dX11_grid_1 rfl ?_
  refine wt_aload_n 5 0 C dX11_grid_4 rfl rfl ?_
  refine wt_getR 8 C kfX11_10 sc_0 rfl dX11_grid_5 rfl ?_
  obtain ⟨o1, hc2, h⟩ := Option.bind_eq_some_iff.mp h
  refine wt_callVi 11 [] C kvX11_86 sc_9 (mX4_findFault (cx_ok C) (is3_1) hc2) rfl rfl ⟨Nat.le_of_ble_eq_true rfl, Nat.le_of_ble_eq_true rfl⟩ (Nat.le_of_ble_eq_true rfl) dX11_grid_8 rfl ?_
  refine wt_iconst 12 (-1) C dX11_grid_11 rfl (by decide) ?_
  refine wt_icmp_eq 15 18 C dX11_grid_12 rfl (by decide) (fun q3 => ?_) (fun q3 => ?_)
  · have h := (if_pos q3).symm.trans h
    refine wt_aload_n 19 0 C dX11_grid_18 rfl rfl ?_
    refine wt_getR 22 C kfX11_10 sc_0 rfl dX11_grid_19 rfl ?_
    refine wt_aload_n 23 0 C dX11_grid_22 rfl rfl ?_
    refine wt_getR 26 C kfX11_19 sc_0 rfl dX11_grid_23 rfl ?_
    refine wt_getR 29 C kfX11_90 sc_9 rfl dX11_grid_26 rfl ?_
    obtain ⟨o4, hc5, h⟩ := Option.bind_eq_some_iff.mp h
    refine wt_callVv 32 [] C kvX11_93 sc_1 (mX3_copyFrom (cx_ok C) (is3_1) (is3_10) hc5) rfl rfl ⟨Nat.le_of_ble_eq_true rfl, Nat.le_of_ble_eq_true rfl⟩ (Nat.le_of_ble_eq_true rfl) dX11_grid_29 rfl ?_
    refine wt_aload_n 33 0 C dX11_grid_32 rfl rfl ?_
    refine wt_getR 36 C kfX11_19 sc_0 rfl dX11_grid_33 rfl ?_
    obtain ⟨o6, hc7, h⟩ := Option.bind_eq_some_iff.mp h
    refine wt_callVi 39 [] C kvX11_83 sc_9 (mX4_empty (cx_ok C)  hc7) rfl rfl ⟨Nat.le_of_ble_eq_true rfl, Nat.le_of_ble_eq_true rfl⟩ (Nat.le_of_ble_eq_true rfl) dX11_grid_36 rfl ?_
    refine wt_pop 40 C dX11_grid_39 rfl rfl ?_
    refine wt_aload_n 41 0 C dX11_grid_40 rfl rfl ?_
    refine wt_getR 44 C kfX11_26 sc_0 rfl dX11_grid_41 rfl ?_
    refine wt_aload_n 45 0 C dX11_grid_44 rfl rfl ?_
    refine wt_getR 48 C kfX11_10 sc_0 rfl dX11_grid_45 rfl ?_
    obtain ⟨o8, hc9, h⟩ := Option.bind_eq_some_iff.mp h
    refine wt_callVv 51 [] C kvX11_97 sc_19 (mX8_startFrom (cx_ok C) (is8_19) (is3_1) hc9) rfl rfl ⟨Nat.le_of_ble_eq_true rfl, Nat.le_of_ble_eq_true rfl⟩ (Nat.le_of_ble_eq_true rfl) dX11_grid_48 rfl ?_
    refine wt_aload_n 52 0 C dX11_grid_51 rfl rfl ?_
    refine wt_getR 55 C kfX11_41 sc_0 rfl dX11_grid_52 rfl ?_
    refine wt_iconst 56 0 C dX11_grid_55 rfl (by decide) ?_
    refine wt_putI 59 C kpX11_100 sc_30 rfl rfl rfl dX11_grid_56 rfl ?_
    refine wt_iconst 60 0 C dX11_grid_59 rfl (by decide) ?_
    refine wt_istore_n 61 [(1, .int (0 : Int32)), (0, .ref (ux_ad X 0))] C dX11_grid_60 rfl (by decide) rfl ?_
    obtain ⟨e10, hl11, h⟩ := Option.bind_eq_some_iff.mp h
    refine wt_sub [1, 0] rfl ?_
    refine ux_loop (fun s : Int32 × ux_N => fX11_grid_61b s.1 s.2 L) (fun s : Int32 × ux_N => ux_Wt X 2 61 [(0, .ref (ux_ad X 0)), (1, .int s.1)] [] s.2 L) (e := e10) ?_ hl11
    intro s12 o13 hb14 hi15 hx16
    refine wX11_grid_61b C hi15 (fun x0 he => ?_) hb14
    · obtain ⟨e17, rfl⟩ : ∃ z, z = x0 := ⟨_, rfl⟩
      have h9 := hx16 _ he
      subst h9
      refine wt_iconst 80 0 C dX11_grid_79 rfl (by decide) ?_
      refine wt_istore_n 81 [(1, .int (0 : Int32)), (0, .ref (ux_ad X 0))] C dX11_grid_80 rfl (by decide) rfl ?_
      obtain ⟨e18, hl19, h⟩ := Option.bind_eq_some_iff.mp h
      refine wt_sub [1, 0] rfl ?_
      refine ux_loop (fun s : Int32 × ux_N => fX11_grid_81b s.1 s.2 L) (fun s : Int32 × ux_N => ux_Wt X 2 81 [(0, .ref (ux_ad X 0)), (1, .int s.1)] [] s.2 L) (e := e18) ?_ hl19
      intro s20 o21 hb22 hi23 hx24
      refine wX11_grid_81b C hi23 (fun x0 he => ?_) hb22
      · obtain ⟨e25, rfl⟩ : ∃ z, z = x0 := ⟨_, rfl⟩
        have h9 := hx24 _ he
        subst h9
        refine wt_aload_n 102 0 C dX11_grid_101 rfl rfl ?_
        refine wt_getR 105 C kfX11_50 sc_0 rfl dX11_grid_102 rfl ?_
        obtain ⟨o26, hc27, h⟩ := Option.bind_eq_some_iff.mp h
        refine wt_callVv 108 [] C kvX11_68 sc_33 (mX6_learnForests (cx_ok C)  hc27) rfl rfl ⟨Nat.le_of_ble_eq_true rfl, Nat.le_of_ble_eq_true rfl⟩ (Nat.le_of_ble_eq_true rfl) dX11_grid_105 rfl ?_
        refine wt_aload_n 109 0 C dX11_grid_108 rfl rfl ?_
        refine wt_getR 112 C kfX11_50 sc_0 rfl dX11_grid_109 rfl ?_
        obtain ⟨o28, hc29, h⟩ := Option.bind_eq_some_iff.mp h
        refine wt_callVi 115 [] C kvX11_71 sc_33 (mX6_refresh (cx_ok C)  hc29) rfl rfl ⟨Nat.le_of_ble_eq_true rfl, Nat.le_of_ble_eq_true rfl⟩ (Nat.le_of_ble_eq_true rfl) dX11_grid_112 rfl ?_
        refine wt_pop 116 C dX11_grid_115 rfl rfl ?_
        refine wt_aload_n 117 0 C dX11_grid_116 rfl rfl ?_
        refine wt_getR 120 C kfX11_19 sc_0 rfl dX11_grid_117 rfl ?_
        refine wt_getI 123 C kfX11_106 sc_9 rfl dX11_grid_120 rfl ?_
        cases h
        exact wt_iret C hq dX11_grid_123
  · have h := (if_neg q3).symm.trans h
    refine wt_bipush 17 (-4) C dX11_grid_15 rfl (by decide) ?_
    cases h
    exact wt_iret C hq dX11_grid_17
theorem mX11_grid {l : Launch} {G : ux_G} (hok : ux_ok G shC)   {N : ux_N} {L : ux_L} {o : Int32 × ux_N × ux_L} (h : fX11_grid N L = some o) : ux_Mi l G yX11_grid cX11_grid 2 (some .int) 8 170 [.ref (gad G 0)] N L o.1 o.2.1 o.2.2 :=
  ux_ofi shC hok (by decide +kernel) (Nat.le_of_ble_eq_true rfl) (fun X hG hl C hq => by subst hG; subst hl; exact wX11_grid C  hq h)
def fX11_isLine_20 (s0 : Int32) (N : ux_N) : Option (Int32) :=
  if ux_b s0 then (some s0) else none
set_option maxHeartbeats 4000000 in
set_option maxRecDepth 20000 in
theorem wX11_isLine_20 {X : ux_X} (C : ux_C X cX11_isLine RX11 2 (some .boolean) 0 0 shC) {s0 : Int32}  {N : ux_N} {L : ux_L} {o : Int32} (hq : ux_Qi X o N L) (h : fX11_isLine_20 s0 N = some o) : ux_Wt X 2 20 [] [.int s0] N L := by
  obtain ⟨hb1, h⟩ := ux_guard h
  cases h
  exact wt_zret C (ux_b_n hb1).1 hq dX11_isLine_20
def fX11_isLine_19 (N : ux_N) : Option (Int32) :=
  fX11_isLine_20 (0 : Int32) N
set_option maxHeartbeats 4000000 in
set_option maxRecDepth 20000 in
theorem wX11_isLine_19 {X : ux_X} (C : ux_C X cX11_isLine RX11 2 (some .boolean) 0 0 shC)   {N : ux_N} {L : ux_L} {o : Int32} (hq : ux_Qi X o N L) (h : fX11_isLine_19 N = some o) : ux_Wt X 2 19 [] [] N L := by
  refine wt_iconst 20 0 C dX11_isLine_19 rfl (by decide) ?_
  exact wX11_isLine_20 C hq h
def fX11_isLine (v1 : Int32) (N : ux_N) : Option (Int32) :=
  if v1 < 0 then (fX11_isLine_19 N) else (if (N 1 1) ≤ v1 then (fX11_isLine_19 N) else (fX11_isLine_20 (1 : Int32) N))
set_option maxHeartbeats 4000000 in
set_option maxRecDepth 20000 in
theorem wX11_isLine {X : ux_X} (C : ux_C X cX11_isLine RX11 2 (some .boolean) 0 0 shC) {v1 : Int32}  {N : ux_N} {L : ux_L} {o : Int32} (hq : ux_Qi X o N L) (h : fX11_isLine v1 N = some o) : ux_Wt X 2 0 [(0, .ref (ux_ad X 0)), (1, .int v1)] [] N L := by
  refine wt_iload_n 1 1 C dX11_isLine_0 rfl rfl ?_
  refine wt_if_lt 4 19 C dX11_isLine_1 rfl (by decide) (fun q1 => ?_) (fun q1 => ?_)
  · have h := (if_pos q1).symm.trans h
    refine wt_sub [] rfl ?_
    exact wX11_isLine_19 C hq h
  · have h := (if_neg q1).symm.trans h
    refine wt_iload_n 5 1 C dX11_isLine_4 rfl rfl ?_
    refine wt_aload_n 6 0 C dX11_isLine_5 rfl rfl ?_
    refine wt_getR 9 C kfX11_10 sc_0 rfl dX11_isLine_6 rfl ?_
    refine wt_getI 12 C kfX11_255 sc_1 rfl dX11_isLine_9 rfl ?_
    refine wt_icmp_ge 15 19 C dX11_isLine_12 rfl (by decide) (fun q2 => ?_) (fun q2 => ?_)
    · have h := (if_pos q2).symm.trans h
      refine wt_sub [] rfl ?_
      exact wX11_isLine_19 C hq h
    · have h := (if_neg q2).symm.trans h
      refine wt_iconst 16 1 C dX11_isLine_15 rfl (by decide) ?_
      refine wt_goto 20 C dX11_isLine_16 (by decide) ?_
      refine wt_sub [] rfl ?_
      exact wX11_isLine_20 C hq h
theorem mX11_isLine {l : Launch} {G : ux_G} (hok : ux_ok G shC) {v1 : Int32}  {N : ux_N} {L : ux_L} {o : Int32} (h : fX11_isLine v1 N = some o) : ux_Mi l G yX11_isLine cX11_isLine 2 (some .boolean) 0 0 [.ref (gad G 0), .int v1] N L o N L :=
  ux_ofi shC hok (by decide +kernel) (Nat.le_of_ble_eq_true rfl) (fun X hG hl C hq => by subst hG; subst hl; exact wX11_isLine C  hq h)
def fX11_line (v1 : Int32) (v2 : Int32) (N : ux_N) : Option (Int32 × ux_N) :=
  (fX11_isLine v1 N).bind (fun o1 => if o1 = 0 then (some ((-2 : Int32), N)) else (if v2 = (0 : Int32) then (if ux_in v1 10 then (some ((N 2 (v1.toNatClampNeg)), N)) else none) else (if v2 = (1 : Int32) then (if ux_in v1 10 then (some ((N 3 (v1.toNatClampNeg)), N)) else none) else (if v2 = (2 : Int32) then (some ((((N 19 2) >>> (v1 &&& 31)) &&& (1 : Int32)), N)) else (if v2 = (3 : Int32) then (some ((((N 33 2) >>> (v1 &&& 31)) &&& (1 : Int32)), N)) else (if v2 = (4 : Int32) then ((fX6_meterOf v1 N).bind (fun o11 => some (o11.1, o11.2))) else (some ((-3 : Int32), N))))))))
set_option maxHeartbeats 4000000 in
set_option maxRecDepth 20000 in
theorem wX11_line {X : ux_X} (C : ux_C X cX11_line RX11 3 (some .int) 6 133 shC) {v1 : Int32} {v2 : Int32}  {N : ux_N} {L : ux_L} {o : Int32 × ux_N} (hq : ux_Qi X o.1 o.2 L) (h : fX11_line v1 v2 N = some o) : ux_Wt X 3 0 [(0, .ref (ux_ad X 0)), (1, .int v1), (2, .int v2)] [] N L := by
  refine wt_aload_n 1 0 C dX11_line_0 rfl rfl ?_
  refine wt_iload_n 2 1 C dX11_line_1 rfl rfl ?_
  obtain ⟨o1, hc2, h⟩ := Option.bind_eq_some_iff.mp h
  refine wt_callVi 5 [] C kvX11_109 sc_0 (mX11_isLine (cx_ok C)  hc2) rfl rfl ⟨Nat.le_of_ble_eq_true rfl, Nat.le_of_ble_eq_true rfl⟩ (Nat.le_of_ble_eq_true rfl) dX11_line_2 rfl ?_
  refine wt_if_ne 8 11 C dX11_line_5 rfl (by decide) (fun q3 => ?_) (fun q3 => ?_)
  · have h := (if_neg q3).symm.trans h
    refine wt_iload_n 12 2 C dX11_line_11 rfl rfl ?_
    by_cases q4 : v2 = (0 : Int32)
    · have h := (if_pos q4).symm.trans h
      refine wt_tin 48 (0) C dX11_line_12 q4 (by decide) (by decide) rfl (by decide) ?_
      refine wt_aload_n 49 0 C dX11_line_48 rfl rfl ?_
      refine wt_getR 52 C kfX11_10 sc_0 rfl dX11_line_49 rfl ?_
      refine wt_getR 55 C kfX11_113 sc_1 rfl dX11_line_52 rfl ?_
      refine wt_iload_n 56 1 C dX11_line_55 rfl rfl ?_
      obtain ⟨hi5, h⟩ := ux_guard h
      refine wt_iald 57 (v1.toNatClampNeg) C sc_2 rfl hi5 dX11_line_56 rfl ?_
      cases h
      exact wt_iret C hq dX11_line_57
    have h := (if_neg q4).symm.trans h
    by_cases q6 : v2 = (1 : Int32)
    · have h := (if_pos q6).symm.trans h
      refine wt_tin 58 (1) C dX11_line_12 q6 (by decide) (by decide) rfl (by decide) ?_
      refine wt_aload_n 59 0 C dX11_line_58 rfl rfl ?_
      refine wt_getR 62 C kfX11_10 sc_0 rfl dX11_line_59 rfl ?_
      refine wt_getR 65 C kfX11_117 sc_1 rfl dX11_line_62 rfl ?_
      refine wt_iload_n 66 1 C dX11_line_65 rfl rfl ?_
      obtain ⟨hi7, h⟩ := ux_guard h
      refine wt_iald 67 (v1.toNatClampNeg) C sc_3 rfl hi7 dX11_line_66 rfl ?_
      cases h
      exact wt_iret C hq dX11_line_67
    have h := (if_neg q6).symm.trans h
    by_cases q8 : v2 = (2 : Int32)
    · have h := (if_pos q8).symm.trans h
      refine wt_tin 68 (2) C dX11_line_12 q8 (by decide) (by decide) rfl (by decide) ?_
      refine wt_aload_n 69 0 C dX11_line_68 rfl rfl ?_
      refine wt_getR 72 C kfX11_26 sc_0 rfl dX11_line_69 rfl ?_
      refine wt_getI 75 C kfX11_120 sc_19 rfl dX11_line_72 rfl ?_
      refine wt_iload_n 76 1 C dX11_line_75 rfl rfl ?_
      refine wt_ishr 77 C dX11_line_76 rfl ?_
      refine wt_iconst 78 1 C dX11_line_77 rfl (by decide) ?_
      refine wt_iand 79 C dX11_line_78 rfl ?_
      cases h
      exact wt_iret C hq dX11_line_79
    have h := (if_neg q8).symm.trans h
    by_cases q9 : v2 = (3 : Int32)
    · have h := (if_pos q9).symm.trans h
      refine wt_tin 80 (3) C dX11_line_12 q9 (by decide) (by decide) rfl (by decide) ?_
      refine wt_aload_n 81 0 C dX11_line_80 rfl rfl ?_
      refine wt_getR 84 C kfX11_50 sc_0 rfl dX11_line_81 rfl ?_
      refine wt_getI 87 C kfX11_123 sc_33 rfl dX11_line_84 rfl ?_
      refine wt_iload_n 88 1 C dX11_line_87 rfl rfl ?_
      refine wt_ishr 89 C dX11_line_88 rfl ?_
      refine wt_iconst 90 1 C dX11_line_89 rfl (by decide) ?_
      refine wt_iand 91 C dX11_line_90 rfl ?_
      cases h
      exact wt_iret C hq dX11_line_91
    have h := (if_neg q9).symm.trans h
    by_cases q10 : v2 = (4 : Int32)
    · have h := (if_pos q10).symm.trans h
      refine wt_tin 92 (4) C dX11_line_12 q10 (by decide) (by decide) rfl (by decide) ?_
      refine wt_aload_n 93 0 C dX11_line_92 rfl rfl ?_
      refine wt_getR 96 C kfX11_50 sc_0 rfl dX11_line_93 rfl ?_
      refine wt_iload_n 97 1 C dX11_line_96 rfl rfl ?_
      obtain ⟨o11, hc12, h⟩ := Option.bind_eq_some_iff.mp h
      refine wt_callVi 100 [] C kvX11_126 sc_33 (mX6_meterOf (cx_ok C)  hc12) rfl rfl ⟨Nat.le_of_ble_eq_true rfl, Nat.le_of_ble_eq_true rfl⟩ (Nat.le_of_ble_eq_true rfl) dX11_line_97 rfl ?_
      cases h
      exact wt_iret C hq dX11_line_100
    have h := (if_neg q10).symm.trans h
    refine wt_tout 101 C dX11_line_12 (by have z0 := lv_neT q4 (show (0 : Int32).toInt = 0 from by decide); have z1 := lv_neT q6 (show (1 : Int32).toInt = 1 from by decide); have z2 := lv_neT q8 (show (2 : Int32).toInt = 2 from by decide); have z3 := lv_neT q9 (show (3 : Int32).toInt = 3 from by decide); have z4 := lv_neT q10 (show (4 : Int32).toInt = 4 from by decide); omega) (by decide) ?_
    refine wt_bipush 103 (-3) C dX11_line_101 rfl (by decide) ?_
    cases h
    exact wt_iret C hq dX11_line_103
  · have h := (if_pos q3).symm.trans h
    refine wt_bipush 10 (-2) C dX11_line_8 rfl (by decide) ?_
    cases h
    exact wt_iret C hq dX11_line_10
theorem mX11_line {l : Launch} {G : ux_G} (hok : ux_ok G shC) {v1 : Int32} {v2 : Int32}  {N : ux_N} {L : ux_L} {o : Int32 × ux_N} (h : fX11_line v1 v2 N = some o) : ux_Mi l G yX11_line cX11_line 3 (some .int) 6 133 [.ref (gad G 0), .int v1, .int v2] N L o.1 o.2 L :=
  ux_ofi shC hok (by decide +kernel) (Nat.le_of_ble_eq_true rfl) (fun X hG hl C hq => by subst hG; subst hl; exact wX11_line C  hq h)
def fX11_isMeter_20 (s0 : Int32) (N : ux_N) : Option (Int32) :=
  if ux_b s0 then (some s0) else none
set_option maxHeartbeats 4000000 in
set_option maxRecDepth 20000 in
theorem wX11_isMeter_20 {X : ux_X} (C : ux_C X cX11_isMeter RX11 2 (some .boolean) 0 0 shC) {s0 : Int32}  {N : ux_N} {L : ux_L} {o : Int32} (hq : ux_Qi X o N L) (h : fX11_isMeter_20 s0 N = some o) : ux_Wt X 2 20 [] [.int s0] N L := by
  obtain ⟨hb1, h⟩ := ux_guard h
  cases h
  exact wt_zret C (ux_b_n hb1).1 hq dX11_isMeter_20
def fX11_isMeter_19 (N : ux_N) : Option (Int32) :=
  fX11_isMeter_20 (0 : Int32) N
set_option maxHeartbeats 4000000 in
set_option maxRecDepth 20000 in
theorem wX11_isMeter_19 {X : ux_X} (C : ux_C X cX11_isMeter RX11 2 (some .boolean) 0 0 shC)   {N : ux_N} {L : ux_L} {o : Int32} (hq : ux_Qi X o N L) (h : fX11_isMeter_19 N = some o) : ux_Wt X 2 19 [] [] N L := by
  refine wt_iconst 20 0 C dX11_isMeter_19 rfl (by decide) ?_
  exact wX11_isMeter_20 C hq h
def fX11_isMeter (v1 : Int32) (N : ux_N) : Option (Int32) :=
  if v1 < 0 then (fX11_isMeter_19 N) else (if (N 19 0) ≤ v1 then (fX11_isMeter_19 N) else (fX11_isMeter_20 (1 : Int32) N))
set_option maxHeartbeats 4000000 in
set_option maxRecDepth 20000 in
theorem wX11_isMeter {X : ux_X} (C : ux_C X cX11_isMeter RX11 2 (some .boolean) 0 0 shC) {v1 : Int32}  {N : ux_N} {L : ux_L} {o : Int32} (hq : ux_Qi X o N L) (h : fX11_isMeter v1 N = some o) : ux_Wt X 2 0 [(0, .ref (ux_ad X 0)), (1, .int v1)] [] N L := by
  refine wt_iload_n 1 1 C dX11_isMeter_0 rfl rfl ?_
  refine wt_if_lt 4 19 C dX11_isMeter_1 rfl (by decide) (fun q1 => ?_) (fun q1 => ?_)
  · have h := (if_pos q1).symm.trans h
    refine wt_sub [] rfl ?_
    exact wX11_isMeter_19 C hq h
  · have h := (if_neg q1).symm.trans h
    refine wt_iload_n 5 1 C dX11_isMeter_4 rfl rfl ?_
    refine wt_aload_n 6 0 C dX11_isMeter_5 rfl rfl ?_
    refine wt_getR 9 C kfX11_26 sc_0 rfl dX11_isMeter_6 rfl ?_
    refine wt_getI 12 C kfX11_170 sc_19 rfl dX11_isMeter_9 rfl ?_
    refine wt_icmp_ge 15 19 C dX11_isMeter_12 rfl (by decide) (fun q2 => ?_) (fun q2 => ?_)
    · have h := (if_pos q2).symm.trans h
      refine wt_sub [] rfl ?_
      exact wX11_isMeter_19 C hq h
    · have h := (if_neg q2).symm.trans h
      refine wt_iconst 16 1 C dX11_isMeter_15 rfl (by decide) ?_
      refine wt_goto 20 C dX11_isMeter_16 (by decide) ?_
      refine wt_sub [] rfl ?_
      exact wX11_isMeter_20 C hq h
theorem mX11_isMeter {l : Launch} {G : ux_G} (hok : ux_ok G shC) {v1 : Int32}  {N : ux_N} {L : ux_L} {o : Int32} (h : fX11_isMeter v1 N = some o) : ux_Mi l G yX11_isMeter cX11_isMeter 2 (some .boolean) 0 0 [.ref (gad G 0), .int v1] N L o N L :=
  ux_ofi shC hok (by decide +kernel) (Nat.le_of_ble_eq_true rfl) (fun X hG hl C hq => by subst hG; subst hl; exact wX11_isMeter C  hq h)
def fX11_meter_119 (s0 : Int32) (N : ux_N) (L : ux_L) : Option (Int32 × ux_N × ux_L) :=
  some (s0, N, L)
set_option maxHeartbeats 4000000 in
set_option maxRecDepth 20000 in
theorem wX11_meter_119 {X : ux_X} (C : ux_C X cX11_meter RX11 3 (some .int) 6 133 shC) {s0 : Int32}  {N : ux_N} {L : ux_L} {o : Int32 × ux_N × ux_L} (hq : ux_Qi X o.1 o.2.1 o.2.2) (h : fX11_meter_119 s0 N L = some o) : ux_Wt X 3 119 [] [.int s0] N L := by
  cases h
  exact wt_iret C hq dX11_meter_119
def fX11_meter (v1 : Int32) (v2 : Int32) (N : ux_N) (L : ux_L) : Option (Int32 × ux_N × ux_L) :=
  (fX11_isMeter v1 N).bind (fun o1 => if o1 = 0 then (some ((-2 : Int32), N, L)) else (if v2 = (0 : Int32) then (if ux_in v1 9 then (some ((N 20 (v1.toNatClampNeg)), N, L)) else none) else (if v2 = (1 : Int32) then (if ux_in v1 9 then (some ((N 21 (v1.toNatClampNeg)), N, L)) else none) else (if v2 = (2 : Int32) then (some ((((N 19 1) >>> (v1 &&& 31)) &&& (1 : Int32)), N, L)) else (if v2 = (3 : Int32) then (if ux_in v1 9 then (some ((N 34 (v1.toNatClampNeg)), N, L)) else none) else (if v2 = (4 : Int32) then ((fX6_lineOf v1 N).bind (fun o12 => some (o12.1, o12.2, L))) else (if v2 = (5 : Int32) then ((fX6_isCritical v1 N L).bind (fun o15 => if o15.1 = 0 then (fX11_meter_119 (0 : Int32) N o15.2) else (fX11_meter_119 (1 : Int32) N o15.2))) else (some ((-3 : Int32), N, L)))))))))
set_option maxHeartbeats 4000000 in
set_option maxRecDepth 20000 in
theorem wX11_meter {X : ux_X} (C : ux_C X cX11_meter RX11 3 (some .int) 6 133 shC) {v1 : Int32} {v2 : Int32}  {N : ux_N} {L : ux_L} {o : Int32 × ux_N × ux_L} (hq : ux_Qi X o.1 o.2.1 o.2.2) (h : fX11_meter v1 v2 N L = some o) : ux_Wt X 3 0 [(0, .ref (ux_ad X 0)), (1, .int v1), (2, .int v2)] [] N L := by
  refine wt_aload_n 1 0 C dX11_meter_0 rfl rfl ?_
  refine wt_iload_n 2 1 C dX11_meter_1 rfl rfl ?_
  obtain ⟨o1, hc2, h⟩ := Option.bind_eq_some_iff.mp h
  refine wt_callVi 5 [] C kvX11_130 sc_0 (mX11_isMeter (cx_ok C)  hc2) rfl rfl ⟨Nat.le_of_ble_eq_true rfl, Nat.le_of_ble_eq_true rfl⟩ (Nat.le_of_ble_eq_true rfl) dX11_meter_2 rfl ?_
  refine wt_if_ne 8 11 C dX11_meter_5 rfl (by decide) (fun q3 => ?_) (fun q3 => ?_)
  · have h := (if_neg q3).symm.trans h
    refine wt_iload_n 12 2 C dX11_meter_11 rfl rfl ?_
    by_cases q4 : v2 = (0 : Int32)
    · have h := (if_pos q4).symm.trans h
      refine wt_tin 52 (0) C dX11_meter_12 q4 (by decide) (by decide) rfl (by decide) ?_
      refine wt_aload_n 53 0 C dX11_meter_52 rfl rfl ?_
      refine wt_getR 56 C kfX11_26 sc_0 rfl dX11_meter_53 rfl ?_
      refine wt_getR 59 C kfX11_133 sc_19 rfl dX11_meter_56 rfl ?_
      refine wt_iload_n 60 1 C dX11_meter_59 rfl rfl ?_
      obtain ⟨hi5, h⟩ := ux_guard h
      refine wt_iald 61 (v1.toNatClampNeg) C sc_20 rfl hi5 dX11_meter_60 rfl ?_
      cases h
      exact wt_iret C hq dX11_meter_61
    have h := (if_neg q4).symm.trans h
    by_cases q6 : v2 = (1 : Int32)
    · have h := (if_pos q6).symm.trans h
      refine wt_tin 62 (1) C dX11_meter_12 q6 (by decide) (by decide) rfl (by decide) ?_
      refine wt_aload_n 63 0 C dX11_meter_62 rfl rfl ?_
      refine wt_getR 66 C kfX11_26 sc_0 rfl dX11_meter_63 rfl ?_
      refine wt_getR 69 C kfX11_136 sc_19 rfl dX11_meter_66 rfl ?_
      refine wt_iload_n 70 1 C dX11_meter_69 rfl rfl ?_
      obtain ⟨hi7, h⟩ := ux_guard h
      refine wt_iald 71 (v1.toNatClampNeg) C sc_21 rfl hi7 dX11_meter_70 rfl ?_
      cases h
      exact wt_iret C hq dX11_meter_71
    have h := (if_neg q6).symm.trans h
    by_cases q8 : v2 = (2 : Int32)
    · have h := (if_pos q8).symm.trans h
      refine wt_tin 72 (2) C dX11_meter_12 q8 (by decide) (by decide) rfl (by decide) ?_
      refine wt_aload_n 73 0 C dX11_meter_72 rfl rfl ?_
      refine wt_getR 76 C kfX11_26 sc_0 rfl dX11_meter_73 rfl ?_
      refine wt_getI 79 C kfX11_139 sc_19 rfl dX11_meter_76 rfl ?_
      refine wt_iload_n 80 1 C dX11_meter_79 rfl rfl ?_
      refine wt_ishr 81 C dX11_meter_80 rfl ?_
      refine wt_iconst 82 1 C dX11_meter_81 rfl (by decide) ?_
      refine wt_iand 83 C dX11_meter_82 rfl ?_
      cases h
      exact wt_iret C hq dX11_meter_83
    have h := (if_neg q8).symm.trans h
    by_cases q9 : v2 = (3 : Int32)
    · have h := (if_pos q9).symm.trans h
      refine wt_tin 84 (3) C dX11_meter_12 q9 (by decide) (by decide) rfl (by decide) ?_
      refine wt_aload_n 85 0 C dX11_meter_84 rfl rfl ?_
      refine wt_getR 88 C kfX11_50 sc_0 rfl dX11_meter_85 rfl ?_
      refine wt_getR 91 C kfX11_142 sc_33 rfl dX11_meter_88 rfl ?_
      refine wt_iload_n 92 1 C dX11_meter_91 rfl rfl ?_
      obtain ⟨hi10, h⟩ := ux_guard h
      refine wt_iald 93 (v1.toNatClampNeg) C sc_34 rfl hi10 dX11_meter_92 rfl ?_
      cases h
      exact wt_iret C hq dX11_meter_93
    have h := (if_neg q9).symm.trans h
    by_cases q11 : v2 = (4 : Int32)
    · have h := (if_pos q11).symm.trans h
      refine wt_tin 94 (4) C dX11_meter_12 q11 (by decide) (by decide) rfl (by decide) ?_
      refine wt_aload_n 95 0 C dX11_meter_94 rfl rfl ?_
      refine wt_getR 98 C kfX11_50 sc_0 rfl dX11_meter_95 rfl ?_
      refine wt_iload_n 99 1 C dX11_meter_98 rfl rfl ?_
      obtain ⟨o12, hc13, h⟩ := Option.bind_eq_some_iff.mp h
      refine wt_callVi 102 [] C kvX11_145 sc_33 (mX6_lineOf (cx_ok C)  hc13) rfl rfl ⟨Nat.le_of_ble_eq_true rfl, Nat.le_of_ble_eq_true rfl⟩ (Nat.le_of_ble_eq_true rfl) dX11_meter_99 rfl ?_
      cases h
      exact wt_iret C hq dX11_meter_102
    have h := (if_neg q11).symm.trans h
    by_cases q14 : v2 = (5 : Int32)
    · have h := (if_pos q14).symm.trans h
      refine wt_tin 103 (5) C dX11_meter_12 q14 (by decide) (by decide) rfl (by decide) ?_
      refine wt_aload_n 104 0 C dX11_meter_103 rfl rfl ?_
      refine wt_getR 107 C kfX11_50 sc_0 rfl dX11_meter_104 rfl ?_
      refine wt_iload_n 108 1 C dX11_meter_107 rfl rfl ?_
      obtain ⟨o15, hc16, h⟩ := Option.bind_eq_some_iff.mp h
      refine wt_callVi 111 [] C kvX11_148 sc_33 (mX6_isCritical (cx_ok C)  hc16) rfl rfl ⟨Nat.le_of_ble_eq_true rfl, Nat.le_of_ble_eq_true rfl⟩ (Nat.le_of_ble_eq_true rfl) dX11_meter_108 rfl ?_
      refine wt_if_eq 114 118 C dX11_meter_111 rfl (by decide) (fun q17 => ?_) (fun q17 => ?_)
      · have h := (if_pos q17).symm.trans h
        refine wt_iconst 119 0 C dX11_meter_118 rfl (by decide) ?_
        refine wt_sub [] rfl ?_
        exact wX11_meter_119 C hq h
      · have h := (if_neg q17).symm.trans h
        refine wt_iconst 115 1 C dX11_meter_114 rfl (by decide) ?_
        refine wt_goto 119 C dX11_meter_115 (by decide) ?_
        refine wt_sub [] rfl ?_
        exact wX11_meter_119 C hq h
    have h := (if_neg q14).symm.trans h
    refine wt_tout 120 C dX11_meter_12 (by have z0 := lv_neT q4 (show (0 : Int32).toInt = 0 from by decide); have z1 := lv_neT q6 (show (1 : Int32).toInt = 1 from by decide); have z2 := lv_neT q8 (show (2 : Int32).toInt = 2 from by decide); have z3 := lv_neT q9 (show (3 : Int32).toInt = 3 from by decide); have z4 := lv_neT q11 (show (4 : Int32).toInt = 4 from by decide); have z5 := lv_neT q14 (show (5 : Int32).toInt = 5 from by decide); omega) (by decide) ?_
    refine wt_bipush 122 (-3) C dX11_meter_120 rfl (by decide) ?_
    cases h
    exact wt_iret C hq dX11_meter_122
  · have h := (if_pos q3).symm.trans h
    refine wt_bipush 10 (-2) C dX11_meter_8 rfl (by decide) ?_
    cases h
    exact wt_iret C hq dX11_meter_10
theorem mX11_meter {l : Launch} {G : ux_G} (hok : ux_ok G shC) {v1 : Int32} {v2 : Int32}  {N : ux_N} {L : ux_L} {o : Int32 × ux_N × ux_L} (h : fX11_meter v1 v2 N L = some o) : ux_Mi l G yX11_meter cX11_meter 3 (some .int) 6 133 [.ref (gad G 0), .int v1, .int v2] N L o.1 o.2.1 o.2.2 :=
  ux_ofi shC hok (by decide +kernel) (Nat.le_of_ble_eq_true rfl) (fun X hG hl C hq => by subst hG; subst hl; exact wX11_meter C  hq h)
def fX11_offer_15 (N : ux_N) (L : ux_L) : Option (Int32 × ux_L) :=
  some ((-2 : Int32), L)
set_option maxHeartbeats 4000000 in
set_option maxRecDepth 20000 in
theorem wX11_offer_15 {X : ux_X} (C : ux_C X cX11_offer RX11 3 (some .int) 4 105 shC)   {N : ux_N} {L : ux_L} {o : Int32 × ux_L} (hq : ux_Qi X o.1 N o.2) (h : fX11_offer_15 N L = some o) : ux_Wt X 3 15 [] [] N L := by
  refine wt_bipush 17 (-2) C dX11_offer_15 rfl (by decide) ?_
  cases h
  exact wt_iret C hq dX11_offer_17
def fX11_offer (v1 : Int32) (v2 : Int32) (N : ux_N) (L : ux_L) : Option (Int32 × ux_L) :=
  if v1 < 0 then (fX11_offer_15 N L) else (if v1 < (N 1 3) then (if v2 = (0 : Int32) then (if ux_in v1 6 then (some ((N 6 (v1.toNatClampNeg)), L)) else none) else (if v2 = (1 : Int32) then (if ux_in v1 6 then (some ((N 7 (v1.toNatClampNeg)), L)) else none) else (if v2 = (2 : Int32) then (if ux_in v1 6 then (some ((N 8 (v1.toNatClampNeg)), L)) else none) else (if v2 = (3 : Int32) then (if ux_in v1 6 then (if ux_in v1 6 then ((fX6_gain (N 6 (v1.toNatClampNeg)) (N 7 (v1.toNatClampNeg)) N L).bind (fun o12 => some (o12.1, o12.2))) else none) else none) else (some ((-3 : Int32), L)))))) else (fX11_offer_15 N L))
set_option maxHeartbeats 4000000 in
set_option maxRecDepth 20000 in
theorem wX11_offer {X : ux_X} (C : ux_C X cX11_offer RX11 3 (some .int) 4 105 shC) {v1 : Int32} {v2 : Int32}  {N : ux_N} {L : ux_L} {o : Int32 × ux_L} (hq : ux_Qi X o.1 N o.2) (h : fX11_offer v1 v2 N L = some o) : ux_Wt X 3 0 [(0, .ref (ux_ad X 0)), (1, .int v1), (2, .int v2)] [] N L := by
  refine wt_iload_n 1 1 C dX11_offer_0 rfl rfl ?_
  refine wt_if_lt 4 15 C dX11_offer_1 rfl (by decide) (fun q1 => ?_) (fun q1 => ?_)
  · have h := (if_pos q1).symm.trans h
    refine wt_sub [] rfl ?_
    exact wX11_offer_15 C hq h
  · have h := (if_neg q1).symm.trans h
    refine wt_iload_n 5 1 C dX11_offer_4 rfl rfl ?_
    refine wt_aload_n 6 0 C dX11_offer_5 rfl rfl ?_
    refine wt_getR 9 C kfX11_10 sc_0 rfl dX11_offer_6 rfl ?_
    refine wt_getI 12 C kfX11_151 sc_1 rfl dX11_offer_9 rfl ?_
    refine wt_icmp_lt 15 18 C dX11_offer_12 rfl (by decide) (fun q2 => ?_) (fun q2 => ?_)
    · have h := (if_pos q2).symm.trans h
      refine wt_iload_n 19 2 C dX11_offer_18 rfl rfl ?_
      by_cases q3 : v2 = (0 : Int32)
      · have h := (if_pos q3).symm.trans h
        refine wt_tin 48 (0) C dX11_offer_19 q3 (by decide) (by decide) rfl (by decide) ?_
        refine wt_aload_n 49 0 C dX11_offer_48 rfl rfl ?_
        refine wt_getR 52 C kfX11_10 sc_0 rfl dX11_offer_49 rfl ?_
        refine wt_getR 55 C kfX11_154 sc_1 rfl dX11_offer_52 rfl ?_
        refine wt_iload_n 56 1 C dX11_offer_55 rfl rfl ?_
        obtain ⟨hi4, h⟩ := ux_guard h
        refine wt_iald 57 (v1.toNatClampNeg) C sc_6 rfl hi4 dX11_offer_56 rfl ?_
        cases h
        exact wt_iret C hq dX11_offer_57
      have h := (if_neg q3).symm.trans h
      by_cases q5 : v2 = (1 : Int32)
      · have h := (if_pos q5).symm.trans h
        refine wt_tin 58 (1) C dX11_offer_19 q5 (by decide) (by decide) rfl (by decide) ?_
        refine wt_aload_n 59 0 C dX11_offer_58 rfl rfl ?_
        refine wt_getR 62 C kfX11_10 sc_0 rfl dX11_offer_59 rfl ?_
        refine wt_getR 65 C kfX11_157 sc_1 rfl dX11_offer_62 rfl ?_
        refine wt_iload_n 66 1 C dX11_offer_65 rfl rfl ?_
        obtain ⟨hi6, h⟩ := ux_guard h
        refine wt_iald 67 (v1.toNatClampNeg) C sc_7 rfl hi6 dX11_offer_66 rfl ?_
        cases h
        exact wt_iret C hq dX11_offer_67
      have h := (if_neg q5).symm.trans h
      by_cases q7 : v2 = (2 : Int32)
      · have h := (if_pos q7).symm.trans h
        refine wt_tin 68 (2) C dX11_offer_19 q7 (by decide) (by decide) rfl (by decide) ?_
        refine wt_aload_n 69 0 C dX11_offer_68 rfl rfl ?_
        refine wt_getR 72 C kfX11_10 sc_0 rfl dX11_offer_69 rfl ?_
        refine wt_getR 75 C kfX11_160 sc_1 rfl dX11_offer_72 rfl ?_
        refine wt_iload_n 76 1 C dX11_offer_75 rfl rfl ?_
        obtain ⟨hi8, h⟩ := ux_guard h
        refine wt_iald 77 (v1.toNatClampNeg) C sc_8 rfl hi8 dX11_offer_76 rfl ?_
        cases h
        exact wt_iret C hq dX11_offer_77
      have h := (if_neg q7).symm.trans h
      by_cases q9 : v2 = (3 : Int32)
      · have h := (if_pos q9).symm.trans h
        refine wt_tin 78 (3) C dX11_offer_19 q9 (by decide) (by decide) rfl (by decide) ?_
        refine wt_aload_n 79 0 C dX11_offer_78 rfl rfl ?_
        refine wt_getR 82 C kfX11_50 sc_0 rfl dX11_offer_79 rfl ?_
        refine wt_aload_n 83 0 C dX11_offer_82 rfl rfl ?_
        refine wt_getR 86 C kfX11_10 sc_0 rfl dX11_offer_83 rfl ?_
        refine wt_getR 89 C kfX11_154 sc_1 rfl dX11_offer_86 rfl ?_
        refine wt_iload_n 90 1 C dX11_offer_89 rfl rfl ?_
        obtain ⟨hi10, h⟩ := ux_guard h
        refine wt_iald 91 (v1.toNatClampNeg) C sc_6 rfl hi10 dX11_offer_90 rfl ?_
        refine wt_aload_n 92 0 C dX11_offer_91 rfl rfl ?_
        refine wt_getR 95 C kfX11_10 sc_0 rfl dX11_offer_92 rfl ?_
        refine wt_getR 98 C kfX11_157 sc_1 rfl dX11_offer_95 rfl ?_
        refine wt_iload_n 99 1 C dX11_offer_98 rfl rfl ?_
        obtain ⟨hi11, h⟩ := ux_guard h
        refine wt_iald 100 (v1.toNatClampNeg) C sc_7 rfl hi11 dX11_offer_99 rfl ?_
        obtain ⟨o12, hc13, h⟩ := Option.bind_eq_some_iff.mp h
        refine wt_callVi 103 [] C kvX11_163 sc_33 (mX6_gain (cx_ok C)  hc13) rfl rfl ⟨Nat.le_of_ble_eq_true rfl, Nat.le_of_ble_eq_true rfl⟩ (Nat.le_of_ble_eq_true rfl) dX11_offer_100 rfl ?_
        cases h
        exact wt_iret C hq dX11_offer_103
      have h := (if_neg q9).symm.trans h
      refine wt_tout 104 C dX11_offer_19 (by have z0 := lv_neT q3 (show (0 : Int32).toInt = 0 from by decide); have z1 := lv_neT q5 (show (1 : Int32).toInt = 1 from by decide); have z2 := lv_neT q7 (show (2 : Int32).toInt = 2 from by decide); have z3 := lv_neT q9 (show (3 : Int32).toInt = 3 from by decide); omega) (by decide) ?_
      refine wt_bipush 106 (-3) C dX11_offer_104 rfl (by decide) ?_
      cases h
      exact wt_iret C hq dX11_offer_106
    · have h := (if_neg q2).symm.trans h
      refine wt_sub [] rfl ?_
      exact wX11_offer_15 C hq h
theorem mX11_offer {l : Launch} {G : ux_G} (hok : ux_ok G shC) {v1 : Int32} {v2 : Int32}  {N : ux_N} {L : ux_L} {o : Int32 × ux_L} (h : fX11_offer v1 v2 N L = some o) : ux_Mi l G yX11_offer cX11_offer 3 (some .int) 4 105 [.ref (gad G 0), .int v1, .int v2] N L o.1 N o.2 :=
  ux_ofi shC hok (by decide +kernel) (Nat.le_of_ble_eq_true rfl) (fun X hG hl C hq => by subst hG; subst hl; exact wX11_offer C  hq h)
def fX11_refusePlace_9 (N : ux_N) : Option (Int32) :=
  some (-3 : Int32)
set_option maxHeartbeats 4000000 in
set_option maxRecDepth 20000 in
theorem wX11_refusePlace_9 {X : ux_X} (C : ux_C X cX11_refusePlace RX11 3 (some .int) 2 43 shC)   {N : ux_N} {L : ux_L} {o : Int32} (hq : ux_Qi X o N L) (h : fX11_refusePlace_9 N = some o) : ux_Wt X 3 9 [] [] N L := by
  refine wt_bipush 11 (-3) C dX11_refusePlace_9 rfl (by decide) ?_
  cases h
  exact wt_iret C hq dX11_refusePlace_11
def fX11_refusePlace_30 (s0 : Int32) (N : ux_N) : Option (Int32) :=
  some s0
set_option maxHeartbeats 4000000 in
set_option maxRecDepth 20000 in
theorem wX11_refusePlace_30 {X : ux_X} (C : ux_C X cX11_refusePlace RX11 3 (some .int) 2 43 shC) {s0 : Int32}  {N : ux_N} {L : ux_L} {o : Int32} (hq : ux_Qi X o N L) (h : fX11_refusePlace_30 s0 N = some o) : ux_Wt X 3 30 [] [.int s0] N L := by
  cases h
  exact wt_iret C hq dX11_refusePlace_30
def fX11_refusePlace (v1 : Int32) (v2 : Int32) (N : ux_N) : Option (Int32) :=
  if v1 < 0 then (fX11_refusePlace_9 N) else (if v1 < (5 : Int32) then ((fX3_hasPlace 1 v1 v2 N).bind (fun o3 => if o3 = 0 then (fX11_refusePlace_30 (-2 : Int32) N) else (fX11_refusePlace_30 (0 : Int32) N))) else (fX11_refusePlace_9 N))
set_option maxHeartbeats 4000000 in
set_option maxRecDepth 20000 in
theorem wX11_refusePlace {X : ux_X} (C : ux_C X cX11_refusePlace RX11 3 (some .int) 2 43 shC) {v1 : Int32} {v2 : Int32}  {N : ux_N} {L : ux_L} {o : Int32} (hq : ux_Qi X o N L) (h : fX11_refusePlace v1 v2 N = some o) : ux_Wt X 3 0 [(0, .ref (ux_ad X 0)), (1, .int v1), (2, .int v2)] [] N L := by
  refine wt_iload_n 1 1 C dX11_refusePlace_0 rfl rfl ?_
  refine wt_if_lt 4 9 C dX11_refusePlace_1 rfl (by decide) (fun q1 => ?_) (fun q1 => ?_)
  · have h := (if_pos q1).symm.trans h
    refine wt_sub [] rfl ?_
    exact wX11_refusePlace_9 C hq h
  · have h := (if_neg q1).symm.trans h
    refine wt_iload_n 5 1 C dX11_refusePlace_4 rfl rfl ?_
    refine wt_iconst 6 5 C dX11_refusePlace_5 rfl (by decide) ?_
    refine wt_icmp_lt 9 12 C dX11_refusePlace_6 rfl (by decide) (fun q2 => ?_) (fun q2 => ?_)
    · have h := (if_pos q2).symm.trans h
      refine wt_aload_n 13 0 C dX11_refusePlace_12 rfl rfl ?_
      refine wt_getR 16 C kfX11_10 sc_0 rfl dX11_refusePlace_13 rfl ?_
      refine wt_iload_n 17 1 C dX11_refusePlace_16 rfl rfl ?_
      refine wt_iload_n 18 2 C dX11_refusePlace_17 rfl rfl ?_
      obtain ⟨o3, hc4, h⟩ := Option.bind_eq_some_iff.mp h
      refine wt_callVi 21 [] C kvX11_267 sc_1 (mX3_hasPlace (cx_ok C) (is3_1) hc4) rfl rfl ⟨Nat.le_of_ble_eq_true rfl, Nat.le_of_ble_eq_true rfl⟩ (Nat.le_of_ble_eq_true rfl) dX11_refusePlace_18 rfl ?_
      refine wt_if_eq 24 28 C dX11_refusePlace_21 rfl (by decide) (fun q5 => ?_) (fun q5 => ?_)
      · have h := (if_pos q5).symm.trans h
        refine wt_bipush 30 (-2) C dX11_refusePlace_28 rfl (by decide) ?_
        refine wt_sub [] rfl ?_
        exact wX11_refusePlace_30 C hq h
      · have h := (if_neg q5).symm.trans h
        refine wt_iconst 25 0 C dX11_refusePlace_24 rfl (by decide) ?_
        refine wt_goto 30 C dX11_refusePlace_25 (by decide) ?_
        refine wt_sub [] rfl ?_
        exact wX11_refusePlace_30 C hq h
    · have h := (if_neg q2).symm.trans h
      refine wt_sub [] rfl ?_
      exact wX11_refusePlace_9 C hq h
theorem mX11_refusePlace {l : Launch} {G : ux_G} (hok : ux_ok G shC) {v1 : Int32} {v2 : Int32}  {N : ux_N} {L : ux_L} {o : Int32} (h : fX11_refusePlace v1 v2 N = some o) : ux_Mi l G yX11_refusePlace cX11_refusePlace 3 (some .int) 2 43 [.ref (gad G 0), .int v1, .int v2] N L o N L :=
  ux_ofi shC hok (by decide +kernel) (Nat.le_of_ble_eq_true rfl) (fun X hG hl C hq => by subst hG; subst hl; exact wX11_refusePlace C  hq h)
def fX11_put (v1 : Int32) (v2 : Int32) (N : ux_N) (L : ux_L) : Option (Int32 × ux_N × ux_L) :=
  (fX11_refusePlace v1 v2 N).bind (fun o1 => if o1 = 0 then (if (N 19 0) < (9 : Int32) then ((fX8_addMeter 19 v1 v2 N).bind (fun o5 => (fX1_note (0 : Int32) o5.1 o5.2).bind (fun o7 => (fX6_refresh o7 L).bind (fun o9 => some (o5.1, o9.2.1, o9.2.2))))) else (some ((-5 : Int32), N, L))) else (some (o1, N, L)))
set_option maxHeartbeats 4000000 in
set_option maxRecDepth 20000 in
theorem wX11_put {X : ux_X} (C : ux_C X cX11_put RX11 5 (some .int) 5 117 shC) {v1 : Int32} {v2 : Int32}  {N : ux_N} {L : ux_L} {o : Int32 × ux_N × ux_L} (hq : ux_Qi X o.1 o.2.1 o.2.2) (h : fX11_put v1 v2 N L = some o) : ux_Wt X 5 0 [(0, .ref (ux_ad X 0)), (1, .int v1), (2, .int v2)] [] N L := by
  refine wt_aload_n 1 0 C dX11_put_0 rfl rfl ?_
  refine wt_iload_n 2 1 C dX11_put_1 rfl rfl ?_
  refine wt_iload_n 3 2 C dX11_put_2 rfl rfl ?_
  obtain ⟨o1, hc2, h⟩ := Option.bind_eq_some_iff.mp h
  refine wt_callVi 6 [] C kvX11_167 sc_0 (mX11_refusePlace (cx_ok C)  hc2) rfl rfl ⟨Nat.le_of_ble_eq_true rfl, Nat.le_of_ble_eq_true rfl⟩ (Nat.le_of_ble_eq_true rfl) dX11_put_3 rfl ?_
  refine wt_istore_n 7 [(3, .int o1), (0, .ref (ux_ad X 0)), (1, .int v1), (2, .int v2)] C dX11_put_6 rfl (by decide) rfl ?_
  refine wt_iload_n 8 0 C dX11_put_7 rfl rfl ?_
  refine wt_if_eq 11 13 C dX11_put_8 rfl (by decide) (fun q3 => ?_) (fun q3 => ?_)
  · have h := (if_pos q3).symm.trans h
    refine wt_aload_n 14 1 C dX11_put_13 rfl rfl ?_
    refine wt_getR 17 C kfX11_26 sc_0 rfl dX11_put_14 rfl ?_
    refine wt_getI 20 C kfX11_170 sc_19 rfl dX11_put_17 rfl ?_
    refine wt_bipush 22 9 C dX11_put_20 rfl (by decide) ?_
    refine wt_icmp_lt 25 28 C dX11_put_22 rfl (by decide) (fun q4 => ?_) (fun q4 => ?_)
    · have h := (if_pos q4).symm.trans h
      refine wt_aload_n 29 1 C dX11_put_28 rfl rfl ?_
      refine wt_getR 32 C kfX11_26 sc_0 rfl dX11_put_29 rfl ?_
      refine wt_iload_n 33 2 C dX11_put_32 rfl rfl ?_
      refine wt_iload_n 34 3 C dX11_put_33 rfl rfl ?_
      obtain ⟨o5, hc6, h⟩ := Option.bind_eq_some_iff.mp h
      refine wt_callVi 37 [] C kvX11_173 sc_19 (mX8_addMeter (cx_ok C) (is8_19) hc6) rfl rfl ⟨Nat.le_of_ble_eq_true rfl, Nat.le_of_ble_eq_true rfl⟩ (Nat.le_of_ble_eq_true rfl) dX11_put_34 rfl ?_
      refine wt_istore 39 [(4, .int o5.1), (3, .int o1), (0, .ref (ux_ad X 0)), (1, .int v1), (2, .int v2)] C dX11_put_37 rfl (by decide) rfl ?_
      refine wt_aload_n 40 2 C dX11_put_39 rfl rfl ?_
      refine wt_getR 43 C kfX11_41 sc_0 rfl dX11_put_40 rfl ?_
      refine wt_iconst 44 0 C dX11_put_43 rfl (by decide) ?_
      refine wt_iload 46 0 C dX11_put_44 rfl rfl ?_
      obtain ⟨o7, hc8, h⟩ := Option.bind_eq_some_iff.mp h
      refine wt_callVv 49 [] C kvX11_176 sc_30 (mX1_note (cx_ok C)  hc8) rfl rfl ⟨Nat.le_of_ble_eq_true rfl, Nat.le_of_ble_eq_true rfl⟩ (Nat.le_of_ble_eq_true rfl) dX11_put_46 rfl ?_
      refine wt_aload_n 50 2 C dX11_put_49 rfl rfl ?_
      refine wt_getR 53 C kfX11_50 sc_0 rfl dX11_put_50 rfl ?_
      obtain ⟨o9, hc10, h⟩ := Option.bind_eq_some_iff.mp h
      refine wt_callVi 56 [] C kvX11_71 sc_33 (mX6_refresh (cx_ok C)  hc10) rfl rfl ⟨Nat.le_of_ble_eq_true rfl, Nat.le_of_ble_eq_true rfl⟩ (Nat.le_of_ble_eq_true rfl) dX11_put_53 rfl ?_
      refine wt_pop 57 C dX11_put_56 rfl rfl ?_
      refine wt_iload 59 0 C dX11_put_57 rfl rfl ?_
      cases h
      exact wt_iret C hq dX11_put_59
    · have h := (if_neg q4).symm.trans h
      refine wt_bipush 27 (-5) C dX11_put_25 rfl (by decide) ?_
      cases h
      exact wt_iret C hq dX11_put_27
  · have h := (if_neg q3).symm.trans h
    refine wt_iload_n 12 0 C dX11_put_11 rfl rfl ?_
    cases h
    exact wt_iret C hq dX11_put_12
theorem mX11_put {l : Launch} {G : ux_G} (hok : ux_ok G shC) {v1 : Int32} {v2 : Int32}  {N : ux_N} {L : ux_L} {o : Int32 × ux_N × ux_L} (h : fX11_put v1 v2 N L = some o) : ux_Mi l G yX11_put cX11_put 5 (some .int) 5 117 [.ref (gad G 0), .int v1, .int v2] N L o.1 o.2.1 o.2.2 :=
  ux_ofi shC hok (by decide +kernel) (Nat.le_of_ble_eq_true rfl) (fun X hG hl C hq => by subst hG; subst hl; exact wX11_put C  hq h)
def fX11_spoil (v1 : Int32) (N : ux_N) (L : ux_L) : Option (Int32 × ux_N × ux_L) :=
  (fX11_isMeter v1 N).bind (fun o1 => if o1 = 0 then (some ((-2 : Int32), N, L)) else (if (((N 19 1) >>> (v1 &&& 31)) &&& (1 : Int32)) = (1 : Int32) then (some ((-4 : Int32), N, L)) else ((fX1_note (1 : Int32) v1 (ux_u N 19 1 ((N 19 1) ||| ((1 : Int32) <<< (v1 &&& 31))))).bind (fun o5 => (fX6_refresh o5 L).bind (fun o7 => some (o7.1, o7.2.1, o7.2.2))))))
set_option maxHeartbeats 4000000 in
set_option maxRecDepth 20000 in
theorem wX11_spoil {X : ux_X} (C : ux_C X cX11_spoil RX11 2 (some .int) 5 117 shC) {v1 : Int32}  {N : ux_N} {L : ux_L} {o : Int32 × ux_N × ux_L} (hq : ux_Qi X o.1 o.2.1 o.2.2) (h : fX11_spoil v1 N L = some o) : ux_Wt X 2 0 [(0, .ref (ux_ad X 0)), (1, .int v1)] [] N L := by
  refine wt_aload_n 1 0 C dX11_spoil_0 rfl rfl ?_
  refine wt_iload_n 2 1 C dX11_spoil_1 rfl rfl ?_
  obtain ⟨o1, hc2, h⟩ := Option.bind_eq_some_iff.mp h
  refine wt_callVi 5 [] C kvX11_130 sc_0 (mX11_isMeter (cx_ok C)  hc2) rfl rfl ⟨Nat.le_of_ble_eq_true rfl, Nat.le_of_ble_eq_true rfl⟩ (Nat.le_of_ble_eq_true rfl) dX11_spoil_2 rfl ?_
  refine wt_if_ne 8 11 C dX11_spoil_5 rfl (by decide) (fun q3 => ?_) (fun q3 => ?_)
  · have h := (if_neg q3).symm.trans h
    refine wt_aload_n 12 0 C dX11_spoil_11 rfl rfl ?_
    refine wt_getR 15 C kfX11_26 sc_0 rfl dX11_spoil_12 rfl ?_
    refine wt_getI 18 C kfX11_139 sc_19 rfl dX11_spoil_15 rfl ?_
    refine wt_iload_n 19 1 C dX11_spoil_18 rfl rfl ?_
    refine wt_ishr 20 C dX11_spoil_19 rfl ?_
    refine wt_iconst 21 1 C dX11_spoil_20 rfl (by decide) ?_
    refine wt_iand 22 C dX11_spoil_21 rfl ?_
    refine wt_iconst 23 1 C dX11_spoil_22 rfl (by decide) ?_
    refine wt_icmp_ne 26 29 C dX11_spoil_23 rfl (by decide) (fun q4 => ?_) (fun q4 => ?_)
    · have h := (if_neg q4).symm.trans h
      refine wt_aload_n 30 0 C dX11_spoil_29 rfl rfl ?_
      refine wt_getR 33 C kfX11_26 sc_0 rfl dX11_spoil_30 rfl ?_
      refine wt_dup 34 C dX11_spoil_33 rfl rfl ?_
      refine wt_getI 37 C kfX11_139 sc_19 rfl dX11_spoil_34 rfl ?_
      refine wt_iconst 38 1 C dX11_spoil_37 rfl (by decide) ?_
      refine wt_iload_n 39 1 C dX11_spoil_38 rfl rfl ?_
      refine wt_ishl 40 C dX11_spoil_39 rfl ?_
      refine wt_ior 41 C dX11_spoil_40 rfl ?_
      refine wt_putI 44 C kpX11_139 sc_19 rfl rfl rfl dX11_spoil_41 rfl ?_
      refine wt_aload_n 45 0 C dX11_spoil_44 rfl rfl ?_
      refine wt_getR 48 C kfX11_41 sc_0 rfl dX11_spoil_45 rfl ?_
      refine wt_iconst 49 1 C dX11_spoil_48 rfl (by decide) ?_
      refine wt_iload_n 50 1 C dX11_spoil_49 rfl rfl ?_
      obtain ⟨o5, hc6, h⟩ := Option.bind_eq_some_iff.mp h
      refine wt_callVv 53 [] C kvX11_176 sc_30 (mX1_note (cx_ok C)  hc6) rfl rfl ⟨Nat.le_of_ble_eq_true rfl, Nat.le_of_ble_eq_true rfl⟩ (Nat.le_of_ble_eq_true rfl) dX11_spoil_50 rfl ?_
      refine wt_aload_n 54 0 C dX11_spoil_53 rfl rfl ?_
      refine wt_getR 57 C kfX11_50 sc_0 rfl dX11_spoil_54 rfl ?_
      obtain ⟨o7, hc8, h⟩ := Option.bind_eq_some_iff.mp h
      refine wt_callVi 60 [] C kvX11_71 sc_33 (mX6_refresh (cx_ok C)  hc8) rfl rfl ⟨Nat.le_of_ble_eq_true rfl, Nat.le_of_ble_eq_true rfl⟩ (Nat.le_of_ble_eq_true rfl) dX11_spoil_57 rfl ?_
      cases h
      exact wt_iret C hq dX11_spoil_60
    · have h := (if_pos q4).symm.trans h
      refine wt_bipush 28 (-4) C dX11_spoil_26 rfl (by decide) ?_
      cases h
      exact wt_iret C hq dX11_spoil_28
  · have h := (if_pos q3).symm.trans h
    refine wt_bipush 10 (-2) C dX11_spoil_8 rfl (by decide) ?_
    cases h
    exact wt_iret C hq dX11_spoil_10
theorem mX11_spoil {l : Launch} {G : ux_G} (hok : ux_ok G shC) {v1 : Int32}  {N : ux_N} {L : ux_L} {o : Int32 × ux_N × ux_L} (h : fX11_spoil v1 N L = some o) : ux_Mi l G yX11_spoil cX11_spoil 2 (some .int) 5 117 [.ref (gad G 0), .int v1] N L o.1 o.2.1 o.2.2 :=
  ux_ofi shC hok (by decide +kernel) (Nat.le_of_ble_eq_true rfl) (fun X hG hl C hq => by subst hG; subst hl; exact wX11_spoil C  hq h)
def fX11_mend (v1 : Int32) (N : ux_N) (L : ux_L) : Option (Int32 × ux_N × ux_L) :=
  (fX11_isMeter v1 N).bind (fun o1 => if o1 = 0 then (some ((-2 : Int32), N, L)) else (if (((N 19 1) >>> (v1 &&& 31)) &&& (1 : Int32)) = 0 then (some ((-4 : Int32), N, L)) else ((fX1_note (2 : Int32) v1 (ux_u N 19 1 ((N 19 1) &&& (((1 : Int32) <<< (v1 &&& 31)) ^^^ (-1 : Int32))))).bind (fun o5 => (fX6_refresh o5 L).bind (fun o7 => some (o7.1, o7.2.1, o7.2.2))))))
set_option maxHeartbeats 4000000 in
set_option maxRecDepth 20000 in
theorem wX11_mend {X : ux_X} (C : ux_C X cX11_mend RX11 2 (some .int) 5 117 shC) {v1 : Int32}  {N : ux_N} {L : ux_L} {o : Int32 × ux_N × ux_L} (hq : ux_Qi X o.1 o.2.1 o.2.2) (h : fX11_mend v1 N L = some o) : ux_Wt X 2 0 [(0, .ref (ux_ad X 0)), (1, .int v1)] [] N L := by
  refine wt_aload_n 1 0 C dX11_mend_0 rfl rfl ?_
  refine wt_iload_n 2 1 C dX11_mend_1 rfl rfl ?_
  obtain ⟨o1, hc2, h⟩ := Option.bind_eq_some_iff.mp h
  refine wt_callVi 5 [] C kvX11_130 sc_0 (mX11_isMeter (cx_ok C)  hc2) rfl rfl ⟨Nat.le_of_ble_eq_true rfl, Nat.le_of_ble_eq_true rfl⟩ (Nat.le_of_ble_eq_true rfl) dX11_mend_2 rfl ?_
  refine wt_if_ne 8 11 C dX11_mend_5 rfl (by decide) (fun q3 => ?_) (fun q3 => ?_)
  · have h := (if_neg q3).symm.trans h
    refine wt_aload_n 12 0 C dX11_mend_11 rfl rfl ?_
    refine wt_getR 15 C kfX11_26 sc_0 rfl dX11_mend_12 rfl ?_
    refine wt_getI 18 C kfX11_139 sc_19 rfl dX11_mend_15 rfl ?_
    refine wt_iload_n 19 1 C dX11_mend_18 rfl rfl ?_
    refine wt_ishr 20 C dX11_mend_19 rfl ?_
    refine wt_iconst 21 1 C dX11_mend_20 rfl (by decide) ?_
    refine wt_iand 22 C dX11_mend_21 rfl ?_
    refine wt_if_ne 25 28 C dX11_mend_22 rfl (by decide) (fun q4 => ?_) (fun q4 => ?_)
    · have h := (if_neg q4).symm.trans h
      refine wt_aload_n 29 0 C dX11_mend_28 rfl rfl ?_
      refine wt_getR 32 C kfX11_26 sc_0 rfl dX11_mend_29 rfl ?_
      refine wt_dup 33 C dX11_mend_32 rfl rfl ?_
      refine wt_getI 36 C kfX11_139 sc_19 rfl dX11_mend_33 rfl ?_
      refine wt_iconst 37 1 C dX11_mend_36 rfl (by decide) ?_
      refine wt_iload_n 38 1 C dX11_mend_37 rfl rfl ?_
      refine wt_ishl 39 C dX11_mend_38 rfl ?_
      refine wt_iconst 40 (-1) C dX11_mend_39 rfl (by decide) ?_
      refine wt_ixor 41 C dX11_mend_40 rfl ?_
      refine wt_iand 42 C dX11_mend_41 rfl ?_
      refine wt_putI 45 C kpX11_139 sc_19 rfl rfl rfl dX11_mend_42 rfl ?_
      refine wt_aload_n 46 0 C dX11_mend_45 rfl rfl ?_
      refine wt_getR 49 C kfX11_41 sc_0 rfl dX11_mend_46 rfl ?_
      refine wt_iconst 50 2 C dX11_mend_49 rfl (by decide) ?_
      refine wt_iload_n 51 1 C dX11_mend_50 rfl rfl ?_
      obtain ⟨o5, hc6, h⟩ := Option.bind_eq_some_iff.mp h
      refine wt_callVv 54 [] C kvX11_176 sc_30 (mX1_note (cx_ok C)  hc6) rfl rfl ⟨Nat.le_of_ble_eq_true rfl, Nat.le_of_ble_eq_true rfl⟩ (Nat.le_of_ble_eq_true rfl) dX11_mend_51 rfl ?_
      refine wt_aload_n 55 0 C dX11_mend_54 rfl rfl ?_
      refine wt_getR 58 C kfX11_50 sc_0 rfl dX11_mend_55 rfl ?_
      obtain ⟨o7, hc8, h⟩ := Option.bind_eq_some_iff.mp h
      refine wt_callVi 61 [] C kvX11_71 sc_33 (mX6_refresh (cx_ok C)  hc8) rfl rfl ⟨Nat.le_of_ble_eq_true rfl, Nat.le_of_ble_eq_true rfl⟩ (Nat.le_of_ble_eq_true rfl) dX11_mend_58 rfl ?_
      cases h
      exact wt_iret C hq dX11_mend_61
    · have h := (if_pos q4).symm.trans h
      refine wt_bipush 27 (-4) C dX11_mend_25 rfl (by decide) ?_
      cases h
      exact wt_iret C hq dX11_mend_27
  · have h := (if_pos q3).symm.trans h
    refine wt_bipush 10 (-2) C dX11_mend_8 rfl (by decide) ?_
    cases h
    exact wt_iret C hq dX11_mend_10
theorem mX11_mend {l : Launch} {G : ux_G} (hok : ux_ok G shC) {v1 : Int32}  {N : ux_N} {L : ux_L} {o : Int32 × ux_N × ux_L} (h : fX11_mend v1 N L = some o) : ux_Mi l G yX11_mend cX11_mend 2 (some .int) 5 117 [.ref (gad G 0), .int v1] N L o.1 o.2.1 o.2.2 :=
  ux_ofi shC hok (by decide +kernel) (Nat.le_of_ble_eq_true rfl) (fun X hG hl C hq => by subst hG; subst hl; exact wX11_mend C  hq h)
def fX11_cut (v1 : Int32) (N : ux_N) (L : ux_L) : Option (Int32 × ux_N × ux_L) :=
  (fX11_isLine v1 N).bind (fun o1 => if o1 = 0 then (some ((-2 : Int32), N, L)) else (if (((N 19 2) >>> (v1 &&& 31)) &&& (1 : Int32)) = (1 : Int32) then (some ((-4 : Int32), N, L)) else ((fX1_note (3 : Int32) v1 (ux_u N 19 2 ((N 19 2) ||| ((1 : Int32) <<< (v1 &&& 31))))).bind (fun o5 => (fX6_refresh o5 L).bind (fun o7 => some (o7.1, o7.2.1, o7.2.2))))))
set_option maxHeartbeats 4000000 in
set_option maxRecDepth 20000 in
theorem wX11_cut {X : ux_X} (C : ux_C X cX11_cut RX11 2 (some .int) 5 117 shC) {v1 : Int32}  {N : ux_N} {L : ux_L} {o : Int32 × ux_N × ux_L} (hq : ux_Qi X o.1 o.2.1 o.2.2) (h : fX11_cut v1 N L = some o) : ux_Wt X 2 0 [(0, .ref (ux_ad X 0)), (1, .int v1)] [] N L := by
  refine wt_aload_n 1 0 C dX11_cut_0 rfl rfl ?_
  refine wt_iload_n 2 1 C dX11_cut_1 rfl rfl ?_
  obtain ⟨o1, hc2, h⟩ := Option.bind_eq_some_iff.mp h
  refine wt_callVi 5 [] C kvX11_109 sc_0 (mX11_isLine (cx_ok C)  hc2) rfl rfl ⟨Nat.le_of_ble_eq_true rfl, Nat.le_of_ble_eq_true rfl⟩ (Nat.le_of_ble_eq_true rfl) dX11_cut_2 rfl ?_
  refine wt_if_ne 8 11 C dX11_cut_5 rfl (by decide) (fun q3 => ?_) (fun q3 => ?_)
  · have h := (if_neg q3).symm.trans h
    refine wt_aload_n 12 0 C dX11_cut_11 rfl rfl ?_
    refine wt_getR 15 C kfX11_26 sc_0 rfl dX11_cut_12 rfl ?_
    refine wt_getI 18 C kfX11_120 sc_19 rfl dX11_cut_15 rfl ?_
    refine wt_iload_n 19 1 C dX11_cut_18 rfl rfl ?_
    refine wt_ishr 20 C dX11_cut_19 rfl ?_
    refine wt_iconst 21 1 C dX11_cut_20 rfl (by decide) ?_
    refine wt_iand 22 C dX11_cut_21 rfl ?_
    refine wt_iconst 23 1 C dX11_cut_22 rfl (by decide) ?_
    refine wt_icmp_ne 26 29 C dX11_cut_23 rfl (by decide) (fun q4 => ?_) (fun q4 => ?_)
    · have h := (if_neg q4).symm.trans h
      refine wt_aload_n 30 0 C dX11_cut_29 rfl rfl ?_
      refine wt_getR 33 C kfX11_26 sc_0 rfl dX11_cut_30 rfl ?_
      refine wt_dup 34 C dX11_cut_33 rfl rfl ?_
      refine wt_getI 37 C kfX11_120 sc_19 rfl dX11_cut_34 rfl ?_
      refine wt_iconst 38 1 C dX11_cut_37 rfl (by decide) ?_
      refine wt_iload_n 39 1 C dX11_cut_38 rfl rfl ?_
      refine wt_ishl 40 C dX11_cut_39 rfl ?_
      refine wt_ior 41 C dX11_cut_40 rfl ?_
      refine wt_putI 44 C kpX11_120 sc_19 rfl rfl rfl dX11_cut_41 rfl ?_
      refine wt_aload_n 45 0 C dX11_cut_44 rfl rfl ?_
      refine wt_getR 48 C kfX11_41 sc_0 rfl dX11_cut_45 rfl ?_
      refine wt_iconst 49 3 C dX11_cut_48 rfl (by decide) ?_
      refine wt_iload_n 50 1 C dX11_cut_49 rfl rfl ?_
      obtain ⟨o5, hc6, h⟩ := Option.bind_eq_some_iff.mp h
      refine wt_callVv 53 [] C kvX11_176 sc_30 (mX1_note (cx_ok C)  hc6) rfl rfl ⟨Nat.le_of_ble_eq_true rfl, Nat.le_of_ble_eq_true rfl⟩ (Nat.le_of_ble_eq_true rfl) dX11_cut_50 rfl ?_
      refine wt_aload_n 54 0 C dX11_cut_53 rfl rfl ?_
      refine wt_getR 57 C kfX11_50 sc_0 rfl dX11_cut_54 rfl ?_
      obtain ⟨o7, hc8, h⟩ := Option.bind_eq_some_iff.mp h
      refine wt_callVi 60 [] C kvX11_71 sc_33 (mX6_refresh (cx_ok C)  hc8) rfl rfl ⟨Nat.le_of_ble_eq_true rfl, Nat.le_of_ble_eq_true rfl⟩ (Nat.le_of_ble_eq_true rfl) dX11_cut_57 rfl ?_
      cases h
      exact wt_iret C hq dX11_cut_60
    · have h := (if_pos q4).symm.trans h
      refine wt_bipush 28 (-4) C dX11_cut_26 rfl (by decide) ?_
      cases h
      exact wt_iret C hq dX11_cut_28
  · have h := (if_pos q3).symm.trans h
    refine wt_bipush 10 (-2) C dX11_cut_8 rfl (by decide) ?_
    cases h
    exact wt_iret C hq dX11_cut_10
theorem mX11_cut {l : Launch} {G : ux_G} (hok : ux_ok G shC) {v1 : Int32}  {N : ux_N} {L : ux_L} {o : Int32 × ux_N × ux_L} (h : fX11_cut v1 N L = some o) : ux_Mi l G yX11_cut cX11_cut 2 (some .int) 5 117 [.ref (gad G 0), .int v1] N L o.1 o.2.1 o.2.2 :=
  ux_ofi shC hok (by decide +kernel) (Nat.le_of_ble_eq_true rfl) (fun X hG hl C hq => by subst hG; subst hl; exact wX11_cut C  hq h)
def fX11_undo (N : ux_N) (L : ux_L) : Option (Int32 × ux_N × ux_L) :=
  if 0 < (N 30 0) then ((fX1_revertLatest 19 N).bind (fun o2 => (fX6_refresh o2 L).bind (fun o4 => some ((o4.2.1 30 0), o4.2.1, o4.2.2)))) else (some ((-4 : Int32), N, L))
set_option maxHeartbeats 4000000 in
set_option maxRecDepth 20000 in
theorem wX11_undo {X : ux_X} (C : ux_C X cX11_undo RX11 1 (some .int) 5 117 shC)   {N : ux_N} {L : ux_L} {o : Int32 × ux_N × ux_L} (hq : ux_Qi X o.1 o.2.1 o.2.2) (h : fX11_undo N L = some o) : ux_Wt X 1 0 [(0, .ref (ux_ad X 0))] [] N L := by
  refine wt_aload_n 1 0 C dX11_undo_0 rfl rfl ?_
  refine wt_getR 4 C kfX11_41 sc_0 rfl dX11_undo_1 rfl ?_
  refine wt_getI 7 C kfX11_100 sc_30 rfl dX11_undo_4 rfl ?_
  refine wt_if_gt 10 13 C dX11_undo_7 rfl (by decide) (fun q1 => ?_) (fun q1 => ?_)
  · have h := (if_pos q1).symm.trans h
    refine wt_aload_n 14 0 C dX11_undo_13 rfl rfl ?_
    refine wt_getR 17 C kfX11_41 sc_0 rfl dX11_undo_14 rfl ?_
    refine wt_aload_n 18 0 C dX11_undo_17 rfl rfl ?_
    refine wt_getR 21 C kfX11_26 sc_0 rfl dX11_undo_18 rfl ?_
    obtain ⟨o2, hc3, h⟩ := Option.bind_eq_some_iff.mp h
    refine wt_callVv 24 [] C kvX11_180 sc_30 (mX1_revertLatest (cx_ok C) (is8_19) hc3) rfl rfl ⟨Nat.le_of_ble_eq_true rfl, Nat.le_of_ble_eq_true rfl⟩ (Nat.le_of_ble_eq_true rfl) dX11_undo_21 rfl ?_
    refine wt_aload_n 25 0 C dX11_undo_24 rfl rfl ?_
    refine wt_getR 28 C kfX11_50 sc_0 rfl dX11_undo_25 rfl ?_
    obtain ⟨o4, hc5, h⟩ := Option.bind_eq_some_iff.mp h
    refine wt_callVi 31 [] C kvX11_71 sc_33 (mX6_refresh (cx_ok C)  hc5) rfl rfl ⟨Nat.le_of_ble_eq_true rfl, Nat.le_of_ble_eq_true rfl⟩ (Nat.le_of_ble_eq_true rfl) dX11_undo_28 rfl ?_
    refine wt_pop 32 C dX11_undo_31 rfl rfl ?_
    refine wt_aload_n 33 0 C dX11_undo_32 rfl rfl ?_
    refine wt_getR 36 C kfX11_41 sc_0 rfl dX11_undo_33 rfl ?_
    refine wt_getI 39 C kfX11_100 sc_30 rfl dX11_undo_36 rfl ?_
    cases h
    exact wt_iret C hq dX11_undo_39
  · have h := (if_neg q1).symm.trans h
    refine wt_bipush 12 (-4) C dX11_undo_10 rfl (by decide) ?_
    cases h
    exact wt_iret C hq dX11_undo_12
theorem mX11_undo {l : Launch} {G : ux_G} (hok : ux_ok G shC)   {N : ux_N} {L : ux_L} {o : Int32 × ux_N × ux_L} (h : fX11_undo N L = some o) : ux_Mi l G yX11_undo cX11_undo 1 (some .int) 5 117 [.ref (gad G 0)] N L o.1 o.2.1 o.2.2 :=
  ux_ofi shC hok (by decide +kernel) (Nat.le_of_ble_eq_true rfl) (fun X hG hl C hq => by subst hG; subst hl; exact wX11_undo C  hq h)
def fX11_keep_9 (N : ux_N) : Option (Int32 × ux_N) :=
  some ((-2 : Int32), N)
set_option maxHeartbeats 4000000 in
set_option maxRecDepth 20000 in
theorem wX11_keep_9 {X : ux_X} (C : ux_C X cX11_keep RX11 2 (some .int) 2 81 shC)   {N : ux_N} {L : ux_L} {o : Int32 × ux_N} (hq : ux_Qi X o.1 o.2 L) (h : fX11_keep_9 N = some o) : ux_Wt X 2 9 [] [] N L := by
  refine wt_bipush 11 (-2) C dX11_keep_9 rfl (by decide) ?_
  cases h
  exact wt_iret C hq dX11_keep_11
def fX11_keep (v1 : Int32) (N : ux_N) : Option (Int32 × ux_N) :=
  if v1 < 0 then (fX11_keep_9 N) else (if v1 < (2 : Int32) then (if ux_in v1 2 then ((fX8_copyFrom (23 + 3 * v1.toNatClampNeg) 19 N).bind (fun o4 => if ux_in v1 2 then (some (((ux_u o4 29 (v1.toNatClampNeg) (vp_nar .boolean (1 : Int32))) 33 0), (ux_u o4 29 (v1.toNatClampNeg) (vp_nar .boolean (1 : Int32))))) else none)) else none) else (fX11_keep_9 N))
set_option maxHeartbeats 4000000 in
set_option maxRecDepth 20000 in
theorem wX11_keep {X : ux_X} (C : ux_C X cX11_keep RX11 2 (some .int) 2 81 shC) {v1 : Int32}  {N : ux_N} {L : ux_L} {o : Int32 × ux_N} (hq : ux_Qi X o.1 o.2 L) (h : fX11_keep v1 N = some o) : ux_Wt X 2 0 [(0, .ref (ux_ad X 0)), (1, .int v1)] [] N L := by
  refine wt_iload_n 1 1 C dX11_keep_0 rfl rfl ?_
  refine wt_if_lt 4 9 C dX11_keep_1 rfl (by decide) (fun q1 => ?_) (fun q1 => ?_)
  · have h := (if_pos q1).symm.trans h
    refine wt_sub [] rfl ?_
    exact wX11_keep_9 C hq h
  · have h := (if_neg q1).symm.trans h
    refine wt_iload_n 5 1 C dX11_keep_4 rfl rfl ?_
    refine wt_iconst 6 2 C dX11_keep_5 rfl (by decide) ?_
    refine wt_icmp_lt 9 12 C dX11_keep_6 rfl (by decide) (fun q2 => ?_) (fun q2 => ?_)
    · have h := (if_pos q2).symm.trans h
      refine wt_aload_n 13 0 C dX11_keep_12 rfl rfl ?_
      refine wt_getR 16 C kfX11_30 sc_0 rfl dX11_keep_13 rfl ?_
      refine wt_iload_n 17 1 C dX11_keep_16 rfl rfl ?_
      obtain ⟨hi3, h⟩ := ux_guard h
      refine wt_aald 18 (v1.toNatClampNeg) 23 3 C sc_22 rfl (by decide) rfl hi3 dX11_keep_17 rfl ?_
      refine wt_aload_n 19 0 C dX11_keep_18 rfl rfl ?_
      refine wt_getR 22 C kfX11_26 sc_0 rfl dX11_keep_19 rfl ?_
      obtain ⟨o4, hc5, h⟩ := Option.bind_eq_some_iff.mp h
      refine wt_callVv 25 [] C kvX11_184 (is8_arr23 _ (ux_in_lt hi3)).1 (mX8_copyFrom (cx_ok C) (is8_arr23 _ (ux_in_lt hi3)) (is8_19) hc5) rfl rfl ⟨Nat.le_of_ble_eq_true rfl, Nat.le_of_ble_eq_true rfl⟩ (Nat.le_of_ble_eq_true rfl) dX11_keep_22 rfl ?_
      refine wt_aload_n 26 0 C dX11_keep_25 rfl rfl ?_
      refine wt_getR 29 C kfX11_34 sc_0 rfl dX11_keep_26 rfl ?_
      refine wt_iload_n 30 1 C dX11_keep_29 rfl rfl ?_
      refine wt_iconst 31 1 C dX11_keep_30 rfl (by decide) ?_
      obtain ⟨hi6, h⟩ := ux_guard h
      refine wt_zast 32 (v1.toNatClampNeg) C sc_29 rfl hi6 dX11_keep_31 rfl ?_
      refine wt_aload_n 33 0 C dX11_keep_32 rfl rfl ?_
      refine wt_getR 36 C kfX11_50 sc_0 rfl dX11_keep_33 rfl ?_
      refine wt_getI 39 C kfX11_186 sc_33 rfl dX11_keep_36 rfl ?_
      cases h
      exact wt_iret C hq dX11_keep_39
    · have h := (if_neg q2).symm.trans h
      refine wt_sub [] rfl ?_
      exact wX11_keep_9 C hq h
theorem mX11_keep {l : Launch} {G : ux_G} (hok : ux_ok G shC) {v1 : Int32}  {N : ux_N} {L : ux_L} {o : Int32 × ux_N} (h : fX11_keep v1 N = some o) : ux_Mi l G yX11_keep cX11_keep 2 (some .int) 2 81 [.ref (gad G 0), .int v1] N L o.1 o.2 L :=
  ux_ofi shC hok (by decide +kernel) (Nat.le_of_ble_eq_true rfl) (fun X hG hl C hq => by subst hG; subst hl; exact wX11_keep C  hq h)
def fX11_back_9 (N : ux_N) (L : ux_L) : Option (Int32 × ux_N × ux_L) :=
  some ((-2 : Int32), N, L)
set_option maxHeartbeats 4000000 in
set_option maxRecDepth 20000 in
theorem wX11_back_9 {X : ux_X} (C : ux_C X cX11_back RX11 2 (some .int) 5 117 shC)   {N : ux_N} {L : ux_L} {o : Int32 × ux_N × ux_L} (hq : ux_Qi X o.1 o.2.1 o.2.2) (h : fX11_back_9 N L = some o) : ux_Wt X 2 9 [] [] N L := by
  refine wt_bipush 11 (-2) C dX11_back_9 rfl (by decide) ?_
  cases h
  exact wt_iret C hq dX11_back_11
def fX11_back (v1 : Int32) (N : ux_N) (L : ux_L) : Option (Int32 × ux_N × ux_L) :=
  if v1 < 0 then (fX11_back_9 N L) else (if v1 < (2 : Int32) then (if ux_in v1 2 then (if (N 29 (v1.toNatClampNeg)) = 0 then (some ((-4 : Int32), N, L)) else (if ux_in v1 2 then ((fX8_copyFrom 19 (23 + 3 * v1.toNatClampNeg) N).bind (fun o6 => (fX6_refresh (ux_u o6 30 0 (0 : Int32)) L).bind (fun o8 => some (o8.1, o8.2.1, o8.2.2)))) else none)) else none) else (fX11_back_9 N L))
set_option maxHeartbeats 4000000 in
set_option maxRecDepth 20000 in
theorem wX11_back {X : ux_X} (C : ux_C X cX11_back RX11 2 (some .int) 5 117 shC) {v1 : Int32}  {N : ux_N} {L : ux_L} {o : Int32 × ux_N × ux_L} (hq : ux_Qi X o.1 o.2.1 o.2.2) (h : fX11_back v1 N L = some o) : ux_Wt X 2 0 [(0, .ref (ux_ad X 0)), (1, .int v1)] [] N L := by
  refine wt_iload_n 1 1 C dX11_back_0 rfl rfl ?_
  refine wt_if_lt 4 9 C dX11_back_1 rfl (by decide) (fun q1 => ?_) (fun q1 => ?_)
  · have h := (if_pos q1).symm.trans h
    refine wt_sub [] rfl ?_
    exact wX11_back_9 C hq h
  · have h := (if_neg q1).symm.trans h
    refine wt_iload_n 5 1 C dX11_back_4 rfl rfl ?_
    refine wt_iconst 6 2 C dX11_back_5 rfl (by decide) ?_
    refine wt_icmp_lt 9 12 C dX11_back_6 rfl (by decide) (fun q2 => ?_) (fun q2 => ?_)
    · have h := (if_pos q2).symm.trans h
      refine wt_aload_n 13 0 C dX11_back_12 rfl rfl ?_
      refine wt_getR 16 C kfX11_34 sc_0 rfl dX11_back_13 rfl ?_
      refine wt_iload_n 17 1 C dX11_back_16 rfl rfl ?_
      obtain ⟨hi3, h⟩ := ux_guard h
      refine wt_zald 18 (v1.toNatClampNeg) C sc_29 rfl hi3 dX11_back_17 rfl ?_
      refine wt_if_ne 21 24 C dX11_back_18 rfl (by decide) (fun q4 => ?_) (fun q4 => ?_)
      · have h := (if_neg q4).symm.trans h
        refine wt_aload_n 25 0 C dX11_back_24 rfl rfl ?_
        refine wt_getR 28 C kfX11_26 sc_0 rfl dX11_back_25 rfl ?_
        refine wt_aload_n 29 0 C dX11_back_28 rfl rfl ?_
        refine wt_getR 32 C kfX11_30 sc_0 rfl dX11_back_29 rfl ?_
        refine wt_iload_n 33 1 C dX11_back_32 rfl rfl ?_
        obtain ⟨hi5, h⟩ := ux_guard h
        refine wt_aald 34 (v1.toNatClampNeg) 23 3 C sc_22 rfl (by decide) rfl hi5 dX11_back_33 rfl ?_
        obtain ⟨o6, hc7, h⟩ := Option.bind_eq_some_iff.mp h
        refine wt_callVv 37 [] C kvX11_184 sc_19 (mX8_copyFrom (cx_ok C) (is8_19) (is8_arr23 _ (ux_in_lt hi5)) hc7) rfl rfl ⟨Nat.le_of_ble_eq_true rfl, Nat.le_of_ble_eq_true rfl⟩ (Nat.le_of_ble_eq_true rfl) dX11_back_34 rfl ?_
        refine wt_aload_n 38 0 C dX11_back_37 rfl rfl ?_
        refine wt_getR 41 C kfX11_41 sc_0 rfl dX11_back_38 rfl ?_
        refine wt_iconst 42 0 C dX11_back_41 rfl (by decide) ?_
        refine wt_putI 45 C kpX11_100 sc_30 rfl rfl rfl dX11_back_42 rfl ?_
        refine wt_aload_n 46 0 C dX11_back_45 rfl rfl ?_
        refine wt_getR 49 C kfX11_50 sc_0 rfl dX11_back_46 rfl ?_
        obtain ⟨o8, hc9, h⟩ := Option.bind_eq_some_iff.mp h
        refine wt_callVi 52 [] C kvX11_71 sc_33 (mX6_refresh (cx_ok C)  hc9) rfl rfl ⟨Nat.le_of_ble_eq_true rfl, Nat.le_of_ble_eq_true rfl⟩ (Nat.le_of_ble_eq_true rfl) dX11_back_49 rfl ?_
        cases h
        exact wt_iret C hq dX11_back_52
      · have h := (if_pos q4).symm.trans h
        refine wt_bipush 23 (-4) C dX11_back_21 rfl (by decide) ?_
        cases h
        exact wt_iret C hq dX11_back_23
    · have h := (if_neg q2).symm.trans h
      refine wt_sub [] rfl ?_
      exact wX11_back_9 C hq h
theorem mX11_back {l : Launch} {G : ux_G} (hok : ux_ok G shC) {v1 : Int32}  {N : ux_N} {L : ux_L} {o : Int32 × ux_N × ux_L} (h : fX11_back v1 N L = some o) : ux_Mi l G yX11_back cX11_back 2 (some .int) 5 117 [.ref (gad G 0), .int v1] N L o.1 o.2.1 o.2.2 :=
  ux_ofi shC hok (by decide +kernel) (Nat.le_of_ble_eq_true rfl) (fun X hG hl C hq => by subst hG; subst hl; exact wX11_back C  hq h)
def fX11_island_15 (N : ux_N) : Option (Int32) :=
  some (-2 : Int32)
set_option maxHeartbeats 4000000 in
set_option maxRecDepth 20000 in
theorem wX11_island_15 {X : ux_X} (C : ux_C X cX11_island RX11 2 (some .int) 2 45 shC)   {N : ux_N} {L : ux_L} {o : Int32} (hq : ux_Qi X o N L) (h : fX11_island_15 N = some o) : ux_Wt X 2 15 [] [] N L := by
  refine wt_bipush 17 (-2) C dX11_island_15 rfl (by decide) ?_
  cases h
  exact wt_iret C hq dX11_island_17
def fX11_island (v1 : Int32) (N : ux_N) : Option (Int32) :=
  if v1 < 0 then (fX11_island_15 N) else (if v1 < (N 1 0) then ((fX6_islandOf v1 N).bind (fun o3 => some o3)) else (fX11_island_15 N))
set_option maxHeartbeats 4000000 in
set_option maxRecDepth 20000 in
theorem wX11_island {X : ux_X} (C : ux_C X cX11_island RX11 2 (some .int) 2 45 shC) {v1 : Int32}  {N : ux_N} {L : ux_L} {o : Int32} (hq : ux_Qi X o N L) (h : fX11_island v1 N = some o) : ux_Wt X 2 0 [(0, .ref (ux_ad X 0)), (1, .int v1)] [] N L := by
  refine wt_iload_n 1 1 C dX11_island_0 rfl rfl ?_
  refine wt_if_lt 4 15 C dX11_island_1 rfl (by decide) (fun q1 => ?_) (fun q1 => ?_)
  · have h := (if_pos q1).symm.trans h
    refine wt_sub [] rfl ?_
    exact wX11_island_15 C hq h
  · have h := (if_neg q1).symm.trans h
    refine wt_iload_n 5 1 C dX11_island_4 rfl rfl ?_
    refine wt_aload_n 6 0 C dX11_island_5 rfl rfl ?_
    refine wt_getR 9 C kfX11_10 sc_0 rfl dX11_island_6 rfl ?_
    refine wt_getI 12 C kfX11_189 sc_1 rfl dX11_island_9 rfl ?_
    refine wt_icmp_lt 15 18 C dX11_island_12 rfl (by decide) (fun q2 => ?_) (fun q2 => ?_)
    · have h := (if_pos q2).symm.trans h
      refine wt_aload_n 19 0 C dX11_island_18 rfl rfl ?_
      refine wt_getR 22 C kfX11_50 sc_0 rfl dX11_island_19 rfl ?_
      refine wt_iload_n 23 1 C dX11_island_22 rfl rfl ?_
      obtain ⟨o3, hc4, h⟩ := Option.bind_eq_some_iff.mp h
      refine wt_callVi 26 [] C kvX11_192 sc_33 (mX6_islandOf (cx_ok C)  hc4) rfl rfl ⟨Nat.le_of_ble_eq_true rfl, Nat.le_of_ble_eq_true rfl⟩ (Nat.le_of_ble_eq_true rfl) dX11_island_23 rfl ?_
      cases h
      exact wt_iret C hq dX11_island_26
    · have h := (if_neg q2).symm.trans h
      refine wt_sub [] rfl ?_
      exact wX11_island_15 C hq h
theorem mX11_island {l : Launch} {G : ux_G} (hok : ux_ok G shC) {v1 : Int32}  {N : ux_N} {L : ux_L} {o : Int32} (h : fX11_island v1 N = some o) : ux_Mi l G yX11_island cX11_island 2 (some .int) 2 45 [.ref (gad G 0), .int v1] N L o N L :=
  ux_ofi shC hok (by decide +kernel) (Nat.le_of_ble_eq_true rfl) (fun X hG hl C hq => by subst hG; subst hl; exact wX11_island C  hq h)
def fX11_weak_37 (s0 : Int32) (N : ux_N) (L : ux_L) : Option (Int32 × ux_N × ux_L) :=
  some (s0, N, L)
set_option maxHeartbeats 4000000 in
set_option maxRecDepth 20000 in
theorem wX11_weak_37 {X : ux_X} (C : ux_C X cX11_weak RX11 3 (some .int) 5 154 shC) {s0 : Int32}  {N : ux_N} {L : ux_L} {o : Int32 × ux_N × ux_L} (hq : ux_Qi X o.1 o.2.1 o.2.2) (h : fX11_weak_37 s0 N L = some o) : ux_Wt X 3 37 [] [.int s0] N L := by
  cases h
  exact wt_iret C hq dX11_weak_37
def fX11_weak_29 (v2 : Int32) (N : ux_N) (L : ux_L) : Option (Int32 × ux_N × ux_L) :=
  fX11_weak_37 v2 N L
set_option maxHeartbeats 4000000 in
set_option maxRecDepth 20000 in
theorem wX11_weak_29 {X : ux_X} (C : ux_C X cX11_weak RX11 3 (some .int) 5 154 shC) {v2 : Int32}  {N : ux_N} {L : ux_L} {o : Int32 × ux_N × ux_L} (hq : ux_Qi X o.1 o.2.1 o.2.2) (h : fX11_weak_29 v2 N L = some o) : ux_Wt X 3 29 [(2, .int v2)] [] N L := by
  refine wt_iload_n 30 0 C dX11_weak_29 rfl rfl ?_
  refine wt_goto 37 C dX11_weak_30 (by decide) ?_
  refine wt_sub [] rfl ?_
  exact wX11_weak_37 C hq h
def fX11_weak_12 (v1 : Int32) (N : ux_N) (L : ux_L) : Option (Int32 × ux_N × ux_L) :=
  (fX6_weakSet N L).bind (fun o1 => if o1.1 = (-1 : Int32) then (fX11_weak_29 o1.1 o1.2.1 o1.2.2) else (if v1 = 0 then (fX11_weak_29 o1.1 o1.2.1 o1.2.2) else ((fJ6_bitCount_0f7a4 o1.1).bind (fun o5 => fX11_weak_37 o5 o1.2.1 o1.2.2))))
set_option maxHeartbeats 4000000 in
set_option maxRecDepth 20000 in
theorem wX11_weak_12 {X : ux_X} (C : ux_C X cX11_weak RX11 3 (some .int) 5 154 shC) {v1 : Int32}  {N : ux_N} {L : ux_L} {o : Int32 × ux_N × ux_L} (hq : ux_Qi X o.1 o.2.1 o.2.2) (h : fX11_weak_12 v1 N L = some o) : ux_Wt X 3 12 [(0, .ref (ux_ad X 0)), (1, .int v1)] [] N L := by
  refine wt_aload_n 13 0 C dX11_weak_12 rfl rfl ?_
  refine wt_getR 16 C kfX11_50 sc_0 rfl dX11_weak_13 rfl ?_
  obtain ⟨o1, hc2, h⟩ := Option.bind_eq_some_iff.mp h
  refine wt_callVi 19 [] C kvX11_195 sc_33 (mX6_weakSet (cx_ok C)  hc2) rfl rfl ⟨Nat.le_of_ble_eq_true rfl, Nat.le_of_ble_eq_true rfl⟩ (Nat.le_of_ble_eq_true rfl) dX11_weak_16 rfl ?_
  refine wt_istore_n 20 [(2, .int o1.1), (0, .ref (ux_ad X 0)), (1, .int v1)] C dX11_weak_19 rfl (by decide) rfl ?_
  refine wt_iload_n 21 0 C dX11_weak_20 rfl rfl ?_
  refine wt_iconst 22 (-1) C dX11_weak_21 rfl (by decide) ?_
  refine wt_icmp_eq 25 29 C dX11_weak_22 rfl (by decide) (fun q3 => ?_) (fun q3 => ?_)
  · have h := (if_pos q3).symm.trans h
    refine wt_sub [0] rfl ?_
    exact wX11_weak_29 C hq h
  · have h := (if_neg q3).symm.trans h
    refine wt_iload_n 26 2 C dX11_weak_25 rfl rfl ?_
    refine wt_if_ne 29 33 C dX11_weak_26 rfl (by decide) (fun q4 => ?_) (fun q4 => ?_)
    · have h := (if_neg q4).symm.trans h
      refine wt_iload_n 34 0 C dX11_weak_33 rfl rfl ?_
      obtain ⟨o5, hc6, h⟩ := Option.bind_eq_some_iff.mp h
      refine wt_callSi 37 [] C ksX11_198 (mJ6_bitCount_0f7a4 (cx_ok C)  hc6) rfl rfl ⟨Nat.le_of_ble_eq_true rfl, Nat.le_of_ble_eq_true rfl⟩ (Nat.le_of_ble_eq_true rfl) dX11_weak_34 rfl ?_
      refine wt_sub [] rfl ?_
      exact wX11_weak_37 C hq h
    · have h := (if_pos q4).symm.trans h
      refine wt_sub [0] rfl ?_
      exact wX11_weak_29 C hq h
def fX11_weak (v1 : Int32) (N : ux_N) (L : ux_L) : Option (Int32 × ux_N × ux_L) :=
  if v1 = 0 then (fX11_weak_12 v1 N L) else (if v1 = (1 : Int32) then (fX11_weak_12 v1 N L) else (some ((-3 : Int32), N, L)))
set_option maxHeartbeats 4000000 in
set_option maxRecDepth 20000 in
theorem wX11_weak {X : ux_X} (C : ux_C X cX11_weak RX11 3 (some .int) 5 154 shC) {v1 : Int32}  {N : ux_N} {L : ux_L} {o : Int32 × ux_N × ux_L} (hq : ux_Qi X o.1 o.2.1 o.2.2) (h : fX11_weak v1 N L = some o) : ux_Wt X 3 0 [(0, .ref (ux_ad X 0)), (1, .int v1)] [] N L := by
  refine wt_iload_n 1 1 C dX11_weak_0 rfl rfl ?_
  refine wt_if_eq 4 12 C dX11_weak_1 rfl (by decide) (fun q1 => ?_) (fun q1 => ?_)
  · have h := (if_pos q1).symm.trans h
    exact wX11_weak_12 C hq h
  · have h := (if_neg q1).symm.trans h
    refine wt_iload_n 5 1 C dX11_weak_4 rfl rfl ?_
    refine wt_iconst 6 1 C dX11_weak_5 rfl (by decide) ?_
    refine wt_icmp_eq 9 12 C dX11_weak_6 rfl (by decide) (fun q2 => ?_) (fun q2 => ?_)
    · have h := (if_pos q2).symm.trans h
      exact wX11_weak_12 C hq h
    · have h := (if_neg q2).symm.trans h
      refine wt_bipush 11 (-3) C dX11_weak_9 rfl (by decide) ?_
      cases h
      exact wt_iret C hq dX11_weak_11
theorem mX11_weak {l : Launch} {G : ux_G} (hok : ux_ok G shC) {v1 : Int32}  {N : ux_N} {L : ux_L} {o : Int32 × ux_N × ux_L} (h : fX11_weak v1 N L = some o) : ux_Mi l G yX11_weak cX11_weak 3 (some .int) 5 154 [.ref (gad G 0), .int v1] N L o.1 o.2.1 o.2.2 :=
  ux_ofi shC hok (by decide +kernel) (Nat.le_of_ble_eq_true rfl) (fun X hG hl C hq => by subst hG; subst hl; exact wX11_weak C  hq h)
def fX11_deal_41 (s0 : Int32) (N : ux_N) (L : ux_L) : Option (Int32 × ux_N × ux_L) :=
  some (s0, N, L)
set_option maxHeartbeats 4000000 in
set_option maxRecDepth 20000 in
theorem wX11_deal_41 {X : ux_X} (C : ux_C X cX11_deal RX11 3 (some .int) 5 153 shC) {s0 : Int32}  {N : ux_N} {L : ux_L} {o : Int32 × ux_N × ux_L} (hq : ux_Qi X o.1 o.2.1 o.2.2) (h : fX11_deal_41 s0 N L = some o) : ux_Wt X 3 41 [] [.int s0] N L := by
  cases h
  exact wt_iret C hq dX11_deal_41
def fX11_deal_29 (v2 : Int32) (N : ux_N) (L : ux_L) : Option (Int32 × ux_N × ux_L) :=
  fX11_deal_41 v2 N L
set_option maxHeartbeats 4000000 in
set_option maxRecDepth 20000 in
theorem wX11_deal_29 {X : ux_X} (C : ux_C X cX11_deal RX11 3 (some .int) 5 153 shC) {v2 : Int32}  {N : ux_N} {L : ux_L} {o : Int32 × ux_N × ux_L} (hq : ux_Qi X o.1 o.2.1 o.2.2) (h : fX11_deal_29 v2 N L = some o) : ux_Wt X 3 29 [(2, .int v2)] [] N L := by
  refine wt_iload_n 30 0 C dX11_deal_29 rfl rfl ?_
  refine wt_goto 41 C dX11_deal_30 (by decide) ?_
  refine wt_sub [] rfl ?_
  exact wX11_deal_41 C hq h
def fX11_deal_12 (v1 : Int32) (N : ux_N) (L : ux_L) : Option (Int32 × ux_N × ux_L) :=
  (fX6_dealSet N L).bind (fun o1 => if o1.1 = (-1 : Int32) then (fX11_deal_29 o1.1 o1.2.1 o1.2.2) else (if v1 = 0 then (fX11_deal_29 o1.1 o1.2.1 o1.2.2) else ((fX3_priceOf 1 o1.1 o1.2.1).bind (fun o5 => fX11_deal_41 o5 o1.2.1 o1.2.2))))
set_option maxHeartbeats 4000000 in
set_option maxRecDepth 20000 in
theorem wX11_deal_12 {X : ux_X} (C : ux_C X cX11_deal RX11 3 (some .int) 5 153 shC) {v1 : Int32}  {N : ux_N} {L : ux_L} {o : Int32 × ux_N × ux_L} (hq : ux_Qi X o.1 o.2.1 o.2.2) (h : fX11_deal_12 v1 N L = some o) : ux_Wt X 3 12 [(0, .ref (ux_ad X 0)), (1, .int v1)] [] N L := by
  refine wt_aload_n 13 0 C dX11_deal_12 rfl rfl ?_
  refine wt_getR 16 C kfX11_50 sc_0 rfl dX11_deal_13 rfl ?_
  obtain ⟨o1, hc2, h⟩ := Option.bind_eq_some_iff.mp h
  refine wt_callVi 19 [] C kvX11_203 sc_33 (mX6_dealSet (cx_ok C)  hc2) rfl rfl ⟨Nat.le_of_ble_eq_true rfl, Nat.le_of_ble_eq_true rfl⟩ (Nat.le_of_ble_eq_true rfl) dX11_deal_16 rfl ?_
  refine wt_istore_n 20 [(2, .int o1.1), (0, .ref (ux_ad X 0)), (1, .int v1)] C dX11_deal_19 rfl (by decide) rfl ?_
  refine wt_iload_n 21 0 C dX11_deal_20 rfl rfl ?_
  refine wt_iconst 22 (-1) C dX11_deal_21 rfl (by decide) ?_
  refine wt_icmp_eq 25 29 C dX11_deal_22 rfl (by decide) (fun q3 => ?_) (fun q3 => ?_)
  · have h := (if_pos q3).symm.trans h
    refine wt_sub [0] rfl ?_
    exact wX11_deal_29 C hq h
  · have h := (if_neg q3).symm.trans h
    refine wt_iload_n 26 2 C dX11_deal_25 rfl rfl ?_
    refine wt_if_ne 29 33 C dX11_deal_26 rfl (by decide) (fun q4 => ?_) (fun q4 => ?_)
    · have h := (if_neg q4).symm.trans h
      refine wt_aload_n 34 1 C dX11_deal_33 rfl rfl ?_
      refine wt_getR 37 C kfX11_10 sc_0 rfl dX11_deal_34 rfl ?_
      refine wt_iload_n 38 0 C dX11_deal_37 rfl rfl ?_
      obtain ⟨o5, hc6, h⟩ := Option.bind_eq_some_iff.mp h
      refine wt_callVi 41 [] C kvX11_206 sc_1 (mX3_priceOf (cx_ok C) (is3_1) hc6) rfl rfl ⟨Nat.le_of_ble_eq_true rfl, Nat.le_of_ble_eq_true rfl⟩ (Nat.le_of_ble_eq_true rfl) dX11_deal_38 rfl ?_
      refine wt_sub [] rfl ?_
      exact wX11_deal_41 C hq h
    · have h := (if_pos q4).symm.trans h
      refine wt_sub [0] rfl ?_
      exact wX11_deal_29 C hq h
def fX11_deal (v1 : Int32) (N : ux_N) (L : ux_L) : Option (Int32 × ux_N × ux_L) :=
  if v1 = 0 then (fX11_deal_12 v1 N L) else (if v1 = (1 : Int32) then (fX11_deal_12 v1 N L) else (some ((-3 : Int32), N, L)))
set_option maxHeartbeats 4000000 in
set_option maxRecDepth 20000 in
theorem wX11_deal {X : ux_X} (C : ux_C X cX11_deal RX11 3 (some .int) 5 153 shC) {v1 : Int32}  {N : ux_N} {L : ux_L} {o : Int32 × ux_N × ux_L} (hq : ux_Qi X o.1 o.2.1 o.2.2) (h : fX11_deal v1 N L = some o) : ux_Wt X 3 0 [(0, .ref (ux_ad X 0)), (1, .int v1)] [] N L := by
  refine wt_iload_n 1 1 C dX11_deal_0 rfl rfl ?_
  refine wt_if_eq 4 12 C dX11_deal_1 rfl (by decide) (fun q1 => ?_) (fun q1 => ?_)
  · have h := (if_pos q1).symm.trans h
    exact wX11_deal_12 C hq h
  · have h := (if_neg q1).symm.trans h
    refine wt_iload_n 5 1 C dX11_deal_4 rfl rfl ?_
    refine wt_iconst 6 1 C dX11_deal_5 rfl (by decide) ?_
    refine wt_icmp_eq 9 12 C dX11_deal_6 rfl (by decide) (fun q2 => ?_) (fun q2 => ?_)
    · have h := (if_pos q2).symm.trans h
      exact wX11_deal_12 C hq h
    · have h := (if_neg q2).symm.trans h
      refine wt_bipush 11 (-3) C dX11_deal_9 rfl (by decide) ?_
      cases h
      exact wt_iret C hq dX11_deal_11
theorem mX11_deal {l : Launch} {G : ux_G} (hok : ux_ok G shC) {v1 : Int32}  {N : ux_N} {L : ux_L} {o : Int32 × ux_N × ux_L} (h : fX11_deal v1 N L = some o) : ux_Mi l G yX11_deal cX11_deal 3 (some .int) 5 153 [.ref (gad G 0), .int v1] N L o.1 o.2.1 o.2.2 :=
  ux_ofi shC hok (by decide +kernel) (Nat.le_of_ble_eq_true rfl) (fun X hG hl C hq => by subst hG; subst hl; exact wX11_deal C  hq h)
def fX11_lost (v1 : Int32) (N : ux_N) (L : ux_L) : Option (Int32 × ux_L) :=
  (fX11_isLine v1 N).bind (fun o1 => if o1 = 0 then (some ((-2 : Int32), L)) else (if (((N 19 2) >>> (v1 &&& 31)) &&& (1 : Int32)) = (1 : Int32) then (some ((-4 : Int32), L)) else ((fX6_lossOf v1 N L).bind (fun o5 => some (o5.1, o5.2)))))
set_option maxHeartbeats 4000000 in
set_option maxRecDepth 20000 in
theorem wX11_lost {X : ux_X} (C : ux_C X cX11_lost RX11 2 (some .int) 5 118 shC) {v1 : Int32}  {N : ux_N} {L : ux_L} {o : Int32 × ux_L} (hq : ux_Qi X o.1 N o.2) (h : fX11_lost v1 N L = some o) : ux_Wt X 2 0 [(0, .ref (ux_ad X 0)), (1, .int v1)] [] N L := by
  refine wt_aload_n 1 0 C dX11_lost_0 rfl rfl ?_
  refine wt_iload_n 2 1 C dX11_lost_1 rfl rfl ?_
  obtain ⟨o1, hc2, h⟩ := Option.bind_eq_some_iff.mp h
  refine wt_callVi 5 [] C kvX11_109 sc_0 (mX11_isLine (cx_ok C)  hc2) rfl rfl ⟨Nat.le_of_ble_eq_true rfl, Nat.le_of_ble_eq_true rfl⟩ (Nat.le_of_ble_eq_true rfl) dX11_lost_2 rfl ?_
  refine wt_if_ne 8 11 C dX11_lost_5 rfl (by decide) (fun q3 => ?_) (fun q3 => ?_)
  · have h := (if_neg q3).symm.trans h
    refine wt_aload_n 12 0 C dX11_lost_11 rfl rfl ?_
    refine wt_getR 15 C kfX11_26 sc_0 rfl dX11_lost_12 rfl ?_
    refine wt_getI 18 C kfX11_120 sc_19 rfl dX11_lost_15 rfl ?_
    refine wt_iload_n 19 1 C dX11_lost_18 rfl rfl ?_
    refine wt_ishr 20 C dX11_lost_19 rfl ?_
    refine wt_iconst 21 1 C dX11_lost_20 rfl (by decide) ?_
    refine wt_iand 22 C dX11_lost_21 rfl ?_
    refine wt_iconst 23 1 C dX11_lost_22 rfl (by decide) ?_
    refine wt_icmp_ne 26 29 C dX11_lost_23 rfl (by decide) (fun q4 => ?_) (fun q4 => ?_)
    · have h := (if_neg q4).symm.trans h
      refine wt_aload_n 30 0 C dX11_lost_29 rfl rfl ?_
      refine wt_getR 33 C kfX11_50 sc_0 rfl dX11_lost_30 rfl ?_
      refine wt_iload_n 34 1 C dX11_lost_33 rfl rfl ?_
      obtain ⟨o5, hc6, h⟩ := Option.bind_eq_some_iff.mp h
      refine wt_callVi 37 [] C kvX11_209 sc_33 (mX6_lossOf (cx_ok C)  hc6) rfl rfl ⟨Nat.le_of_ble_eq_true rfl, Nat.le_of_ble_eq_true rfl⟩ (Nat.le_of_ble_eq_true rfl) dX11_lost_34 rfl ?_
      cases h
      exact wt_iret C hq dX11_lost_37
    · have h := (if_pos q4).symm.trans h
      refine wt_bipush 28 (-4) C dX11_lost_26 rfl (by decide) ?_
      cases h
      exact wt_iret C hq dX11_lost_28
  · have h := (if_pos q3).symm.trans h
    refine wt_bipush 10 (-2) C dX11_lost_8 rfl (by decide) ?_
    cases h
    exact wt_iret C hq dX11_lost_10
theorem mX11_lost {l : Launch} {G : ux_G} (hok : ux_ok G shC) {v1 : Int32}  {N : ux_N} {L : ux_L} {o : Int32 × ux_L} (h : fX11_lost v1 N L = some o) : ux_Mi l G yX11_lost cX11_lost 2 (some .int) 5 118 [.ref (gad G 0), .int v1] N L o.1 N o.2 :=
  ux_ofi shC hok (by decide +kernel) (Nat.le_of_ble_eq_true rfl) (fun X hG hl C hq => by subst hG; subst hl; exact wX11_lost C  hq h)
def fX11_brings_24 (s0 : Int32) (N : ux_N) (L : ux_L) : Option (Int32 × ux_L) :=
  some (s0, L)
set_option maxHeartbeats 4000000 in
set_option maxRecDepth 20000 in
theorem wX11_brings_24 {X : ux_X} (C : ux_C X cX11_brings RX11 4 (some .int) 4 105 shC) {s0 : Int32}  {N : ux_N} {L : ux_L} {o : Int32 × ux_L} (hq : ux_Qi X o.1 N o.2) (h : fX11_brings_24 s0 N L = some o) : ux_Wt X 4 24 [] [.int s0] N L := by
  cases h
  exact wt_iret C hq dX11_brings_24
def fX11_brings (v1 : Int32) (v2 : Int32) (N : ux_N) (L : ux_L) : Option (Int32 × ux_L) :=
  (fX11_refusePlace v1 v2 N).bind (fun o1 => if o1 = 0 then ((fX6_gain v1 v2 N L).bind (fun o4 => fX11_brings_24 o4.1 N o4.2)) else (fX11_brings_24 o1 N L))
set_option maxHeartbeats 4000000 in
set_option maxRecDepth 20000 in
theorem wX11_brings {X : ux_X} (C : ux_C X cX11_brings RX11 4 (some .int) 4 105 shC) {v1 : Int32} {v2 : Int32}  {N : ux_N} {L : ux_L} {o : Int32 × ux_L} (hq : ux_Qi X o.1 N o.2) (h : fX11_brings v1 v2 N L = some o) : ux_Wt X 4 0 [(0, .ref (ux_ad X 0)), (1, .int v1), (2, .int v2)] [] N L := by
  refine wt_aload_n 1 0 C dX11_brings_0 rfl rfl ?_
  refine wt_iload_n 2 1 C dX11_brings_1 rfl rfl ?_
  refine wt_iload_n 3 2 C dX11_brings_2 rfl rfl ?_
  obtain ⟨o1, hc2, h⟩ := Option.bind_eq_some_iff.mp h
  refine wt_callVi 6 [] C kvX11_167 sc_0 (mX11_refusePlace (cx_ok C)  hc2) rfl rfl ⟨Nat.le_of_ble_eq_true rfl, Nat.le_of_ble_eq_true rfl⟩ (Nat.le_of_ble_eq_true rfl) dX11_brings_3 rfl ?_
  refine wt_istore_n 7 [(3, .int o1), (0, .ref (ux_ad X 0)), (1, .int v1), (2, .int v2)] C dX11_brings_6 rfl (by decide) rfl ?_
  refine wt_iload_n 8 0 C dX11_brings_7 rfl rfl ?_
  refine wt_if_eq 11 15 C dX11_brings_8 rfl (by decide) (fun q3 => ?_) (fun q3 => ?_)
  · have h := (if_pos q3).symm.trans h
    refine wt_aload_n 16 1 C dX11_brings_15 rfl rfl ?_
    refine wt_getR 19 C kfX11_50 sc_0 rfl dX11_brings_16 rfl ?_
    refine wt_iload_n 20 2 C dX11_brings_19 rfl rfl ?_
    refine wt_iload_n 21 3 C dX11_brings_20 rfl rfl ?_
    obtain ⟨o4, hc5, h⟩ := Option.bind_eq_some_iff.mp h
    refine wt_callVi 24 [] C kvX11_163 sc_33 (mX6_gain (cx_ok C)  hc5) rfl rfl ⟨Nat.le_of_ble_eq_true rfl, Nat.le_of_ble_eq_true rfl⟩ (Nat.le_of_ble_eq_true rfl) dX11_brings_21 rfl ?_
    refine wt_sub [] rfl ?_
    exact wX11_brings_24 C hq h
  · have h := (if_neg q3).symm.trans h
    refine wt_iload_n 12 0 C dX11_brings_11 rfl rfl ?_
    refine wt_goto 24 C dX11_brings_12 (by decide) ?_
    refine wt_sub [] rfl ?_
    exact wX11_brings_24 C hq h
theorem mX11_brings {l : Launch} {G : ux_G} (hok : ux_ok G shC) {v1 : Int32} {v2 : Int32}  {N : ux_N} {L : ux_L} {o : Int32 × ux_L} (h : fX11_brings v1 v2 N L = some o) : ux_Mi l G yX11_brings cX11_brings 4 (some .int) 4 105 [.ref (gad G 0), .int v1, .int v2] N L o.1 N o.2 :=
  ux_ofi shC hok (by decide +kernel) (Nat.le_of_ble_eq_true rfl) (fun X hG hl C hq => by subst hG; subst hl; exact wX11_brings C  hq h)
def fX11_seen_21 (N : ux_N) : Option (Int32 × ux_N) :=
  some ((-3 : Int32), N)
set_option maxHeartbeats 4000000 in
set_option maxRecDepth 20000 in
theorem wX11_seen_21 {X : ux_X} (C : ux_C X cX11_seen RX11 3 (some .int) 1 22 shC)   {N : ux_N} {L : ux_L} {o : Int32 × ux_N} (hq : ux_Qi X o.1 o.2 L) (h : fX11_seen_21 N = some o) : ux_Wt X 3 21 [] [] N L := by
  refine wt_bipush 23 (-3) C dX11_seen_21 rfl (by decide) ?_
  cases h
  exact wt_iret C hq dX11_seen_23
def fX11_seen_48 (s0 : Int32) (N : ux_N) : Option (Int32 × ux_N) :=
  some (s0, N)
set_option maxHeartbeats 4000000 in
set_option maxRecDepth 20000 in
theorem wX11_seen_48 {X : ux_X} (C : ux_C X cX11_seen RX11 3 (some .int) 1 22 shC) {s0 : Int32}  {N : ux_N} {L : ux_L} {o : Int32 × ux_N} (hq : ux_Qi X o.1 o.2 L) (h : fX11_seen_48 s0 N = some o) : ux_Wt X 3 48 [] [.int s0] N L := by
  cases h
  exact wt_iret C hq dX11_seen_48
def fX11_seen (v1 : Int32) (v2 : Int32) (N : ux_N) : Option (Int32 × ux_N) :=
  if v1 < 0 then (fX11_seen_21 N) else (if (9 : Int32) < v1 then (fX11_seen_21 N) else (if v2 < 0 then (fX11_seen_21 N) else (if v2 ≤ (1023 : Int32) then ((fX7_add v1 v2 N).bind (fun o5 => if o5.1 = 0 then (fX11_seen_48 (-5 : Int32) o5.2) else (fX11_seen_48 (o5.2 107 0) o5.2))) else (fX11_seen_21 N))))
set_option maxHeartbeats 4000000 in
set_option maxRecDepth 20000 in
theorem wX11_seen {X : ux_X} (C : ux_C X cX11_seen RX11 3 (some .int) 1 22 shC) {v1 : Int32} {v2 : Int32}  {N : ux_N} {L : ux_L} {o : Int32 × ux_N} (hq : ux_Qi X o.1 o.2 L) (h : fX11_seen v1 v2 N = some o) : ux_Wt X 3 0 [(0, .ref (ux_ad X 0)), (1, .int v1), (2, .int v2)] [] N L := by
  refine wt_iload_n 1 1 C dX11_seen_0 rfl rfl ?_
  refine wt_if_lt 4 21 C dX11_seen_1 rfl (by decide) (fun q1 => ?_) (fun q1 => ?_)
  · have h := (if_pos q1).symm.trans h
    refine wt_sub [] rfl ?_
    exact wX11_seen_21 C hq h
  · have h := (if_neg q1).symm.trans h
    refine wt_iload_n 5 1 C dX11_seen_4 rfl rfl ?_
    refine wt_bipush 7 9 C dX11_seen_5 rfl (by decide) ?_
    refine wt_icmp_gt 10 21 C dX11_seen_7 rfl (by decide) (fun q2 => ?_) (fun q2 => ?_)
    · have h := (if_pos q2).symm.trans h
      refine wt_sub [] rfl ?_
      exact wX11_seen_21 C hq h
    · have h := (if_neg q2).symm.trans h
      refine wt_iload_n 11 2 C dX11_seen_10 rfl rfl ?_
      refine wt_if_lt 14 21 C dX11_seen_11 rfl (by decide) (fun q3 => ?_) (fun q3 => ?_)
      · have h := (if_pos q3).symm.trans h
        refine wt_sub [] rfl ?_
        exact wX11_seen_21 C hq h
      · have h := (if_neg q3).symm.trans h
        refine wt_iload_n 15 2 C dX11_seen_14 rfl rfl ?_
        refine wt_sipush 18 1023 C dX11_seen_15 rfl (by decide) ?_
        refine wt_icmp_le 21 24 C dX11_seen_18 rfl (by decide) (fun q4 => ?_) (fun q4 => ?_)
        · have h := (if_pos q4).symm.trans h
          refine wt_aload_n 25 0 C dX11_seen_24 rfl rfl ?_
          refine wt_getR 28 C kfX11_57 sc_0 rfl dX11_seen_25 rfl ?_
          refine wt_iload_n 29 1 C dX11_seen_28 rfl rfl ?_
          refine wt_iload_n 30 2 C dX11_seen_29 rfl rfl ?_
          obtain ⟨o5, hc6, h⟩ := Option.bind_eq_some_iff.mp h
          refine wt_callVi 33 [] C kvX11_212 sc_107 (mX7_add (cx_ok C)  hc6) rfl rfl ⟨Nat.le_of_ble_eq_true rfl, Nat.le_of_ble_eq_true rfl⟩ (Nat.le_of_ble_eq_true rfl) dX11_seen_30 rfl ?_
          refine wt_if_eq 36 46 C dX11_seen_33 rfl (by decide) (fun q7 => ?_) (fun q7 => ?_)
          · have h := (if_pos q7).symm.trans h
            refine wt_bipush 48 (-5) C dX11_seen_46 rfl (by decide) ?_
            refine wt_sub [] rfl ?_
            exact wX11_seen_48 C hq h
          · have h := (if_neg q7).symm.trans h
            refine wt_aload_n 37 0 C dX11_seen_36 rfl rfl ?_
            refine wt_getR 40 C kfX11_57 sc_0 rfl dX11_seen_37 rfl ?_
            refine wt_getI 43 C kfX11_216 sc_107 rfl dX11_seen_40 rfl ?_
            refine wt_goto 48 C dX11_seen_43 (by decide) ?_
            refine wt_sub [] rfl ?_
            exact wX11_seen_48 C hq h
        · have h := (if_neg q4).symm.trans h
          refine wt_sub [] rfl ?_
          exact wX11_seen_21 C hq h
theorem mX11_seen {l : Launch} {G : ux_G} (hok : ux_ok G shC) {v1 : Int32} {v2 : Int32}  {N : ux_N} {L : ux_L} {o : Int32 × ux_N} (h : fX11_seen v1 v2 N = some o) : ux_Mi l G yX11_seen cX11_seen 3 (some .int) 1 22 [.ref (gad G 0), .int v1, .int v2] N L o.1 o.2 L :=
  ux_ofi shC hok (by decide +kernel) (Nat.le_of_ble_eq_true rfl) (fun X hG hl C hq => by subst hG; subst hl; exact wX11_seen C  hq h)
def fX11_forget (N : ux_N) : Option (Int32 × ux_N) :=
  some ((N 107 0), (ux_u N 107 0 (0 : Int32)))
set_option maxHeartbeats 4000000 in
set_option maxRecDepth 20000 in
theorem wX11_forget {X : ux_X} (C : ux_C X cX11_forget RX11 2 (some .int) 0 0 shC)   {N : ux_N} {L : ux_L} {o : Int32 × ux_N} (hq : ux_Qi X o.1 o.2 L) (h : fX11_forget N = some o) : ux_Wt X 2 0 [(0, .ref (ux_ad X 0))] [] N L := by
  refine wt_aload_n 1 0 C dX11_forget_0 rfl rfl ?_
  refine wt_getR 4 C kfX11_57 sc_0 rfl dX11_forget_1 rfl ?_
  refine wt_getI 7 C kfX11_216 sc_107 rfl dX11_forget_4 rfl ?_
  refine wt_istore_n 8 [(1, .int (N 107 0)), (0, .ref (ux_ad X 0))] C dX11_forget_7 rfl (by decide) rfl ?_
  refine wt_aload_n 9 1 C dX11_forget_8 rfl rfl ?_
  refine wt_getR 12 C kfX11_57 sc_0 rfl dX11_forget_9 rfl ?_
  refine wt_iconst 13 0 C dX11_forget_12 rfl (by decide) ?_
  refine wt_putI 16 C kpX11_216 sc_107 rfl rfl rfl dX11_forget_13 rfl ?_
  refine wt_iload_n 17 0 C dX11_forget_16 rfl rfl ?_
  cases h
  exact wt_iret C hq dX11_forget_17
theorem mX11_forget {l : Launch} {G : ux_G} (hok : ux_ok G shC)   {N : ux_N} {L : ux_L} {o : Int32 × ux_N} (h : fX11_forget N = some o) : ux_Mi l G yX11_forget cX11_forget 2 (some .int) 0 0 [.ref (gad G 0)] N L o.1 o.2 L :=
  ux_ofi shC hok (by decide +kernel) (Nat.le_of_ble_eq_true rfl) (fun X hG hl C hq => by subst hG; subst hl; exact wX11_forget C  hq h)
def fX11_openLines (N : ux_N) : Option (Int32) :=
  (fX3_allLines 1 N).bind (fun o1 => some (o1 &&& ((N 19 2) ^^^ (-1 : Int32))))
set_option maxHeartbeats 4000000 in
set_option maxRecDepth 20000 in
theorem wX11_openLines {X : ux_X} (C : ux_C X cX11_openLines RX11 1 (some .int) 1 20 shC)   {N : ux_N} {L : ux_L} {o : Int32} (hq : ux_Qi X o N L) (h : fX11_openLines N = some o) : ux_Wt X 1 0 [(0, .ref (ux_ad X 0))] [] N L := by
  refine wt_aload_n 1 0 C dX11_openLines_0 rfl rfl ?_
  refine wt_getR 4 C kfX11_10 sc_0 rfl dX11_openLines_1 rfl ?_
  obtain ⟨o1, hc2, h⟩ := Option.bind_eq_some_iff.mp h
  refine wt_callVi 7 [] C kvX11_270 sc_1 (mX3_allLines (cx_ok C) (is3_1) hc2) rfl rfl ⟨Nat.le_of_ble_eq_true rfl, Nat.le_of_ble_eq_true rfl⟩ (Nat.le_of_ble_eq_true rfl) dX11_openLines_4 rfl ?_
  refine wt_aload_n 8 0 C dX11_openLines_7 rfl rfl ?_
  refine wt_getR 11 C kfX11_26 sc_0 rfl dX11_openLines_8 rfl ?_
  refine wt_getI 14 C kfX11_120 sc_19 rfl dX11_openLines_11 rfl ?_
  refine wt_iconst 15 (-1) C dX11_openLines_14 rfl (by decide) ?_
  refine wt_ixor 16 C dX11_openLines_15 rfl ?_
  refine wt_iand 17 C dX11_openLines_16 rfl ?_
  cases h
  exact wt_iret C hq dX11_openLines_17
theorem mX11_openLines {l : Launch} {G : ux_G} (hok : ux_ok G shC)   {N : ux_N} {L : ux_L} {o : Int32} (h : fX11_openLines N = some o) : ux_Mi l G yX11_openLines cX11_openLines 1 (some .int) 1 20 [.ref (gad G 0)] N L o N L :=
  ux_ofi shC hok (by decide +kernel) (Nat.le_of_ble_eq_true rfl) (fun X hG hl C hq => by subst hG; subst hl; exact wX11_openLines C  hq h)
def fX11_fit (N : ux_N) : Option (Int32) :=
  (fX11_openLines N).bind (fun o1 => (fX7_fitting 1 o1 N).bind (fun o3 => some o3))
set_option maxHeartbeats 4000000 in
set_option maxRecDepth 20000 in
theorem wX11_fit {X : ux_X} (C : ux_C X cX11_fit RX11 1 (some .int) 5 120 shC)   {N : ux_N} {L : ux_L} {o : Int32} (hq : ux_Qi X o N L) (h : fX11_fit N = some o) : ux_Wt X 1 0 [(0, .ref (ux_ad X 0))] [] N L := by
  refine wt_aload_n 1 0 C dX11_fit_0 rfl rfl ?_
  refine wt_getR 4 C kfX11_57 sc_0 rfl dX11_fit_1 rfl ?_
  refine wt_aload_n 5 0 C dX11_fit_4 rfl rfl ?_
  refine wt_getR 8 C kfX11_10 sc_0 rfl dX11_fit_5 rfl ?_
  refine wt_aload_n 9 0 C dX11_fit_8 rfl rfl ?_
  obtain ⟨o1, hc2, h⟩ := Option.bind_eq_some_iff.mp h
  refine wt_callVi 12 [.ref (ux_ad X 1), .ref (ux_ad X 107)] C kvX11_217 sc_0 (mX11_openLines (cx_ok C)  hc2) rfl rfl ⟨Nat.le_of_ble_eq_true rfl, Nat.le_of_ble_eq_true rfl⟩ (Nat.le_of_ble_eq_true rfl) dX11_fit_9 rfl ?_
  obtain ⟨o3, hc4, h⟩ := Option.bind_eq_some_iff.mp h
  refine wt_callVi 15 [] C kvX11_220 sc_107 (mX7_fitting (cx_ok C) (is3_1) hc4) rfl rfl ⟨Nat.le_of_ble_eq_true rfl, Nat.le_of_ble_eq_true rfl⟩ (Nat.le_of_ble_eq_true rfl) dX11_fit_12 rfl ?_
  cases h
  exact wt_iret C hq dX11_fit_15
theorem mX11_fit {l : Launch} {G : ux_G} (hok : ux_ok G shC)   {N : ux_N} {L : ux_L} {o : Int32} (h : fX11_fit N = some o) : ux_Mi l G yX11_fit cX11_fit 1 (some .int) 5 120 [.ref (gad G 0)] N L o N L :=
  ux_ofi shC hok (by decide +kernel) (Nat.le_of_ble_eq_true rfl) (fun X hG hl C hq => by subst hG; subst hl; exact wX11_fit C  hq h)
def fX11_ask (N : ux_N) : Option (Int32) :=
  (fX11_openLines N).bind (fun o1 => (fX7_bestPlace 1 o1 N).bind (fun o3 => some o3))
set_option maxHeartbeats 4000000 in
set_option maxRecDepth 20000 in
theorem wX11_ask {X : ux_X} (C : ux_C X cX11_ask RX11 1 (some .int) 6 150 shC)   {N : ux_N} {L : ux_L} {o : Int32} (hq : ux_Qi X o N L) (h : fX11_ask N = some o) : ux_Wt X 1 0 [(0, .ref (ux_ad X 0))] [] N L := by
  refine wt_aload_n 1 0 C dX11_ask_0 rfl rfl ?_
  refine wt_getR 4 C kfX11_57 sc_0 rfl dX11_ask_1 rfl ?_
  refine wt_aload_n 5 0 C dX11_ask_4 rfl rfl ?_
  refine wt_getR 8 C kfX11_10 sc_0 rfl dX11_ask_5 rfl ?_
  refine wt_aload_n 9 0 C dX11_ask_8 rfl rfl ?_
  obtain ⟨o1, hc2, h⟩ := Option.bind_eq_some_iff.mp h
  refine wt_callVi 12 [.ref (ux_ad X 1), .ref (ux_ad X 107)] C kvX11_217 sc_0 (mX11_openLines (cx_ok C)  hc2) rfl rfl ⟨Nat.le_of_ble_eq_true rfl, Nat.le_of_ble_eq_true rfl⟩ (Nat.le_of_ble_eq_true rfl) dX11_ask_9 rfl ?_
  obtain ⟨o3, hc4, h⟩ := Option.bind_eq_some_iff.mp h
  refine wt_callVi 15 [] C kvX11_224 sc_107 (mX7_bestPlace (cx_ok C) (is3_1) hc4) rfl rfl ⟨Nat.le_of_ble_eq_true rfl, Nat.le_of_ble_eq_true rfl⟩ (Nat.le_of_ble_eq_true rfl) dX11_ask_12 rfl ?_
  cases h
  exact wt_iret C hq dX11_ask_15
theorem mX11_ask {l : Launch} {G : ux_G} (hok : ux_ok G shC)   {N : ux_N} {L : ux_L} {o : Int32} (h : fX11_ask N = some o) : ux_Mi l G yX11_ask cX11_ask 1 (some .int) 6 150 [.ref (gad G 0)] N L o N L :=
  ux_ofi shC hok (by decide +kernel) (Nat.le_of_ble_eq_true rfl) (fun X hG hl C hq => by subst hG; subst hl; exact wX11_ask C  hq h)
def fX11_isTray_14 (s0 : Int32) : Option (Int32) :=
  if ux_b s0 then (some s0) else none
set_option maxHeartbeats 4000000 in
set_option maxRecDepth 20000 in
theorem wX11_isTray_14 {X : ux_X} (C : ux_C X cX11_isTray RX11 1 (some .boolean) 0 0 shC) {s0 : Int32}  {N : ux_N} {L : ux_L} {o : Int32} (hq : ux_Qi X o N L) (h : fX11_isTray_14 s0 = some o) : ux_Wt X 1 14 [] [.int s0] N L := by
  obtain ⟨hb1, h⟩ := ux_guard h
  cases h
  exact wt_zret C (ux_b_n hb1).1 hq dX11_isTray_14
def fX11_isTray_13  : Option (Int32) :=
  fX11_isTray_14 (0 : Int32)
set_option maxHeartbeats 4000000 in
set_option maxRecDepth 20000 in
theorem wX11_isTray_13 {X : ux_X} (C : ux_C X cX11_isTray RX11 1 (some .boolean) 0 0 shC)   {N : ux_N} {L : ux_L} {o : Int32} (hq : ux_Qi X o N L) (h : fX11_isTray_13  = some o) : ux_Wt X 1 13 [] [] N L := by
  refine wt_iconst 14 0 C dX11_isTray_13 rfl (by decide) ?_
  exact wX11_isTray_14 C hq h
def fX11_isTray (v0 : Int32) : Option (Int32) :=
  if v0 < 0 then (fX11_isTray_13) else (if (3 : Int32) ≤ v0 then (fX11_isTray_13) else (fX11_isTray_14 (1 : Int32)))
set_option maxHeartbeats 4000000 in
set_option maxRecDepth 20000 in
theorem wX11_isTray {X : ux_X} (C : ux_C X cX11_isTray RX11 1 (some .boolean) 0 0 shC) {v0 : Int32}  {N : ux_N} {L : ux_L} {o : Int32} (hq : ux_Qi X o N L) (h : fX11_isTray v0 = some o) : ux_Wt X 1 0 [(0, .int v0)] [] N L := by
  refine wt_iload_n 1 0 C dX11_isTray_0 rfl rfl ?_
  refine wt_if_lt 4 13 C dX11_isTray_1 rfl (by decide) (fun q1 => ?_) (fun q1 => ?_)
  · have h := (if_pos q1).symm.trans h
    refine wt_sub [] rfl ?_
    exact wX11_isTray_13 C hq h
  · have h := (if_neg q1).symm.trans h
    refine wt_iload_n 5 0 C dX11_isTray_4 rfl rfl ?_
    refine wt_iconst 6 3 C dX11_isTray_5 rfl (by decide) ?_
    refine wt_icmp_ge 9 13 C dX11_isTray_6 rfl (by decide) (fun q2 => ?_) (fun q2 => ?_)
    · have h := (if_pos q2).symm.trans h
      refine wt_sub [] rfl ?_
      exact wX11_isTray_13 C hq h
    · have h := (if_neg q2).symm.trans h
      refine wt_iconst 10 1 C dX11_isTray_9 rfl (by decide) ?_
      refine wt_goto 14 C dX11_isTray_10 (by decide) ?_
      refine wt_sub [] rfl ?_
      exact wX11_isTray_14 C hq h
theorem mX11_isTray {l : Launch} {G : ux_G} (hok : ux_ok G shC) {v0 : Int32}  {N : ux_N} {L : ux_L} {o : Int32} (h : fX11_isTray v0 = some o) : ux_Mi l G yX11_isTray cX11_isTray 1 (some .boolean) 0 0 [.int v0] N L o N L :=
  ux_ofi shC hok (by decide +kernel) (Nat.le_of_ble_eq_true rfl) (fun X hG hl C hq => by subst hG; subst hl; exact wX11_isTray C  hq h)
def fX11_tray (v1 : Int32) (N : ux_N) : Option (Int32 × ux_N) :=
  (fX11_isTray v1).bind (fun o1 => if o1 = 0 then (some ((-2 : Int32), N)) else (if ux_in v1 3 then ((fX9_renew (111 + 3 * v1.toNatClampNeg) N).bind (fun o5 => some ((0 : Int32), o5))) else none))
set_option maxHeartbeats 4000000 in
set_option maxRecDepth 20000 in
theorem wX11_tray {X : ux_X} (C : ux_C X cX11_tray RX11 2 (some .int) 1 20 shC) {v1 : Int32}  {N : ux_N} {L : ux_L} {o : Int32 × ux_N} (hq : ux_Qi X o.1 o.2 L) (h : fX11_tray v1 N = some o) : ux_Wt X 2 0 [(0, .ref (ux_ad X 0)), (1, .int v1)] [] N L := by
  refine wt_iload_n 1 1 C dX11_tray_0 rfl rfl ?_
  obtain ⟨o1, hc2, h⟩ := Option.bind_eq_some_iff.mp h
  refine wt_callSi 4 [] C ksX11_227 (mX11_isTray (cx_ok C)  hc2) rfl rfl ⟨Nat.le_of_ble_eq_true rfl, Nat.le_of_ble_eq_true rfl⟩ (Nat.le_of_ble_eq_true rfl) dX11_tray_1 rfl ?_
  refine wt_if_ne 7 10 C dX11_tray_4 rfl (by decide) (fun q3 => ?_) (fun q3 => ?_)
  · have h := (if_neg q3).symm.trans h
    refine wt_aload_n 11 0 C dX11_tray_10 rfl rfl ?_
    refine wt_getR 14 C kfX11_63 sc_0 rfl dX11_tray_11 rfl ?_
    refine wt_iload_n 15 1 C dX11_tray_14 rfl rfl ?_
    obtain ⟨hi4, h⟩ := ux_guard h
    refine wt_aald 16 (v1.toNatClampNeg) 111 3 C sc_110 rfl (by decide) rfl hi4 dX11_tray_15 rfl ?_
    obtain ⟨o5, hc6, h⟩ := Option.bind_eq_some_iff.mp h
    refine wt_callVv 19 [] C kvX11_230 (is9_arr111 _ (ux_in_lt hi4)).1 (mX9_renew (cx_ok C) (is9_arr111 _ (ux_in_lt hi4)) hc6) rfl rfl ⟨Nat.le_of_ble_eq_true rfl, Nat.le_of_ble_eq_true rfl⟩ (Nat.le_of_ble_eq_true rfl) dX11_tray_16 rfl ?_
    refine wt_iconst 20 0 C dX11_tray_19 rfl (by decide) ?_
    cases h
    exact wt_iret C hq dX11_tray_20
  · have h := (if_pos q3).symm.trans h
    refine wt_bipush 9 (-2) C dX11_tray_7 rfl (by decide) ?_
    cases h
    exact wt_iret C hq dX11_tray_9
theorem mX11_tray {l : Launch} {G : ux_G} (hok : ux_ok G shC) {v1 : Int32}  {N : ux_N} {L : ux_L} {o : Int32 × ux_N} (h : fX11_tray v1 N = some o) : ux_Mi l G yX11_tray cX11_tray 2 (some .int) 1 20 [.ref (gad G 0), .int v1] N L o.1 o.2 L :=
  ux_ofi shC hok (by decide +kernel) (Nat.le_of_ble_eq_true rfl) (fun X hG hl C hq => by subst hG; subst hl; exact wX11_tray C  hq h)
def fX11_canBeLaid_43 (s0 : Int32) : Option (Int32) :=
  if ux_b s0 then (some s0) else none
set_option maxHeartbeats 4000000 in
set_option maxRecDepth 20000 in
theorem wX11_canBeLaid_43 {X : ux_X} (C : ux_C X cX11_canBeLaid RX11 2 (some .boolean) 0 0 shC) {s0 : Int32}  {N : ux_N} {L : ux_L} {o : Int32} (hq : ux_Qi X o N L) (h : fX11_canBeLaid_43 s0 = some o) : ux_Wt X 2 43 [] [.int s0] N L := by
  obtain ⟨hb1, h⟩ := ux_guard h
  cases h
  exact wt_zret C (ux_b_n hb1).1 hq dX11_canBeLaid_43
def fX11_canBeLaid_42  : Option (Int32) :=
  fX11_canBeLaid_43 (0 : Int32)
set_option maxHeartbeats 4000000 in
set_option maxRecDepth 20000 in
theorem wX11_canBeLaid_42 {X : ux_X} (C : ux_C X cX11_canBeLaid RX11 2 (some .boolean) 0 0 shC)   {N : ux_N} {L : ux_L} {o : Int32} (hq : ux_Qi X o N L) (h : fX11_canBeLaid_42  = some o) : ux_Wt X 2 42 [] [] N L := by
  refine wt_iconst 43 0 C dX11_canBeLaid_42 rfl (by decide) ?_
  exact wX11_canBeLaid_43 C hq h
def fX11_canBeLaid_63 (s0 : Int32) : Option (Int32) :=
  if ux_b s0 then (some s0) else none
set_option maxHeartbeats 4000000 in
set_option maxRecDepth 20000 in
theorem wX11_canBeLaid_63 {X : ux_X} (C : ux_C X cX11_canBeLaid RX11 2 (some .boolean) 0 0 shC) {s0 : Int32}  {N : ux_N} {L : ux_L} {o : Int32} (hq : ux_Qi X o N L) (h : fX11_canBeLaid_63 s0 = some o) : ux_Wt X 2 63 [] [.int s0] N L := by
  obtain ⟨hb1, h⟩ := ux_guard h
  cases h
  exact wt_zret C (ux_b_n hb1).1 hq dX11_canBeLaid_63
def fX11_canBeLaid_62  : Option (Int32) :=
  fX11_canBeLaid_63 (0 : Int32)
set_option maxHeartbeats 4000000 in
set_option maxRecDepth 20000 in
theorem wX11_canBeLaid_62 {X : ux_X} (C : ux_C X cX11_canBeLaid RX11 2 (some .boolean) 0 0 shC)   {N : ux_N} {L : ux_L} {o : Int32} (hq : ux_Qi X o N L) (h : fX11_canBeLaid_62  = some o) : ux_Wt X 2 62 [] [] N L := by
  refine wt_iconst 63 0 C dX11_canBeLaid_62 rfl (by decide) ?_
  exact wX11_canBeLaid_63 C hq h
def fX11_canBeLaid (v0 : Int32) (v1 : Int32) : Option (Int32) :=
  if v0 = (0 : Int32) then (if v1 < 0 then (fX11_canBeLaid_42) else (if (99 : Int32) < v1 then (fX11_canBeLaid_42) else (fX11_canBeLaid_43 (1 : Int32)))) else (if v0 = (1 : Int32) then (if v1 < (-9999 : Int32) then (fX11_canBeLaid_62) else (if (9999 : Int32) < v1 then (fX11_canBeLaid_62) else (fX11_canBeLaid_63 (1 : Int32)))) else (if v0 = (2 : Int32) then (some (1 : Int32)) else (some (0 : Int32))))
set_option maxHeartbeats 4000000 in
set_option maxRecDepth 20000 in
theorem wX11_canBeLaid {X : ux_X} (C : ux_C X cX11_canBeLaid RX11 2 (some .boolean) 0 0 shC) {v0 : Int32} {v1 : Int32}  {N : ux_N} {L : ux_L} {o : Int32} (hq : ux_Qi X o N L) (h : fX11_canBeLaid v0 v1 = some o) : ux_Wt X 2 0 [(0, .int v0), (1, .int v1)] [] N L := by
  refine wt_iload_n 1 0 C dX11_canBeLaid_0 rfl rfl ?_
  by_cases q1 : v0 = (0 : Int32)
  · have h := (if_pos q1).symm.trans h
    refine wt_tin 28 (0) C dX11_canBeLaid_1 q1 (by decide) (by decide) rfl (by decide) ?_
    refine wt_iload_n 29 1 C dX11_canBeLaid_28 rfl rfl ?_
    refine wt_if_lt 32 42 C dX11_canBeLaid_29 rfl (by decide) (fun q2 => ?_) (fun q2 => ?_)
    · have h := (if_pos q2).symm.trans h
      refine wt_sub [] rfl ?_
      exact wX11_canBeLaid_42 C hq h
    · have h := (if_neg q2).symm.trans h
      refine wt_iload_n 33 1 C dX11_canBeLaid_32 rfl rfl ?_
      refine wt_bipush 35 99 C dX11_canBeLaid_33 rfl (by decide) ?_
      refine wt_icmp_gt 38 42 C dX11_canBeLaid_35 rfl (by decide) (fun q3 => ?_) (fun q3 => ?_)
      · have h := (if_pos q3).symm.trans h
        refine wt_sub [] rfl ?_
        exact wX11_canBeLaid_42 C hq h
      · have h := (if_neg q3).symm.trans h
        refine wt_iconst 39 1 C dX11_canBeLaid_38 rfl (by decide) ?_
        refine wt_goto 43 C dX11_canBeLaid_39 (by decide) ?_
        refine wt_sub [] rfl ?_
        exact wX11_canBeLaid_43 C hq h
  have h := (if_neg q1).symm.trans h
  by_cases q4 : v0 = (1 : Int32)
  · have h := (if_pos q4).symm.trans h
    refine wt_tin 44 (1) C dX11_canBeLaid_1 q4 (by decide) (by decide) rfl (by decide) ?_
    refine wt_iload_n 45 1 C dX11_canBeLaid_44 rfl rfl ?_
    refine wt_sipush 48 (-9999) C dX11_canBeLaid_45 rfl (by decide) ?_
    refine wt_icmp_lt 51 62 C dX11_canBeLaid_48 rfl (by decide) (fun q5 => ?_) (fun q5 => ?_)
    · have h := (if_pos q5).symm.trans h
      refine wt_sub [] rfl ?_
      exact wX11_canBeLaid_62 C hq h
    · have h := (if_neg q5).symm.trans h
      refine wt_iload_n 52 1 C dX11_canBeLaid_51 rfl rfl ?_
      refine wt_sipush 55 9999 C dX11_canBeLaid_52 rfl (by decide) ?_
      refine wt_icmp_gt 58 62 C dX11_canBeLaid_55 rfl (by decide) (fun q6 => ?_) (fun q6 => ?_)
      · have h := (if_pos q6).symm.trans h
        refine wt_sub [] rfl ?_
        exact wX11_canBeLaid_62 C hq h
      · have h := (if_neg q6).symm.trans h
        refine wt_iconst 59 1 C dX11_canBeLaid_58 rfl (by decide) ?_
        refine wt_goto 63 C dX11_canBeLaid_59 (by decide) ?_
        refine wt_sub [] rfl ?_
        exact wX11_canBeLaid_63 C hq h
  have h := (if_neg q4).symm.trans h
  by_cases q7 : v0 = (2 : Int32)
  · have h := (if_pos q7).symm.trans h
    refine wt_tin 64 (2) C dX11_canBeLaid_1 q7 (by decide) (by decide) rfl (by decide) ?_
    refine wt_iconst 65 1 C dX11_canBeLaid_64 rfl (by decide) ?_
    cases h
    exact wt_zret C (ux_b_n (by decide)).1 hq dX11_canBeLaid_65
  have h := (if_neg q7).symm.trans h
  refine wt_tout 66 C dX11_canBeLaid_1 (by have z0 := lv_neT q1 (show (0 : Int32).toInt = 0 from by decide); have z1 := lv_neT q4 (show (1 : Int32).toInt = 1 from by decide); have z2 := lv_neT q7 (show (2 : Int32).toInt = 2 from by decide); omega) (by decide) ?_
  refine wt_iconst 67 0 C dX11_canBeLaid_66 rfl (by decide) ?_
  cases h
  exact wt_zret C (ux_b_n (by decide)).1 hq dX11_canBeLaid_67
theorem mX11_canBeLaid {l : Launch} {G : ux_G} (hok : ux_ok G shC) {v0 : Int32} {v1 : Int32}  {N : ux_N} {L : ux_L} {o : Int32} (h : fX11_canBeLaid v0 v1 = some o) : ux_Mi l G yX11_canBeLaid cX11_canBeLaid 2 (some .boolean) 0 0 [.int v0, .int v1] N L o N L :=
  ux_ofi shC hok (by decide +kernel) (Nat.le_of_ble_eq_true rfl) (fun X hG hl C hq => by subst hG; subst hl; exact wX11_canBeLaid C  hq h)
def fX11_lay_20 (N : ux_N) : Option (Int32 × ux_N) :=
  some ((-2 : Int32), N)
set_option maxHeartbeats 4000000 in
set_option maxRecDepth 20000 in
theorem wX11_lay_20 {X : ux_X} (C : ux_C X cX11_lay RX11 4 (some .int) 1 22 shC)   {N : ux_N} {L : ux_L} {o : Int32 × ux_N} (hq : ux_Qi X o.1 o.2 L) (h : fX11_lay_20 N = some o) : ux_Wt X 4 20 [] [] N L := by
  refine wt_bipush 22 (-2) C dX11_lay_20 rfl (by decide) ?_
  cases h
  exact wt_iret C hq dX11_lay_22
def fX11_lay_23 (v1 : Int32) (v2 : Int32) (v3 : Int32) (N : ux_N) : Option (Int32 × ux_N) :=
  (fX11_canBeLaid v2 v3).bind (fun o1 => if o1 = 0 then (some ((-3 : Int32), N)) else (if ux_in v1 3 then ((fX9_push (111 + 3 * v1.toNatClampNeg) v2 v3 N).bind (fun o5 => some (o5.1, o5.2))) else none))
set_option maxHeartbeats 4000000 in
set_option maxRecDepth 20000 in
theorem wX11_lay_23 {X : ux_X} (C : ux_C X cX11_lay RX11 4 (some .int) 1 22 shC) {v1 : Int32} {v2 : Int32} {v3 : Int32}  {N : ux_N} {L : ux_L} {o : Int32 × ux_N} (hq : ux_Qi X o.1 o.2 L) (h : fX11_lay_23 v1 v2 v3 N = some o) : ux_Wt X 4 23 [(0, .ref (ux_ad X 0)), (1, .int v1), (2, .int v2), (3, .int v3)] [] N L := by
  refine wt_iload_n 24 2 C dX11_lay_23 rfl rfl ?_
  refine wt_iload_n 25 3 C dX11_lay_24 rfl rfl ?_
  obtain ⟨o1, hc2, h⟩ := Option.bind_eq_some_iff.mp h
  refine wt_callSi 28 [] C ksX11_233 (mX11_canBeLaid (cx_ok C)  hc2) rfl rfl ⟨Nat.le_of_ble_eq_true rfl, Nat.le_of_ble_eq_true rfl⟩ (Nat.le_of_ble_eq_true rfl) dX11_lay_25 rfl ?_
  refine wt_if_ne 31 34 C dX11_lay_28 rfl (by decide) (fun q3 => ?_) (fun q3 => ?_)
  · have h := (if_neg q3).symm.trans h
    refine wt_aload_n 35 0 C dX11_lay_34 rfl rfl ?_
    refine wt_getR 38 C kfX11_63 sc_0 rfl dX11_lay_35 rfl ?_
    refine wt_iload_n 39 1 C dX11_lay_38 rfl rfl ?_
    obtain ⟨hi4, h⟩ := ux_guard h
    refine wt_aald 40 (v1.toNatClampNeg) 111 3 C sc_110 rfl (by decide) rfl hi4 dX11_lay_39 rfl ?_
    refine wt_iload_n 41 2 C dX11_lay_40 rfl rfl ?_
    refine wt_iload_n 42 3 C dX11_lay_41 rfl rfl ?_
    obtain ⟨o5, hc6, h⟩ := Option.bind_eq_some_iff.mp h
    refine wt_callVi 45 [] C kvX11_236 (is9_arr111 _ (ux_in_lt hi4)).1 (mX9_push (cx_ok C) (is9_arr111 _ (ux_in_lt hi4)) hc6) rfl rfl ⟨Nat.le_of_ble_eq_true rfl, Nat.le_of_ble_eq_true rfl⟩ (Nat.le_of_ble_eq_true rfl) dX11_lay_42 rfl ?_
    cases h
    exact wt_iret C hq dX11_lay_45
  · have h := (if_pos q3).symm.trans h
    refine wt_bipush 33 (-3) C dX11_lay_31 rfl (by decide) ?_
    cases h
    exact wt_iret C hq dX11_lay_33
def fX11_lay (v1 : Int32) (v2 : Int32) (v3 : Int32) (N : ux_N) : Option (Int32 × ux_N) :=
  (fX11_isTray v1).bind (fun o1 => if o1 = 0 then (fX11_lay_20 N) else (if v2 = (2 : Int32) then ((fX11_isMeter v3 N).bind (fun o5 => if o5 = 0 then (fX11_lay_20 N) else (fX11_lay_23 v1 v2 v3 N))) else (fX11_lay_23 v1 v2 v3 N)))
set_option maxHeartbeats 4000000 in
set_option maxRecDepth 20000 in
theorem wX11_lay {X : ux_X} (C : ux_C X cX11_lay RX11 4 (some .int) 1 22 shC) {v1 : Int32} {v2 : Int32} {v3 : Int32}  {N : ux_N} {L : ux_L} {o : Int32 × ux_N} (hq : ux_Qi X o.1 o.2 L) (h : fX11_lay v1 v2 v3 N = some o) : ux_Wt X 4 0 [(0, .ref (ux_ad X 0)), (1, .int v1), (2, .int v2), (3, .int v3)] [] N L := by
  refine wt_iload_n 1 1 C dX11_lay_0 rfl rfl ?_
  obtain ⟨o1, hc2, h⟩ := Option.bind_eq_some_iff.mp h
  refine wt_callSi 4 [] C ksX11_227 (mX11_isTray (cx_ok C)  hc2) rfl rfl ⟨Nat.le_of_ble_eq_true rfl, Nat.le_of_ble_eq_true rfl⟩ (Nat.le_of_ble_eq_true rfl) dX11_lay_1 rfl ?_
  refine wt_if_eq 7 20 C dX11_lay_4 rfl (by decide) (fun q3 => ?_) (fun q3 => ?_)
  · have h := (if_pos q3).symm.trans h
    refine wt_sub [] rfl ?_
    exact wX11_lay_20 C hq h
  · have h := (if_neg q3).symm.trans h
    refine wt_iload_n 8 2 C dX11_lay_7 rfl rfl ?_
    refine wt_iconst 9 2 C dX11_lay_8 rfl (by decide) ?_
    refine wt_icmp_ne 12 23 C dX11_lay_9 rfl (by decide) (fun q4 => ?_) (fun q4 => ?_)
    · have h := (if_neg q4).symm.trans h
      exact wX11_lay_23 C hq h
    · have h := (if_pos q4).symm.trans h
      refine wt_aload_n 13 0 C dX11_lay_12 rfl rfl ?_
      refine wt_iload_n 14 3 C dX11_lay_13 rfl rfl ?_
      obtain ⟨o5, hc6, h⟩ := Option.bind_eq_some_iff.mp h
      refine wt_callVi 17 [] C kvX11_130 sc_0 (mX11_isMeter (cx_ok C)  hc6) rfl rfl ⟨Nat.le_of_ble_eq_true rfl, Nat.le_of_ble_eq_true rfl⟩ (Nat.le_of_ble_eq_true rfl) dX11_lay_14 rfl ?_
      refine wt_if_ne 20 23 C dX11_lay_17 rfl (by decide) (fun q7 => ?_) (fun q7 => ?_)
      · have h := (if_neg q7).symm.trans h
        exact wX11_lay_23 C hq h
      · have h := (if_pos q7).symm.trans h
        refine wt_sub [] rfl ?_
        exact wX11_lay_20 C hq h
theorem mX11_lay {l : Launch} {G : ux_G} (hok : ux_ok G shC) {v1 : Int32} {v2 : Int32} {v3 : Int32}  {N : ux_N} {L : ux_L} {o : Int32 × ux_N} (h : fX11_lay v1 v2 v3 N = some o) : ux_Mi l G yX11_lay cX11_lay 4 (some .int) 1 22 [.ref (gad G 0), .int v1, .int v2, .int v3] N L o.1 o.2 L :=
  ux_ofi shC hok (by decide +kernel) (Nat.le_of_ble_eq_true rfl) (fun X hG hl C hq => by subst hG; subst hl; exact wX11_lay C  hq h)
def fX11_isKind_19 (s0 : Int32) : Option (Int32) :=
  if ux_b s0 then (some s0) else none
set_option maxHeartbeats 4000000 in
set_option maxRecDepth 20000 in
theorem wX11_isKind_19 {X : ux_X} (C : ux_C X cX11_isKind RX11 1 (some .boolean) 0 0 shC) {s0 : Int32}  {N : ux_N} {L : ux_L} {o : Int32} (hq : ux_Qi X o N L) (h : fX11_isKind_19 s0 = some o) : ux_Wt X 1 19 [] [.int s0] N L := by
  obtain ⟨hb1, h⟩ := ux_guard h
  cases h
  exact wt_zret C (ux_b_n hb1).1 hq dX11_isKind_19
def fX11_isKind_14  : Option (Int32) :=
  fX11_isKind_19 (1 : Int32)
set_option maxHeartbeats 4000000 in
set_option maxRecDepth 20000 in
theorem wX11_isKind_14 {X : ux_X} (C : ux_C X cX11_isKind RX11 1 (some .boolean) 0 0 shC)   {N : ux_N} {L : ux_L} {o : Int32} (hq : ux_Qi X o N L) (h : fX11_isKind_14  = some o) : ux_Wt X 1 14 [] [] N L := by
  refine wt_iconst 15 1 C dX11_isKind_14 rfl (by decide) ?_
  refine wt_goto 19 C dX11_isKind_15 (by decide) ?_
  exact wX11_isKind_19 C hq h
def fX11_isKind (v0 : Int32) : Option (Int32) :=
  if v0 = 0 then (fX11_isKind_14) else (if v0 = (1 : Int32) then (fX11_isKind_14) else (if v0 = (2 : Int32) then (fX11_isKind_14) else (fX11_isKind_19 (0 : Int32))))
set_option maxHeartbeats 4000000 in
set_option maxRecDepth 20000 in
theorem wX11_isKind {X : ux_X} (C : ux_C X cX11_isKind RX11 1 (some .boolean) 0 0 shC) {v0 : Int32}  {N : ux_N} {L : ux_L} {o : Int32} (hq : ux_Qi X o N L) (h : fX11_isKind v0 = some o) : ux_Wt X 1 0 [(0, .int v0)] [] N L := by
  refine wt_iload_n 1 0 C dX11_isKind_0 rfl rfl ?_
  refine wt_if_eq 4 14 C dX11_isKind_1 rfl (by decide) (fun q1 => ?_) (fun q1 => ?_)
  · have h := (if_pos q1).symm.trans h
    refine wt_sub [] rfl ?_
    exact wX11_isKind_14 C hq h
  · have h := (if_neg q1).symm.trans h
    refine wt_iload_n 5 0 C dX11_isKind_4 rfl rfl ?_
    refine wt_iconst 6 1 C dX11_isKind_5 rfl (by decide) ?_
    refine wt_icmp_eq 9 14 C dX11_isKind_6 rfl (by decide) (fun q2 => ?_) (fun q2 => ?_)
    · have h := (if_pos q2).symm.trans h
      refine wt_sub [] rfl ?_
      exact wX11_isKind_14 C hq h
    · have h := (if_neg q2).symm.trans h
      refine wt_iload_n 10 0 C dX11_isKind_9 rfl rfl ?_
      refine wt_iconst 11 2 C dX11_isKind_10 rfl (by decide) ?_
      refine wt_icmp_ne 14 18 C dX11_isKind_11 rfl (by decide) (fun q3 => ?_) (fun q3 => ?_)
      · have h := (if_neg q3).symm.trans h
        refine wt_iconst 19 0 C dX11_isKind_18 rfl (by decide) ?_
        refine wt_sub [] rfl ?_
        exact wX11_isKind_19 C hq h
      · have h := (if_pos q3).symm.trans h
        refine wt_sub [] rfl ?_
        exact wX11_isKind_14 C hq h
theorem mX11_isKind {l : Launch} {G : ux_G} (hok : ux_ok G shC) {v0 : Int32}  {N : ux_N} {L : ux_L} {o : Int32} (h : fX11_isKind v0 = some o) : ux_Mi l G yX11_isKind cX11_isKind 1 (some .boolean) 0 0 [.int v0] N L o N L :=
  ux_ofi shC hok (by decide +kernel) (Nat.le_of_ble_eq_true rfl) (fun X hG hl C hq => by subst hG; subst hl; exact wX11_isKind C  hq h)
def fX11_take (v1 : Int32) (v2 : Int32) (N : ux_N) : Option (Int32 × ux_N) :=
  (fX11_isTray v1).bind (fun o1 => if o1 = 0 then (some ((-2 : Int32), N)) else ((fX11_isKind v2).bind (fun o4 => if o4 = 0 then (some ((-3 : Int32), N)) else (if ux_in v1 3 then ((fX9_pop (111 + 3 * v1.toNatClampNeg) v2 N).bind (fun o8 => some (o8.1, o8.2))) else none))))
set_option maxHeartbeats 4000000 in
set_option maxRecDepth 20000 in
theorem wX11_take {X : ux_X} (C : ux_C X cX11_take RX11 3 (some .int) 1 21 shC) {v1 : Int32} {v2 : Int32}  {N : ux_N} {L : ux_L} {o : Int32 × ux_N} (hq : ux_Qi X o.1 o.2 L) (h : fX11_take v1 v2 N = some o) : ux_Wt X 3 0 [(0, .ref (ux_ad X 0)), (1, .int v1), (2, .int v2)] [] N L := by
  refine wt_iload_n 1 1 C dX11_take_0 rfl rfl ?_
  obtain ⟨o1, hc2, h⟩ := Option.bind_eq_some_iff.mp h
  refine wt_callSi 4 [] C ksX11_227 (mX11_isTray (cx_ok C)  hc2) rfl rfl ⟨Nat.le_of_ble_eq_true rfl, Nat.le_of_ble_eq_true rfl⟩ (Nat.le_of_ble_eq_true rfl) dX11_take_1 rfl ?_
  refine wt_if_ne 7 10 C dX11_take_4 rfl (by decide) (fun q3 => ?_) (fun q3 => ?_)
  · have h := (if_neg q3).symm.trans h
    refine wt_iload_n 11 2 C dX11_take_10 rfl rfl ?_
    obtain ⟨o4, hc5, h⟩ := Option.bind_eq_some_iff.mp h
    refine wt_callSi 14 [] C ksX11_239 (mX11_isKind (cx_ok C)  hc5) rfl rfl ⟨Nat.le_of_ble_eq_true rfl, Nat.le_of_ble_eq_true rfl⟩ (Nat.le_of_ble_eq_true rfl) dX11_take_11 rfl ?_
    refine wt_if_ne 17 20 C dX11_take_14 rfl (by decide) (fun q6 => ?_) (fun q6 => ?_)
    · have h := (if_neg q6).symm.trans h
      refine wt_aload_n 21 0 C dX11_take_20 rfl rfl ?_
      refine wt_getR 24 C kfX11_63 sc_0 rfl dX11_take_21 rfl ?_
      refine wt_iload_n 25 1 C dX11_take_24 rfl rfl ?_
      obtain ⟨hi7, h⟩ := ux_guard h
      refine wt_aald 26 (v1.toNatClampNeg) 111 3 C sc_110 rfl (by decide) rfl hi7 dX11_take_25 rfl ?_
      refine wt_iload_n 27 2 C dX11_take_26 rfl rfl ?_
      obtain ⟨o8, hc9, h⟩ := Option.bind_eq_some_iff.mp h
      refine wt_callVi 30 [] C kvX11_242 (is9_arr111 _ (ux_in_lt hi7)).1 (mX9_pop (cx_ok C) (is9_arr111 _ (ux_in_lt hi7)) hc9) rfl rfl ⟨Nat.le_of_ble_eq_true rfl, Nat.le_of_ble_eq_true rfl⟩ (Nat.le_of_ble_eq_true rfl) dX11_take_27 rfl ?_
      cases h
      exact wt_iret C hq dX11_take_30
    · have h := (if_pos q6).symm.trans h
      refine wt_bipush 19 (-3) C dX11_take_17 rfl (by decide) ?_
      cases h
      exact wt_iret C hq dX11_take_19
  · have h := (if_pos q3).symm.trans h
    refine wt_bipush 9 (-2) C dX11_take_7 rfl (by decide) ?_
    cases h
    exact wt_iret C hq dX11_take_9
theorem mX11_take {l : Launch} {G : ux_G} (hok : ux_ok G shC) {v1 : Int32} {v2 : Int32}  {N : ux_N} {L : ux_L} {o : Int32 × ux_N} (h : fX11_take v1 v2 N = some o) : ux_Mi l G yX11_take cX11_take 3 (some .int) 1 21 [.ref (gad G 0), .int v1, .int v2] N L o.1 o.2 L :=
  ux_ofi shC hok (by decide +kernel) (Nat.le_of_ble_eq_true rfl) (fun X hG hl C hq => by subst hG; subst hl; exact wX11_take C  hq h)
def fX11_all (v1 : Int32) (v2 : Int32) (N : ux_N) : Option (Int32) :=
  (fX11_isTray v1).bind (fun o1 => if o1 = 0 then (some (-2 : Int32)) else ((fX11_isKind v2).bind (fun o4 => if o4 = 0 then (some (-3 : Int32)) else (if ux_in v1 3 then ((fX9_together (111 + 3 * v1.toNatClampNeg) v2 N).bind (fun o8 => some o8)) else none))))
set_option maxHeartbeats 4000000 in
set_option maxRecDepth 20000 in
theorem wX11_all {X : ux_X} (C : ux_C X cX11_all RX11 3 (some .int) 1 25 shC) {v1 : Int32} {v2 : Int32}  {N : ux_N} {L : ux_L} {o : Int32} (hq : ux_Qi X o N L) (h : fX11_all v1 v2 N = some o) : ux_Wt X 3 0 [(0, .ref (ux_ad X 0)), (1, .int v1), (2, .int v2)] [] N L := by
  refine wt_iload_n 1 1 C dX11_all_0 rfl rfl ?_
  obtain ⟨o1, hc2, h⟩ := Option.bind_eq_some_iff.mp h
  refine wt_callSi 4 [] C ksX11_227 (mX11_isTray (cx_ok C)  hc2) rfl rfl ⟨Nat.le_of_ble_eq_true rfl, Nat.le_of_ble_eq_true rfl⟩ (Nat.le_of_ble_eq_true rfl) dX11_all_1 rfl ?_
  refine wt_if_ne 7 10 C dX11_all_4 rfl (by decide) (fun q3 => ?_) (fun q3 => ?_)
  · have h := (if_neg q3).symm.trans h
    refine wt_iload_n 11 2 C dX11_all_10 rfl rfl ?_
    obtain ⟨o4, hc5, h⟩ := Option.bind_eq_some_iff.mp h
    refine wt_callSi 14 [] C ksX11_239 (mX11_isKind (cx_ok C)  hc5) rfl rfl ⟨Nat.le_of_ble_eq_true rfl, Nat.le_of_ble_eq_true rfl⟩ (Nat.le_of_ble_eq_true rfl) dX11_all_11 rfl ?_
    refine wt_if_ne 17 20 C dX11_all_14 rfl (by decide) (fun q6 => ?_) (fun q6 => ?_)
    · have h := (if_neg q6).symm.trans h
      refine wt_aload_n 21 0 C dX11_all_20 rfl rfl ?_
      refine wt_getR 24 C kfX11_63 sc_0 rfl dX11_all_21 rfl ?_
      refine wt_iload_n 25 1 C dX11_all_24 rfl rfl ?_
      obtain ⟨hi7, h⟩ := ux_guard h
      refine wt_aald 26 (v1.toNatClampNeg) 111 3 C sc_110 rfl (by decide) rfl hi7 dX11_all_25 rfl ?_
      refine wt_iload_n 27 2 C dX11_all_26 rfl rfl ?_
      obtain ⟨o8, hc9, h⟩ := Option.bind_eq_some_iff.mp h
      refine wt_callVi 30 [] C kvX11_245 (is9_arr111 _ (ux_in_lt hi7)).1 (mX9_together (cx_ok C) (is9_arr111 _ (ux_in_lt hi7)) hc9) rfl rfl ⟨Nat.le_of_ble_eq_true rfl, Nat.le_of_ble_eq_true rfl⟩ (Nat.le_of_ble_eq_true rfl) dX11_all_27 rfl ?_
      cases h
      exact wt_iret C hq dX11_all_30
    · have h := (if_pos q6).symm.trans h
      refine wt_bipush 19 (-3) C dX11_all_17 rfl (by decide) ?_
      cases h
      exact wt_iret C hq dX11_all_19
  · have h := (if_pos q3).symm.trans h
    refine wt_bipush 9 (-2) C dX11_all_7 rfl (by decide) ?_
    cases h
    exact wt_iret C hq dX11_all_9
theorem mX11_all {l : Launch} {G : ux_G} (hok : ux_ok G shC) {v1 : Int32} {v2 : Int32}  {N : ux_N} {L : ux_L} {o : Int32} (h : fX11_all v1 v2 N = some o) : ux_Mi l G yX11_all cX11_all 3 (some .int) 1 25 [.ref (gad G 0), .int v1, .int v2] N L o N L :=
  ux_ofi shC hok (by decide +kernel) (Nat.le_of_ble_eq_true rfl) (fun X hG hl C hq => by subst hG; subst hl; exact wX11_all C  hq h)
def fX11_drop (v1 : Int32) (N : ux_N) : Option (Int32 × ux_N) :=
  (fX11_isTray v1).bind (fun o1 => if o1 = 0 then (some ((-2 : Int32), N)) else (if ux_in v1 3 then ((fX9_isMissing (111 + 3 * v1.toNatClampNeg) N).bind (fun o5 => if o5 = 0 then (if ux_in v1 3 then ((fX9_things (111 + 3 * v1.toNatClampNeg) N).bind (fun o9 => if ux_in v1 3 then ((fX9_remove (111 + 3 * v1.toNatClampNeg) N).bind (fun o12 => some (o9, o12))) else none)) else none) else (some ((-11 : Int32), N)))) else none))
set_option maxHeartbeats 4000000 in
set_option maxRecDepth 20000 in
theorem wX11_drop {X : ux_X} (C : ux_C X cX11_drop RX11 3 (some .int) 1 20 shC) {v1 : Int32}  {N : ux_N} {L : ux_L} {o : Int32 × ux_N} (hq : ux_Qi X o.1 o.2 L) (h : fX11_drop v1 N = some o) : ux_Wt X 3 0 [(0, .ref (ux_ad X 0)), (1, .int v1)] [] N L := by
  refine wt_iload_n 1 1 C dX11_drop_0 rfl rfl ?_
  obtain ⟨o1, hc2, h⟩ := Option.bind_eq_some_iff.mp h
  refine wt_callSi 4 [] C ksX11_227 (mX11_isTray (cx_ok C)  hc2) rfl rfl ⟨Nat.le_of_ble_eq_true rfl, Nat.le_of_ble_eq_true rfl⟩ (Nat.le_of_ble_eq_true rfl) dX11_drop_1 rfl ?_
  refine wt_if_ne 7 10 C dX11_drop_4 rfl (by decide) (fun q3 => ?_) (fun q3 => ?_)
  · have h := (if_neg q3).symm.trans h
    refine wt_aload_n 11 0 C dX11_drop_10 rfl rfl ?_
    refine wt_getR 14 C kfX11_63 sc_0 rfl dX11_drop_11 rfl ?_
    refine wt_iload_n 15 1 C dX11_drop_14 rfl rfl ?_
    obtain ⟨hi4, h⟩ := ux_guard h
    refine wt_aald 16 (v1.toNatClampNeg) 111 3 C sc_110 rfl (by decide) rfl hi4 dX11_drop_15 rfl ?_
    obtain ⟨o5, hc6, h⟩ := Option.bind_eq_some_iff.mp h
    refine wt_callVi 19 [] C kvX11_248 (is9_arr111 _ (ux_in_lt hi4)).1 (mX9_isMissing (cx_ok C) (is9_arr111 _ (ux_in_lt hi4)) hc6) rfl rfl ⟨Nat.le_of_ble_eq_true rfl, Nat.le_of_ble_eq_true rfl⟩ (Nat.le_of_ble_eq_true rfl) dX11_drop_16 rfl ?_
    refine wt_if_eq 22 25 C dX11_drop_19 rfl (by decide) (fun q7 => ?_) (fun q7 => ?_)
    · have h := (if_pos q7).symm.trans h
      refine wt_aload_n 26 0 C dX11_drop_25 rfl rfl ?_
      refine wt_getR 29 C kfX11_63 sc_0 rfl dX11_drop_26 rfl ?_
      refine wt_iload_n 30 1 C dX11_drop_29 rfl rfl ?_
      obtain ⟨hi8, h⟩ := ux_guard h
      refine wt_aald 31 (v1.toNatClampNeg) 111 3 C sc_110 rfl (by decide) rfl hi8 dX11_drop_30 rfl ?_
      obtain ⟨o9, hc10, h⟩ := Option.bind_eq_some_iff.mp h
      refine wt_callVi 34 [] C kvX11_252 (is9_arr111 _ (ux_in_lt hi8)).1 (mX9_things (cx_ok C) (is9_arr111 _ (ux_in_lt hi8)) hc10) rfl rfl ⟨Nat.le_of_ble_eq_true rfl, Nat.le_of_ble_eq_true rfl⟩ (Nat.le_of_ble_eq_true rfl) dX11_drop_31 rfl ?_
      refine wt_istore_n 35 [(2, .int o9), (0, .ref (ux_ad X 0)), (1, .int v1)] C dX11_drop_34 rfl (by decide) rfl ?_
      refine wt_aload_n 36 1 C dX11_drop_35 rfl rfl ?_
      refine wt_getR 39 C kfX11_63 sc_0 rfl dX11_drop_36 rfl ?_
      refine wt_iload_n 40 2 C dX11_drop_39 rfl rfl ?_
      obtain ⟨hi11, h⟩ := ux_guard h
      refine wt_aald 41 (v1.toNatClampNeg) 111 3 C sc_110 rfl (by decide) rfl hi11 dX11_drop_40 rfl ?_
      obtain ⟨o12, hc13, h⟩ := Option.bind_eq_some_iff.mp h
      refine wt_callVv 44 [] C kvX11_103 (is9_arr111 _ (ux_in_lt hi11)).1 (mX9_remove (cx_ok C) (is9_arr111 _ (ux_in_lt hi11)) hc13) rfl rfl ⟨Nat.le_of_ble_eq_true rfl, Nat.le_of_ble_eq_true rfl⟩ (Nat.le_of_ble_eq_true rfl) dX11_drop_41 rfl ?_
      refine wt_iload_n 45 0 C dX11_drop_44 rfl rfl ?_
      cases h
      exact wt_iret C hq dX11_drop_45
    · have h := (if_neg q7).symm.trans h
      refine wt_bipush 24 (-11) C dX11_drop_22 rfl (by decide) ?_
      cases h
      exact wt_iret C hq dX11_drop_24
  · have h := (if_pos q3).symm.trans h
    refine wt_bipush 9 (-2) C dX11_drop_7 rfl (by decide) ?_
    cases h
    exact wt_iret C hq dX11_drop_9
theorem mX11_drop {l : Launch} {G : ux_G} (hok : ux_ok G shC) {v1 : Int32}  {N : ux_N} {L : ux_L} {o : Int32 × ux_N} (h : fX11_drop v1 N = some o) : ux_Mi l G yX11_drop cX11_drop 3 (some .int) 1 20 [.ref (gad G 0), .int v1] N L o.1 o.2 L :=
  ux_ofi shC hok (by decide +kernel) (Nat.le_of_ble_eq_true rfl) (fun X hG hl C hq => by subst hG; subst hl; exact wX11_drop C  hq h)
def fX11_thingsOfAllTrays_4b (v1 : Int32) (v2 : Int32) (N : ux_N) : Option ((Int32 × Int32) ⊕ (Int32)) :=
  if (3 : Int32) ≤ v2 then (some (.inr (v1))) else (if ux_in v2 3 then ((fX9_things (111 + 3 * v2.toNatClampNeg) N).bind (fun o3 => some (.inl ((v1 + o3), (v2 + 1))))) else none)
set_option maxHeartbeats 4000000 in
set_option maxRecDepth 20000 in
theorem wX11_thingsOfAllTrays_4b {X : ux_X} (C : ux_C X cX11_thingsOfAllTrays RX11 3 (some .int) 1 20 shC) {v1 : Int32} {v2 : Int32}  {N : ux_N} {L : ux_L} {o : (Int32 × Int32) ⊕ (Int32)} (hin : ∀ s : Int32 × Int32, o = .inl s → ux_Wt X 3 4 [(0, .ref (ux_ad X 0)), (1, .int s.1), (2, .int s.2)] [] N L) (hex0 : ∀ e : Int32, o = .inr (e) → ux_Wt X 3 27 [(1, .int e)] [] N L) (h : fX11_thingsOfAllTrays_4b v1 v2 N = some o) : ux_Wt X 3 4 [(0, .ref (ux_ad X 0)), (1, .int v1), (2, .int v2)] [] N L := by
  refine wt_iload_n 5 2 C dX11_thingsOfAllTrays_4 rfl rfl ?_
  refine wt_iconst 6 3 C dX11_thingsOfAllTrays_5 rfl (by decide) ?_
  refine wt_icmp_ge 9 27 C dX11_thingsOfAllTrays_6 rfl (by decide) (fun q1 => ?_) (fun q1 => ?_)
  · have h := (if_pos q1).symm.trans h
    refine wt_sub [1] rfl ?_
    exact hex0 _ (Option.some.inj h).symm
  · have h := (if_neg q1).symm.trans h
    refine wt_iload_n 10 1 C dX11_thingsOfAllTrays_9 rfl rfl ?_
    refine wt_aload_n 11 0 C dX11_thingsOfAllTrays_10 rfl rfl ?_
    refine wt_getR 14 C kfX11_63 sc_0 rfl dX11_thingsOfAllTrays_11 rfl ?_
    refine wt_iload_n 15 2 C dX11_thingsOfAllTrays_14 rfl rfl ?_
    obtain ⟨hi2, h⟩ := ux_guard h
    refine wt_aald 16 (v2.toNatClampNeg) 111 3 C sc_110 rfl (by decide) rfl hi2 dX11_thingsOfAllTrays_15 rfl ?_
    obtain ⟨o3, hc4, h⟩ := Option.bind_eq_some_iff.mp h
    refine wt_callVi 19 [.int v1] C kvX11_252 (is9_arr111 _ (ux_in_lt hi2)).1 (mX9_things (cx_ok C) (is9_arr111 _ (ux_in_lt hi2)) hc4) rfl rfl ⟨Nat.le_of_ble_eq_true rfl, Nat.le_of_ble_eq_true rfl⟩ (Nat.le_of_ble_eq_true rfl) dX11_thingsOfAllTrays_16 rfl ?_
    refine wt_iadd 20 C dX11_thingsOfAllTrays_19 rfl ?_
    refine wt_istore_n 21 [(1, .int (v1 + o3)), (0, .ref (ux_ad X 0)), (2, .int v2)] C dX11_thingsOfAllTrays_20 rfl (by decide) rfl ?_
    refine wt_iinc 24 2 [(2, .int (v2 + 1)), (1, .int (v1 + o3)), (0, .ref (ux_ad X 0))] (v2 + 1) C dX11_thingsOfAllTrays_21 rfl rfl (by rfl) (by decide) rfl ?_
    refine wt_goto 4 C dX11_thingsOfAllTrays_24 (by decide) ?_
    refine wt_sub [2, 1, 0] rfl ?_
    exact hin _ (Option.some.inj h).symm
def fX11_thingsOfAllTrays (N : ux_N) : Option (Int32) :=
  (ux_lp (fun s : Int32 × Int32 => fX11_thingsOfAllTrays_4b s.1 s.2 N) ux_fu ((0 : Int32), (0 : Int32))).bind (fun e8 => some e8)
set_option maxHeartbeats 4000000 in
set_option maxRecDepth 20000 in
theorem wX11_thingsOfAllTrays {X : ux_X} (C : ux_C X cX11_thingsOfAllTrays RX11 3 (some .int) 1 20 shC)   {N : ux_N} {L : ux_L} {o : Int32} (hq : ux_Qi X o N L) (h : fX11_thingsOfAllTrays N = some o) : ux_Wt X 3 0 [(0, .ref (ux_ad X 0))] [] N L := by
  refine wt_iconst 1 0 C dX11_thingsOfAllTrays_0 rfl (by decide) ?_
  refine wt_istore_n 2 [(1, .int (0 : Int32)), (0, .ref (ux_ad X 0))] C dX11_thingsOfAllTrays_1 rfl (by decide) rfl ?_
  refine wt_iconst 3 0 C dX11_thingsOfAllTrays_2 rfl (by decide) ?_
  refine wt_istore_n 4 [(2, .int (0 : Int32)), (1, .int (0 : Int32)), (0, .ref (ux_ad X 0))] C dX11_thingsOfAllTrays_3 rfl (by decide) rfl ?_
  obtain ⟨e1, hl2, h⟩ := Option.bind_eq_some_iff.mp h
  refine wt_sub [2, 1, 0] rfl ?_
  refine ux_loop (fun s : Int32 × Int32 => fX11_thingsOfAllTrays_4b s.1 s.2 N) (fun s : Int32 × Int32 => ux_Wt X 3 4 [(0, .ref (ux_ad X 0)), (1, .int s.1), (2, .int s.2)] [] N L) (e := e1) ?_ hl2
  intro s3 o4 hb5 hi6 hx7
  refine wX11_thingsOfAllTrays_4b C hi6 (fun x0 he => ?_) hb5
  · obtain ⟨e8, rfl⟩ : ∃ z, z = x0 := ⟨_, rfl⟩
    have h9 := hx7 _ he
    subst h9
    refine wt_iload_n 28 0 C dX11_thingsOfAllTrays_27 rfl rfl ?_
    cases h
    exact wt_iret C hq dX11_thingsOfAllTrays_28
theorem mX11_thingsOfAllTrays {l : Launch} {G : ux_G} (hok : ux_ok G shC)   {N : ux_N} {L : ux_L} {o : Int32} (h : fX11_thingsOfAllTrays N = some o) : ux_Mi l G yX11_thingsOfAllTrays cX11_thingsOfAllTrays 3 (some .int) 1 20 [.ref (gad G 0)] N L o N L :=
  ux_ofi shC hok (by decide +kernel) (Nat.le_of_ble_eq_true rfl) (fun X hG hl C hq => by subst hG; subst hl; exact wX11_thingsOfAllTrays C  hq h)
def fX11_count (v1 : Int32) (N : ux_N) : Option (Int32 × ux_N) :=
  if v1 = (0 : Int32) then (some ((N 1 0), N)) else (if v1 = (1 : Int32) then (some ((N 1 1), N)) else (if v1 = (2 : Int32) then (some ((N 19 0), N)) else (if v1 = (3 : Int32) then (some ((N 1 3), N)) else (if v1 = (4 : Int32) then (some ((N 33 0), N)) else (if v1 = (5 : Int32) then (some ((N 33 1), N)) else (if v1 = (6 : Int32) then (some ((N 33 2), N)) else (if v1 = (7 : Int32) then ((fX6_spares N).bind (fun o9 => some (o9.1, o9.2))) else (if v1 = (8 : Int32) then (some ((N 19 1), N)) else (if v1 = (9 : Int32) then (some ((N 107 0), N)) else (if v1 = (10 : Int32) then ((fX11_thingsOfAllTrays N).bind (fun o14 => some (o14, N))) else (if v1 = (11 : Int32) then (some ((N 30 0), N)) else (if v1 = (12 : Int32) then (some ((N 9 0), N)) else (if v1 = (13 : Int32) then (some (((N 1 0) - (N 33 0)), N)) else (some ((-3 : Int32), N)))))))))))))))
set_option maxHeartbeats 4000000 in
set_option maxRecDepth 20000 in
theorem wX11_count {X : ux_X} (C : ux_C X cX11_count RX11 2 (some .int) 6 132 shC) {v1 : Int32}  {N : ux_N} {L : ux_L} {o : Int32 × ux_N} (hq : ux_Qi X o.1 o.2 L) (h : fX11_count v1 N = some o) : ux_Wt X 2 0 [(0, .ref (ux_ad X 0)), (1, .int v1)] [] N L := by
  refine wt_iload_n 1 1 C dX11_count_0 rfl rfl ?_
  by_cases q1 : v1 = (0 : Int32)
  · have h := (if_pos q1).symm.trans h
    refine wt_tin 72 (0) C dX11_count_1 q1 (by decide) (by decide) rfl (by decide) ?_
    refine wt_aload_n 73 0 C dX11_count_72 rfl rfl ?_
    refine wt_getR 76 C kfX11_10 sc_0 rfl dX11_count_73 rfl ?_
    refine wt_getI 79 C kfX11_189 sc_1 rfl dX11_count_76 rfl ?_
    cases h
    exact wt_iret C hq dX11_count_79
  have h := (if_neg q1).symm.trans h
  by_cases q2 : v1 = (1 : Int32)
  · have h := (if_pos q2).symm.trans h
    refine wt_tin 80 (1) C dX11_count_1 q2 (by decide) (by decide) rfl (by decide) ?_
    refine wt_aload_n 81 0 C dX11_count_80 rfl rfl ?_
    refine wt_getR 84 C kfX11_10 sc_0 rfl dX11_count_81 rfl ?_
    refine wt_getI 87 C kfX11_255 sc_1 rfl dX11_count_84 rfl ?_
    cases h
    exact wt_iret C hq dX11_count_87
  have h := (if_neg q2).symm.trans h
  by_cases q3 : v1 = (2 : Int32)
  · have h := (if_pos q3).symm.trans h
    refine wt_tin 88 (2) C dX11_count_1 q3 (by decide) (by decide) rfl (by decide) ?_
    refine wt_aload_n 89 0 C dX11_count_88 rfl rfl ?_
    refine wt_getR 92 C kfX11_26 sc_0 rfl dX11_count_89 rfl ?_
    refine wt_getI 95 C kfX11_170 sc_19 rfl dX11_count_92 rfl ?_
    cases h
    exact wt_iret C hq dX11_count_95
  have h := (if_neg q3).symm.trans h
  by_cases q4 : v1 = (3 : Int32)
  · have h := (if_pos q4).symm.trans h
    refine wt_tin 96 (3) C dX11_count_1 q4 (by decide) (by decide) rfl (by decide) ?_
    refine wt_aload_n 97 0 C dX11_count_96 rfl rfl ?_
    refine wt_getR 100 C kfX11_10 sc_0 rfl dX11_count_97 rfl ?_
    refine wt_getI 103 C kfX11_151 sc_1 rfl dX11_count_100 rfl ?_
    cases h
    exact wt_iret C hq dX11_count_103
  have h := (if_neg q4).symm.trans h
  by_cases q5 : v1 = (4 : Int32)
  · have h := (if_pos q5).symm.trans h
    refine wt_tin 104 (4) C dX11_count_1 q5 (by decide) (by decide) rfl (by decide) ?_
    refine wt_aload_n 105 0 C dX11_count_104 rfl rfl ?_
    refine wt_getR 108 C kfX11_50 sc_0 rfl dX11_count_105 rfl ?_
    refine wt_getI 111 C kfX11_186 sc_33 rfl dX11_count_108 rfl ?_
    cases h
    exact wt_iret C hq dX11_count_111
  have h := (if_neg q5).symm.trans h
  by_cases q6 : v1 = (5 : Int32)
  · have h := (if_pos q6).symm.trans h
    refine wt_tin 112 (5) C dX11_count_1 q6 (by decide) (by decide) rfl (by decide) ?_
    refine wt_aload_n 113 0 C dX11_count_112 rfl rfl ?_
    refine wt_getR 116 C kfX11_50 sc_0 rfl dX11_count_113 rfl ?_
    refine wt_getI 119 C kfX11_258 sc_33 rfl dX11_count_116 rfl ?_
    cases h
    exact wt_iret C hq dX11_count_119
  have h := (if_neg q6).symm.trans h
  by_cases q7 : v1 = (6 : Int32)
  · have h := (if_pos q7).symm.trans h
    refine wt_tin 120 (6) C dX11_count_1 q7 (by decide) (by decide) rfl (by decide) ?_
    refine wt_aload_n 121 0 C dX11_count_120 rfl rfl ?_
    refine wt_getR 124 C kfX11_50 sc_0 rfl dX11_count_121 rfl ?_
    refine wt_getI 127 C kfX11_123 sc_33 rfl dX11_count_124 rfl ?_
    cases h
    exact wt_iret C hq dX11_count_127
  have h := (if_neg q7).symm.trans h
  by_cases q8 : v1 = (7 : Int32)
  · have h := (if_pos q8).symm.trans h
    refine wt_tin 128 (7) C dX11_count_1 q8 (by decide) (by decide) rfl (by decide) ?_
    refine wt_aload_n 129 0 C dX11_count_128 rfl rfl ?_
    refine wt_getR 132 C kfX11_50 sc_0 rfl dX11_count_129 rfl ?_
    obtain ⟨o9, hc10, h⟩ := Option.bind_eq_some_iff.mp h
    refine wt_callVi 135 [] C kvX11_261 sc_33 (mX6_spares (cx_ok C)  hc10) rfl rfl ⟨Nat.le_of_ble_eq_true rfl, Nat.le_of_ble_eq_true rfl⟩ (Nat.le_of_ble_eq_true rfl) dX11_count_132 rfl ?_
    cases h
    exact wt_iret C hq dX11_count_135
  have h := (if_neg q8).symm.trans h
  by_cases q11 : v1 = (8 : Int32)
  · have h := (if_pos q11).symm.trans h
    refine wt_tin 136 (8) C dX11_count_1 q11 (by decide) (by decide) rfl (by decide) ?_
    refine wt_aload_n 137 0 C dX11_count_136 rfl rfl ?_
    refine wt_getR 140 C kfX11_26 sc_0 rfl dX11_count_137 rfl ?_
    refine wt_getI 143 C kfX11_139 sc_19 rfl dX11_count_140 rfl ?_
    cases h
    exact wt_iret C hq dX11_count_143
  have h := (if_neg q11).symm.trans h
  by_cases q12 : v1 = (9 : Int32)
  · have h := (if_pos q12).symm.trans h
    refine wt_tin 144 (9) C dX11_count_1 q12 (by decide) (by decide) rfl (by decide) ?_
    refine wt_aload_n 145 0 C dX11_count_144 rfl rfl ?_
    refine wt_getR 148 C kfX11_57 sc_0 rfl dX11_count_145 rfl ?_
    refine wt_getI 151 C kfX11_216 sc_107 rfl dX11_count_148 rfl ?_
    cases h
    exact wt_iret C hq dX11_count_151
  have h := (if_neg q12).symm.trans h
  by_cases q13 : v1 = (10 : Int32)
  · have h := (if_pos q13).symm.trans h
    refine wt_tin 152 (10) C dX11_count_1 q13 (by decide) (by decide) rfl (by decide) ?_
    refine wt_aload_n 153 0 C dX11_count_152 rfl rfl ?_
    obtain ⟨o14, hc15, h⟩ := Option.bind_eq_some_iff.mp h
    refine wt_callVi 156 [] C kvX11_264 sc_0 (mX11_thingsOfAllTrays (cx_ok C)  hc15) rfl rfl ⟨Nat.le_of_ble_eq_true rfl, Nat.le_of_ble_eq_true rfl⟩ (Nat.le_of_ble_eq_true rfl) dX11_count_153 rfl ?_
    cases h
    exact wt_iret C hq dX11_count_156
  have h := (if_neg q13).symm.trans h
  by_cases q16 : v1 = (11 : Int32)
  · have h := (if_pos q16).symm.trans h
    refine wt_tin 157 (11) C dX11_count_1 q16 (by decide) (by decide) rfl (by decide) ?_
    refine wt_aload_n 158 0 C dX11_count_157 rfl rfl ?_
    refine wt_getR 161 C kfX11_41 sc_0 rfl dX11_count_158 rfl ?_
    refine wt_getI 164 C kfX11_100 sc_30 rfl dX11_count_161 rfl ?_
    cases h
    exact wt_iret C hq dX11_count_164
  have h := (if_neg q16).symm.trans h
  by_cases q17 : v1 = (12 : Int32)
  · have h := (if_pos q17).symm.trans h
    refine wt_tin 165 (12) C dX11_count_1 q17 (by decide) (by decide) rfl (by decide) ?_
    refine wt_aload_n 166 0 C dX11_count_165 rfl rfl ?_
    refine wt_getR 169 C kfX11_19 sc_0 rfl dX11_count_166 rfl ?_
    refine wt_getI 172 C kfX11_79 sc_9 rfl dX11_count_169 rfl ?_
    cases h
    exact wt_iret C hq dX11_count_172
  have h := (if_neg q17).symm.trans h
  by_cases q18 : v1 = (13 : Int32)
  · have h := (if_pos q18).symm.trans h
    refine wt_tin 173 (13) C dX11_count_1 q18 (by decide) (by decide) rfl (by decide) ?_
    refine wt_aload_n 174 0 C dX11_count_173 rfl rfl ?_
    refine wt_getR 177 C kfX11_10 sc_0 rfl dX11_count_174 rfl ?_
    refine wt_getI 180 C kfX11_189 sc_1 rfl dX11_count_177 rfl ?_
    refine wt_aload_n 181 0 C dX11_count_180 rfl rfl ?_
    refine wt_getR 184 C kfX11_50 sc_0 rfl dX11_count_181 rfl ?_
    refine wt_getI 187 C kfX11_186 sc_33 rfl dX11_count_184 rfl ?_
    refine wt_isub 188 C dX11_count_187 rfl ?_
    cases h
    exact wt_iret C hq dX11_count_188
  have h := (if_neg q18).symm.trans h
  refine wt_tout 189 C dX11_count_1 (by have z0 := lv_neT q1 (show (0 : Int32).toInt = 0 from by decide); have z1 := lv_neT q2 (show (1 : Int32).toInt = 1 from by decide); have z2 := lv_neT q3 (show (2 : Int32).toInt = 2 from by decide); have z3 := lv_neT q4 (show (3 : Int32).toInt = 3 from by decide); have z4 := lv_neT q5 (show (4 : Int32).toInt = 4 from by decide); have z5 := lv_neT q6 (show (5 : Int32).toInt = 5 from by decide); have z6 := lv_neT q7 (show (6 : Int32).toInt = 6 from by decide); have z7 := lv_neT q8 (show (7 : Int32).toInt = 7 from by decide); have z8 := lv_neT q11 (show (8 : Int32).toInt = 8 from by decide); have z9 := lv_neT q12 (show (9 : Int32).toInt = 9 from by decide); have z10 := lv_neT q13 (show (10 : Int32).toInt = 10 from by decide); have z11 := lv_neT q16 (show (11 : Int32).toInt = 11 from by decide); have z12 := lv_neT q17 (show (12 : Int32).toInt = 12 from by decide); have z13 := lv_neT q18 (show (13 : Int32).toInt = 13 from by decide); omega) (by decide) ?_
  refine wt_bipush 191 (-3) C dX11_count_189 rfl (by decide) ?_
  cases h
  exact wt_iret C hq dX11_count_191
theorem mX11_count {l : Launch} {G : ux_G} (hok : ux_ok G shC) {v1 : Int32}  {N : ux_N} {L : ux_L} {o : Int32 × ux_N} (h : fX11_count v1 N = some o) : ux_Mi l G yX11_count cX11_count 2 (some .int) 6 132 [.ref (gad G 0), .int v1] N L o.1 o.2 L :=
  ux_ofi shC hok (by decide +kernel) (Nat.le_of_ble_eq_true rfl) (fun X hG hl C hq => by subst hG; subst hl; exact wX11_count C  hq h)
