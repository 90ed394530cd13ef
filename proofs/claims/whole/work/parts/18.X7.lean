theorem dX7_add_0 : decode cX7_add 0 = .ok (.aload_n 0, 1) := by decide +kernel
theorem dX7_add_1 : decode cX7_add 1 = .ok (.getfield 18, 3) := by decide +kernel
theorem dX7_add_4 : decode cX7_add 4 = .ok (.bipush 6, 2) := by decide +kernel
theorem dX7_add_6 : decode cX7_add 6 = .ok (.if_icmp .lt 5, 3) := by decide +kernel
theorem dX7_add_9 : decode cX7_add 9 = .ok (.iconst 0, 1) := by decide +kernel
theorem dX7_add_10 : decode cX7_add 10 = .ok (.ireturn, 1) := by decide +kernel
theorem dX7_add_11 : decode cX7_add 11 = .ok (.aload_n 0, 1) := by decide +kernel
theorem dX7_add_12 : decode cX7_add 12 = .ok (.getfield 9, 3) := by decide +kernel
theorem dX7_add_15 : decode cX7_add 15 = .ok (.aload_n 0, 1) := by decide +kernel
theorem dX7_add_16 : decode cX7_add 16 = .ok (.getfield 18, 3) := by decide +kernel
theorem dX7_add_19 : decode cX7_add 19 = .ok (.iload_n 1, 1) := by decide +kernel
theorem dX7_add_20 : decode cX7_add 20 = .ok (.iastore, 1) := by decide +kernel
theorem dX7_add_21 : decode cX7_add 21 = .ok (.aload_n 0, 1) := by decide +kernel
theorem dX7_add_22 : decode cX7_add 22 = .ok (.getfield 15, 3) := by decide +kernel
theorem dX7_add_25 : decode cX7_add 25 = .ok (.aload_n 0, 1) := by decide +kernel
theorem dX7_add_26 : decode cX7_add 26 = .ok (.getfield 18, 3) := by decide +kernel
theorem dX7_add_29 : decode cX7_add 29 = .ok (.iload_n 2, 1) := by decide +kernel
theorem dX7_add_30 : decode cX7_add 30 = .ok (.iastore, 1) := by decide +kernel
theorem dX7_add_31 : decode cX7_add 31 = .ok (.aload_n 0, 1) := by decide +kernel
theorem dX7_add_32 : decode cX7_add 32 = .ok (.dup, 1) := by decide +kernel
theorem dX7_add_33 : decode cX7_add 33 = .ok (.getfield 18, 3) := by decide +kernel
theorem dX7_add_36 : decode cX7_add 36 = .ok (.iconst 1, 1) := by decide +kernel
theorem dX7_add_37 : decode cX7_add 37 = .ok (.iadd, 1) := by decide +kernel
theorem dX7_add_38 : decode cX7_add 38 = .ok (.putfield 18, 3) := by decide +kernel
theorem dX7_add_41 : decode cX7_add 41 = .ok (.iconst 1, 1) := by decide +kernel
theorem dX7_add_42 : decode cX7_add 42 = .ok (.ireturn, 1) := by decide +kernel
theorem dX7_fits_0 : decode cX7_fits 0 = .ok (.iconst 0, 1) := by decide +kernel
theorem dX7_fits_1 : decode cX7_fits 1 = .ok (.istore 4, 2) := by decide +kernel
theorem dX7_fits_3 : decode cX7_fits 3 = .ok (.iload 4, 2) := by decide +kernel
theorem dX7_fits_5 : decode cX7_fits 5 = .ok (.aload_n 0, 1) := by decide +kernel
theorem dX7_fits_6 : decode cX7_fits 6 = .ok (.getfield 18, 3) := by decide +kernel
theorem dX7_fits_9 : decode cX7_fits 9 = .ok (.if_icmp .ge 49, 3) := by decide +kernel
theorem dX7_fits_12 : decode cX7_fits 12 = .ok (.aload_n 2, 1) := by decide +kernel
theorem dX7_fits_13 : decode cX7_fits 13 = .ok (.iload_n 1, 1) := by decide +kernel
theorem dX7_fits_14 : decode cX7_fits 14 = .ok (.aload_n 0, 1) := by decide +kernel
theorem dX7_fits_15 : decode cX7_fits 15 = .ok (.getfield 9, 3) := by decide +kernel
theorem dX7_fits_18 : decode cX7_fits 18 = .ok (.iload 4, 2) := by decide +kernel
theorem dX7_fits_20 : decode cX7_fits 20 = .ok (.iaload, 1) := by decide +kernel
theorem dX7_fits_21 : decode cX7_fits 21 = .ok (.invokevirtual 26, 3) := by decide +kernel
theorem dX7_fits_24 : decode cX7_fits 24 = .ok (.ifCond .eq 26, 3) := by decide +kernel
theorem dX7_fits_27 : decode cX7_fits 27 = .ok (.aload_n 2, 1) := by decide +kernel
theorem dX7_fits_28 : decode cX7_fits 28 = .ok (.iload_n 1, 1) := by decide +kernel
theorem dX7_fits_29 : decode cX7_fits 29 = .ok (.aload_n 0, 1) := by decide +kernel
theorem dX7_fits_30 : decode cX7_fits 30 = .ok (.getfield 9, 3) := by decide +kernel
theorem dX7_fits_33 : decode cX7_fits 33 = .ok (.iload 4, 2) := by decide +kernel
theorem dX7_fits_35 : decode cX7_fits 35 = .ok (.iaload, 1) := by decide +kernel
theorem dX7_fits_36 : decode cX7_fits 36 = .ok (.iload_n 3, 1) := by decide +kernel
theorem dX7_fits_37 : decode cX7_fits 37 = .ok (.invokevirtual 32, 3) := by decide +kernel
theorem dX7_fits_40 : decode cX7_fits 40 = .ok (.aload_n 0, 1) := by decide +kernel
theorem dX7_fits_41 : decode cX7_fits 41 = .ok (.getfield 15, 3) := by decide +kernel
theorem dX7_fits_44 : decode cX7_fits 44 = .ok (.iload 4, 2) := by decide +kernel
theorem dX7_fits_46 : decode cX7_fits 46 = .ok (.iaload, 1) := by decide +kernel
theorem dX7_fits_47 : decode cX7_fits 47 = .ok (.if_icmp .eq 5, 3) := by decide +kernel
theorem dX7_fits_50 : decode cX7_fits 50 = .ok (.iconst 0, 1) := by decide +kernel
theorem dX7_fits_51 : decode cX7_fits 51 = .ok (.ireturn, 1) := by decide +kernel
theorem dX7_fits_52 : decode cX7_fits 52 = .ok (.iinc 4 1, 3) := by decide +kernel
theorem dX7_fits_55 : decode cX7_fits 55 = .ok (.goto (-52), 3) := by decide +kernel
theorem dX7_fits_58 : decode cX7_fits 58 = .ok (.iconst 1, 1) := by decide +kernel
theorem dX7_fits_59 : decode cX7_fits 59 = .ok (.ireturn, 1) := by decide +kernel
theorem dX7_fitting_0 : decode cX7_fitting 0 = .ok (.iconst 0, 1) := by decide +kernel
theorem dX7_fitting_1 : decode cX7_fitting 1 = .ok (.istore_n 3, 1) := by decide +kernel
theorem dX7_fitting_2 : decode cX7_fitting 2 = .ok (.iconst 0, 1) := by decide +kernel
theorem dX7_fitting_3 : decode cX7_fitting 3 = .ok (.istore 4, 2) := by decide +kernel
theorem dX7_fitting_5 : decode cX7_fitting 5 = .ok (.iload 4, 2) := by decide +kernel
theorem dX7_fitting_7 : decode cX7_fitting 7 = .ok (.iconst 5, 1) := by decide +kernel
theorem dX7_fitting_8 : decode cX7_fitting 8 = .ok (.if_icmp .ge 27, 3) := by decide +kernel
theorem dX7_fitting_11 : decode cX7_fitting 11 = .ok (.aload_n 0, 1) := by decide +kernel
theorem dX7_fitting_12 : decode cX7_fitting 12 = .ok (.iload 4, 2) := by decide +kernel
theorem dX7_fitting_14 : decode cX7_fitting 14 = .ok (.aload_n 1, 1) := by decide +kernel
theorem dX7_fitting_15 : decode cX7_fitting 15 = .ok (.iload_n 2, 1) := by decide +kernel
theorem dX7_fitting_16 : decode cX7_fitting 16 = .ok (.invokevirtual 22, 3) := by decide +kernel
theorem dX7_fitting_19 : decode cX7_fitting 19 = .ok (.ifCond .eq 10, 3) := by decide +kernel
theorem dX7_fitting_22 : decode cX7_fitting 22 = .ok (.iload_n 3, 1) := by decide +kernel
theorem dX7_fitting_23 : decode cX7_fitting 23 = .ok (.iconst 1, 1) := by decide +kernel
theorem dX7_fitting_24 : decode cX7_fitting 24 = .ok (.iload 4, 2) := by decide +kernel
theorem dX7_fitting_26 : decode cX7_fitting 26 = .ok (.ishl, 1) := by decide +kernel
theorem dX7_fitting_27 : decode cX7_fitting 27 = .ok (.ior, 1) := by decide +kernel
theorem dX7_fitting_28 : decode cX7_fitting 28 = .ok (.istore_n 3, 1) := by decide +kernel
theorem dX7_fitting_29 : decode cX7_fitting 29 = .ok (.iinc 4 1, 3) := by decide +kernel
theorem dX7_fitting_32 : decode cX7_fitting 32 = .ok (.goto (-27), 3) := by decide +kernel
theorem dX7_fitting_35 : decode cX7_fitting 35 = .ok (.iload_n 3, 1) := by decide +kernel
theorem dX7_fitting_36 : decode cX7_fitting 36 = .ok (.ireturn, 1) := by decide +kernel
theorem dX7_alike_0 : decode cX7_alike 0 = .ok (.iconst 0, 1) := by decide +kernel
theorem dX7_alike_1 : decode cX7_alike 1 = .ok (.istore 5, 2) := by decide +kernel
theorem dX7_alike_3 : decode cX7_alike 3 = .ok (.iconst 0, 1) := by decide +kernel
theorem dX7_alike_4 : decode cX7_alike 4 = .ok (.istore 6, 2) := by decide +kernel
theorem dX7_alike_6 : decode cX7_alike 6 = .ok (.iload 6, 2) := by decide +kernel
theorem dX7_alike_8 : decode cX7_alike 8 = .ok (.iconst 5, 1) := by decide +kernel
theorem dX7_alike_9 : decode cX7_alike 9 = .ok (.if_icmp .ge 42, 3) := by decide +kernel
theorem dX7_alike_12 : decode cX7_alike 12 = .ok (.iload_n 0, 1) := by decide +kernel
theorem dX7_alike_13 : decode cX7_alike 13 = .ok (.iload 6, 2) := by decide +kernel
theorem dX7_alike_15 : decode cX7_alike 15 = .ok (.ishr, 1) := by decide +kernel
theorem dX7_alike_16 : decode cX7_alike 16 = .ok (.iconst 1, 1) := by decide +kernel
theorem dX7_alike_17 : decode cX7_alike 17 = .ok (.iand, 1) := by decide +kernel
theorem dX7_alike_18 : decode cX7_alike 18 = .ok (.iconst 1, 1) := by decide +kernel
theorem dX7_alike_19 : decode cX7_alike 19 = .ok (.if_icmp .ne 26, 3) := by decide +kernel
theorem dX7_alike_22 : decode cX7_alike 22 = .ok (.aload_n 3, 1) := by decide +kernel
theorem dX7_alike_23 : decode cX7_alike 23 = .ok (.iload 6, 2) := by decide +kernel
theorem dX7_alike_25 : decode cX7_alike 25 = .ok (.iload_n 2, 1) := by decide +kernel
theorem dX7_alike_26 : decode cX7_alike 26 = .ok (.iload 4, 2) := by decide +kernel
theorem dX7_alike_28 : decode cX7_alike 28 = .ok (.invokevirtual 32, 3) := by decide +kernel
theorem dX7_alike_31 : decode cX7_alike 31 = .ok (.aload_n 3, 1) := by decide +kernel
theorem dX7_alike_32 : decode cX7_alike 32 = .ok (.iload_n 1, 1) := by decide +kernel
theorem dX7_alike_33 : decode cX7_alike 33 = .ok (.iload_n 2, 1) := by decide +kernel
theorem dX7_alike_34 : decode cX7_alike 34 = .ok (.iload 4, 2) := by decide +kernel
theorem dX7_alike_36 : decode cX7_alike 36 = .ok (.invokevirtual 32, 3) := by decide +kernel
theorem dX7_alike_39 : decode cX7_alike 39 = .ok (.if_icmp .ne 6, 3) := by decide +kernel
theorem dX7_alike_42 : decode cX7_alike 42 = .ok (.iinc 5 1, 3) := by decide +kernel
theorem dX7_alike_45 : decode cX7_alike 45 = .ok (.iinc 6 1, 3) := by decide +kernel
theorem dX7_alike_48 : decode cX7_alike 48 = .ok (.goto (-42), 3) := by decide +kernel
theorem dX7_alike_51 : decode cX7_alike 51 = .ok (.iload 5, 2) := by decide +kernel
theorem dX7_alike_53 : decode cX7_alike 53 = .ok (.ireturn, 1) := by decide +kernel
theorem dX7_greatestPart_0 : decode cX7_greatestPart 0 = .ok (.iconst 0, 1) := by decide +kernel
theorem dX7_greatestPart_1 : decode cX7_greatestPart 1 = .ok (.istore 4, 2) := by decide +kernel
theorem dX7_greatestPart_3 : decode cX7_greatestPart 3 = .ok (.iconst 0, 1) := by decide +kernel
theorem dX7_greatestPart_4 : decode cX7_greatestPart 4 = .ok (.istore 5, 2) := by decide +kernel
theorem dX7_greatestPart_6 : decode cX7_greatestPart 6 = .ok (.iload 5, 2) := by decide +kernel
theorem dX7_greatestPart_8 : decode cX7_greatestPart 8 = .ok (.iconst 5, 1) := by decide +kernel
theorem dX7_greatestPart_9 : decode cX7_greatestPart 9 = .ok (.if_icmp .ge 35, 3) := by decide +kernel
theorem dX7_greatestPart_12 : decode cX7_greatestPart 12 = .ok (.iload_n 0, 1) := by decide +kernel
theorem dX7_greatestPart_13 : decode cX7_greatestPart 13 = .ok (.iload 5, 2) := by decide +kernel
theorem dX7_greatestPart_15 : decode cX7_greatestPart 15 = .ok (.ishr, 1) := by decide +kernel
theorem dX7_greatestPart_16 : decode cX7_greatestPart 16 = .ok (.iconst 1, 1) := by decide +kernel
theorem dX7_greatestPart_17 : decode cX7_greatestPart 17 = .ok (.iand, 1) := by decide +kernel
theorem dX7_greatestPart_18 : decode cX7_greatestPart 18 = .ok (.iconst 1, 1) := by decide +kernel
theorem dX7_greatestPart_19 : decode cX7_greatestPart 19 = .ok (.if_icmp .ne 19, 3) := by decide +kernel
theorem dX7_greatestPart_22 : decode cX7_greatestPart 22 = .ok (.iload 4, 2) := by decide +kernel
theorem dX7_greatestPart_24 : decode cX7_greatestPart 24 = .ok (.iload_n 0, 1) := by decide +kernel
theorem dX7_greatestPart_25 : decode cX7_greatestPart 25 = .ok (.iload 5, 2) := by decide +kernel
theorem dX7_greatestPart_27 : decode cX7_greatestPart 27 = .ok (.iload_n 1, 1) := by decide +kernel
theorem dX7_greatestPart_28 : decode cX7_greatestPart 28 = .ok (.aload_n 2, 1) := by decide +kernel
theorem dX7_greatestPart_29 : decode cX7_greatestPart 29 = .ok (.iload_n 3, 1) := by decide +kernel
theorem dX7_greatestPart_30 : decode cX7_greatestPart 30 = .ok (.invokestatic 50, 3) := by decide +kernel
theorem dX7_greatestPart_33 : decode cX7_greatestPart 33 = .ok (.invokestatic 54, 3) := by decide +kernel
theorem dX7_greatestPart_36 : decode cX7_greatestPart 36 = .ok (.istore 4, 2) := by decide +kernel
theorem dX7_greatestPart_38 : decode cX7_greatestPart 38 = .ok (.iinc 5 1, 3) := by decide +kernel
theorem dX7_greatestPart_41 : decode cX7_greatestPart 41 = .ok (.goto (-35), 3) := by decide +kernel
theorem dX7_greatestPart_44 : decode cX7_greatestPart 44 = .ok (.iload 4, 2) := by decide +kernel
theorem dX7_greatestPart_46 : decode cX7_greatestPart 46 = .ok (.ireturn, 1) := by decide +kernel
theorem dX7_bestPlace_0 : decode cX7_bestPlace 0 = .ok (.aload_n 0, 1) := by decide +kernel
theorem dX7_bestPlace_1 : decode cX7_bestPlace 1 = .ok (.aload_n 1, 1) := by decide +kernel
theorem dX7_bestPlace_2 : decode cX7_bestPlace 2 = .ok (.iload_n 2, 1) := by decide +kernel
theorem dX7_bestPlace_3 : decode cX7_bestPlace 3 = .ok (.invokevirtual 36, 3) := by decide +kernel
theorem dX7_bestPlace_6 : decode cX7_bestPlace 6 = .ok (.istore_n 3, 1) := by decide +kernel
theorem dX7_bestPlace_7 : decode cX7_bestPlace 7 = .ok (.iload_n 3, 1) := by decide +kernel
theorem dX7_bestPlace_8 : decode cX7_bestPlace 8 = .ok (.invokestatic 40, 3) := by decide +kernel
theorem dX7_bestPlace_11 : decode cX7_bestPlace 11 = .ok (.istore 4, 2) := by decide +kernel
theorem dX7_bestPlace_13 : decode cX7_bestPlace 13 = .ok (.iconst (-1), 1) := by decide +kernel
theorem dX7_bestPlace_14 : decode cX7_bestPlace 14 = .ok (.istore 5, 2) := by decide +kernel
theorem dX7_bestPlace_16 : decode cX7_bestPlace 16 = .ok (.iconst 0, 1) := by decide +kernel
theorem dX7_bestPlace_17 : decode cX7_bestPlace 17 = .ok (.istore 6, 2) := by decide +kernel
theorem dX7_bestPlace_19 : decode cX7_bestPlace 19 = .ok (.iload 6, 2) := by decide +kernel
theorem dX7_bestPlace_21 : decode cX7_bestPlace 21 = .ok (.bipush 9, 2) := by decide +kernel
theorem dX7_bestPlace_23 : decode cX7_bestPlace 23 = .ok (.if_icmp .gt 34, 3) := by decide +kernel
theorem dX7_bestPlace_26 : decode cX7_bestPlace 26 = .ok (.iload_n 3, 1) := by decide +kernel
theorem dX7_bestPlace_27 : decode cX7_bestPlace 27 = .ok (.iload 6, 2) := by decide +kernel
theorem dX7_bestPlace_29 : decode cX7_bestPlace 29 = .ok (.aload_n 1, 1) := by decide +kernel
theorem dX7_bestPlace_30 : decode cX7_bestPlace 30 = .ok (.iload_n 2, 1) := by decide +kernel
theorem dX7_bestPlace_31 : decode cX7_bestPlace 31 = .ok (.invokestatic 46, 3) := by decide +kernel
theorem dX7_bestPlace_34 : decode cX7_bestPlace 34 = .ok (.istore 7, 2) := by decide +kernel
theorem dX7_bestPlace_36 : decode cX7_bestPlace 36 = .ok (.iload 7, 2) := by decide +kernel
theorem dX7_bestPlace_38 : decode cX7_bestPlace 38 = .ok (.iload 4, 2) := by decide +kernel
theorem dX7_bestPlace_40 : decode cX7_bestPlace 40 = .ok (.if_icmp .ge 11, 3) := by decide +kernel
theorem dX7_bestPlace_43 : decode cX7_bestPlace 43 = .ok (.iload 7, 2) := by decide +kernel
theorem dX7_bestPlace_45 : decode cX7_bestPlace 45 = .ok (.istore 4, 2) := by decide +kernel
theorem dX7_bestPlace_47 : decode cX7_bestPlace 47 = .ok (.iload 6, 2) := by decide +kernel
theorem dX7_bestPlace_49 : decode cX7_bestPlace 49 = .ok (.istore 5, 2) := by decide +kernel
theorem dX7_bestPlace_51 : decode cX7_bestPlace 51 = .ok (.iinc 6 1, 3) := by decide +kernel
theorem dX7_bestPlace_54 : decode cX7_bestPlace 54 = .ok (.goto (-35), 3) := by decide +kernel
theorem dX7_bestPlace_57 : decode cX7_bestPlace 57 = .ok (.iload 5, 2) := by decide +kernel
theorem dX7_bestPlace_59 : decode cX7_bestPlace 59 = .ok (.ireturn, 1) := by decide +kernel
theorem kfX7_18 : ux_FL RX7 18 7 0 := ⟨RX7, TX7, 3, rfl, lay_X7, by decide, tw_390⟩
theorem kfX7_9 : ux_FL RX7 9 7 1 := ⟨RX7, TX7, 3, rfl, lay_X7, by decide, tw_392⟩
theorem kfX7_15 : ux_FL RX7 15 7 2 := ⟨RX7, TX7, 3, rfl, lay_X7, by decide, tw_393⟩
theorem kpX7_18 : ux_FP RX7 18 7 0 .int := ⟨RX7, TX7, 3, rfl, lay_X7, by decide, tw_390, tyX7, tyX7_ok, nmX7, rfl, by decide +kernel⟩
theorem kvX7_26 : ux_LV RX7 26 3 yX3_hasPlace cX3_hasPlace 3 (some .boolean) 2 := ⟨⟨TX3, 11, rfl⟩, tw_940, tw_486, tw_487, tw_73, tw_488, ⟨by decide, by decide, by decide +kernel⟩⟩
theorem kvX7_32 : ux_LV RX7 32 3 yX3_linesFor cX3_linesFor 4 (some .int) 3 := ⟨⟨TX3, 11, rfl⟩, tw_941, tw_482, tw_483, tw_73, tw_484, ⟨by decide, by decide, by decide +kernel⟩⟩
theorem kvX7_22 : ux_LV RX7 22 7 yX7_fits cX7_fits 5 (some .boolean) 3 := ⟨⟨TX7, 3, rfl⟩, tw_936, tw_938, tw_27, tw_82, tw_939, ⟨by decide, by decide, by decide +kernel⟩⟩
theorem ksX7_50 : ux_LS RX7 50 yX7_alike cX7_alike 7 (some .int) 5 := ⟨tw_955, tw_956, tw_82, tw_957, ⟨by decide, by decide, by decide +kernel⟩⟩
theorem kmX7_54 : ux_LM RX7 54 Lib.Math.max.name Lib.Math.max.code := ⟨tw_958, tw_686, tw_92, tw_687⟩
theorem kvX7_36 : ux_LV RX7 36 7 yX7_fitting cX7_fitting 5 (some .int) 2 := ⟨⟨TX7, 3, rfl⟩, tw_950, tw_933, tw_934, tw_82, tw_935, ⟨by decide, by decide, by decide +kernel⟩⟩
theorem ksX7_40 : ux_LS RX7 40 yJ6_bitCount_0f7a4 cJ6_bitCount_0f7a4 1 (some .int) 1 := ⟨tw_951, tw_441, tw_84, tw_442, ⟨by decide, by decide, by decide +kernel⟩⟩
theorem ksX7_46 : ux_LS RX7 46 yX7_greatestPart cX7_greatestPart 6 (some .int) 4 := ⟨tw_952, tw_953, tw_82, tw_954, ⟨by decide, by decide, by decide +kernel⟩⟩
def fX7_add_41 (N : ux_N) : Option (Int32 × ux_N) :=
  some ((1 : Int32), N)
set_option maxHeartbeats 4000000 in
set_option maxRecDepth 20000 in
theorem wX7_add_41 {X : ux_X} (C : ux_C X cX7_add RX7 3 (some .boolean) 0 0 shC)   {N : ux_N} {L : ux_L} {o : Int32 × ux_N} (hq : ux_Qi X o.1 o.2 L) (h : fX7_add_41 N = some o) : ux_Wt X 3 41 [] [] N L := by
  refine wt_iconst 42 1 C dX7_add_41 rfl (by decide) ?_
  cases h
  exact wt_zret C (ux_b_n (by decide)).1 hq dX7_add_42
def fX7_add (v1 : Int32) (v2 : Int32) (N : ux_N) : Option (Int32 × ux_N) :=
  if (N 107 0) < (6 : Int32) then (if ux_in (N 107 0) 6 then (if ux_in ((ux_u N 108 ((N 107 0).toNatClampNeg) v1) 107 0) 6 then (fX7_add_41 (ux_u (ux_u (ux_u N 108 ((N 107 0).toNatClampNeg) v1) 109 (((ux_u N 108 ((N 107 0).toNatClampNeg) v1) 107 0).toNatClampNeg) v2) 107 0 (((ux_u (ux_u N 108 ((N 107 0).toNatClampNeg) v1) 109 (((ux_u N 108 ((N 107 0).toNatClampNeg) v1) 107 0).toNatClampNeg) v2) 107 0) + (1 : Int32)))) else none) else none) else (some ((0 : Int32), N))
set_option maxHeartbeats 4000000 in
set_option maxRecDepth 20000 in
theorem wX7_add {X : ux_X} (C : ux_C X cX7_add RX7 3 (some .boolean) 0 0 shC) {v1 : Int32} {v2 : Int32}  {N : ux_N} {L : ux_L} {o : Int32 × ux_N} (hq : ux_Qi X o.1 o.2 L) (h : fX7_add v1 v2 N = some o) : ux_Wt X 3 0 [(0, .ref (ux_ad X 107)), (1, .int v1), (2, .int v2)] [] N L := by
  refine wt_aload_n 1 0 C dX7_add_0 rfl rfl ?_
  refine wt_getI 4 C kfX7_18 sc_107 rfl dX7_add_1 rfl ?_
  refine wt_bipush 6 6 C dX7_add_4 rfl (by decide) ?_
  refine wt_icmp_lt 9 11 C dX7_add_6 rfl (by decide) (fun q1 => ?_) (fun q1 => ?_)
  · have h := (if_pos q1).symm.trans h
    refine wt_aload_n 12 0 C dX7_add_11 rfl rfl ?_
    refine wt_getR 15 C kfX7_9 sc_107 rfl dX7_add_12 rfl ?_
    refine wt_aload_n 16 0 C dX7_add_15 rfl rfl ?_
    refine wt_getI 19 C kfX7_18 sc_107 rfl dX7_add_16 rfl ?_
    refine wt_iload_n 20 1 C dX7_add_19 rfl rfl ?_
    obtain ⟨hi2, h⟩ := ux_guard h
    refine wt_iast 21 ((N 107 0).toNatClampNeg) C sc_108 rfl hi2 dX7_add_20 rfl ?_
    refine wt_aload_n 22 0 C dX7_add_21 rfl rfl ?_
    refine wt_getR 25 C kfX7_15 sc_107 rfl dX7_add_22 rfl ?_
    refine wt_aload_n 26 0 C dX7_add_25 rfl rfl ?_
    refine wt_getI 29 C kfX7_18 sc_107 rfl dX7_add_26 rfl ?_
    refine wt_iload_n 30 2 C dX7_add_29 rfl rfl ?_
    obtain ⟨hi3, h⟩ := ux_guard h
    refine wt_iast 31 (((ux_u N 108 ((N 107 0).toNatClampNeg) v1) 107 0).toNatClampNeg) C sc_109 rfl hi3 dX7_add_30 rfl ?_
    refine wt_aload_n 32 0 C dX7_add_31 rfl rfl ?_
    refine wt_dup 33 C dX7_add_32 rfl rfl ?_
    refine wt_getI 36 C kfX7_18 sc_107 rfl dX7_add_33 rfl ?_
    refine wt_iconst 37 1 C dX7_add_36 rfl (by decide) ?_
    refine wt_iadd 38 C dX7_add_37 rfl ?_
    refine wt_putI 41 C kpX7_18 sc_107 rfl rfl rfl dX7_add_38 rfl ?_
    refine wt_sub [] rfl ?_
    exact wX7_add_41 C hq h
  · have h := (if_neg q1).symm.trans h
    refine wt_iconst 10 0 C dX7_add_9 rfl (by decide) ?_
    cases h
    exact wt_zret C (ux_b_n (by decide)).1 hq dX7_add_10
theorem mX7_add {l : Launch} {G : ux_G} (hok : ux_ok G shC) {v1 : Int32} {v2 : Int32}  {N : ux_N} {L : ux_L} {o : Int32 × ux_N} (h : fX7_add v1 v2 N = some o) : ux_Mi l G yX7_add cX7_add 3 (some .boolean) 0 0 [.ref (gad G 107), .int v1, .int v2] N L o.1 o.2 L :=
  ux_ofi shC hok (by decide +kernel) (Nat.le_of_ble_eq_true rfl) (fun X hG hl C hq => by subst hG; subst hl; exact wX7_add C  hq h)
def fX7_fits_3b (c2 : Nat) (v1 : Int32) (v3 : Int32) (v4 : Int32) (N : ux_N) : Option ((Int32) ⊕ ((Unit) ⊕ (Unit))) :=
  if (N 107 0) ≤ v4 then (some (.inr (.inr ()))) else (if ux_in v4 6 then ((fX3_hasPlace c2 v1 (N 108 (v4.toNatClampNeg)) N).bind (fun o3 => if o3 = 0 then (some (.inr (.inl ()))) else (if ux_in v4 6 then ((fX3_linesFor c2 v1 (N 108 (v4.toNatClampNeg)) v3 N).bind (fun o7 => if ux_in v4 6 then (if o7 = (N 109 (v4.toNatClampNeg)) then (some (.inl (v4 + 1))) else (some (.inr (.inl ())))) else none)) else none))) else none)
set_option maxHeartbeats 4000000 in
set_option maxRecDepth 20000 in
theorem wX7_fits_3b {X : ux_X} (C : ux_C X cX7_fits RX7 5 (some .boolean) 3 72 shC) {c2 : Nat} {v1 : Int32} {v3 : Int32} {v4 : Int32} (p2 : is_X3 c2) {N : ux_N} {L : ux_L} {o : (Int32) ⊕ ((Unit) ⊕ (Unit))} (hin : ∀ s : Int32, o = .inl s → ux_Wt X 5 3 [(0, .ref (ux_ad X 107)), (1, .int v1), (2, .ref (ux_ad X c2)), (3, .int v3), (4, .int s)] [] N L) (hex0 : ∀ e : Unit, o = .inr (.inl e) → ux_Wt X 5 50 [] [] N L) (hex1 : ∀ e : Unit, o = .inr (.inr e) → ux_Wt X 5 58 [] [] N L) (h : fX7_fits_3b c2 v1 v3 v4 N = some o) : ux_Wt X 5 3 [(0, .ref (ux_ad X 107)), (1, .int v1), (2, .ref (ux_ad X c2)), (3, .int v3), (4, .int v4)] [] N L := by
  refine wt_iload 5 4 C dX7_fits_3 rfl rfl ?_
  refine wt_aload_n 6 0 C dX7_fits_5 rfl rfl ?_
  refine wt_getI 9 C kfX7_18 sc_107 rfl dX7_fits_6 rfl ?_
  refine wt_icmp_ge 12 58 C dX7_fits_9 rfl (by decide) (fun q1 => ?_) (fun q1 => ?_)
  · have h := (if_pos q1).symm.trans h
    refine wt_sub [] rfl ?_
    exact hex1 _ (Option.some.inj h).symm
  · have h := (if_neg q1).symm.trans h
    refine wt_aload_n 13 2 C dX7_fits_12 rfl rfl ?_
    refine wt_iload_n 14 1 C dX7_fits_13 rfl rfl ?_
    refine wt_aload_n 15 0 C dX7_fits_14 rfl rfl ?_
    refine wt_getR 18 C kfX7_9 sc_107 rfl dX7_fits_15 rfl ?_
    refine wt_iload 20 4 C dX7_fits_18 rfl rfl ?_
    obtain ⟨hi2, h⟩ := ux_guard h
    refine wt_iald 21 (v4.toNatClampNeg) C sc_108 rfl hi2 dX7_fits_20 rfl ?_
    obtain ⟨o3, hc4, h⟩ := Option.bind_eq_some_iff.mp h
    refine wt_callVi 24 [] C kvX7_26 (p2).1 (mX3_hasPlace (cx_ok C) (p2) hc4) rfl rfl ⟨Nat.le_of_ble_eq_true rfl, Nat.le_of_ble_eq_true rfl⟩ (Nat.le_of_ble_eq_true rfl) dX7_fits_21 rfl ?_
    refine wt_if_eq 27 50 C dX7_fits_24 rfl (by decide) (fun q5 => ?_) (fun q5 => ?_)
    · have h := (if_pos q5).symm.trans h
      refine wt_sub [] rfl ?_
      exact hex0 _ (Option.some.inj h).symm
    · have h := (if_neg q5).symm.trans h
      refine wt_aload_n 28 2 C dX7_fits_27 rfl rfl ?_
      refine wt_iload_n 29 1 C dX7_fits_28 rfl rfl ?_
      refine wt_aload_n 30 0 C dX7_fits_29 rfl rfl ?_
      refine wt_getR 33 C kfX7_9 sc_107 rfl dX7_fits_30 rfl ?_
      refine wt_iload 35 4 C dX7_fits_33 rfl rfl ?_
      obtain ⟨hi6, h⟩ := ux_guard h
      refine wt_iald 36 (v4.toNatClampNeg) C sc_108 rfl hi6 dX7_fits_35 rfl ?_
      refine wt_iload_n 37 3 C dX7_fits_36 rfl rfl ?_
      obtain ⟨o7, hc8, h⟩ := Option.bind_eq_some_iff.mp h
      refine wt_callVi 40 [] C kvX7_32 (p2).1 (mX3_linesFor (cx_ok C) (p2) hc8) rfl rfl ⟨Nat.le_of_ble_eq_true rfl, Nat.le_of_ble_eq_true rfl⟩ (Nat.le_of_ble_eq_true rfl) dX7_fits_37 rfl ?_
      refine wt_aload_n 41 0 C dX7_fits_40 rfl rfl ?_
      refine wt_getR 44 C kfX7_15 sc_107 rfl dX7_fits_41 rfl ?_
      refine wt_iload 46 4 C dX7_fits_44 rfl rfl ?_
      obtain ⟨hi9, h⟩ := ux_guard h
      refine wt_iald 47 (v4.toNatClampNeg) C sc_109 rfl hi9 dX7_fits_46 rfl ?_
      refine wt_icmp_eq 50 52 C dX7_fits_47 rfl (by decide) (fun q10 => ?_) (fun q10 => ?_)
      · have h := (if_pos q10).symm.trans h
        refine wt_iinc 55 4 [(4, .int (v4 + 1)), (0, .ref (ux_ad X 107)), (1, .int v1), (2, .ref (ux_ad X c2)), (3, .int v3)] (v4 + 1) C dX7_fits_52 rfl rfl (by rfl) (by decide) rfl ?_
        refine wt_goto 3 C dX7_fits_55 (by decide) ?_
        refine wt_sub [1, 2, 3, 4, 0] rfl ?_
        exact hin _ (Option.some.inj h).symm
      · have h := (if_neg q10).symm.trans h
        refine wt_sub [] rfl ?_
        exact hex0 _ (Option.some.inj h).symm
def fX7_fits_50 (c2 : Nat) (N : ux_N) : Option (Int32) :=
  some (0 : Int32)
set_option maxHeartbeats 4000000 in
set_option maxRecDepth 20000 in
theorem wX7_fits_50 {X : ux_X} (C : ux_C X cX7_fits RX7 5 (some .boolean) 3 72 shC) {c2 : Nat} (p2 : is_X3 c2) {N : ux_N} {L : ux_L} {o : Int32} (hq : ux_Qi X o N L) (h : fX7_fits_50 c2 N = some o) : ux_Wt X 5 50 [] [] N L := by
  refine wt_iconst 51 0 C dX7_fits_50 rfl (by decide) ?_
  cases h
  exact wt_zret C (ux_b_n (by decide)).1 hq dX7_fits_51
def fX7_fits (c2 : Nat) (v1 : Int32) (v3 : Int32) (N : ux_N) : Option (Int32) :=
  (ux_lp (fun s : Int32 => fX7_fits_3b c2 v1 v3 s N) ux_fu (0 : Int32)).bind (Sum.elim (fun e8 => fX7_fits_50 c2 N) (fun e9 => some (1 : Int32)))
set_option maxHeartbeats 4000000 in
set_option maxRecDepth 20000 in
theorem wX7_fits {X : ux_X} (C : ux_C X cX7_fits RX7 5 (some .boolean) 3 72 shC) {c2 : Nat} {v1 : Int32} {v3 : Int32} (p2 : is_X3 c2) {N : ux_N} {L : ux_L} {o : Int32} (hq : ux_Qi X o N L) (h : fX7_fits c2 v1 v3 N = some o) : ux_Wt X 5 0 [(0, .ref (ux_ad X 107)), (1, .int v1), (2, .ref (ux_ad X c2)), (3, .int v3)] [] N L := by
  refine wt_iconst 1 0 C dX7_fits_0 rfl (by decide) ?_
  refine wt_istore 3 [(4, .int (0 : Int32)), (0, .ref (ux_ad X 107)), (1, .int v1), (2, .ref (ux_ad X c2)), (3, .int v3)] C dX7_fits_1 rfl (by decide) rfl ?_
  obtain ⟨e1, hl2, h⟩ := Option.bind_eq_some_iff.mp h
  refine wt_sub [1, 2, 3, 4, 0] rfl ?_
  refine ux_loop (fun s : Int32 => fX7_fits_3b c2 v1 v3 s N) (fun s : Int32 => ux_Wt X 5 3 [(0, .ref (ux_ad X 107)), (1, .int v1), (2, .ref (ux_ad X c2)), (3, .int v3), (4, .int s)] [] N L) (e := e1) ?_ hl2
  intro s3 o4 hb5 hi6 hx7
  refine wX7_fits_3b C p2 hi6 (fun x0 he => ?_) (fun x1 he => ?_) hb5
  · obtain ⟨e8, rfl⟩ : ∃ z, z = x0 := ⟨_, rfl⟩
    have h9 := hx7 _ he
    subst h9
    exact wX7_fits_50 C p2 hq h
  · obtain ⟨e9, rfl⟩ : ∃ z, z = x1 := ⟨_, rfl⟩
    have h9 := hx7 _ he
    subst h9
    refine wt_iconst 59 1 C dX7_fits_58 rfl (by decide) ?_
    cases h
    exact wt_zret C (ux_b_n (by decide)).1 hq dX7_fits_59
theorem mX7_fits {l : Launch} {G : ux_G} (hok : ux_ok G shC) {v1 : Int32} {c2 : Nat} {v3 : Int32} (p2 : is_X3 c2) {N : ux_N} {L : ux_L} {o : Int32} (h : fX7_fits c2 v1 v3 N = some o) : ux_Mi l G yX7_fits cX7_fits 5 (some .boolean) 3 72 [.ref (gad G 107), .int v1, .ref (gad G c2), .int v3] N L o N L :=
  ux_ofi shC hok (by decide +kernel) (Nat.le_of_ble_eq_true rfl) (fun X hG hl C hq => by subst hG; subst hl; exact wX7_fits C p2 hq h)
def fX7_fitting_5b_29 (c1 : Nat) (v2 : Int32) (v3 : Int32) (v4 : Int32) (N : ux_N) : Option ((Int32 × Int32) ⊕ (Int32)) :=
  some (.inl (v3, (v4 + 1)))
set_option maxHeartbeats 4000000 in
set_option maxRecDepth 20000 in
theorem wX7_fitting_5b_29 {X : ux_X} (C : ux_C X cX7_fitting RX7 5 (some .int) 4 96 shC) {c1 : Nat} {v2 : Int32} {v3 : Int32} {v4 : Int32} (p1 : is_X3 c1) {N : ux_N} {L : ux_L} {o : (Int32 × Int32) ⊕ (Int32)} (hin : ∀ s : Int32 × Int32, o = .inl s → ux_Wt X 5 5 [(0, .ref (ux_ad X 107)), (1, .ref (ux_ad X c1)), (2, .int v2), (3, .int s.1), (4, .int s.2)] [] N L) (hex0 : ∀ e : Int32, o = .inr (e) → ux_Wt X 5 35 [(3, .int e)] [] N L) (h : fX7_fitting_5b_29 c1 v2 v3 v4 N = some o) : ux_Wt X 5 29 [(0, .ref (ux_ad X 107)), (1, .ref (ux_ad X c1)), (2, .int v2), (3, .int v3), (4, .int v4)] [] N L := by
  refine wt_iinc 32 4 [(4, .int (v4 + 1)), (0, .ref (ux_ad X 107)), (1, .ref (ux_ad X c1)), (2, .int v2), (3, .int v3)] (v4 + 1) C dX7_fitting_29 rfl rfl (by rfl) (by decide) rfl ?_
  refine wt_goto 5 C dX7_fitting_32 (by decide) ?_
  refine wt_sub [1, 2, 3, 4, 0] rfl ?_
  exact hin _ (Option.some.inj h).symm
def fX7_fitting_5b (c1 : Nat) (v2 : Int32) (v3 : Int32) (v4 : Int32) (N : ux_N) : Option ((Int32 × Int32) ⊕ (Int32)) :=
  if (5 : Int32) ≤ v4 then (some (.inr (v3))) else ((fX7_fits c1 v4 v2 N).bind (fun o2 => if o2 = 0 then (fX7_fitting_5b_29 c1 v2 v3 v4 N) else (fX7_fitting_5b_29 c1 v2 (v3 ||| ((1 : Int32) <<< (v4 &&& 31))) v4 N)))
set_option maxHeartbeats 4000000 in
set_option maxRecDepth 20000 in
theorem wX7_fitting_5b {X : ux_X} (C : ux_C X cX7_fitting RX7 5 (some .int) 4 96 shC) {c1 : Nat} {v2 : Int32} {v3 : Int32} {v4 : Int32} (p1 : is_X3 c1) {N : ux_N} {L : ux_L} {o : (Int32 × Int32) ⊕ (Int32)} (hin : ∀ s : Int32 × Int32, o = .inl s → ux_Wt X 5 5 [(0, .ref (ux_ad X 107)), (1, .ref (ux_ad X c1)), (2, .int v2), (3, .int s.1), (4, .int s.2)] [] N L) (hex0 : ∀ e : Int32, o = .inr (e) → ux_Wt X 5 35 [(3, .int e)] [] N L) (h : fX7_fitting_5b c1 v2 v3 v4 N = some o) : ux_Wt X 5 5 [(0, .ref (ux_ad X 107)), (1, .ref (ux_ad X c1)), (2, .int v2), (3, .int v3), (4, .int v4)] [] N L := by
  refine wt_iload 7 4 C dX7_fitting_5 rfl rfl ?_
  refine wt_iconst 8 5 C dX7_fitting_7 rfl (by decide) ?_
  refine wt_icmp_ge 11 35 C dX7_fitting_8 rfl (by decide) (fun q1 => ?_) (fun q1 => ?_)
  · have h := (if_pos q1).symm.trans h
    refine wt_sub [3] rfl ?_
    exact hex0 _ (Option.some.inj h).symm
  · have h := (if_neg q1).symm.trans h
    refine wt_aload_n 12 0 C dX7_fitting_11 rfl rfl ?_
    refine wt_iload 14 4 C dX7_fitting_12 rfl rfl ?_
    refine wt_aload_n 15 1 C dX7_fitting_14 rfl rfl ?_
    refine wt_iload_n 16 2 C dX7_fitting_15 rfl rfl ?_
    obtain ⟨o2, hc3, h⟩ := Option.bind_eq_some_iff.mp h
    refine wt_callVi 19 [] C kvX7_22 sc_107 (mX7_fits (cx_ok C) (p1) hc3) rfl rfl ⟨Nat.le_of_ble_eq_true rfl, Nat.le_of_ble_eq_true rfl⟩ (Nat.le_of_ble_eq_true rfl) dX7_fitting_16 rfl ?_
    refine wt_if_eq 22 29 C dX7_fitting_19 rfl (by decide) (fun q4 => ?_) (fun q4 => ?_)
    · have h := (if_pos q4).symm.trans h
      exact wX7_fitting_5b_29 C p1 hin hex0 h
    · have h := (if_neg q4).symm.trans h
      refine wt_iload_n 23 3 C dX7_fitting_22 rfl rfl ?_
      refine wt_iconst 24 1 C dX7_fitting_23 rfl (by decide) ?_
      refine wt_iload 26 4 C dX7_fitting_24 rfl rfl ?_
      refine wt_ishl 27 C dX7_fitting_26 rfl ?_
      refine wt_ior 28 C dX7_fitting_27 rfl ?_
      refine wt_istore_n 29 [(3, .int (v3 ||| ((1 : Int32) <<< (v4 &&& 31)))), (0, .ref (ux_ad X 107)), (1, .ref (ux_ad X c1)), (2, .int v2), (4, .int v4)] C dX7_fitting_28 rfl (by decide) rfl ?_
      refine wt_sub [1, 2, 3, 0, 4] rfl ?_
      exact wX7_fitting_5b_29 C p1 hin hex0 h
def fX7_fitting (c1 : Nat) (v2 : Int32) (N : ux_N) : Option (Int32) :=
  (ux_lp (fun s : Int32 × Int32 => fX7_fitting_5b c1 v2 s.1 s.2 N) ux_fu ((0 : Int32), (0 : Int32))).bind (fun e8 => some e8)
set_option maxHeartbeats 4000000 in
set_option maxRecDepth 20000 in
theorem wX7_fitting {X : ux_X} (C : ux_C X cX7_fitting RX7 5 (some .int) 4 96 shC) {c1 : Nat} {v2 : Int32} (p1 : is_X3 c1) {N : ux_N} {L : ux_L} {o : Int32} (hq : ux_Qi X o N L) (h : fX7_fitting c1 v2 N = some o) : ux_Wt X 5 0 [(0, .ref (ux_ad X 107)), (1, .ref (ux_ad X c1)), (2, .int v2)] [] N L := by
  refine wt_iconst 1 0 C dX7_fitting_0 rfl (by decide) ?_
  refine wt_istore_n 2 [(3, .int (0 : Int32)), (0, .ref (ux_ad X 107)), (1, .ref (ux_ad X c1)), (2, .int v2)] C dX7_fitting_1 rfl (by decide) rfl ?_
  refine wt_iconst 3 0 C dX7_fitting_2 rfl (by decide) ?_
  refine wt_istore 5 [(4, .int (0 : Int32)), (3, .int (0 : Int32)), (0, .ref (ux_ad X 107)), (1, .ref (ux_ad X c1)), (2, .int v2)] C dX7_fitting_3 rfl (by decide) rfl ?_
  obtain ⟨e1, hl2, h⟩ := Option.bind_eq_some_iff.mp h
  refine wt_sub [2, 3, 4, 1, 0] rfl ?_
  refine ux_loop (fun s : Int32 × Int32 => fX7_fitting_5b c1 v2 s.1 s.2 N) (fun s : Int32 × Int32 => ux_Wt X 5 5 [(0, .ref (ux_ad X 107)), (1, .ref (ux_ad X c1)), (2, .int v2), (3, .int s.1), (4, .int s.2)] [] N L) (e := e1) ?_ hl2
  intro s3 o4 hb5 hi6 hx7
  refine wX7_fitting_5b C p1 hi6 (fun x0 he => ?_) hb5
  · obtain ⟨e8, rfl⟩ : ∃ z, z = x0 := ⟨_, rfl⟩
    have h9 := hx7 _ he
    subst h9
    refine wt_iload_n 36 0 C dX7_fitting_35 rfl rfl ?_
    cases h
    exact wt_iret C hq dX7_fitting_36
theorem mX7_fitting {l : Launch} {G : ux_G} (hok : ux_ok G shC) {c1 : Nat} {v2 : Int32} (p1 : is_X3 c1) {N : ux_N} {L : ux_L} {o : Int32} (h : fX7_fitting c1 v2 N = some o) : ux_Mi l G yX7_fitting cX7_fitting 5 (some .int) 4 96 [.ref (gad G 107), .ref (gad G c1), .int v2] N L o N L :=
  ux_ofi shC hok (by decide +kernel) (Nat.le_of_ble_eq_true rfl) (fun X hG hl C hq => by subst hG; subst hl; exact wX7_fitting C p1 hq h)
def fX7_alike_6b_45 (c3 : Nat) (v0 : Int32) (v1 : Int32) (v2 : Int32) (v4 : Int32) (v5 : Int32) (v6 : Int32) (N : ux_N) : Option ((Int32 × Int32) ⊕ (Int32)) :=
  some (.inl (v5, (v6 + 1)))
set_option maxHeartbeats 4000000 in
set_option maxRecDepth 20000 in
theorem wX7_alike_6b_45 {X : ux_X} (C : ux_C X cX7_alike RX7 7 (some .int) 3 72 shC) {c3 : Nat} {v0 : Int32} {v1 : Int32} {v2 : Int32} {v4 : Int32} {v5 : Int32} {v6 : Int32} (p3 : is_X3 c3) {N : ux_N} {L : ux_L} {o : (Int32 × Int32) ⊕ (Int32)} (hin : ∀ s : Int32 × Int32, o = .inl s → ux_Wt X 7 6 [(0, .int v0), (1, .int v1), (2, .int v2), (3, .ref (ux_ad X c3)), (4, .int v4), (5, .int s.1), (6, .int s.2)] [] N L) (hex0 : ∀ e : Int32, o = .inr (e) → ux_Wt X 7 51 [(5, .int e)] [] N L) (h : fX7_alike_6b_45 c3 v0 v1 v2 v4 v5 v6 N = some o) : ux_Wt X 7 45 [(0, .int v0), (1, .int v1), (2, .int v2), (3, .ref (ux_ad X c3)), (4, .int v4), (5, .int v5), (6, .int v6)] [] N L := by
  refine wt_iinc 48 6 [(6, .int (v6 + 1)), (0, .int v0), (1, .int v1), (2, .int v2), (3, .ref (ux_ad X c3)), (4, .int v4), (5, .int v5)] (v6 + 1) C dX7_alike_45 rfl rfl (by rfl) (by decide) rfl ?_
  refine wt_goto 6 C dX7_alike_48 (by decide) ?_
  refine wt_sub [1, 2, 3, 4, 5, 6, 0] rfl ?_
  exact hin _ (Option.some.inj h).symm
def fX7_alike_6b (c3 : Nat) (v0 : Int32) (v1 : Int32) (v2 : Int32) (v4 : Int32) (v5 : Int32) (v6 : Int32) (N : ux_N) : Option ((Int32 × Int32) ⊕ (Int32)) :=
  if (5 : Int32) ≤ v6 then (some (.inr (v5))) else (if ((v0 >>> (v6 &&& 31)) &&& (1 : Int32)) = (1 : Int32) then ((fX3_linesFor c3 v6 v2 v4 N).bind (fun o3 => (fX3_linesFor c3 v1 v2 v4 N).bind (fun o5 => if o3 = o5 then (fX7_alike_6b_45 c3 v0 v1 v2 v4 (v5 + 1) v6 N) else (fX7_alike_6b_45 c3 v0 v1 v2 v4 v5 v6 N)))) else (fX7_alike_6b_45 c3 v0 v1 v2 v4 v5 v6 N))
set_option maxHeartbeats 4000000 in
set_option maxRecDepth 20000 in
theorem wX7_alike_6b {X : ux_X} (C : ux_C X cX7_alike RX7 7 (some .int) 3 72 shC) {c3 : Nat} {v0 : Int32} {v1 : Int32} {v2 : Int32} {v4 : Int32} {v5 : Int32} {v6 : Int32} (p3 : is_X3 c3) {N : ux_N} {L : ux_L} {o : (Int32 × Int32) ⊕ (Int32)} (hin : ∀ s : Int32 × Int32, o = .inl s → ux_Wt X 7 6 [(0, .int v0), (1, .int v1), (2, .int v2), (3, .ref (ux_ad X c3)), (4, .int v4), (5, .int s.1), (6, .int s.2)] [] N L) (hex0 : ∀ e : Int32, o = .inr (e) → ux_Wt X 7 51 [(5, .int e)] [] N L) (h : fX7_alike_6b c3 v0 v1 v2 v4 v5 v6 N = some o) : ux_Wt X 7 6 [(0, .int v0), (1, .int v1), (2, .int v2), (3, .ref (ux_ad X c3)), (4, .int v4), (5, .int v5), (6, .int v6)] [] N L := by
  refine wt_iload 8 6 C dX7_alike_6 rfl rfl ?_
  refine wt_iconst 9 5 C dX7_alike_8 rfl (by decide) ?_
  refine wt_icmp_ge 12 51 C dX7_alike_9 rfl (by decide) (fun q1 => ?_) (fun q1 => ?_)
  · have h := (if_pos q1).symm.trans h
    refine wt_sub [5] rfl ?_
    exact hex0 _ (Option.some.inj h).symm
  · have h := (if_neg q1).symm.trans h
    refine wt_iload_n 13 0 C dX7_alike_12 rfl rfl ?_
    refine wt_iload 15 6 C dX7_alike_13 rfl rfl ?_
    refine wt_ishr 16 C dX7_alike_15 rfl ?_
    refine wt_iconst 17 1 C dX7_alike_16 rfl (by decide) ?_
    refine wt_iand 18 C dX7_alike_17 rfl ?_
    refine wt_iconst 19 1 C dX7_alike_18 rfl (by decide) ?_
    refine wt_icmp_ne 22 45 C dX7_alike_19 rfl (by decide) (fun q2 => ?_) (fun q2 => ?_)
    · have h := (if_neg q2).symm.trans h
      exact wX7_alike_6b_45 C p3 hin hex0 h
    · have h := (if_pos q2).symm.trans h
      refine wt_aload_n 23 3 C dX7_alike_22 rfl rfl ?_
      refine wt_iload 25 6 C dX7_alike_23 rfl rfl ?_
      refine wt_iload_n 26 2 C dX7_alike_25 rfl rfl ?_
      refine wt_iload 28 4 C dX7_alike_26 rfl rfl ?_
      obtain ⟨o3, hc4, h⟩ := Option.bind_eq_some_iff.mp h
      refine wt_callVi 31 [] C kvX7_32 (p3).1 (mX3_linesFor (cx_ok C) (p3) hc4) rfl rfl ⟨Nat.le_of_ble_eq_true rfl, Nat.le_of_ble_eq_true rfl⟩ (Nat.le_of_ble_eq_true rfl) dX7_alike_28 rfl ?_
      refine wt_aload_n 32 3 C dX7_alike_31 rfl rfl ?_
      refine wt_iload_n 33 1 C dX7_alike_32 rfl rfl ?_
      refine wt_iload_n 34 2 C dX7_alike_33 rfl rfl ?_
      refine wt_iload 36 4 C dX7_alike_34 rfl rfl ?_
      obtain ⟨o5, hc6, h⟩ := Option.bind_eq_some_iff.mp h
      refine wt_callVi 39 [.int o3] C kvX7_32 (p3).1 (mX3_linesFor (cx_ok C) (p3) hc6) rfl rfl ⟨Nat.le_of_ble_eq_true rfl, Nat.le_of_ble_eq_true rfl⟩ (Nat.le_of_ble_eq_true rfl) dX7_alike_36 rfl ?_
      refine wt_icmp_ne 42 45 C dX7_alike_39 rfl (by decide) (fun q7 => ?_) (fun q7 => ?_)
      · have h := (if_neg q7).symm.trans h
        exact wX7_alike_6b_45 C p3 hin hex0 h
      · have h := (if_pos q7).symm.trans h
        refine wt_iinc 45 5 [(5, .int (v5 + 1)), (0, .int v0), (1, .int v1), (2, .int v2), (3, .ref (ux_ad X c3)), (4, .int v4), (6, .int v6)] (v5 + 1) C dX7_alike_42 rfl rfl (by rfl) (by decide) rfl ?_
        refine wt_sub [1, 2, 3, 4, 5, 0, 6] rfl ?_
        exact wX7_alike_6b_45 C p3 hin hex0 h
def fX7_alike (c3 : Nat) (v0 : Int32) (v1 : Int32) (v2 : Int32) (v4 : Int32) (N : ux_N) : Option (Int32) :=
  (ux_lp (fun s : Int32 × Int32 => fX7_alike_6b c3 v0 v1 v2 v4 s.1 s.2 N) ux_fu ((0 : Int32), (0 : Int32))).bind (fun e8 => some e8)
set_option maxHeartbeats 4000000 in
set_option maxRecDepth 20000 in
theorem wX7_alike {X : ux_X} (C : ux_C X cX7_alike RX7 7 (some .int) 3 72 shC) {c3 : Nat} {v0 : Int32} {v1 : Int32} {v2 : Int32} {v4 : Int32} (p3 : is_X3 c3) {N : ux_N} {L : ux_L} {o : Int32} (hq : ux_Qi X o N L) (h : fX7_alike c3 v0 v1 v2 v4 N = some o) : ux_Wt X 7 0 [(0, .int v0), (1, .int v1), (2, .int v2), (3, .ref (ux_ad X c3)), (4, .int v4)] [] N L := by
  refine wt_iconst 1 0 C dX7_alike_0 rfl (by decide) ?_
  refine wt_istore 3 [(5, .int (0 : Int32)), (0, .int v0), (1, .int v1), (2, .int v2), (3, .ref (ux_ad X c3)), (4, .int v4)] C dX7_alike_1 rfl (by decide) rfl ?_
  refine wt_iconst 4 0 C dX7_alike_3 rfl (by decide) ?_
  refine wt_istore 6 [(6, .int (0 : Int32)), (5, .int (0 : Int32)), (0, .int v0), (1, .int v1), (2, .int v2), (3, .ref (ux_ad X c3)), (4, .int v4)] C dX7_alike_4 rfl (by decide) rfl ?_
  obtain ⟨e1, hl2, h⟩ := Option.bind_eq_some_iff.mp h
  refine wt_sub [2, 3, 4, 5, 6, 1, 0] rfl ?_
  refine ux_loop (fun s : Int32 × Int32 => fX7_alike_6b c3 v0 v1 v2 v4 s.1 s.2 N) (fun s : Int32 × Int32 => ux_Wt X 7 6 [(0, .int v0), (1, .int v1), (2, .int v2), (3, .ref (ux_ad X c3)), (4, .int v4), (5, .int s.1), (6, .int s.2)] [] N L) (e := e1) ?_ hl2
  intro s3 o4 hb5 hi6 hx7
  refine wX7_alike_6b C p3 hi6 (fun x0 he => ?_) hb5
  · obtain ⟨e8, rfl⟩ : ∃ z, z = x0 := ⟨_, rfl⟩
    have h9 := hx7 _ he
    subst h9
    refine wt_iload 53 0 C dX7_alike_51 rfl rfl ?_
    cases h
    exact wt_iret C hq dX7_alike_53
theorem mX7_alike {l : Launch} {G : ux_G} (hok : ux_ok G shC) {v0 : Int32} {v1 : Int32} {v2 : Int32} {c3 : Nat} {v4 : Int32} (p3 : is_X3 c3) {N : ux_N} {L : ux_L} {o : Int32} (h : fX7_alike c3 v0 v1 v2 v4 N = some o) : ux_Mi l G yX7_alike cX7_alike 7 (some .int) 3 72 [.int v0, .int v1, .int v2, .ref (gad G c3), .int v4] N L o N L :=
  ux_ofi shC hok (by decide +kernel) (Nat.le_of_ble_eq_true rfl) (fun X hG hl C hq => by subst hG; subst hl; exact wX7_alike C p3 hq h)
def fX7_greatestPart_6b_38 (c2 : Nat) (v0 : Int32) (v1 : Int32) (v3 : Int32) (v4 : Int32) (v5 : Int32) (N : ux_N) : Option ((Int32 × Int32) ⊕ (Int32)) :=
  some (.inl (v4, (v5 + 1)))
set_option maxHeartbeats 4000000 in
set_option maxRecDepth 20000 in
theorem wX7_greatestPart_6b_38 {X : ux_X} (C : ux_C X cX7_greatestPart RX7 6 (some .int) 4 98 shC) {c2 : Nat} {v0 : Int32} {v1 : Int32} {v3 : Int32} {v4 : Int32} {v5 : Int32} (p2 : is_X3 c2) {N : ux_N} {L : ux_L} {o : (Int32 × Int32) ⊕ (Int32)} (hin : ∀ s : Int32 × Int32, o = .inl s → ux_Wt X 6 6 [(0, .int v0), (1, .int v1), (2, .ref (ux_ad X c2)), (3, .int v3), (4, .int s.1), (5, .int s.2)] [] N L) (hex0 : ∀ e : Int32, o = .inr (e) → ux_Wt X 6 44 [(4, .int e)] [] N L) (h : fX7_greatestPart_6b_38 c2 v0 v1 v3 v4 v5 N = some o) : ux_Wt X 6 38 [(0, .int v0), (1, .int v1), (2, .ref (ux_ad X c2)), (3, .int v3), (4, .int v4), (5, .int v5)] [] N L := by
  refine wt_iinc 41 5 [(5, .int (v5 + 1)), (0, .int v0), (1, .int v1), (2, .ref (ux_ad X c2)), (3, .int v3), (4, .int v4)] (v5 + 1) C dX7_greatestPart_38 rfl rfl (by rfl) (by decide) rfl ?_
  refine wt_goto 6 C dX7_greatestPart_41 (by decide) ?_
  refine wt_sub [1, 2, 3, 4, 5, 0] rfl ?_
  exact hin _ (Option.some.inj h).symm
def fX7_greatestPart_6b (c2 : Nat) (v0 : Int32) (v1 : Int32) (v3 : Int32) (v4 : Int32) (v5 : Int32) (N : ux_N) : Option ((Int32 × Int32) ⊕ (Int32)) :=
  if (5 : Int32) ≤ v5 then (some (.inr (v4))) else (if ((v0 >>> (v5 &&& 31)) &&& (1 : Int32)) = (1 : Int32) then ((fX7_alike c2 v0 v5 v1 v3 N).bind (fun o3 => fX7_greatestPart_6b_38 c2 v0 v1 v3 (if v4 < o3 then o3 else v4) v5 N)) else (fX7_greatestPart_6b_38 c2 v0 v1 v3 v4 v5 N))
set_option maxHeartbeats 4000000 in
set_option maxRecDepth 20000 in
theorem wX7_greatestPart_6b {X : ux_X} (C : ux_C X cX7_greatestPart RX7 6 (some .int) 4 98 shC) {c2 : Nat} {v0 : Int32} {v1 : Int32} {v3 : Int32} {v4 : Int32} {v5 : Int32} (p2 : is_X3 c2) {N : ux_N} {L : ux_L} {o : (Int32 × Int32) ⊕ (Int32)} (hin : ∀ s : Int32 × Int32, o = .inl s → ux_Wt X 6 6 [(0, .int v0), (1, .int v1), (2, .ref (ux_ad X c2)), (3, .int v3), (4, .int s.1), (5, .int s.2)] [] N L) (hex0 : ∀ e : Int32, o = .inr (e) → ux_Wt X 6 44 [(4, .int e)] [] N L) (h : fX7_greatestPart_6b c2 v0 v1 v3 v4 v5 N = some o) : ux_Wt X 6 6 [(0, .int v0), (1, .int v1), (2, .ref (ux_ad X c2)), (3, .int v3), (4, .int v4), (5, .int v5)] [] N L := by
  refine wt_iload 8 5 C dX7_greatestPart_6 rfl rfl ?_
  refine wt_iconst 9 5 C dX7_greatestPart_8 rfl (by decide) ?_
  refine wt_icmp_ge 12 44 C dX7_greatestPart_9 rfl (by decide) (fun q1 => ?_) (fun q1 => ?_)
  · have h := (if_pos q1).symm.trans h
    refine wt_sub [4] rfl ?_
    exact hex0 _ (Option.some.inj h).symm
  · have h := (if_neg q1).symm.trans h
    refine wt_iload_n 13 0 C dX7_greatestPart_12 rfl rfl ?_
    refine wt_iload 15 5 C dX7_greatestPart_13 rfl rfl ?_
    refine wt_ishr 16 C dX7_greatestPart_15 rfl ?_
    refine wt_iconst 17 1 C dX7_greatestPart_16 rfl (by decide) ?_
    refine wt_iand 18 C dX7_greatestPart_17 rfl ?_
    refine wt_iconst 19 1 C dX7_greatestPart_18 rfl (by decide) ?_
    refine wt_icmp_ne 22 38 C dX7_greatestPart_19 rfl (by decide) (fun q2 => ?_) (fun q2 => ?_)
    · have h := (if_neg q2).symm.trans h
      exact wX7_greatestPart_6b_38 C p2 hin hex0 h
    · have h := (if_pos q2).symm.trans h
      refine wt_iload 24 4 C dX7_greatestPart_22 rfl rfl ?_
      refine wt_iload_n 25 0 C dX7_greatestPart_24 rfl rfl ?_
      refine wt_iload 27 5 C dX7_greatestPart_25 rfl rfl ?_
      refine wt_iload_n 28 1 C dX7_greatestPart_27 rfl rfl ?_
      refine wt_aload_n 29 2 C dX7_greatestPart_28 rfl rfl ?_
      refine wt_iload_n 30 3 C dX7_greatestPart_29 rfl rfl ?_
      obtain ⟨o3, hc4, h⟩ := Option.bind_eq_some_iff.mp h
      refine wt_callSi 33 [.int v4] C ksX7_50 (mX7_alike (cx_ok C) (p2) hc4) rfl rfl ⟨Nat.le_of_ble_eq_true rfl, Nat.le_of_ble_eq_true rfl⟩ (Nat.le_of_ble_eq_true rfl) dX7_greatestPart_30 rfl ?_
      refine wt_mmax 36 C kmX7_54 (by decide) (Nat.le_of_ble_eq_true rfl) dX7_greatestPart_33 rfl ?_
      refine wt_istore 38 [(4, .int (if v4 < o3 then o3 else v4)), (0, .int v0), (1, .int v1), (2, .ref (ux_ad X c2)), (3, .int v3), (5, .int v5)] C dX7_greatestPart_36 rfl (by decide) rfl ?_
      refine wt_sub [1, 2, 3, 4, 0, 5] rfl ?_
      exact wX7_greatestPart_6b_38 C p2 hin hex0 h
def fX7_greatestPart (c2 : Nat) (v0 : Int32) (v1 : Int32) (v3 : Int32) (N : ux_N) : Option (Int32) :=
  (ux_lp (fun s : Int32 × Int32 => fX7_greatestPart_6b c2 v0 v1 v3 s.1 s.2 N) ux_fu ((0 : Int32), (0 : Int32))).bind (fun e8 => some e8)
set_option maxHeartbeats 4000000 in
set_option maxRecDepth 20000 in
theorem wX7_greatestPart {X : ux_X} (C : ux_C X cX7_greatestPart RX7 6 (some .int) 4 98 shC) {c2 : Nat} {v0 : Int32} {v1 : Int32} {v3 : Int32} (p2 : is_X3 c2) {N : ux_N} {L : ux_L} {o : Int32} (hq : ux_Qi X o N L) (h : fX7_greatestPart c2 v0 v1 v3 N = some o) : ux_Wt X 6 0 [(0, .int v0), (1, .int v1), (2, .ref (ux_ad X c2)), (3, .int v3)] [] N L := by
  refine wt_iconst 1 0 C dX7_greatestPart_0 rfl (by decide) ?_
  refine wt_istore 3 [(4, .int (0 : Int32)), (0, .int v0), (1, .int v1), (2, .ref (ux_ad X c2)), (3, .int v3)] C dX7_greatestPart_1 rfl (by decide) rfl ?_
  refine wt_iconst 4 0 C dX7_greatestPart_3 rfl (by decide) ?_
  refine wt_istore 6 [(5, .int (0 : Int32)), (4, .int (0 : Int32)), (0, .int v0), (1, .int v1), (2, .ref (ux_ad X c2)), (3, .int v3)] C dX7_greatestPart_4 rfl (by decide) rfl ?_
  obtain ⟨e1, hl2, h⟩ := Option.bind_eq_some_iff.mp h
  refine wt_sub [2, 3, 4, 5, 1, 0] rfl ?_
  refine ux_loop (fun s : Int32 × Int32 => fX7_greatestPart_6b c2 v0 v1 v3 s.1 s.2 N) (fun s : Int32 × Int32 => ux_Wt X 6 6 [(0, .int v0), (1, .int v1), (2, .ref (ux_ad X c2)), (3, .int v3), (4, .int s.1), (5, .int s.2)] [] N L) (e := e1) ?_ hl2
  intro s3 o4 hb5 hi6 hx7
  refine wX7_greatestPart_6b C p2 hi6 (fun x0 he => ?_) hb5
  · obtain ⟨e8, rfl⟩ : ∃ z, z = x0 := ⟨_, rfl⟩
    have h9 := hx7 _ he
    subst h9
    refine wt_iload 46 0 C dX7_greatestPart_44 rfl rfl ?_
    cases h
    exact wt_iret C hq dX7_greatestPart_46
theorem mX7_greatestPart {l : Launch} {G : ux_G} (hok : ux_ok G shC) {v0 : Int32} {v1 : Int32} {c2 : Nat} {v3 : Int32} (p2 : is_X3 c2) {N : ux_N} {L : ux_L} {o : Int32} (h : fX7_greatestPart c2 v0 v1 v3 N = some o) : ux_Mi l G yX7_greatestPart cX7_greatestPart 6 (some .int) 4 98 [.int v0, .int v1, .ref (gad G c2), .int v3] N L o N L :=
  ux_ofi shC hok (by decide +kernel) (Nat.le_of_ble_eq_true rfl) (fun X hG hl C hq => by subst hG; subst hl; exact wX7_greatestPart C p2 hq h)
def fX7_bestPlace_19b_51 (c1 : Nat) (v2 : Int32) (v3 : Int32) (v4 : Int32) (v5 : Int32) (v6 : Int32) (N : ux_N) : Option ((Int32 × Int32 × Int32) ⊕ (Int32)) :=
  some (.inl (v4, v5, (v6 + 1)))
set_option maxHeartbeats 4000000 in
set_option maxRecDepth 20000 in
theorem wX7_bestPlace_19b_51 {X : ux_X} (C : ux_C X cX7_bestPlace RX7 8 (some .int) 5 123 shC) {c1 : Nat} {v2 : Int32} {v3 : Int32} {v4 : Int32} {v5 : Int32} {v6 : Int32} (p1 : is_X3 c1) {N : ux_N} {L : ux_L} {o : (Int32 × Int32 × Int32) ⊕ (Int32)} (hin : ∀ s : Int32 × Int32 × Int32, o = .inl s → ux_Wt X 8 19 [(1, .ref (ux_ad X c1)), (2, .int v2), (3, .int v3), (4, .int s.1), (5, .int s.2.1), (6, .int s.2.2)] [] N L) (hex0 : ∀ e : Int32, o = .inr (e) → ux_Wt X 8 57 [(5, .int e)] [] N L) (h : fX7_bestPlace_19b_51 c1 v2 v3 v4 v5 v6 N = some o) : ux_Wt X 8 51 [(1, .ref (ux_ad X c1)), (2, .int v2), (3, .int v3), (4, .int v4), (5, .int v5), (6, .int v6)] [] N L := by
  refine wt_iinc 54 5 [(6, .int (v6 + 1)), (1, .ref (ux_ad X c1)), (2, .int v2), (3, .int v3), (4, .int v4), (5, .int v5)] (v6 + 1) C dX7_bestPlace_51 rfl rfl (by rfl) (by decide) rfl ?_
  refine wt_goto 19 C dX7_bestPlace_54 (by decide) ?_
  refine wt_sub [1, 2, 3, 4, 5, 0] rfl ?_
  exact hin _ (Option.some.inj h).symm
def fX7_bestPlace_19b (c1 : Nat) (v2 : Int32) (v3 : Int32) (v4 : Int32) (v5 : Int32) (v6 : Int32) (N : ux_N) : Option ((Int32 × Int32 × Int32) ⊕ (Int32)) :=
  if (9 : Int32) < v6 then (some (.inr (v5))) else ((fX7_greatestPart c1 v3 v6 v2 N).bind (fun o2 => if v4 ≤ o2 then (fX7_bestPlace_19b_51 c1 v2 v3 v4 v5 v6 N) else (fX7_bestPlace_19b_51 c1 v2 v3 o2 v6 v6 N)))
set_option maxHeartbeats 4000000 in
set_option maxRecDepth 20000 in
theorem wX7_bestPlace_19b {X : ux_X} (C : ux_C X cX7_bestPlace RX7 8 (some .int) 5 123 shC) {c1 : Nat} {v2 : Int32} {v3 : Int32} {v4 : Int32} {v5 : Int32} {v6 : Int32} (p1 : is_X3 c1) {N : ux_N} {L : ux_L} {o : (Int32 × Int32 × Int32) ⊕ (Int32)} (hin : ∀ s : Int32 × Int32 × Int32, o = .inl s → ux_Wt X 8 19 [(1, .ref (ux_ad X c1)), (2, .int v2), (3, .int v3), (4, .int s.1), (5, .int s.2.1), (6, .int s.2.2)] [] N L) (hex0 : ∀ e : Int32, o = .inr (e) → ux_Wt X 8 57 [(5, .int e)] [] N L) (h : fX7_bestPlace_19b c1 v2 v3 v4 v5 v6 N = some o) : ux_Wt X 8 19 [(1, .ref (ux_ad X c1)), (2, .int v2), (3, .int v3), (4, .int v4), (5, .int v5), (6, .int v6)] [] N L := by
  refine wt_iload 21 5 C dX7_bestPlace_19 rfl rfl ?_
  refine wt_bipush 23 9 C dX7_bestPlace_21 rfl (by decide) ?_
  refine wt_icmp_gt 26 57 C dX7_bestPlace_23 rfl (by decide) (fun q1 => ?_) (fun q1 => ?_)
  · have h := (if_pos q1).symm.trans h
    refine wt_sub [4] rfl ?_
    exact hex0 _ (Option.some.inj h).symm
  · have h := (if_neg q1).symm.trans h
    refine wt_iload_n 27 2 C dX7_bestPlace_26 rfl rfl ?_
    refine wt_iload 29 5 C dX7_bestPlace_27 rfl rfl ?_
    refine wt_aload_n 30 0 C dX7_bestPlace_29 rfl rfl ?_
    refine wt_iload_n 31 1 C dX7_bestPlace_30 rfl rfl ?_
    obtain ⟨o2, hc3, h⟩ := Option.bind_eq_some_iff.mp h
    refine wt_callSi 34 [] C ksX7_46 (mX7_greatestPart (cx_ok C) (p1) hc3) rfl rfl ⟨Nat.le_of_ble_eq_true rfl, Nat.le_of_ble_eq_true rfl⟩ (Nat.le_of_ble_eq_true rfl) dX7_bestPlace_31 rfl ?_
    refine wt_istore 36 [(7, .int o2), (1, .ref (ux_ad X c1)), (2, .int v2), (3, .int v3), (4, .int v4), (5, .int v5), (6, .int v6)] C dX7_bestPlace_34 rfl (by decide) rfl ?_
    refine wt_iload 38 0 C dX7_bestPlace_36 rfl rfl ?_
    refine wt_iload 40 4 C dX7_bestPlace_38 rfl rfl ?_
    refine wt_icmp_ge 43 51 C dX7_bestPlace_40 rfl (by decide) (fun q4 => ?_) (fun q4 => ?_)
    · have h := (if_pos q4).symm.trans h
      refine wt_sub [1, 2, 3, 4, 5, 6] rfl ?_
      exact wX7_bestPlace_19b_51 C p1 hin hex0 h
    · have h := (if_neg q4).symm.trans h
      refine wt_iload 45 0 C dX7_bestPlace_43 rfl rfl ?_
      refine wt_istore 47 [(4, .int o2), (7, .int o2), (1, .ref (ux_ad X c1)), (2, .int v2), (3, .int v3), (5, .int v5), (6, .int v6)] C dX7_bestPlace_45 rfl (by decide) rfl ?_
      refine wt_iload 49 6 C dX7_bestPlace_47 rfl rfl ?_
      refine wt_istore 51 [(5, .int v6), (4, .int o2), (7, .int o2), (1, .ref (ux_ad X c1)), (2, .int v2), (3, .int v3), (6, .int v6)] C dX7_bestPlace_49 rfl (by decide) rfl ?_
      refine wt_sub [3, 4, 5, 1, 0, 6] rfl ?_
      exact wX7_bestPlace_19b_51 C p1 hin hex0 h
def fX7_bestPlace (c1 : Nat) (v2 : Int32) (N : ux_N) : Option (Int32) :=
  (fX7_fitting c1 v2 N).bind (fun o1 => (fJ6_bitCount_0f7a4 o1).bind (fun o3 => (ux_lp (fun s : Int32 × Int32 × Int32 => fX7_bestPlace_19b c1 v2 o1 s.1 s.2.1 s.2.2 N) ux_fu (o3, (-1 : Int32), (0 : Int32))).bind (fun e12 => some e12)))
set_option maxHeartbeats 4000000 in
set_option maxRecDepth 20000 in
theorem wX7_bestPlace {X : ux_X} (C : ux_C X cX7_bestPlace RX7 8 (some .int) 5 123 shC) {c1 : Nat} {v2 : Int32} (p1 : is_X3 c1) {N : ux_N} {L : ux_L} {o : Int32} (hq : ux_Qi X o N L) (h : fX7_bestPlace c1 v2 N = some o) : ux_Wt X 8 0 [(0, .ref (ux_ad X 107)), (1, .ref (ux_ad X c1)), (2, .int v2)] [] N L := by
  refine wt_aload_n 1 0 C dX7_bestPlace_0 rfl rfl ?_
  refine wt_aload_n 2 1 C dX7_bestPlace_1 rfl rfl ?_
  refine wt_iload_n 3 2 C dX7_bestPlace_2 rfl rfl ?_
  obtain ⟨o1, hc2, h⟩ := Option.bind_eq_some_iff.mp h
  refine wt_callVi 6 [] C kvX7_36 sc_107 (mX7_fitting (cx_ok C) (p1) hc2) rfl rfl ⟨Nat.le_of_ble_eq_true rfl, Nat.le_of_ble_eq_true rfl⟩ (Nat.le_of_ble_eq_true rfl) dX7_bestPlace_3 rfl ?_
  refine wt_istore_n 7 [(3, .int o1), (0, .ref (ux_ad X 107)), (1, .ref (ux_ad X c1)), (2, .int v2)] C dX7_bestPlace_6 rfl (by decide) rfl ?_
  refine wt_iload_n 8 0 C dX7_bestPlace_7 rfl rfl ?_
  obtain ⟨o3, hc4, h⟩ := Option.bind_eq_some_iff.mp h
  refine wt_callSi 11 [] C ksX7_40 (mJ6_bitCount_0f7a4 (cx_ok C)  hc4) rfl rfl ⟨Nat.le_of_ble_eq_true rfl, Nat.le_of_ble_eq_true rfl⟩ (Nat.le_of_ble_eq_true rfl) dX7_bestPlace_8 rfl ?_
  refine wt_istore 13 [(4, .int o3), (3, .int o1), (0, .ref (ux_ad X 107)), (1, .ref (ux_ad X c1)), (2, .int v2)] C dX7_bestPlace_11 rfl (by decide) rfl ?_
  refine wt_iconst 14 (-1) C dX7_bestPlace_13 rfl (by decide) ?_
  refine wt_istore 16 [(5, .int (-1 : Int32)), (4, .int o3), (3, .int o1), (0, .ref (ux_ad X 107)), (1, .ref (ux_ad X c1)), (2, .int v2)] C dX7_bestPlace_14 rfl (by decide) rfl ?_
  refine wt_iconst 17 0 C dX7_bestPlace_16 rfl (by decide) ?_
  refine wt_istore 19 [(6, .int (0 : Int32)), (5, .int (-1 : Int32)), (4, .int o3), (3, .int o1), (0, .ref (ux_ad X 107)), (1, .ref (ux_ad X c1)), (2, .int v2)] C dX7_bestPlace_17 rfl (by decide) rfl ?_
  obtain ⟨e5, hl6, h⟩ := Option.bind_eq_some_iff.mp h
  refine wt_sub [5, 6, 3, 2, 1, 0] rfl ?_
  refine ux_loop (fun s : Int32 × Int32 × Int32 => fX7_bestPlace_19b c1 v2 o1 s.1 s.2.1 s.2.2 N) (fun s : Int32 × Int32 × Int32 => ux_Wt X 8 19 [(1, .ref (ux_ad X c1)), (2, .int v2), (3, .int o1), (4, .int s.1), (5, .int s.2.1), (6, .int s.2.2)] [] N L) (e := e5) ?_ hl6
  intro s7 o8 hb9 hi10 hx11
  refine wX7_bestPlace_19b C p1 hi10 (fun x0 he => ?_) hb9
  · obtain ⟨e12, rfl⟩ : ∃ z, z = x0 := ⟨_, rfl⟩
    have h9 := hx11 _ he
    subst h9
    refine wt_iload 59 0 C dX7_bestPlace_57 rfl rfl ?_
    cases h
    exact wt_iret C hq dX7_bestPlace_59
theorem mX7_bestPlace {l : Launch} {G : ux_G} (hok : ux_ok G shC) {c1 : Nat} {v2 : Int32} (p1 : is_X3 c1) {N : ux_N} {L : ux_L} {o : Int32} (h : fX7_bestPlace c1 v2 N = some o) : ux_Mi l G yX7_bestPlace cX7_bestPlace 8 (some .int) 5 123 [.ref (gad G 107), .ref (gad G c1), .int v2] N L o N L :=
  ux_ofi shC hok (by decide +kernel) (Nat.le_of_ble_eq_true rfl) (fun X hG hl C hq => by subst hG; subst hl; exact wX7_bestPlace C p1 hq h)
