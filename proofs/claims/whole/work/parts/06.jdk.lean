theorem dJ6_bitCount_0f7a4_0 : decode cJ6_bitCount_0f7a4 0 = .ok (.iload_n 0, 1) := by decide +kernel
theorem dJ6_bitCount_0f7a4_1 : decode cJ6_bitCount_0f7a4 1 = .ok (.iload_n 0, 1) := by decide +kernel
theorem dJ6_bitCount_0f7a4_2 : decode cJ6_bitCount_0f7a4 2 = .ok (.iconst 1, 1) := by decide +kernel
theorem dJ6_bitCount_0f7a4_3 : decode cJ6_bitCount_0f7a4 3 = .ok (.iushr, 1) := by decide +kernel
theorem dJ6_bitCount_0f7a4_4 : decode cJ6_bitCount_0f7a4 4 = .ok (.ldc_w 265, 3) := by decide +kernel
theorem dJ6_bitCount_0f7a4_7 : decode cJ6_bitCount_0f7a4 7 = .ok (.iand, 1) := by decide +kernel
theorem dJ6_bitCount_0f7a4_8 : decode cJ6_bitCount_0f7a4 8 = .ok (.isub, 1) := by decide +kernel
theorem dJ6_bitCount_0f7a4_9 : decode cJ6_bitCount_0f7a4 9 = .ok (.istore_n 0, 1) := by decide +kernel
theorem dJ6_bitCount_0f7a4_10 : decode cJ6_bitCount_0f7a4 10 = .ok (.iload_n 0, 1) := by decide +kernel
theorem dJ6_bitCount_0f7a4_11 : decode cJ6_bitCount_0f7a4 11 = .ok (.ldc_w 266, 3) := by decide +kernel
theorem dJ6_bitCount_0f7a4_14 : decode cJ6_bitCount_0f7a4 14 = .ok (.iand, 1) := by decide +kernel
theorem dJ6_bitCount_0f7a4_15 : decode cJ6_bitCount_0f7a4 15 = .ok (.iload_n 0, 1) := by decide +kernel
theorem dJ6_bitCount_0f7a4_16 : decode cJ6_bitCount_0f7a4 16 = .ok (.iconst 2, 1) := by decide +kernel
theorem dJ6_bitCount_0f7a4_17 : decode cJ6_bitCount_0f7a4 17 = .ok (.iushr, 1) := by decide +kernel
theorem dJ6_bitCount_0f7a4_18 : decode cJ6_bitCount_0f7a4 18 = .ok (.ldc_w 266, 3) := by decide +kernel
theorem dJ6_bitCount_0f7a4_21 : decode cJ6_bitCount_0f7a4 21 = .ok (.iand, 1) := by decide +kernel
theorem dJ6_bitCount_0f7a4_22 : decode cJ6_bitCount_0f7a4 22 = .ok (.iadd, 1) := by decide +kernel
theorem dJ6_bitCount_0f7a4_23 : decode cJ6_bitCount_0f7a4 23 = .ok (.istore_n 0, 1) := by decide +kernel
theorem dJ6_bitCount_0f7a4_24 : decode cJ6_bitCount_0f7a4 24 = .ok (.iload_n 0, 1) := by decide +kernel
theorem dJ6_bitCount_0f7a4_25 : decode cJ6_bitCount_0f7a4 25 = .ok (.iload_n 0, 1) := by decide +kernel
theorem dJ6_bitCount_0f7a4_26 : decode cJ6_bitCount_0f7a4 26 = .ok (.iconst 4, 1) := by decide +kernel
theorem dJ6_bitCount_0f7a4_27 : decode cJ6_bitCount_0f7a4 27 = .ok (.iushr, 1) := by decide +kernel
theorem dJ6_bitCount_0f7a4_28 : decode cJ6_bitCount_0f7a4 28 = .ok (.iadd, 1) := by decide +kernel
theorem dJ6_bitCount_0f7a4_29 : decode cJ6_bitCount_0f7a4 29 = .ok (.ldc_w 267, 3) := by decide +kernel
theorem dJ6_bitCount_0f7a4_32 : decode cJ6_bitCount_0f7a4 32 = .ok (.iand, 1) := by decide +kernel
theorem dJ6_bitCount_0f7a4_33 : decode cJ6_bitCount_0f7a4 33 = .ok (.istore_n 0, 1) := by decide +kernel
theorem dJ6_bitCount_0f7a4_34 : decode cJ6_bitCount_0f7a4 34 = .ok (.iload_n 0, 1) := by decide +kernel
theorem dJ6_bitCount_0f7a4_35 : decode cJ6_bitCount_0f7a4 35 = .ok (.iload_n 0, 1) := by decide +kernel
theorem dJ6_bitCount_0f7a4_36 : decode cJ6_bitCount_0f7a4 36 = .ok (.bipush 8, 2) := by decide +kernel
theorem dJ6_bitCount_0f7a4_38 : decode cJ6_bitCount_0f7a4 38 = .ok (.iushr, 1) := by decide +kernel
theorem dJ6_bitCount_0f7a4_39 : decode cJ6_bitCount_0f7a4 39 = .ok (.iadd, 1) := by decide +kernel
theorem dJ6_bitCount_0f7a4_40 : decode cJ6_bitCount_0f7a4 40 = .ok (.istore_n 0, 1) := by decide +kernel
theorem dJ6_bitCount_0f7a4_41 : decode cJ6_bitCount_0f7a4 41 = .ok (.iload_n 0, 1) := by decide +kernel
theorem dJ6_bitCount_0f7a4_42 : decode cJ6_bitCount_0f7a4 42 = .ok (.iload_n 0, 1) := by decide +kernel
theorem dJ6_bitCount_0f7a4_43 : decode cJ6_bitCount_0f7a4 43 = .ok (.bipush 16, 2) := by decide +kernel
theorem dJ6_bitCount_0f7a4_45 : decode cJ6_bitCount_0f7a4 45 = .ok (.iushr, 1) := by decide +kernel
theorem dJ6_bitCount_0f7a4_46 : decode cJ6_bitCount_0f7a4 46 = .ok (.iadd, 1) := by decide +kernel
theorem dJ6_bitCount_0f7a4_47 : decode cJ6_bitCount_0f7a4 47 = .ok (.istore_n 0, 1) := by decide +kernel
theorem dJ6_bitCount_0f7a4_48 : decode cJ6_bitCount_0f7a4 48 = .ok (.iload_n 0, 1) := by decide +kernel
theorem dJ6_bitCount_0f7a4_49 : decode cJ6_bitCount_0f7a4 49 = .ok (.bipush 63, 2) := by decide +kernel
theorem dJ6_bitCount_0f7a4_51 : decode cJ6_bitCount_0f7a4 51 = .ok (.iand, 1) := by decide +kernel
theorem dJ6_bitCount_0f7a4_52 : decode cJ6_bitCount_0f7a4 52 = .ok (.ireturn, 1) := by decide +kernel
theorem dJ13_bitCount_95d88_0 : decode cJ13_bitCount_95d88 0 = .ok (.lload_n 0, 1) := by decide +kernel
theorem dJ13_bitCount_95d88_1 : decode cJ13_bitCount_95d88 1 = .ok (.lload_n 0, 1) := by decide +kernel
theorem dJ13_bitCount_95d88_2 : decode cJ13_bitCount_95d88 2 = .ok (.iconst 1, 1) := by decide +kernel
theorem dJ13_bitCount_95d88_3 : decode cJ13_bitCount_95d88 3 = .ok (.lushr, 1) := by decide +kernel
theorem dJ13_bitCount_95d88_4 : decode cJ13_bitCount_95d88 4 = .ok (.ldc2_w 314, 3) := by decide +kernel
theorem dJ13_bitCount_95d88_7 : decode cJ13_bitCount_95d88 7 = .ok (.land, 1) := by decide +kernel
theorem dJ13_bitCount_95d88_8 : decode cJ13_bitCount_95d88 8 = .ok (.lsub, 1) := by decide +kernel
theorem dJ13_bitCount_95d88_9 : decode cJ13_bitCount_95d88 9 = .ok (.lstore_n 0, 1) := by decide +kernel
theorem dJ13_bitCount_95d88_10 : decode cJ13_bitCount_95d88 10 = .ok (.lload_n 0, 1) := by decide +kernel
theorem dJ13_bitCount_95d88_11 : decode cJ13_bitCount_95d88 11 = .ok (.ldc2_w 316, 3) := by decide +kernel
theorem dJ13_bitCount_95d88_14 : decode cJ13_bitCount_95d88 14 = .ok (.land, 1) := by decide +kernel
theorem dJ13_bitCount_95d88_15 : decode cJ13_bitCount_95d88 15 = .ok (.lload_n 0, 1) := by decide +kernel
theorem dJ13_bitCount_95d88_16 : decode cJ13_bitCount_95d88 16 = .ok (.iconst 2, 1) := by decide +kernel
theorem dJ13_bitCount_95d88_17 : decode cJ13_bitCount_95d88 17 = .ok (.lushr, 1) := by decide +kernel
theorem dJ13_bitCount_95d88_18 : decode cJ13_bitCount_95d88 18 = .ok (.ldc2_w 316, 3) := by decide +kernel
theorem dJ13_bitCount_95d88_21 : decode cJ13_bitCount_95d88 21 = .ok (.land, 1) := by decide +kernel
theorem dJ13_bitCount_95d88_22 : decode cJ13_bitCount_95d88 22 = .ok (.ladd, 1) := by decide +kernel
theorem dJ13_bitCount_95d88_23 : decode cJ13_bitCount_95d88 23 = .ok (.lstore_n 0, 1) := by decide +kernel
theorem dJ13_bitCount_95d88_24 : decode cJ13_bitCount_95d88 24 = .ok (.lload_n 0, 1) := by decide +kernel
theorem dJ13_bitCount_95d88_25 : decode cJ13_bitCount_95d88 25 = .ok (.lload_n 0, 1) := by decide +kernel
theorem dJ13_bitCount_95d88_26 : decode cJ13_bitCount_95d88 26 = .ok (.iconst 4, 1) := by decide +kernel
theorem dJ13_bitCount_95d88_27 : decode cJ13_bitCount_95d88 27 = .ok (.lushr, 1) := by decide +kernel
theorem dJ13_bitCount_95d88_28 : decode cJ13_bitCount_95d88 28 = .ok (.ladd, 1) := by decide +kernel
theorem dJ13_bitCount_95d88_29 : decode cJ13_bitCount_95d88 29 = .ok (.ldc2_w 318, 3) := by decide +kernel
theorem dJ13_bitCount_95d88_32 : decode cJ13_bitCount_95d88 32 = .ok (.land, 1) := by decide +kernel
theorem dJ13_bitCount_95d88_33 : decode cJ13_bitCount_95d88 33 = .ok (.lstore_n 0, 1) := by decide +kernel
theorem dJ13_bitCount_95d88_34 : decode cJ13_bitCount_95d88 34 = .ok (.lload_n 0, 1) := by decide +kernel
theorem dJ13_bitCount_95d88_35 : decode cJ13_bitCount_95d88 35 = .ok (.lload_n 0, 1) := by decide +kernel
theorem dJ13_bitCount_95d88_36 : decode cJ13_bitCount_95d88 36 = .ok (.bipush 8, 2) := by decide +kernel
theorem dJ13_bitCount_95d88_38 : decode cJ13_bitCount_95d88 38 = .ok (.lushr, 1) := by decide +kernel
theorem dJ13_bitCount_95d88_39 : decode cJ13_bitCount_95d88 39 = .ok (.ladd, 1) := by decide +kernel
theorem dJ13_bitCount_95d88_40 : decode cJ13_bitCount_95d88 40 = .ok (.lstore_n 0, 1) := by decide +kernel
theorem dJ13_bitCount_95d88_41 : decode cJ13_bitCount_95d88 41 = .ok (.lload_n 0, 1) := by decide +kernel
theorem dJ13_bitCount_95d88_42 : decode cJ13_bitCount_95d88 42 = .ok (.lload_n 0, 1) := by decide +kernel
theorem dJ13_bitCount_95d88_43 : decode cJ13_bitCount_95d88 43 = .ok (.bipush 16, 2) := by decide +kernel
theorem dJ13_bitCount_95d88_45 : decode cJ13_bitCount_95d88 45 = .ok (.lushr, 1) := by decide +kernel
theorem dJ13_bitCount_95d88_46 : decode cJ13_bitCount_95d88 46 = .ok (.ladd, 1) := by decide +kernel
theorem dJ13_bitCount_95d88_47 : decode cJ13_bitCount_95d88 47 = .ok (.lstore_n 0, 1) := by decide +kernel
theorem dJ13_bitCount_95d88_48 : decode cJ13_bitCount_95d88 48 = .ok (.lload_n 0, 1) := by decide +kernel
theorem dJ13_bitCount_95d88_49 : decode cJ13_bitCount_95d88 49 = .ok (.lload_n 0, 1) := by decide +kernel
theorem dJ13_bitCount_95d88_50 : decode cJ13_bitCount_95d88 50 = .ok (.bipush 32, 2) := by decide +kernel
theorem dJ13_bitCount_95d88_52 : decode cJ13_bitCount_95d88 52 = .ok (.lushr, 1) := by decide +kernel
theorem dJ13_bitCount_95d88_53 : decode cJ13_bitCount_95d88 53 = .ok (.ladd, 1) := by decide +kernel
theorem dJ13_bitCount_95d88_54 : decode cJ13_bitCount_95d88 54 = .ok (.lstore_n 0, 1) := by decide +kernel
theorem dJ13_bitCount_95d88_55 : decode cJ13_bitCount_95d88 55 = .ok (.lload_n 0, 1) := by decide +kernel
theorem dJ13_bitCount_95d88_56 : decode cJ13_bitCount_95d88 56 = .ok (.l2i, 1) := by decide +kernel
theorem dJ13_bitCount_95d88_57 : decode cJ13_bitCount_95d88 57 = .ok (.bipush 127, 2) := by decide +kernel
theorem dJ13_bitCount_95d88_59 : decode cJ13_bitCount_95d88 59 = .ok (.iand, 1) := by decide +kernel
theorem dJ13_bitCount_95d88_60 : decode cJ13_bitCount_95d88 60 = .ok (.ireturn, 1) := by decide +kernel
theorem dX11_lowest_0 : decode cX11_lowest 0 = .ok (.iload_n 0, 1) := by decide +kernel
theorem dX11_lowest_1 : decode cX11_lowest 1 = .ok (.iload_n 0, 1) := by decide +kernel
theorem dX11_lowest_2 : decode cX11_lowest 2 = .ok (.ineg, 1) := by decide +kernel
theorem dX11_lowest_3 : decode cX11_lowest 3 = .ok (.iand, 1) := by decide +kernel
theorem dX11_lowest_4 : decode cX11_lowest 4 = .ok (.iconst 1, 1) := by decide +kernel
theorem dX11_lowest_5 : decode cX11_lowest 5 = .ok (.isub, 1) := by decide +kernel
theorem dX11_lowest_6 : decode cX11_lowest 6 = .ok (.invokestatic 198, 3) := by decide +kernel
theorem dX11_lowest_9 : decode cX11_lowest 9 = .ok (.ireturn, 1) := by decide +kernel
theorem ksX11_198 : ux_LS RX11 198 yJ6_bitCount_0f7a4 cJ6_bitCount_0f7a4 1 (some .int) 1 := ⟨tw_440, tw_441, tw_84, tw_442, ⟨by decide, by decide, by decide +kernel⟩⟩
def fJ6_bitCount_0f7a4_47 (s0 : Int32) : Option (Int32) :=
  some (s0 &&& (63 : Int32))
set_option maxHeartbeats 4000000 in
set_option maxRecDepth 20000 in
theorem wJ6_bitCount_0f7a4_47 {X : ux_X} {sh : List ux_Sh} (C : ux_C X cJ6_bitCount_0f7a4 RJ6 1 (some .int) 0 0 sh) {s0 : Int32}  {N : ux_N} {L : ux_L} {o : Int32} (hq : ux_Qi X o N L) (h : fJ6_bitCount_0f7a4_47 s0 = some o) : ux_Wt X 1 47 [] [.int s0] N L := by
  refine wt_istore_n 48 [(0, .int s0)] C dJ6_bitCount_0f7a4_47 rfl (by decide) rfl ?_
  refine wt_iload_n 49 0 C dJ6_bitCount_0f7a4_48 rfl rfl ?_
  refine wt_bipush 51 63 C dJ6_bitCount_0f7a4_49 rfl (by decide) ?_
  refine wt_iand 52 C dJ6_bitCount_0f7a4_51 rfl ?_
  cases h
  exact wt_iret C hq dJ6_bitCount_0f7a4_52
def fJ6_bitCount_0f7a4_33 (s0 : Int32) : Option (Int32) :=
  fJ6_bitCount_0f7a4_47 ((s0 + ((s0.toUInt32 >>> ((8 : Int32).toUInt32 &&& Int32.toUInt32 31)).toInt32)) + (((s0 + ((s0.toUInt32 >>> ((8 : Int32).toUInt32 &&& Int32.toUInt32 31)).toInt32)).toUInt32 >>> ((16 : Int32).toUInt32 &&& Int32.toUInt32 31)).toInt32))
set_option maxHeartbeats 4000000 in
set_option maxRecDepth 20000 in
theorem wJ6_bitCount_0f7a4_33 {X : ux_X} {sh : List ux_Sh} (C : ux_C X cJ6_bitCount_0f7a4 RJ6 1 (some .int) 0 0 sh) {s0 : Int32}  {N : ux_N} {L : ux_L} {o : Int32} (hq : ux_Qi X o N L) (h : fJ6_bitCount_0f7a4_33 s0 = some o) : ux_Wt X 1 33 [] [.int s0] N L := by
  refine wt_istore_n 34 [(0, .int s0)] C dJ6_bitCount_0f7a4_33 rfl (by decide) rfl ?_
  refine wt_iload_n 35 0 C dJ6_bitCount_0f7a4_34 rfl rfl ?_
  refine wt_iload_n 36 0 C dJ6_bitCount_0f7a4_35 rfl rfl ?_
  refine wt_bipush 38 8 C dJ6_bitCount_0f7a4_36 rfl (by decide) ?_
  refine wt_iushr 39 C dJ6_bitCount_0f7a4_38 rfl ?_
  refine wt_iadd 40 C dJ6_bitCount_0f7a4_39 rfl ?_
  refine wt_istore_n 41 [(0, .int (s0 + ((s0.toUInt32 >>> ((8 : Int32).toUInt32 &&& Int32.toUInt32 31)).toInt32)))] C dJ6_bitCount_0f7a4_40 rfl (by decide) rfl ?_
  refine wt_iload_n 42 0 C dJ6_bitCount_0f7a4_41 rfl rfl ?_
  refine wt_iload_n 43 0 C dJ6_bitCount_0f7a4_42 rfl rfl ?_
  refine wt_bipush 45 16 C dJ6_bitCount_0f7a4_43 rfl (by decide) ?_
  refine wt_iushr 46 C dJ6_bitCount_0f7a4_45 rfl ?_
  refine wt_iadd 47 C dJ6_bitCount_0f7a4_46 rfl ?_
  refine wt_sub [] rfl ?_
  exact wJ6_bitCount_0f7a4_47 C hq h
def fJ6_bitCount_0f7a4_18 (s0 : Int32) (s1 : Int32) : Option (Int32) :=
  fJ6_bitCount_0f7a4_33 (((s1 + (s0 &&& (858993459 : Int32))) + (((s1 + (s0 &&& (858993459 : Int32))).toUInt32 >>> ((4 : Int32).toUInt32 &&& Int32.toUInt32 31)).toInt32)) &&& (252645135 : Int32))
set_option maxHeartbeats 4000000 in
set_option maxRecDepth 20000 in
theorem wJ6_bitCount_0f7a4_18 {X : ux_X} {sh : List ux_Sh} (C : ux_C X cJ6_bitCount_0f7a4 RJ6 1 (some .int) 0 0 sh) {s0 : Int32} {s1 : Int32}  {N : ux_N} {L : ux_L} {o : Int32} (hq : ux_Qi X o N L) (h : fJ6_bitCount_0f7a4_18 s0 s1 = some o) : ux_Wt X 1 18 [] [.int s0, .int s1] N L := by
  refine wt_ldcw 21 C tw_444 dJ6_bitCount_0f7a4_18 rfl ?_
  refine wt_iand 22 C dJ6_bitCount_0f7a4_21 rfl ?_
  refine wt_iadd 23 C dJ6_bitCount_0f7a4_22 rfl ?_
  refine wt_istore_n 24 [(0, .int (s1 + (s0 &&& (858993459 : Int32))))] C dJ6_bitCount_0f7a4_23 rfl (by decide) rfl ?_
  refine wt_iload_n 25 0 C dJ6_bitCount_0f7a4_24 rfl rfl ?_
  refine wt_iload_n 26 0 C dJ6_bitCount_0f7a4_25 rfl rfl ?_
  refine wt_iconst 27 4 C dJ6_bitCount_0f7a4_26 rfl (by decide) ?_
  refine wt_iushr 28 C dJ6_bitCount_0f7a4_27 rfl ?_
  refine wt_iadd 29 C dJ6_bitCount_0f7a4_28 rfl ?_
  refine wt_ldcw 32 C tw_445 dJ6_bitCount_0f7a4_29 rfl ?_
  refine wt_iand 33 C dJ6_bitCount_0f7a4_32 rfl ?_
  refine wt_sub [] rfl ?_
  exact wJ6_bitCount_0f7a4_33 C hq h
def fJ6_bitCount_0f7a4 (v0 : Int32) : Option (Int32) :=
  fJ6_bitCount_0f7a4_18 (((v0 - (((v0.toUInt32 >>> ((1 : Int32).toUInt32 &&& Int32.toUInt32 31)).toInt32) &&& (1431655765 : Int32))).toUInt32 >>> ((2 : Int32).toUInt32 &&& Int32.toUInt32 31)).toInt32) ((v0 - (((v0.toUInt32 >>> ((1 : Int32).toUInt32 &&& Int32.toUInt32 31)).toInt32) &&& (1431655765 : Int32))) &&& (858993459 : Int32))
set_option maxHeartbeats 4000000 in
set_option maxRecDepth 20000 in
theorem wJ6_bitCount_0f7a4 {X : ux_X} {sh : List ux_Sh} (C : ux_C X cJ6_bitCount_0f7a4 RJ6 1 (some .int) 0 0 sh) {v0 : Int32}  {N : ux_N} {L : ux_L} {o : Int32} (hq : ux_Qi X o N L) (h : fJ6_bitCount_0f7a4 v0 = some o) : ux_Wt X 1 0 [(0, .int v0)] [] N L := by
  refine wt_iload_n 1 0 C dJ6_bitCount_0f7a4_0 rfl rfl ?_
  refine wt_iload_n 2 0 C dJ6_bitCount_0f7a4_1 rfl rfl ?_
  refine wt_iconst 3 1 C dJ6_bitCount_0f7a4_2 rfl (by decide) ?_
  refine wt_iushr 4 C dJ6_bitCount_0f7a4_3 rfl ?_
  refine wt_ldcw 7 C tw_443 dJ6_bitCount_0f7a4_4 rfl ?_
  refine wt_iand 8 C dJ6_bitCount_0f7a4_7 rfl ?_
  refine wt_isub 9 C dJ6_bitCount_0f7a4_8 rfl ?_
  refine wt_istore_n 10 [(0, .int (v0 - (((v0.toUInt32 >>> ((1 : Int32).toUInt32 &&& Int32.toUInt32 31)).toInt32) &&& (1431655765 : Int32))))] C dJ6_bitCount_0f7a4_9 rfl (by decide) rfl ?_
  refine wt_iload_n 11 0 C dJ6_bitCount_0f7a4_10 rfl rfl ?_
  refine wt_ldcw 14 C tw_444 dJ6_bitCount_0f7a4_11 rfl ?_
  refine wt_iand 15 C dJ6_bitCount_0f7a4_14 rfl ?_
  refine wt_iload_n 16 0 C dJ6_bitCount_0f7a4_15 rfl rfl ?_
  refine wt_iconst 17 2 C dJ6_bitCount_0f7a4_16 rfl (by decide) ?_
  refine wt_iushr 18 C dJ6_bitCount_0f7a4_17 rfl ?_
  refine wt_sub [] rfl ?_
  exact wJ6_bitCount_0f7a4_18 C hq h
theorem mJ6_bitCount_0f7a4 {l : Launch} {G : ux_G} {sh : List ux_Sh} (hok : ux_ok G sh) {v0 : Int32}  {N : ux_N} {L : ux_L} {o : Int32} (h : fJ6_bitCount_0f7a4 v0 = some o) : ux_Mi l G yJ6_bitCount_0f7a4 cJ6_bitCount_0f7a4 1 (some .int) 0 0 [.int v0] N L o N L :=
  ux_ofi sh hok (by decide +kernel) (Nat.le_of_ble_eq_true rfl) (fun X hG hl C hq => by subst hG; subst hl; exact wJ6_bitCount_0f7a4 C  hq h)
def fJ13_bitCount_95d88_46 (s0 : Int64) (s1 : Int64) : Option (Int32) :=
  some ((((s1 + s0) + (((s1 + s0).toUInt64 >>> ((32 : Int32).toInt64.toUInt64 &&& Int64.toUInt64 63)).toInt64)).toInt32) &&& (127 : Int32))
set_option maxHeartbeats 4000000 in
set_option maxRecDepth 20000 in
theorem wJ13_bitCount_95d88_46 {X : ux_X} {sh : List ux_Sh} (C : ux_C X cJ13_bitCount_95d88 RJ13 2 (some .int) 0 0 sh) {s0 : Int64} {s1 : Int64}  {N : ux_N} {L : ux_L} {o : Int32} (hq : ux_Qi X o N L) (h : fJ13_bitCount_95d88_46 s0 s1 = some o) : ux_Wt X 2 46 [] [.long s0, .long s1] N L := by
  refine wt_ladd 47 C dJ13_bitCount_95d88_46 rfl ?_
  refine wt_lstore_n 48 [(0, .long (s1 + s0))] C dJ13_bitCount_95d88_47 rfl (by decide) rfl ?_
  refine wt_lload_n 49 0 C dJ13_bitCount_95d88_48 rfl rfl ?_
  refine wt_lload_n 50 0 C dJ13_bitCount_95d88_49 rfl rfl ?_
  refine wt_bipush 52 32 C dJ13_bitCount_95d88_50 rfl (by decide) ?_
  refine wt_lushr 53 C dJ13_bitCount_95d88_52 rfl ?_
  refine wt_ladd 54 C dJ13_bitCount_95d88_53 rfl ?_
  refine wt_lstore_n 55 [(0, .long ((s1 + s0) + (((s1 + s0).toUInt64 >>> ((32 : Int32).toInt64.toUInt64 &&& Int64.toUInt64 63)).toInt64)))] C dJ13_bitCount_95d88_54 rfl (by decide) rfl ?_
  refine wt_lload_n 56 0 C dJ13_bitCount_95d88_55 rfl rfl ?_
  refine wt_l2i 57 C dJ13_bitCount_95d88_56 rfl ?_
  refine wt_bipush 59 127 C dJ13_bitCount_95d88_57 rfl (by decide) ?_
  refine wt_iand 60 C dJ13_bitCount_95d88_59 rfl ?_
  cases h
  exact wt_iret C hq dJ13_bitCount_95d88_60
def fJ13_bitCount_95d88_29 (s0 : Int64) : Option (Int32) :=
  fJ13_bitCount_95d88_46 ((((s0 &&& (1085102592571150095 : Int64)) + (((s0 &&& (1085102592571150095 : Int64)).toUInt64 >>> ((8 : Int32).toInt64.toUInt64 &&& Int64.toUInt64 63)).toInt64)).toUInt64 >>> ((16 : Int32).toInt64.toUInt64 &&& Int64.toUInt64 63)).toInt64) ((s0 &&& (1085102592571150095 : Int64)) + (((s0 &&& (1085102592571150095 : Int64)).toUInt64 >>> ((8 : Int32).toInt64.toUInt64 &&& Int64.toUInt64 63)).toInt64))
set_option maxHeartbeats 4000000 in
set_option maxRecDepth 20000 in
theorem wJ13_bitCount_95d88_29 {X : ux_X} {sh : List ux_Sh} (C : ux_C X cJ13_bitCount_95d88 RJ13 2 (some .int) 0 0 sh) {s0 : Int64}  {N : ux_N} {L : ux_L} {o : Int32} (hq : ux_Qi X o N L) (h : fJ13_bitCount_95d88_29 s0 = some o) : ux_Wt X 2 29 [] [.long s0] N L := by
  refine wt_ldc2 32 C tw_535 dJ13_bitCount_95d88_29 rfl ?_
  refine wt_land 33 C dJ13_bitCount_95d88_32 rfl ?_
  refine wt_lstore_n 34 [(0, .long (s0 &&& (1085102592571150095 : Int64)))] C dJ13_bitCount_95d88_33 rfl (by decide) rfl ?_
  refine wt_lload_n 35 0 C dJ13_bitCount_95d88_34 rfl rfl ?_
  refine wt_lload_n 36 0 C dJ13_bitCount_95d88_35 rfl rfl ?_
  refine wt_bipush 38 8 C dJ13_bitCount_95d88_36 rfl (by decide) ?_
  refine wt_lushr 39 C dJ13_bitCount_95d88_38 rfl ?_
  refine wt_ladd 40 C dJ13_bitCount_95d88_39 rfl ?_
  refine wt_lstore_n 41 [(0, .long ((s0 &&& (1085102592571150095 : Int64)) + (((s0 &&& (1085102592571150095 : Int64)).toUInt64 >>> ((8 : Int32).toInt64.toUInt64 &&& Int64.toUInt64 63)).toInt64)))] C dJ13_bitCount_95d88_40 rfl (by decide) rfl ?_
  refine wt_lload_n 42 0 C dJ13_bitCount_95d88_41 rfl rfl ?_
  refine wt_lload_n 43 0 C dJ13_bitCount_95d88_42 rfl rfl ?_
  refine wt_bipush 45 16 C dJ13_bitCount_95d88_43 rfl (by decide) ?_
  refine wt_lushr 46 C dJ13_bitCount_95d88_45 rfl ?_
  refine wt_sub [] rfl ?_
  exact wJ13_bitCount_95d88_46 C hq h
def fJ13_bitCount_95d88_18 (s0 : Int64) (s1 : Int64) : Option (Int32) :=
  fJ13_bitCount_95d88_29 ((s1 + (s0 &&& (3689348814741910323 : Int64))) + (((s1 + (s0 &&& (3689348814741910323 : Int64))).toUInt64 >>> ((4 : Int32).toInt64.toUInt64 &&& Int64.toUInt64 63)).toInt64))
set_option maxHeartbeats 4000000 in
set_option maxRecDepth 20000 in
theorem wJ13_bitCount_95d88_18 {X : ux_X} {sh : List ux_Sh} (C : ux_C X cJ13_bitCount_95d88 RJ13 2 (some .int) 0 0 sh) {s0 : Int64} {s1 : Int64}  {N : ux_N} {L : ux_L} {o : Int32} (hq : ux_Qi X o N L) (h : fJ13_bitCount_95d88_18 s0 s1 = some o) : ux_Wt X 2 18 [] [.long s0, .long s1] N L := by
  refine wt_ldc2 21 C tw_534 dJ13_bitCount_95d88_18 rfl ?_
  refine wt_land 22 C dJ13_bitCount_95d88_21 rfl ?_
  refine wt_ladd 23 C dJ13_bitCount_95d88_22 rfl ?_
  refine wt_lstore_n 24 [(0, .long (s1 + (s0 &&& (3689348814741910323 : Int64))))] C dJ13_bitCount_95d88_23 rfl (by decide) rfl ?_
  refine wt_lload_n 25 0 C dJ13_bitCount_95d88_24 rfl rfl ?_
  refine wt_lload_n 26 0 C dJ13_bitCount_95d88_25 rfl rfl ?_
  refine wt_iconst 27 4 C dJ13_bitCount_95d88_26 rfl (by decide) ?_
  refine wt_lushr 28 C dJ13_bitCount_95d88_27 rfl ?_
  refine wt_ladd 29 C dJ13_bitCount_95d88_28 rfl ?_
  refine wt_sub [] rfl ?_
  exact wJ13_bitCount_95d88_29 C hq h
def fJ13_bitCount_95d88 (v0 : Int64) : Option (Int32) :=
  fJ13_bitCount_95d88_18 (((v0 - (((v0.toUInt64 >>> ((1 : Int32).toInt64.toUInt64 &&& Int64.toUInt64 63)).toInt64) &&& (6148914691236517205 : Int64))).toUInt64 >>> ((2 : Int32).toInt64.toUInt64 &&& Int64.toUInt64 63)).toInt64) ((v0 - (((v0.toUInt64 >>> ((1 : Int32).toInt64.toUInt64 &&& Int64.toUInt64 63)).toInt64) &&& (6148914691236517205 : Int64))) &&& (3689348814741910323 : Int64))
set_option maxHeartbeats 4000000 in
set_option maxRecDepth 20000 in
theorem wJ13_bitCount_95d88 {X : ux_X} {sh : List ux_Sh} (C : ux_C X cJ13_bitCount_95d88 RJ13 2 (some .int) 0 0 sh) {v0 : Int64}  {N : ux_N} {L : ux_L} {o : Int32} (hq : ux_Qi X o N L) (h : fJ13_bitCount_95d88 v0 = some o) : ux_Wt X 2 0 [(0, .long v0)] [] N L := by
  refine wt_lload_n 1 0 C dJ13_bitCount_95d88_0 rfl rfl ?_
  refine wt_lload_n 2 0 C dJ13_bitCount_95d88_1 rfl rfl ?_
  refine wt_iconst 3 1 C dJ13_bitCount_95d88_2 rfl (by decide) ?_
  refine wt_lushr 4 C dJ13_bitCount_95d88_3 rfl ?_
  refine wt_ldc2 7 C tw_533 dJ13_bitCount_95d88_4 rfl ?_
  refine wt_land 8 C dJ13_bitCount_95d88_7 rfl ?_
  refine wt_lsub 9 C dJ13_bitCount_95d88_8 rfl ?_
  refine wt_lstore_n 10 [(0, .long (v0 - (((v0.toUInt64 >>> ((1 : Int32).toInt64.toUInt64 &&& Int64.toUInt64 63)).toInt64) &&& (6148914691236517205 : Int64))))] C dJ13_bitCount_95d88_9 rfl (by decide) rfl ?_
  refine wt_lload_n 11 0 C dJ13_bitCount_95d88_10 rfl rfl ?_
  refine wt_ldc2 14 C tw_534 dJ13_bitCount_95d88_11 rfl ?_
  refine wt_land 15 C dJ13_bitCount_95d88_14 rfl ?_
  refine wt_lload_n 16 0 C dJ13_bitCount_95d88_15 rfl rfl ?_
  refine wt_iconst 17 2 C dJ13_bitCount_95d88_16 rfl (by decide) ?_
  refine wt_lushr 18 C dJ13_bitCount_95d88_17 rfl ?_
  refine wt_sub [] rfl ?_
  exact wJ13_bitCount_95d88_18 C hq h
theorem mJ13_bitCount_95d88 {l : Launch} {G : ux_G} {sh : List ux_Sh} (hok : ux_ok G sh) {v0 : Int64}  {N : ux_N} {L : ux_L} {o : Int32} (h : fJ13_bitCount_95d88 v0 = some o) : ux_Mi l G yJ13_bitCount_95d88 cJ13_bitCount_95d88 2 (some .int) 0 0 [.long v0] N L o N L :=
  ux_ofi sh hok (by decide +kernel) (Nat.le_of_ble_eq_true rfl) (fun X hG hl C hq => by subst hG; subst hl; exact wJ13_bitCount_95d88 C  hq h)
def fX11_lowest (v0 : Int32) : Option (Int32) :=
  (fJ6_bitCount_0f7a4 ((v0 &&& (-v0)) - (1 : Int32))).bind (fun o1 => some o1)
set_option maxHeartbeats 4000000 in
set_option maxRecDepth 20000 in
theorem wX11_lowest {X : ux_X} (C : ux_C X cX11_lowest RX11 1 (some .int) 1 20 shC) {v0 : Int32}  {N : ux_N} {L : ux_L} {o : Int32} (hq : ux_Qi X o N L) (h : fX11_lowest v0 = some o) : ux_Wt X 1 0 [(0, .int v0)] [] N L := by
  refine wt_iload_n 1 0 C dX11_lowest_0 rfl rfl ?_
  refine wt_iload_n 2 0 C dX11_lowest_1 rfl rfl ?_
  refine wt_ineg 3 C dX11_lowest_2 rfl ?_
  refine wt_iand 4 C dX11_lowest_3 rfl ?_
  refine wt_iconst 5 1 C dX11_lowest_4 rfl (by decide) ?_
  refine wt_isub 6 C dX11_lowest_5 rfl ?_
  obtain ⟨o1, hc2, h⟩ := Option.bind_eq_some_iff.mp h
  refine wt_callSi 9 [] C ksX11_198 (mJ6_bitCount_0f7a4 (cx_ok C)  hc2) rfl rfl ⟨Nat.le_of_ble_eq_true rfl, Nat.le_of_ble_eq_true rfl⟩ (Nat.le_of_ble_eq_true rfl) dX11_lowest_6 rfl ?_
  cases h
  exact wt_iret C hq dX11_lowest_9
theorem mX11_lowest {l : Launch} {G : ux_G} (hok : ux_ok G shC) {v0 : Int32}  {N : ux_N} {L : ux_L} {o : Int32} (h : fX11_lowest v0 = some o) : ux_Mi l G yX11_lowest cX11_lowest 1 (some .int) 1 20 [.int v0] N L o N L :=
  ux_ofi shC hok (by decide +kernel) (Nat.le_of_ble_eq_true rfl) (fun X hG hl C hq => by subst hG; subst hl; exact wX11_lowest C  hq h)
