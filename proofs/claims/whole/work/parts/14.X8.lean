theorem dX8_startFrom_0 : decode cX8_startFrom 0 = .ok (.aload_n 0, 1) := by decide +kernel
theorem dX8_startFrom_1 : decode cX8_startFrom 1 = .ok (.aload_n 1, 1) := by decide +kernel
theorem dX8_startFrom_2 : decode cX8_startFrom 2 = .ok (.getfield 18, 3) := by decide +kernel
theorem dX8_startFrom_5 : decode cX8_startFrom 5 = .ok (.putfield 24, 3) := by decide +kernel
theorem dX8_startFrom_8 : decode cX8_startFrom 8 = .ok (.aload_n 0, 1) := by decide +kernel
theorem dX8_startFrom_9 : decode cX8_startFrom 9 = .ok (.iconst 0, 1) := by decide +kernel
theorem dX8_startFrom_10 : decode cX8_startFrom 10 = .ok (.putfield 25, 3) := by decide +kernel
theorem dX8_startFrom_13 : decode cX8_startFrom 13 = .ok (.aload_n 0, 1) := by decide +kernel
theorem dX8_startFrom_14 : decode cX8_startFrom 14 = .ok (.iconst 0, 1) := by decide +kernel
theorem dX8_startFrom_15 : decode cX8_startFrom 15 = .ok (.putfield 28, 3) := by decide +kernel
theorem dX8_startFrom_18 : decode cX8_startFrom 18 = .ok (.aload_n 1, 1) := by decide +kernel
theorem dX8_startFrom_19 : decode cX8_startFrom 19 = .ok (.getfield 31, 3) := by decide +kernel
theorem dX8_startFrom_22 : decode cX8_startFrom 22 = .ok (.iconst 0, 1) := by decide +kernel
theorem dX8_startFrom_23 : decode cX8_startFrom 23 = .ok (.aload_n 0, 1) := by decide +kernel
theorem dX8_startFrom_24 : decode cX8_startFrom 24 = .ok (.getfield 9, 3) := by decide +kernel
theorem dX8_startFrom_27 : decode cX8_startFrom 27 = .ok (.iconst 0, 1) := by decide +kernel
theorem dX8_startFrom_28 : decode cX8_startFrom 28 = .ok (.bipush 9, 2) := by decide +kernel
theorem dX8_startFrom_30 : decode cX8_startFrom 30 = .ok (.invokestatic 34, 3) := by decide +kernel
theorem dX8_startFrom_33 : decode cX8_startFrom 33 = .ok (.aload_n 1, 1) := by decide +kernel
theorem dX8_startFrom_34 : decode cX8_startFrom 34 = .ok (.getfield 40, 3) := by decide +kernel
theorem dX8_startFrom_37 : decode cX8_startFrom 37 = .ok (.iconst 0, 1) := by decide +kernel
theorem dX8_startFrom_38 : decode cX8_startFrom 38 = .ok (.aload_n 0, 1) := by decide +kernel
theorem dX8_startFrom_39 : decode cX8_startFrom 39 = .ok (.getfield 15, 3) := by decide +kernel
theorem dX8_startFrom_42 : decode cX8_startFrom 42 = .ok (.iconst 0, 1) := by decide +kernel
theorem dX8_startFrom_43 : decode cX8_startFrom 43 = .ok (.bipush 9, 2) := by decide +kernel
theorem dX8_startFrom_45 : decode cX8_startFrom 45 = .ok (.invokestatic 34, 3) := by decide +kernel
theorem dX8_startFrom_48 : decode cX8_startFrom 48 = .ok (.return_, 1) := by decide +kernel
theorem dX8_copyFrom_0 : decode cX8_copyFrom 0 = .ok (.aload_n 0, 1) := by decide +kernel
theorem dX8_copyFrom_1 : decode cX8_copyFrom 1 = .ok (.aload_n 1, 1) := by decide +kernel
theorem dX8_copyFrom_2 : decode cX8_copyFrom 2 = .ok (.getfield 24, 3) := by decide +kernel
theorem dX8_copyFrom_5 : decode cX8_copyFrom 5 = .ok (.putfield 24, 3) := by decide +kernel
theorem dX8_copyFrom_8 : decode cX8_copyFrom 8 = .ok (.aload_n 0, 1) := by decide +kernel
theorem dX8_copyFrom_9 : decode cX8_copyFrom 9 = .ok (.aload_n 1, 1) := by decide +kernel
theorem dX8_copyFrom_10 : decode cX8_copyFrom 10 = .ok (.getfield 25, 3) := by decide +kernel
theorem dX8_copyFrom_13 : decode cX8_copyFrom 13 = .ok (.putfield 25, 3) := by decide +kernel
theorem dX8_copyFrom_16 : decode cX8_copyFrom 16 = .ok (.aload_n 0, 1) := by decide +kernel
theorem dX8_copyFrom_17 : decode cX8_copyFrom 17 = .ok (.aload_n 1, 1) := by decide +kernel
theorem dX8_copyFrom_18 : decode cX8_copyFrom 18 = .ok (.getfield 28, 3) := by decide +kernel
theorem dX8_copyFrom_21 : decode cX8_copyFrom 21 = .ok (.putfield 28, 3) := by decide +kernel
theorem dX8_copyFrom_24 : decode cX8_copyFrom 24 = .ok (.aload_n 1, 1) := by decide +kernel
theorem dX8_copyFrom_25 : decode cX8_copyFrom 25 = .ok (.getfield 9, 3) := by decide +kernel
theorem dX8_copyFrom_28 : decode cX8_copyFrom 28 = .ok (.iconst 0, 1) := by decide +kernel
theorem dX8_copyFrom_29 : decode cX8_copyFrom 29 = .ok (.aload_n 0, 1) := by decide +kernel
theorem dX8_copyFrom_30 : decode cX8_copyFrom 30 = .ok (.getfield 9, 3) := by decide +kernel
theorem dX8_copyFrom_33 : decode cX8_copyFrom 33 = .ok (.iconst 0, 1) := by decide +kernel
theorem dX8_copyFrom_34 : decode cX8_copyFrom 34 = .ok (.bipush 9, 2) := by decide +kernel
theorem dX8_copyFrom_36 : decode cX8_copyFrom 36 = .ok (.invokestatic 34, 3) := by decide +kernel
theorem dX8_copyFrom_39 : decode cX8_copyFrom 39 = .ok (.aload_n 1, 1) := by decide +kernel
theorem dX8_copyFrom_40 : decode cX8_copyFrom 40 = .ok (.getfield 15, 3) := by decide +kernel
theorem dX8_copyFrom_43 : decode cX8_copyFrom 43 = .ok (.iconst 0, 1) := by decide +kernel
theorem dX8_copyFrom_44 : decode cX8_copyFrom 44 = .ok (.aload_n 0, 1) := by decide +kernel
theorem dX8_copyFrom_45 : decode cX8_copyFrom 45 = .ok (.getfield 15, 3) := by decide +kernel
theorem dX8_copyFrom_48 : decode cX8_copyFrom 48 = .ok (.iconst 0, 1) := by decide +kernel
theorem dX8_copyFrom_49 : decode cX8_copyFrom 49 = .ok (.bipush 9, 2) := by decide +kernel
theorem dX8_copyFrom_51 : decode cX8_copyFrom 51 = .ok (.invokestatic 34, 3) := by decide +kernel
theorem dX8_copyFrom_54 : decode cX8_copyFrom 54 = .ok (.return_, 1) := by decide +kernel
theorem dX8_addMeter_0 : decode cX8_addMeter 0 = .ok (.aload_n 0, 1) := by decide +kernel
theorem dX8_addMeter_1 : decode cX8_addMeter 1 = .ok (.getfield 24, 3) := by decide +kernel
theorem dX8_addMeter_4 : decode cX8_addMeter 4 = .ok (.bipush 9, 2) := by decide +kernel
theorem dX8_addMeter_6 : decode cX8_addMeter 6 = .ok (.if_icmp .lt 5, 3) := by decide +kernel
theorem dX8_addMeter_9 : decode cX8_addMeter 9 = .ok (.iconst (-1), 1) := by decide +kernel
theorem dX8_addMeter_10 : decode cX8_addMeter 10 = .ok (.ireturn, 1) := by decide +kernel
theorem dX8_addMeter_11 : decode cX8_addMeter 11 = .ok (.aload_n 0, 1) := by decide +kernel
theorem dX8_addMeter_12 : decode cX8_addMeter 12 = .ok (.getfield 9, 3) := by decide +kernel
theorem dX8_addMeter_15 : decode cX8_addMeter 15 = .ok (.aload_n 0, 1) := by decide +kernel
theorem dX8_addMeter_16 : decode cX8_addMeter 16 = .ok (.getfield 24, 3) := by decide +kernel
theorem dX8_addMeter_19 : decode cX8_addMeter 19 = .ok (.iload_n 1, 1) := by decide +kernel
theorem dX8_addMeter_20 : decode cX8_addMeter 20 = .ok (.iastore, 1) := by decide +kernel
theorem dX8_addMeter_21 : decode cX8_addMeter 21 = .ok (.aload_n 0, 1) := by decide +kernel
theorem dX8_addMeter_22 : decode cX8_addMeter 22 = .ok (.getfield 15, 3) := by decide +kernel
theorem dX8_addMeter_25 : decode cX8_addMeter 25 = .ok (.aload_n 0, 1) := by decide +kernel
theorem dX8_addMeter_26 : decode cX8_addMeter 26 = .ok (.getfield 24, 3) := by decide +kernel
theorem dX8_addMeter_29 : decode cX8_addMeter 29 = .ok (.iload_n 2, 1) := by decide +kernel
theorem dX8_addMeter_30 : decode cX8_addMeter 30 = .ok (.iastore, 1) := by decide +kernel
theorem dX8_addMeter_31 : decode cX8_addMeter 31 = .ok (.aload_n 0, 1) := by decide +kernel
theorem dX8_addMeter_32 : decode cX8_addMeter 32 = .ok (.dup, 1) := by decide +kernel
theorem dX8_addMeter_33 : decode cX8_addMeter 33 = .ok (.getfield 24, 3) := by decide +kernel
theorem dX8_addMeter_36 : decode cX8_addMeter 36 = .ok (.iconst 1, 1) := by decide +kernel
theorem dX8_addMeter_37 : decode cX8_addMeter 37 = .ok (.iadd, 1) := by decide +kernel
theorem dX8_addMeter_38 : decode cX8_addMeter 38 = .ok (.putfield 24, 3) := by decide +kernel
theorem dX8_addMeter_41 : decode cX8_addMeter 41 = .ok (.aload_n 0, 1) := by decide +kernel
theorem dX8_addMeter_42 : decode cX8_addMeter 42 = .ok (.getfield 24, 3) := by decide +kernel
theorem dX8_addMeter_45 : decode cX8_addMeter 45 = .ok (.iconst 1, 1) := by decide +kernel
theorem dX8_addMeter_46 : decode cX8_addMeter 46 = .ok (.isub, 1) := by decide +kernel
theorem dX8_addMeter_47 : decode cX8_addMeter 47 = .ok (.ireturn, 1) := by decide +kernel
theorem dX8_wholeMeters_0 : decode cX8_wholeMeters 0 = .ok (.iconst 1, 1) := by decide +kernel
theorem dX8_wholeMeters_1 : decode cX8_wholeMeters 1 = .ok (.aload_n 0, 1) := by decide +kernel
theorem dX8_wholeMeters_2 : decode cX8_wholeMeters 2 = .ok (.getfield 24, 3) := by decide +kernel
theorem dX8_wholeMeters_5 : decode cX8_wholeMeters 5 = .ok (.ishl, 1) := by decide +kernel
theorem dX8_wholeMeters_6 : decode cX8_wholeMeters 6 = .ok (.iconst 1, 1) := by decide +kernel
theorem dX8_wholeMeters_7 : decode cX8_wholeMeters 7 = .ok (.isub, 1) := by decide +kernel
theorem dX8_wholeMeters_8 : decode cX8_wholeMeters 8 = .ok (.aload_n 0, 1) := by decide +kernel
theorem dX8_wholeMeters_9 : decode cX8_wholeMeters 9 = .ok (.getfield 25, 3) := by decide +kernel
theorem dX8_wholeMeters_12 : decode cX8_wholeMeters 12 = .ok (.iconst (-1), 1) := by decide +kernel
theorem dX8_wholeMeters_13 : decode cX8_wholeMeters 13 = .ok (.ixor, 1) := by decide +kernel
theorem dX8_wholeMeters_14 : decode cX8_wholeMeters 14 = .ok (.iand, 1) := by decide +kernel
theorem dX8_wholeMeters_15 : decode cX8_wholeMeters 15 = .ok (.ireturn, 1) := by decide +kernel
theorem kfX8_18 : ux_FL RX8 18 3 2 := ⟨RX3, TX3, 11, rfl, lay_X3, by decide, tw_115⟩
theorem kpX8_24 : ux_FP RX8 24 8 0 .int := ⟨RX8, TX8, 5, rfl, lay_X8, by decide, tw_204, tyX8, tyX8_ok, nmX8, rfl, by decide +kernel⟩
theorem kpX8_25 : ux_FP RX8 25 8 1 .int := ⟨RX8, TX8, 5, rfl, lay_X8, by decide, tw_208, tyX8, tyX8_ok, nmX8, rfl, by decide +kernel⟩
theorem kpX8_28 : ux_FP RX8 28 8 2 .int := ⟨RX8, TX8, 5, rfl, lay_X8, by decide, tw_212, tyX8, tyX8_ok, nmX8, rfl, by decide +kernel⟩
theorem kfX8_31 : ux_FL RX8 31 3 6 := ⟨RX3, TX3, 11, rfl, lay_X3, by decide, tw_129⟩
theorem kfX8_9 : ux_FL RX8 9 8 3 := ⟨RX8, TX8, 5, rfl, lay_X8, by decide, tw_216⟩
theorem kaX8_34 : ux_LA RX8 34 := ⟨tw_725, tw_464, tw_463, tw_85⟩
theorem kfX8_40 : ux_FL RX8 40 3 7 := ⟨RX3, TX3, 11, rfl, lay_X3, by decide, tw_131⟩
theorem kfX8_15 : ux_FL RX8 15 8 4 := ⟨RX8, TX8, 5, rfl, lay_X8, by decide, tw_219⟩
theorem kfX8_24 : ux_FL RX8 24 8 0 := ⟨RX8, TX8, 5, rfl, lay_X8, by decide, tw_204⟩
theorem kfX8_25 : ux_FL RX8 25 8 1 := ⟨RX8, TX8, 5, rfl, lay_X8, by decide, tw_208⟩
theorem kfX8_28 : ux_FL RX8 28 8 2 := ⟨RX8, TX8, 5, rfl, lay_X8, by decide, tw_212⟩
def fX8_startFrom (c0 : Nat) (c1 : Nat) (N : ux_N) : Option (ux_N) :=
  some (ux_cpN (ux_cpN (ux_u (ux_u (ux_u N c0 0 (N c1 2)) c0 1 (0 : Int32)) c0 2 (0 : Int32)) (c1 + 3) (c0 + 1) 0 0 9) (c1 + 4) (c0 + 2) 0 0 9)
set_option maxHeartbeats 4000000 in
set_option maxRecDepth 20000 in
theorem wX8_startFrom {X : ux_X} (C : ux_C X cX8_startFrom RX8 2 none 1 60 shC) {c0 : Nat} {c1 : Nat} (p0 : is_X8 c0) (p1 : is_X3 c1) {N : ux_N} {L : ux_L} {o : ux_N} (hq : ux_Qv X o L) (h : fX8_startFrom c0 c1 N = some o) : ux_Wt X 2 0 [(0, .ref (ux_ad X c0)), (1, .ref (ux_ad X c1))] [] N L := by
  refine wt_aload_n 1 0 C dX8_startFrom_0 rfl rfl ?_
  refine wt_aload_n 2 1 C dX8_startFrom_1 rfl rfl ?_
  refine wt_getI 5 C kfX8_18 (p1).1 rfl dX8_startFrom_2 rfl ?_
  refine wt_putI 8 C kpX8_24 (p0).1 rfl rfl rfl dX8_startFrom_5 rfl ?_
  refine wt_aload_n 9 0 C dX8_startFrom_8 rfl rfl ?_
  refine wt_iconst 10 0 C dX8_startFrom_9 rfl (by decide) ?_
  refine wt_putI 13 C kpX8_25 (p0).1 rfl rfl rfl dX8_startFrom_10 rfl ?_
  refine wt_aload_n 14 0 C dX8_startFrom_13 rfl rfl ?_
  refine wt_iconst 15 0 C dX8_startFrom_14 rfl (by decide) ?_
  refine wt_putI 18 C kpX8_28 (p0).1 rfl rfl rfl dX8_startFrom_15 rfl ?_
  refine wt_aload_n 19 1 C dX8_startFrom_18 rfl rfl ?_
  refine wt_getR 22 C kfX8_31 (p1).1 rfl dX8_startFrom_19 rfl ?_
  refine wt_iconst 23 0 C dX8_startFrom_22 rfl (by decide) ?_
  refine wt_aload_n 24 0 C dX8_startFrom_23 rfl rfl ?_
  refine wt_getR 27 C kfX8_9 (p0).1 rfl dX8_startFrom_24 rfl ?_
  refine wt_iconst 28 0 C dX8_startFrom_27 rfl (by decide) ?_
  refine wt_bipush 30 9 C dX8_startFrom_28 rfl (by decide) ?_
  refine wt_copyI 33 0 0 9 C kaX8_34 (p1).2.2.2.1 (p0).2.1 (by decide) (by decide) (by decide) (by decide) (by decide) (by decide) (by decide) (by decide) (by decide) (Nat.le_of_ble_eq_true rfl) dX8_startFrom_30 rfl ?_
  refine wt_aload_n 34 1 C dX8_startFrom_33 rfl rfl ?_
  refine wt_getR 37 C kfX8_40 (p1).1 rfl dX8_startFrom_34 rfl ?_
  refine wt_iconst 38 0 C dX8_startFrom_37 rfl (by decide) ?_
  refine wt_aload_n 39 0 C dX8_startFrom_38 rfl rfl ?_
  refine wt_getR 42 C kfX8_15 (p0).1 rfl dX8_startFrom_39 rfl ?_
  refine wt_iconst 43 0 C dX8_startFrom_42 rfl (by decide) ?_
  refine wt_bipush 45 9 C dX8_startFrom_43 rfl (by decide) ?_
  refine wt_copyI 48 0 0 9 C kaX8_34 (p1).2.2.2.2.1 (p0).2.2 (by decide) (by decide) (by decide) (by decide) (by decide) (by decide) (by decide) (by decide) (by decide) (Nat.le_of_ble_eq_true rfl) dX8_startFrom_45 rfl ?_
  cases h
  exact wt_vret C hq dX8_startFrom_48
theorem mX8_startFrom {l : Launch} {G : ux_G} (hok : ux_ok G shC) {c0 : Nat} {c1 : Nat} (p0 : is_X8 c0) (p1 : is_X3 c1) {N : ux_N} {L : ux_L} {o : ux_N} (h : fX8_startFrom c0 c1 N = some o) : ux_Mv l G yX8_startFrom cX8_startFrom 2 1 60 [.ref (gad G c0), .ref (gad G c1)] N L o L :=
  ux_ofv shC hok (by decide +kernel) (Nat.le_of_ble_eq_true rfl) (fun X hG hl C hq => by subst hG; subst hl; exact wX8_startFrom C p0 p1 hq h)
def fX8_copyFrom_39 (c0 : Nat) (c1 : Nat) (N : ux_N) : Option (ux_N) :=
  some (ux_cpN N (c1 + 2) (c0 + 2) 0 0 9)
set_option maxHeartbeats 4000000 in
set_option maxRecDepth 20000 in
theorem wX8_copyFrom_39 {X : ux_X} (C : ux_C X cX8_copyFrom RX8 2 none 1 60 shC) {c0 : Nat} {c1 : Nat} (p0 : is_X8 c0) (p1 : is_X8 c1) {N : ux_N} {L : ux_L} {o : ux_N} (hq : ux_Qv X o L) (h : fX8_copyFrom_39 c0 c1 N = some o) : ux_Wt X 2 39 [(0, .ref (ux_ad X c0)), (1, .ref (ux_ad X c1))] [] N L := by
  refine wt_aload_n 40 1 C dX8_copyFrom_39 rfl rfl ?_
  refine wt_getR 43 C kfX8_15 (p1).1 rfl dX8_copyFrom_40 rfl ?_
  refine wt_iconst 44 0 C dX8_copyFrom_43 rfl (by decide) ?_
  refine wt_aload_n 45 0 C dX8_copyFrom_44 rfl rfl ?_
  refine wt_getR 48 C kfX8_15 (p0).1 rfl dX8_copyFrom_45 rfl ?_
  refine wt_iconst 49 0 C dX8_copyFrom_48 rfl (by decide) ?_
  refine wt_bipush 51 9 C dX8_copyFrom_49 rfl (by decide) ?_
  refine wt_copyI 54 0 0 9 C kaX8_34 (p1).2.2 (p0).2.2 (by decide) (by decide) (by decide) (by decide) (by decide) (by decide) (by decide) (by decide) (by decide) (Nat.le_of_ble_eq_true rfl) dX8_copyFrom_51 rfl ?_
  cases h
  exact wt_vret C hq dX8_copyFrom_54
def fX8_copyFrom (c0 : Nat) (c1 : Nat) (N : ux_N) : Option (ux_N) :=
  fX8_copyFrom_39 c0 c1 (ux_cpN (ux_u (ux_u (ux_u N c0 0 (N c1 0)) c0 1 ((ux_u N c0 0 (N c1 0)) c1 1)) c0 2 ((ux_u (ux_u N c0 0 (N c1 0)) c0 1 ((ux_u N c0 0 (N c1 0)) c1 1)) c1 2)) (c1 + 1) (c0 + 1) 0 0 9)
set_option maxHeartbeats 4000000 in
set_option maxRecDepth 20000 in
theorem wX8_copyFrom {X : ux_X} (C : ux_C X cX8_copyFrom RX8 2 none 1 60 shC) {c0 : Nat} {c1 : Nat} (p0 : is_X8 c0) (p1 : is_X8 c1) {N : ux_N} {L : ux_L} {o : ux_N} (hq : ux_Qv X o L) (h : fX8_copyFrom c0 c1 N = some o) : ux_Wt X 2 0 [(0, .ref (ux_ad X c0)), (1, .ref (ux_ad X c1))] [] N L := by
  refine wt_aload_n 1 0 C dX8_copyFrom_0 rfl rfl ?_
  refine wt_aload_n 2 1 C dX8_copyFrom_1 rfl rfl ?_
  refine wt_getI 5 C kfX8_24 (p1).1 rfl dX8_copyFrom_2 rfl ?_
  refine wt_putI 8 C kpX8_24 (p0).1 rfl rfl rfl dX8_copyFrom_5 rfl ?_
  refine wt_aload_n 9 0 C dX8_copyFrom_8 rfl rfl ?_
  refine wt_aload_n 10 1 C dX8_copyFrom_9 rfl rfl ?_
  refine wt_getI 13 C kfX8_25 (p1).1 rfl dX8_copyFrom_10 rfl ?_
  refine wt_putI 16 C kpX8_25 (p0).1 rfl rfl rfl dX8_copyFrom_13 rfl ?_
  refine wt_aload_n 17 0 C dX8_copyFrom_16 rfl rfl ?_
  refine wt_aload_n 18 1 C dX8_copyFrom_17 rfl rfl ?_
  refine wt_getI 21 C kfX8_28 (p1).1 rfl dX8_copyFrom_18 rfl ?_
  refine wt_putI 24 C kpX8_28 (p0).1 rfl rfl rfl dX8_copyFrom_21 rfl ?_
  refine wt_aload_n 25 1 C dX8_copyFrom_24 rfl rfl ?_
  refine wt_getR 28 C kfX8_9 (p1).1 rfl dX8_copyFrom_25 rfl ?_
  refine wt_iconst 29 0 C dX8_copyFrom_28 rfl (by decide) ?_
  refine wt_aload_n 30 0 C dX8_copyFrom_29 rfl rfl ?_
  refine wt_getR 33 C kfX8_9 (p0).1 rfl dX8_copyFrom_30 rfl ?_
  refine wt_iconst 34 0 C dX8_copyFrom_33 rfl (by decide) ?_
  refine wt_bipush 36 9 C dX8_copyFrom_34 rfl (by decide) ?_
  refine wt_copyI 39 0 0 9 C kaX8_34 (p1).2.1 (p0).2.1 (by decide) (by decide) (by decide) (by decide) (by decide) (by decide) (by decide) (by decide) (by decide) (Nat.le_of_ble_eq_true rfl) dX8_copyFrom_36 rfl ?_
  exact wX8_copyFrom_39 C p0 p1 hq h
theorem mX8_copyFrom {l : Launch} {G : ux_G} (hok : ux_ok G shC) {c0 : Nat} {c1 : Nat} (p0 : is_X8 c0) (p1 : is_X8 c1) {N : ux_N} {L : ux_L} {o : ux_N} (h : fX8_copyFrom c0 c1 N = some o) : ux_Mv l G yX8_copyFrom cX8_copyFrom 2 1 60 [.ref (gad G c0), .ref (gad G c1)] N L o L :=
  ux_ofv shC hok (by decide +kernel) (Nat.le_of_ble_eq_true rfl) (fun X hG hl C hq => by subst hG; subst hl; exact wX8_copyFrom C p0 p1 hq h)
def fX8_addMeter_41 (c0 : Nat) (N : ux_N) : Option (Int32 × ux_N) :=
  some (((N c0 0) - (1 : Int32)), N)
set_option maxHeartbeats 4000000 in
set_option maxRecDepth 20000 in
theorem wX8_addMeter_41 {X : ux_X} (C : ux_C X cX8_addMeter RX8 3 (some .int) 0 0 shC) {c0 : Nat} (p0 : is_X8 c0) {N : ux_N} {L : ux_L} {o : Int32 × ux_N} (hq : ux_Qi X o.1 o.2 L) (h : fX8_addMeter_41 c0 N = some o) : ux_Wt X 3 41 [(0, .ref (ux_ad X c0))] [] N L := by
  refine wt_aload_n 42 0 C dX8_addMeter_41 rfl rfl ?_
  refine wt_getI 45 C kfX8_24 (p0).1 rfl dX8_addMeter_42 rfl ?_
  refine wt_iconst 46 1 C dX8_addMeter_45 rfl (by decide) ?_
  refine wt_isub 47 C dX8_addMeter_46 rfl ?_
  cases h
  exact wt_iret C hq dX8_addMeter_47
def fX8_addMeter (c0 : Nat) (v1 : Int32) (v2 : Int32) (N : ux_N) : Option (Int32 × ux_N) :=
  if (N c0 0) < (9 : Int32) then (if ux_in (N c0 0) 9 then (if ux_in ((ux_u N (c0 + 1) ((N c0 0).toNatClampNeg) v1) c0 0) 9 then (fX8_addMeter_41 c0 (ux_u (ux_u (ux_u N (c0 + 1) ((N c0 0).toNatClampNeg) v1) (c0 + 2) (((ux_u N (c0 + 1) ((N c0 0).toNatClampNeg) v1) c0 0).toNatClampNeg) v2) c0 0 (((ux_u (ux_u N (c0 + 1) ((N c0 0).toNatClampNeg) v1) (c0 + 2) (((ux_u N (c0 + 1) ((N c0 0).toNatClampNeg) v1) c0 0).toNatClampNeg) v2) c0 0) + (1 : Int32)))) else none) else none) else (some ((-1 : Int32), N))
set_option maxHeartbeats 4000000 in
set_option maxRecDepth 20000 in
theorem wX8_addMeter {X : ux_X} (C : ux_C X cX8_addMeter RX8 3 (some .int) 0 0 shC) {c0 : Nat} {v1 : Int32} {v2 : Int32} (p0 : is_X8 c0) {N : ux_N} {L : ux_L} {o : Int32 × ux_N} (hq : ux_Qi X o.1 o.2 L) (h : fX8_addMeter c0 v1 v2 N = some o) : ux_Wt X 3 0 [(0, .ref (ux_ad X c0)), (1, .int v1), (2, .int v2)] [] N L := by
  refine wt_aload_n 1 0 C dX8_addMeter_0 rfl rfl ?_
  refine wt_getI 4 C kfX8_24 (p0).1 rfl dX8_addMeter_1 rfl ?_
  refine wt_bipush 6 9 C dX8_addMeter_4 rfl (by decide) ?_
  refine wt_icmp_lt 9 11 C dX8_addMeter_6 rfl (by decide) (fun q1 => ?_) (fun q1 => ?_)
  · have h := (if_pos q1).symm.trans h
    refine wt_aload_n 12 0 C dX8_addMeter_11 rfl rfl ?_
    refine wt_getR 15 C kfX8_9 (p0).1 rfl dX8_addMeter_12 rfl ?_
    refine wt_aload_n 16 0 C dX8_addMeter_15 rfl rfl ?_
    refine wt_getI 19 C kfX8_24 (p0).1 rfl dX8_addMeter_16 rfl ?_
    refine wt_iload_n 20 1 C dX8_addMeter_19 rfl rfl ?_
    obtain ⟨hi2, h⟩ := ux_guard h
    refine wt_iast 21 ((N c0 0).toNatClampNeg) C (p0).2.1 rfl hi2 dX8_addMeter_20 rfl ?_
    refine wt_aload_n 22 0 C dX8_addMeter_21 rfl rfl ?_
    refine wt_getR 25 C kfX8_15 (p0).1 rfl dX8_addMeter_22 rfl ?_
    refine wt_aload_n 26 0 C dX8_addMeter_25 rfl rfl ?_
    refine wt_getI 29 C kfX8_24 (p0).1 rfl dX8_addMeter_26 rfl ?_
    refine wt_iload_n 30 2 C dX8_addMeter_29 rfl rfl ?_
    obtain ⟨hi3, h⟩ := ux_guard h
    refine wt_iast 31 (((ux_u N (c0 + 1) ((N c0 0).toNatClampNeg) v1) c0 0).toNatClampNeg) C (p0).2.2 rfl hi3 dX8_addMeter_30 rfl ?_
    refine wt_aload_n 32 0 C dX8_addMeter_31 rfl rfl ?_
    refine wt_dup 33 C dX8_addMeter_32 rfl rfl ?_
    refine wt_getI 36 C kfX8_24 (p0).1 rfl dX8_addMeter_33 rfl ?_
    refine wt_iconst 37 1 C dX8_addMeter_36 rfl (by decide) ?_
    refine wt_iadd 38 C dX8_addMeter_37 rfl ?_
    refine wt_putI 41 C kpX8_24 (p0).1 rfl rfl rfl dX8_addMeter_38 rfl ?_
    refine wt_sub [0] rfl ?_
    exact wX8_addMeter_41 C p0 hq h
  · have h := (if_neg q1).symm.trans h
    refine wt_iconst 10 (-1) C dX8_addMeter_9 rfl (by decide) ?_
    cases h
    exact wt_iret C hq dX8_addMeter_10
theorem mX8_addMeter {l : Launch} {G : ux_G} (hok : ux_ok G shC) {c0 : Nat} {v1 : Int32} {v2 : Int32} (p0 : is_X8 c0) {N : ux_N} {L : ux_L} {o : Int32 × ux_N} (h : fX8_addMeter c0 v1 v2 N = some o) : ux_Mi l G yX8_addMeter cX8_addMeter 3 (some .int) 0 0 [.ref (gad G c0), .int v1, .int v2] N L o.1 o.2 L :=
  ux_ofi shC hok (by decide +kernel) (Nat.le_of_ble_eq_true rfl) (fun X hG hl C hq => by subst hG; subst hl; exact wX8_addMeter C p0 hq h)
def fX8_wholeMeters (c0 : Nat) (N : ux_N) : Option (Int32) :=
  some ((((1 : Int32) <<< ((N c0 0) &&& 31)) - (1 : Int32)) &&& ((N c0 1) ^^^ (-1 : Int32)))
set_option maxHeartbeats 4000000 in
set_option maxRecDepth 20000 in
theorem wX8_wholeMeters {X : ux_X} (C : ux_C X cX8_wholeMeters RX8 1 (some .int) 0 0 shC) {c0 : Nat} (p0 : is_X8 c0) {N : ux_N} {L : ux_L} {o : Int32} (hq : ux_Qi X o N L) (h : fX8_wholeMeters c0 N = some o) : ux_Wt X 1 0 [(0, .ref (ux_ad X c0))] [] N L := by
  refine wt_iconst 1 1 C dX8_wholeMeters_0 rfl (by decide) ?_
  refine wt_aload_n 2 0 C dX8_wholeMeters_1 rfl rfl ?_
  refine wt_getI 5 C kfX8_24 (p0).1 rfl dX8_wholeMeters_2 rfl ?_
  refine wt_ishl 6 C dX8_wholeMeters_5 rfl ?_
  refine wt_iconst 7 1 C dX8_wholeMeters_6 rfl (by decide) ?_
  refine wt_isub 8 C dX8_wholeMeters_7 rfl ?_
  refine wt_aload_n 9 0 C dX8_wholeMeters_8 rfl rfl ?_
  refine wt_getI 12 C kfX8_25 (p0).1 rfl dX8_wholeMeters_9 rfl ?_
  refine wt_iconst 13 (-1) C dX8_wholeMeters_12 rfl (by decide) ?_
  refine wt_ixor 14 C dX8_wholeMeters_13 rfl ?_
  refine wt_iand 15 C dX8_wholeMeters_14 rfl ?_
  cases h
  exact wt_iret C hq dX8_wholeMeters_15
theorem mX8_wholeMeters {l : Launch} {G : ux_G} (hok : ux_ok G shC) {c0 : Nat} (p0 : is_X8 c0) {N : ux_N} {L : ux_L} {o : Int32} (h : fX8_wholeMeters c0 N = some o) : ux_Mi l G yX8_wholeMeters cX8_wholeMeters 1 (some .int) 0 0 [.ref (gad G c0)] N L o N L :=
  ux_ofi shC hok (by decide +kernel) (Nat.le_of_ble_eq_true rfl) (fun X hG hl C hq => by subst hG; subst hl; exact wX8_wholeMeters C p0 hq h)
