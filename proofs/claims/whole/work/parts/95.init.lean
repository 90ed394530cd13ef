/-! constructors -/
theorem mk_all0 {P : Nat → Prop} : ∀ j, j < 0 → P j := fun j h => absurd h (Nat.not_lt_zero j)
theorem mk_alls {P : Nat → Prop} {n : Nat} (h : ∀ j, j < n → P j) (h' : P n) : ∀ j, j < n + 1 → P j := by
  intro j hj
  by_cases hn : j = n
  · rw [hn]; exact h'
  · exact h j (by omega)
theorem mk_vV {ad : Nat → Nat} {f : Nat → Int32} {fs : List (Option (Option Nat))} {j : Nat} {o : Option (Option Nat)} (h : fs[j]? = some o) : vp_V (fs.mapIdx (mk_v ad f)) j = mk_v ad f j o := by
  unfold vp_V
  rw [List.getD_eq_getElem?_getD, List.getElem?_mapIdx, h]
  rfl
theorem mk_vD {ad : Nat → Nat} {f : Nat → Int32} {fs : List (Option (Option Nat))} {j : Nat} {o : Option (Option Nat)} {x : Value} (h : fs[j]? = some o) (h2 : x = mk_v ad f j o) : x = vp_V (fs.mapIdx (mk_v ad f)) j := h2.trans (mk_vV h).symm
theorem dX0_init_0 : decode cX0_init 0 = .ok (.aload_n 0, 1) := by decide +kernel
theorem dX0_init_1 : decode cX0_init 1 = .ok (.invokespecial 3, 3) := by decide +kernel
theorem dX0_init_4 : decode cX0_init 4 = .ok (.aload_n 0, 1) := by decide +kernel
theorem dX0_init_5 : decode cX0_init 5 = .ok (.bipush 16, 2) := by decide +kernel
theorem dX0_init_7 : decode cX0_init 7 = .ok (.newarray .long, 2) := by decide +kernel
theorem dX0_init_9 : decode cX0_init 9 = .ok (.putfield 11, 3) := by decide +kernel
theorem dX0_init_12 : decode cX0_init 12 = .ok (.aload_n 0, 1) := by decide +kernel
theorem dX0_init_13 : decode cX0_init 13 = .ok (.bipush 16, 2) := by decide +kernel
theorem dX0_init_15 : decode cX0_init 15 = .ok (.newarray .long, 2) := by decide +kernel
theorem dX0_init_17 : decode cX0_init 17 = .ok (.putfield 15, 3) := by decide +kernel
theorem dX0_init_20 : decode cX0_init 20 = .ok (.return_, 1) := by decide +kernel
theorem dX2_init_0 : decode cX2_init 0 = .ok (.aload_n 0, 1) := by decide +kernel
theorem dX2_init_1 : decode cX2_init 1 = .ok (.invokespecial 3, 3) := by decide +kernel
theorem dX2_init_4 : decode cX2_init 4 = .ok (.aload_n 0, 1) := by decide +kernel
theorem dX2_init_5 : decode cX2_init 5 = .ok (.bipush 8, 2) := by decide +kernel
theorem dX2_init_7 : decode cX2_init 7 = .ok (.newarray .int, 2) := by decide +kernel
theorem dX2_init_9 : decode cX2_init 9 = .ok (.putfield 9, 3) := by decide +kernel
theorem dX2_init_12 : decode cX2_init 12 = .ok (.return_, 1) := by decide +kernel
theorem dX3_init_0 : decode cX3_init 0 = .ok (.aload_n 0, 1) := by decide +kernel
theorem dX3_init_1 : decode cX3_init 1 = .ok (.invokespecial 3, 3) := by decide +kernel
theorem dX3_init_4 : decode cX3_init 4 = .ok (.aload_n 0, 1) := by decide +kernel
theorem dX3_init_5 : decode cX3_init 5 = .ok (.iconst 3, 1) := by decide +kernel
theorem dX3_init_6 : decode cX3_init 6 = .ok (.putfield 9, 3) := by decide +kernel
theorem dX3_init_9 : decode cX3_init 9 = .ok (.aload_n 0, 1) := by decide +kernel
theorem dX3_init_10 : decode cX3_init 10 = .ok (.bipush 10, 2) := by decide +kernel
theorem dX3_init_12 : decode cX3_init 12 = .ok (.newarray .int, 2) := by decide +kernel
theorem dX3_init_14 : decode cX3_init 14 = .ok (.putfield 15, 3) := by decide +kernel
theorem dX3_init_17 : decode cX3_init 17 = .ok (.aload_n 0, 1) := by decide +kernel
theorem dX3_init_18 : decode cX3_init 18 = .ok (.bipush 10, 2) := by decide +kernel
theorem dX3_init_20 : decode cX3_init 20 = .ok (.newarray .int, 2) := by decide +kernel
theorem dX3_init_22 : decode cX3_init 22 = .ok (.putfield 19, 3) := by decide +kernel
theorem dX3_init_25 : decode cX3_init 25 = .ok (.aload_n 0, 1) := by decide +kernel
theorem dX3_init_26 : decode cX3_init 26 = .ok (.bipush 9, 2) := by decide +kernel
theorem dX3_init_28 : decode cX3_init 28 = .ok (.newarray .int, 2) := by decide +kernel
theorem dX3_init_30 : decode cX3_init 30 = .ok (.putfield 22, 3) := by decide +kernel
theorem dX3_init_33 : decode cX3_init 33 = .ok (.aload_n 0, 1) := by decide +kernel
theorem dX3_init_34 : decode cX3_init 34 = .ok (.bipush 9, 2) := by decide +kernel
theorem dX3_init_36 : decode cX3_init 36 = .ok (.newarray .int, 2) := by decide +kernel
theorem dX3_init_38 : decode cX3_init 38 = .ok (.putfield 25, 3) := by decide +kernel
theorem dX3_init_41 : decode cX3_init 41 = .ok (.aload_n 0, 1) := by decide +kernel
theorem dX3_init_42 : decode cX3_init 42 = .ok (.bipush 6, 2) := by decide +kernel
theorem dX3_init_44 : decode cX3_init 44 = .ok (.newarray .int, 2) := by decide +kernel
theorem dX3_init_46 : decode cX3_init 46 = .ok (.putfield 28, 3) := by decide +kernel
theorem dX3_init_49 : decode cX3_init 49 = .ok (.aload_n 0, 1) := by decide +kernel
theorem dX3_init_50 : decode cX3_init 50 = .ok (.bipush 6, 2) := by decide +kernel
theorem dX3_init_52 : decode cX3_init 52 = .ok (.newarray .int, 2) := by decide +kernel
theorem dX3_init_54 : decode cX3_init 54 = .ok (.putfield 31, 3) := by decide +kernel
theorem dX3_init_57 : decode cX3_init 57 = .ok (.aload_n 0, 1) := by decide +kernel
theorem dX3_init_58 : decode cX3_init 58 = .ok (.bipush 6, 2) := by decide +kernel
theorem dX3_init_60 : decode cX3_init 60 = .ok (.newarray .int, 2) := by decide +kernel
theorem dX3_init_62 : decode cX3_init 62 = .ok (.putfield 34, 3) := by decide +kernel
theorem dX3_init_65 : decode cX3_init 65 = .ok (.return_, 1) := by decide +kernel
theorem dX8_init_0 : decode cX8_init 0 = .ok (.aload_n 0, 1) := by decide +kernel
theorem dX8_init_1 : decode cX8_init 1 = .ok (.invokespecial 3, 3) := by decide +kernel
theorem dX8_init_4 : decode cX8_init 4 = .ok (.aload_n 0, 1) := by decide +kernel
theorem dX8_init_5 : decode cX8_init 5 = .ok (.bipush 9, 2) := by decide +kernel
theorem dX8_init_7 : decode cX8_init 7 = .ok (.newarray .int, 2) := by decide +kernel
theorem dX8_init_9 : decode cX8_init 9 = .ok (.putfield 9, 3) := by decide +kernel
theorem dX8_init_12 : decode cX8_init 12 = .ok (.aload_n 0, 1) := by decide +kernel
theorem dX8_init_13 : decode cX8_init 13 = .ok (.bipush 9, 2) := by decide +kernel
theorem dX8_init_15 : decode cX8_init 15 = .ok (.newarray .int, 2) := by decide +kernel
theorem dX8_init_17 : decode cX8_init 17 = .ok (.putfield 15, 3) := by decide +kernel
theorem dX8_init_20 : decode cX8_init 20 = .ok (.return_, 1) := by decide +kernel
theorem dX9_init_0 : decode cX9_init 0 = .ok (.aload_n 0, 1) := by decide +kernel
theorem dX9_init_1 : decode cX9_init 1 = .ok (.invokespecial 3, 3) := by decide +kernel
theorem dX9_init_4 : decode cX9_init 4 = .ok (.aload_n 0, 1) := by decide +kernel
theorem dX9_init_5 : decode cX9_init 5 = .ok (.bipush 8, 2) := by decide +kernel
theorem dX9_init_7 : decode cX9_init 7 = .ok (.newarray .int, 2) := by decide +kernel
theorem dX9_init_9 : decode cX9_init 9 = .ok (.putfield 9, 3) := by decide +kernel
theorem dX9_init_12 : decode cX9_init 12 = .ok (.aload_n 0, 1) := by decide +kernel
theorem dX9_init_13 : decode cX9_init 13 = .ok (.bipush 8, 2) := by decide +kernel
theorem dX9_init_15 : decode cX9_init 15 = .ok (.newarray .int, 2) := by decide +kernel
theorem dX9_init_17 : decode cX9_init 17 = .ok (.putfield 15, 3) := by decide +kernel
theorem dX9_init_20 : decode cX9_init 20 = .ok (.return_, 1) := by decide +kernel
theorem tw_263 : ((Jvm.Cond.methodLink "MeterDesk$Family" (3 : Nat) ({ cls := "java/lang/Object", name := "<init>", desc := "()V" } : Jvm.MethodName))) ∈ lw_gt := gt_of 263 (by decide +kernel) (by decide +kernel)
theorem tw_99 : ((Jvm.Cond.instanceMethod ({ cls := "java/lang/Object", name := "<init>", desc := "()V" } : Jvm.MethodName))) ∈ lw_gt := gt_of 99 (by decide +kernel) (by decide +kernel)
theorem tw_100 : (Cond.code Lib.objectInit ⟨#[0xb1]⟩ 1 none) ∈ lw_gt := gt_of 100 (by decide +kernel) (by decide +kernel)
theorem tw_271 : ((Jvm.Cond.arrayClass Jvm.ClassFile.FieldType.long)) ∈ lw_gt := gt_of 271 (by decide +kernel) (by decide +kernel)
theorem tw_295 : ((Jvm.Cond.methodLink "MeterDesk$Parts" (3 : Nat) ({ cls := "java/lang/Object", name := "<init>", desc := "()V" } : Jvm.MethodName))) ∈ lw_gt := gt_of 295 (by decide +kernel) (by decide +kernel)
theorem tw_163 : ((Jvm.Cond.arrayClass Jvm.ClassFile.FieldType.int)) ∈ lw_gt := gt_of 163 (by decide +kernel) (by decide +kernel)
theorem tw_106 : ((Jvm.Cond.methodLink "MeterDesk$Plan" (3 : Nat) ({ cls := "java/lang/Object", name := "<init>", desc := "()V" } : Jvm.MethodName))) ∈ lw_gt := gt_of 106 (by decide +kernel) (by decide +kernel)
theorem tw_203 : ((Jvm.Cond.methodLink "MeterDesk$Standing" (3 : Nat) ({ cls := "java/lang/Object", name := "<init>", desc := "()V" } : Jvm.MethodName))) ∈ lw_gt := gt_of 203 (by decide +kernel) (by decide +kernel)
theorem tw_407 : ((Jvm.Cond.methodLink "MeterDesk$Tray" (3 : Nat) ({ cls := "java/lang/Object", name := "<init>", desc := "()V" } : Jvm.MethodName))) ∈ lw_gt := gt_of 407 (by decide +kernel) (by decide +kernel)
theorem mlX0 : mk_L 0 2 RX0 TX0 tyX0 := ⟨rfl, lay_X0, tyX0_ok, nmX0⟩
theorem mfX0 (ad : Nat → Nat) : ∀ j, j < 2 → defaultValue (tyX0 j) = vp_V (([some none, some none] : List (Option (Option Nat))).mapIdx (mk_v ad (fun _ => 0))) j := by
  refine mk_alls ?_ (mk_vD (o := some none) rfl rfl)
  refine mk_alls ?_ (mk_vD (o := some none) rfl rfl)
  exact mk_all0
theorem mlX1 : mk_L 1 3 RX1 TX1 tyX1 := ⟨rfl, lay_X1, tyX1_ok, nmX1⟩
theorem mfX1 (ad : Nat → Nat) : ∀ j, j < 3 → defaultValue (tyX1 j) = vp_V (([none, some none, some none] : List (Option (Option Nat))).mapIdx (mk_v ad (fun _ => 0))) j := by
  refine mk_alls ?_ (mk_vD (o := some none) rfl rfl)
  refine mk_alls ?_ (mk_vD (o := some none) rfl rfl)
  refine mk_alls ?_ (mk_vD (o := none) rfl rfl)
  exact mk_all0
theorem mlX2 : mk_L 2 1 RX2 TX2 tyX2 := ⟨rfl, lay_X2, tyX2_ok, nmX2⟩
theorem mfX2 (ad : Nat → Nat) : ∀ j, j < 1 → defaultValue (tyX2 j) = vp_V (([some none] : List (Option (Option Nat))).mapIdx (mk_v ad (fun _ => 0))) j := by
  refine mk_alls ?_ (mk_vD (o := some none) rfl rfl)
  exact mk_all0
theorem mlX3 : mk_L 3 11 RX3 TX3 tyX3 := ⟨rfl, lay_X3, tyX3_ok, nmX3⟩
theorem mfX3 (ad : Nat → Nat) : ∀ j, j < 11 → defaultValue (tyX3 j) = vp_V (([none, none, none, none, some none, some none, some none, some none, some none, some none, some none] : List (Option (Option Nat))).mapIdx (mk_v ad (fun _ => 0))) j := by
  refine mk_alls ?_ (mk_vD (o := some none) rfl rfl)
  refine mk_alls ?_ (mk_vD (o := some none) rfl rfl)
  refine mk_alls ?_ (mk_vD (o := some none) rfl rfl)
  refine mk_alls ?_ (mk_vD (o := some none) rfl rfl)
  refine mk_alls ?_ (mk_vD (o := some none) rfl rfl)
  refine mk_alls ?_ (mk_vD (o := some none) rfl rfl)
  refine mk_alls ?_ (mk_vD (o := some none) rfl rfl)
  refine mk_alls ?_ (mk_vD (o := none) rfl rfl)
  refine mk_alls ?_ (mk_vD (o := none) rfl rfl)
  refine mk_alls ?_ (mk_vD (o := none) rfl rfl)
  refine mk_alls ?_ (mk_vD (o := none) rfl rfl)
  exact mk_all0
theorem mlX4 : mk_L 4 7 RX4 TX4 tyX4 := ⟨rfl, lay_X4, tyX4_ok, nmX4⟩
theorem mfX4 (ad : Nat → Nat) : ∀ j, j < 7 → defaultValue (tyX4 j) = vp_V (([none, none, some none, some none, none, none, none] : List (Option (Option Nat))).mapIdx (mk_v ad (fun _ => 0))) j := by
  refine mk_alls ?_ (mk_vD (o := none) rfl rfl)
  refine mk_alls ?_ (mk_vD (o := none) rfl rfl)
  refine mk_alls ?_ (mk_vD (o := none) rfl rfl)
  refine mk_alls ?_ (mk_vD (o := some none) rfl rfl)
  refine mk_alls ?_ (mk_vD (o := some none) rfl rfl)
  refine mk_alls ?_ (mk_vD (o := none) rfl rfl)
  refine mk_alls ?_ (mk_vD (o := none) rfl rfl)
  exact mk_all0
theorem mlX5 : mk_L 5 4 RX5 TX5 tyX5 := ⟨rfl, lay_X5, tyX5_ok, nmX5⟩
theorem mfX5 (ad : Nat → Nat) : ∀ j, j < 4 → defaultValue (tyX5 j) = vp_V (([none, some none, some none, some none] : List (Option (Option Nat))).mapIdx (mk_v ad (fun _ => 0))) j := by
  refine mk_alls ?_ (mk_vD (o := some none) rfl rfl)
  refine mk_alls ?_ (mk_vD (o := some none) rfl rfl)
  refine mk_alls ?_ (mk_vD (o := some none) rfl rfl)
  refine mk_alls ?_ (mk_vD (o := none) rfl rfl)
  exact mk_all0
theorem mlX6 : mk_L 6 19 RX6 TX6 tyX6 := ⟨rfl, lay_X6, tyX6_ok, nmX6⟩
theorem mfX6 (ad : Nat → Nat) : ∀ j, j < 19 → defaultValue (tyX6 j) = vp_V (([none, none, none, some none, some none, some none, some none, some none, some none, some none, some none, some none, some none, some none, none, none, none, none, none] : List (Option (Option Nat))).mapIdx (mk_v ad (fun _ => 0))) j := by
  refine mk_alls ?_ (mk_vD (o := none) rfl rfl)
  refine mk_alls ?_ (mk_vD (o := none) rfl rfl)
  refine mk_alls ?_ (mk_vD (o := none) rfl rfl)
  refine mk_alls ?_ (mk_vD (o := none) rfl rfl)
  refine mk_alls ?_ (mk_vD (o := none) rfl rfl)
  refine mk_alls ?_ (mk_vD (o := some none) rfl rfl)
  refine mk_alls ?_ (mk_vD (o := some none) rfl rfl)
  refine mk_alls ?_ (mk_vD (o := some none) rfl rfl)
  refine mk_alls ?_ (mk_vD (o := some none) rfl rfl)
  refine mk_alls ?_ (mk_vD (o := some none) rfl rfl)
  refine mk_alls ?_ (mk_vD (o := some none) rfl rfl)
  refine mk_alls ?_ (mk_vD (o := some none) rfl rfl)
  refine mk_alls ?_ (mk_vD (o := some none) rfl rfl)
  refine mk_alls ?_ (mk_vD (o := some none) rfl rfl)
  refine mk_alls ?_ (mk_vD (o := some none) rfl rfl)
  refine mk_alls ?_ (mk_vD (o := some none) rfl rfl)
  refine mk_alls ?_ (mk_vD (o := none) rfl rfl)
  refine mk_alls ?_ (mk_vD (o := none) rfl rfl)
  refine mk_alls ?_ (mk_vD (o := none) rfl rfl)
  exact mk_all0
theorem mlX7 : mk_L 7 3 RX7 TX7 tyX7 := ⟨rfl, lay_X7, tyX7_ok, nmX7⟩
theorem mfX7 (ad : Nat → Nat) : ∀ j, j < 3 → defaultValue (tyX7 j) = vp_V (([none, some none, some none] : List (Option (Option Nat))).mapIdx (mk_v ad (fun _ => 0))) j := by
  refine mk_alls ?_ (mk_vD (o := some none) rfl rfl)
  refine mk_alls ?_ (mk_vD (o := some none) rfl rfl)
  refine mk_alls ?_ (mk_vD (o := none) rfl rfl)
  exact mk_all0
theorem mlX8 : mk_L 8 5 RX8 TX8 tyX8 := ⟨rfl, lay_X8, tyX8_ok, nmX8⟩
theorem mfX8 (ad : Nat → Nat) : ∀ j, j < 5 → defaultValue (tyX8 j) = vp_V (([none, none, none, some none, some none] : List (Option (Option Nat))).mapIdx (mk_v ad (fun _ => 0))) j := by
  refine mk_alls ?_ (mk_vD (o := some none) rfl rfl)
  refine mk_alls ?_ (mk_vD (o := some none) rfl rfl)
  refine mk_alls ?_ (mk_vD (o := none) rfl rfl)
  refine mk_alls ?_ (mk_vD (o := none) rfl rfl)
  refine mk_alls ?_ (mk_vD (o := none) rfl rfl)
  exact mk_all0
theorem mlX9 : mk_L 9 4 RX9 TX9 tyX9 := ⟨rfl, lay_X9, tyX9_ok, nmX9⟩
theorem mfX9 (ad : Nat → Nat) : ∀ j, j < 4 → defaultValue (tyX9 j) = vp_V (([none, none, some none, some none] : List (Option (Option Nat))).mapIdx (mk_v ad (fun _ => 0))) j := by
  refine mk_alls ?_ (mk_vD (o := some none) rfl rfl)
  refine mk_alls ?_ (mk_vD (o := some none) rfl rfl)
  refine mk_alls ?_ (mk_vD (o := none) rfl rfl)
  refine mk_alls ?_ (mk_vD (o := none) rfl rfl)
  exact mk_all0
theorem mlX10 : mk_L 10 2 RX10 TX10 tyX10 := ⟨rfl, lay_X10, tyX10_ok, nmX10⟩
theorem mfX10 (ad : Nat → Nat) : ∀ j, j < 2 → defaultValue (tyX10 j) = vp_V (([some none, some none] : List (Option (Option Nat))).mapIdx (mk_v ad (fun _ => 0))) j := by
  refine mk_alls ?_ (mk_vD (o := some none) rfl rfl)
  refine mk_alls ?_ (mk_vD (o := some none) rfl rfl)
  exact mk_all0
theorem mlX11 : mk_L 11 9 RX11 TX11 tyX11 := ⟨rfl, lay_X11, tyX11_ok, nmX11⟩
theorem mfX11 (ad : Nat → Nat) : ∀ j, j < 9 → defaultValue (tyX11 j) = vp_V (([some none, some none, some none, some none, some none, some none, some none, some none, some none] : List (Option (Option Nat))).mapIdx (mk_v ad (fun _ => 0))) j := by
  refine mk_alls ?_ (mk_vD (o := some none) rfl rfl)
  refine mk_alls ?_ (mk_vD (o := some none) rfl rfl)
  refine mk_alls ?_ (mk_vD (o := some none) rfl rfl)
  refine mk_alls ?_ (mk_vD (o := some none) rfl rfl)
  refine mk_alls ?_ (mk_vD (o := some none) rfl rfl)
  refine mk_alls ?_ (mk_vD (o := some none) rfl rfl)
  refine mk_alls ?_ (mk_vD (o := some none) rfl rfl)
  refine mk_alls ?_ (mk_vD (o := some none) rfl rfl)
  refine mk_alls ?_ (mk_vD (o := some none) rfl rfl)
  exact mk_all0
theorem mlX12 : mk_L 12 31 RX12 TX12 tyX12 := ⟨rfl, lay_X12, tyX12_ok, nmX12⟩
theorem mfX12 (ad : Nat → Nat) : ∀ j, j < 31 → defaultValue (tyX12 j) = vp_V (([some none, none, none, some none, none, some none, none, some none, some none, none, some none, some none, none, some none, some none, some none, none, none, none, none, none, none, none, none, some none, some none, some none, some none, some none, some none, some none] : List (Option (Option Nat))).mapIdx (mk_v ad (fun _ => 0))) j := by
  refine mk_alls ?_ (mk_vD (o := some none) rfl rfl)
  refine mk_alls ?_ (mk_vD (o := some none) rfl rfl)
  refine mk_alls ?_ (mk_vD (o := some none) rfl rfl)
  refine mk_alls ?_ (mk_vD (o := some none) rfl rfl)
  refine mk_alls ?_ (mk_vD (o := some none) rfl rfl)
  refine mk_alls ?_ (mk_vD (o := some none) rfl rfl)
  refine mk_alls ?_ (mk_vD (o := some none) rfl rfl)
  refine mk_alls ?_ (mk_vD (o := none) rfl rfl)
  refine mk_alls ?_ (mk_vD (o := none) rfl rfl)
  refine mk_alls ?_ (mk_vD (o := none) rfl rfl)
  refine mk_alls ?_ (mk_vD (o := none) rfl rfl)
  refine mk_alls ?_ (mk_vD (o := none) rfl rfl)
  refine mk_alls ?_ (mk_vD (o := none) rfl rfl)
  refine mk_alls ?_ (mk_vD (o := none) rfl rfl)
  refine mk_alls ?_ (mk_vD (o := none) rfl rfl)
  refine mk_alls ?_ (mk_vD (o := some none) rfl rfl)
  refine mk_alls ?_ (mk_vD (o := some none) rfl rfl)
  refine mk_alls ?_ (mk_vD (o := some none) rfl rfl)
  refine mk_alls ?_ (mk_vD (o := none) rfl rfl)
  refine mk_alls ?_ (mk_vD (o := some none) rfl rfl)
  refine mk_alls ?_ (mk_vD (o := some none) rfl rfl)
  refine mk_alls ?_ (mk_vD (o := none) rfl rfl)
  refine mk_alls ?_ (mk_vD (o := some none) rfl rfl)
  refine mk_alls ?_ (mk_vD (o := some none) rfl rfl)
  refine mk_alls ?_ (mk_vD (o := none) rfl rfl)
  refine mk_alls ?_ (mk_vD (o := some none) rfl rfl)
  refine mk_alls ?_ (mk_vD (o := none) rfl rfl)
  refine mk_alls ?_ (mk_vD (o := some none) rfl rfl)
  refine mk_alls ?_ (mk_vD (o := none) rfl rfl)
  refine mk_alls ?_ (mk_vD (o := none) rfl rfl)
  refine mk_alls ?_ (mk_vD (o := some none) rfl rfl)
  exact mk_all0
def lX0 (o : Nat) : List mk_E := [(0, 0, 0, [some (some (o + 1)), some (some (o + 2))], (fun _ => 0), (fun _ => 0)), (2, 3, 16, [], (fun _ => 0), (fun _ => 0)), (2, 3, 16, [], (fun _ => 0), (fun _ => 0))]
theorem mX0_init {l : Launch} {G : ux_G} (hg : mk_g G) (o : Nat) (V : Nat → mk_E) (hV : V o = (0, 0, 0, [some none, some none], (fun _ => 0), (fun _ => 0))) : mk_M l G yX0_init cX0_init 1 1 12 2 32 [.ref (gad G o)] (o + 1) V (o + 3) (mk_ov V o (lX0 o)) := by
  refine mk_of hg (by decide) rfl (show (1 : Nat) ≤ 1 by decide) ?_
  intro X hG hl C hQ
  subst hG
  replace C : mk_C X cX0_init RX0 1 1 12 2 32 := C
  change mk_Wt X 1 0 [(0, .ref (gad (xG X) o))] [] (o + 1) V 0 0
  refine m_aload_n 1 0 C dX0_init_0 rfl rfl ?_
  refine m_obj 4 C tw_263 tw_99 tw_100 dX0_init_1 rfl ⟨by decide, by decide⟩ ?_
  refine m_aload_n 5 0 C dX0_init_4 rfl rfl ?_
  refine m_bipush 7 (16) C dX0_init_5 rfl (by decide) ?_
  refine m_newL 9 16 (t := o + 1) (c := 0) (n := 0) C tw_271 (by decide) (by decide) (by decide) (by decide) (by decide) dX0_init_7 rfl ?_
  refine m_putF 12 (t := o + 2) (i := o) (k0 := 0) (fs := [some none, some none]) (f := (fun _ => 0)) (g := (fun _ => 0)) (j := o + 1) C mlX0 (by omega) (by ((try simp (disch := omega) only [va_up_ne, va_up_self, mk_ov_lt, Nat.add_zero]) <;> first | done | rfl | assumption)) (by decide) (show (0 : Nat) < 2 by decide) tw_264 rfl rfl (tyX0_ok 0 (by decide)) rfl rfl dX0_init_9 rfl ?_
  refine m_aload_n 13 0 C dX0_init_12 rfl rfl ?_
  refine m_bipush 15 (16) C dX0_init_13 rfl (by decide) ?_
  refine m_newL 17 16 (t := o + 2) (c := 1) (n := 16) C tw_271 (by decide) (by decide) (by decide) (by decide) (by decide) dX0_init_15 rfl ?_
  refine m_putF 20 (t := o + 3) (i := o) (k0 := 1) (fs := [some (some (o + 1)), some none]) (f := (fun _ => 0)) (g := (fun _ => 0)) (j := o + 2) C mlX0 (by omega) (by ((try simp (disch := omega) only [va_up_ne, va_up_self, mk_ov_lt, Nat.add_zero]) <;> first | done | rfl | assumption)) (by decide) (show (1 : Nat) < 2 by decide) tw_265 rfl rfl (tyX0_ok 1 (by decide)) rfl rfl dX0_init_17 rfl ?_
  refine m_ret C hQ (mk_ovs (fun i hi => by ((try simp (disch := omega) only [va_up_ne, va_up_self, mk_ov_lt, Nat.add_zero]) <;> first | done | rfl | assumption)) (fun i hi => ?_)) dX0_init_20
  rcases (show i = 0 ∨ i = 1 ∨ i = 2 by omega) with rfl | rfl | rfl
  · ((try simp (disch := omega) only [va_up_ne, va_up_self, mk_ov_lt, Nat.add_zero]) <;> first | done | rfl | assumption)
  · ((try simp (disch := omega) only [va_up_ne, va_up_self, mk_ov_lt, Nat.add_zero]) <;> first | done | rfl | assumption)
  · ((try simp (disch := omega) only [va_up_ne, va_up_self, mk_ov_lt, Nat.add_zero]) <;> first | done | rfl | assumption)
def lX2 (o : Nat) : List mk_E := [(0, 2, 0, [some (some (o + 1))], (fun _ => 0), (fun _ => 0)), (1, 0, 8, [], (fun _ => 0), (fun _ => 0))]
theorem mX2_init {l : Launch} {G : ux_G} (hg : mk_g G) (o : Nat) (V : Nat → mk_E) (hV : V o = (0, 2, 0, [some none], (fun _ => 0), (fun _ => 0))) : mk_M l G yX2_init cX2_init 1 1 12 1 8 [.ref (gad G o)] (o + 1) V (o + 2) (mk_ov V o (lX2 o)) := by
  refine mk_of hg (by decide) rfl (show (1 : Nat) ≤ 1 by decide) ?_
  intro X hG hl C hQ
  subst hG
  replace C : mk_C X cX2_init RX2 1 1 12 1 8 := C
  change mk_Wt X 1 0 [(0, .ref (gad (xG X) o))] [] (o + 1) V 0 0
  refine m_aload_n 1 0 C dX2_init_0 rfl rfl ?_
  refine m_obj 4 C tw_295 tw_99 tw_100 dX2_init_1 rfl ⟨by decide, by decide⟩ ?_
  refine m_aload_n 5 0 C dX2_init_4 rfl rfl ?_
  refine m_bipush 7 (8) C dX2_init_5 rfl (by decide) ?_
  refine m_newI 9 8 (t := o + 1) (c := 0) (n := 0) C tw_163 (by decide) (by decide) (by decide) (by decide) (by decide) dX2_init_7 rfl ?_
  refine m_putF 12 (t := o + 2) (i := o) (k0 := 0) (fs := [some none]) (f := (fun _ => 0)) (g := (fun _ => 0)) (j := o + 1) C mlX2 (by omega) (by ((try simp (disch := omega) only [va_up_ne, va_up_self, mk_ov_lt, Nat.add_zero]) <;> first | done | rfl | assumption)) (by decide) (show (0 : Nat) < 1 by decide) tw_296 rfl rfl (tyX2_ok 0 (by decide)) rfl rfl dX2_init_9 rfl ?_
  refine m_ret C hQ (mk_ovs (fun i hi => by ((try simp (disch := omega) only [va_up_ne, va_up_self, mk_ov_lt, Nat.add_zero]) <;> first | done | rfl | assumption)) (fun i hi => ?_)) dX2_init_12
  rcases (show i = 0 ∨ i = 1 by omega) with rfl | rfl
  · ((try simp (disch := omega) only [va_up_ne, va_up_self, mk_ov_lt, Nat.add_zero]) <;> first | done | rfl | assumption)
  · ((try simp (disch := omega) only [va_up_ne, va_up_self, mk_ov_lt, Nat.add_zero]) <;> first | done | rfl | assumption)
def lX3 (o : Nat) : List mk_E := [(0, 3, 0, [none, none, none, none, some (some (o + 1)), some (some (o + 2)), some (some (o + 3)), some (some (o + 4)), some (some (o + 5)), some (some (o + 6)), some (some (o + 7))], (upd (fun _ => 0) 0 3), (fun _ => 0)), (1, 0, 10, [], (fun _ => 0), (fun _ => 0)), (1, 0, 10, [], (fun _ => 0), (fun _ => 0)), (1, 0, 9, [], (fun _ => 0), (fun _ => 0)), (1, 0, 9, [], (fun _ => 0), (fun _ => 0)), (1, 0, 6, [], (fun _ => 0), (fun _ => 0)), (1, 0, 6, [], (fun _ => 0), (fun _ => 0)), (1, 0, 6, [], (fun _ => 0), (fun _ => 0))]
theorem mX3_init {l : Launch} {G : ux_G} (hg : mk_g G) (o : Nat) (V : Nat → mk_E) (hV : V o = (0, 3, 0, [none, none, none, none, some none, some none, some none, some none, some none, some none, some none], (fun _ => 0), (fun _ => 0))) : mk_M l G yX3_init cX3_init 1 1 12 7 56 [.ref (gad G o)] (o + 1) V (o + 8) (mk_ov V o (lX3 o)) := by
  refine mk_of hg (by decide) rfl (show (1 : Nat) ≤ 1 by decide) ?_
  intro X hG hl C hQ
  subst hG
  replace C : mk_C X cX3_init RX3 1 1 12 7 56 := C
  change mk_Wt X 1 0 [(0, .ref (gad (xG X) o))] [] (o + 1) V 0 0
  refine m_aload_n 1 0 C dX3_init_0 rfl rfl ?_
  refine m_obj 4 C tw_106 tw_99 tw_100 dX3_init_1 rfl ⟨by decide, by decide⟩ ?_
  refine m_aload_n 5 0 C dX3_init_4 rfl rfl ?_
  refine m_iconst 6 (3) C dX3_init_5 rfl (by decide) ?_
  refine m_put 9 (t := o + 1) (i := o) (k0 := 0) (fs := [none, none, none, none, some none, some none, some none, some none, some none, some none, some none]) (f := (fun _ => 0)) (g := (fun _ => 0)) C mlX3 (by omega) (by ((try simp (disch := omega) only [va_up_ne, va_up_self, mk_ov_lt, Nat.add_zero]) <;> first | done | rfl | assumption)) (by decide) rfl tw_107 rfl (by decide +kernel) dX3_init_6 rfl ?_
  refine m_aload_n 10 0 C dX3_init_9 rfl rfl ?_
  refine m_bipush 12 (10) C dX3_init_10 rfl (by decide) ?_
  refine m_newI 14 10 (t := o + 1) (c := 0) (n := 0) C tw_163 (by decide) (by decide) (by decide) (by decide) (by decide) dX3_init_12 rfl ?_
  refine m_putF 17 (t := o + 2) (i := o) (k0 := 4) (fs := [none, none, none, none, some none, some none, some none, some none, some none, some none, some none]) (f := (upd (fun _ => 0) 0 3)) (g := (fun _ => 0)) (j := o + 1) C mlX3 (by omega) (by ((try simp (disch := omega) only [va_up_ne, va_up_self, mk_ov_lt, Nat.add_zero]) <;> first | done | rfl | assumption)) (by decide) (show (4 : Nat) < 11 by decide) tw_122 rfl rfl (tyX3_ok 4 (by decide)) rfl rfl dX3_init_14 rfl ?_
  refine m_aload_n 18 0 C dX3_init_17 rfl rfl ?_
  refine m_bipush 20 (10) C dX3_init_18 rfl (by decide) ?_
  refine m_newI 22 10 (t := o + 2) (c := 1) (n := 10) C tw_163 (by decide) (by decide) (by decide) (by decide) (by decide) dX3_init_20 rfl ?_
  refine m_putF 25 (t := o + 3) (i := o) (k0 := 5) (fs := [none, none, none, none, some (some (o + 1)), some none, some none, some none, some none, some none, some none]) (f := (upd (fun _ => 0) 0 3)) (g := (fun _ => 0)) (j := o + 2) C mlX3 (by omega) (by ((try simp (disch := omega) only [va_up_ne, va_up_self, mk_ov_lt, Nat.add_zero]) <;> first | done | rfl | assumption)) (by decide) (show (5 : Nat) < 11 by decide) tw_125 rfl rfl (tyX3_ok 5 (by decide)) rfl rfl dX3_init_22 rfl ?_
  refine m_aload_n 26 0 C dX3_init_25 rfl rfl ?_
  refine m_bipush 28 (9) C dX3_init_26 rfl (by decide) ?_
  refine m_newI 30 9 (t := o + 3) (c := 2) (n := 20) C tw_163 (by decide) (by decide) (by decide) (by decide) (by decide) dX3_init_28 rfl ?_
  refine m_putF 33 (t := o + 4) (i := o) (k0 := 6) (fs := [none, none, none, none, some (some (o + 1)), some (some (o + 2)), some none, some none, some none, some none, some none]) (f := (upd (fun _ => 0) 0 3)) (g := (fun _ => 0)) (j := o + 3) C mlX3 (by omega) (by ((try simp (disch := omega) only [va_up_ne, va_up_self, mk_ov_lt, Nat.add_zero]) <;> first | done | rfl | assumption)) (by decide) (show (6 : Nat) < 11 by decide) tw_128 rfl rfl (tyX3_ok 6 (by decide)) rfl rfl dX3_init_30 rfl ?_
  refine m_aload_n 34 0 C dX3_init_33 rfl rfl ?_
  refine m_bipush 36 (9) C dX3_init_34 rfl (by decide) ?_
  refine m_newI 38 9 (t := o + 4) (c := 3) (n := 29) C tw_163 (by decide) (by decide) (by decide) (by decide) (by decide) dX3_init_36 rfl ?_
  refine m_putF 41 (t := o + 5) (i := o) (k0 := 7) (fs := [none, none, none, none, some (some (o + 1)), some (some (o + 2)), some (some (o + 3)), some none, some none, some none, some none]) (f := (upd (fun _ => 0) 0 3)) (g := (fun _ => 0)) (j := o + 4) C mlX3 (by omega) (by ((try simp (disch := omega) only [va_up_ne, va_up_self, mk_ov_lt, Nat.add_zero]) <;> first | done | rfl | assumption)) (by decide) (show (7 : Nat) < 11 by decide) tw_130 rfl rfl (tyX3_ok 7 (by decide)) rfl rfl dX3_init_38 rfl ?_
  refine m_aload_n 42 0 C dX3_init_41 rfl rfl ?_
  refine m_bipush 44 (6) C dX3_init_42 rfl (by decide) ?_
  refine m_newI 46 6 (t := o + 5) (c := 4) (n := 38) C tw_163 (by decide) (by decide) (by decide) (by decide) (by decide) dX3_init_44 rfl ?_
  refine m_putF 49 (t := o + 6) (i := o) (k0 := 8) (fs := [none, none, none, none, some (some (o + 1)), some (some (o + 2)), some (some (o + 3)), some (some (o + 4)), some none, some none, some none]) (f := (upd (fun _ => 0) 0 3)) (g := (fun _ => 0)) (j := o + 5) C mlX3 (by omega) (by ((try simp (disch := omega) only [va_up_ne, va_up_self, mk_ov_lt, Nat.add_zero]) <;> first | done | rfl | assumption)) (by decide) (show (8 : Nat) < 11 by decide) tw_132 rfl rfl (tyX3_ok 8 (by decide)) rfl rfl dX3_init_46 rfl ?_
  refine m_aload_n 50 0 C dX3_init_49 rfl rfl ?_
  refine m_bipush 52 (6) C dX3_init_50 rfl (by decide) ?_
  refine m_newI 54 6 (t := o + 6) (c := 5) (n := 44) C tw_163 (by decide) (by decide) (by decide) (by decide) (by decide) dX3_init_52 rfl ?_
  refine m_putF 57 (t := o + 7) (i := o) (k0 := 9) (fs := [none, none, none, none, some (some (o + 1)), some (some (o + 2)), some (some (o + 3)), some (some (o + 4)), some (some (o + 5)), some none, some none]) (f := (upd (fun _ => 0) 0 3)) (g := (fun _ => 0)) (j := o + 6) C mlX3 (by omega) (by ((try simp (disch := omega) only [va_up_ne, va_up_self, mk_ov_lt, Nat.add_zero]) <;> first | done | rfl | assumption)) (by decide) (show (9 : Nat) < 11 by decide) tw_135 rfl rfl (tyX3_ok 9 (by decide)) rfl rfl dX3_init_54 rfl ?_
  refine m_aload_n 58 0 C dX3_init_57 rfl rfl ?_
  refine m_bipush 60 (6) C dX3_init_58 rfl (by decide) ?_
  refine m_newI 62 6 (t := o + 7) (c := 6) (n := 50) C tw_163 (by decide) (by decide) (by decide) (by decide) (by decide) dX3_init_60 rfl ?_
  refine m_putF 65 (t := o + 8) (i := o) (k0 := 10) (fs := [none, none, none, none, some (some (o + 1)), some (some (o + 2)), some (some (o + 3)), some (some (o + 4)), some (some (o + 5)), some (some (o + 6)), some none]) (f := (upd (fun _ => 0) 0 3)) (g := (fun _ => 0)) (j := o + 7) C mlX3 (by omega) (by ((try simp (disch := omega) only [va_up_ne, va_up_self, mk_ov_lt, Nat.add_zero]) <;> first | done | rfl | assumption)) (by decide) (show (10 : Nat) < 11 by decide) tw_138 rfl rfl (tyX3_ok 10 (by decide)) rfl rfl dX3_init_62 rfl ?_
  refine m_ret C hQ (mk_ovs (fun i hi => by ((try simp (disch := omega) only [va_up_ne, va_up_self, mk_ov_lt, Nat.add_zero]) <;> first | done | rfl | assumption)) (fun i hi => ?_)) dX3_init_65
  rcases (show i = 0 ∨ i = 1 ∨ i = 2 ∨ i = 3 ∨ i = 4 ∨ i = 5 ∨ i = 6 ∨ i = 7 by omega) with rfl | rfl | rfl | rfl | rfl | rfl | rfl | rfl
  · ((try simp (disch := omega) only [va_up_ne, va_up_self, mk_ov_lt, Nat.add_zero]) <;> first | done | rfl | assumption)
  · ((try simp (disch := omega) only [va_up_ne, va_up_self, mk_ov_lt, Nat.add_zero]) <;> first | done | rfl | assumption)
  · ((try simp (disch := omega) only [va_up_ne, va_up_self, mk_ov_lt, Nat.add_zero]) <;> first | done | rfl | assumption)
  · ((try simp (disch := omega) only [va_up_ne, va_up_self, mk_ov_lt, Nat.add_zero]) <;> first | done | rfl | assumption)
  · ((try simp (disch := omega) only [va_up_ne, va_up_self, mk_ov_lt, Nat.add_zero]) <;> first | done | rfl | assumption)
  · ((try simp (disch := omega) only [va_up_ne, va_up_self, mk_ov_lt, Nat.add_zero]) <;> first | done | rfl | assumption)
  · ((try simp (disch := omega) only [va_up_ne, va_up_self, mk_ov_lt, Nat.add_zero]) <;> first | done | rfl | assumption)
  · ((try simp (disch := omega) only [va_up_ne, va_up_self, mk_ov_lt, Nat.add_zero]) <;> first | done | rfl | assumption)
def lX8 (o : Nat) : List mk_E := [(0, 8, 0, [none, none, none, some (some (o + 1)), some (some (o + 2))], (fun _ => 0), (fun _ => 0)), (1, 0, 9, [], (fun _ => 0), (fun _ => 0)), (1, 0, 9, [], (fun _ => 0), (fun _ => 0))]
theorem mX8_init {l : Launch} {G : ux_G} (hg : mk_g G) (o : Nat) (V : Nat → mk_E) (hV : V o = (0, 8, 0, [none, none, none, some none, some none], (fun _ => 0), (fun _ => 0))) : mk_M l G yX8_init cX8_init 1 1 12 2 18 [.ref (gad G o)] (o + 1) V (o + 3) (mk_ov V o (lX8 o)) := by
  refine mk_of hg (by decide) rfl (show (1 : Nat) ≤ 1 by decide) ?_
  intro X hG hl C hQ
  subst hG
  replace C : mk_C X cX8_init RX8 1 1 12 2 18 := C
  change mk_Wt X 1 0 [(0, .ref (gad (xG X) o))] [] (o + 1) V 0 0
  refine m_aload_n 1 0 C dX8_init_0 rfl rfl ?_
  refine m_obj 4 C tw_203 tw_99 tw_100 dX8_init_1 rfl ⟨by decide, by decide⟩ ?_
  refine m_aload_n 5 0 C dX8_init_4 rfl rfl ?_
  refine m_bipush 7 (9) C dX8_init_5 rfl (by decide) ?_
  refine m_newI 9 9 (t := o + 1) (c := 0) (n := 0) C tw_163 (by decide) (by decide) (by decide) (by decide) (by decide) dX8_init_7 rfl ?_
  refine m_putF 12 (t := o + 2) (i := o) (k0 := 3) (fs := [none, none, none, some none, some none]) (f := (fun _ => 0)) (g := (fun _ => 0)) (j := o + 1) C mlX8 (by omega) (by ((try simp (disch := omega) only [va_up_ne, va_up_self, mk_ov_lt, Nat.add_zero]) <;> first | done | rfl | assumption)) (by decide) (show (3 : Nat) < 5 by decide) tw_216 rfl rfl (tyX8_ok 3 (by decide)) rfl rfl dX8_init_9 rfl ?_
  refine m_aload_n 13 0 C dX8_init_12 rfl rfl ?_
  refine m_bipush 15 (9) C dX8_init_13 rfl (by decide) ?_
  refine m_newI 17 9 (t := o + 2) (c := 1) (n := 9) C tw_163 (by decide) (by decide) (by decide) (by decide) (by decide) dX8_init_15 rfl ?_
  refine m_putF 20 (t := o + 3) (i := o) (k0 := 4) (fs := [none, none, none, some (some (o + 1)), some none]) (f := (fun _ => 0)) (g := (fun _ => 0)) (j := o + 2) C mlX8 (by omega) (by ((try simp (disch := omega) only [va_up_ne, va_up_self, mk_ov_lt, Nat.add_zero]) <;> first | done | rfl | assumption)) (by decide) (show (4 : Nat) < 5 by decide) tw_219 rfl rfl (tyX8_ok 4 (by decide)) rfl rfl dX8_init_17 rfl ?_
  refine m_ret C hQ (mk_ovs (fun i hi => by ((try simp (disch := omega) only [va_up_ne, va_up_self, mk_ov_lt, Nat.add_zero]) <;> first | done | rfl | assumption)) (fun i hi => ?_)) dX8_init_20
  rcases (show i = 0 ∨ i = 1 ∨ i = 2 by omega) with rfl | rfl | rfl
  · ((try simp (disch := omega) only [va_up_ne, va_up_self, mk_ov_lt, Nat.add_zero]) <;> first | done | rfl | assumption)
  · ((try simp (disch := omega) only [va_up_ne, va_up_self, mk_ov_lt, Nat.add_zero]) <;> first | done | rfl | assumption)
  · ((try simp (disch := omega) only [va_up_ne, va_up_self, mk_ov_lt, Nat.add_zero]) <;> first | done | rfl | assumption)
def lX9 (o : Nat) : List mk_E := [(0, 9, 0, [none, none, some (some (o + 1)), some (some (o + 2))], (fun _ => 0), (fun _ => 0)), (1, 0, 8, [], (fun _ => 0), (fun _ => 0)), (1, 0, 8, [], (fun _ => 0), (fun _ => 0))]
theorem mX9_init {l : Launch} {G : ux_G} (hg : mk_g G) (o : Nat) (V : Nat → mk_E) (hV : V o = (0, 9, 0, [none, none, some none, some none], (fun _ => 0), (fun _ => 0))) : mk_M l G yX9_init cX9_init 1 1 12 2 16 [.ref (gad G o)] (o + 1) V (o + 3) (mk_ov V o (lX9 o)) := by
  refine mk_of hg (by decide) rfl (show (1 : Nat) ≤ 1 by decide) ?_
  intro X hG hl C hQ
  subst hG
  replace C : mk_C X cX9_init RX9 1 1 12 2 16 := C
  change mk_Wt X 1 0 [(0, .ref (gad (xG X) o))] [] (o + 1) V 0 0
  refine m_aload_n 1 0 C dX9_init_0 rfl rfl ?_
  refine m_obj 4 C tw_407 tw_99 tw_100 dX9_init_1 rfl ⟨by decide, by decide⟩ ?_
  refine m_aload_n 5 0 C dX9_init_4 rfl rfl ?_
  refine m_bipush 7 (8) C dX9_init_5 rfl (by decide) ?_
  refine m_newI 9 8 (t := o + 1) (c := 0) (n := 0) C tw_163 (by decide) (by decide) (by decide) (by decide) (by decide) dX9_init_7 rfl ?_
  refine m_putF 12 (t := o + 2) (i := o) (k0 := 2) (fs := [none, none, some none, some none]) (f := (fun _ => 0)) (g := (fun _ => 0)) (j := o + 1) C mlX9 (by omega) (by ((try simp (disch := omega) only [va_up_ne, va_up_self, mk_ov_lt, Nat.add_zero]) <;> first | done | rfl | assumption)) (by decide) (show (2 : Nat) < 4 by decide) tw_410 rfl rfl (tyX9_ok 2 (by decide)) rfl rfl dX9_init_9 rfl ?_
  refine m_aload_n 13 0 C dX9_init_12 rfl rfl ?_
  refine m_bipush 15 (8) C dX9_init_13 rfl (by decide) ?_
  refine m_newI 17 8 (t := o + 2) (c := 1) (n := 8) C tw_163 (by decide) (by decide) (by decide) (by decide) (by decide) dX9_init_15 rfl ?_
  refine m_putF 20 (t := o + 3) (i := o) (k0 := 3) (fs := [none, none, some (some (o + 1)), some none]) (f := (fun _ => 0)) (g := (fun _ => 0)) (j := o + 2) C mlX9 (by omega) (by ((try simp (disch := omega) only [va_up_ne, va_up_self, mk_ov_lt, Nat.add_zero]) <;> first | done | rfl | assumption)) (by decide) (show (3 : Nat) < 4 by decide) tw_411 rfl rfl (tyX9_ok 3 (by decide)) rfl rfl dX9_init_17 rfl ?_
  refine m_ret C hQ (mk_ovs (fun i hi => by ((try simp (disch := omega) only [va_up_ne, va_up_self, mk_ov_lt, Nat.add_zero]) <;> first | done | rfl | assumption)) (fun i hi => ?_)) dX9_init_20
  rcases (show i = 0 ∨ i = 1 ∨ i = 2 by omega) with rfl | rfl | rfl
  · ((try simp (disch := omega) only [va_up_ne, va_up_self, mk_ov_lt, Nat.add_zero]) <;> first | done | rfl | assumption)
  · ((try simp (disch := omega) only [va_up_ne, va_up_self, mk_ov_lt, Nat.add_zero]) <;> first | done | rfl | assumption)
  · ((try simp (disch := omega) only [va_up_ne, va_up_self, mk_ov_lt, Nat.add_zero]) <;> first | done | rfl | assumption)
