theorem dX1_init_0 : decode cX1_init 0 = .ok (.aload_n 0, 1) := by decide +kernel
theorem dX1_init_1 : decode cX1_init 1 = .ok (.invokespecial 3, 3) := by decide +kernel
theorem dX1_init_4 : decode cX1_init 4 = .ok (.aload_n 0, 1) := by decide +kernel
theorem dX1_init_5 : decode cX1_init 5 = .ok (.bipush 8, 2) := by decide +kernel
theorem dX1_init_7 : decode cX1_init 7 = .ok (.newarray .int, 2) := by decide +kernel
theorem dX1_init_9 : decode cX1_init 9 = .ok (.putfield 9, 3) := by decide +kernel
theorem dX1_init_12 : decode cX1_init 12 = .ok (.aload_n 0, 1) := by decide +kernel
theorem dX1_init_13 : decode cX1_init 13 = .ok (.bipush 8, 2) := by decide +kernel
theorem dX1_init_15 : decode cX1_init 15 = .ok (.newarray .int, 2) := by decide +kernel
theorem dX1_init_17 : decode cX1_init 17 = .ok (.putfield 15, 3) := by decide +kernel
theorem dX1_init_20 : decode cX1_init 20 = .ok (.return_, 1) := by decide +kernel
theorem dX4_init_0 : decode cX4_init 0 = .ok (.aload_n 0, 1) := by decide +kernel
theorem dX4_init_1 : decode cX4_init 1 = .ok (.invokespecial 3, 3) := by decide +kernel
theorem dX4_init_4 : decode cX4_init 4 = .ok (.aload_n 0, 1) := by decide +kernel
theorem dX4_init_5 : decode cX4_init 5 = .ok (.new 9, 3) := by decide +kernel
theorem dX4_init_8 : decode cX4_init 8 = .ok (.dup, 1) := by decide +kernel
theorem dX4_init_9 : decode cX4_init 9 = .ok (.invokespecial 11, 3) := by decide +kernel
theorem dX4_init_12 : decode cX4_init 12 = .ok (.putfield 12, 3) := by decide +kernel
theorem dX4_init_15 : decode cX4_init 15 = .ok (.aload_n 0, 1) := by decide +kernel
theorem dX4_init_16 : decode cX4_init 16 = .ok (.sipush 200, 3) := by decide +kernel
theorem dX4_init_19 : decode cX4_init 19 = .ok (.newarray .char, 2) := by decide +kernel
theorem dX4_init_21 : decode cX4_init 21 = .ok (.putfield 18, 3) := by decide +kernel
theorem dX4_init_24 : decode cX4_init 24 = .ok (.return_, 1) := by decide +kernel
theorem dX5_init_0 : decode cX5_init 0 = .ok (.aload_n 0, 1) := by decide +kernel
theorem dX5_init_1 : decode cX5_init 1 = .ok (.invokespecial 3, 3) := by decide +kernel
theorem dX5_init_4 : decode cX5_init 4 = .ok (.aload_n 0, 1) := by decide +kernel
theorem dX5_init_5 : decode cX5_init 5 = .ok (.bipush 10, 2) := by decide +kernel
theorem dX5_init_7 : decode cX5_init 7 = .ok (.newarray .int, 2) := by decide +kernel
theorem dX5_init_9 : decode cX5_init 9 = .ok (.putfield 9, 3) := by decide +kernel
theorem dX5_init_12 : decode cX5_init 12 = .ok (.aload_n 0, 1) := by decide +kernel
theorem dX5_init_13 : decode cX5_init 13 = .ok (.bipush 9, 2) := by decide +kernel
theorem dX5_init_15 : decode cX5_init 15 = .ok (.newarray .int, 2) := by decide +kernel
theorem dX5_init_17 : decode cX5_init 17 = .ok (.putfield 15, 3) := by decide +kernel
theorem dX5_init_20 : decode cX5_init 20 = .ok (.aload_n 0, 1) := by decide +kernel
theorem dX5_init_21 : decode cX5_init 21 = .ok (.sipush 1024, 3) := by decide +kernel
theorem dX5_init_24 : decode cX5_init 24 = .ok (.newarray .int, 2) := by decide +kernel
theorem dX5_init_26 : decode cX5_init 26 = .ok (.putfield 18, 3) := by decide +kernel
theorem dX5_init_29 : decode cX5_init 29 = .ok (.return_, 1) := by decide +kernel
theorem dX7_init_0 : decode cX7_init 0 = .ok (.aload_n 0, 1) := by decide +kernel
theorem dX7_init_1 : decode cX7_init 1 = .ok (.invokespecial 3, 3) := by decide +kernel
theorem dX7_init_4 : decode cX7_init 4 = .ok (.aload_n 0, 1) := by decide +kernel
theorem dX7_init_5 : decode cX7_init 5 = .ok (.bipush 6, 2) := by decide +kernel
theorem dX7_init_7 : decode cX7_init 7 = .ok (.newarray .int, 2) := by decide +kernel
theorem dX7_init_9 : decode cX7_init 9 = .ok (.putfield 9, 3) := by decide +kernel
theorem dX7_init_12 : decode cX7_init 12 = .ok (.aload_n 0, 1) := by decide +kernel
theorem dX7_init_13 : decode cX7_init 13 = .ok (.bipush 6, 2) := by decide +kernel
theorem dX7_init_15 : decode cX7_init 15 = .ok (.newarray .int, 2) := by decide +kernel
theorem dX7_init_17 : decode cX7_init 17 = .ok (.putfield 15, 3) := by decide +kernel
theorem dX7_init_20 : decode cX7_init 20 = .ok (.return_, 1) := by decide +kernel
theorem dX10_init_0 : decode cX10_init 0 = .ok (.aload_n 0, 1) := by decide +kernel
theorem dX10_init_1 : decode cX10_init 1 = .ok (.invokespecial 3, 3) := by decide +kernel
theorem dX10_init_4 : decode cX10_init 4 = .ok (.aload_n 0, 1) := by decide +kernel
theorem dX10_init_5 : decode cX10_init 5 = .ok (.sipush 512, 3) := by decide +kernel
theorem dX10_init_8 : decode cX10_init 8 = .ok (.newarray .int, 2) := by decide +kernel
theorem dX10_init_10 : decode cX10_init 10 = .ok (.putfield 9, 3) := by decide +kernel
theorem dX10_init_13 : decode cX10_init 13 = .ok (.aload_n 0, 1) := by decide +kernel
theorem dX10_init_14 : decode cX10_init 14 = .ok (.bipush 10, 2) := by decide +kernel
theorem dX10_init_16 : decode cX10_init 16 = .ok (.anewarray 15, 3) := by decide +kernel
theorem dX10_init_19 : decode cX10_init 19 = .ok (.putfield 17, 3) := by decide +kernel
theorem dX10_init_22 : decode cX10_init 22 = .ok (.iconst 0, 1) := by decide +kernel
theorem dX10_init_23 : decode cX10_init 23 = .ok (.istore_n 1, 1) := by decide +kernel
theorem dX10_init_24 : decode cX10_init 24 = .ok (.iload_n 1, 1) := by decide +kernel
theorem dX10_init_25 : decode cX10_init 25 = .ok (.bipush 9, 2) := by decide +kernel
theorem dX10_init_27 : decode cX10_init 27 = .ok (.if_icmp .gt 22, 3) := by decide +kernel
theorem dX10_init_30 : decode cX10_init 30 = .ok (.aload_n 0, 1) := by decide +kernel
theorem dX10_init_31 : decode cX10_init 31 = .ok (.getfield 17, 3) := by decide +kernel
theorem dX10_init_34 : decode cX10_init 34 = .ok (.iload_n 1, 1) := by decide +kernel
theorem dX10_init_35 : decode cX10_init 35 = .ok (.new 15, 3) := by decide +kernel
theorem dX10_init_38 : decode cX10_init 38 = .ok (.dup, 1) := by decide +kernel
theorem dX10_init_39 : decode cX10_init 39 = .ok (.invokespecial 21, 3) := by decide +kernel
theorem dX10_init_42 : decode cX10_init 42 = .ok (.aastore, 1) := by decide +kernel
theorem dX10_init_43 : decode cX10_init 43 = .ok (.iinc 1 1, 3) := by decide +kernel
theorem dX10_init_46 : decode cX10_init 46 = .ok (.goto (-22), 3) := by decide +kernel
theorem dX10_init_49 : decode cX10_init 49 = .ok (.return_, 1) := by decide +kernel
theorem tw_239 : ((Jvm.Cond.methodLink "MeterDesk$History" (3 : Nat) ({ cls := "java/lang/Object", name := "<init>", desc := "()V" } : Jvm.MethodName))) ∈ lw_gt := gt_of 239 (by decide +kernel) (by decide +kernel)
theorem tw_169 : ((Jvm.Cond.methodLink "MeterDesk$Reader" (3 : Nat) ({ cls := "java/lang/Object", name := "<init>", desc := "()V" } : Jvm.MethodName))) ∈ lw_gt := gt_of 169 (by decide +kernel) (by decide +kernel)
theorem tw_170 : ((Jvm.Cond.classLink "MeterDesk$Reader" (9 : Nat) "MeterDesk$Plan")) ∈ lw_gt := gt_of 170 (by decide +kernel) (by decide +kernel)
theorem tw_102 : ((Jvm.Cond.instantiable "MeterDesk$Plan" (11 : Nat))) ∈ lw_gt := gt_of 102 (by decide +kernel) (by decide +kernel)
theorem tw_104 : ((Jvm.Cond.instanceMethod ({ cls := "MeterDesk$Plan", name := "<init>", desc := "()V" } : Jvm.MethodName))) ∈ lw_gt := gt_of 104 (by decide +kernel) (by decide +kernel)
theorem tw_105 : ((Jvm.Cond.code ({ cls := "MeterDesk$Plan", name := "<init>", desc := "()V" } : Jvm.MethodName) prog_5_method_1_code (1 : Nat) (Option.none : Option Jvm.ClassFile.FieldType))) ∈ lw_gt := gt_of 105 (by decide +kernel) (by decide +kernel)
theorem kiX4_11 : mk_LI RX4 11 yX3_init cX3_init 1 0 := ⟨Or.inr (by decide), tw_104, tw_73, tw_105, rfl, ⟨by decide, by decide, by decide +kernel⟩⟩
theorem tw_197 : ((Jvm.Cond.arrayClass Jvm.ClassFile.FieldType.char)) ∈ lw_gt := gt_of 197 (by decide +kernel) (by decide +kernel)
theorem tw_305 : ((Jvm.Cond.methodLink "MeterDesk$Servers" (3 : Nat) ({ cls := "java/lang/Object", name := "<init>", desc := "()V" } : Jvm.MethodName))) ∈ lw_gt := gt_of 305 (by decide +kernel) (by decide +kernel)
theorem tw_389 : ((Jvm.Cond.methodLink "MeterDesk$Sightings" (3 : Nat) ({ cls := "java/lang/Object", name := "<init>", desc := "()V" } : Jvm.MethodName))) ∈ lw_gt := gt_of 389 (by decide +kernel) (by decide +kernel)
theorem tw_277 : ((Jvm.Cond.methodLink "MeterDesk$Trials" (3 : Nat) ({ cls := "java/lang/Object", name := "<init>", desc := "()V" } : Jvm.MethodName))) ∈ lw_gt := gt_of 277 (by decide +kernel) (by decide +kernel)
theorem tw_278 : ((Jvm.Cond.classLink "MeterDesk$Trials" (15 : Nat) "MeterDesk$Family")) ∈ lw_gt := gt_of 278 (by decide +kernel) (by decide +kernel)
theorem tw_259 : ((Jvm.Cond.instantiable "MeterDesk$Family" (2 : Nat))) ∈ lw_gt := gt_of 259 (by decide +kernel) (by decide +kernel)
theorem tw_261 : ((Jvm.Cond.instanceMethod ({ cls := "MeterDesk$Family", name := "<init>", desc := "()V" } : Jvm.MethodName))) ∈ lw_gt := gt_of 261 (by decide +kernel) (by decide +kernel)
theorem tw_262 : ((Jvm.Cond.code ({ cls := "MeterDesk$Family", name := "<init>", desc := "()V" } : Jvm.MethodName) prog_2_method_1_code (1 : Nat) (Option.none : Option Jvm.ClassFile.FieldType))) ∈ lw_gt := gt_of 262 (by decide +kernel) (by decide +kernel)
theorem kiX10_21 : mk_LI RX10 21 yX0_init cX0_init 1 0 := ⟨Or.inr (by decide), tw_261, tw_78, tw_262, rfl, ⟨by decide, by decide, by decide +kernel⟩⟩
def lX1 : List mk_E := [(0, 1, 0, [none, some (some 31), some (some 32)], (fun _ => 0), (fun _ => 0)), (1, 0, 8, [], (fun _ => 0), (fun _ => 0)), (1, 0, 8, [], (fun _ => 0), (fun _ => 0))]
theorem mX1_init {l : Launch} {G : ux_G} (hg : mk_g G) (V : Nat → mk_E) (hV : V 30 = (0, 1, 0, [none, some none, some none], (fun _ => 0), (fun _ => 0))) : mk_M l G yX1_init cX1_init 1 1 12 2 16 [.ref (gad G 30)] 31 V 33 (mk_ov V 30 lX1) := by
  refine mk_of hg (by decide) rfl (show (1 : Nat) ≤ 1 by decide) ?_
  intro X hG hl C hQ
  subst hG
  replace C : mk_C X cX1_init RX1 1 1 12 2 16 := C
  change mk_Wt X 1 0 [(0, .ref (gad (xG X) 30))] [] 31 V 0 0
  refine m_aload_n 1 0 C dX1_init_0 rfl rfl ?_
  refine m_obj 4 C tw_239 tw_99 tw_100 dX1_init_1 rfl ⟨by decide, by decide⟩ ?_
  refine m_aload_n 5 0 C dX1_init_4 rfl rfl ?_
  refine m_bipush 7 (8) C dX1_init_5 rfl (by decide) ?_
  refine m_newI 9 8 (t := 31) (c := 0) (n := 0) C tw_163 (by decide) (by decide) (by decide) (by decide) (by decide) dX1_init_7 rfl ?_
  refine m_putF 12 (t := 32) (i := 30) (k0 := 1) (fs := [none, some none, some none]) (f := (fun _ => 0)) (g := (fun _ => 0)) (j := 31) C mlX1 (by omega) (by (first | rfl | assumption)) (by decide) (show (1 : Nat) < 3 by decide) tw_242 rfl rfl (tyX1_ok 1 (by decide)) rfl rfl dX1_init_9 rfl ?_
  refine m_aload_n 13 0 C dX1_init_12 rfl rfl ?_
  refine m_bipush 15 (8) C dX1_init_13 rfl (by decide) ?_
  refine m_newI 17 8 (t := 32) (c := 1) (n := 8) C tw_163 (by decide) (by decide) (by decide) (by decide) (by decide) dX1_init_15 rfl ?_
  refine m_putF 20 (t := 33) (i := 30) (k0 := 2) (fs := [none, some (some 31), some none]) (f := (fun _ => 0)) (g := (fun _ => 0)) (j := 32) C mlX1 (by omega) (by (first | rfl | assumption)) (by decide) (show (2 : Nat) < 3 by decide) tw_243 rfl rfl (tyX1_ok 2 (by decide)) rfl rfl dX1_init_17 rfl ?_
  refine m_ret C hQ (mk_ovs (fun i hi => by ((try simp (disch := omega) only [va_up_ne, va_up_self, mk_ov_lt, Nat.add_zero]) <;> first | done | rfl | assumption)) (fun i hi => ?_)) dX1_init_20
  rcases (show i = 0 ∨ i = 1 ∨ i = 2 by omega) with rfl | rfl | rfl
  · rfl
  · rfl
  · rfl
def lX4 : List mk_E := [(0, 4, 0, [none, none, some (some 10), some (some 18), none, none, none], (fun _ => 0), (fun _ => 0)), (0, 3, 0, [none, none, none, none, some (some 11), some (some 12), some (some 13), some (some 14), some (some 15), some (some 16), some (some 17)], (upd (fun _ => 0) 0 3), (fun _ => 0)), (1, 0, 10, [], (fun _ => 0), (fun _ => 0)), (1, 0, 10, [], (fun _ => 0), (fun _ => 0)), (1, 0, 9, [], (fun _ => 0), (fun _ => 0)), (1, 0, 9, [], (fun _ => 0), (fun _ => 0)), (1, 0, 6, [], (fun _ => 0), (fun _ => 0)), (1, 0, 6, [], (fun _ => 0), (fun _ => 0)), (1, 0, 6, [], (fun _ => 0), (fun _ => 0)), (1, 2, 200, [], (fun _ => 0), (fun _ => 0))]
theorem mX4_init {l : Launch} {G : ux_G} (hg : mk_g G) (V : Nat → mk_E) (hV : V 9 = (0, 4, 0, [none, none, some none, some none, none, none, none], (fun _ => 0), (fun _ => 0))) : mk_M l G yX4_init cX4_init 1 2 32 9 267 [.ref (gad G 9)] 10 V 19 (mk_ov V 9 lX4) := by
  refine mk_of hg (by decide) rfl (show (1 : Nat) ≤ 1 by decide) ?_
  intro X hG hl C hQ
  subst hG
  replace C : mk_C X cX4_init RX4 1 2 32 9 267 := C
  change mk_Wt X 1 0 [(0, .ref (gad (xG X) 9))] [] 10 V 0 0
  refine m_aload_n 1 0 C dX4_init_0 rfl rfl ?_
  refine m_obj 4 C tw_169 tw_99 tw_100 dX4_init_1 rfl ⟨by decide, by decide⟩ ?_
  refine m_aload_n 5 0 C dX4_init_4 rfl rfl ?_
  refine m_new 8 [none, none, none, none, some none, some none, some none, some none, some none, some none, some none] (t := 10) (c := 0) (n := 0) C mlX3 tw_170 tw_102 tw_73 (mfX3 _) (by decide) (by decide) dX4_init_5 rfl ?_
  refine m_dup 9 C dX4_init_8 rfl rfl ?_
  refine m_init 12 [.ref (gad (xG X) 10), .ref (gad (xG X) 9)] [] (t := 11) (c := 1) (n := 11) C kiX4_11 (mX3_init (mc_g C).1 10 _ (by (first | rfl | assumption))) rfl rfl ⟨by decide, by decide⟩ ⟨by decide, by decide⟩ (show (2 : Nat) ≤ 8 by decide) dX4_init_9 rfl ?_
  refine m_putF 15 (t := 18) (i := 9) (k0 := 2) (fs := [none, none, some none, some none, none, none, none]) (f := (fun _ => 0)) (g := (fun _ => 0)) (j := 10) C mlX4 (by omega) (by (first | rfl | assumption)) (by decide) (show (2 : Nat) < 7 by decide) tw_176 rfl rfl (tyX4_ok 2 (by decide)) rfl rfl dX4_init_12 rfl ?_
  refine m_aload_n 16 0 C dX4_init_15 rfl rfl ?_
  refine m_sipush 19 (200) C dX4_init_16 rfl (by decide) ?_
  refine m_newC 21 200 (t := 18) (c := 8) (n := 67) C tw_197 (by decide) (by decide) (by decide) (by decide) (by decide) dX4_init_19 rfl ?_
  refine m_putF 24 (t := 19) (i := 9) (k0 := 3) (fs := [none, none, some (some 10), some none, none, none, none]) (f := (fun _ => 0)) (g := (fun _ => 0)) (j := 18) C mlX4 (by omega) (by (first | rfl | assumption)) (by decide) (show (3 : Nat) < 7 by decide) tw_178 rfl rfl (tyX4_ok 3 (by decide)) rfl rfl dX4_init_21 rfl ?_
  refine m_ret C hQ (mk_ovs (fun i hi => by ((try simp (disch := omega) only [va_up_ne, va_up_self, mk_ov_lt, Nat.add_zero]) <;> first | done | rfl | assumption)) (fun i hi => ?_)) dX4_init_24
  rcases (show i = 0 ∨ i = 1 ∨ i = 2 ∨ i = 3 ∨ i = 4 ∨ i = 5 ∨ i = 6 ∨ i = 7 ∨ i = 8 ∨ i = 9 by omega) with rfl | rfl | rfl | rfl | rfl | rfl | rfl | rfl | rfl | rfl
  · rfl
  · rfl
  · rfl
  · rfl
  · rfl
  · rfl
  · rfl
  · rfl
  · rfl
  · rfl
def lX5 : List mk_E := [(0, 5, 0, [none, some (some 82), some (some 83), some (some 84)], (fun _ => 0), (fun _ => 0)), (1, 0, 10, [], (fun _ => 0), (fun _ => 0)), (1, 0, 9, [], (fun _ => 0), (fun _ => 0)), (1, 0, 1024, [], (fun _ => 0), (fun _ => 0))]
theorem mX5_init {l : Launch} {G : ux_G} (hg : mk_g G) (V : Nat → mk_E) (hV : V 81 = (0, 5, 0, [none, some none, some none, some none], (fun _ => 0), (fun _ => 0))) : mk_M l G yX5_init cX5_init 1 1 12 3 1043 [.ref (gad G 81)] 82 V 85 (mk_ov V 81 lX5) := by
  refine mk_of hg (by decide) rfl (show (1 : Nat) ≤ 1 by decide) ?_
  intro X hG hl C hQ
  subst hG
  replace C : mk_C X cX5_init RX5 1 1 12 3 1043 := C
  change mk_Wt X 1 0 [(0, .ref (gad (xG X) 81))] [] 82 V 0 0
  refine m_aload_n 1 0 C dX5_init_0 rfl rfl ?_
  refine m_obj 4 C tw_305 tw_99 tw_100 dX5_init_1 rfl ⟨by decide, by decide⟩ ?_
  refine m_aload_n 5 0 C dX5_init_4 rfl rfl ?_
  refine m_bipush 7 (10) C dX5_init_5 rfl (by decide) ?_
  refine m_newI 9 10 (t := 82) (c := 0) (n := 0) C tw_163 (by decide) (by decide) (by decide) (by decide) (by decide) dX5_init_7 rfl ?_
  refine m_putF 12 (t := 83) (i := 81) (k0 := 1) (fs := [none, some none, some none, some none]) (f := (fun _ => 0)) (g := (fun _ => 0)) (j := 82) C mlX5 (by omega) (by (first | rfl | assumption)) (by decide) (show (1 : Nat) < 4 by decide) tw_308 rfl rfl (tyX5_ok 1 (by decide)) rfl rfl dX5_init_9 rfl ?_
  refine m_aload_n 13 0 C dX5_init_12 rfl rfl ?_
  refine m_bipush 15 (9) C dX5_init_13 rfl (by decide) ?_
  refine m_newI 17 9 (t := 83) (c := 1) (n := 10) C tw_163 (by decide) (by decide) (by decide) (by decide) (by decide) dX5_init_15 rfl ?_
  refine m_putF 20 (t := 84) (i := 81) (k0 := 2) (fs := [none, some (some 82), some none, some none]) (f := (fun _ => 0)) (g := (fun _ => 0)) (j := 83) C mlX5 (by omega) (by (first | rfl | assumption)) (by decide) (show (2 : Nat) < 4 by decide) tw_310 rfl rfl (tyX5_ok 2 (by decide)) rfl rfl dX5_init_17 rfl ?_
  refine m_aload_n 21 0 C dX5_init_20 rfl rfl ?_
  refine m_sipush 24 (1024) C dX5_init_21 rfl (by decide) ?_
  refine m_newI 26 1024 (t := 84) (c := 2) (n := 19) C tw_163 (by decide) (by decide) (by decide) (by decide) (by decide) dX5_init_24 rfl ?_
  refine m_putF 29 (t := 85) (i := 81) (k0 := 3) (fs := [none, some (some 82), some (some 83), some none]) (f := (fun _ => 0)) (g := (fun _ => 0)) (j := 84) C mlX5 (by omega) (by (first | rfl | assumption)) (by decide) (show (3 : Nat) < 4 by decide) tw_312 rfl rfl (tyX5_ok 3 (by decide)) rfl rfl dX5_init_26 rfl ?_
  refine m_ret C hQ (mk_ovs (fun i hi => by ((try simp (disch := omega) only [va_up_ne, va_up_self, mk_ov_lt, Nat.add_zero]) <;> first | done | rfl | assumption)) (fun i hi => ?_)) dX5_init_29
  rcases (show i = 0 ∨ i = 1 ∨ i = 2 ∨ i = 3 by omega) with rfl | rfl | rfl | rfl
  · rfl
  · rfl
  · rfl
  · rfl
def lX7 : List mk_E := [(0, 7, 0, [none, some (some 108), some (some 109)], (fun _ => 0), (fun _ => 0)), (1, 0, 6, [], (fun _ => 0), (fun _ => 0)), (1, 0, 6, [], (fun _ => 0), (fun _ => 0))]
theorem mX7_init {l : Launch} {G : ux_G} (hg : mk_g G) (V : Nat → mk_E) (hV : V 107 = (0, 7, 0, [none, some none, some none], (fun _ => 0), (fun _ => 0))) : mk_M l G yX7_init cX7_init 1 1 12 2 12 [.ref (gad G 107)] 108 V 110 (mk_ov V 107 lX7) := by
  refine mk_of hg (by decide) rfl (show (1 : Nat) ≤ 1 by decide) ?_
  intro X hG hl C hQ
  subst hG
  replace C : mk_C X cX7_init RX7 1 1 12 2 12 := C
  change mk_Wt X 1 0 [(0, .ref (gad (xG X) 107))] [] 108 V 0 0
  refine m_aload_n 1 0 C dX7_init_0 rfl rfl ?_
  refine m_obj 4 C tw_389 tw_99 tw_100 dX7_init_1 rfl ⟨by decide, by decide⟩ ?_
  refine m_aload_n 5 0 C dX7_init_4 rfl rfl ?_
  refine m_bipush 7 (6) C dX7_init_5 rfl (by decide) ?_
  refine m_newI 9 6 (t := 108) (c := 0) (n := 0) C tw_163 (by decide) (by decide) (by decide) (by decide) (by decide) dX7_init_7 rfl ?_
  refine m_putF 12 (t := 109) (i := 107) (k0 := 1) (fs := [none, some none, some none]) (f := (fun _ => 0)) (g := (fun _ => 0)) (j := 108) C mlX7 (by omega) (by (first | rfl | assumption)) (by decide) (show (1 : Nat) < 3 by decide) tw_392 rfl rfl (tyX7_ok 1 (by decide)) rfl rfl dX7_init_9 rfl ?_
  refine m_aload_n 13 0 C dX7_init_12 rfl rfl ?_
  refine m_bipush 15 (6) C dX7_init_13 rfl (by decide) ?_
  refine m_newI 17 6 (t := 109) (c := 1) (n := 6) C tw_163 (by decide) (by decide) (by decide) (by decide) (by decide) dX7_init_15 rfl ?_
  refine m_putF 20 (t := 110) (i := 107) (k0 := 2) (fs := [none, some (some 108), some none]) (f := (fun _ => 0)) (g := (fun _ => 0)) (j := 109) C mlX7 (by omega) (by (first | rfl | assumption)) (by decide) (show (2 : Nat) < 3 by decide) tw_393 rfl rfl (tyX7_ok 2 (by decide)) rfl rfl dX7_init_17 rfl ?_
  refine m_ret C hQ (mk_ovs (fun i hi => by ((try simp (disch := omega) only [va_up_ne, va_up_self, mk_ov_lt, Nat.add_zero]) <;> first | done | rfl | assumption)) (fun i hi => ?_)) dX7_init_20
  rcases (show i = 0 ∨ i = 1 ∨ i = 2 by omega) with rfl | rfl | rfl
  · rfl
  · rfl
  · rfl
def lX10 : List mk_E := [(0, 10, 0, [some (some 45), some (some 46)], (fun _ => 0), (fun _ => 0)), (1, 0, 512, [], (fun _ => 0), (fun _ => 0)), (3, 4, 10, [some (some 47), some (some 50), some (some 53), some (some 56), some (some 59), some (some 62), some (some 65), some (some 68), some (some 71), some (some 74)], (fun _ => 0), (fun _ => 0)), (0, 0, 0, [some (some 48), some (some 49)], (fun _ => 0), (fun _ => 0)), (2, 3, 16, [], (fun _ => 0), (fun _ => 0)), (2, 3, 16, [], (fun _ => 0), (fun _ => 0)), (0, 0, 0, [some (some 51), some (some 52)], (fun _ => 0), (fun _ => 0)), (2, 3, 16, [], (fun _ => 0), (fun _ => 0)), (2, 3, 16, [], (fun _ => 0), (fun _ => 0)), (0, 0, 0, [some (some 54), some (some 55)], (fun _ => 0), (fun _ => 0)), (2, 3, 16, [], (fun _ => 0), (fun _ => 0)), (2, 3, 16, [], (fun _ => 0), (fun _ => 0)), (0, 0, 0, [some (some 57), some (some 58)], (fun _ => 0), (fun _ => 0)), (2, 3, 16, [], (fun _ => 0), (fun _ => 0)), (2, 3, 16, [], (fun _ => 0), (fun _ => 0)), (0, 0, 0, [some (some 60), some (some 61)], (fun _ => 0), (fun _ => 0)), (2, 3, 16, [], (fun _ => 0), (fun _ => 0)), (2, 3, 16, [], (fun _ => 0), (fun _ => 0)), (0, 0, 0, [some (some 63), some (some 64)], (fun _ => 0), (fun _ => 0)), (2, 3, 16, [], (fun _ => 0), (fun _ => 0)), (2, 3, 16, [], (fun _ => 0), (fun _ => 0)), (0, 0, 0, [some (some 66), some (some 67)], (fun _ => 0), (fun _ => 0)), (2, 3, 16, [], (fun _ => 0), (fun _ => 0)), (2, 3, 16, [], (fun _ => 0), (fun _ => 0)), (0, 0, 0, [some (some 69), some (some 70)], (fun _ => 0), (fun _ => 0)), (2, 3, 16, [], (fun _ => 0), (fun _ => 0)), (2, 3, 16, [], (fun _ => 0), (fun _ => 0)), (0, 0, 0, [some (some 72), some (some 73)], (fun _ => 0), (fun _ => 0)), (2, 3, 16, [], (fun _ => 0), (fun _ => 0)), (2, 3, 16, [], (fun _ => 0), (fun _ => 0)), (0, 0, 0, [some (some 75), some (some 76)], (fun _ => 0), (fun _ => 0)), (2, 3, 16, [], (fun _ => 0), (fun _ => 0)), (2, 3, 16, [], (fun _ => 0), (fun _ => 0))]
theorem mX10_init {l : Launch} {G : ux_G} (hg : mk_g G) (V : Nat → mk_E) (hV : V 44 = (0, 10, 0, [some none, some none], (fun _ => 0), (fun _ => 0))) : mk_M l G yX10_init cX10_init 2 2 32 32 862 [.ref (gad G 44)] 45 V 77 (mk_ov V 44 lX10) := by
  refine mk_of hg (by decide) rfl (show (1 : Nat) ≤ 2 by decide) ?_
  intro X hG hl C hQ
  subst hG
  replace C : mk_C X cX10_init RX10 2 2 32 32 862 := C
  change mk_Wt X 2 0 [(0, .ref (gad (xG X) 44))] [] 45 V 0 0
  refine m_aload_n 1 0 C dX10_init_0 rfl rfl ?_
  refine m_obj 4 C tw_277 tw_99 tw_100 dX10_init_1 rfl ⟨by decide, by decide⟩ ?_
  refine m_aload_n 5 0 C dX10_init_4 rfl rfl ?_
  refine m_sipush 8 (512) C dX10_init_5 rfl (by decide) ?_
  refine m_newI 10 512 (t := 45) (c := 0) (n := 0) C tw_163 (by decide) (by decide) (by decide) (by decide) (by decide) dX10_init_8 rfl ?_
  refine m_putF 13 (t := 46) (i := 44) (k0 := 0) (fs := [some none, some none]) (f := (fun _ => 0)) (g := (fun _ => 0)) (j := 45) C mlX10 (by omega) (by (first | rfl | assumption)) (by decide) (show (0 : Nat) < 2 by decide) tw_281 rfl rfl (tyX10_ok 0 (by decide)) rfl rfl dX10_init_10 rfl ?_
  refine m_aload_n 14 0 C dX10_init_13 rfl rfl ?_
  refine m_bipush 16 (10) C dX10_init_14 rfl (by decide) ?_
  refine m_newq 19 10 4 (t := 46) (c := 1) (n := 512) C tw_278 (mc_O C).1 rfl (by decide) (by decide) (by decide) (by decide) (by decide) dX10_init_16 rfl ?_
  refine m_putF 22 (t := 47) (i := 44) (k0 := 1) (fs := [some (some 45), some none]) (f := (fun _ => 0)) (g := (fun _ => 0)) (j := 46) C mlX10 (by omega) (by (first | rfl | assumption)) (by decide) (show (1 : Nat) < 2 by decide) tw_283 rfl rfl (tyX10_ok 1 (by decide)) rfl rfl dX10_init_19 rfl ?_
  refine m_iconst 23 (0) C dX10_init_22 rfl (by decide) ?_
  refine m_istore_n 24 [(1, .int (0)), (0, .ref (gad (xG X) 44))] C dX10_init_23 rfl (by decide) rfl ?_
  refine m_iload_n 25 0 C dX10_init_24 rfl rfl ?_
  refine m_bipush 27 (9) C dX10_init_25 rfl (by decide) ?_
  refine m_icmp_gtF 30 49 C dX10_init_27 rfl rfl (by decide) ?_
  refine m_aload_n 31 1 C dX10_init_30 rfl rfl ?_
  refine m_getR 34 (t := 47) (i := 44) (j := 46) (fs := [some (some 45), some (some 46)]) (f := (fun _ => 0)) (g := (fun _ => 0)) C kfX10_17 (by omega) (by (first | rfl | assumption)) rfl dX10_init_31 rfl ?_
  refine m_iload_n 35 0 C dX10_init_34 rfl rfl ?_
  refine m_new 38 [some none, some none] (t := 47) (c := 2) (n := 522) C mlX0 tw_278 tw_259 tw_78 (mfX0 _) (by decide) (by decide) dX10_init_35 rfl ?_
  refine m_dup 39 C dX10_init_38 rfl rfl ?_
  refine m_init 42 [.ref (gad (xG X) 47), .int (0), .ref (gad (xG X) 46)] [] (t := 48) (c := 3) (n := 524) C kiX10_21 (mX0_init (mc_g C).1 47 _ (by (first | rfl | assumption))) rfl rfl ⟨by decide, by decide⟩ ⟨by decide, by decide⟩ (show (3 : Nat) ≤ 8 by decide) dX10_init_39 rfl ?_
  refine m_aast 43 0 (t := 50) (i := 46) (N := 10) (t0 := 4) (ci := 0) (o := 47) (r := (RX0, TX0, 2)) (cs := [some none, some none, some none, some none, some none, some none, some none, some none, some none, some none]) (fs := [some (some 48), some (some 49)]) (f := (fun _ => 0)) (f2 := (fun _ => 0)) (g := (fun _ => 0)) (g2 := (fun _ => 0)) C (by omega) (by (first | rfl | assumption)) rfl (by omega) (by (first | rfl | assumption)) rfl (by decide) (by decide) (by decide) dX10_init_42 rfl ?_
  refine m_iinc 46 0 [(1, .int (1)), (0, .ref (gad (xG X) 44))] (1) C dX10_init_43 rfl rfl (by decide) (by decide) rfl ?_
  refine m_goto 24 C dX10_init_46 rfl ?_
  refine m_iload_n 25 0 C dX10_init_24 rfl rfl ?_
  refine m_bipush 27 (9) C dX10_init_25 rfl (by decide) ?_
  refine m_icmp_gtF 30 49 C dX10_init_27 rfl rfl (by decide) ?_
  refine m_aload_n 31 1 C dX10_init_30 rfl rfl ?_
  refine m_getR 34 (t := 50) (i := 44) (j := 46) (fs := [some (some 45), some (some 46)]) (f := (fun _ => 0)) (g := (fun _ => 0)) C kfX10_17 (by omega) (by (first | rfl | assumption)) rfl dX10_init_31 rfl ?_
  refine m_iload_n 35 0 C dX10_init_34 rfl rfl ?_
  refine m_new 38 [some none, some none] (t := 50) (c := 5) (n := 556) C mlX0 tw_278 tw_259 tw_78 (mfX0 _) (by decide) (by decide) dX10_init_35 rfl ?_
  refine m_dup 39 C dX10_init_38 rfl rfl ?_
  refine m_init 42 [.ref (gad (xG X) 50), .int (1), .ref (gad (xG X) 46)] [] (t := 51) (c := 6) (n := 558) C kiX10_21 (mX0_init (mc_g C).1 50 _ (by (first | rfl | assumption))) rfl rfl ⟨by decide, by decide⟩ ⟨by decide, by decide⟩ (show (3 : Nat) ≤ 8 by decide) dX10_init_39 rfl ?_
  refine m_aast 43 1 (t := 53) (i := 46) (N := 10) (t0 := 4) (ci := 0) (o := 50) (r := (RX0, TX0, 2)) (cs := [some (some 47), some none, some none, some none, some none, some none, some none, some none, some none, some none]) (fs := [some (some 51), some (some 52)]) (f := (fun _ => 0)) (f2 := (fun _ => 0)) (g := (fun _ => 0)) (g2 := (fun _ => 0)) C (by omega) (by (first | rfl | assumption)) rfl (by omega) (by (first | rfl | assumption)) rfl (by decide) (by decide) (by decide) dX10_init_42 rfl ?_
  refine m_iinc 46 0 [(1, .int (2)), (0, .ref (gad (xG X) 44))] (2) C dX10_init_43 rfl rfl (by decide) (by decide) rfl ?_
  refine m_goto 24 C dX10_init_46 rfl ?_
  refine m_iload_n 25 0 C dX10_init_24 rfl rfl ?_
  refine m_bipush 27 (9) C dX10_init_25 rfl (by decide) ?_
  refine m_icmp_gtF 30 49 C dX10_init_27 rfl rfl (by decide) ?_
  refine m_aload_n 31 1 C dX10_init_30 rfl rfl ?_
  refine m_getR 34 (t := 53) (i := 44) (j := 46) (fs := [some (some 45), some (some 46)]) (f := (fun _ => 0)) (g := (fun _ => 0)) C kfX10_17 (by omega) (by (first | rfl | assumption)) rfl dX10_init_31 rfl ?_
  refine m_iload_n 35 0 C dX10_init_34 rfl rfl ?_
  refine m_new 38 [some none, some none] (t := 53) (c := 8) (n := 590) C mlX0 tw_278 tw_259 tw_78 (mfX0 _) (by decide) (by decide) dX10_init_35 rfl ?_
  refine m_dup 39 C dX10_init_38 rfl rfl ?_
  refine m_init 42 [.ref (gad (xG X) 53), .int (2), .ref (gad (xG X) 46)] [] (t := 54) (c := 9) (n := 592) C kiX10_21 (mX0_init (mc_g C).1 53 _ (by (first | rfl | assumption))) rfl rfl ⟨by decide, by decide⟩ ⟨by decide, by decide⟩ (show (3 : Nat) ≤ 8 by decide) dX10_init_39 rfl ?_
  refine m_aast 43 2 (t := 56) (i := 46) (N := 10) (t0 := 4) (ci := 0) (o := 53) (r := (RX0, TX0, 2)) (cs := [some (some 47), some (some 50), some none, some none, some none, some none, some none, some none, some none, some none]) (fs := [some (some 54), some (some 55)]) (f := (fun _ => 0)) (f2 := (fun _ => 0)) (g := (fun _ => 0)) (g2 := (fun _ => 0)) C (by omega) (by (first | rfl | assumption)) rfl (by omega) (by (first | rfl | assumption)) rfl (by decide) (by decide) (by decide) dX10_init_42 rfl ?_
  refine m_iinc 46 0 [(1, .int (3)), (0, .ref (gad (xG X) 44))] (3) C dX10_init_43 rfl rfl (by decide) (by decide) rfl ?_
  refine m_goto 24 C dX10_init_46 rfl ?_
  refine m_iload_n 25 0 C dX10_init_24 rfl rfl ?_
  refine m_bipush 27 (9) C dX10_init_25 rfl (by decide) ?_
  refine m_icmp_gtF 30 49 C dX10_init_27 rfl rfl (by decide) ?_
  refine m_aload_n 31 1 C dX10_init_30 rfl rfl ?_
  refine m_getR 34 (t := 56) (i := 44) (j := 46) (fs := [some (some 45), some (some 46)]) (f := (fun _ => 0)) (g := (fun _ => 0)) C kfX10_17 (by omega) (by (first | rfl | assumption)) rfl dX10_init_31 rfl ?_
  refine m_iload_n 35 0 C dX10_init_34 rfl rfl ?_
  refine m_new 38 [some none, some none] (t := 56) (c := 11) (n := 624) C mlX0 tw_278 tw_259 tw_78 (mfX0 _) (by decide) (by decide) dX10_init_35 rfl ?_
  refine m_dup 39 C dX10_init_38 rfl rfl ?_
  refine m_init 42 [.ref (gad (xG X) 56), .int (3), .ref (gad (xG X) 46)] [] (t := 57) (c := 12) (n := 626) C kiX10_21 (mX0_init (mc_g C).1 56 _ (by (first | rfl | assumption))) rfl rfl ⟨by decide, by decide⟩ ⟨by decide, by decide⟩ (show (3 : Nat) ≤ 8 by decide) dX10_init_39 rfl ?_
  refine m_aast 43 3 (t := 59) (i := 46) (N := 10) (t0 := 4) (ci := 0) (o := 56) (r := (RX0, TX0, 2)) (cs := [some (some 47), some (some 50), some (some 53), some none, some none, some none, some none, some none, some none, some none]) (fs := [some (some 57), some (some 58)]) (f := (fun _ => 0)) (f2 := (fun _ => 0)) (g := (fun _ => 0)) (g2 := (fun _ => 0)) C (by omega) (by (first | rfl | assumption)) rfl (by omega) (by (first | rfl | assumption)) rfl (by decide) (by decide) (by decide) dX10_init_42 rfl ?_
  refine m_iinc 46 0 [(1, .int (4)), (0, .ref (gad (xG X) 44))] (4) C dX10_init_43 rfl rfl (by decide) (by decide) rfl ?_
  refine m_goto 24 C dX10_init_46 rfl ?_
  refine m_iload_n 25 0 C dX10_init_24 rfl rfl ?_
  refine m_bipush 27 (9) C dX10_init_25 rfl (by decide) ?_
  refine m_icmp_gtF 30 49 C dX10_init_27 rfl rfl (by decide) ?_
  refine m_aload_n 31 1 C dX10_init_30 rfl rfl ?_
  refine m_getR 34 (t := 59) (i := 44) (j := 46) (fs := [some (some 45), some (some 46)]) (f := (fun _ => 0)) (g := (fun _ => 0)) C kfX10_17 (by omega) (by (first | rfl | assumption)) rfl dX10_init_31 rfl ?_
  refine m_iload_n 35 0 C dX10_init_34 rfl rfl ?_
  refine m_new 38 [some none, some none] (t := 59) (c := 14) (n := 658) C mlX0 tw_278 tw_259 tw_78 (mfX0 _) (by decide) (by decide) dX10_init_35 rfl ?_
  refine m_dup 39 C dX10_init_38 rfl rfl ?_
  refine m_init 42 [.ref (gad (xG X) 59), .int (4), .ref (gad (xG X) 46)] [] (t := 60) (c := 15) (n := 660) C kiX10_21 (mX0_init (mc_g C).1 59 _ (by (first | rfl | assumption))) rfl rfl ⟨by decide, by decide⟩ ⟨by decide, by decide⟩ (show (3 : Nat) ≤ 8 by decide) dX10_init_39 rfl ?_
  refine m_aast 43 4 (t := 62) (i := 46) (N := 10) (t0 := 4) (ci := 0) (o := 59) (r := (RX0, TX0, 2)) (cs := [some (some 47), some (some 50), some (some 53), some (some 56), some none, some none, some none, some none, some none, some none]) (fs := [some (some 60), some (some 61)]) (f := (fun _ => 0)) (f2 := (fun _ => 0)) (g := (fun _ => 0)) (g2 := (fun _ => 0)) C (by omega) (by (first | rfl | assumption)) rfl (by omega) (by (first | rfl | assumption)) rfl (by decide) (by decide) (by decide) dX10_init_42 rfl ?_
  refine m_iinc 46 0 [(1, .int (5)), (0, .ref (gad (xG X) 44))] (5) C dX10_init_43 rfl rfl (by decide) (by decide) rfl ?_
  refine m_goto 24 C dX10_init_46 rfl ?_
  refine m_iload_n 25 0 C dX10_init_24 rfl rfl ?_
  refine m_bipush 27 (9) C dX10_init_25 rfl (by decide) ?_
  refine m_icmp_gtF 30 49 C dX10_init_27 rfl rfl (by decide) ?_
  refine m_aload_n 31 1 C dX10_init_30 rfl rfl ?_
  refine m_getR 34 (t := 62) (i := 44) (j := 46) (fs := [some (some 45), some (some 46)]) (f := (fun _ => 0)) (g := (fun _ => 0)) C kfX10_17 (by omega) (by (first | rfl | assumption)) rfl dX10_init_31 rfl ?_
  refine m_iload_n 35 0 C dX10_init_34 rfl rfl ?_
  refine m_new 38 [some none, some none] (t := 62) (c := 17) (n := 692) C mlX0 tw_278 tw_259 tw_78 (mfX0 _) (by decide) (by decide) dX10_init_35 rfl ?_
  refine m_dup 39 C dX10_init_38 rfl rfl ?_
  refine m_init 42 [.ref (gad (xG X) 62), .int (5), .ref (gad (xG X) 46)] [] (t := 63) (c := 18) (n := 694) C kiX10_21 (mX0_init (mc_g C).1 62 _ (by (first | rfl | assumption))) rfl rfl ⟨by decide, by decide⟩ ⟨by decide, by decide⟩ (show (3 : Nat) ≤ 8 by decide) dX10_init_39 rfl ?_
  refine m_aast 43 5 (t := 65) (i := 46) (N := 10) (t0 := 4) (ci := 0) (o := 62) (r := (RX0, TX0, 2)) (cs := [some (some 47), some (some 50), some (some 53), some (some 56), some (some 59), some none, some none, some none, some none, some none]) (fs := [some (some 63), some (some 64)]) (f := (fun _ => 0)) (f2 := (fun _ => 0)) (g := (fun _ => 0)) (g2 := (fun _ => 0)) C (by omega) (by (first | rfl | assumption)) rfl (by omega) (by (first | rfl | assumption)) rfl (by decide) (by decide) (by decide) dX10_init_42 rfl ?_
  refine m_iinc 46 0 [(1, .int (6)), (0, .ref (gad (xG X) 44))] (6) C dX10_init_43 rfl rfl (by decide) (by decide) rfl ?_
  refine m_goto 24 C dX10_init_46 rfl ?_
  refine m_iload_n 25 0 C dX10_init_24 rfl rfl ?_
  refine m_bipush 27 (9) C dX10_init_25 rfl (by decide) ?_
  refine m_icmp_gtF 30 49 C dX10_init_27 rfl rfl (by decide) ?_
  refine m_aload_n 31 1 C dX10_init_30 rfl rfl ?_
  refine m_getR 34 (t := 65) (i := 44) (j := 46) (fs := [some (some 45), some (some 46)]) (f := (fun _ => 0)) (g := (fun _ => 0)) C kfX10_17 (by omega) (by (first | rfl | assumption)) rfl dX10_init_31 rfl ?_
  refine m_iload_n 35 0 C dX10_init_34 rfl rfl ?_
  refine m_new 38 [some none, some none] (t := 65) (c := 20) (n := 726) C mlX0 tw_278 tw_259 tw_78 (mfX0 _) (by decide) (by decide) dX10_init_35 rfl ?_
  refine m_dup 39 C dX10_init_38 rfl rfl ?_
  refine m_init 42 [.ref (gad (xG X) 65), .int (6), .ref (gad (xG X) 46)] [] (t := 66) (c := 21) (n := 728) C kiX10_21 (mX0_init (mc_g C).1 65 _ (by (first | rfl | assumption))) rfl rfl ⟨by decide, by decide⟩ ⟨by decide, by decide⟩ (show (3 : Nat) ≤ 8 by decide) dX10_init_39 rfl ?_
  refine m_aast 43 6 (t := 68) (i := 46) (N := 10) (t0 := 4) (ci := 0) (o := 65) (r := (RX0, TX0, 2)) (cs := [some (some 47), some (some 50), some (some 53), some (some 56), some (some 59), some (some 62), some none, some none, some none, some none]) (fs := [some (some 66), some (some 67)]) (f := (fun _ => 0)) (f2 := (fun _ => 0)) (g := (fun _ => 0)) (g2 := (fun _ => 0)) C (by omega) (by (first | rfl | assumption)) rfl (by omega) (by (first | rfl | assumption)) rfl (by decide) (by decide) (by decide) dX10_init_42 rfl ?_
  refine m_iinc 46 0 [(1, .int (7)), (0, .ref (gad (xG X) 44))] (7) C dX10_init_43 rfl rfl (by decide) (by decide) rfl ?_
  refine m_goto 24 C dX10_init_46 rfl ?_
  refine m_iload_n 25 0 C dX10_init_24 rfl rfl ?_
  refine m_bipush 27 (9) C dX10_init_25 rfl (by decide) ?_
  refine m_icmp_gtF 30 49 C dX10_init_27 rfl rfl (by decide) ?_
  refine m_aload_n 31 1 C dX10_init_30 rfl rfl ?_
  refine m_getR 34 (t := 68) (i := 44) (j := 46) (fs := [some (some 45), some (some 46)]) (f := (fun _ => 0)) (g := (fun _ => 0)) C kfX10_17 (by omega) (by (first | rfl | assumption)) rfl dX10_init_31 rfl ?_
  refine m_iload_n 35 0 C dX10_init_34 rfl rfl ?_
  refine m_new 38 [some none, some none] (t := 68) (c := 23) (n := 760) C mlX0 tw_278 tw_259 tw_78 (mfX0 _) (by decide) (by decide) dX10_init_35 rfl ?_
  refine m_dup 39 C dX10_init_38 rfl rfl ?_
  refine m_init 42 [.ref (gad (xG X) 68), .int (7), .ref (gad (xG X) 46)] [] (t := 69) (c := 24) (n := 762) C kiX10_21 (mX0_init (mc_g C).1 68 _ (by (first | rfl | assumption))) rfl rfl ⟨by decide, by decide⟩ ⟨by decide, by decide⟩ (show (3 : Nat) ≤ 8 by decide) dX10_init_39 rfl ?_
  refine m_aast 43 7 (t := 71) (i := 46) (N := 10) (t0 := 4) (ci := 0) (o := 68) (r := (RX0, TX0, 2)) (cs := [some (some 47), some (some 50), some (some 53), some (some 56), some (some 59), some (some 62), some (some 65), some none, some none, some none]) (fs := [some (some 69), some (some 70)]) (f := (fun _ => 0)) (f2 := (fun _ => 0)) (g := (fun _ => 0)) (g2 := (fun _ => 0)) C (by omega) (by (first | rfl | assumption)) rfl (by omega) (by (first | rfl | assumption)) rfl (by decide) (by decide) (by decide) dX10_init_42 rfl ?_
  refine m_iinc 46 0 [(1, .int (8)), (0, .ref (gad (xG X) 44))] (8) C dX10_init_43 rfl rfl (by decide) (by decide) rfl ?_
  refine m_goto 24 C dX10_init_46 rfl ?_
  refine m_iload_n 25 0 C dX10_init_24 rfl rfl ?_
  refine m_bipush 27 (9) C dX10_init_25 rfl (by decide) ?_
  refine m_icmp_gtF 30 49 C dX10_init_27 rfl rfl (by decide) ?_
  refine m_aload_n 31 1 C dX10_init_30 rfl rfl ?_
  refine m_getR 34 (t := 71) (i := 44) (j := 46) (fs := [some (some 45), some (some 46)]) (f := (fun _ => 0)) (g := (fun _ => 0)) C kfX10_17 (by omega) (by (first | rfl | assumption)) rfl dX10_init_31 rfl ?_
  refine m_iload_n 35 0 C dX10_init_34 rfl rfl ?_
  refine m_new 38 [some none, some none] (t := 71) (c := 26) (n := 794) C mlX0 tw_278 tw_259 tw_78 (mfX0 _) (by decide) (by decide) dX10_init_35 rfl ?_
  refine m_dup 39 C dX10_init_38 rfl rfl ?_
  refine m_init 42 [.ref (gad (xG X) 71), .int (8), .ref (gad (xG X) 46)] [] (t := 72) (c := 27) (n := 796) C kiX10_21 (mX0_init (mc_g C).1 71 _ (by (first | rfl | assumption))) rfl rfl ⟨by decide, by decide⟩ ⟨by decide, by decide⟩ (show (3 : Nat) ≤ 8 by decide) dX10_init_39 rfl ?_
  refine m_aast 43 8 (t := 74) (i := 46) (N := 10) (t0 := 4) (ci := 0) (o := 71) (r := (RX0, TX0, 2)) (cs := [some (some 47), some (some 50), some (some 53), some (some 56), some (some 59), some (some 62), some (some 65), some (some 68), some none, some none]) (fs := [some (some 72), some (some 73)]) (f := (fun _ => 0)) (f2 := (fun _ => 0)) (g := (fun _ => 0)) (g2 := (fun _ => 0)) C (by omega) (by (first | rfl | assumption)) rfl (by omega) (by (first | rfl | assumption)) rfl (by decide) (by decide) (by decide) dX10_init_42 rfl ?_
  refine m_iinc 46 0 [(1, .int (9)), (0, .ref (gad (xG X) 44))] (9) C dX10_init_43 rfl rfl (by decide) (by decide) rfl ?_
  refine m_goto 24 C dX10_init_46 rfl ?_
  refine m_iload_n 25 0 C dX10_init_24 rfl rfl ?_
  refine m_bipush 27 (9) C dX10_init_25 rfl (by decide) ?_
  refine m_icmp_gtF 30 49 C dX10_init_27 rfl rfl (by decide) ?_
  refine m_aload_n 31 1 C dX10_init_30 rfl rfl ?_
  refine m_getR 34 (t := 74) (i := 44) (j := 46) (fs := [some (some 45), some (some 46)]) (f := (fun _ => 0)) (g := (fun _ => 0)) C kfX10_17 (by omega) (by (first | rfl | assumption)) rfl dX10_init_31 rfl ?_
  refine m_iload_n 35 0 C dX10_init_34 rfl rfl ?_
  refine m_new 38 [some none, some none] (t := 74) (c := 29) (n := 828) C mlX0 tw_278 tw_259 tw_78 (mfX0 _) (by decide) (by decide) dX10_init_35 rfl ?_
  refine m_dup 39 C dX10_init_38 rfl rfl ?_
  refine m_init 42 [.ref (gad (xG X) 74), .int (9), .ref (gad (xG X) 46)] [] (t := 75) (c := 30) (n := 830) C kiX10_21 (mX0_init (mc_g C).1 74 _ (by (first | rfl | assumption))) rfl rfl ⟨by decide, by decide⟩ ⟨by decide, by decide⟩ (show (3 : Nat) ≤ 8 by decide) dX10_init_39 rfl ?_
  refine m_aast 43 9 (t := 77) (i := 46) (N := 10) (t0 := 4) (ci := 0) (o := 74) (r := (RX0, TX0, 2)) (cs := [some (some 47), some (some 50), some (some 53), some (some 56), some (some 59), some (some 62), some (some 65), some (some 68), some (some 71), some none]) (fs := [some (some 75), some (some 76)]) (f := (fun _ => 0)) (f2 := (fun _ => 0)) (g := (fun _ => 0)) (g2 := (fun _ => 0)) C (by omega) (by (first | rfl | assumption)) rfl (by omega) (by (first | rfl | assumption)) rfl (by decide) (by decide) (by decide) dX10_init_42 rfl ?_
  refine m_iinc 46 0 [(1, .int (10)), (0, .ref (gad (xG X) 44))] (10) C dX10_init_43 rfl rfl (by decide) (by decide) rfl ?_
  refine m_goto 24 C dX10_init_46 rfl ?_
  refine m_iload_n 25 0 C dX10_init_24 rfl rfl ?_
  refine m_bipush 27 (9) C dX10_init_25 rfl (by decide) ?_
  refine m_icmp_gtT 49 C dX10_init_27 rfl (by decide) ?_
  refine m_ret C hQ (mk_ovs (fun i hi => by ((try simp (disch := omega) only [va_up_ne, va_up_self, mk_ov_lt, Nat.add_zero]) <;> first | done | rfl | assumption)) (fun i hi => ?_)) dX10_init_49
  rcases (show i = 0 ∨ i = 1 ∨ i = 2 ∨ i = 3 ∨ i = 4 ∨ i = 5 ∨ i = 6 ∨ i = 7 ∨ i = 8 ∨ i = 9 ∨ i = 10 ∨ i = 11 ∨ i = 12 ∨ i = 13 ∨ i = 14 ∨ i = 15 ∨ i = 16 ∨ i = 17 ∨ i = 18 ∨ i = 19 ∨ i = 20 ∨ i = 21 ∨ i = 22 ∨ i = 23 ∨ i = 24 ∨ i = 25 ∨ i = 26 ∨ i = 27 ∨ i = 28 ∨ i = 29 ∨ i = 30 ∨ i = 31 ∨ i = 32 by omega) with rfl | rfl | rfl | rfl | rfl | rfl | rfl | rfl | rfl | rfl | rfl | rfl | rfl | rfl | rfl | rfl | rfl | rfl | rfl | rfl | rfl | rfl | rfl | rfl | rfl | rfl | rfl | rfl | rfl | rfl | rfl | rfl | rfl
  · rfl
  · rfl
  · rfl
  · rfl
  · rfl
  · rfl
  · rfl
  · rfl
  · rfl
  · rfl
  · rfl
  · rfl
  · rfl
  · rfl
  · rfl
  · rfl
  · rfl
  · rfl
  · rfl
  · rfl
  · rfl
  · rfl
  · rfl
  · rfl
  · rfl
  · rfl
  · rfl
  · rfl
  · rfl
  · rfl
  · rfl
  · rfl
  · rfl
