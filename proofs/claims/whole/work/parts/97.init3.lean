theorem dX6_init_0 : decode cX6_init 0 = .ok (.aload_n 0, 1) := by decide +kernel
theorem dX6_init_1 : decode cX6_init 1 = .ok (.invokespecial 3, 3) := by decide +kernel
theorem dX6_init_4 : decode cX6_init 4 = .ok (.aload_n 0, 1) := by decide +kernel
theorem dX6_init_5 : decode cX6_init 5 = .ok (.bipush 9, 2) := by decide +kernel
theorem dX6_init_7 : decode cX6_init 7 = .ok (.newarray .int, 2) := by decide +kernel
theorem dX6_init_9 : decode cX6_init 9 = .ok (.putfield 9, 3) := by decide +kernel
theorem dX6_init_12 : decode cX6_init 12 = .ok (.aload_n 0, 1) := by decide +kernel
theorem dX6_init_13 : decode cX6_init 13 = .ok (.new 15, 3) := by decide +kernel
theorem dX6_init_16 : decode cX6_init 16 = .ok (.dup, 1) := by decide +kernel
theorem dX6_init_17 : decode cX6_init 17 = .ok (.invokespecial 17, 3) := by decide +kernel
theorem dX6_init_20 : decode cX6_init 20 = .ok (.putfield 18, 3) := by decide +kernel
theorem dX6_init_23 : decode cX6_init 23 = .ok (.aload_n 0, 1) := by decide +kernel
theorem dX6_init_24 : decode cX6_init 24 = .ok (.new 15, 3) := by decide +kernel
theorem dX6_init_27 : decode cX6_init 27 = .ok (.dup, 1) := by decide +kernel
theorem dX6_init_28 : decode cX6_init 28 = .ok (.invokespecial 17, 3) := by decide +kernel
theorem dX6_init_31 : decode cX6_init 31 = .ok (.putfield 22, 3) := by decide +kernel
theorem dX6_init_34 : decode cX6_init 34 = .ok (.aload_n 0, 1) := by decide +kernel
theorem dX6_init_35 : decode cX6_init 35 = .ok (.new 15, 3) := by decide +kernel
theorem dX6_init_38 : decode cX6_init 38 = .ok (.dup, 1) := by decide +kernel
theorem dX6_init_39 : decode cX6_init 39 = .ok (.invokespecial 17, 3) := by decide +kernel
theorem dX6_init_42 : decode cX6_init 42 = .ok (.putfield 25, 3) := by decide +kernel
theorem dX6_init_45 : decode cX6_init 45 = .ok (.aload_n 0, 1) := by decide +kernel
theorem dX6_init_46 : decode cX6_init 46 = .ok (.new 28, 3) := by decide +kernel
theorem dX6_init_49 : decode cX6_init 49 = .ok (.dup, 1) := by decide +kernel
theorem dX6_init_50 : decode cX6_init 50 = .ok (.invokespecial 30, 3) := by decide +kernel
theorem dX6_init_53 : decode cX6_init 53 = .ok (.putfield 31, 3) := by decide +kernel
theorem dX6_init_56 : decode cX6_init 56 = .ok (.aload_n 0, 1) := by decide +kernel
theorem dX6_init_57 : decode cX6_init 57 = .ok (.bipush 11, 2) := by decide +kernel
theorem dX6_init_59 : decode cX6_init 59 = .ok (.anewarray 35, 3) := by decide +kernel
theorem dX6_init_62 : decode cX6_init 62 = .ok (.putfield 37, 3) := by decide +kernel
theorem dX6_init_65 : decode cX6_init 65 = .ok (.aload_n 0, 1) := by decide +kernel
theorem dX6_init_66 : decode cX6_init 66 = .ok (.new 35, 3) := by decide +kernel
theorem dX6_init_69 : decode cX6_init 69 = .ok (.dup, 1) := by decide +kernel
theorem dX6_init_70 : decode cX6_init 70 = .ok (.invokespecial 41, 3) := by decide +kernel
theorem dX6_init_73 : decode cX6_init 73 = .ok (.putfield 42, 3) := by decide +kernel
theorem dX6_init_76 : decode cX6_init 76 = .ok (.aload_n 0, 1) := by decide +kernel
theorem dX6_init_77 : decode cX6_init 77 = .ok (.bipush 6, 2) := by decide +kernel
theorem dX6_init_79 : decode cX6_init 79 = .ok (.newarray .int, 2) := by decide +kernel
theorem dX6_init_81 : decode cX6_init 81 = .ok (.putfield 46, 3) := by decide +kernel
theorem dX6_init_84 : decode cX6_init 84 = .ok (.aload_n 0, 1) := by decide +kernel
theorem dX6_init_85 : decode cX6_init 85 = .ok (.new 49, 3) := by decide +kernel
theorem dX6_init_88 : decode cX6_init 88 = .ok (.dup, 1) := by decide +kernel
theorem dX6_init_89 : decode cX6_init 89 = .ok (.invokespecial 51, 3) := by decide +kernel
theorem dX6_init_92 : decode cX6_init 92 = .ok (.putfield 52, 3) := by decide +kernel
theorem dX6_init_95 : decode cX6_init 95 = .ok (.aload_n 0, 1) := by decide +kernel
theorem dX6_init_96 : decode cX6_init 96 = .ok (.aload_n 1, 1) := by decide +kernel
theorem dX6_init_97 : decode cX6_init 97 = .ok (.putfield 56, 3) := by decide +kernel
theorem dX6_init_100 : decode cX6_init 100 = .ok (.aload_n 0, 1) := by decide +kernel
theorem dX6_init_101 : decode cX6_init 101 = .ok (.aload_n 2, 1) := by decide +kernel
theorem dX6_init_102 : decode cX6_init 102 = .ok (.putfield 60, 3) := by decide +kernel
theorem dX6_init_105 : decode cX6_init 105 = .ok (.iconst 0, 1) := by decide +kernel
theorem dX6_init_106 : decode cX6_init 106 = .ok (.istore_n 3, 1) := by decide +kernel
theorem dX6_init_107 : decode cX6_init 107 = .ok (.iload_n 3, 1) := by decide +kernel
theorem dX6_init_108 : decode cX6_init 108 = .ok (.bipush 10, 2) := by decide +kernel
theorem dX6_init_110 : decode cX6_init 110 = .ok (.if_icmp .gt 22, 3) := by decide +kernel
theorem dX6_init_113 : decode cX6_init 113 = .ok (.aload_n 0, 1) := by decide +kernel
theorem dX6_init_114 : decode cX6_init 114 = .ok (.getfield 37, 3) := by decide +kernel
theorem dX6_init_117 : decode cX6_init 117 = .ok (.iload_n 3, 1) := by decide +kernel
theorem dX6_init_118 : decode cX6_init 118 = .ok (.new 35, 3) := by decide +kernel
theorem dX6_init_121 : decode cX6_init 121 = .ok (.dup, 1) := by decide +kernel
theorem dX6_init_122 : decode cX6_init 122 = .ok (.invokespecial 41, 3) := by decide +kernel
theorem dX6_init_125 : decode cX6_init 125 = .ok (.aastore, 1) := by decide +kernel
theorem dX6_init_126 : decode cX6_init 126 = .ok (.iinc 3 1, 3) := by decide +kernel
theorem dX6_init_129 : decode cX6_init 129 = .ok (.goto (-22), 3) := by decide +kernel
theorem dX6_init_132 : decode cX6_init 132 = .ok (.return_, 1) := by decide +kernel
theorem tw_257 : ((Jvm.Cond.methodLink "MeterDesk$Sight" (3 : Nat) ({ cls := "java/lang/Object", name := "<init>", desc := "()V" } : Jvm.MethodName))) ∈ lw_gt := gt_of 257 (by decide +kernel) (by decide +kernel)
theorem tw_258 : ((Jvm.Cond.classLink "MeterDesk$Sight" (15 : Nat) "MeterDesk$Family")) ∈ lw_gt := gt_of 258 (by decide +kernel) (by decide +kernel)
theorem kiX6_17 : mk_LI RX6 17 yX0_init cX0_init 1 0 := ⟨Or.inr (by decide), tw_261, tw_78, tw_262, rfl, ⟨by decide, by decide, by decide +kernel⟩⟩
theorem tw_272 : ((Jvm.Cond.classLink "MeterDesk$Sight" (28 : Nat) "MeterDesk$Trials")) ∈ lw_gt := gt_of 272 (by decide +kernel) (by decide +kernel)
theorem tw_273 : ((Jvm.Cond.instantiable "MeterDesk$Trials" (2 : Nat))) ∈ lw_gt := gt_of 273 (by decide +kernel) (by decide +kernel)
theorem tw_274 : ((Jvm.Cond.methodLink "MeterDesk$Sight" (30 : Nat) ({ cls := "MeterDesk$Trials", name := "<init>", desc := "()V" } : Jvm.MethodName))) ∈ lw_gt := gt_of 274 (by decide +kernel) (by decide +kernel)
theorem tw_275 : ((Jvm.Cond.instanceMethod ({ cls := "MeterDesk$Trials", name := "<init>", desc := "()V" } : Jvm.MethodName))) ∈ lw_gt := gt_of 275 (by decide +kernel) (by decide +kernel)
theorem tw_276 : ((Jvm.Cond.code ({ cls := "MeterDesk$Trials", name := "<init>", desc := "()V" } : Jvm.MethodName) prog_12_method_1_code (2 : Nat) (Option.none : Option Jvm.ClassFile.FieldType))) ∈ lw_gt := gt_of 276 (by decide +kernel) (by decide +kernel)
theorem kiX6_30 : mk_LI RX6 30 yX10_init cX10_init 2 0 := ⟨Or.inl tw_274, tw_275, tw_79, tw_276, rfl, ⟨by decide, by decide, by decide +kernel⟩⟩
theorem tw_289 : ((Jvm.Cond.classLink "MeterDesk$Sight" (35 : Nat) "MeterDesk$Parts")) ∈ lw_gt := gt_of 289 (by decide +kernel) (by decide +kernel)
theorem tw_291 : ((Jvm.Cond.instantiable "MeterDesk$Parts" (1 : Nat))) ∈ lw_gt := gt_of 291 (by decide +kernel) (by decide +kernel)
theorem tw_293 : ((Jvm.Cond.instanceMethod ({ cls := "MeterDesk$Parts", name := "<init>", desc := "()V" } : Jvm.MethodName))) ∈ lw_gt := gt_of 293 (by decide +kernel) (by decide +kernel)
theorem tw_294 : ((Jvm.Cond.code ({ cls := "MeterDesk$Parts", name := "<init>", desc := "()V" } : Jvm.MethodName) prog_4_method_1_code (1 : Nat) (Option.none : Option Jvm.ClassFile.FieldType))) ∈ lw_gt := gt_of 294 (by decide +kernel) (by decide +kernel)
theorem kiX6_41 : mk_LI RX6 41 yX2_init cX2_init 1 0 := ⟨Or.inr (by decide), tw_293, tw_80, tw_294, rfl, ⟨by decide, by decide, by decide +kernel⟩⟩
theorem tw_300 : ((Jvm.Cond.classLink "MeterDesk$Sight" (49 : Nat) "MeterDesk$Servers")) ∈ lw_gt := gt_of 300 (by decide +kernel) (by decide +kernel)
theorem tw_301 : ((Jvm.Cond.instantiable "MeterDesk$Servers" (4 : Nat))) ∈ lw_gt := gt_of 301 (by decide +kernel) (by decide +kernel)
theorem tw_303 : ((Jvm.Cond.instanceMethod ({ cls := "MeterDesk$Servers", name := "<init>", desc := "()V" } : Jvm.MethodName))) ∈ lw_gt := gt_of 303 (by decide +kernel) (by decide +kernel)
theorem tw_304 : ((Jvm.Cond.code ({ cls := "MeterDesk$Servers", name := "<init>", desc := "()V" } : Jvm.MethodName) prog_7_method_1_code (1 : Nat) (Option.none : Option Jvm.ClassFile.FieldType))) ∈ lw_gt := gt_of 304 (by decide +kernel) (by decide +kernel)
theorem kiX6_51 : mk_LI RX6 51 yX5_init cX5_init 1 0 := ⟨Or.inr (by decide), tw_303, tw_81, tw_304, rfl, ⟨by decide, by decide, by decide +kernel⟩⟩
def lX6 : List mk_E := [(0, 6, 0, [none, none, none, some (some 34), some (some 1), some (some 19), some (some 35), some (some 38), some (some 41), some (some 44), some (some 77), some (some 78), some (some 80), some (some 81), none, none, none, none, none], (fun _ => 0), (fun _ => 0)), (1, 0, 9, [], (fun _ => 0), (fun _ => 0)), (0, 0, 0, [some (some 36), some (some 37)], (fun _ => 0), (fun _ => 0)), (2, 3, 16, [], (fun _ => 0), (fun _ => 0)), (2, 3, 16, [], (fun _ => 0), (fun _ => 0)), (0, 0, 0, [some (some 39), some (some 40)], (fun _ => 0), (fun _ => 0)), (2, 3, 16, [], (fun _ => 0), (fun _ => 0)), (2, 3, 16, [], (fun _ => 0), (fun _ => 0)), (0, 0, 0, [some (some 42), some (some 43)], (fun _ => 0), (fun _ => 0)), (2, 3, 16, [], (fun _ => 0), (fun _ => 0)), (2, 3, 16, [], (fun _ => 0), (fun _ => 0)), (0, 10, 0, [some (some 45), some (some 46)], (fun _ => 0), (fun _ => 0)), (1, 0, 512, [], (fun _ => 0), (fun _ => 0)), (3, 4, 10, [some (some 47), some (some 50), some (some 53), some (some 56), some (some 59), some (some 62), some (some 65), some (some 68), some (some 71), some (some 74)], (fun _ => 0), (fun _ => 0)), (0, 0, 0, [some (some 48), some (some 49)], (fun _ => 0), (fun _ => 0)), (2, 3, 16, [], (fun _ => 0), (fun _ => 0)), (2, 3, 16, [], (fun _ => 0), (fun _ => 0)), (0, 0, 0, [some (some 51), some (some 52)], (fun _ => 0), (fun _ => 0)), (2, 3, 16, [], (fun _ => 0), (fun _ => 0)), (2, 3, 16, [], (fun _ => 0), (fun _ => 0)), (0, 0, 0, [some (some 54), some (some 55)], (fun _ => 0), (fun _ => 0)), (2, 3, 16, [], (fun _ => 0), (fun _ => 0)), (2, 3, 16, [], (fun _ => 0), (fun _ => 0)), (0, 0, 0, [some (some 57), some (some 58)], (fun _ => 0), (fun _ => 0)), (2, 3, 16, [], (fun _ => 0), (fun _ => 0)), (2, 3, 16, [], (fun _ => 0), (fun _ => 0)), (0, 0, 0, [some (some 60), some (some 61)], (fun _ => 0), (fun _ => 0)), (2, 3, 16, [], (fun _ => 0), (fun _ => 0)), (2, 3, 16, [], (fun _ => 0), (fun _ => 0)), (0, 0, 0, [some (some 63), some (some 64)], (fun _ => 0), (fun _ => 0)), (2, 3, 16, [], (fun _ => 0), (fun _ => 0)), (2, 3, 16, [], (fun _ => 0), (fun _ => 0)), (0, 0, 0, [some (some 66), some (some 67)], (fun _ => 0), (fun _ => 0)), (2, 3, 16, [], (fun _ => 0), (fun _ => 0)), (2, 3, 16, [], (fun _ => 0), (fun _ => 0)), (0, 0, 0, [some (some 69), some (some 70)], (fun _ => 0), (fun _ => 0)), (2, 3, 16, [], (fun _ => 0), (fun _ => 0)), (2, 3, 16, [], (fun _ => 0), (fun _ => 0)), (0, 0, 0, [some (some 72), some (some 73)], (fun _ => 0), (fun _ => 0)), (2, 3, 16, [], (fun _ => 0), (fun _ => 0)), (2, 3, 16, [], (fun _ => 0), (fun _ => 0)), (0, 0, 0, [some (some 75), some (some 76)], (fun _ => 0), (fun _ => 0)), (2, 3, 16, [], (fun _ => 0), (fun _ => 0)), (2, 3, 16, [], (fun _ => 0), (fun _ => 0)), (3, 5, 11, [some (some 85), some (some 87), some (some 89), some (some 91), some (some 93), some (some 95), some (some 97), some (some 99), some (some 101), some (some 103), some (some 105)], (fun _ => 0), (fun _ => 0)), (0, 2, 0, [some (some 79)], (fun _ => 0), (fun _ => 0)), (1, 0, 8, [], (fun _ => 0), (fun _ => 0)), (1, 0, 6, [], (fun _ => 0), (fun _ => 0)), (0, 5, 0, [none, some (some 82), some (some 83), some (some 84)], (fun _ => 0), (fun _ => 0)), (1, 0, 10, [], (fun _ => 0), (fun _ => 0)), (1, 0, 9, [], (fun _ => 0), (fun _ => 0)), (1, 0, 1024, [], (fun _ => 0), (fun _ => 0)), (0, 2, 0, [some (some 86)], (fun _ => 0), (fun _ => 0)), (1, 0, 8, [], (fun _ => 0), (fun _ => 0)), (0, 2, 0, [some (some 88)], (fun _ => 0), (fun _ => 0)), (1, 0, 8, [], (fun _ => 0), (fun _ => 0)), (0, 2, 0, [some (some 90)], (fun _ => 0), (fun _ => 0)), (1, 0, 8, [], (fun _ => 0), (fun _ => 0)), (0, 2, 0, [some (some 92)], (fun _ => 0), (fun _ => 0)), (1, 0, 8, [], (fun _ => 0), (fun _ => 0)), (0, 2, 0, [some (some 94)], (fun _ => 0), (fun _ => 0)), (1, 0, 8, [], (fun _ => 0), (fun _ => 0)), (0, 2, 0, [some (some 96)], (fun _ => 0), (fun _ => 0)), (1, 0, 8, [], (fun _ => 0), (fun _ => 0)), (0, 2, 0, [some (some 98)], (fun _ => 0), (fun _ => 0)), (1, 0, 8, [], (fun _ => 0), (fun _ => 0)), (0, 2, 0, [some (some 100)], (fun _ => 0), (fun _ => 0)), (1, 0, 8, [], (fun _ => 0), (fun _ => 0)), (0, 2, 0, [some (some 102)], (fun _ => 0), (fun _ => 0)), (1, 0, 8, [], (fun _ => 0), (fun _ => 0)), (0, 2, 0, [some (some 104)], (fun _ => 0), (fun _ => 0)), (1, 0, 8, [], (fun _ => 0), (fun _ => 0)), (0, 2, 0, [some (some 106)], (fun _ => 0), (fun _ => 0)), (1, 0, 8, [], (fun _ => 0), (fun _ => 0))]
theorem mX6_init {l : Launch} {G : ux_G} (hg : mk_g G) (V : Nat → mk_E) (hV : V 33 = (0, 6, 0, [none, none, none, some none, some none, some none, some none, some none, some none, some none, some none, some none, some none, some none, none, none, none, none, none], (fun _ => 0), (fun _ => 0))) : mk_M l G yX6_init cX6_init 4 3 53 73 2147 [.ref (gad G 33), .ref (gad G 1), .ref (gad G 19)] 34 V 107 (mk_ov V 33 lX6) := by
  refine mk_of hg (by decide) rfl (show (3 : Nat) ≤ 4 by decide) ?_
  intro X hG hl C hQ
  subst hG
  replace C : mk_C X cX6_init RX6 4 3 53 73 2147 := C
  change mk_Wt X 4 0 [(0, .ref (gad (xG X) 33)), (1, .ref (gad (xG X) 1)), (2, .ref (gad (xG X) 19))] [] 34 V 0 0
  refine m_aload_n 1 0 C dX6_init_0 rfl rfl ?_
  refine m_obj 4 C tw_257 tw_99 tw_100 dX6_init_1 rfl ⟨by decide, by decide⟩ ?_
  refine m_aload_n 5 0 C dX6_init_4 rfl rfl ?_
  refine m_bipush 7 (9) C dX6_init_5 rfl (by decide) ?_
  refine m_newI 9 9 (t := 34) (c := 0) (n := 0) C tw_163 (by decide) (by decide) (by decide) (by decide) (by decide) dX6_init_7 rfl ?_
  refine m_putF 12 (t := 35) (i := 33) (k0 := 3) (fs := [none, none, none, some none, some none, some none, some none, some none, some none, some none, some none, some none, some none, some none, none, none, none, none, none]) (f := (fun _ => 0)) (g := (fun _ => 0)) (j := 34) C mlX6 (by omega) (by (first | rfl | assumption)) (by decide) (show (3 : Nat) < 19 by decide) tw_328 rfl rfl (tyX6_ok 3 (by decide)) rfl rfl dX6_init_9 rfl ?_
  refine m_aload_n 13 0 C dX6_init_12 rfl rfl ?_
  refine m_new 16 [some none, some none] (t := 35) (c := 1) (n := 9) C mlX0 tw_258 tw_259 tw_78 (mfX0 _) (by decide) (by decide) dX6_init_13 rfl ?_
  refine m_dup 17 C dX6_init_16 rfl rfl ?_
  refine m_init 20 [.ref (gad (xG X) 35), .ref (gad (xG X) 33)] [] (t := 36) (c := 2) (n := 11) C kiX6_17 (mX0_init (mc_g C).1 35 _ (by (first | rfl | assumption))) rfl rfl ⟨by decide, by decide⟩ ⟨by decide, by decide⟩ (show (2 : Nat) ≤ 8 by decide) dX6_init_17 rfl ?_
  refine m_putF 23 (t := 38) (i := 33) (k0 := 6) (fs := [none, none, none, some (some 34), some none, some none, some none, some none, some none, some none, some none, some none, some none, some none, none, none, none, none, none]) (f := (fun _ => 0)) (g := (fun _ => 0)) (j := 35) C mlX6 (by omega) (by (first | rfl | assumption)) (by decide) (show (6 : Nat) < 19 by decide) tw_332 rfl rfl (tyX6_ok 6 (by decide)) rfl rfl dX6_init_20 rfl ?_
  refine m_aload_n 24 0 C dX6_init_23 rfl rfl ?_
  refine m_new 27 [some none, some none] (t := 38) (c := 4) (n := 43) C mlX0 tw_258 tw_259 tw_78 (mfX0 _) (by decide) (by decide) dX6_init_24 rfl ?_
  refine m_dup 28 C dX6_init_27 rfl rfl ?_
  refine m_init 31 [.ref (gad (xG X) 38), .ref (gad (xG X) 33)] [] (t := 39) (c := 5) (n := 45) C kiX6_17 (mX0_init (mc_g C).1 38 _ (by (first | rfl | assumption))) rfl rfl ⟨by decide, by decide⟩ ⟨by decide, by decide⟩ (show (2 : Nat) ≤ 8 by decide) dX6_init_28 rfl ?_
  refine m_putF 34 (t := 41) (i := 33) (k0 := 7) (fs := [none, none, none, some (some 34), some none, some none, some (some 35), some none, some none, some none, some none, some none, some none, some none, none, none, none, none, none]) (f := (fun _ => 0)) (g := (fun _ => 0)) (j := 38) C mlX6 (by omega) (by (first | rfl | assumption)) (by decide) (show (7 : Nat) < 19 by decide) tw_333 rfl rfl (tyX6_ok 7 (by decide)) rfl rfl dX6_init_31 rfl ?_
  refine m_aload_n 35 0 C dX6_init_34 rfl rfl ?_
  refine m_new 38 [some none, some none] (t := 41) (c := 7) (n := 77) C mlX0 tw_258 tw_259 tw_78 (mfX0 _) (by decide) (by decide) dX6_init_35 rfl ?_
  refine m_dup 39 C dX6_init_38 rfl rfl ?_
  refine m_init 42 [.ref (gad (xG X) 41), .ref (gad (xG X) 33)] [] (t := 42) (c := 8) (n := 79) C kiX6_17 (mX0_init (mc_g C).1 41 _ (by (first | rfl | assumption))) rfl rfl ⟨by decide, by decide⟩ ⟨by decide, by decide⟩ (show (2 : Nat) ≤ 8 by decide) dX6_init_39 rfl ?_
  refine m_putF 45 (t := 44) (i := 33) (k0 := 8) (fs := [none, none, none, some (some 34), some none, some none, some (some 35), some (some 38), some none, some none, some none, some none, some none, some none, none, none, none, none, none]) (f := (fun _ => 0)) (g := (fun _ => 0)) (j := 41) C mlX6 (by omega) (by (first | rfl | assumption)) (by decide) (show (8 : Nat) < 19 by decide) tw_334 rfl rfl (tyX6_ok 8 (by decide)) rfl rfl dX6_init_42 rfl ?_
  refine m_aload_n 46 0 C dX6_init_45 rfl rfl ?_
  refine m_new 49 [some none, some none] (t := 44) (c := 10) (n := 111) C mlX10 tw_272 tw_273 tw_79 (mfX10 _) (by decide) (by decide) dX6_init_46 rfl ?_
  refine m_dup 50 C dX6_init_49 rfl rfl ?_
  refine m_init 53 [.ref (gad (xG X) 44), .ref (gad (xG X) 33)] [] (t := 45) (c := 11) (n := 113) C kiX6_30 (mX10_init (mc_g C).1 _ (by (first | rfl | assumption))) rfl rfl ⟨by decide, by decide⟩ ⟨by decide, by decide⟩ (show (2 : Nat) ≤ 8 by decide) dX6_init_50 rfl ?_
  refine m_putF 56 (t := 77) (i := 33) (k0 := 9) (fs := [none, none, none, some (some 34), some none, some none, some (some 35), some (some 38), some (some 41), some none, some none, some none, some none, some none, none, none, none, none, none]) (f := (fun _ => 0)) (g := (fun _ => 0)) (j := 44) C mlX6 (by omega) (by (first | rfl | assumption)) (by decide) (show (9 : Nat) < 19 by decide) tw_335 rfl rfl (tyX6_ok 9 (by decide)) rfl rfl dX6_init_53 rfl ?_
  refine m_aload_n 57 0 C dX6_init_56 rfl rfl ?_
  refine m_bipush 59 (11) C dX6_init_57 rfl (by decide) ?_
  refine m_newq 62 11 5 (t := 77) (c := 43) (n := 975) C tw_289 (mc_O C).2.1 rfl (by decide) (by decide) (by decide) (by decide) (by decide) dX6_init_59 rfl ?_
  refine m_putF 65 (t := 78) (i := 33) (k0 := 10) (fs := [none, none, none, some (some 34), some none, some none, some (some 35), some (some 38), some (some 41), some (some 44), some none, some none, some none, some none, none, none, none, none, none]) (f := (fun _ => 0)) (g := (fun _ => 0)) (j := 77) C mlX6 (by omega) (by (first | rfl | assumption)) (by decide) (show (10 : Nat) < 19 by decide) tw_336 rfl rfl (tyX6_ok 10 (by decide)) rfl rfl dX6_init_62 rfl ?_
  refine m_aload_n 66 0 C dX6_init_65 rfl rfl ?_
  refine m_new 69 [some none] (t := 78) (c := 44) (n := 986) C mlX2 tw_289 tw_291 tw_80 (mfX2 _) (by decide) (by decide) dX6_init_66 rfl ?_
  refine m_dup 70 C dX6_init_69 rfl rfl ?_
  refine m_init 73 [.ref (gad (xG X) 78), .ref (gad (xG X) 33)] [] (t := 79) (c := 45) (n := 987) C kiX6_41 (mX2_init (mc_g C).1 78 _ (by (first | rfl | assumption))) rfl rfl ⟨by decide, by decide⟩ ⟨by decide, by decide⟩ (show (2 : Nat) ≤ 8 by decide) dX6_init_70 rfl ?_
  refine m_putF 76 (t := 80) (i := 33) (k0 := 11) (fs := [none, none, none, some (some 34), some none, some none, some (some 35), some (some 38), some (some 41), some (some 44), some (some 77), some none, some none, some none, none, none, none, none, none]) (f := (fun _ => 0)) (g := (fun _ => 0)) (j := 78) C mlX6 (by omega) (by (first | rfl | assumption)) (by decide) (show (11 : Nat) < 19 by decide) tw_337 rfl rfl (tyX6_ok 11 (by decide)) rfl rfl dX6_init_73 rfl ?_
  refine m_aload_n 77 0 C dX6_init_76 rfl rfl ?_
  refine m_bipush 79 (6) C dX6_init_77 rfl (by decide) ?_
  refine m_newI 81 6 (t := 80) (c := 46) (n := 995) C tw_163 (by decide) (by decide) (by decide) (by decide) (by decide) dX6_init_79 rfl ?_
  refine m_putF 84 (t := 81) (i := 33) (k0 := 12) (fs := [none, none, none, some (some 34), some none, some none, some (some 35), some (some 38), some (some 41), some (some 44), some (some 77), some (some 78), some none, some none, none, none, none, none, none]) (f := (fun _ => 0)) (g := (fun _ => 0)) (j := 80) C mlX6 (by omega) (by (first | rfl | assumption)) (by decide) (show (12 : Nat) < 19 by decide) tw_338 rfl rfl (tyX6_ok 12 (by decide)) rfl rfl dX6_init_81 rfl ?_
  refine m_aload_n 85 0 C dX6_init_84 rfl rfl ?_
  refine m_new 88 [none, some none, some none, some none] (t := 81) (c := 47) (n := 1001) C mlX5 tw_300 tw_301 tw_81 (mfX5 _) (by decide) (by decide) dX6_init_85 rfl ?_
  refine m_dup 89 C dX6_init_88 rfl rfl ?_
  refine m_init 92 [.ref (gad (xG X) 81), .ref (gad (xG X) 33)] [] (t := 82) (c := 48) (n := 1005) C kiX6_51 (mX5_init (mc_g C).1 _ (by (first | rfl | assumption))) rfl rfl ⟨by decide, by decide⟩ ⟨by decide, by decide⟩ (show (2 : Nat) ≤ 8 by decide) dX6_init_89 rfl ?_
  refine m_putF 95 (t := 85) (i := 33) (k0 := 13) (fs := [none, none, none, some (some 34), some none, some none, some (some 35), some (some 38), some (some 41), some (some 44), some (some 77), some (some 78), some (some 80), some none, none, none, none, none, none]) (f := (fun _ => 0)) (g := (fun _ => 0)) (j := 81) C mlX6 (by omega) (by (first | rfl | assumption)) (by decide) (show (13 : Nat) < 19 by decide) tw_339 rfl rfl (tyX6_ok 13 (by decide)) rfl rfl dX6_init_92 rfl ?_
  refine m_aload_n 96 0 C dX6_init_95 rfl rfl ?_
  refine m_aload_n 97 1 C dX6_init_96 rfl rfl ?_
  refine m_putF 100 (t := 85) (i := 33) (k0 := 4) (fs := [none, none, none, some (some 34), some none, some none, some (some 35), some (some 38), some (some 41), some (some 44), some (some 77), some (some 78), some (some 80), some (some 81), none, none, none, none, none]) (f := (fun _ => 0)) (g := (fun _ => 0)) (j := 1) C mlX6 (by omega) (by (first | rfl | assumption)) (by decide) (show (4 : Nat) < 19 by decide) tw_330 rfl rfl (tyX6_ok 4 (by decide)) rfl rfl dX6_init_97 rfl ?_
  refine m_aload_n 101 0 C dX6_init_100 rfl rfl ?_
  refine m_aload_n 102 2 C dX6_init_101 rfl rfl ?_
  refine m_putF 105 (t := 85) (i := 33) (k0 := 5) (fs := [none, none, none, some (some 34), some (some 1), some none, some (some 35), some (some 38), some (some 41), some (some 44), some (some 77), some (some 78), some (some 80), some (some 81), none, none, none, none, none]) (f := (fun _ => 0)) (g := (fun _ => 0)) (j := 19) C mlX6 (by omega) (by (first | rfl | assumption)) (by decide) (show (5 : Nat) < 19 by decide) tw_331 rfl rfl (tyX6_ok 5 (by decide)) rfl rfl dX6_init_102 rfl ?_
  refine m_iconst 106 (0) C dX6_init_105 rfl (by decide) ?_
  refine m_istore_n 107 [(3, .int (0)), (0, .ref (gad (xG X) 33)), (1, .ref (gad (xG X) 1)), (2, .ref (gad (xG X) 19))] C dX6_init_106 rfl (by decide) rfl ?_
  refine m_iload_n 108 0 C dX6_init_107 rfl rfl ?_
  refine m_bipush 110 (10) C dX6_init_108 rfl (by decide) ?_
  refine m_icmp_gtF 113 132 C dX6_init_110 rfl rfl (by decide) ?_
  refine m_aload_n 114 1 C dX6_init_113 rfl rfl ?_
  refine m_getR 117 (t := 85) (i := 33) (j := 77) (fs := [none, none, none, some (some 34), some (some 1), some (some 19), some (some 35), some (some 38), some (some 41), some (some 44), some (some 77), some (some 78), some (some 80), some (some 81), none, none, none, none, none]) (f := (fun _ => 0)) (g := (fun _ => 0)) C kfX6_37 (by omega) (by (first | rfl | assumption)) rfl dX6_init_114 rfl ?_
  refine m_iload_n 118 0 C dX6_init_117 rfl rfl ?_
  refine m_new 121 [some none] (t := 85) (c := 51) (n := 2048) C mlX2 tw_289 tw_291 tw_80 (mfX2 _) (by decide) (by decide) dX6_init_118 rfl ?_
  refine m_dup 122 C dX6_init_121 rfl rfl ?_
  refine m_init 125 [.ref (gad (xG X) 85), .int (0), .ref (gad (xG X) 77)] [] (t := 86) (c := 52) (n := 2049) C kiX6_41 (mX2_init (mc_g C).1 85 _ (by (first | rfl | assumption))) rfl rfl ⟨by decide, by decide⟩ ⟨by decide, by decide⟩ (show (3 : Nat) ≤ 8 by decide) dX6_init_122 rfl ?_
  refine m_aast 126 0 (t := 87) (i := 77) (N := 11) (t0 := 5) (ci := 2) (o := 85) (r := (RX2, TX2, 1)) (cs := [some none, some none, some none, some none, some none, some none, some none, some none, some none, some none, some none]) (fs := [some (some 86)]) (f := (fun _ => 0)) (f2 := (fun _ => 0)) (g := (fun _ => 0)) (g2 := (fun _ => 0)) C (by omega) (by (first | rfl | assumption)) rfl (by omega) (by (first | rfl | assumption)) rfl (by decide) (by decide) (by decide) dX6_init_125 rfl ?_
  refine m_iinc 129 0 [(3, .int (1)), (0, .ref (gad (xG X) 33)), (1, .ref (gad (xG X) 1)), (2, .ref (gad (xG X) 19))] (1) C dX6_init_126 rfl rfl (by decide) (by decide) rfl ?_
  refine m_goto 107 C dX6_init_129 rfl ?_
  refine m_iload_n 108 0 C dX6_init_107 rfl rfl ?_
  refine m_bipush 110 (10) C dX6_init_108 rfl (by decide) ?_
  refine m_icmp_gtF 113 132 C dX6_init_110 rfl rfl (by decide) ?_
  refine m_aload_n 114 1 C dX6_init_113 rfl rfl ?_
  refine m_getR 117 (t := 87) (i := 33) (j := 77) (fs := [none, none, none, some (some 34), some (some 1), some (some 19), some (some 35), some (some 38), some (some 41), some (some 44), some (some 77), some (some 78), some (some 80), some (some 81), none, none, none, none, none]) (f := (fun _ => 0)) (g := (fun _ => 0)) C kfX6_37 (by omega) (by (first | rfl | assumption)) rfl dX6_init_114 rfl ?_
  refine m_iload_n 118 0 C dX6_init_117 rfl rfl ?_
  refine m_new 121 [some none] (t := 87) (c := 53) (n := 2057) C mlX2 tw_289 tw_291 tw_80 (mfX2 _) (by decide) (by decide) dX6_init_118 rfl ?_
  refine m_dup 122 C dX6_init_121 rfl rfl ?_
  refine m_init 125 [.ref (gad (xG X) 87), .int (1), .ref (gad (xG X) 77)] [] (t := 88) (c := 54) (n := 2058) C kiX6_41 (mX2_init (mc_g C).1 87 _ (by (first | rfl | assumption))) rfl rfl ⟨by decide, by decide⟩ ⟨by decide, by decide⟩ (show (3 : Nat) ≤ 8 by decide) dX6_init_122 rfl ?_
  refine m_aast 126 1 (t := 89) (i := 77) (N := 11) (t0 := 5) (ci := 2) (o := 87) (r := (RX2, TX2, 1)) (cs := [some (some 85), some none, some none, some none, some none, some none, some none, some none, some none, some none, some none]) (fs := [some (some 88)]) (f := (fun _ => 0)) (f2 := (fun _ => 0)) (g := (fun _ => 0)) (g2 := (fun _ => 0)) C (by omega) (by (first | rfl | assumption)) rfl (by omega) (by (first | rfl | assumption)) rfl (by decide) (by decide) (by decide) dX6_init_125 rfl ?_
  refine m_iinc 129 0 [(3, .int (2)), (0, .ref (gad (xG X) 33)), (1, .ref (gad (xG X) 1)), (2, .ref (gad (xG X) 19))] (2) C dX6_init_126 rfl rfl (by decide) (by decide) rfl ?_
  refine m_goto 107 C dX6_init_129 rfl ?_
  refine m_iload_n 108 0 C dX6_init_107 rfl rfl ?_
  refine m_bipush 110 (10) C dX6_init_108 rfl (by decide) ?_
  refine m_icmp_gtF 113 132 C dX6_init_110 rfl rfl (by decide) ?_
  refine m_aload_n 114 1 C dX6_init_113 rfl rfl ?_
  refine m_getR 117 (t := 89) (i := 33) (j := 77) (fs := [none, none, none, some (some 34), some (some 1), some (some 19), some (some 35), some (some 38), some (some 41), some (some 44), some (some 77), some (some 78), some (some 80), some (some 81), none, none, none, none, none]) (f := (fun _ => 0)) (g := (fun _ => 0)) C kfX6_37 (by omega) (by (first | rfl | assumption)) rfl dX6_init_114 rfl ?_
  refine m_iload_n 118 0 C dX6_init_117 rfl rfl ?_
  refine m_new 121 [some none] (t := 89) (c := 55) (n := 2066) C mlX2 tw_289 tw_291 tw_80 (mfX2 _) (by decide) (by decide) dX6_init_118 rfl ?_
  refine m_dup 122 C dX6_init_121 rfl rfl ?_
  refine m_init 125 [.ref (gad (xG X) 89), .int (2), .ref (gad (xG X) 77)] [] (t := 90) (c := 56) (n := 2067) C kiX6_41 (mX2_init (mc_g C).1 89 _ (by (first | rfl | assumption))) rfl rfl ⟨by decide, by decide⟩ ⟨by decide, by decide⟩ (show (3 : Nat) ≤ 8 by decide) dX6_init_122 rfl ?_
  refine m_aast 126 2 (t := 91) (i := 77) (N := 11) (t0 := 5) (ci := 2) (o := 89) (r := (RX2, TX2, 1)) (cs := [some (some 85), some (some 87), some none, some none, some none, some none, some none, some none, some none, some none, some none]) (fs := [some (some 90)]) (f := (fun _ => 0)) (f2 := (fun _ => 0)) (g := (fun _ => 0)) (g2 := (fun _ => 0)) C (by omega) (by (first | rfl | assumption)) rfl (by omega) (by (first | rfl | assumption)) rfl (by decide) (by decide) (by decide) dX6_init_125 rfl ?_
  refine m_iinc 129 0 [(3, .int (3)), (0, .ref (gad (xG X) 33)), (1, .ref (gad (xG X) 1)), (2, .ref (gad (xG X) 19))] (3) C dX6_init_126 rfl rfl (by decide) (by decide) rfl ?_
  refine m_goto 107 C dX6_init_129 rfl ?_
  refine m_iload_n 108 0 C dX6_init_107 rfl rfl ?_
  refine m_bipush 110 (10) C dX6_init_108 rfl (by decide) ?_
  refine m_icmp_gtF 113 132 C dX6_init_110 rfl rfl (by decide) ?_
  refine m_aload_n 114 1 C dX6_init_113 rfl rfl ?_
  refine m_getR 117 (t := 91) (i := 33) (j := 77) (fs := [none, none, none, some (some 34), some (some 1), some (some 19), some (some 35), some (some 38), some (some 41), some (some 44), some (some 77), some (some 78), some (some 80), some (some 81), none, none, none, none, none]) (f := (fun _ => 0)) (g := (fun _ => 0)) C kfX6_37 (by omega) (by (first | rfl | assumption)) rfl dX6_init_114 rfl ?_
  refine m_iload_n 118 0 C dX6_init_117 rfl rfl ?_
  refine m_new 121 [some none] (t := 91) (c := 57) (n := 2075) C mlX2 tw_289 tw_291 tw_80 (mfX2 _) (by decide) (by decide) dX6_init_118 rfl ?_
  refine m_dup 122 C dX6_init_121 rfl rfl ?_
  refine m_init 125 [.ref (gad (xG X) 91), .int (3), .ref (gad (xG X) 77)] [] (t := 92) (c := 58) (n := 2076) C kiX6_41 (mX2_init (mc_g C).1 91 _ (by (first | rfl | assumption))) rfl rfl ⟨by decide, by decide⟩ ⟨by decide, by decide⟩ (show (3 : Nat) ≤ 8 by decide) dX6_init_122 rfl ?_
  refine m_aast 126 3 (t := 93) (i := 77) (N := 11) (t0 := 5) (ci := 2) (o := 91) (r := (RX2, TX2, 1)) (cs := [some (some 85), some (some 87), some (some 89), some none, some none, some none, some none, some none, some none, some none, some none]) (fs := [some (some 92)]) (f := (fun _ => 0)) (f2 := (fun _ => 0)) (g := (fun _ => 0)) (g2 := (fun _ => 0)) C (by omega) (by (first | rfl | assumption)) rfl (by omega) (by (first | rfl | assumption)) rfl (by decide) (by decide) (by decide) dX6_init_125 rfl ?_
  refine m_iinc 129 0 [(3, .int (4)), (0, .ref (gad (xG X) 33)), (1, .ref (gad (xG X) 1)), (2, .ref (gad (xG X) 19))] (4) C dX6_init_126 rfl rfl (by decide) (by decide) rfl ?_
  refine m_goto 107 C dX6_init_129 rfl ?_
  refine m_iload_n 108 0 C dX6_init_107 rfl rfl ?_
  refine m_bipush 110 (10) C dX6_init_108 rfl (by decide) ?_
  refine m_icmp_gtF 113 132 C dX6_init_110 rfl rfl (by decide) ?_
  refine m_aload_n 114 1 C dX6_init_113 rfl rfl ?_
  refine m_getR 117 (t := 93) (i := 33) (j := 77) (fs := [none, none, none, some (some 34), some (some 1), some (some 19), some (some 35), some (some 38), some (some 41), some (some 44), some (some 77), some (some 78), some (some 80), some (some 81), none, none, none, none, none]) (f := (fun _ => 0)) (g := (fun _ => 0)) C kfX6_37 (by omega) (by (first | rfl | assumption)) rfl dX6_init_114 rfl ?_
  refine m_iload_n 118 0 C dX6_init_117 rfl rfl ?_
  refine m_new 121 [some none] (t := 93) (c := 59) (n := 2084) C mlX2 tw_289 tw_291 tw_80 (mfX2 _) (by decide) (by decide) dX6_init_118 rfl ?_
  refine m_dup 122 C dX6_init_121 rfl rfl ?_
  refine m_init 125 [.ref (gad (xG X) 93), .int (4), .ref (gad (xG X) 77)] [] (t := 94) (c := 60) (n := 2085) C kiX6_41 (mX2_init (mc_g C).1 93 _ (by (first | rfl | assumption))) rfl rfl ⟨by decide, by decide⟩ ⟨by decide, by decide⟩ (show (3 : Nat) ≤ 8 by decide) dX6_init_122 rfl ?_
  refine m_aast 126 4 (t := 95) (i := 77) (N := 11) (t0 := 5) (ci := 2) (o := 93) (r := (RX2, TX2, 1)) (cs := [some (some 85), some (some 87), some (some 89), some (some 91), some none, some none, some none, some none, some none, some none, some none]) (fs := [some (some 94)]) (f := (fun _ => 0)) (f2 := (fun _ => 0)) (g := (fun _ => 0)) (g2 := (fun _ => 0)) C (by omega) (by (first | rfl | assumption)) rfl (by omega) (by (first | rfl | assumption)) rfl (by decide) (by decide) (by decide) dX6_init_125 rfl ?_
  refine m_iinc 129 0 [(3, .int (5)), (0, .ref (gad (xG X) 33)), (1, .ref (gad (xG X) 1)), (2, .ref (gad (xG X) 19))] (5) C dX6_init_126 rfl rfl (by decide) (by decide) rfl ?_
  refine m_goto 107 C dX6_init_129 rfl ?_
  refine m_iload_n 108 0 C dX6_init_107 rfl rfl ?_
  refine m_bipush 110 (10) C dX6_init_108 rfl (by decide) ?_
  refine m_icmp_gtF 113 132 C dX6_init_110 rfl rfl (by decide) ?_
  refine m_aload_n 114 1 C dX6_init_113 rfl rfl ?_
  refine m_getR 117 (t := 95) (i := 33) (j := 77) (fs := [none, none, none, some (some 34), some (some 1), some (some 19), some (some 35), some (some 38), some (some 41), some (some 44), some (some 77), some (some 78), some (some 80), some (some 81), none, none, none, none, none]) (f := (fun _ => 0)) (g := (fun _ => 0)) C kfX6_37 (by omega) (by (first | rfl | assumption)) rfl dX6_init_114 rfl ?_
  refine m_iload_n 118 0 C dX6_init_117 rfl rfl ?_
  refine m_new 121 [some none] (t := 95) (c := 61) (n := 2093) C mlX2 tw_289 tw_291 tw_80 (mfX2 _) (by decide) (by decide) dX6_init_118 rfl ?_
  refine m_dup 122 C dX6_init_121 rfl rfl ?_
  refine m_init 125 [.ref (gad (xG X) 95), .int (5), .ref (gad (xG X) 77)] [] (t := 96) (c := 62) (n := 2094) C kiX6_41 (mX2_init (mc_g C).1 95 _ (by (first | rfl | assumption))) rfl rfl ⟨by decide, by decide⟩ ⟨by decide, by decide⟩ (show (3 : Nat) ≤ 8 by decide) dX6_init_122 rfl ?_
  refine m_aast 126 5 (t := 97) (i := 77) (N := 11) (t0 := 5) (ci := 2) (o := 95) (r := (RX2, TX2, 1)) (cs := [some (some 85), some (some 87), some (some 89), some (some 91), some (some 93), some none, some none, some none, some none, some none, some none]) (fs := [some (some 96)]) (f := (fun _ => 0)) (f2 := (fun _ => 0)) (g := (fun _ => 0)) (g2 := (fun _ => 0)) C (by omega) (by (first | rfl | assumption)) rfl (by omega) (by (first | rfl | assumption)) rfl (by decide) (by decide) (by decide) dX6_init_125 rfl ?_
  refine m_iinc 129 0 [(3, .int (6)), (0, .ref (gad (xG X) 33)), (1, .ref (gad (xG X) 1)), (2, .ref (gad (xG X) 19))] (6) C dX6_init_126 rfl rfl (by decide) (by decide) rfl ?_
  refine m_goto 107 C dX6_init_129 rfl ?_
  refine m_iload_n 108 0 C dX6_init_107 rfl rfl ?_
  refine m_bipush 110 (10) C dX6_init_108 rfl (by decide) ?_
  refine m_icmp_gtF 113 132 C dX6_init_110 rfl rfl (by decide) ?_
  refine m_aload_n 114 1 C dX6_init_113 rfl rfl ?_
  refine m_getR 117 (t := 97) (i := 33) (j := 77) (fs := [none, none, none, some (some 34), some (some 1), some (some 19), some (some 35), some (some 38), some (some 41), some (some 44), some (some 77), some (some 78), some (some 80), some (some 81), none, none, none, none, none]) (f := (fun _ => 0)) (g := (fun _ => 0)) C kfX6_37 (by omega) (by (first | rfl | assumption)) rfl dX6_init_114 rfl ?_
  refine m_iload_n 118 0 C dX6_init_117 rfl rfl ?_
  refine m_new 121 [some none] (t := 97) (c := 63) (n := 2102) C mlX2 tw_289 tw_291 tw_80 (mfX2 _) (by decide) (by decide) dX6_init_118 rfl ?_
  refine m_dup 122 C dX6_init_121 rfl rfl ?_
  refine m_init 125 [.ref (gad (xG X) 97), .int (6), .ref (gad (xG X) 77)] [] (t := 98) (c := 64) (n := 2103) C kiX6_41 (mX2_init (mc_g C).1 97 _ (by (first | rfl | assumption))) rfl rfl ⟨by decide, by decide⟩ ⟨by decide, by decide⟩ (show (3 : Nat) ≤ 8 by decide) dX6_init_122 rfl ?_
  refine m_aast 126 6 (t := 99) (i := 77) (N := 11) (t0 := 5) (ci := 2) (o := 97) (r := (RX2, TX2, 1)) (cs := [some (some 85), some (some 87), some (some 89), some (some 91), some (some 93), some (some 95), some none, some none, some none, some none, some none]) (fs := [some (some 98)]) (f := (fun _ => 0)) (f2 := (fun _ => 0)) (g := (fun _ => 0)) (g2 := (fun _ => 0)) C (by omega) (by (first | rfl | assumption)) rfl (by omega) (by (first | rfl | assumption)) rfl (by decide) (by decide) (by decide) dX6_init_125 rfl ?_
  refine m_iinc 129 0 [(3, .int (7)), (0, .ref (gad (xG X) 33)), (1, .ref (gad (xG X) 1)), (2, .ref (gad (xG X) 19))] (7) C dX6_init_126 rfl rfl (by decide) (by decide) rfl ?_
  refine m_goto 107 C dX6_init_129 rfl ?_
  refine m_iload_n 108 0 C dX6_init_107 rfl rfl ?_
  refine m_bipush 110 (10) C dX6_init_108 rfl (by decide) ?_
  refine m_icmp_gtF 113 132 C dX6_init_110 rfl rfl (by decide) ?_
  refine m_aload_n 114 1 C dX6_init_113 rfl rfl ?_
  refine m_getR 117 (t := 99) (i := 33) (j := 77) (fs := [none, none, none, some (some 34), some (some 1), some (some 19), some (some 35), some (some 38), some (some 41), some (some 44), some (some 77), some (some 78), some (some 80), some (some 81), none, none, none, none, none]) (f := (fun _ => 0)) (g := (fun _ => 0)) C kfX6_37 (by omega) (by (first | rfl | assumption)) rfl dX6_init_114 rfl ?_
  refine m_iload_n 118 0 C dX6_init_117 rfl rfl ?_
  refine m_new 121 [some none] (t := 99) (c := 65) (n := 2111) C mlX2 tw_289 tw_291 tw_80 (mfX2 _) (by decide) (by decide) dX6_init_118 rfl ?_
  refine m_dup 122 C dX6_init_121 rfl rfl ?_
  refine m_init 125 [.ref (gad (xG X) 99), .int (7), .ref (gad (xG X) 77)] [] (t := 100) (c := 66) (n := 2112) C kiX6_41 (mX2_init (mc_g C).1 99 _ (by (first | rfl | assumption))) rfl rfl ⟨by decide, by decide⟩ ⟨by decide, by decide⟩ (show (3 : Nat) ≤ 8 by decide) dX6_init_122 rfl ?_
  refine m_aast 126 7 (t := 101) (i := 77) (N := 11) (t0 := 5) (ci := 2) (o := 99) (r := (RX2, TX2, 1)) (cs := [some (some 85), some (some 87), some (some 89), some (some 91), some (some 93), some (some 95), some (some 97), some none, some none, some none, some none]) (fs := [some (some 100)]) (f := (fun _ => 0)) (f2 := (fun _ => 0)) (g := (fun _ => 0)) (g2 := (fun _ => 0)) C (by omega) (by (first | rfl | assumption)) rfl (by omega) (by (first | rfl | assumption)) rfl (by decide) (by decide) (by decide) dX6_init_125 rfl ?_
  refine m_iinc 129 0 [(3, .int (8)), (0, .ref (gad (xG X) 33)), (1, .ref (gad (xG X) 1)), (2, .ref (gad (xG X) 19))] (8) C dX6_init_126 rfl rfl (by decide) (by decide) rfl ?_
  refine m_goto 107 C dX6_init_129 rfl ?_
  refine m_iload_n 108 0 C dX6_init_107 rfl rfl ?_
  refine m_bipush 110 (10) C dX6_init_108 rfl (by decide) ?_
  refine m_icmp_gtF 113 132 C dX6_init_110 rfl rfl (by decide) ?_
  refine m_aload_n 114 1 C dX6_init_113 rfl rfl ?_
  refine m_getR 117 (t := 101) (i := 33) (j := 77) (fs := [none, none, none, some (some 34), some (some 1), some (some 19), some (some 35), some (some 38), some (some 41), some (some 44), some (some 77), some (some 78), some (some 80), some (some 81), none, none, none, none, none]) (f := (fun _ => 0)) (g := (fun _ => 0)) C kfX6_37 (by omega) (by (first | rfl | assumption)) rfl dX6_init_114 rfl ?_
  refine m_iload_n 118 0 C dX6_init_117 rfl rfl ?_
  refine m_new 121 [some none] (t := 101) (c := 67) (n := 2120) C mlX2 tw_289 tw_291 tw_80 (mfX2 _) (by decide) (by decide) dX6_init_118 rfl ?_
  refine m_dup 122 C dX6_init_121 rfl rfl ?_
  refine m_init 125 [.ref (gad (xG X) 101), .int (8), .ref (gad (xG X) 77)] [] (t := 102) (c := 68) (n := 2121) C kiX6_41 (mX2_init (mc_g C).1 101 _ (by (first | rfl | assumption))) rfl rfl ⟨by decide, by decide⟩ ⟨by decide, by decide⟩ (show (3 : Nat) ≤ 8 by decide) dX6_init_122 rfl ?_
  refine m_aast 126 8 (t := 103) (i := 77) (N := 11) (t0 := 5) (ci := 2) (o := 101) (r := (RX2, TX2, 1)) (cs := [some (some 85), some (some 87), some (some 89), some (some 91), some (some 93), some (some 95), some (some 97), some (some 99), some none, some none, some none]) (fs := [some (some 102)]) (f := (fun _ => 0)) (f2 := (fun _ => 0)) (g := (fun _ => 0)) (g2 := (fun _ => 0)) C (by omega) (by (first | rfl | assumption)) rfl (by omega) (by (first | rfl | assumption)) rfl (by decide) (by decide) (by decide) dX6_init_125 rfl ?_
  refine m_iinc 129 0 [(3, .int (9)), (0, .ref (gad (xG X) 33)), (1, .ref (gad (xG X) 1)), (2, .ref (gad (xG X) 19))] (9) C dX6_init_126 rfl rfl (by decide) (by decide) rfl ?_
  refine m_goto 107 C dX6_init_129 rfl ?_
  refine m_iload_n 108 0 C dX6_init_107 rfl rfl ?_
  refine m_bipush 110 (10) C dX6_init_108 rfl (by decide) ?_
  refine m_icmp_gtF 113 132 C dX6_init_110 rfl rfl (by decide) ?_
  refine m_aload_n 114 1 C dX6_init_113 rfl rfl ?_
  refine m_getR 117 (t := 103) (i := 33) (j := 77) (fs := [none, none, none, some (some 34), some (some 1), some (some 19), some (some 35), some (some 38), some (some 41), some (some 44), some (some 77), some (some 78), some (some 80), some (some 81), none, none, none, none, none]) (f := (fun _ => 0)) (g := (fun _ => 0)) C kfX6_37 (by omega) (by (first | rfl | assumption)) rfl dX6_init_114 rfl ?_
  refine m_iload_n 118 0 C dX6_init_117 rfl rfl ?_
  refine m_new 121 [some none] (t := 103) (c := 69) (n := 2129) C mlX2 tw_289 tw_291 tw_80 (mfX2 _) (by decide) (by decide) dX6_init_118 rfl ?_
  refine m_dup 122 C dX6_init_121 rfl rfl ?_
  refine m_init 125 [.ref (gad (xG X) 103), .int (9), .ref (gad (xG X) 77)] [] (t := 104) (c := 70) (n := 2130) C kiX6_41 (mX2_init (mc_g C).1 103 _ (by (first | rfl | assumption))) rfl rfl ⟨by decide, by decide⟩ ⟨by decide, by decide⟩ (show (3 : Nat) ≤ 8 by decide) dX6_init_122 rfl ?_
  refine m_aast 126 9 (t := 105) (i := 77) (N := 11) (t0 := 5) (ci := 2) (o := 103) (r := (RX2, TX2, 1)) (cs := [some (some 85), some (some 87), some (some 89), some (some 91), some (some 93), some (some 95), some (some 97), some (some 99), some (some 101), some none, some none]) (fs := [some (some 104)]) (f := (fun _ => 0)) (f2 := (fun _ => 0)) (g := (fun _ => 0)) (g2 := (fun _ => 0)) C (by omega) (by (first | rfl | assumption)) rfl (by omega) (by (first | rfl | assumption)) rfl (by decide) (by decide) (by decide) dX6_init_125 rfl ?_
  refine m_iinc 129 0 [(3, .int (10)), (0, .ref (gad (xG X) 33)), (1, .ref (gad (xG X) 1)), (2, .ref (gad (xG X) 19))] (10) C dX6_init_126 rfl rfl (by decide) (by decide) rfl ?_
  refine m_goto 107 C dX6_init_129 rfl ?_
  refine m_iload_n 108 0 C dX6_init_107 rfl rfl ?_
  refine m_bipush 110 (10) C dX6_init_108 rfl (by decide) ?_
  refine m_icmp_gtF 113 132 C dX6_init_110 rfl rfl (by decide) ?_
  refine m_aload_n 114 1 C dX6_init_113 rfl rfl ?_
  refine m_getR 117 (t := 105) (i := 33) (j := 77) (fs := [none, none, none, some (some 34), some (some 1), some (some 19), some (some 35), some (some 38), some (some 41), some (some 44), some (some 77), some (some 78), some (some 80), some (some 81), none, none, none, none, none]) (f := (fun _ => 0)) (g := (fun _ => 0)) C kfX6_37 (by omega) (by (first | rfl | assumption)) rfl dX6_init_114 rfl ?_
  refine m_iload_n 118 0 C dX6_init_117 rfl rfl ?_
  refine m_new 121 [some none] (t := 105) (c := 71) (n := 2138) C mlX2 tw_289 tw_291 tw_80 (mfX2 _) (by decide) (by decide) dX6_init_118 rfl ?_
  refine m_dup 122 C dX6_init_121 rfl rfl ?_
  refine m_init 125 [.ref (gad (xG X) 105), .int (10), .ref (gad (xG X) 77)] [] (t := 106) (c := 72) (n := 2139) C kiX6_41 (mX2_init (mc_g C).1 105 _ (by (first | rfl | assumption))) rfl rfl ⟨by decide, by decide⟩ ⟨by decide, by decide⟩ (show (3 : Nat) ≤ 8 by decide) dX6_init_122 rfl ?_
  refine m_aast 126 10 (t := 107) (i := 77) (N := 11) (t0 := 5) (ci := 2) (o := 105) (r := (RX2, TX2, 1)) (cs := [some (some 85), some (some 87), some (some 89), some (some 91), some (some 93), some (some 95), some (some 97), some (some 99), some (some 101), some (some 103), some none]) (fs := [some (some 106)]) (f := (fun _ => 0)) (f2 := (fun _ => 0)) (g := (fun _ => 0)) (g2 := (fun _ => 0)) C (by omega) (by (first | rfl | assumption)) rfl (by omega) (by (first | rfl | assumption)) rfl (by decide) (by decide) (by decide) dX6_init_125 rfl ?_
  refine m_iinc 129 0 [(3, .int (11)), (0, .ref (gad (xG X) 33)), (1, .ref (gad (xG X) 1)), (2, .ref (gad (xG X) 19))] (11) C dX6_init_126 rfl rfl (by decide) (by decide) rfl ?_
  refine m_goto 107 C dX6_init_129 rfl ?_
  refine m_iload_n 108 0 C dX6_init_107 rfl rfl ?_
  refine m_bipush 110 (10) C dX6_init_108 rfl (by decide) ?_
  refine m_icmp_gtT 132 C dX6_init_110 rfl (by decide) ?_
  refine m_ret C hQ (mk_ovs (fun i hi => by ((try simp (disch := omega) only [va_up_ne, va_up_self, mk_ov_lt, Nat.add_zero]) <;> first | done | rfl | assumption)) (fun i hi => ?_)) dX6_init_132
  rcases (show i = 0 ∨ i = 1 ∨ i = 2 ∨ i = 3 ∨ i = 4 ∨ i = 5 ∨ i = 6 ∨ i = 7 ∨ i = 8 ∨ i = 9 ∨ i = 10 ∨ i = 11 ∨ i = 12 ∨ i = 13 ∨ i = 14 ∨ i = 15 ∨ i = 16 ∨ i = 17 ∨ i = 18 ∨ i = 19 ∨ i = 20 ∨ i = 21 ∨ i = 22 ∨ i = 23 ∨ i = 24 ∨ i = 25 ∨ i = 26 ∨ i = 27 ∨ i = 28 ∨ i = 29 ∨ i = 30 ∨ i = 31 ∨ i = 32 ∨ i = 33 ∨ i = 34 ∨ i = 35 ∨ i = 36 ∨ i = 37 ∨ i = 38 ∨ i = 39 ∨ i = 40 ∨ i = 41 ∨ i = 42 ∨ i = 43 ∨ i = 44 ∨ i = 45 ∨ i = 46 ∨ i = 47 ∨ i = 48 ∨ i = 49 ∨ i = 50 ∨ i = 51 ∨ i = 52 ∨ i = 53 ∨ i = 54 ∨ i = 55 ∨ i = 56 ∨ i = 57 ∨ i = 58 ∨ i = 59 ∨ i = 60 ∨ i = 61 ∨ i = 62 ∨ i = 63 ∨ i = 64 ∨ i = 65 ∨ i = 66 ∨ i = 67 ∨ i = 68 ∨ i = 69 ∨ i = 70 ∨ i = 71 ∨ i = 72 ∨ i = 73 by omega) with rfl | rfl | rfl | rfl | rfl | rfl | rfl | rfl | rfl | rfl | rfl | rfl | rfl | rfl | rfl | rfl | rfl | rfl | rfl | rfl | rfl | rfl | rfl | rfl | rfl | rfl | rfl | rfl | rfl | rfl | rfl | rfl | rfl | rfl | rfl | rfl | rfl | rfl | rfl | rfl | rfl | rfl | rfl | rfl | rfl | rfl | rfl | rfl | rfl | rfl | rfl | rfl | rfl | rfl | rfl | rfl | rfl | rfl | rfl | rfl | rfl | rfl | rfl | rfl | rfl | rfl | rfl | rfl | rfl | rfl | rfl | rfl | rfl | rfl
  · rfl
  · rfl
  · rfl
  · rfl
  · rfl
  · rfl
  · rfl
  · rfl
  · rfl
  · rfl
  · rfl
  · rfl
  · rfl
  · rfl
  · rfl
  · rfl
  · rfl
  · rfl
  · rfl
  · rfl
  · rfl
  · rfl
  · rfl
  · rfl
  · rfl
  · rfl
  · rfl
  · rfl
  · rfl
  · rfl
  · rfl
  · rfl
  · rfl
  · rfl
  · rfl
  · rfl
  · rfl
  · rfl
  · rfl
  · rfl
  · rfl
  · rfl
  · rfl
  · rfl
  · rfl
  · rfl
  · rfl
  · rfl
  · rfl
  · rfl
  · rfl
  · rfl
  · rfl
  · rfl
  · rfl
  · rfl
  · rfl
  · rfl
  · rfl
  · rfl
  · rfl
  · rfl
  · rfl
  · rfl
  · rfl
  · rfl
  · rfl
  · rfl
  · rfl
  · rfl
  · rfl
  · rfl
  · rfl
  · rfl
