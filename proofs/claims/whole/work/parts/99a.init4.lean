theorem dX11_init_0 : decode cX11_init 0 = .ok (.aload_n 0, 1) := by decide +kernel
theorem dX11_init_1 : decode cX11_init 1 = .ok (.invokespecial 1, 3) := by decide +kernel
theorem dX11_init_4 : decode cX11_init 4 = .ok (.aload_n 0, 1) := by decide +kernel
theorem dX11_init_5 : decode cX11_init 5 = .ok (.new 7, 3) := by decide +kernel
theorem dX11_init_8 : decode cX11_init 8 = .ok (.dup, 1) := by decide +kernel
theorem dX11_init_9 : decode cX11_init 9 = .ok (.invokespecial 9, 3) := by decide +kernel
theorem dX11_init_12 : decode cX11_init 12 = .ok (.putfield 10, 3) := by decide +kernel
theorem dX11_init_15 : decode cX11_init 15 = .ok (.aload_n 0, 1) := by decide +kernel
theorem dX11_init_16 : decode cX11_init 16 = .ok (.new 16, 3) := by decide +kernel
theorem dX11_init_19 : decode cX11_init 19 = .ok (.dup, 1) := by decide +kernel
theorem dX11_init_20 : decode cX11_init 20 = .ok (.invokespecial 18, 3) := by decide +kernel
theorem dX11_init_23 : decode cX11_init 23 = .ok (.putfield 19, 3) := by decide +kernel
theorem dX11_init_26 : decode cX11_init 26 = .ok (.aload_n 0, 1) := by decide +kernel
theorem dX11_init_27 : decode cX11_init 27 = .ok (.new 23, 3) := by decide +kernel
theorem dX11_init_30 : decode cX11_init 30 = .ok (.dup, 1) := by decide +kernel
theorem dX11_init_31 : decode cX11_init 31 = .ok (.invokespecial 25, 3) := by decide +kernel
theorem dX11_init_34 : decode cX11_init 34 = .ok (.putfield 26, 3) := by decide +kernel
theorem dX11_init_37 : decode cX11_init 37 = .ok (.aload_n 0, 1) := by decide +kernel
theorem dX11_init_38 : decode cX11_init 38 = .ok (.iconst 2, 1) := by decide +kernel
theorem dX11_init_39 : decode cX11_init 39 = .ok (.anewarray 23, 3) := by decide +kernel
theorem dX11_init_42 : decode cX11_init 42 = .ok (.putfield 30, 3) := by decide +kernel
theorem dX11_init_45 : decode cX11_init 45 = .ok (.iconst 0, 1) := by decide +kernel
theorem dX11_init_46 : decode cX11_init 46 = .ok (.istore_n 1, 1) := by decide +kernel
theorem dX11_init_47 : decode cX11_init 47 = .ok (.iload_n 1, 1) := by decide +kernel
theorem dX11_init_48 : decode cX11_init 48 = .ok (.iconst 2, 1) := by decide +kernel
theorem dX11_init_49 : decode cX11_init 49 = .ok (.if_icmp .ge 22, 3) := by decide +kernel
theorem dX11_init_52 : decode cX11_init 52 = .ok (.aload_n 0, 1) := by decide +kernel
theorem dX11_init_53 : decode cX11_init 53 = .ok (.getfield 30, 3) := by decide +kernel
theorem dX11_init_56 : decode cX11_init 56 = .ok (.iload_n 1, 1) := by decide +kernel
theorem dX11_init_57 : decode cX11_init 57 = .ok (.new 23, 3) := by decide +kernel
theorem dX11_init_60 : decode cX11_init 60 = .ok (.dup, 1) := by decide +kernel
theorem dX11_init_61 : decode cX11_init 61 = .ok (.invokespecial 25, 3) := by decide +kernel
theorem dX11_init_64 : decode cX11_init 64 = .ok (.aastore, 1) := by decide +kernel
theorem dX11_init_65 : decode cX11_init 65 = .ok (.iinc 1 1, 3) := by decide +kernel
theorem dX11_init_68 : decode cX11_init 68 = .ok (.goto (-21), 3) := by decide +kernel
theorem dX11_init_71 : decode cX11_init 71 = .ok (.aload_n 0, 1) := by decide +kernel
theorem dX11_init_72 : decode cX11_init 72 = .ok (.iconst 2, 1) := by decide +kernel
theorem dX11_init_73 : decode cX11_init 73 = .ok (.newarray .boolean, 2) := by decide +kernel
theorem dX11_init_75 : decode cX11_init 75 = .ok (.putfield 34, 3) := by decide +kernel
theorem dX11_init_78 : decode cX11_init 78 = .ok (.aload_n 0, 1) := by decide +kernel
theorem dX11_init_79 : decode cX11_init 79 = .ok (.new 38, 3) := by decide +kernel
theorem dX11_init_82 : decode cX11_init 82 = .ok (.dup, 1) := by decide +kernel
theorem dX11_init_83 : decode cX11_init 83 = .ok (.invokespecial 40, 3) := by decide +kernel
theorem dX11_init_86 : decode cX11_init 86 = .ok (.putfield 41, 3) := by decide +kernel
theorem dX11_init_89 : decode cX11_init 89 = .ok (.aload_n 0, 1) := by decide +kernel
theorem dX11_init_90 : decode cX11_init 90 = .ok (.new 45, 3) := by decide +kernel
theorem dX11_init_93 : decode cX11_init 93 = .ok (.dup, 1) := by decide +kernel
theorem dX11_init_94 : decode cX11_init 94 = .ok (.aload_n 0, 1) := by decide +kernel
theorem dX11_init_95 : decode cX11_init 95 = .ok (.getfield 10, 3) := by decide +kernel
theorem dX11_init_98 : decode cX11_init 98 = .ok (.aload_n 0, 1) := by decide +kernel
theorem dX11_init_99 : decode cX11_init 99 = .ok (.getfield 26, 3) := by decide +kernel
theorem dX11_init_102 : decode cX11_init 102 = .ok (.invokespecial 47, 3) := by decide +kernel
theorem dX11_init_105 : decode cX11_init 105 = .ok (.putfield 50, 3) := by decide +kernel
theorem dX11_init_108 : decode cX11_init 108 = .ok (.aload_n 0, 1) := by decide +kernel
theorem dX11_init_109 : decode cX11_init 109 = .ok (.new 54, 3) := by decide +kernel
theorem dX11_init_112 : decode cX11_init 112 = .ok (.dup, 1) := by decide +kernel
theorem dX11_init_113 : decode cX11_init 113 = .ok (.invokespecial 56, 3) := by decide +kernel
theorem dX11_init_116 : decode cX11_init 116 = .ok (.putfield 57, 3) := by decide +kernel
theorem dX11_init_119 : decode cX11_init 119 = .ok (.aload_n 0, 1) := by decide +kernel
theorem dX11_init_120 : decode cX11_init 120 = .ok (.iconst 3, 1) := by decide +kernel
theorem dX11_init_121 : decode cX11_init 121 = .ok (.anewarray 61, 3) := by decide +kernel
theorem dX11_init_124 : decode cX11_init 124 = .ok (.putfield 63, 3) := by decide +kernel
theorem dX11_init_127 : decode cX11_init 127 = .ok (.iconst 0, 1) := by decide +kernel
theorem dX11_init_128 : decode cX11_init 128 = .ok (.istore_n 1, 1) := by decide +kernel
theorem dX11_init_129 : decode cX11_init 129 = .ok (.iload_n 1, 1) := by decide +kernel
theorem dX11_init_130 : decode cX11_init 130 = .ok (.iconst 3, 1) := by decide +kernel
theorem dX11_init_131 : decode cX11_init 131 = .ok (.if_icmp .ge 22, 3) := by decide +kernel
theorem dX11_init_134 : decode cX11_init 134 = .ok (.aload_n 0, 1) := by decide +kernel
theorem dX11_init_135 : decode cX11_init 135 = .ok (.getfield 63, 3) := by decide +kernel
theorem dX11_init_138 : decode cX11_init 138 = .ok (.iload_n 1, 1) := by decide +kernel
theorem dX11_init_139 : decode cX11_init 139 = .ok (.new 61, 3) := by decide +kernel
theorem dX11_init_142 : decode cX11_init 142 = .ok (.dup, 1) := by decide +kernel
theorem dX11_init_143 : decode cX11_init 143 = .ok (.invokespecial 67, 3) := by decide +kernel
theorem dX11_init_146 : decode cX11_init 146 = .ok (.aastore, 1) := by decide +kernel
theorem dX11_init_147 : decode cX11_init 147 = .ok (.iinc 1 1, 3) := by decide +kernel
theorem dX11_init_150 : decode cX11_init 150 = .ok (.goto (-21), 3) := by decide +kernel
theorem dX11_init_153 : decode cX11_init 153 = .ok (.aload_n 0, 1) := by decide +kernel
theorem dX11_init_154 : decode cX11_init 154 = .ok (.getfield 50, 3) := by decide +kernel
theorem dX11_init_157 : decode cX11_init 157 = .ok (.invokevirtual 68, 3) := by decide +kernel
theorem dX11_init_160 : decode cX11_init 160 = .ok (.aload_n 0, 1) := by decide +kernel
theorem dX11_init_161 : decode cX11_init 161 = .ok (.getfield 50, 3) := by decide +kernel
theorem dX11_init_164 : decode cX11_init 164 = .ok (.invokevirtual 71, 3) := by decide +kernel
theorem dX11_init_167 : decode cX11_init 167 = .ok (.pop, 1) := by decide +kernel
theorem dX11_init_168 : decode cX11_init 168 = .ok (.return_, 1) := by decide +kernel
theorem tw_98 : ((Jvm.Cond.methodLink "MeterDesk" (1 : Nat) ({ cls := "java/lang/Object", name := "<init>", desc := "()V" } : Jvm.MethodName))) ∈ lw_gt := gt_of 98 (by decide +kernel) (by decide +kernel)
theorem tw_101 : ((Jvm.Cond.classLink "MeterDesk" (7 : Nat) "MeterDesk$Plan")) ∈ lw_gt := gt_of 101 (by decide +kernel) (by decide +kernel)
theorem kiX11_9 : mk_LI RX11 9 yX3_init cX3_init 1 0 := ⟨Or.inr (by decide), tw_104, tw_73, tw_105, rfl, ⟨by decide, by decide, by decide +kernel⟩⟩
theorem tw_164 : ((Jvm.Cond.classLink "MeterDesk" (16 : Nat) "MeterDesk$Reader")) ∈ lw_gt := gt_of 164 (by decide +kernel) (by decide +kernel)
theorem tw_165 : ((Jvm.Cond.instantiable "MeterDesk$Reader" (7 : Nat))) ∈ lw_gt := gt_of 165 (by decide +kernel) (by decide +kernel)
theorem tw_167 : ((Jvm.Cond.instanceMethod ({ cls := "MeterDesk$Reader", name := "<init>", desc := "()V" } : Jvm.MethodName))) ∈ lw_gt := gt_of 167 (by decide +kernel) (by decide +kernel)
theorem tw_168 : ((Jvm.Cond.code ({ cls := "MeterDesk$Reader", name := "<init>", desc := "()V" } : Jvm.MethodName) prog_6_method_1_code (1 : Nat) (Option.none : Option Jvm.ClassFile.FieldType))) ∈ lw_gt := gt_of 168 (by decide +kernel) (by decide +kernel)
theorem kiX11_18 : mk_LI RX11 18 yX4_init cX4_init 1 0 := ⟨Or.inr (by decide), tw_167, tw_74, tw_168, rfl, ⟨by decide, by decide, by decide +kernel⟩⟩
theorem tw_198 : ((Jvm.Cond.classLink "MeterDesk" (23 : Nat) "MeterDesk$Standing")) ∈ lw_gt := gt_of 198 (by decide +kernel) (by decide +kernel)
theorem tw_199 : ((Jvm.Cond.instantiable "MeterDesk$Standing" (5 : Nat))) ∈ lw_gt := gt_of 199 (by decide +kernel) (by decide +kernel)
theorem tw_201 : ((Jvm.Cond.instanceMethod ({ cls := "MeterDesk$Standing", name := "<init>", desc := "()V" } : Jvm.MethodName))) ∈ lw_gt := gt_of 201 (by decide +kernel) (by decide +kernel)
theorem tw_202 : ((Jvm.Cond.code ({ cls := "MeterDesk$Standing", name := "<init>", desc := "()V" } : Jvm.MethodName) prog_10_method_1_code (1 : Nat) (Option.none : Option Jvm.ClassFile.FieldType))) ∈ lw_gt := gt_of 202 (by decide +kernel) (by decide +kernel)
theorem kiX11_25 : mk_LI RX11 25 yX8_init cX8_init 1 0 := ⟨Or.inr (by decide), tw_201, tw_75, tw_202, rfl, ⟨by decide, by decide, by decide +kernel⟩⟩
theorem tw_251 : ((Jvm.Cond.arrayClass Jvm.ClassFile.FieldType.boolean)) ∈ lw_gt := gt_of 251 (by decide +kernel) (by decide +kernel)
theorem tw_234 : ((Jvm.Cond.classLink "MeterDesk" (38 : Nat) "MeterDesk$History")) ∈ lw_gt := gt_of 234 (by decide +kernel) (by decide +kernel)
theorem tw_235 : ((Jvm.Cond.instantiable "MeterDesk$History" (3 : Nat))) ∈ lw_gt := gt_of 235 (by decide +kernel) (by decide +kernel)
theorem tw_237 : ((Jvm.Cond.instanceMethod ({ cls := "MeterDesk$History", name := "<init>", desc := "()V" } : Jvm.MethodName))) ∈ lw_gt := gt_of 237 (by decide +kernel) (by decide +kernel)
theorem tw_238 : ((Jvm.Cond.code ({ cls := "MeterDesk$History", name := "<init>", desc := "()V" } : Jvm.MethodName) prog_3_method_1_code (1 : Nat) (Option.none : Option Jvm.ClassFile.FieldType))) ∈ lw_gt := gt_of 238 (by decide +kernel) (by decide +kernel)
theorem kiX11_40 : mk_LI RX11 40 yX1_init cX1_init 1 0 := ⟨Or.inr (by decide), tw_237, tw_76, tw_238, rfl, ⟨by decide, by decide, by decide +kernel⟩⟩
theorem tw_252 : ((Jvm.Cond.classLink "MeterDesk" (45 : Nat) "MeterDesk$Sight")) ∈ lw_gt := gt_of 252 (by decide +kernel) (by decide +kernel)
theorem tw_253 : ((Jvm.Cond.instantiable "MeterDesk$Sight" (19 : Nat))) ∈ lw_gt := gt_of 253 (by decide +kernel) (by decide +kernel)
theorem tw_254 : ((Jvm.Cond.methodLink "MeterDesk" (47 : Nat) ({ cls := "MeterDesk$Sight", name := "<init>", desc := "(LMeterDesk$Plan;LMeterDesk$Standing;)V" } : Jvm.MethodName))) ∈ lw_gt := gt_of 254 (by decide +kernel) (by decide +kernel)
theorem tw_255 : ((Jvm.Cond.instanceMethod ({ cls := "MeterDesk$Sight", name := "<init>", desc := "(LMeterDesk$Plan;LMeterDesk$Standing;)V" } : Jvm.MethodName))) ∈ lw_gt := gt_of 255 (by decide +kernel) (by decide +kernel)
theorem tw_256 : ((Jvm.Cond.code ({ cls := "MeterDesk$Sight", name := "<init>", desc := "(LMeterDesk$Plan;LMeterDesk$Standing;)V" } : Jvm.MethodName) prog_8_method_1_code (4 : Nat) (Option.none : Option Jvm.ClassFile.FieldType))) ∈ lw_gt := gt_of 256 (by decide +kernel) (by decide +kernel)
theorem kiX11_47 : mk_LI RX11 47 yX6_init cX6_init 4 2 := ⟨Or.inl tw_254, tw_255, tw_77, tw_256, rfl, ⟨by decide, by decide, by decide +kernel⟩⟩
theorem tw_384 : ((Jvm.Cond.classLink "MeterDesk" (54 : Nat) "MeterDesk$Sightings")) ∈ lw_gt := gt_of 384 (by decide +kernel) (by decide +kernel)
theorem tw_385 : ((Jvm.Cond.instantiable "MeterDesk$Sightings" (3 : Nat))) ∈ lw_gt := gt_of 385 (by decide +kernel) (by decide +kernel)
theorem tw_387 : ((Jvm.Cond.instanceMethod ({ cls := "MeterDesk$Sightings", name := "<init>", desc := "()V" } : Jvm.MethodName))) ∈ lw_gt := gt_of 387 (by decide +kernel) (by decide +kernel)
theorem tw_388 : ((Jvm.Cond.code ({ cls := "MeterDesk$Sightings", name := "<init>", desc := "()V" } : Jvm.MethodName) prog_9_method_1_code (1 : Nat) (Option.none : Option Jvm.ClassFile.FieldType))) ∈ lw_gt := gt_of 388 (by decide +kernel) (by decide +kernel)
theorem kiX11_56 : mk_LI RX11 56 yX7_init cX7_init 1 0 := ⟨Or.inr (by decide), tw_387, tw_82, tw_388, rfl, ⟨by decide, by decide, by decide +kernel⟩⟩
theorem tw_401 : ((Jvm.Cond.classLink "MeterDesk" (61 : Nat) "MeterDesk$Tray")) ∈ lw_gt := gt_of 401 (by decide +kernel) (by decide +kernel)
theorem tw_403 : ((Jvm.Cond.instantiable "MeterDesk$Tray" (4 : Nat))) ∈ lw_gt := gt_of 403 (by decide +kernel) (by decide +kernel)
theorem tw_405 : ((Jvm.Cond.instanceMethod ({ cls := "MeterDesk$Tray", name := "<init>", desc := "()V" } : Jvm.MethodName))) ∈ lw_gt := gt_of 405 (by decide +kernel) (by decide +kernel)
theorem tw_406 : ((Jvm.Cond.code ({ cls := "MeterDesk$Tray", name := "<init>", desc := "()V" } : Jvm.MethodName) prog_11_method_1_code (1 : Nat) (Option.none : Option Jvm.ClassFile.FieldType))) ∈ lw_gt := gt_of 406 (by decide +kernel) (by decide +kernel)
theorem kiX11_67 : mk_LI RX11 67 yX9_init cX9_init 1 0 := ⟨Or.inr (by decide), tw_405, tw_83, tw_406, rfl, ⟨by decide, by decide, by decide +kernel⟩⟩
/-! the two constructors -/
theorem m_V {X : ux_X} {nL pc : Nat} {lv : List (Nat × Value)} {st : List Value} {t : Nat} {V V' : Nat → mk_E} {c n : Nat} (h : ∀ i, i < t → V i = V' i) (k : mk_Wt X nL pc lv st t V' c n) : mk_Wt X nL pc lv st t V c n := fun H locs ls hz hP hS hl => k H locs ls hz (by rw [← mk_cong h]; exact hP) hS hl
def mk_N (l : List mk_E) (pos : Nat → Nat) : ux_N := fun k => (l.getD (pos k) mk_d).2.2.2.2.1
def mk_Lg (l : List mk_E) (pos : Nat → Nat) : ux_L := fun k => (l.getD (pos k) mk_d).2.2.2.2.2
def mk_hp (l : List mk_E) (pos : Nat → Nat) (sh : List ux_Sh) (t : Nat) : Prop := ∀ k, k < sh.length → pos k < t ∧ (l.getD (pos k) mk_d).1 = (sh.getD k (0, 0, 0, [])).1 ∧ (l.getD (pos k) mk_d).2.1 = (sh.getD k (0, 0, 0, [])).2.1 ∧ (l.getD (pos k) mk_d).2.2.1 = (sh.getD k (0, 0, 0, [])).2.2.1 ∧ (l.getD (pos k) mk_d).2.2.2.1 = (sh.getD k (0, 0, 0, [])).2.2.2.map (mk_o pos)
theorem mk_h4 {l : List mk_E} {pos : Nat → Nat} {sh : List ux_Sh} {t : Nat} (h : mk_hp l pos sh t) : ∀ k q, sh[k]? = some q → pos k < t ∧ l.getD (pos k) mk_d = mk_cv pos q (mk_N l pos k) (mk_Lg l pos k) := by
  intro k q hq
  have hk := (List.getElem?_eq_some_iff.mp hq).1
  have e : sh.getD k (0, 0, 0, []) = q := by rw [List.getD_eq_getElem?_getD, hq]; rfl
  obtain ⟨h1, h2, h3, h4, h5⟩ := h k hk
  rw [e] at h2 h3 h4 h5
  refine ⟨h1, ?_⟩
  unfold mk_cv mk_N mk_Lg
  rw [← h2, ← h3, ← h4, ← h5]
def posC (k : Nat) : Nat := if k < 78 then k else if k < 100 then k + 7 else if k < 107 then k - 22 else k
def posM (k : Nat) : Nat := k
theorem posC_inj : ∀ i j, i < shC.length → j < shC.length → posC i = posC j → i = j := by
  intro i j _ _ h
  unfold posC at h
  split at h <;> split at h <;> (try split at h) <;> (try split at h) <;> (try split at h) <;> (try split at h) <;> omega

def lX11 : List mk_E := [(0, 11, 0, [some (some 1), some (some 9), some (some 19), some (some 22), some (some 29), some (some 30), some (some 33), some (some 107), some (some 110)], (fun _ => 0), (fun _ => 0)), (0, 3, 0, [none, none, none, none, some (some 2), some (some 3), some (some 4), some (some 5), some (some 6), some (some 7), some (some 8)], (upd (fun _ => 0) 0 3), (fun _ => 0)), (1, 0, 10, [], (fun _ => 0), (fun _ => 0)), (1, 0, 10, [], (fun _ => 0), (fun _ => 0)), (1, 0, 9, [], (fun _ => 0), (fun _ => 0)), (1, 0, 9, [], (fun _ => 0), (fun _ => 0)), (1, 0, 6, [], (fun _ => 0), (fun _ => 0)), (1, 0, 6, [], (fun _ => 0), (fun _ => 0)), (1, 0, 6, [], (fun _ => 0), (fun _ => 0)), (0, 4, 0, [none, none, some (some 10), some (some 18), none, none, none], (fun _ => 0), (fun _ => 0)), (0, 3, 0, [none, none, none, none, some (some 11), some (some 12), some (some 13), some (some 14), some (some 15), some (some 16), some (some 17)], (upd (fun _ => 0) 0 3), (fun _ => 0)), (1, 0, 10, [], (fun _ => 0), (fun _ => 0)), (1, 0, 10, [], (fun _ => 0), (fun _ => 0)), (1, 0, 9, [], (fun _ => 0), (fun _ => 0)), (1, 0, 9, [], (fun _ => 0), (fun _ => 0)), (1, 0, 6, [], (fun _ => 0), (fun _ => 0)), (1, 0, 6, [], (fun _ => 0), (fun _ => 0)), (1, 0, 6, [], (fun _ => 0), (fun _ => 0)), (1, 2, 200, [], (fun _ => 0), (fun _ => 0)), (0, 8, 0, [none, none, none, some (some 20), some (some 21)], (fun _ => 0), (fun _ => 0)), (1, 0, 9, [], (fun _ => 0), (fun _ => 0)), (1, 0, 9, [], (fun _ => 0), (fun _ => 0)), (3, 6, 2, [some (some 23), some (some 26)], (fun _ => 0), (fun _ => 0)), (0, 8, 0, [none, none, none, some (some 24), some (some 25)], (fun _ => 0), (fun _ => 0)), (1, 0, 9, [], (fun _ => 0), (fun _ => 0)), (1, 0, 9, [], (fun _ => 0), (fun _ => 0)), (0, 8, 0, [none, none, none, some (some 27), some (some 28)], (fun _ => 0), (fun _ => 0)), (1, 0, 9, [], (fun _ => 0), (fun _ => 0)), (1, 0, 9, [], (fun _ => 0), (fun _ => 0)), (1, 1, 2, [], (fun _ => 0), (fun _ => 0)), (0, 1, 0, [none, some (some 31), some (some 32)], (fun _ => 0), (fun _ => 0)), (1, 0, 8, [], (fun _ => 0), (fun _ => 0)), (1, 0, 8, [], (fun _ => 0), (fun _ => 0)), (0, 6, 0, [none, none, none, some (some 34), some (some 1), some (some 19), some (some 35), some (some 38), some (some 41), some (some 44), some (some 77), some (some 78), some (some 80), some (some 81), none, none, none, none, none], (fun _ => 0), (fun _ => 0)), (1, 0, 9, [], (fun _ => 0), (fun _ => 0)), (0, 0, 0, [some (some 36), some (some 37)], (fun _ => 0), (fun _ => 0)), (2, 3, 16, [], (fun _ => 0), (fun _ => 0)), (2, 3, 16, [], (fun _ => 0), (fun _ => 0)), (0, 0, 0, [some (some 39), some (some 40)], (fun _ => 0), (fun _ => 0)), (2, 3, 16, [], (fun _ => 0), (fun _ => 0)), (2, 3, 16, [], (fun _ => 0), (fun _ => 0)), (0, 0, 0, [some (some 42), some (some 43)], (fun _ => 0), (fun _ => 0)), (2, 3, 16, [], (fun _ => 0), (fun _ => 0)), (2, 3, 16, [], (fun _ => 0), (fun _ => 0)), (0, 10, 0, [some (some 45), some (some 46)], (fun _ => 0), (fun _ => 0)), (1, 0, 512, [], (fun _ => 0), (fun _ => 0)), (3, 4, 10, [some (some 47), some (some 50), some (some 53), some (some 56), some (some 59), some (some 62), some (some 65), some (some 68), some (some 71), some (some 74)], (fun _ => 0), (fun _ => 0)), (0, 0, 0, [some (some 48), some (some 49)], (fun _ => 0), (fun _ => 0)), (2, 3, 16, [], (fun _ => 0), (fun _ => 0)), (2, 3, 16, [], (fun _ => 0), (fun _ => 0)), (0, 0, 0, [some (some 51), some (some 52)], (fun _ => 0), (fun _ => 0)), (2, 3, 16, [], (fun _ => 0), (fun _ => 0)), (2, 3, 16, [], (fun _ => 0), (fun _ => 0)), (0, 0, 0, [some (some 54), some (some 55)], (fun _ => 0), (fun _ => 0)), (2, 3, 16, [], (fun _ => 0), (fun _ => 0)), (2, 3, 16, [], (fun _ => 0), (fun _ => 0)), (0, 0, 0, [some (some 57), some (some 58)], (fun _ => 0), (fun _ => 0)), (2, 3, 16, [], (fun _ => 0), (fun _ => 0)), (2, 3, 16, [], (fun _ => 0), (fun _ => 0)), (0, 0, 0, [some (some 60), some (some 61)], (fun _ => 0), (fun _ => 0)), (2, 3, 16, [], (fun _ => 0), (fun _ => 0)), (2, 3, 16, [], (fun _ => 0), (fun _ => 0)), (0, 0, 0, [some (some 63), some (some 64)], (fun _ => 0), (fun _ => 0)), (2, 3, 16, [], (fun _ => 0), (fun _ => 0)), (2, 3, 16, [], (fun _ => 0), (fun _ => 0)), (0, 0, 0, [some (some 66), some (some 67)], (fun _ => 0), (fun _ => 0)), (2, 3, 16, [], (fun _ => 0), (fun _ => 0)), (2, 3, 16, [], (fun _ => 0), (fun _ => 0)), (0, 0, 0, [some (some 69), some (some 70)], (fun _ => 0), (fun _ => 0)), (2, 3, 16, [], (fun _ => 0), (fun _ => 0)), (2, 3, 16, [], (fun _ => 0), (fun _ => 0)), (0, 0, 0, [some (some 72), some (some 73)], (fun _ => 0), (fun _ => 0)), (2, 3, 16, [], (fun _ => 0), (fun _ => 0)), (2, 3, 16, [], (fun _ => 0), (fun _ => 0)), (0, 0, 0, [some (some 75), some (some 76)], (fun _ => 0), (fun _ => 0)), (2, 3, 16, [], (fun _ => 0), (fun _ => 0)), (2, 3, 16, [], (fun _ => 0), (fun _ => 0)), (3, 5, 11, [some (some 85), some (some 87), some (some 89), some (some 91), some (some 93), some (some 95), some (some 97), some (some 99), some (some 101), some (some 103), some (some 105)], (fun _ => 0), (fun _ => 0)), (0, 2, 0, [some (some 79)], (fun _ => 0), (fun _ => 0)), (1, 0, 8, [], (fun _ => 0), (fun _ => 0)), (1, 0, 6, [], (fun _ => 0), (fun _ => 0)), (0, 5, 0, [none, some (some 82), some (some 83), some (some 84)], (fun _ => 0), (fun _ => 0)), (1, 0, 10, [], (fun _ => 0), (fun _ => 0)), (1, 0, 9, [], (fun _ => 0), (fun _ => 0)), (1, 0, 1024, [], (fun _ => 0), (fun _ => 0)), (0, 2, 0, [some (some 86)], (fun _ => 0), (fun _ => 0)), (1, 0, 8, [], (fun _ => 0), (fun _ => 0)), (0, 2, 0, [some (some 88)], (fun _ => 0), (fun _ => 0)), (1, 0, 8, [], (fun _ => 0), (fun _ => 0)), (0, 2, 0, [some (some 90)], (fun _ => 0), (fun _ => 0)), (1, 0, 8, [], (fun _ => 0), (fun _ => 0)), (0, 2, 0, [some (some 92)], (fun _ => 0), (fun _ => 0)), (1, 0, 8, [], (fun _ => 0), (fun _ => 0)), (0, 2, 0, [some (some 94)], (fun _ => 0), (fun _ => 0)), (1, 0, 8, [], (fun _ => 0), (fun _ => 0)), (0, 2, 0, [some (some 96)], (fun _ => 0), (fun _ => 0)), (1, 0, 8, [], (fun _ => 0), (fun _ => 0)), (0, 2, 0, [some (some 98)], (fun _ => 0), (fun _ => 0)), (1, 0, 8, [], (fun _ => 0), (fun _ => 0)), (0, 2, 0, [some (some 100)], (fun _ => 0), (fun _ => 0)), (1, 0, 8, [], (fun _ => 0), (fun _ => 0)), (0, 2, 0, [some (some 102)], (fun _ => 0), (fun _ => 0)), (1, 0, 8, [], (fun _ => 0), (fun _ => 0)), (0, 2, 0, [some (some 104)], (fun _ => 0), (fun _ => 0)), (1, 0, 8, [], (fun _ => 0), (fun _ => 0)), (0, 2, 0, [some (some 106)], (fun _ => 0), (fun _ => 0)), (1, 0, 8, [], (fun _ => 0), (fun _ => 0)), (0, 7, 0, [none, some (some 108), some (some 109)], (fun _ => 0), (fun _ => 0)), (1, 0, 6, [], (fun _ => 0), (fun _ => 0)), (1, 0, 6, [], (fun _ => 0), (fun _ => 0)), (3, 7, 3, [some (some 111), some (some 114), some (some 117)], (fun _ => 0), (fun _ => 0)), (0, 9, 0, [none, none, some (some 112), some (some 113)], (fun _ => 0), (fun _ => 0)), (1, 0, 8, [], (fun _ => 0), (fun _ => 0)), (1, 0, 8, [], (fun _ => 0), (fun _ => 0)), (0, 9, 0, [none, none, some (some 115), some (some 116)], (fun _ => 0), (fun _ => 0)), (1, 0, 8, [], (fun _ => 0), (fun _ => 0)), (1, 0, 8, [], (fun _ => 0), (fun _ => 0)), (0, 9, 0, [none, none, some (some 118), some (some 119)], (fun _ => 0), (fun _ => 0)), (1, 0, 8, [], (fun _ => 0), (fun _ => 0)), (1, 0, 8, [], (fun _ => 0), (fun _ => 0))]
theorem hpX11 : mk_hp lX11 posC shC 120 := by unfold mk_hp; decide +kernel
theorem wX11_head {X : ux_X} {V : Nat → mk_E} (C : mk_C X cX11_init RX11 2 5 117 119 2677) (hV : V 0 = (0, 11, 0, [some none, some none, some none, some none, some none, some none, some none, some none, some none], (fun _ => 0), (fun _ => 0))) (k : mk_Ut X (mk_K (xG X) shC posC) 2 153 [(1, .int (3)), (0, .ref (gad (xG X) 0))] [] (mk_N lX11 posC) (mk_Lg lX11 posC) 119 2677) : mk_Wt X 2 0 [(0, .ref (gad (xG X) 0))] [] 1 V 0 0 := by
  refine m_aload_n 1 0 C dX11_init_0 rfl rfl ?_
  refine m_obj 4 C tw_98 tw_99 tw_100 dX11_init_1 rfl ⟨by decide, by decide⟩ ?_
  refine m_aload_n 5 0 C dX11_init_4 rfl rfl ?_
  refine m_new 8 [none, none, none, none, some none, some none, some none, some none, some none, some none, some none] (t := 1) (c := 0) (n := 0) C mlX3 tw_101 tw_102 tw_73 (mfX3 _) (by decide) (by decide) dX11_init_5 rfl ?_
  refine m_dup 9 C dX11_init_8 rfl rfl ?_
  refine m_init 12 [.ref (gad (xG X) 1), .ref (gad (xG X) 0)] [] (t := 2) (c := 1) (n := 11) C kiX11_9 (mX3_init (mc_g C).1 1 _ (by (first | rfl | assumption))) rfl rfl ⟨by decide, by decide⟩ ⟨by decide, by decide⟩ (show (2 : Nat) ≤ 8 by decide) dX11_init_9 rfl ?_
  refine m_putF 15 (t := 9) (i := 0) (k0 := 0) (fs := [some none, some none, some none, some none, some none, some none, some none, some none, some none]) (f := (fun _ => 0)) (g := (fun _ => 0)) (j := 1) C mlX11 (by omega) (by (first | rfl | assumption)) (by decide) (show (0 : Nat) < 9 by decide) tw_540 rfl rfl (tyX11_ok 0 (by decide)) rfl rfl dX11_init_12 rfl ?_
  refine m_aload_n 16 0 C dX11_init_15 rfl rfl ?_
  refine m_new 19 [none, none, some none, some none, none, none, none] (t := 9) (c := 8) (n := 67) C mlX4 tw_164 tw_165 tw_74 (mfX4 _) (by decide) (by decide) dX11_init_16 rfl ?_
  refine m_dup 20 C dX11_init_19 rfl rfl ?_
  refine m_init 23 [.ref (gad (xG X) 9), .ref (gad (xG X) 0)] [] (t := 10) (c := 9) (n := 74) C kiX11_18 (mX4_init (mc_g C).1 _ (by (first | rfl | assumption))) rfl rfl ⟨by decide, by decide⟩ ⟨by decide, by decide⟩ (show (2 : Nat) ≤ 8 by decide) dX11_init_20 rfl ?_
  refine m_putF 26 (t := 19) (i := 0) (k0 := 1) (fs := [some (some 1), some none, some none, some none, some none, some none, some none, some none, some none]) (f := (fun _ => 0)) (g := (fun _ => 0)) (j := 9) C mlX11 (by omega) (by (first | rfl | assumption)) (by decide) (show (1 : Nat) < 9 by decide) tw_541 rfl rfl (tyX11_ok 1 (by decide)) rfl rfl dX11_init_23 rfl ?_
  refine m_aload_n 27 0 C dX11_init_26 rfl rfl ?_
  refine m_new 30 [none, none, none, some none, some none] (t := 19) (c := 18) (n := 341) C mlX8 tw_198 tw_199 tw_75 (mfX8 _) (by decide) (by decide) dX11_init_27 rfl ?_
  refine m_dup 31 C dX11_init_30 rfl rfl ?_
  refine m_init 34 [.ref (gad (xG X) 19), .ref (gad (xG X) 0)] [] (t := 20) (c := 19) (n := 346) C kiX11_25 (mX8_init (mc_g C).1 19 _ (by (first | rfl | assumption))) rfl rfl ⟨by decide, by decide⟩ ⟨by decide, by decide⟩ (show (2 : Nat) ≤ 8 by decide) dX11_init_31 rfl ?_
  refine m_putF 37 (t := 22) (i := 0) (k0 := 2) (fs := [some (some 1), some (some 9), some none, some none, some none, some none, some none, some none, some none]) (f := (fun _ => 0)) (g := (fun _ => 0)) (j := 19) C mlX11 (by omega) (by (first | rfl | assumption)) (by decide) (show (2 : Nat) < 9 by decide) tw_542 rfl rfl (tyX11_ok 2 (by decide)) rfl rfl dX11_init_34 rfl ?_
  refine m_aload_n 38 0 C dX11_init_37 rfl rfl ?_
  refine m_iconst 39 (2) C dX11_init_38 rfl (by decide) ?_
  refine m_newq 42 2 6 (t := 22) (c := 21) (n := 364) C tw_198 (mc_O C).2.2.1 rfl (by decide) (by decide) (by decide) (by decide) (by decide) dX11_init_39 rfl ?_
  refine m_putF 45 (t := 23) (i := 0) (k0 := 3) (fs := [some (some 1), some (some 9), some (some 19), some none, some none, some none, some none, some none, some none]) (f := (fun _ => 0)) (g := (fun _ => 0)) (j := 22) C mlX11 (by omega) (by (first | rfl | assumption)) (by decide) (show (3 : Nat) < 9 by decide) tw_543 rfl rfl (tyX11_ok 3 (by decide)) rfl rfl dX11_init_42 rfl ?_
  refine m_iconst 46 (0) C dX11_init_45 rfl (by decide) ?_
  refine m_istore_n 47 [(1, .int (0)), (0, .ref (gad (xG X) 0))] C dX11_init_46 rfl (by decide) rfl ?_
  refine m_iload_n 48 0 C dX11_init_47 rfl rfl ?_
  refine m_iconst 49 (2) C dX11_init_48 rfl (by decide) ?_
  refine m_icmp_geF 52 71 C dX11_init_49 rfl rfl (by decide) ?_
  refine m_aload_n 53 1 C dX11_init_52 rfl rfl ?_
  refine m_getR 56 (t := 23) (i := 0) (j := 22) (fs := [some (some 1), some (some 9), some (some 19), some (some 22), some none, some none, some none, some none, some none]) (f := (fun _ => 0)) (g := (fun _ => 0)) C kfX11_30 (by omega) (by (first | rfl | assumption)) rfl dX11_init_53 rfl ?_
  refine m_iload_n 57 0 C dX11_init_56 rfl rfl ?_
  refine m_new 60 [none, none, none, some none, some none] (t := 23) (c := 22) (n := 366) C mlX8 tw_198 tw_199 tw_75 (mfX8 _) (by decide) (by decide) dX11_init_57 rfl ?_
  refine m_dup 61 C dX11_init_60 rfl rfl ?_
  refine m_init 64 [.ref (gad (xG X) 23), .int (0), .ref (gad (xG X) 22)] [] (t := 24) (c := 23) (n := 371) C kiX11_25 (mX8_init (mc_g C).1 23 _ (by (first | rfl | assumption))) rfl rfl ⟨by decide, by decide⟩ ⟨by decide, by decide⟩ (show (3 : Nat) ≤ 8 by decide) dX11_init_61 rfl ?_
  refine m_aast 65 0 (t := 26) (i := 22) (N := 2) (t0 := 6) (ci := 8) (o := 23) (r := (RX8, TX8, 5)) (cs := [some none, some none]) (fs := [none, none, none, some (some 24), some (some 25)]) (f := (fun _ => 0)) (f2 := (fun _ => 0)) (g := (fun _ => 0)) (g2 := (fun _ => 0)) C (by omega) (by (first | rfl | assumption)) rfl (by omega) (by (first | rfl | assumption)) rfl (by decide) (by decide) (by decide) dX11_init_64 rfl ?_
  refine m_iinc 68 0 [(1, .int (1)), (0, .ref (gad (xG X) 0))] (1) C dX11_init_65 rfl rfl (by decide) (by decide) rfl ?_
  refine m_goto 47 C dX11_init_68 rfl ?_
  refine m_iload_n 48 0 C dX11_init_47 rfl rfl ?_
  refine m_iconst 49 (2) C dX11_init_48 rfl (by decide) ?_
  refine m_icmp_geF 52 71 C dX11_init_49 rfl rfl (by decide) ?_
  refine m_aload_n 53 1 C dX11_init_52 rfl rfl ?_
  refine m_getR 56 (t := 26) (i := 0) (j := 22) (fs := [some (some 1), some (some 9), some (some 19), some (some 22), some none, some none, some none, some none, some none]) (f := (fun _ => 0)) (g := (fun _ => 0)) C kfX11_30 (by omega) (by (first | rfl | assumption)) rfl dX11_init_53 rfl ?_
  refine m_iload_n 57 0 C dX11_init_56 rfl rfl ?_
  refine m_new 60 [none, none, none, some none, some none] (t := 26) (c := 25) (n := 389) C mlX8 tw_198 tw_199 tw_75 (mfX8 _) (by decide) (by decide) dX11_init_57 rfl ?_
  refine m_dup 61 C dX11_init_60 rfl rfl ?_
  refine m_init 64 [.ref (gad (xG X) 26), .int (1), .ref (gad (xG X) 22)] [] (t := 27) (c := 26) (n := 394) C kiX11_25 (mX8_init (mc_g C).1 26 _ (by (first | rfl | assumption))) rfl rfl ⟨by decide, by decide⟩ ⟨by decide, by decide⟩ (show (3 : Nat) ≤ 8 by decide) dX11_init_61 rfl ?_
  refine m_aast 65 1 (t := 29) (i := 22) (N := 2) (t0 := 6) (ci := 8) (o := 26) (r := (RX8, TX8, 5)) (cs := [some (some 23), some none]) (fs := [none, none, none, some (some 27), some (some 28)]) (f := (fun _ => 0)) (f2 := (fun _ => 0)) (g := (fun _ => 0)) (g2 := (fun _ => 0)) C (by omega) (by (first | rfl | assumption)) rfl (by omega) (by (first | rfl | assumption)) rfl (by decide) (by decide) (by decide) dX11_init_64 rfl ?_
  refine m_iinc 68 0 [(1, .int (2)), (0, .ref (gad (xG X) 0))] (2) C dX11_init_65 rfl rfl (by decide) (by decide) rfl ?_
  refine m_goto 47 C dX11_init_68 rfl ?_
  refine m_iload_n 48 0 C dX11_init_47 rfl rfl ?_
  refine m_iconst 49 (2) C dX11_init_48 rfl (by decide) ?_
  refine m_icmp_geT 71 C dX11_init_49 rfl (by decide) ?_
  refine m_aload_n 72 1 C dX11_init_71 rfl rfl ?_
  refine m_iconst 73 (2) C dX11_init_72 rfl (by decide) ?_
  refine m_newZ 75 2 (t := 29) (c := 28) (n := 412) C tw_251 (by decide) (by decide) (by decide) (by decide) (by decide) dX11_init_73 rfl ?_
  refine m_putF 78 (t := 30) (i := 0) (k0 := 4) (fs := [some (some 1), some (some 9), some (some 19), some (some 22), some none, some none, some none, some none, some none]) (f := (fun _ => 0)) (g := (fun _ => 0)) (j := 29) C mlX11 (by omega) (by (first | rfl | assumption)) (by decide) (show (4 : Nat) < 9 by decide) tw_544 rfl rfl (tyX11_ok 4 (by decide)) rfl rfl dX11_init_75 rfl ?_
  refine m_aload_n 79 1 C dX11_init_78 rfl rfl ?_
  refine m_new 82 [none, some none, some none] (t := 30) (c := 29) (n := 414) C mlX1 tw_234 tw_235 tw_76 (mfX1 _) (by decide) (by decide) dX11_init_79 rfl ?_
  refine m_dup 83 C dX11_init_82 rfl rfl ?_
  refine m_init 86 [.ref (gad (xG X) 30), .ref (gad (xG X) 0)] [] (t := 31) (c := 30) (n := 417) C kiX11_40 (mX1_init (mc_g C).1 _ (by (first | rfl | assumption))) rfl rfl ⟨by decide, by decide⟩ ⟨by decide, by decide⟩ (show (2 : Nat) ≤ 8 by decide) dX11_init_83 rfl ?_
  refine m_putF 89 (t := 33) (i := 0) (k0 := 5) (fs := [some (some 1), some (some 9), some (some 19), some (some 22), some (some 29), some none, some none, some none, some none]) (f := (fun _ => 0)) (g := (fun _ => 0)) (j := 30) C mlX11 (by omega) (by (first | rfl | assumption)) (by decide) (show (5 : Nat) < 9 by decide) tw_545 rfl rfl (tyX11_ok 5 (by decide)) rfl rfl dX11_init_86 rfl ?_
  refine m_aload_n 90 1 C dX11_init_89 rfl rfl ?_
  refine m_new 93 [none, none, none, some none, some none, some none, some none, some none, some none, some none, some none, some none, some none, some none, none, none, none, none, none] (t := 33) (c := 32) (n := 433) C mlX6 tw_252 tw_253 tw_77 (mfX6 _) (by decide) (by decide) dX11_init_90 rfl ?_
  refine m_dup 94 C dX11_init_93 rfl rfl ?_
  refine m_aload_n 95 1 C dX11_init_94 rfl rfl ?_
  refine m_getR 98 (t := 34) (i := 0) (j := 1) (fs := [some (some 1), some (some 9), some (some 19), some (some 22), some (some 29), some (some 30), some none, some none, some none]) (f := (fun _ => 0)) (g := (fun _ => 0)) C kfX11_10 (by omega) (by (first | rfl | assumption)) rfl dX11_init_95 rfl ?_
  refine m_aload_n 99 1 C dX11_init_98 rfl rfl ?_
  refine m_getR 102 (t := 34) (i := 0) (j := 19) (fs := [some (some 1), some (some 9), some (some 19), some (some 22), some (some 29), some (some 30), some none, some none, some none]) (f := (fun _ => 0)) (g := (fun _ => 0)) C kfX11_26 (by omega) (by (first | rfl | assumption)) rfl dX11_init_99 rfl ?_
  refine m_init 105 [.ref (gad (xG X) 33), .ref (gad (xG X) 0)] [.ref (gad (xG X) 1), .ref (gad (xG X) 19)] (t := 34) (c := 33) (n := 452) C kiX11_47 (mX6_init (mc_g C).1 _ (by (first | rfl | assumption))) rfl rfl ⟨by decide, by decide⟩ ⟨by decide, by decide⟩ (show (2 : Nat) ≤ 8 by decide) dX11_init_102 rfl ?_
  refine m_putF 108 (t := 107) (i := 0) (k0 := 6) (fs := [some (some 1), some (some 9), some (some 19), some (some 22), some (some 29), some (some 30), some none, some none, some none]) (f := (fun _ => 0)) (g := (fun _ => 0)) (j := 33) C mlX11 (by omega) (by (first | rfl | assumption)) (by decide) (show (6 : Nat) < 9 by decide) tw_546 rfl rfl (tyX11_ok 6 (by decide)) rfl rfl dX11_init_105 rfl ?_
  refine m_aload_n 109 1 C dX11_init_108 rfl rfl ?_
  refine m_new 112 [none, some none, some none] (t := 107) (c := 106) (n := 2599) C mlX7 tw_384 tw_385 tw_82 (mfX7 _) (by decide) (by decide) dX11_init_109 rfl ?_
  refine m_dup 113 C dX11_init_112 rfl rfl ?_
  refine m_init 116 [.ref (gad (xG X) 107), .ref (gad (xG X) 0)] [] (t := 108) (c := 107) (n := 2602) C kiX11_56 (mX7_init (mc_g C).1 _ (by (first | rfl | assumption))) rfl rfl ⟨by decide, by decide⟩ ⟨by decide, by decide⟩ (show (2 : Nat) ≤ 8 by decide) dX11_init_113 rfl ?_
  refine m_putF 119 (t := 110) (i := 0) (k0 := 7) (fs := [some (some 1), some (some 9), some (some 19), some (some 22), some (some 29), some (some 30), some (some 33), some none, some none]) (f := (fun _ => 0)) (g := (fun _ => 0)) (j := 107) C mlX11 (by omega) (by (first | rfl | assumption)) (by decide) (show (7 : Nat) < 9 by decide) tw_547 rfl rfl (tyX11_ok 7 (by decide)) rfl rfl dX11_init_116 rfl ?_
  refine m_aload_n 120 1 C dX11_init_119 rfl rfl ?_
  refine m_iconst 121 (3) C dX11_init_120 rfl (by decide) ?_
  refine m_newq 124 3 7 (t := 110) (c := 109) (n := 2614) C tw_401 (mc_O C).2.2.2 rfl (by decide) (by decide) (by decide) (by decide) (by decide) dX11_init_121 rfl ?_
  refine m_putF 127 (t := 111) (i := 0) (k0 := 8) (fs := [some (some 1), some (some 9), some (some 19), some (some 22), some (some 29), some (some 30), some (some 33), some (some 107), some none]) (f := (fun _ => 0)) (g := (fun _ => 0)) (j := 110) C mlX11 (by omega) (by (first | rfl | assumption)) (by decide) (show (8 : Nat) < 9 by decide) tw_548 rfl rfl (tyX11_ok 8 (by decide)) rfl rfl dX11_init_124 rfl ?_
  refine m_iconst 128 (0) C dX11_init_127 rfl (by decide) ?_
  refine m_istore_n 129 [(1, .int (0)), (0, .ref (gad (xG X) 0))] C dX11_init_128 rfl (by decide) rfl ?_
  refine m_iload_n 130 0 C dX11_init_129 rfl rfl ?_
  refine m_iconst 131 (3) C dX11_init_130 rfl (by decide) ?_
  refine m_icmp_geF 134 153 C dX11_init_131 rfl rfl (by decide) ?_
  refine m_aload_n 135 1 C dX11_init_134 rfl rfl ?_
  refine m_getR 138 (t := 111) (i := 0) (j := 110) (fs := [some (some 1), some (some 9), some (some 19), some (some 22), some (some 29), some (some 30), some (some 33), some (some 107), some (some 110)]) (f := (fun _ => 0)) (g := (fun _ => 0)) C kfX11_63 (by omega) (by (first | rfl | assumption)) rfl dX11_init_135 rfl ?_
  refine m_iload_n 139 0 C dX11_init_138 rfl rfl ?_
  refine m_new 142 [none, none, some none, some none] (t := 111) (c := 110) (n := 2617) C mlX9 tw_401 tw_403 tw_83 (mfX9 _) (by decide) (by decide) dX11_init_139 rfl ?_
  refine m_dup 143 C dX11_init_142 rfl rfl ?_
  refine m_init 146 [.ref (gad (xG X) 111), .int (0), .ref (gad (xG X) 110)] [] (t := 112) (c := 111) (n := 2621) C kiX11_67 (mX9_init (mc_g C).1 111 _ (by (first | rfl | assumption))) rfl rfl ⟨by decide, by decide⟩ ⟨by decide, by decide⟩ (show (3 : Nat) ≤ 8 by decide) dX11_init_143 rfl ?_
  refine m_aast 147 0 (t := 114) (i := 110) (N := 3) (t0 := 7) (ci := 9) (o := 111) (r := (RX9, TX9, 4)) (cs := [some none, some none, some none]) (fs := [none, none, some (some 112), some (some 113)]) (f := (fun _ => 0)) (f2 := (fun _ => 0)) (g := (fun _ => 0)) (g2 := (fun _ => 0)) C (by omega) (by (first | rfl | assumption)) rfl (by omega) (by (first | rfl | assumption)) rfl (by decide) (by decide) (by decide) dX11_init_146 rfl ?_
  refine m_iinc 150 0 [(1, .int (1)), (0, .ref (gad (xG X) 0))] (1) C dX11_init_147 rfl rfl (by decide) (by decide) rfl ?_
  refine m_goto 129 C dX11_init_150 rfl ?_
  refine m_iload_n 130 0 C dX11_init_129 rfl rfl ?_
  refine m_iconst 131 (3) C dX11_init_130 rfl (by decide) ?_
  refine m_icmp_geF 134 153 C dX11_init_131 rfl rfl (by decide) ?_
  refine m_aload_n 135 1 C dX11_init_134 rfl rfl ?_
  refine m_getR 138 (t := 114) (i := 0) (j := 110) (fs := [some (some 1), some (some 9), some (some 19), some (some 22), some (some 29), some (some 30), some (some 33), some (some 107), some (some 110)]) (f := (fun _ => 0)) (g := (fun _ => 0)) C kfX11_63 (by omega) (by (first | rfl | assumption)) rfl dX11_init_135 rfl ?_
  refine m_iload_n 139 0 C dX11_init_138 rfl rfl ?_
  refine m_new 142 [none, none, some none, some none] (t := 114) (c := 113) (n := 2637) C mlX9 tw_401 tw_403 tw_83 (mfX9 _) (by decide) (by decide) dX11_init_139 rfl ?_
  refine m_dup 143 C dX11_init_142 rfl rfl ?_
  refine m_init 146 [.ref (gad (xG X) 114), .int (1), .ref (gad (xG X) 110)] [] (t := 115) (c := 114) (n := 2641) C kiX11_67 (mX9_init (mc_g C).1 114 _ (by (first | rfl | assumption))) rfl rfl ⟨by decide, by decide⟩ ⟨by decide, by decide⟩ (show (3 : Nat) ≤ 8 by decide) dX11_init_143 rfl ?_
  refine m_aast 147 1 (t := 117) (i := 110) (N := 3) (t0 := 7) (ci := 9) (o := 114) (r := (RX9, TX9, 4)) (cs := [some (some 111), some none, some none]) (fs := [none, none, some (some 115), some (some 116)]) (f := (fun _ => 0)) (f2 := (fun _ => 0)) (g := (fun _ => 0)) (g2 := (fun _ => 0)) C (by omega) (by (first | rfl | assumption)) rfl (by omega) (by (first | rfl | assumption)) rfl (by decide) (by decide) (by decide) dX11_init_146 rfl ?_
  refine m_iinc 150 0 [(1, .int (2)), (0, .ref (gad (xG X) 0))] (2) C dX11_init_147 rfl rfl (by decide) (by decide) rfl ?_
  refine m_goto 129 C dX11_init_150 rfl ?_
  refine m_iload_n 130 0 C dX11_init_129 rfl rfl ?_
  refine m_iconst 131 (3) C dX11_init_130 rfl (by decide) ?_
  refine m_icmp_geF 134 153 C dX11_init_131 rfl rfl (by decide) ?_
  refine m_aload_n 135 1 C dX11_init_134 rfl rfl ?_
  refine m_getR 138 (t := 117) (i := 0) (j := 110) (fs := [some (some 1), some (some 9), some (some 19), some (some 22), some (some 29), some (some 30), some (some 33), some (some 107), some (some 110)]) (f := (fun _ => 0)) (g := (fun _ => 0)) C kfX11_63 (by omega) (by (first | rfl | assumption)) rfl dX11_init_135 rfl ?_
  refine m_iload_n 139 0 C dX11_init_138 rfl rfl ?_
  refine m_new 142 [none, none, some none, some none] (t := 117) (c := 116) (n := 2657) C mlX9 tw_401 tw_403 tw_83 (mfX9 _) (by decide) (by decide) dX11_init_139 rfl ?_
  refine m_dup 143 C dX11_init_142 rfl rfl ?_
  refine m_init 146 [.ref (gad (xG X) 117), .int (2), .ref (gad (xG X) 110)] [] (t := 118) (c := 117) (n := 2661) C kiX11_67 (mX9_init (mc_g C).1 117 _ (by (first | rfl | assumption))) rfl rfl ⟨by decide, by decide⟩ ⟨by decide, by decide⟩ (show (3 : Nat) ≤ 8 by decide) dX11_init_143 rfl ?_
  refine m_aast 147 2 (t := 120) (i := 110) (N := 3) (t0 := 7) (ci := 9) (o := 117) (r := (RX9, TX9, 4)) (cs := [some (some 111), some (some 114), some none]) (fs := [none, none, some (some 118), some (some 119)]) (f := (fun _ => 0)) (f2 := (fun _ => 0)) (g := (fun _ => 0)) (g2 := (fun _ => 0)) C (by omega) (by (first | rfl | assumption)) rfl (by omega) (by (first | rfl | assumption)) rfl (by decide) (by decide) (by decide) dX11_init_146 rfl ?_
  refine m_iinc 150 0 [(1, .int (3)), (0, .ref (gad (xG X) 0))] (3) C dX11_init_147 rfl rfl (by decide) (by decide) rfl ?_
  refine m_goto 129 C dX11_init_150 rfl ?_
  refine m_iload_n 130 0 C dX11_init_129 rfl rfl ?_
  refine m_iconst 131 (3) C dX11_init_130 rfl (by decide) ?_
  refine m_icmp_geT 153 C dX11_init_131 rfl (by decide) ?_
  refine m_V (V' := fun i => lX11.getD i mk_d) (t := 120) ?_ (mu_of (mk_h4 hpX11) k)
  refine mk_alls ?_ rfl
  refine mk_alls ?_ rfl
  refine mk_alls ?_ rfl
  refine mk_alls ?_ rfl
  refine mk_alls ?_ rfl
  refine mk_alls ?_ rfl
  refine mk_alls ?_ rfl
  refine mk_alls ?_ rfl
  refine mk_alls ?_ rfl
  refine mk_alls ?_ rfl
  refine mk_alls ?_ rfl
  refine mk_alls ?_ rfl
  refine mk_alls ?_ rfl
  refine mk_alls ?_ rfl
  refine mk_alls ?_ rfl
  refine mk_alls ?_ rfl
  refine mk_alls ?_ rfl
  refine mk_alls ?_ rfl
  refine mk_alls ?_ rfl
  refine mk_alls ?_ rfl
  refine mk_alls ?_ rfl
  refine mk_alls ?_ rfl
  refine mk_alls ?_ rfl
  refine mk_alls ?_ rfl
  refine mk_alls ?_ rfl
  refine mk_alls ?_ rfl
  refine mk_alls ?_ rfl
  refine mk_alls ?_ rfl
  refine mk_alls ?_ rfl
  refine mk_alls ?_ rfl
  refine mk_alls ?_ rfl
  refine mk_alls ?_ rfl
  refine mk_alls ?_ rfl
  refine mk_alls ?_ rfl
  refine mk_alls ?_ rfl
  refine mk_alls ?_ rfl
  refine mk_alls ?_ rfl
  refine mk_alls ?_ rfl
  refine mk_alls ?_ rfl
  refine mk_alls ?_ rfl
  refine mk_alls ?_ rfl
  refine mk_alls ?_ rfl
  refine mk_alls ?_ rfl
  refine mk_alls ?_ rfl
  refine mk_alls ?_ rfl
  refine mk_alls ?_ rfl
  refine mk_alls ?_ rfl
  refine mk_alls ?_ rfl
  refine mk_alls ?_ rfl
  refine mk_alls ?_ rfl
  refine mk_alls ?_ rfl
  refine mk_alls ?_ rfl
  refine mk_alls ?_ rfl
  refine mk_alls ?_ rfl
  refine mk_alls ?_ rfl
  refine mk_alls ?_ rfl
  refine mk_alls ?_ rfl
  refine mk_alls ?_ rfl
  refine mk_alls ?_ rfl
  refine mk_alls ?_ rfl
  refine mk_alls ?_ rfl
  refine mk_alls ?_ rfl
  refine mk_alls ?_ rfl
  refine mk_alls ?_ rfl
  refine mk_alls ?_ rfl
  refine mk_alls ?_ rfl
  refine mk_alls ?_ rfl
  refine mk_alls ?_ rfl
  refine mk_alls ?_ rfl
  refine mk_alls ?_ rfl
  refine mk_alls ?_ rfl
  refine mk_alls ?_ rfl
  refine mk_alls ?_ rfl
  refine mk_alls ?_ rfl
  refine mk_alls ?_ rfl
  refine mk_alls ?_ rfl
  refine mk_alls ?_ rfl
  refine mk_alls ?_ rfl
  refine mk_alls ?_ rfl
  refine mk_alls ?_ rfl
  refine mk_alls ?_ rfl
  refine mk_alls ?_ rfl
  refine mk_alls ?_ rfl
  refine mk_alls ?_ rfl
  refine mk_alls ?_ rfl
  refine mk_alls ?_ rfl
  refine mk_alls ?_ rfl
  refine mk_alls ?_ rfl
  refine mk_alls ?_ rfl
  refine mk_alls ?_ rfl
  refine mk_alls ?_ rfl
  refine mk_alls ?_ rfl
  refine mk_alls ?_ rfl
  refine mk_alls ?_ rfl
  refine mk_alls ?_ rfl
  refine mk_alls ?_ rfl
  refine mk_alls ?_ rfl
  refine mk_alls ?_ rfl
  refine mk_alls ?_ rfl
  refine mk_alls ?_ rfl
  refine mk_alls ?_ rfl
  refine mk_alls ?_ rfl
  refine mk_alls ?_ rfl
  refine mk_alls ?_ rfl
  refine mk_alls ?_ rfl
  refine mk_alls ?_ rfl
  refine mk_alls ?_ rfl
  refine mk_alls ?_ rfl
  refine mk_alls ?_ rfl
  refine mk_alls ?_ rfl
  refine mk_alls ?_ rfl
  refine mk_alls ?_ rfl
  refine mk_alls ?_ rfl
  refine mk_alls ?_ rfl
  refine mk_alls ?_ rfl
  refine mk_alls ?_ rfl
  refine mk_alls ?_ rfl
  refine mk_alls ?_ rfl
  refine mk_alls ?_ rfl
  refine mk_alls ?_ rfl
  exact mk_all0
theorem mX11_init {l : Launch} {G : ux_G} (hg : mk_g G) (V : Nat → mk_E) (hV : V 0 = (0, 11, 0, [some none, some none, some none, some none, some none, some none, some none, some none, some none], (fun _ => 0), (fun _ => 0))) {o : ux_N × ux_L} (h1 : fX6_learnForests (mk_N lX11 posC) (mk_Lg lX11 posC) = some o) {p : Int32 × ux_N × ux_L} (h2 : fX6_refresh o.1 o.2 = some p) : mk_MF l G (mk_K G shC posC) yX11_init cX11_init 2 5 117 119 2677 [.ref (gad G 0)] 1 V p.2.1 p.2.2 := by
  refine mk_ofF hg (by decide) rfl (show (1 : Nat) ≤ 2 by decide) ?_
  intro X hG hl C hQ
  subst hG
  subst hl
  replace C : mk_C X cX11_init RX11 2 5 117 119 2677 := C
  have hok := mk_Kok hg posC_inj
  refine wX11_head C hV ?_
  refine mu_aload_n 154 1 C dX11_init_153 rfl rfl ?_
  refine mu_getR 157 (h := 0) (j := 33) C kfX11_50 sc_0 rfl dX11_init_154 rfl ?_
  refine mu_callVv 160 [] [] (h := 33) C kvX11_68 sc_33 (mX6_learnForests hok h1) rfl rfl ⟨by decide, by decide⟩ ⟨by decide, by decide⟩ (show (0 : Nat) ≤ 8 by decide) dX11_init_157 rfl ?_
  refine mu_aload_n 161 1 C dX11_init_160 rfl rfl ?_
  refine mu_getR 164 (h := 0) (j := 33) C kfX11_50 sc_0 rfl dX11_init_161 rfl ?_
  refine mu_callVip 167 168 [] (h := 33) C kvX11_71 sc_33 (mX6_refresh hok h2) rfl rfl ⟨by decide, by decide⟩ ⟨by decide, by decide⟩ dX11_init_164 rfl dX11_init_167 rfl ?_
  exact mu_ret C hQ dX11_init_168
