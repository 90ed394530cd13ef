/-! the law: from its entry to its loop -/
theorem tw_93 : ((Jvm.Cond.classLink "MeterDeskLaw" (7 : Nat) "MeterDesk")) ∈ lw_gt := gt_of 93 (by decide +kernel) (by decide +kernel)
theorem tw_94 : ((Jvm.Cond.instantiable "MeterDesk" (9 : Nat))) ∈ lw_gt := gt_of 94 (by decide +kernel) (by decide +kernel)
theorem tw_95 : ((Jvm.Cond.methodLink "MeterDeskLaw" (9 : Nat) ({ cls := "MeterDesk", name := "<init>", desc := "()V" } : Jvm.MethodName))) ∈ lw_gt := gt_of 95 (by decide +kernel) (by decide +kernel)
theorem tw_96 : ((Jvm.Cond.instanceMethod ({ cls := "MeterDesk", name := "<init>", desc := "()V" } : Jvm.MethodName))) ∈ lw_gt := gt_of 96 (by decide +kernel) (by decide +kernel)
theorem tw_97 : ((Jvm.Cond.code ({ cls := "MeterDesk", name := "<init>", desc := "()V" } : Jvm.MethodName) prog_1_method_1_code (2 : Nat) (Option.none : Option Jvm.ClassFile.FieldType))) ∈ lw_gt := gt_of 97 (by decide +kernel) (by decide +kernel)
theorem tw_1026 : ((Jvm.Cond.classLink "MeterDeskLaw" (10 : Nat) "MeterDeskModel")) ∈ lw_gt := gt_of 1026 (by decide +kernel) (by decide +kernel)
theorem tw_1027 : ((Jvm.Cond.instantiable "MeterDeskModel" (31 : Nat))) ∈ lw_gt := gt_of 1027 (by decide +kernel) (by decide +kernel)
theorem tw_1028 : ((Jvm.Cond.methodLink "MeterDeskLaw" (12 : Nat) ({ cls := "MeterDeskModel", name := "<init>", desc := "()V" } : Jvm.MethodName))) ∈ lw_gt := gt_of 1028 (by decide +kernel) (by decide +kernel)
theorem tw_1029 : ((Jvm.Cond.instanceMethod ({ cls := "MeterDeskModel", name := "<init>", desc := "()V" } : Jvm.MethodName))) ∈ lw_gt := gt_of 1029 (by decide +kernel) (by decide +kernel)
theorem tw_1030 : ((Jvm.Cond.code ({ cls := "MeterDeskModel", name := "<init>", desc := "()V" } : Jvm.MethodName) prog_14_method_1_code (1 : Nat) (Option.none : Option Jvm.ClassFile.FieldType))) ∈ lw_gt := gt_of 1030 (by decide +kernel) (by decide +kernel)
section LRN
variable {X : ux_X} {D : va_G} {cy : Nat → ClassId} {sa : Nat → Nat} {b L : Nat} {ss : Nat → Int32} {ls : Array Slot}
theorem ll_run (C : lb_C X D cy sa) (hX : va_X b L ss (xs X) (xs X).heap) (hbl : b < (xs X).heap.size) (hL : L ≤ 2048) (hv : lv_has ls 4 [(0, .ref b)]) (hend : ∀ KC ad i Nc Lc Nm Lm, ll_Wt X KC ad 867 (ll_lv b KC ad i) [] Nc Lc Nm Lm) :
    W (xp X) (xl X) (xe X) (xR X) (xs X) (xm X) (xa X) (xb X) (xme X) (xc X) (xs X).heap [] 0 0 (xQ X) (F0 (xm X) 0 ls []) := by
  obtain ⟨o1, o2, o3, o4, f1, f2, f3, f4, hA⟩ := iv_init
  have hx := C.1.1
  have hb := C.1.2
  refine l_make (pc := 0) (c := 0) (n := 0) C mlX11 tw_93 tw_94 tw_72 (fun ad => mfX11 ad) tw_95 tw_96 tw_72 tw_97 rfl ⟨by decide, by decide, by decide +kernel⟩ (mX11_init (lb_g D cy sa (xs X).heap.size) _ rfl f1 f2) ⟨by decide, by decide⟩ (by decide) (by decide) dL_law_0 dL_law_3 dL_law_4 va_S.rf hv (fun H1 locs1 hP1 hk1 hz1 hS1 => ?_)
  refine lv_astore_n hx hb dL_law_7 rfl hv (by decide) rfl (fun ls1 hv1 => ?_)
  refine l_make (pc := 8) (c := 120) (n := 2686) C mlX12 tw_1026 tw_1027 tw_87 (fun ad => mfX12 ad) tw_1028 tw_1029 tw_87 tw_1030 rfl ⟨by decide, by decide, by decide +kernel⟩ (mX12_init (lb_g D cy sa H1.size) _ rfl f3 f4) ⟨by decide, by decide⟩ (by decide) (by decide) dL_law_8 dL_law_11 dL_law_12 hS1 hv1 (fun H2 locs2 hP2 hk2 hz2 hS2 => ?_)
  refine lv_astore_n hx hb dL_law_15 rfl hv1 (by decide) rfl (fun ls2 hv2 => ?_)
  refine lv_iconst hx hb dL_law_16 (v := 0) (by decide) ?_
  refine lv_istore_n hx hb dL_law_17 rfl hv2 (by decide) rfl (fun ls3 hv3 => ?_)
  have CC : ll_C X (mk_K (lb_G D cy sa (xs X).heap.size) shC posC) (fun k => H1.size + posM k) b L ss := by
    refine ⟨C.1, C.2.1, C.2.2.1, C.2.2.2.1, ⟨C.2.2.2.2.1.1, C.2.2.2.2.1.2.1, Nat.le_trans (by decide) C.2.2.2.2.1.2.2.1, Nat.le_trans (by decide) C.2.2.2.2.1.2.2.2⟩, ⟨hX, hbl, hL⟩, ⟨mk_Kok (lb_g _ _ _ _) posC_inj, mk_Kok (G := lb_G D cy sa H1.size) (pos := posM) (lb_g _ _ _ _) (fun i j _ _ h => h)⟩, ⟨fun q h => mk_KA (lb_g D cy sa (xs X).heap.size) q h, fun q h => Nat.le_trans hz1 (mk_KA (G := lb_G D cy sa H1.size) (sh := shM) (pos := posM) (lb_g D cy sa H1.size) q h), fun q h1 h2 => ?_⟩, C.2.2.2.2.2.1, C.2.2.2.2.2.2.1⟩
    have g2 : H1.size ≤ q := mk_KA (G := lb_G D cy sa H1.size) (sh := shM) (pos := posM) (lb_g D cy sa H1.size) q h2
    obtain ⟨k, hk, e⟩ := h1
    have g1 := (hP1 k _ (ux_at (G := mk_K (lb_G D cy sa (xs X).heap.size) shC posC) (List.getElem?_eq_getElem hk))).lt
    have g3 : q < H1.size := by rw [e]; exact g1
    omega
  exact ll_loop CC (fun i Nc Lc Nm Lm => hend _ _ i Nc Lc Nm Lm) L 0 _ _ _ _ (by omega) (by omega) hA H2 locs2 ls3 (hP1.kept (fun k x hx2 => hk2 x.1 (hP1 k x hx2).lt)) hP2 hS2 hv3
end LRN
