/-! the law: rows -/
def ll_M (KC : ux_G) (ad : Nat → Nat) : ux_G := (shM, KC.2.1, KC.2.2.1, ad, KC.2.2.2.2)
def ll_A (X : ux_X) : Nat → Prop := fun q => (xs X).heap.size ≤ q
def ll_Wt (X : ux_X) (KC : ux_G) (ad : Nat → Nat) (pc : Nat) (lv : List (Nat × Value)) (st : List Value) (Nc : ux_N) (Lc : ux_L) (Nm : ux_N) (Lm : ux_L) : Prop :=
  ∀ (H : Heap) (locs : List Loc) (ls : Array Slot), va_P KC.2.1 vwCl (ux_wl KC Nc Lc) H → va_P KC.2.1 vwCl (ux_wl (ll_M KC ad) Nm Lm) H → va_S (ll_A X) (xs X).heap H locs → lv_has ls 4 lv → W (xp X) (xl X) (xe X) (xR X) (xs X) (xm X) (xa X) (xb X) (xme X) (xc X) H locs 138 11691 (xQ X) (F0 (xm X) pc ls st)
def ll_C (X : ux_X) (KC : ux_G) (ad : Nat → Nat) (b L : Nat) (ss : Nat → Int32) : Prop :=
  ((xp X).tables.exec = Jvm.exec ∧ (xc X).code = cL_law) ∧ (xc X).maxLocals = 4 ∧ (xs X).vm.findClass "MeterDeskLaw" = some (xm X).cls ∧ (∀ w ∈ lw_gt, w.before (xa X) (xs X) = true) ∧ (13 ≤ (xR X).frames ∧ 502 ≤ (xR X).locals ∧ 138 ≤ (xR X).cells ∧ 11691 ≤ (xR X).slots) ∧ (va_X b L ss (xs X) (xs X).heap ∧ b < (xs X).heap.size ∧ L ≤ 2048) ∧ (ux_ok KC shC ∧ ux_ok (ll_M KC ad) shM) ∧ ((∀ q, ux_A KC q → ll_A X q) ∧ (∀ q, ux_A (ll_M KC ad) q → ll_A X q) ∧ ∀ q, ux_A KC q → ux_A (ll_M KC ad) q → False) ∧ va_K KC.2.1 vwCl (ux_tys KC) (xs X) ∧ ux_Z (ll_A X) KC.2.2.2.2 (xs X)
abbrev ll_lv (b : Nat) (KC : ux_G) (ad : Nat → Nat) (i : Nat) : List (Nat × Value) := [(3, .int (nI i)), (2, .ref (ad 0)), (1, .ref (gad KC 0)), (0, .ref b)]
section LLR
variable {X : ux_X} {KC : ux_G} {ad : Nat → Nat} {b L : Nat} {ss : Nat → Int32} {pc i : Nat} {lv : List (Nat × Value)} {st : List Value} {Nc Nm Nc' Nm' : ux_N} {Lc Lm Lc' Lm' : ux_L}
theorem lc_x (C : ll_C X KC ad b L ss) : (xp X).tables.exec = Jvm.exec := C.1.1
theorem lc_b (C : ll_C X KC ad b L ss) : (xc X).code = cL_law := C.1.2
theorem lc_m (C : ll_C X KC ad b L ss) : (xc X).maxLocals = 4 := C.2.1
theorem lc_o (C : ll_C X KC ad b L ss) : (xs X).vm.findClass "MeterDeskLaw" = some (xm X).cls := C.2.2.1
theorem lc_t (C : ll_C X KC ad b L ss) : ∀ w ∈ lw_gt, w.before (xa X) (xs X) = true := C.2.2.2.1
theorem lc_R (C : ll_C X KC ad b L ss) : 13 ≤ (xR X).frames ∧ 502 ≤ (xR X).locals ∧ 138 ≤ (xR X).cells ∧ 11691 ≤ (xR X).slots := C.2.2.2.2.1
theorem lc_X (C : ll_C X KC ad b L ss) : va_X b L ss (xs X) (xs X).heap ∧ b < (xs X).heap.size ∧ L ≤ 2048 := C.2.2.2.2.2.1
theorem lc_ok (C : ll_C X KC ad b L ss) : ux_ok KC shC ∧ ux_ok (ll_M KC ad) shM := C.2.2.2.2.2.2.1
theorem lc_A (C : ll_C X KC ad b L ss) : (∀ q, ux_A KC q → ll_A X q) ∧ (∀ q, ux_A (ll_M KC ad) q → ll_A X q) ∧ ∀ q, ux_A KC q → ux_A (ll_M KC ad) q → False := C.2.2.2.2.2.2.2.1
theorem lc_K (C : ll_C X KC ad b L ss) : va_K KC.2.1 vwCl (ux_tys KC) (xs X) := C.2.2.2.2.2.2.2.2.1
theorem lc_Z (C : ll_C X KC ad b L ss) : ux_Z (ll_A X) KC.2.2.2.2 (xs X) := C.2.2.2.2.2.2.2.2.2
theorem lc_bA (C : ll_C X KC ad b L ss) : ¬ ll_A X b := Nat.not_le.mpr (lc_X C).2.1
theorem l_aload (q j : Nat) {k0 : Fin 4} {x : Nat} (C : ll_C X KC ad b L ss) (hd : decode cL_law pc = .ok (.aload_n k0, 1)) (hq : pc + 1 = q) (hl : lv[j]? = some ((k0 : Nat), .ref x)) (k : ll_Wt X KC ad q lv (.ref x :: st) Nc Lc Nm Lm) : ll_Wt X KC ad pc lv st Nc Lc Nm Lm := by
  subst hq; exact fun H locs ls hP hQ hS hv => lv_aload_n (lc_x C) (lc_b C) hd rfl (lv_at hv j hl) (k H locs ls hP hQ hS hv)
theorem l_arg (q j : Nat) (C : ll_C X KC ad b L ss) (hi : i + 4 ≤ L) (hj : j < 4) (d0 : decode cL_law pc = .ok (.aload_n 0, 1)) (d1 : decode cL_law (pc + 1) = .ok (.iload_n 3, 1)) (d2 : decode cL_law (pc + 1 + 1) = .ok (.iconst (j : Int), 1)) (d3 : decode cL_law (pc + 1 + 1 + 1) = .ok (.iadd, 1)) (d4 : decode cL_law (pc + 1 + 1 + 1 + 1) = .ok (.iaload, 1)) (hv : Int32.ofInt (j : Int) = nI j) (hq : pc + 1 + 1 + 1 + 1 + 1 = q) (k : ll_Wt X KC ad q (ll_lv b KC ad i) (.int (ss (i + j)) :: st) Nc Lc Nm Lm) : ll_Wt X KC ad pc (ll_lv b KC ad i) st Nc Lc Nm Lm := by
  subst hq
  have hL := (lc_X C).2.2
  refine fun H locs ls hP hQ hS hl => lv_aload_n (lc_x C) (lc_b C) d0 rfl (lv_at hl 3 rfl) (lv_iload_n (lc_x C) (lc_b C) d1 rfl (lv_at hl 0 rfl) (lv_iconst (lc_x C) (lc_b C) d2 hv (lv_iadd (lc_x C) (lc_b C) d3 ?_)))
  have e : nI i + nI j = nI (i + j) := nI_add i j
  rw [e]
  refine va_sld (lc_x C) (lc_b C) (lc_X C).1 (lc_X C).2.1 (lc_bA C) hS (vp_in_nI (show i + j < L by omega) (by omega)) d4 ?_
  rw [nI_clamp (by omega)]
  exact k H locs ls hP hQ hS hl
theorem lc_cb {idx maxL n fr' lo' : Nat} {y : MethodName} {cb : ByteArray} {rt : Option FieldType} (C : ll_C X KC ad b L ss) (m1 : Cond.methodLink "MeterDeskLaw" idx y ∈ lw_gt) (m4 : Cond.initialized y.cls ∈ lw_gt) (m5 : Cond.code y cb maxL rt ∈ lw_gt) (m6 : y.cls ≠ "java/lang/invoke/MethodHandle" ∧ y.cls ≠ "java/lang/invoke/VarHandle" ∧ (parseMethodDescriptor y.desc).map (fun d => d.parameters.length) = some n) (hR : fr' + 1 ≤ 13 ∧ 8 + (maxL + 11) + lo' ≤ 502) : CallB (xR X) (xs X) (xa X) "MeterDeskLaw" idx y cb maxL rt (.code y cb maxL rt :: lw_gt) (ux_rm fr' lo') 0 0 n :=
  callB_of n (lc_t C) (gt_good m5) rfl rfl rfl (lc_t C _ m4) (lc_t C _ m1) m6 ⟨Nat.le_trans hR.1 (lc_R C).1, Nat.le_trans hR.2 (lc_R C).2.1⟩
theorem l_callC (q : Nat) (rest As : List Value) {idx n maxL fr' lo' : Nat} {y : MethodName} {cb : ByteArray} {rt : Option FieldType} {r : Int32} (C : ll_C X KC ad b L ss) (kl : ux_LV "MeterDeskLaw" idx 11 y cb maxL rt n) (hM : ux_Mi (xl X) KC y cb maxL rt fr' lo' (.ref (gad KC 0) :: As) Nc Lc r Nc' Lc') (hn : As.length = n) (hst : st = As.reverse ++ .ref (gad KC 0) :: rest) (hR : fr' + 1 ≤ 13 ∧ 8 + (maxL + 11) + lo' ≤ 502) (hr : (rest.map fun v => v.category).sum ≤ 8) (hd : decode cL_law pc = .ok (.invokevirtual idx, 3)) (hq : pc + 3 = q) (k : ll_Wt X KC ad q lv (.int r :: rest) Nc' Lc' Nm Lm) : ll_Wt X KC ad pc lv st Nc Lc Nm Lm := by
  subst hq
  obtain ⟨⟨T, kk, h1⟩, m1, m2, m3, m4, m5, m6⟩ := kl
  have hs := sc_0
  rw [← (lc_ok C).1.1] at hs
  refine fun H locs ls hP hQ hS hv => va_calli (va_runV (As := As) (rest := rest) ⟨lc_x C, lc_b C, lc_m C, lc_o C, lc_t C⟩ hM ⟨lc_cb C m1 m4 m5 m6 hR, lc_t C _ m2, lc_t C _ m3⟩ ⟨ux_Pre.blind, va_recv (lc_K C) hP h1 (ux_at hs), fun U hU hW => ⟨rfl, (by rw [hU]; exact hP), va_K.moved hW.alike (lc_K C), ux_Z.narrow (ux_Z.call hW hS hU (lc_Z C)) (lc_A C).1⟩⟩ rfl hn hv.1 hst (lv_room hr) hd ⟨(lc_R C).2.2.1, (lc_R C).2.2.2⟩) hS (fun q _ z => (lc_A C).1 q z) (fun q z => (lc_A C).1 q z) (fun r' u t H1 locs1 ht hvm hw hB hz1 hk1 hS1 => ?_)
  cases hw
  refine k H1 locs1 ls (by rw [← ht]; exact hB) (hQ.kept (fun j x hx => hk1 x.1 (hQ j x hx).lt (fun z => (lc_A C).2.2 x.1 z ?_))) hS1 hv
  obtain ⟨g1, g2⟩ := ux_at_inv hx
  exact ⟨j, g1, g2⟩
theorem l_preM {As : List Value} {H : Heap} {locs : List Loc} (C : ll_C X KC ad b L ss) (hQ : va_P KC.2.1 vwCl (ux_wl (ll_M KC ad) Nm Lm) H) (hS : va_S (ll_A X) (xs X).heap H locs) (U : State) (hU : U.heap = H) (hW : (xs X).WarmedH U.vm) : ux_Pre (ll_M KC ad) As Nm Lm As.toArray U := by
  have z1 : ux_Z (ux_A (ll_M KC ad)) KC.2.2.2.2 U := ux_Z.narrow (ux_Z.call hW hS hU (lc_Z C)) (lc_A C).2.1
  have z2 : va_K KC.2.1 vwCl (ux_tys KC) U := va_K.moved hW.alike (lc_K C)
  exact ⟨rfl, (by rw [hU]; exact hQ), z2, z1⟩
theorem l_callM (q : Nat) (rest As : List Value) {idx n maxL fr' lo' : Nat} {y : MethodName} {cb : ByteArray} {rt : Option FieldType} {r : Int32} (C : ll_C X KC ad b L ss) (kl : ux_LV "MeterDeskLaw" idx 12 y cb maxL rt n) (hM : ux_Mi (xl X) (ll_M KC ad) y cb maxL rt fr' lo' (.ref (ad 0) :: As) Nm Lm r Nm' Lm') (hn : As.length = n) (hst : st = As.reverse ++ .ref (ad 0) :: rest) (hR : fr' + 1 ≤ 13 ∧ 8 + (maxL + 11) + lo' ≤ 502) (hr : (rest.map fun v => v.category).sum ≤ 8) (hd : decode cL_law pc = .ok (.invokevirtual idx, 3)) (hq : pc + 3 = q) (k : ll_Wt X KC ad q lv (.int r :: rest) Nc Lc Nm' Lm') : ll_Wt X KC ad pc lv st Nc Lc Nm Lm := by
  subst hq
  obtain ⟨⟨T, kk, h1⟩, m1, m2, m3, m4, m5, m6⟩ := kl
  refine fun H locs ls hP hQ hS hv => va_calli (va_runV (As := As) (rest := rest) ⟨lc_x C, lc_b C, lc_m C, lc_o C, lc_t C⟩ hM ⟨lc_cb C m1 m4 m5 m6 hR, lc_t C _ m2, lc_t C _ m3⟩ ⟨ux_Pre.blind, va_recv (lc_K C) hQ h1 (ux_at (G := ll_M KC ad) sm_0), fun U hU hW => l_preM C hQ hS U hU hW⟩ rfl hn hv.1 hst (lv_room hr) hd ⟨(lc_R C).2.2.1, (lc_R C).2.2.2⟩) hS (fun q _ z => (lc_A C).2.1 q z) (fun q z => (lc_A C).2.1 q z) (fun r' u t H1 locs1 ht hvm hw hB hz1 hk1 hS1 => ?_)
  cases hw
  refine k H1 locs1 ls (hP.kept (fun j x hx => hk1 x.1 (hP j x hx).lt (fun z => (lc_A C).2.2 x.1 ?_ z))) (by rw [← ht]; exact hB) hS1 hv
  obtain ⟨g1, g2⟩ := ux_at_inv hx
  exact ⟨j, g1, g2⟩
theorem l_eq {off : Int} {r : Int32} (C : ll_C X KC ad b L ss) (hd : decode cL_law pc = .ok (.if_icmp .eq off, 3)) (ht : (pc : Int) + off = ((861 : Nat) : Int)) (k : ll_Wt X KC ad 861 lv st Nc Lc Nm Lm) : ll_Wt X KC ad pc lv (.int r :: .int r :: st) Nc Lc Nm Lm :=
  fun H locs ls hP hQ hS hv => lv_icmp_eq (lc_x C) (lc_b C) hd ht (fun _ => k H locs ls hP hQ hS hv) (fun z => absurd rfl z)
theorem l_next (C : ll_C X KC ad b L ss) (d1 : decode cL_law 861 = .ok (.iinc 3 4, 3)) (d2 : decode cL_law 864 = .ok (.goto (-846), 3)) (k : ll_Wt X KC ad 18 (ll_lv b KC ad (i + 4)) [] Nc Lc Nm Lm) : ll_Wt X KC ad 861 (ll_lv b KC ad i) [] Nc Lc Nm Lm :=
  fun H locs ls hP hQ hS hl => lv_iinc (lc_x C) (lc_b C) d1 hl (show (ll_lv b KC ad i)[0]? = some (3, .int (nI i)) from rfl) (show nI i + Int32.ofInt 4 = nI (i + 4) from nI_add i 4) (by decide) (show ux_st1 3 (.int (nI (i + 4))) (ll_lv b KC ad i) = ll_lv b KC ad (i + 4) from rfl) (fun ls' hv' => lv_goto (lc_x C) (lc_b C) d2 (show ((864 : Nat) : Int) + (-846) = ((18 : Nat) : Int) from rfl) (k H locs ls' hP hQ hS hv'))
end LLR
