/-! makers: contracts and calls -/
abbrev mk_rm (fr lo mc ms : Nat) : Room := { frames := fr, cells := mc, slots := ms, locals := lo }
def mk_Pre (G : ux_G) (As : List Value) (t : Nat) (V : Nat → mk_E) : Array Value → State → Prop := va_Pc As (fun U => U.heap.size = gad G 0 + t ∧ va_P G.2.1 vwCl (mk_wl G t V) U.heap ∧ va_K G.2.1 vwCl (ux_tys G) U ∧ ux_Z (mk_A G) G.2.2.2.2 U ∧ mk_O U)
def mk_Qc (G : ux_G) (t : Nat) (V : Nat → mk_E) : Array Value → State → Outcome → State → Prop := va_Qv (fun (_ : Unit) => True) (fun _ u => u.heap.size = gad G 0 + t ∧ va_P G.2.1 vwCl (mk_wl G t V) u.heap) (mk_A G)
def mk_M (l : Launch) (G : ux_G) (y : MethodName) (cc : ByteArray) (nL fr lo mc ms : Nat) (As : List Value) (t : Nat) (V : Nat → mk_E) (t' : Nat) (V' : Nat → mk_E) : Prop :=
  Met l y (.code y cc nL none :: lw_gt) (mk_rm fr lo mc ms) (mk_Pre G As t V) (mk_Qc G t' V') mc ms (mk_A G)
def mk_Q (X : ux_X) (mc ms t : Nat) (V : Nat → mk_E) : Prop := xQ X = MQ (xb X) (mk_Qc (xG X) t V) (xa X) (xs X) mc ms (mk_A (xG X))
theorem mk_Pre.blind {G : ux_G} {As : List Value} {t : Nat} {V : Nat → mk_E} : FrameBlind (mk_Pre G As t V) := by
  intro a U g mk h
  obtain ⟨h0, h1, h2, h3, h4, h5⟩ := h
  exact ⟨h0, h1, h2, va_K.moved (u := U) (U := U.calling g mk a) (Vm.Alike.refl U.vm) h3, ux_Z.same (u := U) rfl rfl h4, mk_O.moved (u := U) (U := U.calling g mk a) (Vm.Alike.refl U.vm) h5⟩
theorem mk_of {l : Launch} {G : ux_G} {y : MethodName} {cc : ByteArray} {nL fr lo mc ms : Nat} {As : List Value} {t t' : Nat} {V V' : Nat → mk_E} (hg : mk_g G) (hy : plainName y.cls = true) (hy1 : y.name = "<init>") (hn : (lg_sl As).length ≤ nL)
    (body : ∀ X : ux_X, xG X = G → xl X = l → mk_C X cc y.cls nL fr lo mc ms → mk_Q X mc ms t' V' → mk_Wt X nL 0 (lv_args 0 As) [] t V 0 0) : mk_M l G y cc nL fr lo mc ms As t V t' V' := by
  refine Met.ofW (cc := cc) (maxL := nL) (ret := none) hy rfl ?_
  intro p e s m args below meth c s₁ B hml hv
  obtain ⟨rfl, hz, hP, hK, hZ, hO⟩ := hv
  have hts := atoms_spec (ws := Cond.code y cc nL none :: lw_gt) B.pre
  have hnm : meth.name = "<init>" := (name_of_methodNamed B.named B.method).1.trans hy1
  have K := body (p, l, e, (headSpec (Cond.code y cc nL none :: lw_gt) (mk_rm fr lo mc ms)).room, s, m, As.toArray, below, meth, c, G, MQ below (mk_Qc G t' V') As.toArray s mc ms (mk_A G)) rfl rfl
    ⟨⟨B.exec, B.bytes⟩, B.returns, hml, findClass_of_methodNamed B.named, fun w hw => hts w (List.mem_cons_of_mem _ hw), ⟨B.notSynchronized, hnm⟩, ⟨Nat.le_refl _, Nat.le_refl _, Nat.le_refl _, Nat.le_refl _⟩, ⟨hg, (by rw [hz]; exact Nat.le_add_right _ _)⟩, hK, hZ, hO⟩ rfl
  rw [lg_entry_eq]
  exact K s.heap [] _ hz hP va_S.rf (lv_entry As hn)
def mk_d : mk_E := (0, 0, 0, [], (fun _ => 0), (fun _ => 0))
def mk_ov (V : Nat → mk_E) (o : Nat) (l : List mk_E) : Nat → mk_E := fun j => if j < o then V j else l.getD (j - o) mk_d
theorem mk_ov_lt {V : Nat → mk_E} {o : Nat} {l : List mk_E} {j : Nat} (h : j < o) : mk_ov V o l j = V j := if_pos h
theorem mk_ov_ge {V : Nat → mk_E} {o : Nat} {l : List mk_E} {j : Nat} (h : ¬ j < o) : mk_ov V o l j = l.getD (j - o) mk_d := if_neg h
theorem mk_cong {G : ux_G} {t : Nat} {V V' : Nat → mk_E} (h : ∀ i, i < t → V i = V' i) : mk_wl G t V = mk_wl G t V' := by
  unfold mk_wl
  apply List.map_congr_left
  intro i hi
  rw [h i (List.mem_range.mp hi)]
theorem mk_ovs {V V' : Nat → mk_E} {o t : Nat} {l : List mk_E} (h1 : ∀ i, i < o → V i = V' i) (h2 : ∀ i, i < t - o → V (o + i) = l.getD i mk_d) : ∀ i, i < t → V i = mk_ov V' o l i := by
  intro i hi
  by_cases h : i < o
  · rw [mk_ov_lt h]; exact h1 i h
  · rw [mk_ov_ge h, ← h2 (i - o) (by omega)]
    exact congrArg V (by omega)
def mk_LI (own : String) (idx : Nat) (y : MethodName) (cb : ByteArray) (maxL n : Nat) : Prop :=
  (Cond.methodLink own idx y ∈ lw_gt ∨ (own, idx, y, "MeterDesk") ∈ tb_nest) ∧ Cond.instanceMethod y ∈ lw_gt ∧ Cond.initialized y.cls ∈ lw_gt ∧ Cond.code y cb maxL none ∈ lw_gt ∧ y.name = "<init>" ∧ (y.cls ≠ "java/lang/invoke/MethodHandle" ∧ y.cls ≠ "java/lang/invoke/VarHandle" ∧ (parseMethodDescriptor y.desc).map (fun d => d.parameters.length) = some n)
section MK3
variable {X : ux_X} {cc : ByteArray} {own : String} {nL fr lo mc ms : Nat} {pc : Nat} {lv : List (Nat × Value)} {st : List Value} {t : Nat} {V : Nat → mk_E} {c n : Nat}
theorem mk_pre {As : List Value} {H : Heap} {locs : List Loc} (C : mk_C X cc own nL fr lo mc ms) (hz : H.size = gad (xG X) 0 + t) (hP : va_P (xG X).2.1 vwCl (mk_wl (xG X) t V) H) (hS : va_S (mk_A (xG X)) (xs X).heap H locs) (U : State) (hU : U.heap = H) (hW : (xs X).WarmedH U.vm) : mk_Pre (xG X) As t V As.toArray U :=
  ⟨rfl, by rw [hU]; exact hz, by rw [hU]; exact hP, va_K.moved hW.alike (mc_K C), ux_Z.call hW hS hU (mc_Z C), mk_O.moved hW.alike (mc_O C)⟩
theorem m_init (q : Nat) (rest As : List Value) {b idx maxL n0 fr' lo' mc' ms' t' : Nat} {y : MethodName} {cb : ByteArray} {V' : Nat → mk_E} (C : mk_C X cc own nL fr lo mc ms) (kl : mk_LI own idx y cb maxL n0) (hM : mk_M (xl X) (xG X) y cb maxL fr' lo' mc' ms' (.ref b :: As) t V t' V') (hn : As.length = n0) (hst : st = As.reverse ++ .ref b :: rest) (hR : fr' + 1 ≤ fr ∧ 8 + (maxL + 11) + lo' ≤ lo) (hf : c + mc' ≤ mc ∧ n + ms' ≤ ms) (hr : (rest.map fun v => v.category).sum ≤ 8) (hd : decode cc pc = .ok (.invokespecial idx, 3)) (hq : pc + 3 = q) (k : mk_Wt X nL q lv rest t' V' (c + mc') (n + ms')) : mk_Wt X nL pc lv st t V c n := by
  subst hq
  obtain ⟨m1, m2, m4, m5, m7, m6⟩ := kl
  have hRR : fr' + 1 ≤ (xR X).frames ∧ 8 + (maxL + 11) + lo' ≤ (xR X).locals := ⟨Nat.le_trans hR.1 (mc_R C).1, Nat.le_trans hR.2 (mc_R C).2.1⟩
  have hff : c + mc' ≤ (xR X).cells ∧ n + ms' ≤ (xR X).slots := ⟨Nat.le_trans hf.1 (mc_R C).2.2.1, Nat.le_trans hf.2 (mc_R C).2.2.2⟩
  rcases m1 with m1 | m1
  · refine fun H locs ls hz hP hS hv => va_callv (va_runI (As := As) (rest := rest) ⟨mc_x C, mc_b C, mc_m C, mc_o C, mc_t C⟩ hM ⟨callB_of n0 (mc_t C) (gt_good m5) rfl rfl rfl (mc_t C _ m4) (mc_t C _ m1) m6 hRR, m7, mc_t C _ m2⟩ ⟨mk_Pre.blind, fun U hU hW => mk_pre C hz hP hS U hU hW⟩ rfl hn hv.1 hst (lv_room hr) hd hff) hS (fun _ _ z => z) (fun _ z => z) (fun u t0 H1 locs1 ht hvm hw hB hz1 hk1 hS1 => ?_)
    exact k H1 locs1 ls (by rw [← ht]; exact hB.1) (by rw [← ht]; exact hB.2) hS1 hv
  · have hN : va_Nw (.methodLinkNest own idx y "MeterDesk") (xs X) := (mc_Z C).2.2.2.2.2 _ m1
    refine fun H locs ls hz hP hS hv => va_callv (va_runIN (As := As) (rest := rest) ⟨mc_x C, mc_b C, mc_m C, mc_o C, mc_t C⟩ hM ⟨va_cnB n0 (mc_t C) (gt_good m5) rfl rfl rfl hN (mc_t C _ m4) m6 hRR, m7, mc_t C _ m2⟩ ⟨mk_Pre.blind, fun U hU hW => mk_pre C hz hP hS U hU hW⟩ rfl hn hv.1 hst (lv_room hr) hd hff) hS (fun _ _ z => z) (fun _ z => z) (fun u t0 H1 locs1 ht hvm hw hB hz1 hk1 hS1 => ?_)
    exact k H1 locs1 ls (by rw [← ht]; exact hB.1) (by rw [← ht]; exact hB.2) hS1 hv
theorem m_ret {V' : Nat → mk_E} (C : mk_C X cc own nL fr lo mc ms) (hq : mk_Q X c n t V') (hV : ∀ i, i < t → V i = V' i) (hd : decode cc pc = .ok (.return_, 1)) : mk_Wt X nL pc lv [] t V c n := by
  intro H locs ls hz hP hS hv
  rw [mk_cong hV] at hP
  show W _ _ _ _ _ _ _ _ _ _ _ _ _ _ (xQ X) _
  rw [hq]
  exact W.vret (mc_x C) (mc_b C) (mc_r C) (fun u hu hW => ⟨⟨(), rfl, trivial, by show _ ∧ _; rw [hu]; exact ⟨hz, hP⟩⟩, hS.F hu⟩) hS.2.2 hd (mc_l C).1
theorem m_isub {lv' : List (Nat × Value)} (ks : List Nat) (h : lv_pick lv ks = lv') (k : mk_Wt X nL pc lv' st t V c n) : mk_Wt X nL pc lv st t V c n := fun H locs ls hz hP hS hl => k H locs ls hz hP hS (lv_sub hl ks h)
end MK3
