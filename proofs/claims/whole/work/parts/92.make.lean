/-! makers: a world that grows; its i-th cell lies at the address Z + i -/
abbrev mk_E : Type := Nat × Nat × Nat × List (Option (Option Nat)) × (Nat → Int32) × (Nat → Int64)
def mk_v (ad : Nat → Nat) (f : Nat → Int32) (k : Nat) (o : Option (Option Nat)) : Value := match o with
  | none => .int (f k)
  | some none => .null
  | some (some j) => .ref (ad j)
def mk_q (ad : Nat → Nat) (cs : List (Option (Option Nat))) (i : Nat) : Option Nat := ((cs.getD i none).getD none).map ad
def mk_e (cy : Nat → ClassId) (ad : Nat → Nat) (q : mk_E) : va_E := match q.1 with
  | 0 => .inr (q.2.1, q.2.2.2.1.mapIdx (mk_v ad q.2.2.2.2.1))
  | 1 => .inl (cy q.2.1, q.2.2.1, .inl q.2.2.2.2.1)
  | 2 => .inl (cy q.2.1, q.2.2.1, .inr (.inl q.2.2.2.2.2))
  | _ => .inl (cy q.2.1, q.2.2.1, .inr (.inr (.inr (.inr (mk_q ad q.2.2.2.1)))))
def mk_wl (G : ux_G) (t : Nat) (V : Nat → mk_E) : va_W := (List.range t).map (fun i => (gad G i, mk_e (gcy G) (gad G) (V i)))
def mk_A (G : ux_G) : Nat → Prop := fun q => gad G 0 ≤ q
def mk_g (G : ux_G) : Prop := ∀ i, gad G i = gad G 0 + i
section MKW
variable {G : ux_G} {t : Nat} {V : Nat → mk_E}
theorem mk_at {i : Nat} (h : i < t) : (mk_wl G t V)[i]? = some (gad G i, mk_e (gcy G) (gad G) (V i)) := by
  unfold mk_wl
  rw [List.getElem?_map, List.getElem?_range h]
  rfl
theorem mk_at_inv {k : Nat} {x : Nat × va_E} (h : (mk_wl G t V)[k]? = some x) : k < t ∧ x = (gad G k, mk_e (gcy G) (gad G) (V k)) := by
  have hk : k < t := by
    have := (List.getElem?_eq_some_iff.mp h).1
    unfold mk_wl at this
    rw [List.length_map, List.length_range] at this
    exact this
  rw [mk_at hk] at h
  exact ⟨hk, (Option.some.inj h).symm⟩
theorem mk_D (hg : mk_g G) (t : Nat) (V : Nat → mk_E) : va_D (mk_A G) (mk_wl G t V) := by
  refine ⟨fun i j x y hi hj hxy => ?_, fun k q hk => ?_⟩
  · obtain ⟨h1, rfl⟩ := mk_at_inv hi
    obtain ⟨h3, rfl⟩ := mk_at_inv hj
    have : gad G i = gad G j := hxy
    rw [hg i, hg j] at this
    omega
  · obtain ⟨h1, rfl⟩ := mk_at_inv hk
    show gad G 0 ≤ gad G k
    rw [hg k]; omega
theorem mk_push (e : mk_E) : mk_wl G (t + 1) (va_up V t e) = mk_wl G t V ++ [(gad G t, mk_e (gcy G) (gad G) e)] := by
  unfold mk_wl
  rw [List.range_succ, List.map_append]
  congr 1
  · apply List.map_congr_left
    intro i hi
    have : i ≠ t := by have := List.mem_range.mp hi; omega
    unfold va_up
    rw [if_neg this]
  · show [(gad G t, mk_e (gcy G) (gad G) (va_up V t e t))] = [(gad G t, mk_e (gcy G) (gad G) e)]
    unfold va_up
    rw [if_pos rfl]
theorem mk_set {i : Nat} (hi : i < t) (e : mk_E) : (mk_wl G t V).set i (gad G i, mk_e (gcy G) (gad G) e) = mk_wl G t (va_up V i e) := by
  apply List.ext_getElem?
  intro j
  by_cases hj : j = i
  · subst hj
    rw [List.getElem?_set_self (by unfold mk_wl; rw [List.length_map, List.length_range]; exact hi), mk_at hi]
    unfold va_up
    rw [if_pos rfl]
  · rw [List.getElem?_set_ne (Ne.symm hj)]
    by_cases ht : j < t
    · rw [mk_at ht, mk_at ht]
      unfold va_up
      rw [if_neg hj]
    · unfold mk_wl
      rw [List.getElem?_eq_none (by rw [List.length_map, List.length_range]; omega), List.getElem?_eq_none (by rw [List.length_map, List.length_range]; omega)]
end MKW
theorem mk_fset {ad : Nat → Nat} {f : Nat → Int32} {fs : List (Option (Option Nat))} {k j : Nat} : (fs.mapIdx (mk_v ad f)).set k (.ref (ad j)) = (fs.set k (some (some j))).mapIdx (mk_v ad f) := by
  apply List.ext_getElem?
  intro i
  by_cases hi : i = k
  · subst hi
    by_cases hl : i < fs.length
    · rw [List.getElem?_set_self (by rw [List.length_mapIdx]; exact hl), List.getElem?_mapIdx, List.getElem?_set_self hl]
      rfl
    · rw [List.getElem?_eq_none (by rw [List.length_set, List.length_mapIdx]; omega), List.getElem?_eq_none (by rw [List.length_mapIdx, List.length_set]; omega)]
  · rw [List.getElem?_set_ne (Ne.symm hi), List.getElem?_mapIdx, List.getElem?_mapIdx, List.getElem?_set_ne (Ne.symm hi)]
theorem mk_iset {ad : Nat → Nat} {f : Nat → Int32} {fs : List (Option (Option Nat))} {k : Nat} {v : Int32} (hk : fs[k]? = some none) : (fs.mapIdx (mk_v ad f)).set k (.int v) = fs.mapIdx (mk_v ad (upd f k v)) := by
  apply List.ext_getElem?
  intro j
  by_cases hj : j = k
  · subst hj
    rw [List.getElem?_set_self (by rw [List.length_mapIdx]; exact (List.getElem?_eq_some_iff.mp hk).1), List.getElem?_mapIdx, hk]
    simp [mk_v, upd]
  · rw [List.getElem?_set_ne (Ne.symm hj), List.getElem?_mapIdx, List.getElem?_mapIdx]
    cases fs[j]? with
    | none => rfl
    | some o => cases o with
      | none => simp [mk_v, upd, hj]
      | some o => cases o <;> simp [mk_v]
theorem mk_qset {ad : Nat → Nat} {cs : List (Option (Option Nat))} {k j : Nat} (hk : k < cs.length) : va_up (mk_q ad cs) k (some (ad j)) = mk_q ad (cs.set k (some (some j))) := by
  funext i
  unfold va_up mk_q
  by_cases hi : i = k
  · subst hi
    rw [if_pos rfl, List.getD_eq_getElem?_getD, List.getElem?_set_self hk]; rfl
  · rw [if_neg hi, List.getD_eq_getElem?_getD, List.getD_eq_getElem?_getD, List.getElem?_set_ne (Ne.symm hi)]
def mk_Wt (X : ux_X) (nL pc : Nat) (lv : List (Nat × Value)) (st : List Value) (t : Nat) (V : Nat → mk_E) (k n : Nat) : Prop :=
  ∀ (H : Heap) (locs : List Loc) (ls : Array Slot), H.size = gad (xG X) 0 + t → va_P (xG X).2.1 vwCl (mk_wl (xG X) t V) H → va_S (mk_A (xG X)) (xs X).heap H locs → lv_has ls nL lv → W (xp X) (xl X) (xe X) (xR X) (xs X) (xm X) (xa X) (xb X) (xme X) (xc X) H locs k n (xQ X) (F0 (xm X) pc ls st)
def mk_O (U : State) : Prop := va_AO "MeterDesk$Family" U ∧ va_AO "MeterDesk$Parts" U ∧ va_AO "MeterDesk$Standing" U ∧ va_AO "MeterDesk$Tray" U
theorem mk_O.moved {u U : State} (hvm : u.vm.Alike U.vm) (h : mk_O u) : mk_O U := ⟨h.1.moved hvm, h.2.1.moved hvm, h.2.2.1.moved hvm, h.2.2.2.moved hvm⟩
def mk_C (X : ux_X) (cc : ByteArray) (own : String) (nL fr lo mc ms : Nat) : Prop :=
  ((xp X).tables.exec = Jvm.exec ∧ (xc X).code = cc) ∧ (xme X).sig.returnType = none ∧ (xc X).maxLocals = nL ∧ (xs X).vm.findClass own = some (xm X).cls ∧ (∀ w ∈ lw_gt, w.before (xa X) (xs X) = true) ∧ ((xme X).locks = false ∧ (xme X).name = "<init>") ∧ (fr ≤ (xR X).frames ∧ lo ≤ (xR X).locals ∧ mc ≤ (xR X).cells ∧ ms ≤ (xR X).slots) ∧ (mk_g (xG X) ∧ gad (xG X) 0 ≤ (xs X).heap.size) ∧ va_K (xG X).2.1 vwCl (ux_tys (xG X)) (xs X) ∧ ux_Z (mk_A (xG X)) (xG X).2.2.2.2 (xs X) ∧ mk_O (xs X)
/-- a class's table, as a maker needs it -/
def mk_L (ci n0 : Nat) (CN : String) (T : u_T) (ty : Nat → FieldType) : Prop := vwCl[ci]? = some (CN, T, n0) ∧ (∀ w ∈ u_ws CN T n0, w ∈ lw_gt) ∧ (∀ k, k < n0 → parseFieldDescriptor (T k).2.2.1 = some (ty k)) ∧ (∀ a, a < n0 → ∀ b, b < n0 → a ≠ b → (T a).2.1 ≠ (T b).2.1)
section MKC
variable {X : ux_X} {cc : ByteArray} {own : String} {nL fr lo mc ms : Nat} {pc : Nat} {lv lv' : List (Nat × Value)} {st : List Value} {t : Nat} {V : Nat → mk_E} {c n : Nat}
theorem mc_x (C : mk_C X cc own nL fr lo mc ms) : (xp X).tables.exec = Jvm.exec := C.1.1
theorem mc_b (C : mk_C X cc own nL fr lo mc ms) : (xc X).code = cc := C.1.2
theorem mc_r (C : mk_C X cc own nL fr lo mc ms) : (xme X).sig.returnType = none := C.2.1
theorem mc_m (C : mk_C X cc own nL fr lo mc ms) : (xc X).maxLocals = nL := C.2.2.1
theorem mc_o (C : mk_C X cc own nL fr lo mc ms) : (xs X).vm.findClass own = some (xm X).cls := C.2.2.2.1
theorem mc_t (C : mk_C X cc own nL fr lo mc ms) : ∀ w ∈ lw_gt, w.before (xa X) (xs X) = true := C.2.2.2.2.1
theorem mc_l (C : mk_C X cc own nL fr lo mc ms) : (xme X).locks = false ∧ (xme X).name = "<init>" := C.2.2.2.2.2.1
theorem mc_R (C : mk_C X cc own nL fr lo mc ms) : fr ≤ (xR X).frames ∧ lo ≤ (xR X).locals ∧ mc ≤ (xR X).cells ∧ ms ≤ (xR X).slots := C.2.2.2.2.2.2.1
theorem mc_g (C : mk_C X cc own nL fr lo mc ms) : mk_g (xG X) ∧ gad (xG X) 0 ≤ (xs X).heap.size := C.2.2.2.2.2.2.2.1
theorem mc_K (C : mk_C X cc own nL fr lo mc ms) : va_K (xG X).2.1 vwCl (ux_tys (xG X)) (xs X) := C.2.2.2.2.2.2.2.2.1
theorem mc_Z (C : mk_C X cc own nL fr lo mc ms) : ux_Z (mk_A (xG X)) (xG X).2.2.2.2 (xs X) := C.2.2.2.2.2.2.2.2.2.1
theorem mc_O (C : mk_C X cc own nL fr lo mc ms) : mk_O (xs X) := C.2.2.2.2.2.2.2.2.2.2
theorem m_iconst (q : Nat) {z : Int} (v : Int32) (C : mk_C X cc own nL fr lo mc ms) (hd : decode cc pc = .ok (.iconst z, 1)) (hq : pc + 1 = q) (hv : Int32.ofInt z = v) (k : mk_Wt X nL q lv (.int v :: st) t V c n) : mk_Wt X nL pc lv st t V c n := by
  subst hq; exact fun H locs ls hz hP hS hl => lv_iconst (mc_x C) (mc_b C) hd hv (k H locs ls hz hP hS hl)
theorem m_bipush (q : Nat) {z : Int} (v : Int32) (C : mk_C X cc own nL fr lo mc ms) (hd : decode cc pc = .ok (.bipush z, 2)) (hq : pc + 2 = q) (hv : (Int8.ofInt z).toInt32 = v) (k : mk_Wt X nL q lv (.int v :: st) t V c n) : mk_Wt X nL pc lv st t V c n := by
  subst hq; exact fun H locs ls hz hP hS hl => lv_bipush (mc_x C) (mc_b C) hd hv (k H locs ls hz hP hS hl)
theorem m_sipush (q : Nat) {z : Int} (v : Int32) (C : mk_C X cc own nL fr lo mc ms) (hd : decode cc pc = .ok (.sipush z, 3)) (hq : pc + 3 = q) (hv : (Int16.ofInt z).toInt32 = v) (k : mk_Wt X nL q lv (.int v :: st) t V c n) : mk_Wt X nL pc lv st t V c n := by
  subst hq; exact fun H locs ls hz hP hS hl => lv_sipush (mc_x C) (mc_b C) hd hv (k H locs ls hz hP hS hl)
theorem m_ldc2 (q : Nat) {i : Nat} {v : Int64} (C : mk_C X cc own nL fr lo mc ms) (hc : Cond.constantLong own i v ∈ lw_gt) (hd : decode cc pc = .ok (.ldc2_w i, 3)) (hq : pc + 3 = q) (k : mk_Wt X nL q lv (.long v :: st) t V c n) : mk_Wt X nL pc lv st t V c n := by
  subst hq; exact fun H locs ls hz hP hS hl => lv_ldc2 (mc_x C) (mc_b C) (mc_o C) (mc_t C _ hc) hd (k H locs ls hz hP hS hl)
theorem m_aload_n (q j : Nat) {i : Fin 4} {x : Nat} (C : mk_C X cc own nL fr lo mc ms) (hd : decode cc pc = .ok (.aload_n i, 1)) (hq : pc + 1 = q) (hl : lv[j]? = some ((i : Nat), .ref x)) (k : mk_Wt X nL q lv (.ref x :: st) t V c n) : mk_Wt X nL pc lv st t V c n := by
  subst hq; exact fun H locs ls hz hP hS hv => lv_aload_n (mc_x C) (mc_b C) hd rfl (lv_at hv j hl) (k H locs ls hz hP hS hv)
theorem m_iload_n (q j : Nat) {i : Fin 4} {x : Int32} (C : mk_C X cc own nL fr lo mc ms) (hd : decode cc pc = .ok (.iload_n i, 1)) (hq : pc + 1 = q) (hl : lv[j]? = some ((i : Nat), .int x)) (k : mk_Wt X nL q lv (.int x :: st) t V c n) : mk_Wt X nL pc lv st t V c n := by
  subst hq; exact fun H locs ls hz hP hS hv => lv_iload_n (mc_x C) (mc_b C) hd rfl (lv_at hv j hl) (k H locs ls hz hP hS hv)
theorem m_istore_n (q : Nat) (lv' : List (Nat × Value)) {i : Fin 4} {x : Int32} (C : mk_C X cc own nL fr lo mc ms) (hd : decode cc pc = .ok (.istore_n i, 1)) (hq : pc + 1 = q) (hn : (i : Nat) < nL) (hl : ux_st1 (i : Nat) (.int x) lv = lv') (k : mk_Wt X nL q lv' st t V c n) : mk_Wt X nL pc lv (.int x :: st) t V c n := by
  subst hq; exact fun H locs ls hz hP hS hv => lv_istore_n (mc_x C) (mc_b C) hd rfl hv hn hl (fun ls' hv' => k H locs ls' hz hP hS hv')
theorem m_iinc (q j : Nat) (lv' : List (Nat × Value)) {i : Nat} {z : Int} {x : Int32} (v : Int32) (C : mk_C X cc own nL fr lo mc ms) (hd : decode cc pc = .ok (.iinc i z, 3)) (hq : pc + 3 = q) (hk : lv[j]? = some (i, .int x)) (hv : x + Int32.ofInt z = v) (hn : i < nL) (hl : ux_st1 i (.int v) lv = lv') (k : mk_Wt X nL q lv' st t V c n) : mk_Wt X nL pc lv st t V c n := by
  subst hq; exact fun H locs ls hz hP hS hl' => lv_iinc (mc_x C) (mc_b C) hd hl' hk hv hn hl (fun ls' hv' => k H locs ls' hz hP hS hv')
theorem m_dup (q : Nat) {a : Value} (C : mk_C X cc own nL fr lo mc ms) (hd : decode cc pc = .ok (.dup, 1)) (hq : pc + 1 = q) (ha : a.category = 1) (k : mk_Wt X nL q lv (a :: a :: st) t V c n) : mk_Wt X nL pc lv (a :: st) t V c n := by
  subst hq; exact fun H locs ls hz hP hS hl => lv_dup (mc_x C) (mc_b C) hd ha (k H locs ls hz hP hS hl)
theorem m_goto (tgt : Nat) {off : Int} (C : mk_C X cc own nL fr lo mc ms) (hd : decode cc pc = .ok (.goto off, 3)) (ht : (pc : Int) + off = (tgt : Int)) (k : mk_Wt X nL tgt lv st t V c n) : mk_Wt X nL pc lv st t V c n :=
  fun H locs ls hz hP hS hl => lv_goto (mc_x C) (mc_b C) hd ht (k H locs ls hz hP hS hl)
theorem m_icmp_geT (tgt : Nat) {off : Int} {x y : Int32} (C : mk_C X cc own nL fr lo mc ms) (hd : decode cc pc = .ok (.if_icmp .ge off, 3)) (ht : (pc : Int) + off = (tgt : Int)) (h : y ≤ x) (k : mk_Wt X nL tgt lv st t V c n) : mk_Wt X nL pc lv (.int y :: .int x :: st) t V c n :=
  fun H locs ls hz hP hS hl => lv_icmp_ge (mc_x C) (mc_b C) hd ht (fun _ => k H locs ls hz hP hS hl) (fun z => absurd h z)
theorem m_icmp_geF (q tgt : Nat) {off : Int} {x y : Int32} (C : mk_C X cc own nL fr lo mc ms) (hd : decode cc pc = .ok (.if_icmp .ge off, 3)) (hq : pc + 3 = q) (ht : (pc : Int) + off = (tgt : Int)) (h : ¬ y ≤ x) (k : mk_Wt X nL q lv st t V c n) : mk_Wt X nL pc lv (.int y :: .int x :: st) t V c n := by
  subst hq; exact fun H locs ls hz hP hS hl => lv_icmp_ge (mc_x C) (mc_b C) hd ht (fun z => absurd z h) (fun _ => k H locs ls hz hP hS hl)
theorem m_icmp_gtT (tgt : Nat) {off : Int} {x y : Int32} (C : mk_C X cc own nL fr lo mc ms) (hd : decode cc pc = .ok (.if_icmp .gt off, 3)) (ht : (pc : Int) + off = (tgt : Int)) (h : y < x) (k : mk_Wt X nL tgt lv st t V c n) : mk_Wt X nL pc lv (.int y :: .int x :: st) t V c n :=
  fun H locs ls hz hP hS hl => lv_icmp_gt (mc_x C) (mc_b C) hd ht (fun _ => k H locs ls hz hP hS hl) (fun z => absurd h z)
theorem m_icmp_gtF (q tgt : Nat) {off : Int} {x y : Int32} (C : mk_C X cc own nL fr lo mc ms) (hd : decode cc pc = .ok (.if_icmp .gt off, 3)) (hq : pc + 3 = q) (ht : (pc : Int) + off = (tgt : Int)) (h : ¬ y < x) (k : mk_Wt X nL q lv st t V c n) : mk_Wt X nL pc lv (.int y :: .int x :: st) t V c n := by
  subst hq; exact fun H locs ls hz hP hS hl => lv_icmp_gt (mc_x C) (mc_b C) hd ht (fun z => absurd z h) (fun _ => k H locs ls hz hP hS hl)
theorem m_obj (q : Nat) {idx a : Nat} (C : mk_C X cc own nL fr lo mc ms) (h1 : Cond.methodLink own idx Lib.objectInit ∈ lw_gt) (h2 : Cond.instanceMethod Lib.objectInit ∈ lw_gt) (h3 : Cond.code Lib.objectInit ⟨#[0xb1]⟩ 1 none ∈ lw_gt) (hd : decode cc pc = .ok (.invokespecial idx, 3)) (hq : pc + 3 = q) (hf : 1 ≤ fr ∧ 12 ≤ lo) (k : mk_Wt X nL q lv [] t V c n) : mk_Wt X nL pc lv [.ref a] t V c n := by
  subst hq
  refine fun H locs ls hz hP hS hv => W.objInit (mc_x C) (mc_b C) (mc_o C) (mc_t C _ h1) (mc_t C _ h2) (mc_t C _ h3) rfl (by rw [mc_m C]; exact hv.1) rfl hd (Nat.le_trans hf.1 (mc_R C).1) (Nat.le_trans hf.2 (mc_R C).2.1) (k H locs ls hz hP hS hv)
theorem m_new (q : Nat) {ci n0 idx : Nat} {CN : String} {T : u_T} {ty : Nat → FieldType} (fs : List (Option (Option Nat))) (C : mk_C X cc own nL fr lo mc ms) (hl : mk_L ci n0 CN T ty) (k1 : Cond.classLink own idx CN ∈ lw_gt) (k2 : Cond.instantiable CN n0 ∈ lw_gt) (k3 : Cond.initialized CN ∈ lw_gt) (hfs : ∀ j, j < n0 → defaultValue (ty j) = vp_V (fs.mapIdx (mk_v (gad (xG X)) (fun _ => 0))) j) (hc : c + 1 ≤ mc) (hn : n + n0 ≤ ms) (hd : decode cc pc = .ok (.new idx, 3)) (hq : pc + 3 = q)
    (k : mk_Wt X nL q lv (.ref (gad (xG X) t) :: st) (t + 1) (va_up V t (0, ci, 0, fs, (fun _ => 0), (fun _ => 0))) (c + 1) (n + n0)) : mk_Wt X nL pc lv st t V c n := by
  subst hq
  obtain ⟨hci, hin, hty, hnm⟩ := hl
  intro H locs ls hz hP hS hv
  have hKn := (mc_K C).1 ci _ hci
  have ha : gad (xG X) t = H.size := by rw [(mc_g C).1 t, hz]
  refine W.newcK (mc_x C) (mc_b C) (mc_o C) (mc_t C _ k1) (mc_t C _ k2) (mc_t C _ k3) rfl hd (Nat.le_trans hc (mc_R C).2.2.1) (Nat.le_trans hn (mc_R C).2.2.2) hKn.2.1 rfl fun H1 kC hkC e1 z1 o1 => ?_
  have K := k H1 locs ls (by rw [z1, hz]; omega) (by
    rw [mk_push]
    refine (hP.kept (fun i x hx => o1 x.1 ((hP i x hx).lt))).app (fun i x hx => ?_)
    have hz' : i < 1 := (List.getElem?_eq_some_iff.mp hx).1
    rw [show i = 0 by omega] at hx
    cases hx
    rw [ha]
    exact ⟨_, hci, (u_born ty (mc_t C) hin hKn hkC e1 hty).to hfs⟩) ⟨Nat.le_trans hS.1 (by omega), fun x h1 h2 => (o1 x (Nat.lt_of_lt_of_le h1 hS.1)).trans (hS.2.1 x h1 h2), hS.2.2⟩ hv
  rw [ha] at K
  exact K
theorem m_newa (q N t0 : Nat) {z : Int32} {atype : ArrayType} {a0 : vp_A} (e : mk_E) (C : mk_C X cc own nL fr lo mc ms) (hw : Cond.arrayClass (newarray.typeOf atype) ∈ lw_gt) (hra : (xs X).vm.findClass ("[" ++ (newarray.typeOf atype).toString) = some (gcy (xG X) t0)) (he : mk_e (gcy (xG X)) (gad (xG X)) e = .inl (gcy (xG X) t0, a0)) (hce : vp_cell (gcy (xG X) t0) a0 = arrV (gcy (xG X) t0) N (fun _ => defaultValue (newarray.typeOf atype))) (hz0 : ¬ z < 0) (hN : z.toNatClampNeg = N) (hby : N * componentBytes (newarray.typeOf atype) ≤ 536870912) (hc : c + 1 ≤ mc) (hn : n + N ≤ ms) (hd : decode cc pc = .ok (.newarray atype, 2)) (hq : pc + 2 = q)
    (k : mk_Wt X nL q lv (.ref (gad (xG X) t) :: st) (t + 1) (va_up V t e) (c + 1) (n + N)) : mk_Wt X nL pc lv (.int z :: st) t V c n := by
  subst hq
  intro H locs ls hz hP hS hv
  have ha : gad (xG X) t = H.size := by rw [(mc_g C).1 t, hz]
  refine va_newaK (mc_x C) (mc_b C) (mc_t C _ hw) rfl hd rfl hz0 hN hby (Nat.le_trans hc (mc_R C).2.2.1) (Nat.le_trans hn (mc_R C).2.2.2) rfl fun H1 cA e1 z1 o1 hAr hNm => ?_
  have hcA : cA = gcy (xG X) t0 := Option.some.inj (hNm.symm.trans hra)
  subst hcA
  have K := k H1 locs ls (by rw [z1, hz]; omega) (by
    rw [mk_push]
    refine (hP.kept (fun i x hx => o1 x.1 ((hP i x hx).lt))).app (fun i x hx => ?_)
    have hz' : i < 1 := (List.getElem?_eq_some_iff.mp hx).1
    rw [show i = 0 by omega] at hx
    cases hx
    rw [ha, he]
    show H1[H.size]? = some (vp_cell _ _)
    rw [hce]
    exact e1) ⟨Nat.le_trans hS.1 (by omega), fun x h1 h2 => (o1 x (Nat.lt_of_lt_of_le h1 hS.1)).trans (hS.2.1 x h1 h2), hS.2.2⟩ hv
  rw [ha] at K
  exact K
end MKC
