/-! makers: arrays, fields, calls -/
section MK2
variable {X : ux_X} {cc : ByteArray} {own : String} {nL fr lo mc ms : Nat} {pc : Nat} {lv : List (Nat × Value)} {st : List Value} {t : Nat} {V : Nat → mk_E} {c n : Nat}
theorem m_newI (q N : Nat) {z : Int32} (C : mk_C X cc own nL fr lo mc ms) (hw : Cond.arrayClass .int ∈ lw_gt) (hz0 : ¬ z < 0) (hN : z.toNatClampNeg = N) (hby : N ≤ 10000) (hc : c + 1 ≤ mc) (hn : n + N ≤ ms) (hd : decode cc pc = .ok (.newarray .int, 2)) (hq : pc + 2 = q)
    (k : mk_Wt X nL q lv (.ref (gad (xG X) t) :: st) (t + 1) (va_up V t (1, 0, N, [], (fun _ => 0), (fun _ => 0))) (c + 1) (n + N)) : mk_Wt X nL pc lv (.int z :: st) t V c n :=
  m_newa q N 0 (atype := .int) (a0 := (N, .inl (fun _ => 0))) (1, 0, N, [], (fun _ => 0), (fun _ => 0)) C hw ((mc_K C).2 0 _ rfl).2 rfl rfl hz0 hN (show N * 4 ≤ 536870912 by omega) hc hn hd hq k
theorem m_newZ (q N : Nat) {z : Int32} (C : mk_C X cc own nL fr lo mc ms) (hw : Cond.arrayClass .boolean ∈ lw_gt) (hz0 : ¬ z < 0) (hN : z.toNatClampNeg = N) (hby : N ≤ 10000) (hc : c + 1 ≤ mc) (hn : n + N ≤ ms) (hd : decode cc pc = .ok (.newarray .boolean, 2)) (hq : pc + 2 = q)
    (k : mk_Wt X nL q lv (.ref (gad (xG X) t) :: st) (t + 1) (va_up V t (1, 1, N, [], (fun _ => 0), (fun _ => 0))) (c + 1) (n + N)) : mk_Wt X nL pc lv (.int z :: st) t V c n :=
  m_newa q N 1 (atype := .boolean) (a0 := (N, .inl (fun _ => 0))) (1, 1, N, [], (fun _ => 0), (fun _ => 0)) C hw ((mc_K C).2 1 _ rfl).2 rfl rfl hz0 hN (show N * 1 ≤ 536870912 by omega) hc hn hd hq k
theorem m_newC (q N : Nat) {z : Int32} (C : mk_C X cc own nL fr lo mc ms) (hw : Cond.arrayClass .char ∈ lw_gt) (hz0 : ¬ z < 0) (hN : z.toNatClampNeg = N) (hby : N ≤ 10000) (hc : c + 1 ≤ mc) (hn : n + N ≤ ms) (hd : decode cc pc = .ok (.newarray .char, 2)) (hq : pc + 2 = q)
    (k : mk_Wt X nL q lv (.ref (gad (xG X) t) :: st) (t + 1) (va_up V t (1, 2, N, [], (fun _ => 0), (fun _ => 0))) (c + 1) (n + N)) : mk_Wt X nL pc lv (.int z :: st) t V c n :=
  m_newa q N 2 (atype := .char) (a0 := (N, .inl (fun _ => 0))) (1, 2, N, [], (fun _ => 0), (fun _ => 0)) C hw ((mc_K C).2 2 _ rfl).2 rfl rfl hz0 hN (show N * 2 ≤ 536870912 by omega) hc hn hd hq k
theorem m_newL (q N : Nat) {z : Int32} (C : mk_C X cc own nL fr lo mc ms) (hw : Cond.arrayClass .long ∈ lw_gt) (hz0 : ¬ z < 0) (hN : z.toNatClampNeg = N) (hby : N ≤ 10000) (hc : c + 1 ≤ mc) (hn : n + N ≤ ms) (hd : decode cc pc = .ok (.newarray .long, 2)) (hq : pc + 2 = q)
    (k : mk_Wt X nL q lv (.ref (gad (xG X) t) :: st) (t + 1) (va_up V t (2, 3, N, [], (fun _ => 0), (fun _ => 0))) (c + 1) (n + N)) : mk_Wt X nL pc lv (.int z :: st) t V c n :=
  m_newa q N 3 (atype := .long) (a0 := (N, .inr (.inl (fun _ => 0)))) (2, 3, N, [], (fun _ => 0), (fun _ => 0)) C hw ((mc_K C).2 3 _ rfl).2 rfl rfl hz0 hN (show N * 8 ≤ 536870912 by omega) hc hn hd hq k
theorem m_newq (q N t0 : Nat) {z : Int32} {CN : String} {idx : Nat} (C : mk_C X cc own nL fr lo mc ms) (hcl : Cond.classLink own idx CN ∈ lw_gt) (hov : va_AO CN (xs X)) (ht : (ux_tys (xG X))[t0]? = some (gcy (xG X) t0, .object CN)) (hz0 : ¬ z < 0) (hN : z.toNatClampNeg = N) (hby : N ≤ 10000) (hc : c + 1 ≤ mc) (hn : n + N ≤ ms) (hd : decode cc pc = .ok (.anewarray idx, 3)) (hq : pc + 3 = q)
    (k : mk_Wt X nL q lv (.ref (gad (xG X) t) :: st) (t + 1) (va_up V t (3, t0, N, List.replicate N (some none), (fun _ => 0), (fun _ => 0))) (c + 1) (n + N)) : mk_Wt X nL pc lv (.int z :: st) t V c n := by
  subst hq
  subst hN
  intro H locs ls hz hP hS hv
  have ha : gad (xG X) t = H.size := by rw [(mc_g C).1 t, hz]
  refine W.anew (mc_x C) (mc_b C) (mc_o C) (mc_t C _ hcl) (va_AO.use hov) rfl hd rfl hz0 (by omega) (Nat.le_trans hc (mc_R C).2.2.1) (Nat.le_trans hn (mc_R C).2.2.2) fun cA kA comp g1 g2 g3 g4 => ?_
  obtain ⟨_, _, _, _, _, r4⟩ := ((mc_K C).2 t0 _ ht).2
  have hcA : cA = gcy (xG X) t0 := Option.some.inj (g1.symm.trans r4)
  subst hcA
  have K := k (H.push ({ cls := gcy (xG X) t0, slots := Array.replicate z.toNatClampNeg .null, vm := .none } : Cell)) locs ls (by rw [Array.size_push, hz]; omega) (by
    rw [mk_push]
    refine (hP.kept (fun i x hx => by rw [Array.getElem?_push, if_neg (Nat.ne_of_lt ((hP i x hx).lt))])).app (fun i x hx => ?_)
    have hz' : i < 1 := (List.getElem?_eq_some_iff.mp hx).1
    rw [show i = 0 by omega] at hx
    cases hx
    rw [ha]
    show _ = some (vp_cell _ _)
    rw [vp_cell_q, Array.getElem?_push_size]
    have : (fun j => va_rf (mk_q (gad (xG X)) (List.replicate z.toNatClampNeg (some none)) j)) = fun _ => Value.null := by
      funext j
      unfold mk_q
      rw [List.getD_eq_getElem?_getD, List.getElem?_replicate]
      by_cases h : j < z.toNatClampNeg
      · rw [if_pos h]; rfl
      · rw [if_neg h]; rfl
    rw [this, ← arrV_new]) ⟨Nat.le_trans hS.1 (by rw [Array.size_push]; omega), fun x h1 h2 => (by rw [Array.getElem?_push, if_neg (Nat.ne_of_lt (Nat.lt_of_lt_of_le h1 hS.1))]; exact hS.2.1 x h1 h2), hS.2.2⟩ hv
  rw [ha] at K
  exact K
/-- a field that is written: the heap keeps its size -/
theorem mk_hput {ci n0 i k0 : Nat} {CN : String} {T : u_T} {ty : Nat → FieldType} {fs : List Value} {v : Value} {H : Heap} (C : mk_C X cc own nL fr lo mc ms) (hl : mk_L ci n0 CN T ty) (hP : va_P (xG X).2.1 vwCl (mk_wl (xG X) t V) H) (he : (mk_wl (xG X) t V)[i]? = some (gad (xG X) i, .inr (ci, fs))) (hk : k0 < n0) (hlen : k0 < fs.length) : ∃ cell cf kf fi f, H[gad (xG X) i]? = some cell ∧ cell.cls = (xG X).2.1.1 ci ∧ cell.vm = .none ∧ (xs X).fieldFound? (T k0).1 (T k0).2.1 (T k0).2.2.1 = some (cf, kf, fi, f) ∧ f.isStatic = false ∧ f.slot < cell.slots.size ∧ ∀ H1 : Heap, H1[gad (xG X) i]? = some (cell.setSlot f.slot v) → (∀ q, q ≠ gad (xG X) i → H1[q]? = H[q]?) → va_P (xG X).2.1 vwCl ((mk_wl (xG X) t V).set i (gad (xG X) i, .inr (ci, fs.set k0 v))) H1 := by
  obtain ⟨hci, hin, hty, hnm⟩ := hl
  have hap := va_apart (own := own) (mc_t C) hin ty hty hnm (mc_K C) hci
  obtain ⟨r, h1, cell, q1, q2, q3, q4⟩ := hP i _ he
  obtain rfl : r = (CN, T, n0) := Option.some.inj (h1.symm.trans hci)
  obtain ⟨hSl, hfc, kC, hkC, hkind⟩ := (mc_K C).1 ci _ hci
  obtain ⟨cf, kf, fi, f, hi, hsl⟩ := hSl k0 hk
  refine ⟨cell, cf, kf, fi, f, q1, q2, q3, hi, (u_facts hfc hkC (u_lays (mc_t C) hin hk) hi).1, by rw [hsl]; exact k2_hasslot (q4 k0 hk), fun H1 e1 e3 => ?_⟩
  rw [hsl] at e1
  exact hP.set (mk_D (mc_g C).1 t V) he ⟨_, hci, t_OB.to (V := updV (vp_V fs) k0 v) ⟨_, e1, q2, q3, t_set q4 hap hk v⟩ (fun j _ => vp_updV_set hlen v j)⟩ e3
theorem mk_gA (C : mk_C X cc own nL fr lo mc ms) (i : Nat) : mk_A (xG X) (gad (xG X) i) := by
  show gad (xG X) 0 ≤ gad (xG X) i
  rw [(mc_g C).1 i]; omega
theorem m_put (q : Nat) {ci n0 idx i k0 : Nat} {CN : String} {T : u_T} {ty : Nat → FieldType} {fs : List (Option (Option Nat))} {f : Nat → Int32} {g : Nat → Int64} {v : Int32} (C : mk_C X cc own nL fr lo mc ms) (hl : mk_L ci n0 CN T ty) (hi : i < t) (hV : V i = (0, ci, 0, fs, f, g)) (hk : k0 < n0) (hfk : fs[k0]? = some none) (hlk : Cond.fieldLink own idx (T k0).1 (T k0).2.1 (T k0).2.2.1 ∈ lw_gt) (hfin : (T k0).2.2.2 = false) (hd0 : parseFieldDescriptor (T k0).2.2.1 = some .int) (hd : decode cc pc = .ok (.putfield idx, 3)) (hq : pc + 3 = q)
    (k : mk_Wt X nL q lv st t (va_up V i (0, ci, 0, fs, upd f k0 v, g)) c n) : mk_Wt X nL pc lv (.int v :: .ref (gad (xG X) i) :: st) t V c n := by
  subst hq
  intro H locs ls hz hP hS hv
  have he : (mk_wl (xG X) t V)[i]? = some (gad (xG X) i, .inr (ci, fs.mapIdx (mk_v (gad (xG X)) f))) := by rw [mk_at hi, hV]; rfl
  obtain ⟨cell, cf, kf, fi, fd, g1, g2, g3, g4, g5, g6, g7⟩ := mk_hput (v := .int v) C hl hP he hk (by rw [List.length_mapIdx]; exact (List.getElem?_eq_some_iff.mp hfk).1)
  obtain ⟨hci, hin, hty, hnm⟩ := hl
  obtain ⟨hSl, hfc, kC, hkC, hkind⟩ := (mc_K C).1 ci _ hci
  have hlay := (mc_t C) _ (hin _ (u_in_lay hk))
  unfold u_lay at hlay
  rw [if_neg (by rw [hfin]; decide)] at hlay
  refine W.putK (mc_x C) (mc_b C) (f := fd) ⟨mc_o C, mc_t C _ hlk, ⟨_, _, _, g4⟩, g5⟩ (by rw [g2]; exact u_store hfc hkC hkind hlay g4 hd0 rfl rfl) g1 g3 g6 rfl rfl hd fun H1 e1 e2 e3 => k H1 _ ls (by rw [e2]; exact hz) ?_ (hS.put e2 e3 (mk_gA C i)) hv
  rw [← mk_set hi]
  show va_P _ _ ((mk_wl (xG X) t V).set i (gad (xG X) i, .inr (ci, fs.mapIdx (mk_v (gad (xG X)) (upd f k0 v))))) H1
  rw [← mk_iset hfk]
  exact g7 H1 e1 e3
theorem m_putF (q : Nat) {ci n0 idx i k0 j : Nat} {CN : String} {T : u_T} {ty : Nat → FieldType} {fty : FieldType} {fs : List (Option (Option Nat))} {f : Nat → Int32} {g : Nat → Int64} (C : mk_C X cc own nL fr lo mc ms) (hl : mk_L ci n0 CN T ty) (hi : i < t) (hV : V i = (0, ci, 0, fs, f, g)) (hk : k0 < n0) (hlen : k0 < fs.length) (hlk : Cond.fieldLink own idx (T k0).1 (T k0).2.1 (T k0).2.2.1 ∈ lw_gt) (hfin : (T k0).2.2.2 = true) (hdecl : (T k0).1 = own) (hd0 : parseFieldDescriptor (T k0).2.2.1 = some fty) (hnr : narrow fty (.ref (gad (xG X) j)) = .ref (gad (xG X) j)) (hft : fits fty (.ref (gad (xG X) j)) = true) (hd : decode cc pc = .ok (.putfield idx, 3)) (hq : pc + 3 = q)
    (k : mk_Wt X nL q lv st t (va_up V i (0, ci, 0, fs.set k0 (some (some j)), f, g)) c n) : mk_Wt X nL pc lv (.ref (gad (xG X) j) :: .ref (gad (xG X) i) :: st) t V c n := by
  subst hq
  intro H locs ls hz hP hS hv
  have he : (mk_wl (xG X) t V)[i]? = some (gad (xG X) i, .inr (ci, fs.mapIdx (mk_v (gad (xG X)) f))) := by rw [mk_at hi, hV]; rfl
  obtain ⟨cell, cf, kf, fi, fd, g1, g2, g3, g4, g5, g6, g7⟩ := mk_hput (v := .ref (gad (xG X) j)) C hl hP he hk (by rw [List.length_mapIdx]; exact hlen)
  obtain ⟨hci, hin, hty, hnm⟩ := hl
  obtain ⟨hSl, hfc, kC, hkC, hkind⟩ := (mc_K C).1 ci _ hci
  have hlay := (mc_t C) _ (hin _ (u_in_lay hk))
  unfold u_lay at hlay
  rw [if_pos hfin] at hlay
  have hcf : (xm X).cls = cf := by
    obtain ⟨_, _, c', _, _, _, -, -, hf', -, -, -, hown2, -⟩ := Cond.laysFinal_spec hlay
    have e1 : c' = cf := by have := g4.symm.trans hf'; simp at this; exact this.1.symm
    rw [hdecl] at hown2
    rw [← e1]; exact Option.some.inj ((mc_o C).symm.trans hown2)
  refine W.putFinK (mc_x C) (mc_b C) (mc_o C) (mc_t C _ hlk) g4 g5 hcf (mc_l C).2 (by rw [g2]; exact u_fits hfc hkC hkind (Or.inr hlay) g4 hd0 hnr hft) g1 g3 g6 rfl rfl hd fun H1 e1 e2 e3 => k H1 _ ls (by rw [e2]; exact hz) ?_ (hS.put e2 e3 (mk_gA C i)) hv
  rw [← mk_set hi]
  show va_P _ _ ((mk_wl (xG X) t V).set i (gad (xG X) i, .inr (ci, (fs.set k0 (some (some j))).mapIdx (mk_v (gad (xG X)) f)))) H1
  rw [← mk_fset]
  exact g7 H1 e1 e3
theorem m_getR (q : Nat) {ci k0 idx i j : Nat} {fs : List (Option (Option Nat))} {f : Nat → Int32} {g : Nat → Int64} (C : mk_C X cc own nL fr lo mc ms) (hl : ux_FL own idx ci k0) (hi : i < t) (hV : V i = (0, ci, 0, fs, f, g)) (hk : fs[k0]? = some (some (some j))) (hd : decode cc pc = .ok (.getfield idx, 3)) (hq : pc + 3 = q) (k : mk_Wt X nL q lv (.ref (gad (xG X) j) :: st) t V c n) : mk_Wt X nL pc lv (.ref (gad (xG X) i) :: st) t V c n := by
  subst hq
  obtain ⟨CN, T, n0, h1, h2, h3, h4⟩ := hl
  refine fun H locs ls hz hP hS hv => va_get (mc_x C) (mc_b C) (mc_t C) h2 (mc_o C) (mc_K C) hP i (show (mk_wl (xG X) t V)[i]? = some (gad (xG X) i, .inr (ci, fs.mapIdx (mk_v (gad (xG X)) f))) from by rw [mk_at hi, hV]; rfl) h1 k0 h3 (mc_t C _ h4) (fun _ h9 => h9) (by rw [List.getElem?_mapIdx, hk]; rfl) hd (k H locs ls hz hP hS hv)
theorem m_iast (q j : Nat) {i N : Nat} {f : Nat → Int32} {g : Nat → Int64} {x z : Int32} (C : mk_C X cc own nL fr lo mc ms) (hi : i < t) (hV : V i = (1, 0, N, [], f, g)) (hj : z.toNatClampNeg = j) (hin : ux_in z N = true) (hd : decode cc pc = .ok (.iastore, 1)) (hq : pc + 1 = q) (k : mk_Wt X nL q lv st t (va_up V i (1, 0, N, [], upd f j x, g)) c n) : mk_Wt X nL pc lv (.int x :: .int z :: .ref (gad (xG X) i) :: st) t V c n := by
  subst hq; subst hj
  intro H locs ls hz hP hS hv
  have he : (mk_wl (xG X) t V)[i]? = some (gad (xG X) i, .inl (gcy (xG X) 0, N, .inl f)) := by rw [mk_at hi, hV]; rfl
  refine W.iast (mc_x C) (mc_b C) (hP i _ he) (((mc_K C).2 0 _ rfl).1 N (fun j => .int (f j))) (fun q => by cases q) (by show ¬ (z < 0 ∨ (arrV _ _ _).slots.size ≤ _); rw [arrV_size]; exact ux_in_p hin) rfl rfl hd fun H1 e1 e2 e3 => k H1 _ ls (by rw [e2]; exact hz) ?_ (hS.put e2 e3 (mk_gA C i)) hv
  rw [← mk_set hi]
  refine hP.set (mk_D (mc_g C).1 t V) he ?_ e3
  show H1[gad (xG X) i]? = some (vp_cell _ _)
  rw [e1]
  refine congrArg some ?_
  show (arrV _ N (fun j => .int (f j))).setSlot _ _ = arrV _ N (fun j => .int (upd f z.toNatClampNeg x j))
  rw [arrV_store]
  refine congrArg (arrV _ N) (funext fun q => ?_)
  by_cases hq : q = z.toNatClampNeg
  · subst hq; simp [updV, upd]
  · simp [updV, upd, hq]
theorem m_last (q j : Nat) {i N : Nat} {f : Nat → Int32} {g : Nat → Int64} {x : Int64} {z : Int32} (C : mk_C X cc own nL fr lo mc ms) (hi : i < t) (hV : V i = (2, 3, N, [], f, g)) (hj : z.toNatClampNeg = j) (hin : ux_in z N = true) (hd : decode cc pc = .ok (.lastore, 1)) (hq : pc + 1 = q) (k : mk_Wt X nL q lv st t (va_up V i (2, 3, N, [], f, vp_updL g j x)) c n) : mk_Wt X nL pc lv (.long x :: .int z :: .ref (gad (xG X) i) :: st) t V c n := by
  subst hq; subst hj
  intro H locs ls hz hP hS hv
  have he : (mk_wl (xG X) t V)[i]? = some (gad (xG X) i, .inl (gcy (xG X) 3, N, .inr (.inl g))) := by rw [mk_at hi, hV]; rfl
  refine W.last (mc_x C) (mc_b C) (hP i _ he) (((mc_K C).2 3 _ rfl).1 N (fun j => .long (g j))) (fun q => by cases q) (by show ¬ (z < 0 ∨ (arrV _ _ _).slots.size ≤ _); rw [arrV_size]; exact ux_in_p hin) rfl rfl hd fun H1 e1 e2 e3 => k H1 _ ls (by rw [e2]; exact hz) ?_ (hS.put e2 e3 (mk_gA C i)) hv
  rw [← mk_set hi]
  refine hP.set (mk_D (mc_g C).1 t V) he ?_ e3
  show H1[gad (xG X) i]? = some (vp_cell _ _)
  rw [e1]
  refine congrArg some ?_
  show (arrV _ N (fun j => .long (g j))).setSlot _ _ = arrV _ N (fun j => .long (vp_updL g z.toNatClampNeg x j))
  rw [arrV_store]
  refine congrArg (arrV _ N) (funext fun q => ?_)
  by_cases hq : q = z.toNatClampNeg
  · subst hq; simp [updV, vp_updL]
  · simp [updV, vp_updL, hq]
theorem m_aast (q j : Nat) {i N t0 ci o : Nat} {r : vw_C} {cs fs : List (Option (Option Nat))} {f f2 : Nat → Int32} {g g2 : Nat → Int64} {z : Int32} (C : mk_C X cc own nL fr lo mc ms) (hi : i < t) (hV : V i = (3, t0, N, cs, f, g)) (ht : (ux_tys (xG X))[t0]? = some (gcy (xG X) t0, .object r.1)) (ho : o < t) (hVo : V o = (0, ci, 0, fs, f2, g2)) (hci : vwCl[ci]? = some r) (hj : z.toNatClampNeg = j) (hin : ux_in z N = true) (hlen : N ≤ cs.length) (hd : decode cc pc = .ok (.aastore, 1)) (hq : pc + 1 = q) (k : mk_Wt X nL q lv st t (va_up V i (3, t0, N, cs.set j (some (some o)), f, g)) c n) : mk_Wt X nL pc lv (.ref (gad (xG X) o) :: .int z :: .ref (gad (xG X) i) :: st) t V c n := by
  subst hq; subst hj
  intro H locs ls hz hP hS hv
  have he : (mk_wl (xG X) t V)[i]? = some (gad (xG X) i, .inl (gcy (xG X) t0, N, .inr (.inr (.inr (.inr (mk_q (gad (xG X)) cs)))))) := by rw [mk_at hi, hV]; rfl
  have heo : (mk_wl (xG X) t V)[o]? = some (gad (xG X) o, .inr (ci, fs.mapIdx (mk_v (gad (xG X)) f2))) := by rw [mk_at ho, hVo]; rfl
  have hlt := ux_in_lt hin
  have h0 : ¬ z < 0 := fun q => ux_in_p hin (Or.inl q)
  obtain ⟨r', hr', cellV, g1, g2', g3, -⟩ := hP o _ heo
  have hcls := ((mc_K C).1 ci r hci).2
  obtain ⟨kA, comp, k1, k2, k3, -⟩ := ((mc_K C).2 t0 _ ht).2
  obtain rfl : comp = (xG X).2.1.1 ci := Option.some.inj (k3.symm.trans hcls.1)
  obtain ⟨kC, hkC, -⟩ := hcls.2
  refine W.aast (mc_x C) (mc_b C) (hP i _ he) (fun q h => by cases h) (fun h => by cases h) k1 k2 rfl hkC ⟨h0, by show _ < (arrV _ _ _).slots.size; rw [arrV_size]; exact hlt⟩ g1 (fun q h => by rw [g3] at h; cases h) (by rw [g2']; exact hkC) (by rw [g2']; exact va_assign hcls) rfl rfl hd fun H1 e1 e2 e3 => k H1 _ ls (by rw [e2]; exact hz) ?_ (hS.put e2 e3 (mk_gA C i)) hv
  rw [← mk_set hi]
  show va_P _ _ ((mk_wl (xG X) t V).set i (gad (xG X) i, .inl (gcy (xG X) t0, N, .inr (.inr (.inr (.inr (mk_q (gad (xG X)) (cs.set z.toNatClampNeg (some (some o)))))))))) H1
  rw [← mk_qset (by omega)]
  refine hP.set (mk_D (mc_g C).1 t V) he ?_ e3
  show H1[gad (xG X) i]? = some (vp_cell _ _)
  rw [e1]
  refine congrArg some ?_
  show (arrV _ N (fun j => va_rf (mk_q (gad (xG X)) cs j))).setSlot _ _ = arrV _ N (fun j => va_rf (va_up (mk_q (gad (xG X)) cs) z.toNatClampNeg (some (gad (xG X) o)) j))
  rw [arrV_store]
  refine congrArg (arrV _ N) (funext fun q => ?_)
  by_cases hq : q = z.toNatClampNeg
  · subst hq; simp [updV, va_up, va_rf]
  · simp [updV, va_up, hq]
end MK2
