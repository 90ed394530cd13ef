/-! the law: the two new objects -/
def lb_C (X : ux_X) (D : va_G) (cy : Nat → ClassId) (sa : Nat → Nat) : Prop :=
  ((xp X).tables.exec = Jvm.exec ∧ (xc X).code = cL_law) ∧ (xc X).maxLocals = 4 ∧ (xs X).vm.findClass "MeterDeskLaw" = some (xm X).cls ∧ (∀ w ∈ lw_gt, w.before (xa X) (xs X) = true) ∧ (13 ≤ (xR X).frames ∧ 502 ≤ (xR X).locals ∧ 600000 ≤ (xR X).cells ∧ 7302250 ≤ (xR X).slots) ∧ va_K D vwCl (ux_tys ([], D, cy, (fun _ => 0), (fun _ => 0))) (xs X) ∧ ux_Z (ll_A X) sa (xs X) ∧ mk_O (xs X)
abbrev lb_G (D : va_G) (cy : Nat → ClassId) (sa : Nat → Nat) (z : Nat) : ux_G := ([], D, cy, (fun i => z + i), sa)
theorem lb_g (D : va_G) (cy : Nat → ClassId) (sa : Nat → Nat) (z : Nat) : mk_g (lb_G D cy sa z) := fun i => by show z + i = z + 0 + i; omega
section LBM
variable {X : ux_X} {D : va_G} {cy : Nat → ClassId} {sa : Nat → Nat}
theorem l_make {pc c n idx idx2 ci n0 maxL fr' lo' mc' ms' : Nat} {CN : String} {T : u_T} {ty : Nat → FieldType} {fs : List (Option (Option Nat))} {y : MethodName} {cb : ByteArray} {sh : List ux_Sh} {pos : Nat → Nat} {N : ux_N} {L : ux_L} {H : Heap} {locs : List Loc} {ls : Array Slot} {lv : List (Nat × Value)}
    (C : lb_C X D cy sa) (hl : mk_L ci n0 CN T ty) (k1 : Cond.classLink "MeterDeskLaw" idx CN ∈ lw_gt) (k2 : Cond.instantiable CN n0 ∈ lw_gt) (k3 : Cond.initialized CN ∈ lw_gt) (hfs : ∀ ad : Nat → Nat, ∀ j, j < n0 → defaultValue (ty j) = vp_V (fs.mapIdx (mk_v ad (fun _ => 0))) j)
    (m1 : Cond.methodLink "MeterDeskLaw" idx2 y ∈ lw_gt) (m2 : Cond.instanceMethod y ∈ lw_gt) (m4 : Cond.initialized y.cls ∈ lw_gt) (m5 : Cond.code y cb maxL none ∈ lw_gt) (m7 : y.name = "<init>") (m6 : y.cls ≠ "java/lang/invoke/MethodHandle" ∧ y.cls ≠ "java/lang/invoke/VarHandle" ∧ (parseMethodDescriptor y.desc).map (fun d => d.parameters.length) = some 0)
    (hM : mk_MF (xl X) (lb_G D cy sa H.size) (mk_K (lb_G D cy sa H.size) sh pos) y cb maxL fr' lo' mc' ms' [.ref (gad (lb_G D cy sa H.size) 0)] 1 (fun _ => (0, ci, 0, fs, (fun _ => 0), (fun _ => 0))) N L)
    (hR : fr' + 1 ≤ 13 ∧ 8 + (maxL + 11) + lo' ≤ 502) (hc : c + 1 + mc' ≤ 600000) (hn : n + n0 + ms' ≤ 7302250)
    (d0 : decode cL_law pc = .ok (.new idx, 3)) (d1 : decode cL_law (pc + 3) = .ok (.dup, 1)) (d2 : decode cL_law (pc + 3 + 1) = .ok (.invokespecial idx2, 3))
    (hS : va_S (ll_A X) (xs X).heap H locs) (hv : lv_has ls 4 lv)
    (k : ∀ (H1 : Heap) (locs1 : List Loc), va_P D vwCl (ux_wl (mk_K (lb_G D cy sa H.size) sh pos) N L) H1 → (∀ q, q < H.size → H1[q]? = H[q]?) → H.size ≤ H1.size → va_S (ll_A X) (xs X).heap H1 locs1 → W (xp X) (xl X) (xe X) (xR X) (xs X) (xm X) (xa X) (xb X) (xme X) (xc X) H1 locs1 (c + 1 + mc') (n + n0 + ms') (xQ X) (F0 (xm X) (pc + 3 + 1 + 3) ls [.ref H.size])) :
    W (xp X) (xl X) (xe X) (xR X) (xs X) (xm X) (xa X) (xb X) (xme X) (xc X) H locs c n (xQ X) (F0 (xm X) pc ls []) := by
  obtain ⟨⟨hx, hb⟩, hml, ho, ht, ⟨r1, r2, r3, r4⟩, hK, hZ, hO⟩ := C
  obtain ⟨hci, hin, hty, hnm⟩ := hl
  have hKn := hK.1 ci _ hci
  refine W.newcK hx hb ho (ht _ k1) (ht _ k2) (ht _ k3) rfl d0 (by omega) (by omega) hKn.2.1 rfl fun H1 kC hkC e1 z1 o1 => ?_
  refine lv_dup hx hb d1 rfl ?_
  have hS1 : va_S (ll_A X) (xs X).heap H1 locs := ⟨Nat.le_trans hS.1 (by omega), fun x h1 h2 => (o1 x (Nat.lt_of_lt_of_le h1 hS.1)).trans (hS.2.1 x h1 h2), hS.2.2⟩
  have hAA : ∀ q, mk_A (lb_G D cy sa H.size) q → ll_A X q := fun q hq => by
    have h1 : H.size + 0 ≤ q := hq
    show (xs X).heap.size ≤ q
    exact Nat.le_trans hS.1 (by omega)
  have hP1 : va_P D vwCl (mk_wl (lb_G D cy sa H.size) 1 (fun _ => (0, ci, 0, fs, (fun _ => 0), (fun _ => 0)))) H1 := by
    intro i x hx2
    obtain ⟨h, rfl⟩ := mk_at_inv hx2
    obtain rfl : i = 0 := by omega
    exact ⟨_, hci, (u_born ty ht hin hKn hkC e1 hty).to (hfs _)⟩
  refine va_callv (va_runI (As := []) (rest := [.ref H.size]) ⟨hx, hb, hml, ho, ht⟩ hM ⟨callB_of 0 ht (gt_good m5) rfl rfl rfl (ht _ m4) (ht _ m1) m6 ⟨Nat.le_trans hR.1 r1, Nat.le_trans hR.2 r2⟩, m7, ht _ m2⟩ ⟨mk_Pre.blind, fun U hU hW => ⟨rfl, ?_, ?_, ?_, ?_, ?_⟩⟩ rfl rfl hv.1 rfl (lv_room (show (1 : Nat) ≤ 8 by decide)) d2 ⟨by omega, by omega⟩) hS1 (fun q _ z => hAA q z) (fun q z => hAA q z) (fun u t H2 locs2 ht2 hvm hw hB hz2 hk2 hS2 => ?_)
  · rw [hU, z1]; show H.size + 1 = H.size + 0 + 1; omega
  · rw [hU]; exact hP1
  · exact va_K.moved hW.alike hK
  · exact ux_Z.narrow (ux_Z.call hW hS1 hU hZ) hAA
  · exact mk_O.moved hW.alike hO
  · refine k H2 locs2 (by rw [← ht2]; exact hB) (fun q hq => ?_) (by omega) hS2
    rw [hk2 q (by omega) (fun z => by have z' : H.size + 0 ≤ q := z; omega)]
    exact o1 q hq
end LBM
