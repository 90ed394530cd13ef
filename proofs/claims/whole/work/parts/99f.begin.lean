/-! what the start gives -/
def ts_ix : List Nat := [62, 71, 76, 88, 90, 92, 94, 96]
def ts_tm (i : Nat) : Term := .string "MeterDesk$Reader" (ts_ix.getD i 0)
def ts_fl : List Cond := flatC (Jvm.Cond.and given_1 narrow_1)
theorem ts_1 : ∀ i, i < 8 → Cond.exactly (ts_tm i) "java/lang/String" ∈ ts_fl := by decide +kernel
theorem ts_2 : ∀ i, i < 8 → Cond.eq (.field (ts_tm i) "java/lang/String" "coder" "B") (.int 0) ∈ ts_fl := by decide +kernel
theorem ts_3 : ∀ i, i < 8 → Cond.arrayOf (.field (ts_tm i) "java/lang/String" "value" "[B") .byte ∈ ts_fl := by decide +kernel
theorem ts_4 : ∀ i, i < 8 → Cond.eq (.length (.field (ts_tm i) "java/lang/String" "value" "[B")) (.int (Int32.ofNat (tb_len.getD i 0))) ∈ ts_fl := by decide +kernel
theorem ts_5 : ∀ i, i < 8 → ∀ j, j < tb_len.getD i 0 → Cond.eq (.elem (.field (ts_tm i) "java/lang/String" "value" "[B") (.int (Int32.ofNat j))) (.int ((tb_byt.getD i []).getD j 0)) ∈ ts_fl := by decide +kernel
theorem ts_6 : ∀ i, i < 8 → ∀ j, j < 8 → i < j → Cond.not (Cond.eq (ts_tm i) (ts_tm j)) ∈ ts_fl := by decide +kernel
theorem ts_7 : ∀ i, i < 8 → tb_len.getD i 0 < 2 ^ 31 := by decide +kernel
def ts_L : Term := .static "MeterDesk$Family" "LACKING" "[J"
def ts_S : Term := .static "MeterDesk$Family" "SIZED" "[J"
theorem ts_8 : ∀ j, j < 6 → Cond.eq (.elem ts_L (.int (Int32.ofNat j))) (.long (tb_lack.getD j 0)) ∈ ts_fl := by decide +kernel
theorem ts_9 : ∀ j, j < 7 → Cond.eq (.elem ts_S (.int (Int32.ofNat j))) (.long (tb_sized.getD j 0)) ∈ ts_fl := by decide +kernel
def ts_sa (t0 t1 : Nat) (k v : Nat → Nat) (n : Nat) : Nat := if n = 0 then t0 else if n = 1 then t1 else if n < 10 then k (n - 2) else v (n - 10)
theorem ts_sk {t0 t1 : Nat} {k v : Nat → Nat} {i : Nat} (h : i < 8) : ts_sa t0 t1 k v (2 + i) = k i := by
  unfold ts_sa
  rw [if_neg (by omega), if_neg (by omega), if_pos (by omega), Nat.add_sub_cancel_left]
theorem ts_sv {t0 t1 : Nat} {k v : Nat → Nat} {i : Nat} : ts_sa t0 t1 k v (10 + i) = v i := by
  unfold ts_sa
  rw [if_neg (by omega), if_neg (by omega), if_neg (by omega), Nat.add_sub_cancel_left]
section TSS
variable {s : State} {args : Array Value}
theorem ts_Z (hts : ∀ w ∈ lw_tbl, w.before args s = true) (hg : (Jvm.Cond.and given_1 narrow_1).before args s = true) : ∃ sa : Nat → Nat, ux_Z (fun q => s.heap.size ≤ q) sa s := by
  have hs : ∀ c ∈ ts_fl, c.before args s = true := flat_of_before _ hg
  have hA : ∀ a : Nat, a < s.heap.size → ¬ (fun q => s.heap.size ≤ q) a := fun a h => Nat.not_le.mpr h
  obtain ⟨t0, a1, a2⟩ := va_Tof (args := args) (s := s) (tm := ts_L) (ty := .long) (N := 6) (f := fun j => .long (tb_lack.getD j 0)) (by decide) (hs _ (by decide +kernel)) (va_eqt (hs (Cond.eq (.length ts_L) (.int (Int32.ofNat 6))) (by decide +kernel))) (fun j hj => va_eqtl (hs _ (ts_8 j hj))) hA
  obtain ⟨t1, b1, b2⟩ := va_Tof (args := args) (s := s) (tm := ts_S) (ty := .long) (N := 7) (f := fun j => .long (tb_sized.getD j 0)) (by decide) (hs _ (by decide +kernel)) (va_eqt (hs (Cond.eq (.length ts_S) (.int (Int32.ofNat 7))) (by decide +kernel))) (fun j hj => va_eqtl (hs _ (ts_9 j hj))) hA
  obtain ⟨adK, adV, g1, g2⟩ := vk_Sof (args := args) (s := s) (N := 8) (tm := ts_tm) (len := tb_len) (byt := tb_byt) ts_7 (fun i hi => hs _ (ts_1 i hi)) (fun i hi => hs _ (ts_2 i hi)) (fun i hi => hs _ (ts_3 i hi)) (fun i hi => hs _ (ts_4 i hi)) (fun i hi j hj => hs _ (ts_5 i hi j hj)) (fun i j hi hj hne => by
    rcases Nat.lt_or_gt_of_ne hne with h | h
    · exact Or.inl (hs _ (ts_6 i hi j hj h))
    · exact Or.inr (hs _ (ts_6 j hj i hi h))) hA
  have z0 := va_Zof (v := .ref t0) (hts (.laysStatic "MeterDesk$Family" "LACKING" "[J") (List.mem_of_getElem? (i := 518) (by decide +kernel))) (hts (.initialized "MeterDesk$Family") (List.mem_of_getElem? (i := 78) (by decide +kernel))) a1 hA
  have z1 := va_Zof (v := .ref t1) (hts (.laysStatic "MeterDesk$Family" "SIZED" "[J") (List.mem_of_getElem? (i := 525) (by decide +kernel))) (hts (.initialized "MeterDesk$Family") (List.mem_of_getElem? (i := 78) (by decide +kernel))) b1 hA
  have z2 := va_Zof (v := .int 1) (hts (.laysStatic "java/lang/String" "COMPACT_STRINGS" "Z") (List.mem_of_getElem? (i := 622) (by decide +kernel))) (hts (.initialized "java/lang/String") (List.mem_of_getElem? (i := 88) (by decide +kernel))) (va_eqi (hs (Cond.eq (.static "java/lang/String" "COMPACT_STRINGS" "Z") (.int 1)) (by decide +kernel))) hA
  have z3 := va_Zqof (hts (.laysStatic "jdk/internal/util/Preconditions" "SIOOBE_FORMATTER" "Ljava/util/function/BiFunction;") (List.mem_of_getElem? (i := 638) (by decide +kernel))) (hts (.initialized "jdk/internal/util/Preconditions") (List.mem_of_getElem? (i := 90) (by decide +kernel))) (hs (Cond.isRef (.static "jdk/internal/util/Preconditions" "SIOOBE_FORMATTER" "Ljava/util/function/BiFunction;")) (by decide +kernel)) hA
  refine ⟨ts_sa t0 t1 adK adV, ⟨z0, a2⟩, ⟨z1, b2⟩, ⟨z2, z3⟩, ⟨fun i hi => ?_, fun i j hi hj e => ?_⟩, fun q hq => ?_, fun q hq => ?_⟩
  · have := g1.1 i hi
    dsimp only
    rw [show ts_sa t0 t1 adK adV (2 + i) = adK i from ts_sk hi, show ts_sa t0 t1 adK adV (10 + i) = adV i from ts_sv]
    exact this
  · refine g1.2 i j hi hj ?_
    have e' : ts_sa t0 t1 adK adV (2 + i) = ts_sa t0 t1 adK adV (2 + j) := e
    rw [ts_sk hi, ts_sk hj] at e'
    exact e'
  · have e : ∀ i, i < 8 → (ts_tm i).eval args s none [] s = some (.ref (ts_sa t0 t1 adK adV (2 + i))) := fun i hi => by rw [ts_sk hi]; exact g2 i hi
    have hq2 : q = (62, "grid", 0) ∨ q = (71, "line", 1) ∨ q = (76, "offer", 2) ∨ q = (88, "flow", 3) ∨ q = (90, "pair", 4) ∨ q = (92, "node", 5) ∨ q = (94, "wide", 6) ∨ q = (96, "dull", 7) := by simpa [tb_str] using hq
    rcases hq2 with rfl | rfl | rfl | rfl | rfl | rfl | rfl | rfl
    · exact vk_R.of (hts (.stringRef "MeterDesk$Reader" 62 "grid") (List.mem_of_getElem? (i := 608) (by decide +kernel))) (e 0 (by decide))
    · exact vk_R.of (hts (.stringRef "MeterDesk$Reader" 71 "line") (List.mem_of_getElem? (i := 673) (by decide +kernel))) (e 1 (by decide))
    · exact vk_R.of (hts (.stringRef "MeterDesk$Reader" 76 "offer") (List.mem_of_getElem? (i := 688) (by decide +kernel))) (e 2 (by decide))
    · exact vk_R.of (hts (.stringRef "MeterDesk$Reader" 88 "flow") (List.mem_of_getElem? (i := 702) (by decide +kernel))) (e 3 (by decide))
    · exact vk_R.of (hts (.stringRef "MeterDesk$Reader" 90 "pair") (List.mem_of_getElem? (i := 703) (by decide +kernel))) (e 4 (by decide))
    · exact vk_R.of (hts (.stringRef "MeterDesk$Reader" 92 "node") (List.mem_of_getElem? (i := 704) (by decide +kernel))) (e 5 (by decide))
    · exact vk_R.of (hts (.stringRef "MeterDesk$Reader" 94 "wide") (List.mem_of_getElem? (i := 705) (by decide +kernel))) (e 6 (by decide))
    · exact vk_R.of (hts (.stringRef "MeterDesk$Reader" 96 "dull") (List.mem_of_getElem? (i := 706) (by decide +kernel))) (e 7 (by decide))
  · have hq2 : q = ("MeterDesk", 9, ⟨"MeterDesk$Plan", "<init>", "()V"⟩, "MeterDesk") ∨ q = ("MeterDesk", 18, ⟨"MeterDesk$Reader", "<init>", "()V"⟩, "MeterDesk") ∨ q = ("MeterDesk$Reader", 11, ⟨"MeterDesk$Plan", "<init>", "()V"⟩, "MeterDesk") ∨ q = ("MeterDesk", 25, ⟨"MeterDesk$Standing", "<init>", "()V"⟩, "MeterDesk") ∨ q = ("MeterDesk", 40, ⟨"MeterDesk$History", "<init>", "()V"⟩, "MeterDesk") ∨ q = ("MeterDesk$Sight", 17, ⟨"MeterDesk$Family", "<init>", "()V"⟩, "MeterDesk") ∨ q = ("MeterDesk$Trials", 21, ⟨"MeterDesk$Family", "<init>", "()V"⟩, "MeterDesk") ∨ q = ("MeterDesk$Sight", 41, ⟨"MeterDesk$Parts", "<init>", "()V"⟩, "MeterDesk") ∨ q = ("MeterDesk$Sight", 51, ⟨"MeterDesk$Servers", "<init>", "()V"⟩, "MeterDesk") ∨ q = ("MeterDesk", 56, ⟨"MeterDesk$Sightings", "<init>", "()V"⟩, "MeterDesk") ∨ q = ("MeterDesk", 67, ⟨"MeterDesk$Tray", "<init>", "()V"⟩, "MeterDesk") ∨ q = ("MeterDesk$Sight", 76, ⟨"MeterDesk", "lowest", "(I)I"⟩, "MeterDesk") ∨ q = ("MeterDesk$Servers", 33, ⟨"MeterDesk", "lowest", "(I)I"⟩, "MeterDesk") ∨ q = ("MeterDesk$Trials", 30, ⟨"MeterDesk", "lowest", "(I)I"⟩, "MeterDesk") := by simpa [tb_nest] using hq
    rcases hq2 with rfl | rfl | rfl | rfl | rfl | rfl | rfl | rfl | rfl | rfl | rfl | rfl | rfl | rfl
    · exact va_Nw.of rfl (hts (.methodLinkNest "MeterDesk" 9 ⟨"MeterDesk$Plan", "<init>", "()V"⟩ "MeterDesk") (List.mem_of_getElem? (i := 103) (by decide +kernel)))
    · exact va_Nw.of rfl (hts (.methodLinkNest "MeterDesk" 18 ⟨"MeterDesk$Reader", "<init>", "()V"⟩ "MeterDesk") (List.mem_of_getElem? (i := 166) (by decide +kernel)))
    · exact va_Nw.of rfl (hts (.methodLinkNest "MeterDesk$Reader" 11 ⟨"MeterDesk$Plan", "<init>", "()V"⟩ "MeterDesk") (List.mem_of_getElem? (i := 171) (by decide +kernel)))
    · exact va_Nw.of rfl (hts (.methodLinkNest "MeterDesk" 25 ⟨"MeterDesk$Standing", "<init>", "()V"⟩ "MeterDesk") (List.mem_of_getElem? (i := 200) (by decide +kernel)))
    · exact va_Nw.of rfl (hts (.methodLinkNest "MeterDesk" 40 ⟨"MeterDesk$History", "<init>", "()V"⟩ "MeterDesk") (List.mem_of_getElem? (i := 236) (by decide +kernel)))
    · exact va_Nw.of rfl (hts (.methodLinkNest "MeterDesk$Sight" 17 ⟨"MeterDesk$Family", "<init>", "()V"⟩ "MeterDesk") (List.mem_of_getElem? (i := 260) (by decide +kernel)))
    · exact va_Nw.of rfl (hts (.methodLinkNest "MeterDesk$Trials" 21 ⟨"MeterDesk$Family", "<init>", "()V"⟩ "MeterDesk") (List.mem_of_getElem? (i := 280) (by decide +kernel)))
    · exact va_Nw.of rfl (hts (.methodLinkNest "MeterDesk$Sight" 41 ⟨"MeterDesk$Parts", "<init>", "()V"⟩ "MeterDesk") (List.mem_of_getElem? (i := 292) (by decide +kernel)))
    · exact va_Nw.of rfl (hts (.methodLinkNest "MeterDesk$Sight" 51 ⟨"MeterDesk$Servers", "<init>", "()V"⟩ "MeterDesk") (List.mem_of_getElem? (i := 302) (by decide +kernel)))
    · exact va_Nw.of rfl (hts (.methodLinkNest "MeterDesk" 56 ⟨"MeterDesk$Sightings", "<init>", "()V"⟩ "MeterDesk") (List.mem_of_getElem? (i := 386) (by decide +kernel)))
    · exact va_Nw.of rfl (hts (.methodLinkNest "MeterDesk" 67 ⟨"MeterDesk$Tray", "<init>", "()V"⟩ "MeterDesk") (List.mem_of_getElem? (i := 404) (by decide +kernel)))
    · exact va_Nw.of rfl (hts (.methodLinkNest "MeterDesk$Sight" 76 ⟨"MeterDesk", "lowest", "(I)I"⟩ "MeterDesk") (List.mem_of_getElem? (i := 437) (by decide +kernel)))
    · exact va_Nw.of rfl (hts (.methodLinkNest "MeterDesk$Servers" 33 ⟨"MeterDesk", "lowest", "(I)I"⟩ "MeterDesk") (List.mem_of_getElem? (i := 758) (by decide +kernel)))
    · exact va_Nw.of rfl (hts (.methodLinkNest "MeterDesk$Trials" 30 ⟨"MeterDesk", "lowest", "(I)I"⟩ "MeterDesk") (List.mem_of_getElem? (i := 875) (by decide +kernel)))
theorem ts_O (hts : ∀ w ∈ lw_tbl, w.before args s = true) : mk_O s := ⟨va_AO.of (hts (.arrayOver (.object "MeterDesk$Family")) (List.mem_of_getElem? (i := 279) (by decide +kernel))), va_AO.of (hts (.arrayOver (.object "MeterDesk$Parts")) (List.mem_of_getElem? (i := 290) (by decide +kernel))), va_AO.of (hts (.arrayOver (.object "MeterDesk$Standing")) (List.mem_of_getElem? (i := 233) (by decide +kernel))), va_AO.of (hts (.arrayOver (.object "MeterDesk$Tray")) (List.mem_of_getElem? (i := 402) (by decide +kernel)))⟩
theorem ts_K (hts : ∀ w ∈ lw_tbl, w.before args s = true) : ∃ (D : va_G) (cy : Nat → ClassId), va_K D vwCl (ux_tys ([], D, cy, (fun _ => 0), (fun _ => 0))) s := by
  have hgt : ∀ w ∈ lw_gt, w.before args s = true := fun w hw => hts w (List.mem_filter.mp hw).1
  have h0 : ∀ c : Nat, ∃ p : ClassId × (Nat → Nat), ∀ q, vwCl[c]? = some q → u_Kn s q.1 q.2.1 q.2.2 p.1 p.2 := by
    intro c
    rcases c with _ | _ | _ | _ | _ | _ | _ | _ | _ | _ | _ | _ | _ | c
    · obtain ⟨cC, iS, h⟩ := u_known (C := RX0) (T := TX0) (N := 2) hgt lay_X0 (hts (.instantiable "MeterDesk$Family" 2) (List.mem_of_getElem? (i := 259) (by decide +kernel)))
      exact ⟨(cC, iS), fun q hq => by cases hq; exact h⟩
    · obtain ⟨cC, iS, h⟩ := u_known (C := RX1) (T := TX1) (N := 3) hgt lay_X1 (hts (.instantiable "MeterDesk$History" 3) (List.mem_of_getElem? (i := 235) (by decide +kernel)))
      exact ⟨(cC, iS), fun q hq => by cases hq; exact h⟩
    · obtain ⟨cC, iS, h⟩ := u_known (C := RX2) (T := TX2) (N := 1) hgt lay_X2 (hts (.instantiable "MeterDesk$Parts" 1) (List.mem_of_getElem? (i := 291) (by decide +kernel)))
      exact ⟨(cC, iS), fun q hq => by cases hq; exact h⟩
    · obtain ⟨cC, iS, h⟩ := u_known (C := RX3) (T := TX3) (N := 11) hgt lay_X3 (hts (.instantiable "MeterDesk$Plan" 11) (List.mem_of_getElem? (i := 102) (by decide +kernel)))
      exact ⟨(cC, iS), fun q hq => by cases hq; exact h⟩
    · obtain ⟨cC, iS, h⟩ := u_known (C := RX4) (T := TX4) (N := 7) hgt lay_X4 (hts (.instantiable "MeterDesk$Reader" 7) (List.mem_of_getElem? (i := 165) (by decide +kernel)))
      exact ⟨(cC, iS), fun q hq => by cases hq; exact h⟩
    · obtain ⟨cC, iS, h⟩ := u_known (C := RX5) (T := TX5) (N := 4) hgt lay_X5 (hts (.instantiable "MeterDesk$Servers" 4) (List.mem_of_getElem? (i := 301) (by decide +kernel)))
      exact ⟨(cC, iS), fun q hq => by cases hq; exact h⟩
    · obtain ⟨cC, iS, h⟩ := u_known (C := RX6) (T := TX6) (N := 19) hgt lay_X6 (hts (.instantiable "MeterDesk$Sight" 19) (List.mem_of_getElem? (i := 253) (by decide +kernel)))
      exact ⟨(cC, iS), fun q hq => by cases hq; exact h⟩
    · obtain ⟨cC, iS, h⟩ := u_known (C := RX7) (T := TX7) (N := 3) hgt lay_X7 (hts (.instantiable "MeterDesk$Sightings" 3) (List.mem_of_getElem? (i := 385) (by decide +kernel)))
      exact ⟨(cC, iS), fun q hq => by cases hq; exact h⟩
    · obtain ⟨cC, iS, h⟩ := u_known (C := RX8) (T := TX8) (N := 5) hgt lay_X8 (hts (.instantiable "MeterDesk$Standing" 5) (List.mem_of_getElem? (i := 199) (by decide +kernel)))
      exact ⟨(cC, iS), fun q hq => by cases hq; exact h⟩
    · obtain ⟨cC, iS, h⟩ := u_known (C := RX9) (T := TX9) (N := 4) hgt lay_X9 (hts (.instantiable "MeterDesk$Tray" 4) (List.mem_of_getElem? (i := 403) (by decide +kernel)))
      exact ⟨(cC, iS), fun q hq => by cases hq; exact h⟩
    · obtain ⟨cC, iS, h⟩ := u_known (C := RX10) (T := TX10) (N := 2) hgt lay_X10 (hts (.instantiable "MeterDesk$Trials" 2) (List.mem_of_getElem? (i := 273) (by decide +kernel)))
      exact ⟨(cC, iS), fun q hq => by cases hq; exact h⟩
    · obtain ⟨cC, iS, h⟩ := u_known (C := RX11) (T := TX11) (N := 9) hgt lay_X11 (hts (.instantiable "MeterDesk" 9) (List.mem_of_getElem? (i := 94) (by decide +kernel)))
      exact ⟨(cC, iS), fun q hq => by cases hq; exact h⟩
    · obtain ⟨cC, iS, h⟩ := u_known (C := RX12) (T := TX12) (N := 31) hgt lay_X12 (hts (.instantiable "MeterDeskModel" 31) (List.mem_of_getElem? (i := 1027) (by decide +kernel)))
      exact ⟨(cC, iS), fun q hq => by cases hq; exact h⟩
    · exact ⟨(0, fun _ => 0), fun q hq => by cases hq⟩
  obtain ⟨f, hf⟩ := Classical.axiomOfChoice h0
  obtain ⟨c0, k0, p0, x0, y0, w0⟩ := Cond.arrayClass_spec (hts (.arrayClass .int) (List.mem_of_getElem? (i := 163) (by decide +kernel)))
  obtain ⟨c1, k1, p1, x1, y1, w1⟩ := Cond.arrayClass_spec (hts (.arrayClass .boolean) (List.mem_of_getElem? (i := 251) (by decide +kernel)))
  obtain ⟨c2, k2, p2, x2, y2, w2⟩ := Cond.arrayClass_spec (hts (.arrayClass .char) (List.mem_of_getElem? (i := 197) (by decide +kernel)))
  obtain ⟨c3, k3, p3, x3, y3, w3⟩ := Cond.arrayClass_spec (hts (.arrayClass .long) (List.mem_of_getElem? (i := 271) (by decide +kernel)))
  obtain ⟨p4, c4, k4, u4, v4, y4, w4, x4⟩ := Cond.arrayOver_spec (hts (.arrayOver (.object "MeterDesk$Family")) (List.mem_of_getElem? (i := 279) (by decide +kernel)))
  obtain ⟨p5, c5, k5, u5, v5, y5, w5, x5⟩ := Cond.arrayOver_spec (hts (.arrayOver (.object "MeterDesk$Parts")) (List.mem_of_getElem? (i := 290) (by decide +kernel)))
  obtain ⟨p6, c6, k6, u6, v6, y6, w6, x6⟩ := Cond.arrayOver_spec (hts (.arrayOver (.object "MeterDesk$Standing")) (List.mem_of_getElem? (i := 233) (by decide +kernel)))
  obtain ⟨p7, c7, k7, u7, v7, y7, w7, x7⟩ := Cond.arrayOver_spec (hts (.arrayOver (.object "MeterDesk$Tray")) (List.mem_of_getElem? (i := 402) (by decide +kernel)))
  refine ⟨((fun c => (f c).1), (fun c => (f c).2)), (fun n => [c0, c1, c2, c3, c4, c5, c6, c7].getD n c0), fun c q hq => hf c q hq, fun k q hk => ?_⟩
  rcases k with _ | _ | _ | _ | _ | _ | _ | _ | k
  · cases hk; exact ⟨fun N z => ⟨(fun k h => by cases h), k0, y0, p0, w0⟩, x0⟩
  · cases hk; exact ⟨fun N z => ⟨(fun k h => by cases h), k1, y1, p1, w1⟩, x1⟩
  · cases hk; exact ⟨fun N z => ⟨(fun k h => by cases h), k2, y2, p2, w2⟩, x2⟩
  · cases hk; exact ⟨fun N z => ⟨(fun k h => by cases h), k3, y3, p3, w3⟩, x3⟩
  · cases hk; exact ⟨fun N z => ⟨(fun k h => by cases h), k4, y4, p4, w4⟩, k4, p4, y4, w4, u4, x4⟩
  · cases hk; exact ⟨fun N z => ⟨(fun k h => by cases h), k5, y5, p5, w5⟩, k5, p5, y5, w5, u5, x5⟩
  · cases hk; exact ⟨fun N z => ⟨(fun k h => by cases h), k6, y6, p6, w6⟩, k6, p6, y6, w6, u6, x6⟩
  · cases hk; exact ⟨fun N z => ⟨(fun k h => by cases h), k7, y7, p7, w7⟩, k7, p7, y7, w7, u7, x7⟩
  · cases hk
end TSS
