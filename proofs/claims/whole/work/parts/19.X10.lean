theorem dX10_tryAll_0 : decode cX10_tryAll 0 = .ok (.iload_n 3, 1) := by decide +kernel
theorem dX10_tryAll_1 : decode cX10_tryAll 1 = .ok (.bipush 9, 2) := by decide +kernel
theorem dX10_tryAll_3 : decode cX10_tryAll 3 = .ok (.if_icmp .gt 9, 3) := by decide +kernel
theorem dX10_tryAll_6 : decode cX10_tryAll 6 = .ok (.iload_n 3, 1) := by decide +kernel
theorem dX10_tryAll_7 : decode cX10_tryAll 7 = .ok (.aload_n 2, 1) := by decide +kernel
theorem dX10_tryAll_8 : decode cX10_tryAll 8 = .ok (.arraylength, 1) := by decide +kernel
theorem dX10_tryAll_9 : decode cX10_tryAll 9 = .ok (.if_icmp .le 4, 3) := by decide +kernel
theorem dX10_tryAll_12 : decode cX10_tryAll 12 = .ok (.return_, 1) := by decide +kernel
theorem dX10_tryAll_13 : decode cX10_tryAll 13 = .ok (.aload_n 0, 1) := by decide +kernel
theorem dX10_tryAll_14 : decode cX10_tryAll 14 = .ok (.getfield 17, 3) := by decide +kernel
theorem dX10_tryAll_17 : decode cX10_tryAll 17 = .ok (.bipush 9, 2) := by decide +kernel
theorem dX10_tryAll_19 : decode cX10_tryAll 19 = .ok (.aaload, 1) := by decide +kernel
theorem dX10_tryAll_20 : decode cX10_tryAll 20 = .ok (.aload_n 1, 1) := by decide +kernel
theorem dX10_tryAll_21 : decode cX10_tryAll 21 = .ok (.invokevirtual 22, 3) := by decide +kernel
theorem dX10_tryAll_24 : decode cX10_tryAll 24 = .ok (.aload_n 0, 1) := by decide +kernel
theorem dX10_tryAll_25 : decode cX10_tryAll 25 = .ok (.getfield 9, 3) := by decide +kernel
theorem dX10_tryAll_28 : decode cX10_tryAll 28 = .ok (.iconst 0, 1) := by decide +kernel
theorem dX10_tryAll_29 : decode cX10_tryAll 29 = .ok (.aload_n 1, 1) := by decide +kernel
theorem dX10_tryAll_30 : decode cX10_tryAll 30 = .ok (.invokevirtual 26, 3) := by decide +kernel
theorem dX10_tryAll_33 : decode cX10_tryAll 33 = .ok (.iastore, 1) := by decide +kernel
theorem dX10_tryAll_34 : decode cX10_tryAll 34 = .ok (.iconst 1, 1) := by decide +kernel
theorem dX10_tryAll_35 : decode cX10_tryAll 35 = .ok (.istore 5, 2) := by decide +kernel
theorem dX10_tryAll_37 : decode cX10_tryAll 37 = .ok (.iload 5, 2) := by decide +kernel
theorem dX10_tryAll_39 : decode cX10_tryAll 39 = .ok (.iconst 1, 1) := by decide +kernel
theorem dX10_tryAll_40 : decode cX10_tryAll 40 = .ok (.iload_n 3, 1) := by decide +kernel
theorem dX10_tryAll_41 : decode cX10_tryAll 41 = .ok (.ishl, 1) := by decide +kernel
theorem dX10_tryAll_42 : decode cX10_tryAll 42 = .ok (.if_icmp .ge 82, 3) := by decide +kernel
theorem dX10_tryAll_45 : decode cX10_tryAll 45 = .ok (.iload 5, 2) := by decide +kernel
theorem dX10_tryAll_47 : decode cX10_tryAll 47 = .ok (.invokestatic 30, 3) := by decide +kernel
theorem dX10_tryAll_50 : decode cX10_tryAll 50 = .ok (.istore 6, 2) := by decide +kernel
theorem dX10_tryAll_52 : decode cX10_tryAll 52 = .ok (.iload 5, 2) := by decide +kernel
theorem dX10_tryAll_54 : decode cX10_tryAll 54 = .ok (.iload 5, 2) := by decide +kernel
theorem dX10_tryAll_56 : decode cX10_tryAll 56 = .ok (.iconst 1, 1) := by decide +kernel
theorem dX10_tryAll_57 : decode cX10_tryAll 57 = .ok (.isub, 1) := by decide +kernel
theorem dX10_tryAll_58 : decode cX10_tryAll 58 = .ok (.iand, 1) := by decide +kernel
theorem dX10_tryAll_59 : decode cX10_tryAll 59 = .ok (.istore 7, 2) := by decide +kernel
theorem dX10_tryAll_61 : decode cX10_tryAll 61 = .ok (.aload_n 0, 1) := by decide +kernel
theorem dX10_tryAll_62 : decode cX10_tryAll 62 = .ok (.getfield 17, 3) := by decide +kernel
theorem dX10_tryAll_65 : decode cX10_tryAll 65 = .ok (.iload 6, 2) := by decide +kernel
theorem dX10_tryAll_67 : decode cX10_tryAll 67 = .ok (.aaload, 1) := by decide +kernel
theorem dX10_tryAll_68 : decode cX10_tryAll 68 = .ok (.astore 8, 2) := by decide +kernel
theorem dX10_tryAll_70 : decode cX10_tryAll 70 = .ok (.aload 8, 2) := by decide +kernel
theorem dX10_tryAll_72 : decode cX10_tryAll 72 = .ok (.aload_n 0, 1) := by decide +kernel
theorem dX10_tryAll_73 : decode cX10_tryAll 73 = .ok (.getfield 17, 3) := by decide +kernel
theorem dX10_tryAll_76 : decode cX10_tryAll 76 = .ok (.iload 7, 2) := by decide +kernel
theorem dX10_tryAll_78 : decode cX10_tryAll 78 = .ok (.ifCond .ne 8, 3) := by decide +kernel
theorem dX10_tryAll_81 : decode cX10_tryAll 81 = .ok (.bipush 9, 2) := by decide +kernel
theorem dX10_tryAll_83 : decode cX10_tryAll 83 = .ok (.goto 8, 3) := by decide +kernel
theorem dX10_tryAll_86 : decode cX10_tryAll 86 = .ok (.iload 7, 2) := by decide +kernel
theorem dX10_tryAll_88 : decode cX10_tryAll 88 = .ok (.invokestatic 30, 3) := by decide +kernel
theorem dX10_tryAll_91 : decode cX10_tryAll 91 = .ok (.aaload, 1) := by decide +kernel
theorem dX10_tryAll_92 : decode cX10_tryAll 92 = .ok (.invokevirtual 22, 3) := by decide +kernel
theorem dX10_tryAll_95 : decode cX10_tryAll 95 = .ok (.aload 8, 2) := by decide +kernel
theorem dX10_tryAll_97 : decode cX10_tryAll 97 = .ok (.aload_n 2, 1) := by decide +kernel
theorem dX10_tryAll_98 : decode cX10_tryAll 98 = .ok (.iload 6, 2) := by decide +kernel
theorem dX10_tryAll_100 : decode cX10_tryAll 100 = .ok (.iaload, 1) := by decide +kernel
theorem dX10_tryAll_101 : decode cX10_tryAll 101 = .ok (.aload 4, 2) := by decide +kernel
theorem dX10_tryAll_103 : decode cX10_tryAll 103 = .ok (.invokevirtual 34, 3) := by decide +kernel
theorem dX10_tryAll_106 : decode cX10_tryAll 106 = .ok (.aload_n 0, 1) := by decide +kernel
theorem dX10_tryAll_107 : decode cX10_tryAll 107 = .ok (.getfield 9, 3) := by decide +kernel
theorem dX10_tryAll_110 : decode cX10_tryAll 110 = .ok (.iload 5, 2) := by decide +kernel
theorem dX10_tryAll_112 : decode cX10_tryAll 112 = .ok (.aload 8, 2) := by decide +kernel
theorem dX10_tryAll_114 : decode cX10_tryAll 114 = .ok (.invokevirtual 26, 3) := by decide +kernel
theorem dX10_tryAll_117 : decode cX10_tryAll 117 = .ok (.iastore, 1) := by decide +kernel
theorem dX10_tryAll_118 : decode cX10_tryAll 118 = .ok (.iinc 5 1, 3) := by decide +kernel
theorem dX10_tryAll_121 : decode cX10_tryAll 121 = .ok (.goto (-84), 3) := by decide +kernel
theorem dX10_tryAll_124 : decode cX10_tryAll 124 = .ok (.return_, 1) := by decide +kernel
theorem kfX10_17 : ux_FL RX10 17 10 1 := ⟨RX10, TX10, 2, rfl, lay_X10, by decide, tw_283⟩
theorem kvX10_22 : ux_LV RX10 22 0 yX0_copyFrom cX0_copyFrom 2 none 1 := ⟨⟨TX0, 2, rfl⟩, tw_873, tw_796, tw_797, tw_78, tw_798, ⟨by decide, by decide, by decide +kernel⟩⟩
theorem kfX10_9 : ux_FL RX10 9 10 0 := ⟨RX10, TX10, 2, rfl, lay_X10, by decide, tw_281⟩
theorem kvX10_26 : ux_LV RX10 26 0 yX0_mostLines cX0_mostLines 5 (some .int) 0 := ⟨⟨TX0, 2, rfl⟩, tw_874, tw_520, tw_521, tw_78, tw_522, ⟨by decide, by decide, by decide +kernel⟩⟩
theorem knX10_30 : ux_LSN RX10 30 "MeterDesk" yX11_lowest cX11_lowest 1 (some .int) 1 := ⟨by decide, tw_438, tw_72, tw_439, ⟨by decide, by decide, by decide +kernel⟩⟩
theorem kvX10_34 : ux_LV RX10 34 0 yX0_joinMeter cX0_joinMeter 4 none 2 := ⟨⟨TX0, 2, rfl⟩, tw_876, tw_509, tw_510, tw_78, tw_511, ⟨by decide, by decide, by decide +kernel⟩⟩
def fX10_tryAll_12 (c1 : Nat) (c2 : Nat) (n2 : Nat) (c4 : Nat) (N : ux_N) (L : ux_L) : Option (ux_N × ux_L) :=
  some (N, L)
set_option maxHeartbeats 4000000 in
set_option maxRecDepth 20000 in
theorem wX10_tryAll_12 {X : ux_X} (C : ux_C X cX10_tryAll RX10 9 none 2 83 shC) {c1 : Nat} {c2 : Nat} {n2 : Nat} {c4 : Nat} (p1 : is_X0 c1) (p2 : shC[c2]? = some (1, 0, n2, [])) (p4 : is_X0 c4) {N : ux_N} {L : ux_L} {o : ux_N × ux_L} (hq : ux_Qv X o.1 o.2) (h : fX10_tryAll_12 c1 c2 n2 c4 N L = some o) : ux_Wt X 9 12 [] [] N L := by
  cases h
  exact wt_vret C hq dX10_tryAll_12
def fX10_tryAll_37b_91 (c1 : Nat) (c2 : Nat) (n2 : Nat) (c4 : Nat) (v3 : Int32) (v5 : Int32) (v6 : Int32) (c8 : Nat) (s0 : Int32) (cs2 : Nat) (N : ux_N) (L : ux_L) : Option ((Int32 × ux_N × ux_L) ⊕ (ux_N × ux_L)) :=
  if ux_in s0 10 then ((fX0_copyFrom cs2 (47 + 3 * s0.toNatClampNeg) L).bind (fun o2 => if ux_in v6 n2 then ((fX0_joinMeter c8 c4 (N c2 (v6.toNatClampNeg)) o2).bind (fun o5 => (fX0_mostLines c8 o5).bind (fun o7 => if ux_in v5 512 then (some (.inl ((v5 + 1), (ux_u N 45 (v5.toNatClampNeg) o7), o5))) else none))) else none)) else none
set_option maxHeartbeats 4000000 in
set_option maxRecDepth 20000 in
theorem wX10_tryAll_37b_91 {X : ux_X} (C : ux_C X cX10_tryAll RX10 9 none 2 83 shC) {c1 : Nat} {c2 : Nat} {n2 : Nat} {c4 : Nat} {v3 : Int32} {v5 : Int32} {v6 : Int32} {c8 : Nat} {s0 : Int32} {cs2 : Nat} (p1 : is_X0 c1) (p2 : shC[c2]? = some (1, 0, n2, [])) (p4 : is_X0 c4) (p8 : is_X0 c8) (ps2 : is_X0 cs2) {N : ux_N} {L : ux_L} {o : (Int32 × ux_N × ux_L) ⊕ (ux_N × ux_L)} (hin : ∀ s : Int32 × ux_N × ux_L, o = .inl s → ux_Wt X 9 37 [(0, .ref (ux_ad X 44)), (2, .ref (ux_ad X c2)), (3, .int v3), (4, .ref (ux_ad X c4)), (5, .int s.1)] [] s.2.1 s.2.2) (hex0 : ∀ e : ux_N × ux_L, o = .inr (e) → ux_Wt X 9 124 [] [] e.1 e.2) (h : fX10_tryAll_37b_91 c1 c2 n2 c4 v3 v5 v6 c8 s0 cs2 N L = some o) : ux_Wt X 9 91 [(0, .ref (ux_ad X 44)), (2, .ref (ux_ad X c2)), (3, .int v3), (4, .ref (ux_ad X c4)), (5, .int v5), (6, .int v6), (8, .ref (ux_ad X c8))] [.int s0, .ref (ux_ad X 46), .ref (ux_ad X cs2)] N L := by
  obtain ⟨hi1, h⟩ := ux_guard h
  refine wt_aald 92 (s0.toNatClampNeg) 47 3 C sc_46 rfl (by decide) rfl hi1 dX10_tryAll_91 rfl ?_
  obtain ⟨o2, hc3, h⟩ := Option.bind_eq_some_iff.mp h
  refine wt_callVv 95 [] C kvX10_22 (ps2).1 (mX0_copyFrom (cx_ok C) (ps2) (is0_arr47 _ (ux_in_lt hi1)) hc3) rfl rfl ⟨Nat.le_of_ble_eq_true rfl, Nat.le_of_ble_eq_true rfl⟩ (Nat.le_of_ble_eq_true rfl) dX10_tryAll_92 rfl ?_
  refine wt_aload 97 6 C dX10_tryAll_95 rfl rfl ?_
  refine wt_aload_n 98 1 C dX10_tryAll_97 rfl rfl ?_
  refine wt_iload 100 5 C dX10_tryAll_98 rfl rfl ?_
  obtain ⟨hi4, h⟩ := ux_guard h
  refine wt_iald 101 (v6.toNatClampNeg) C p2 rfl hi4 dX10_tryAll_100 rfl ?_
  refine wt_aload 103 3 C dX10_tryAll_101 rfl rfl ?_
  obtain ⟨o5, hc6, h⟩ := Option.bind_eq_some_iff.mp h
  refine wt_callVv 106 [] C kvX10_34 (p8).1 (mX0_joinMeter (cx_ok C) (p8) (p4) hc6) rfl rfl ⟨Nat.le_of_ble_eq_true rfl, Nat.le_of_ble_eq_true rfl⟩ (Nat.le_of_ble_eq_true rfl) dX10_tryAll_103 rfl ?_
  refine wt_aload_n 107 0 C dX10_tryAll_106 rfl rfl ?_
  refine wt_getR 110 C kfX10_9 sc_44 rfl dX10_tryAll_107 rfl ?_
  refine wt_iload 112 4 C dX10_tryAll_110 rfl rfl ?_
  refine wt_aload 114 6 C dX10_tryAll_112 rfl rfl ?_
  obtain ⟨o7, hc8, h⟩ := Option.bind_eq_some_iff.mp h
  refine wt_callVi 117 [.int v5, .ref (ux_ad X 45)] C kvX10_26 (p8).1 (mX0_mostLines (cx_ok C) (p8) hc8) rfl rfl ⟨Nat.le_of_ble_eq_true rfl, Nat.le_of_ble_eq_true rfl⟩ (Nat.le_of_ble_eq_true rfl) dX10_tryAll_114 rfl ?_
  obtain ⟨hi9, h⟩ := ux_guard h
  refine wt_iast 118 (v5.toNatClampNeg) C sc_45 rfl hi9 dX10_tryAll_117 rfl ?_
  refine wt_iinc 121 4 [(5, .int (v5 + 1)), (0, .ref (ux_ad X 44)), (2, .ref (ux_ad X c2)), (3, .int v3), (4, .ref (ux_ad X c4)), (6, .int v6), (8, .ref (ux_ad X c8))] (v5 + 1) C dX10_tryAll_118 rfl rfl (by rfl) (by decide) rfl ?_
  refine wt_goto 37 C dX10_tryAll_121 (by decide) ?_
  refine wt_sub [1, 2, 3, 4, 0] rfl ?_
  exact hin _ (Option.some.inj h).symm
def fX10_tryAll_37b (c1 : Nat) (c2 : Nat) (n2 : Nat) (c4 : Nat) (v3 : Int32) (v5 : Int32) (N : ux_N) (L : ux_L) : Option ((Int32 × ux_N × ux_L) ⊕ (ux_N × ux_L)) :=
  if ((1 : Int32) <<< (v3 &&& 31)) ≤ v5 then (some (.inr ((N, L)))) else ((fX11_lowest v5).bind (fun o2 => if ux_in o2 10 then (if (v5 &&& (v5 - (1 : Int32))) = 0 then (fX10_tryAll_37b_91 c1 c2 n2 c4 v3 v5 o2 (47 + 3 * o2.toNatClampNeg) (9 : Int32) (47 + 3 * o2.toNatClampNeg) N L) else ((fX11_lowest (v5 &&& (v5 - (1 : Int32)))).bind (fun o6 => fX10_tryAll_37b_91 c1 c2 n2 c4 v3 v5 o2 (47 + 3 * o2.toNatClampNeg) o6 (47 + 3 * o2.toNatClampNeg) N L))) else none))
set_option maxHeartbeats 4000000 in
set_option maxRecDepth 20000 in
theorem wX10_tryAll_37b {X : ux_X} (C : ux_C X cX10_tryAll RX10 9 none 2 83 shC) {c1 : Nat} {c2 : Nat} {n2 : Nat} {c4 : Nat} {v3 : Int32} {v5 : Int32} (p1 : is_X0 c1) (p2 : shC[c2]? = some (1, 0, n2, [])) (p4 : is_X0 c4) {N : ux_N} {L : ux_L} {o : (Int32 × ux_N × ux_L) ⊕ (ux_N × ux_L)} (hin : ∀ s : Int32 × ux_N × ux_L, o = .inl s → ux_Wt X 9 37 [(0, .ref (ux_ad X 44)), (2, .ref (ux_ad X c2)), (3, .int v3), (4, .ref (ux_ad X c4)), (5, .int s.1)] [] s.2.1 s.2.2) (hex0 : ∀ e : ux_N × ux_L, o = .inr (e) → ux_Wt X 9 124 [] [] e.1 e.2) (h : fX10_tryAll_37b c1 c2 n2 c4 v3 v5 N L = some o) : ux_Wt X 9 37 [(0, .ref (ux_ad X 44)), (2, .ref (ux_ad X c2)), (3, .int v3), (4, .ref (ux_ad X c4)), (5, .int v5)] [] N L := by
  refine wt_iload 39 4 C dX10_tryAll_37 rfl rfl ?_
  refine wt_iconst 40 1 C dX10_tryAll_39 rfl (by decide) ?_
  refine wt_iload_n 41 2 C dX10_tryAll_40 rfl rfl ?_
  refine wt_ishl 42 C dX10_tryAll_41 rfl ?_
  refine wt_icmp_ge 45 124 C dX10_tryAll_42 rfl (by decide) (fun q1 => ?_) (fun q1 => ?_)
  · have h := (if_pos q1).symm.trans h
    refine wt_sub [] rfl ?_
    exact hex0 _ (Option.some.inj h).symm
  · have h := (if_neg q1).symm.trans h
    refine wt_iload 47 4 C dX10_tryAll_45 rfl rfl ?_
    obtain ⟨o2, hc3, h⟩ := Option.bind_eq_some_iff.mp h
    refine wt_callSNi 50 [] C knX10_30 (mX11_lowest (cx_ok C)  hc3) rfl rfl ⟨Nat.le_of_ble_eq_true rfl, Nat.le_of_ble_eq_true rfl⟩ (Nat.le_of_ble_eq_true rfl) dX10_tryAll_47 rfl ?_
    refine wt_istore 52 [(6, .int o2), (0, .ref (ux_ad X 44)), (2, .ref (ux_ad X c2)), (3, .int v3), (4, .ref (ux_ad X c4)), (5, .int v5)] C dX10_tryAll_50 rfl (by decide) rfl ?_
    refine wt_iload 54 5 C dX10_tryAll_52 rfl rfl ?_
    refine wt_iload 56 5 C dX10_tryAll_54 rfl rfl ?_
    refine wt_iconst 57 1 C dX10_tryAll_56 rfl (by decide) ?_
    refine wt_isub 58 C dX10_tryAll_57 rfl ?_
    refine wt_iand 59 C dX10_tryAll_58 rfl ?_
    refine wt_istore 61 [(7, .int (v5 &&& (v5 - (1 : Int32)))), (6, .int o2), (0, .ref (ux_ad X 44)), (2, .ref (ux_ad X c2)), (3, .int v3), (4, .ref (ux_ad X c4)), (5, .int v5)] C dX10_tryAll_59 rfl (by decide) rfl ?_
    refine wt_aload_n 62 2 C dX10_tryAll_61 rfl rfl ?_
    refine wt_getR 65 C kfX10_17 sc_44 rfl dX10_tryAll_62 rfl ?_
    refine wt_iload 67 1 C dX10_tryAll_65 rfl rfl ?_
    obtain ⟨hi4, h⟩ := ux_guard h
    refine wt_aald 68 (o2.toNatClampNeg) 47 3 C sc_46 rfl (by decide) rfl hi4 dX10_tryAll_67 rfl ?_
    refine wt_astore 70 [(8, .ref (ux_ad X (47 + 3 * o2.toNatClampNeg))), (7, .int (v5 &&& (v5 - (1 : Int32)))), (6, .int o2), (0, .ref (ux_ad X 44)), (2, .ref (ux_ad X c2)), (3, .int v3), (4, .ref (ux_ad X c4)), (5, .int v5)] C dX10_tryAll_68 rfl (by decide) rfl ?_
    refine wt_aload 72 0 C dX10_tryAll_70 rfl rfl ?_
    refine wt_aload_n 73 3 C dX10_tryAll_72 rfl rfl ?_
    refine wt_getR 76 C kfX10_17 sc_44 rfl dX10_tryAll_73 rfl ?_
    refine wt_iload 78 1 C dX10_tryAll_76 rfl rfl ?_
    refine wt_if_ne 81 86 C dX10_tryAll_78 rfl (by decide) (fun q5 => ?_) (fun q5 => ?_)
    · have h := (if_neg q5).symm.trans h
      refine wt_iload 88 1 C dX10_tryAll_86 rfl rfl ?_
      obtain ⟨o6, hc7, h⟩ := Option.bind_eq_some_iff.mp h
      refine wt_callSNi 91 [.ref (ux_ad X 46), .ref (ux_ad X (47 + 3 * o2.toNatClampNeg))] C knX10_30 (mX11_lowest (cx_ok C)  hc7) rfl rfl ⟨Nat.le_of_ble_eq_true rfl, Nat.le_of_ble_eq_true rfl⟩ (Nat.le_of_ble_eq_true rfl) dX10_tryAll_88 rfl ?_
      refine wt_sub [3, 4, 5, 6, 7, 2, 0] rfl ?_
      exact wX10_tryAll_37b_91 C p1 p2 p4 (is0_arr47 _ (ux_in_lt hi4)) (is0_arr47 _ (ux_in_lt hi4)) hin hex0 h
    · have h := (if_pos q5).symm.trans h
      refine wt_bipush 83 9 C dX10_tryAll_81 rfl (by decide) ?_
      refine wt_goto 91 C dX10_tryAll_83 (by decide) ?_
      refine wt_sub [3, 4, 5, 6, 7, 2, 0] rfl ?_
      exact wX10_tryAll_37b_91 C p1 p2 p4 (is0_arr47 _ (ux_in_lt hi4)) (is0_arr47 _ (ux_in_lt hi4)) hin hex0 h
def fX10_tryAll (c1 : Nat) (c2 : Nat) (n2 : Nat) (c4 : Nat) (v3 : Int32) (N : ux_N) (L : ux_L) : Option (ux_N × ux_L) :=
  if (9 : Int32) < v3 then (fX10_tryAll_12 c1 c2 n2 c4 N L) else (if v3 ≤ (Int32.ofNat n2) then ((fX0_copyFrom 74 c1 L).bind (fun o3 => (fX0_mostLines c1 o3).bind (fun o5 => (ux_lp (fun s : Int32 × ux_N × ux_L => fX10_tryAll_37b c1 c2 n2 c4 v3 s.1 s.2.1 s.2.2) ux_fu ((1 : Int32), (ux_u N 45 0 o5), o3)).bind (fun e14 => some (e14.1, e14.2))))) else (fX10_tryAll_12 c1 c2 n2 c4 N L))
set_option maxHeartbeats 4000000 in
set_option maxRecDepth 20000 in
theorem wX10_tryAll {X : ux_X} (C : ux_C X cX10_tryAll RX10 9 none 2 83 shC) {c1 : Nat} {c2 : Nat} {n2 : Nat} {c4 : Nat} {v3 : Int32} (p1 : is_X0 c1) (p2 : shC[c2]? = some (1, 0, n2, [])) (p4 : is_X0 c4) {N : ux_N} {L : ux_L} {o : ux_N × ux_L} (hq : ux_Qv X o.1 o.2) (h : fX10_tryAll c1 c2 n2 c4 v3 N L = some o) : ux_Wt X 9 0 [(0, .ref (ux_ad X 44)), (1, .ref (ux_ad X c1)), (2, .ref (ux_ad X c2)), (3, .int v3), (4, .ref (ux_ad X c4))] [] N L := by
  refine wt_iload_n 1 3 C dX10_tryAll_0 rfl rfl ?_
  refine wt_bipush 3 9 C dX10_tryAll_1 rfl (by decide) ?_
  refine wt_icmp_gt 6 12 C dX10_tryAll_3 rfl (by decide) (fun q1 => ?_) (fun q1 => ?_)
  · have h := (if_pos q1).symm.trans h
    refine wt_sub [] rfl ?_
    exact wX10_tryAll_12 C p1 p2 p4 hq h
  · have h := (if_neg q1).symm.trans h
    refine wt_iload_n 7 3 C dX10_tryAll_6 rfl rfl ?_
    refine wt_aload_n 8 2 C dX10_tryAll_7 rfl rfl ?_
    refine wt_alenI 9 C p2 rfl dX10_tryAll_8 rfl ?_
    refine wt_icmp_le 12 13 C dX10_tryAll_9 rfl (by decide) (fun q2 => ?_) (fun q2 => ?_)
    · have h := (if_pos q2).symm.trans h
      refine wt_aload_n 14 0 C dX10_tryAll_13 rfl rfl ?_
      refine wt_getR 17 C kfX10_17 sc_44 rfl dX10_tryAll_14 rfl ?_
      refine wt_bipush 19 9 C dX10_tryAll_17 rfl (by decide) ?_
      refine wt_aald 20 9 47 3 C sc_46 rfl (by decide) (by decide) (by decide) dX10_tryAll_19 rfl ?_
      refine wt_aload_n 21 1 C dX10_tryAll_20 rfl rfl ?_
      obtain ⟨o3, hc4, h⟩ := Option.bind_eq_some_iff.mp h
      refine wt_callVv 24 [] C kvX10_22 sc_74 (mX0_copyFrom (cx_ok C) (is0_74) (p1) hc4) rfl rfl ⟨Nat.le_of_ble_eq_true rfl, Nat.le_of_ble_eq_true rfl⟩ (Nat.le_of_ble_eq_true rfl) dX10_tryAll_21 rfl ?_
      refine wt_aload_n 25 0 C dX10_tryAll_24 rfl rfl ?_
      refine wt_getR 28 C kfX10_9 sc_44 rfl dX10_tryAll_25 rfl ?_
      refine wt_iconst 29 0 C dX10_tryAll_28 rfl (by decide) ?_
      refine wt_aload_n 30 1 C dX10_tryAll_29 rfl rfl ?_
      obtain ⟨o5, hc6, h⟩ := Option.bind_eq_some_iff.mp h
      refine wt_callVi 33 [.int (0 : Int32), .ref (ux_ad X 45)] C kvX10_26 (p1).1 (mX0_mostLines (cx_ok C) (p1) hc6) rfl rfl ⟨Nat.le_of_ble_eq_true rfl, Nat.le_of_ble_eq_true rfl⟩ (Nat.le_of_ble_eq_true rfl) dX10_tryAll_30 rfl ?_
      refine wt_iast 34 0 C sc_45 (by decide) (by decide) dX10_tryAll_33 rfl ?_
      refine wt_iconst 35 1 C dX10_tryAll_34 rfl (by decide) ?_
      refine wt_istore 37 [(5, .int (1 : Int32)), (0, .ref (ux_ad X 44)), (1, .ref (ux_ad X c1)), (2, .ref (ux_ad X c2)), (3, .int v3), (4, .ref (ux_ad X c4))] C dX10_tryAll_35 rfl (by decide) rfl ?_
      obtain ⟨e7, hl8, h⟩ := Option.bind_eq_some_iff.mp h
      refine wt_sub [1, 3, 4, 5, 0] rfl ?_
      refine ux_loop (fun s : Int32 × ux_N × ux_L => fX10_tryAll_37b c1 c2 n2 c4 v3 s.1 s.2.1 s.2.2) (fun s : Int32 × ux_N × ux_L => ux_Wt X 9 37 [(0, .ref (ux_ad X 44)), (2, .ref (ux_ad X c2)), (3, .int v3), (4, .ref (ux_ad X c4)), (5, .int s.1)] [] s.2.1 s.2.2) (e := e7) ?_ hl8
      intro s9 o10 hb11 hi12 hx13
      refine wX10_tryAll_37b C p1 p2 p4 hi12 (fun x0 he => ?_) hb11
      · obtain ⟨e14, rfl⟩ : ∃ z, z = x0 := ⟨_, rfl⟩
        have h9 := hx13 _ he
        subst h9
        cases h
        exact wt_vret C hq dX10_tryAll_124
    · have h := (if_neg q2).symm.trans h
      refine wt_sub [] rfl ?_
      exact wX10_tryAll_12 C p1 p2 p4 hq h
theorem mX10_tryAll {l : Launch} {G : ux_G} (hok : ux_ok G shC) {c1 : Nat} {c2 : Nat} {n2 : Nat} {v3 : Int32} {c4 : Nat} (p1 : is_X0 c1) (p2 : shC[c2]? = some (1, 0, n2, [])) (p4 : is_X0 c4) {N : ux_N} {L : ux_L} {o : ux_N × ux_L} (h : fX10_tryAll c1 c2 n2 c4 v3 N L = some o) : ux_Mv l G yX10_tryAll cX10_tryAll 9 2 83 [.ref (gad G 44), .ref (gad G c1), .ref (gad G c2), .int v3, .ref (gad G c4)] N L o.1 o.2 :=
  ux_ofv shC hok (by decide +kernel) (Nat.le_of_ble_eq_true rfl) (fun X hG hl C hq => by subst hG; subst hl; exact wX10_tryAll C p1 p2 p4 hq h)
