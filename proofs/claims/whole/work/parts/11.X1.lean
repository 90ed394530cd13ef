theorem dX1_note_0 : decode cX1_note 0 = .ok (.aload_n 0, 1) := by decide +kernel
theorem dX1_note_1 : decode cX1_note 1 = .ok (.getfield 18, 3) := by decide +kernel
theorem dX1_note_4 : decode cX1_note 4 = .ok (.bipush 8, 2) := by decide +kernel
theorem dX1_note_6 : decode cX1_note 6 = .ok (.if_icmp .lt 39, 3) := by decide +kernel
theorem dX1_note_9 : decode cX1_note 9 = .ok (.aload_n 0, 1) := by decide +kernel
theorem dX1_note_10 : decode cX1_note 10 = .ok (.getfield 9, 3) := by decide +kernel
theorem dX1_note_13 : decode cX1_note 13 = .ok (.iconst 1, 1) := by decide +kernel
theorem dX1_note_14 : decode cX1_note 14 = .ok (.aload_n 0, 1) := by decide +kernel
theorem dX1_note_15 : decode cX1_note 15 = .ok (.getfield 9, 3) := by decide +kernel
theorem dX1_note_18 : decode cX1_note 18 = .ok (.iconst 0, 1) := by decide +kernel
theorem dX1_note_19 : decode cX1_note 19 = .ok (.bipush 7, 2) := by decide +kernel
theorem dX1_note_21 : decode cX1_note 21 = .ok (.invokestatic 22, 3) := by decide +kernel
theorem dX1_note_24 : decode cX1_note 24 = .ok (.aload_n 0, 1) := by decide +kernel
theorem dX1_note_25 : decode cX1_note 25 = .ok (.getfield 15, 3) := by decide +kernel
theorem dX1_note_28 : decode cX1_note 28 = .ok (.iconst 1, 1) := by decide +kernel
theorem dX1_note_29 : decode cX1_note 29 = .ok (.aload_n 0, 1) := by decide +kernel
theorem dX1_note_30 : decode cX1_note 30 = .ok (.getfield 15, 3) := by decide +kernel
theorem dX1_note_33 : decode cX1_note 33 = .ok (.iconst 0, 1) := by decide +kernel
theorem dX1_note_34 : decode cX1_note 34 = .ok (.bipush 7, 2) := by decide +kernel
theorem dX1_note_36 : decode cX1_note 36 = .ok (.invokestatic 22, 3) := by decide +kernel
theorem dX1_note_39 : decode cX1_note 39 = .ok (.aload_n 0, 1) := by decide +kernel
theorem dX1_note_40 : decode cX1_note 40 = .ok (.bipush 7, 2) := by decide +kernel
theorem dX1_note_42 : decode cX1_note 42 = .ok (.putfield 18, 3) := by decide +kernel
theorem dX1_note_45 : decode cX1_note 45 = .ok (.aload_n 0, 1) := by decide +kernel
theorem dX1_note_46 : decode cX1_note 46 = .ok (.getfield 9, 3) := by decide +kernel
theorem dX1_note_49 : decode cX1_note 49 = .ok (.aload_n 0, 1) := by decide +kernel
theorem dX1_note_50 : decode cX1_note 50 = .ok (.getfield 18, 3) := by decide +kernel
theorem dX1_note_53 : decode cX1_note 53 = .ok (.iload_n 1, 1) := by decide +kernel
theorem dX1_note_54 : decode cX1_note 54 = .ok (.iastore, 1) := by decide +kernel
theorem dX1_note_55 : decode cX1_note 55 = .ok (.aload_n 0, 1) := by decide +kernel
theorem dX1_note_56 : decode cX1_note 56 = .ok (.getfield 15, 3) := by decide +kernel
theorem dX1_note_59 : decode cX1_note 59 = .ok (.aload_n 0, 1) := by decide +kernel
theorem dX1_note_60 : decode cX1_note 60 = .ok (.getfield 18, 3) := by decide +kernel
theorem dX1_note_63 : decode cX1_note 63 = .ok (.iload_n 2, 1) := by decide +kernel
theorem dX1_note_64 : decode cX1_note 64 = .ok (.iastore, 1) := by decide +kernel
theorem dX1_note_65 : decode cX1_note 65 = .ok (.aload_n 0, 1) := by decide +kernel
theorem dX1_note_66 : decode cX1_note 66 = .ok (.dup, 1) := by decide +kernel
theorem dX1_note_67 : decode cX1_note 67 = .ok (.getfield 18, 3) := by decide +kernel
theorem dX1_note_70 : decode cX1_note 70 = .ok (.iconst 1, 1) := by decide +kernel
theorem dX1_note_71 : decode cX1_note 71 = .ok (.iadd, 1) := by decide +kernel
theorem dX1_note_72 : decode cX1_note 72 = .ok (.putfield 18, 3) := by decide +kernel
theorem dX1_note_75 : decode cX1_note 75 = .ok (.return_, 1) := by decide +kernel
theorem dX1_revertLatest_0 : decode cX1_revertLatest 0 = .ok (.aload_n 0, 1) := by decide +kernel
theorem dX1_revertLatest_1 : decode cX1_revertLatest 1 = .ok (.getfield 18, 3) := by decide +kernel
theorem dX1_revertLatest_4 : decode cX1_revertLatest 4 = .ok (.ifCond .gt 4, 3) := by decide +kernel
theorem dX1_revertLatest_7 : decode cX1_revertLatest 7 = .ok (.return_, 1) := by decide +kernel
theorem dX1_revertLatest_8 : decode cX1_revertLatest 8 = .ok (.aload_n 0, 1) := by decide +kernel
theorem dX1_revertLatest_9 : decode cX1_revertLatest 9 = .ok (.dup, 1) := by decide +kernel
theorem dX1_revertLatest_10 : decode cX1_revertLatest 10 = .ok (.getfield 18, 3) := by decide +kernel
theorem dX1_revertLatest_13 : decode cX1_revertLatest 13 = .ok (.iconst 1, 1) := by decide +kernel
theorem dX1_revertLatest_14 : decode cX1_revertLatest 14 = .ok (.isub, 1) := by decide +kernel
theorem dX1_revertLatest_15 : decode cX1_revertLatest 15 = .ok (.putfield 18, 3) := by decide +kernel
theorem dX1_revertLatest_18 : decode cX1_revertLatest 18 = .ok (.iconst 1, 1) := by decide +kernel
theorem dX1_revertLatest_19 : decode cX1_revertLatest 19 = .ok (.aload_n 0, 1) := by decide +kernel
theorem dX1_revertLatest_20 : decode cX1_revertLatest 20 = .ok (.getfield 15, 3) := by decide +kernel
theorem dX1_revertLatest_23 : decode cX1_revertLatest 23 = .ok (.aload_n 0, 1) := by decide +kernel
theorem dX1_revertLatest_24 : decode cX1_revertLatest 24 = .ok (.getfield 18, 3) := by decide +kernel
theorem dX1_revertLatest_27 : decode cX1_revertLatest 27 = .ok (.iaload, 1) := by decide +kernel
theorem dX1_revertLatest_28 : decode cX1_revertLatest 28 = .ok (.ishl, 1) := by decide +kernel
theorem dX1_revertLatest_29 : decode cX1_revertLatest 29 = .ok (.istore_n 2, 1) := by decide +kernel
theorem dX1_revertLatest_30 : decode cX1_revertLatest 30 = .ok (.aload_n 0, 1) := by decide +kernel
theorem dX1_revertLatest_31 : decode cX1_revertLatest 31 = .ok (.getfield 9, 3) := by decide +kernel
theorem dX1_revertLatest_34 : decode cX1_revertLatest 34 = .ok (.aload_n 0, 1) := by decide +kernel
theorem dX1_revertLatest_35 : decode cX1_revertLatest 35 = .ok (.getfield 18, 3) := by decide +kernel
theorem dX1_revertLatest_38 : decode cX1_revertLatest 38 = .ok (.iaload, 1) := by decide +kernel
theorem dX1_revertLatest_39 : decode cX1_revertLatest 39 = .ok (.tableswitch 69 0 2 #[25, 41, 56], 25) := by decide +kernel
theorem dX1_revertLatest_64 : decode cX1_revertLatest 64 = .ok (.aload_n 1, 1) := by decide +kernel
theorem dX1_revertLatest_65 : decode cX1_revertLatest 65 = .ok (.aload_n 0, 1) := by decide +kernel
theorem dX1_revertLatest_66 : decode cX1_revertLatest 66 = .ok (.getfield 15, 3) := by decide +kernel
theorem dX1_revertLatest_69 : decode cX1_revertLatest 69 = .ok (.aload_n 0, 1) := by decide +kernel
theorem dX1_revertLatest_70 : decode cX1_revertLatest 70 = .ok (.getfield 18, 3) := by decide +kernel
theorem dX1_revertLatest_73 : decode cX1_revertLatest 73 = .ok (.iaload, 1) := by decide +kernel
theorem dX1_revertLatest_74 : decode cX1_revertLatest 74 = .ok (.putfield 28, 3) := by decide +kernel
theorem dX1_revertLatest_77 : decode cX1_revertLatest 77 = .ok (.goto 43, 3) := by decide +kernel
theorem dX1_revertLatest_80 : decode cX1_revertLatest 80 = .ok (.aload_n 1, 1) := by decide +kernel
theorem dX1_revertLatest_81 : decode cX1_revertLatest 81 = .ok (.dup, 1) := by decide +kernel
theorem dX1_revertLatest_82 : decode cX1_revertLatest 82 = .ok (.getfield 33, 3) := by decide +kernel
theorem dX1_revertLatest_85 : decode cX1_revertLatest 85 = .ok (.iload_n 2, 1) := by decide +kernel
theorem dX1_revertLatest_86 : decode cX1_revertLatest 86 = .ok (.iconst (-1), 1) := by decide +kernel
theorem dX1_revertLatest_87 : decode cX1_revertLatest 87 = .ok (.ixor, 1) := by decide +kernel
theorem dX1_revertLatest_88 : decode cX1_revertLatest 88 = .ok (.iand, 1) := by decide +kernel
theorem dX1_revertLatest_89 : decode cX1_revertLatest 89 = .ok (.putfield 33, 3) := by decide +kernel
theorem dX1_revertLatest_92 : decode cX1_revertLatest 92 = .ok (.goto 28, 3) := by decide +kernel
theorem dX1_revertLatest_95 : decode cX1_revertLatest 95 = .ok (.aload_n 1, 1) := by decide +kernel
theorem dX1_revertLatest_96 : decode cX1_revertLatest 96 = .ok (.dup, 1) := by decide +kernel
theorem dX1_revertLatest_97 : decode cX1_revertLatest 97 = .ok (.getfield 33, 3) := by decide +kernel
theorem dX1_revertLatest_100 : decode cX1_revertLatest 100 = .ok (.iload_n 2, 1) := by decide +kernel
theorem dX1_revertLatest_101 : decode cX1_revertLatest 101 = .ok (.ior, 1) := by decide +kernel
theorem dX1_revertLatest_102 : decode cX1_revertLatest 102 = .ok (.putfield 33, 3) := by decide +kernel
theorem dX1_revertLatest_105 : decode cX1_revertLatest 105 = .ok (.goto 15, 3) := by decide +kernel
theorem dX1_revertLatest_108 : decode cX1_revertLatest 108 = .ok (.aload_n 1, 1) := by decide +kernel
theorem dX1_revertLatest_109 : decode cX1_revertLatest 109 = .ok (.dup, 1) := by decide +kernel
theorem dX1_revertLatest_110 : decode cX1_revertLatest 110 = .ok (.getfield 36, 3) := by decide +kernel
theorem dX1_revertLatest_113 : decode cX1_revertLatest 113 = .ok (.iload_n 2, 1) := by decide +kernel
theorem dX1_revertLatest_114 : decode cX1_revertLatest 114 = .ok (.iconst (-1), 1) := by decide +kernel
theorem dX1_revertLatest_115 : decode cX1_revertLatest 115 = .ok (.ixor, 1) := by decide +kernel
theorem dX1_revertLatest_116 : decode cX1_revertLatest 116 = .ok (.iand, 1) := by decide +kernel
theorem dX1_revertLatest_117 : decode cX1_revertLatest 117 = .ok (.putfield 36, 3) := by decide +kernel
theorem dX1_revertLatest_120 : decode cX1_revertLatest 120 = .ok (.return_, 1) := by decide +kernel
theorem kfX1_18 : ux_FL RX1 18 1 0 := ⟨RX1, TX1, 3, rfl, lay_X1, by decide, tw_240⟩
theorem kfX1_9 : ux_FL RX1 9 1 1 := ⟨RX1, TX1, 3, rfl, lay_X1, by decide, tw_242⟩
theorem kfX1_15 : ux_FL RX1 15 1 2 := ⟨RX1, TX1, 3, rfl, lay_X1, by decide, tw_243⟩
theorem kpX1_18 : ux_FP RX1 18 1 0 .int := ⟨RX1, TX1, 3, rfl, lay_X1, by decide, tw_240, tyX1, tyX1_ok, nmX1, rfl, by decide +kernel⟩
theorem kaX1_22 : ux_LA RX1 22 := ⟨tw_816, tw_464, tw_463, tw_85⟩
theorem kpX1_28 : ux_FP RX1 28 8 0 .int := ⟨RX8, TX8, 5, rfl, lay_X8, by decide, tw_206, tyX8, tyX8_ok, nmX8, rfl, by decide +kernel⟩
theorem kfX1_33 : ux_FL RX1 33 8 1 := ⟨RX8, TX8, 5, rfl, lay_X8, by decide, tw_209⟩
theorem kpX1_33 : ux_FP RX1 33 8 1 .int := ⟨RX8, TX8, 5, rfl, lay_X8, by decide, tw_209, tyX8, tyX8_ok, nmX8, rfl, by decide +kernel⟩
theorem kfX1_36 : ux_FL RX1 36 8 2 := ⟨RX8, TX8, 5, rfl, lay_X8, by decide, tw_213⟩
theorem kpX1_36 : ux_FP RX1 36 8 2 .int := ⟨RX8, TX8, 5, rfl, lay_X8, by decide, tw_213, tyX8, tyX8_ok, nmX8, rfl, by decide +kernel⟩
def fX1_note_75 (N : ux_N) : Option (ux_N) :=
  some N
set_option maxHeartbeats 4000000 in
set_option maxRecDepth 20000 in
theorem wX1_note_75 {X : ux_X} (C : ux_C X cX1_note RX1 3 none 1 60 shC)   {N : ux_N} {L : ux_L} {o : ux_N} (hq : ux_Qv X o L) (h : fX1_note_75 N = some o) : ux_Wt X 3 75 [] [] N L := by
  cases h
  exact wt_vret C hq dX1_note_75
def fX1_note_45 (v1 : Int32) (v2 : Int32) (N : ux_N) : Option (ux_N) :=
  if ux_in (N 30 0) 8 then (if ux_in ((ux_u N 31 ((N 30 0).toNatClampNeg) v1) 30 0) 8 then (fX1_note_75 (ux_u (ux_u (ux_u N 31 ((N 30 0).toNatClampNeg) v1) 32 (((ux_u N 31 ((N 30 0).toNatClampNeg) v1) 30 0).toNatClampNeg) v2) 30 0 (((ux_u (ux_u N 31 ((N 30 0).toNatClampNeg) v1) 32 (((ux_u N 31 ((N 30 0).toNatClampNeg) v1) 30 0).toNatClampNeg) v2) 30 0) + (1 : Int32)))) else none) else none
set_option maxHeartbeats 4000000 in
set_option maxRecDepth 20000 in
theorem wX1_note_45 {X : ux_X} (C : ux_C X cX1_note RX1 3 none 1 60 shC) {v1 : Int32} {v2 : Int32}  {N : ux_N} {L : ux_L} {o : ux_N} (hq : ux_Qv X o L) (h : fX1_note_45 v1 v2 N = some o) : ux_Wt X 3 45 [(0, .ref (ux_ad X 30)), (1, .int v1), (2, .int v2)] [] N L := by
  refine wt_aload_n 46 0 C dX1_note_45 rfl rfl ?_
  refine wt_getR 49 C kfX1_9 sc_30 rfl dX1_note_46 rfl ?_
  refine wt_aload_n 50 0 C dX1_note_49 rfl rfl ?_
  refine wt_getI 53 C kfX1_18 sc_30 rfl dX1_note_50 rfl ?_
  refine wt_iload_n 54 1 C dX1_note_53 rfl rfl ?_
  obtain ⟨hi1, h⟩ := ux_guard h
  refine wt_iast 55 ((N 30 0).toNatClampNeg) C sc_31 rfl hi1 dX1_note_54 rfl ?_
  refine wt_aload_n 56 0 C dX1_note_55 rfl rfl ?_
  refine wt_getR 59 C kfX1_15 sc_30 rfl dX1_note_56 rfl ?_
  refine wt_aload_n 60 0 C dX1_note_59 rfl rfl ?_
  refine wt_getI 63 C kfX1_18 sc_30 rfl dX1_note_60 rfl ?_
  refine wt_iload_n 64 2 C dX1_note_63 rfl rfl ?_
  obtain ⟨hi2, h⟩ := ux_guard h
  refine wt_iast 65 (((ux_u N 31 ((N 30 0).toNatClampNeg) v1) 30 0).toNatClampNeg) C sc_32 rfl hi2 dX1_note_64 rfl ?_
  refine wt_aload_n 66 0 C dX1_note_65 rfl rfl ?_
  refine wt_dup 67 C dX1_note_66 rfl rfl ?_
  refine wt_getI 70 C kfX1_18 sc_30 rfl dX1_note_67 rfl ?_
  refine wt_iconst 71 1 C dX1_note_70 rfl (by decide) ?_
  refine wt_iadd 72 C dX1_note_71 rfl ?_
  refine wt_putI 75 C kpX1_18 sc_30 rfl rfl rfl dX1_note_72 rfl ?_
  refine wt_sub [] rfl ?_
  exact wX1_note_75 C hq h
def fX1_note (v1 : Int32) (v2 : Int32) (N : ux_N) : Option (ux_N) :=
  if (N 30 0) < (8 : Int32) then (fX1_note_45 v1 v2 N) else (fX1_note_45 v1 v2 (ux_u (ux_cpN (ux_cpN N 31 31 1 0 7) 32 32 1 0 7) 30 0 (7 : Int32)))
set_option maxHeartbeats 4000000 in
set_option maxRecDepth 20000 in
theorem wX1_note {X : ux_X} (C : ux_C X cX1_note RX1 3 none 1 60 shC) {v1 : Int32} {v2 : Int32}  {N : ux_N} {L : ux_L} {o : ux_N} (hq : ux_Qv X o L) (h : fX1_note v1 v2 N = some o) : ux_Wt X 3 0 [(0, .ref (ux_ad X 30)), (1, .int v1), (2, .int v2)] [] N L := by
  refine wt_aload_n 1 0 C dX1_note_0 rfl rfl ?_
  refine wt_getI 4 C kfX1_18 sc_30 rfl dX1_note_1 rfl ?_
  refine wt_bipush 6 8 C dX1_note_4 rfl (by decide) ?_
  refine wt_icmp_lt 9 45 C dX1_note_6 rfl (by decide) (fun q1 => ?_) (fun q1 => ?_)
  · have h := (if_pos q1).symm.trans h
    exact wX1_note_45 C hq h
  · have h := (if_neg q1).symm.trans h
    refine wt_aload_n 10 0 C dX1_note_9 rfl rfl ?_
    refine wt_getR 13 C kfX1_9 sc_30 rfl dX1_note_10 rfl ?_
    refine wt_iconst 14 1 C dX1_note_13 rfl (by decide) ?_
    refine wt_aload_n 15 0 C dX1_note_14 rfl rfl ?_
    refine wt_getR 18 C kfX1_9 sc_30 rfl dX1_note_15 rfl ?_
    refine wt_iconst 19 0 C dX1_note_18 rfl (by decide) ?_
    refine wt_bipush 21 7 C dX1_note_19 rfl (by decide) ?_
    refine wt_copyI 24 1 0 7 C kaX1_22 sc_31 sc_31 (by decide) (by decide) (by decide) (by decide) (by decide) (by decide) (by decide) (by decide) (by decide) (Nat.le_of_ble_eq_true rfl) dX1_note_21 rfl ?_
    refine wt_aload_n 25 0 C dX1_note_24 rfl rfl ?_
    refine wt_getR 28 C kfX1_15 sc_30 rfl dX1_note_25 rfl ?_
    refine wt_iconst 29 1 C dX1_note_28 rfl (by decide) ?_
    refine wt_aload_n 30 0 C dX1_note_29 rfl rfl ?_
    refine wt_getR 33 C kfX1_15 sc_30 rfl dX1_note_30 rfl ?_
    refine wt_iconst 34 0 C dX1_note_33 rfl (by decide) ?_
    refine wt_bipush 36 7 C dX1_note_34 rfl (by decide) ?_
    refine wt_copyI 39 1 0 7 C kaX1_22 sc_32 sc_32 (by decide) (by decide) (by decide) (by decide) (by decide) (by decide) (by decide) (by decide) (by decide) (Nat.le_of_ble_eq_true rfl) dX1_note_36 rfl ?_
    refine wt_aload_n 40 0 C dX1_note_39 rfl rfl ?_
    refine wt_bipush 42 7 C dX1_note_40 rfl (by decide) ?_
    refine wt_putI 45 C kpX1_18 sc_30 rfl rfl rfl dX1_note_42 rfl ?_
    exact wX1_note_45 C hq h
theorem mX1_note {l : Launch} {G : ux_G} (hok : ux_ok G shC) {v1 : Int32} {v2 : Int32}  {N : ux_N} {L : ux_L} {o : ux_N} (h : fX1_note v1 v2 N = some o) : ux_Mv l G yX1_note cX1_note 3 1 60 [.ref (gad G 30), .int v1, .int v2] N L o L :=
  ux_ofv shC hok (by decide +kernel) (Nat.le_of_ble_eq_true rfl) (fun X hG hl C hq => by subst hG; subst hl; exact wX1_note C  hq h)
def fX1_revertLatest_120 (c1 : Nat) (N : ux_N) : Option (ux_N) :=
  some N
set_option maxHeartbeats 4000000 in
set_option maxRecDepth 20000 in
theorem wX1_revertLatest_120 {X : ux_X} (C : ux_C X cX1_revertLatest RX1 3 none 0 0 shC) {c1 : Nat} (p1 : is_X8 c1) {N : ux_N} {L : ux_L} {o : ux_N} (hq : ux_Qv X o L) (h : fX1_revertLatest_120 c1 N = some o) : ux_Wt X 3 120 [] [] N L := by
  cases h
  exact wt_vret C hq dX1_revertLatest_120
def fX1_revertLatest_77 (c1 : Nat) (N : ux_N) : Option (ux_N) :=
  fX1_revertLatest_120 c1 N
set_option maxHeartbeats 4000000 in
set_option maxRecDepth 20000 in
theorem wX1_revertLatest_77 {X : ux_X} (C : ux_C X cX1_revertLatest RX1 3 none 0 0 shC) {c1 : Nat} (p1 : is_X8 c1) {N : ux_N} {L : ux_L} {o : ux_N} (hq : ux_Qv X o L) (h : fX1_revertLatest_77 c1 N = some o) : ux_Wt X 3 77 [] [] N L := by
  refine wt_goto 120 C dX1_revertLatest_77 (by decide) ?_
  exact wX1_revertLatest_120 C p1 hq h
def fX1_revertLatest_89 (c1 : Nat) (s0 : Int32) (N : ux_N) : Option (ux_N) :=
  fX1_revertLatest_120 c1 (ux_u N c1 1 s0)
set_option maxHeartbeats 4000000 in
set_option maxRecDepth 20000 in
theorem wX1_revertLatest_89 {X : ux_X} (C : ux_C X cX1_revertLatest RX1 3 none 0 0 shC) {c1 : Nat} {s0 : Int32} (p1 : is_X8 c1) {N : ux_N} {L : ux_L} {o : ux_N} (hq : ux_Qv X o L) (h : fX1_revertLatest_89 c1 s0 N = some o) : ux_Wt X 3 89 [] [.int s0, .ref (ux_ad X c1)] N L := by
  refine wt_putI 92 C kpX1_33 (p1).1 rfl rfl rfl dX1_revertLatest_89 rfl ?_
  refine wt_goto 120 C dX1_revertLatest_92 (by decide) ?_
  exact wX1_revertLatest_120 C p1 hq h
def fX1_revertLatest_102 (c1 : Nat) (s0 : Int32) (N : ux_N) : Option (ux_N) :=
  fX1_revertLatest_120 c1 (ux_u N c1 1 s0)
set_option maxHeartbeats 4000000 in
set_option maxRecDepth 20000 in
theorem wX1_revertLatest_102 {X : ux_X} (C : ux_C X cX1_revertLatest RX1 3 none 0 0 shC) {c1 : Nat} {s0 : Int32} (p1 : is_X8 c1) {N : ux_N} {L : ux_L} {o : ux_N} (hq : ux_Qv X o L) (h : fX1_revertLatest_102 c1 s0 N = some o) : ux_Wt X 3 102 [] [.int s0, .ref (ux_ad X c1)] N L := by
  refine wt_putI 105 C kpX1_33 (p1).1 rfl rfl rfl dX1_revertLatest_102 rfl ?_
  refine wt_goto 120 C dX1_revertLatest_105 (by decide) ?_
  exact wX1_revertLatest_120 C p1 hq h
def fX1_revertLatest_117 (c1 : Nat) (s0 : Int32) (N : ux_N) : Option (ux_N) :=
  fX1_revertLatest_120 c1 (ux_u N c1 2 s0)
set_option maxHeartbeats 4000000 in
set_option maxRecDepth 20000 in
theorem wX1_revertLatest_117 {X : ux_X} (C : ux_C X cX1_revertLatest RX1 3 none 0 0 shC) {c1 : Nat} {s0 : Int32} (p1 : is_X8 c1) {N : ux_N} {L : ux_L} {o : ux_N} (hq : ux_Qv X o L) (h : fX1_revertLatest_117 c1 s0 N = some o) : ux_Wt X 3 117 [] [.int s0, .ref (ux_ad X c1)] N L := by
  refine wt_putI 120 C kpX1_36 (p1).1 rfl rfl rfl dX1_revertLatest_117 rfl ?_
  exact wX1_revertLatest_120 C p1 hq h
def fX1_revertLatest (c1 : Nat) (N : ux_N) : Option (ux_N) :=
  if 0 < (N 30 0) then (if ux_in ((ux_u N 30 0 ((N 30 0) - (1 : Int32))) 30 0) 8 then (if ux_in ((ux_u N 30 0 ((N 30 0) - (1 : Int32))) 30 0) 8 then (if ((ux_u N 30 0 ((N 30 0) - (1 : Int32))) 31 (((ux_u N 30 0 ((N 30 0) - (1 : Int32))) 30 0).toNatClampNeg)) = (0 : Int32) then (if ux_in ((ux_u N 30 0 ((N 30 0) - (1 : Int32))) 30 0) 8 then (fX1_revertLatest_77 c1 (ux_u (ux_u N 30 0 ((N 30 0) - (1 : Int32))) c1 0 ((ux_u N 30 0 ((N 30 0) - (1 : Int32))) 32 (((ux_u N 30 0 ((N 30 0) - (1 : Int32))) 30 0).toNatClampNeg)))) else none) else (if ((ux_u N 30 0 ((N 30 0) - (1 : Int32))) 31 (((ux_u N 30 0 ((N 30 0) - (1 : Int32))) 30 0).toNatClampNeg)) = (1 : Int32) then (fX1_revertLatest_89 c1 (((ux_u N 30 0 ((N 30 0) - (1 : Int32))) c1 1) &&& (((1 : Int32) <<< (((ux_u N 30 0 ((N 30 0) - (1 : Int32))) 32 (((ux_u N 30 0 ((N 30 0) - (1 : Int32))) 30 0).toNatClampNeg)) &&& 31)) ^^^ (-1 : Int32))) (ux_u N 30 0 ((N 30 0) - (1 : Int32)))) else (if ((ux_u N 30 0 ((N 30 0) - (1 : Int32))) 31 (((ux_u N 30 0 ((N 30 0) - (1 : Int32))) 30 0).toNatClampNeg)) = (2 : Int32) then (fX1_revertLatest_102 c1 (((ux_u N 30 0 ((N 30 0) - (1 : Int32))) c1 1) ||| ((1 : Int32) <<< (((ux_u N 30 0 ((N 30 0) - (1 : Int32))) 32 (((ux_u N 30 0 ((N 30 0) - (1 : Int32))) 30 0).toNatClampNeg)) &&& 31))) (ux_u N 30 0 ((N 30 0) - (1 : Int32)))) else (fX1_revertLatest_117 c1 (((ux_u N 30 0 ((N 30 0) - (1 : Int32))) c1 2) &&& (((1 : Int32) <<< (((ux_u N 30 0 ((N 30 0) - (1 : Int32))) 32 (((ux_u N 30 0 ((N 30 0) - (1 : Int32))) 30 0).toNatClampNeg)) &&& 31)) ^^^ (-1 : Int32))) (ux_u N 30 0 ((N 30 0) - (1 : Int32))))))) else none) else none) else (some N)
set_option maxHeartbeats 4000000 in
set_option maxRecDepth 20000 in
theorem wX1_revertLatest {X : ux_X} (C : ux_C X cX1_revertLatest RX1 3 none 0 0 shC) {c1 : Nat} (p1 : is_X8 c1) {N : ux_N} {L : ux_L} {o : ux_N} (hq : ux_Qv X o L) (h : fX1_revertLatest c1 N = some o) : ux_Wt X 3 0 [(0, .ref (ux_ad X 30)), (1, .ref (ux_ad X c1))] [] N L := by
  refine wt_aload_n 1 0 C dX1_revertLatest_0 rfl rfl ?_
  refine wt_getI 4 C kfX1_18 sc_30 rfl dX1_revertLatest_1 rfl ?_
  refine wt_if_gt 7 8 C dX1_revertLatest_4 rfl (by decide) (fun q1 => ?_) (fun q1 => ?_)
  · have h := (if_pos q1).symm.trans h
    refine wt_aload_n 9 0 C dX1_revertLatest_8 rfl rfl ?_
    refine wt_dup 10 C dX1_revertLatest_9 rfl rfl ?_
    refine wt_getI 13 C kfX1_18 sc_30 rfl dX1_revertLatest_10 rfl ?_
    refine wt_iconst 14 1 C dX1_revertLatest_13 rfl (by decide) ?_
    refine wt_isub 15 C dX1_revertLatest_14 rfl ?_
    refine wt_putI 18 C kpX1_18 sc_30 rfl rfl rfl dX1_revertLatest_15 rfl ?_
    refine wt_iconst 19 1 C dX1_revertLatest_18 rfl (by decide) ?_
    refine wt_aload_n 20 0 C dX1_revertLatest_19 rfl rfl ?_
    refine wt_getR 23 C kfX1_15 sc_30 rfl dX1_revertLatest_20 rfl ?_
    refine wt_aload_n 24 0 C dX1_revertLatest_23 rfl rfl ?_
    refine wt_getI 27 C kfX1_18 sc_30 rfl dX1_revertLatest_24 rfl ?_
    obtain ⟨hi2, h⟩ := ux_guard h
    refine wt_iald 28 (((ux_u N 30 0 ((N 30 0) - (1 : Int32))) 30 0).toNatClampNeg) C sc_32 rfl hi2 dX1_revertLatest_27 rfl ?_
    refine wt_ishl 29 C dX1_revertLatest_28 rfl ?_
    refine wt_istore_n 30 [(2, .int ((1 : Int32) <<< (((ux_u N 30 0 ((N 30 0) - (1 : Int32))) 32 (((ux_u N 30 0 ((N 30 0) - (1 : Int32))) 30 0).toNatClampNeg)) &&& 31))), (0, .ref (ux_ad X 30)), (1, .ref (ux_ad X c1))] C dX1_revertLatest_29 rfl (by decide) rfl ?_
    refine wt_aload_n 31 1 C dX1_revertLatest_30 rfl rfl ?_
    refine wt_getR 34 C kfX1_9 sc_30 rfl dX1_revertLatest_31 rfl ?_
    refine wt_aload_n 35 1 C dX1_revertLatest_34 rfl rfl ?_
    refine wt_getI 38 C kfX1_18 sc_30 rfl dX1_revertLatest_35 rfl ?_
    obtain ⟨hi3, h⟩ := ux_guard h
    refine wt_iald 39 (((ux_u N 30 0 ((N 30 0) - (1 : Int32))) 30 0).toNatClampNeg) C sc_31 rfl hi3 dX1_revertLatest_38 rfl ?_
    by_cases q4 : ((ux_u N 30 0 ((N 30 0) - (1 : Int32))) 31 (((ux_u N 30 0 ((N 30 0) - (1 : Int32))) 30 0).toNatClampNeg)) = (0 : Int32)
    · have h := (if_pos q4).symm.trans h
      refine wt_tin 64 (0) C dX1_revertLatest_39 q4 (by decide) (by decide) rfl (by decide) ?_
      refine wt_aload_n 65 2 C dX1_revertLatest_64 rfl rfl ?_
      refine wt_aload_n 66 1 C dX1_revertLatest_65 rfl rfl ?_
      refine wt_getR 69 C kfX1_15 sc_30 rfl dX1_revertLatest_66 rfl ?_
      refine wt_aload_n 70 1 C dX1_revertLatest_69 rfl rfl ?_
      refine wt_getI 73 C kfX1_18 sc_30 rfl dX1_revertLatest_70 rfl ?_
      obtain ⟨hi5, h⟩ := ux_guard h
      refine wt_iald 74 (((ux_u N 30 0 ((N 30 0) - (1 : Int32))) 30 0).toNatClampNeg) C sc_32 rfl hi5 dX1_revertLatest_73 rfl ?_
      refine wt_putI 77 C kpX1_28 (p1).1 rfl rfl rfl dX1_revertLatest_74 rfl ?_
      refine wt_sub [] rfl ?_
      exact wX1_revertLatest_77 C p1 hq h
    have h := (if_neg q4).symm.trans h
    by_cases q6 : ((ux_u N 30 0 ((N 30 0) - (1 : Int32))) 31 (((ux_u N 30 0 ((N 30 0) - (1 : Int32))) 30 0).toNatClampNeg)) = (1 : Int32)
    · have h := (if_pos q6).symm.trans h
      refine wt_tin 80 (1) C dX1_revertLatest_39 q6 (by decide) (by decide) rfl (by decide) ?_
      refine wt_aload_n 81 2 C dX1_revertLatest_80 rfl rfl ?_
      refine wt_dup 82 C dX1_revertLatest_81 rfl rfl ?_
      refine wt_getI 85 C kfX1_33 (p1).1 rfl dX1_revertLatest_82 rfl ?_
      refine wt_iload_n 86 0 C dX1_revertLatest_85 rfl rfl ?_
      refine wt_iconst 87 (-1) C dX1_revertLatest_86 rfl (by decide) ?_
      refine wt_ixor 88 C dX1_revertLatest_87 rfl ?_
      refine wt_iand 89 C dX1_revertLatest_88 rfl ?_
      refine wt_sub [] rfl ?_
      exact wX1_revertLatest_89 C p1 hq h
    have h := (if_neg q6).symm.trans h
    by_cases q7 : ((ux_u N 30 0 ((N 30 0) - (1 : Int32))) 31 (((ux_u N 30 0 ((N 30 0) - (1 : Int32))) 30 0).toNatClampNeg)) = (2 : Int32)
    · have h := (if_pos q7).symm.trans h
      refine wt_tin 95 (2) C dX1_revertLatest_39 q7 (by decide) (by decide) rfl (by decide) ?_
      refine wt_aload_n 96 2 C dX1_revertLatest_95 rfl rfl ?_
      refine wt_dup 97 C dX1_revertLatest_96 rfl rfl ?_
      refine wt_getI 100 C kfX1_33 (p1).1 rfl dX1_revertLatest_97 rfl ?_
      refine wt_iload_n 101 0 C dX1_revertLatest_100 rfl rfl ?_
      refine wt_ior 102 C dX1_revertLatest_101 rfl ?_
      refine wt_sub [] rfl ?_
      exact wX1_revertLatest_102 C p1 hq h
    have h := (if_neg q7).symm.trans h
    refine wt_tout 108 C dX1_revertLatest_39 (by have z0 := lv_neT q4 (show (0 : Int32).toInt = 0 from by decide); have z1 := lv_neT q6 (show (1 : Int32).toInt = 1 from by decide); have z2 := lv_neT q7 (show (2 : Int32).toInt = 2 from by decide); omega) (by decide) ?_
    refine wt_aload_n 109 2 C dX1_revertLatest_108 rfl rfl ?_
    refine wt_dup 110 C dX1_revertLatest_109 rfl rfl ?_
    refine wt_getI 113 C kfX1_36 (p1).1 rfl dX1_revertLatest_110 rfl ?_
    refine wt_iload_n 114 0 C dX1_revertLatest_113 rfl rfl ?_
    refine wt_iconst 115 (-1) C dX1_revertLatest_114 rfl (by decide) ?_
    refine wt_ixor 116 C dX1_revertLatest_115 rfl ?_
    refine wt_iand 117 C dX1_revertLatest_116 rfl ?_
    refine wt_sub [] rfl ?_
    exact wX1_revertLatest_117 C p1 hq h
  · have h := (if_neg q1).symm.trans h
    cases h
    exact wt_vret C hq dX1_revertLatest_7
theorem mX1_revertLatest {l : Launch} {G : ux_G} (hok : ux_ok G shC) {c1 : Nat} (p1 : is_X8 c1) {N : ux_N} {L : ux_L} {o : ux_N} (h : fX1_revertLatest c1 N = some o) : ux_Mv l G yX1_revertLatest cX1_revertLatest 3 0 0 [.ref (gad G 30), .ref (gad G c1)] N L o L :=
  ux_ofv shC hok (by decide +kernel) (Nat.le_of_ble_eq_true rfl) (fun X hG hl C hq => by subst hG; subst hl; exact wX1_revertLatest C p1 hq h)
