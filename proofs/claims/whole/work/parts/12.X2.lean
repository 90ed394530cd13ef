theorem dX2_separate_0 : decode cX2_separate 0 = .ok (.iconst 0, 1) := by decide +kernel
theorem dX2_separate_1 : decode cX2_separate 1 = .ok (.istore_n 1, 1) := by decide +kernel
theorem dX2_separate_2 : decode cX2_separate 2 = .ok (.iload_n 1, 1) := by decide +kernel
theorem dX2_separate_3 : decode cX2_separate 3 = .ok (.bipush 8, 2) := by decide +kernel
theorem dX2_separate_5 : decode cX2_separate 5 = .ok (.if_icmp .ge 16, 3) := by decide +kernel
theorem dX2_separate_8 : decode cX2_separate 8 = .ok (.aload_n 0, 1) := by decide +kernel
theorem dX2_separate_9 : decode cX2_separate 9 = .ok (.getfield 9, 3) := by decide +kernel
theorem dX2_separate_12 : decode cX2_separate 12 = .ok (.iload_n 1, 1) := by decide +kernel
theorem dX2_separate_13 : decode cX2_separate 13 = .ok (.iload_n 1, 1) := by decide +kernel
theorem dX2_separate_14 : decode cX2_separate 14 = .ok (.iastore, 1) := by decide +kernel
theorem dX2_separate_15 : decode cX2_separate 15 = .ok (.iinc 1 1, 3) := by decide +kernel
theorem dX2_separate_18 : decode cX2_separate 18 = .ok (.goto (-16), 3) := by decide +kernel
theorem dX2_separate_21 : decode cX2_separate 21 = .ok (.return_, 1) := by decide +kernel
theorem dX2_copyFrom_0 : decode cX2_copyFrom 0 = .ok (.aload_n 1, 1) := by decide +kernel
theorem dX2_copyFrom_1 : decode cX2_copyFrom 1 = .ok (.getfield 9, 3) := by decide +kernel
theorem dX2_copyFrom_4 : decode cX2_copyFrom 4 = .ok (.iconst 0, 1) := by decide +kernel
theorem dX2_copyFrom_5 : decode cX2_copyFrom 5 = .ok (.aload_n 0, 1) := by decide +kernel
theorem dX2_copyFrom_6 : decode cX2_copyFrom 6 = .ok (.getfield 9, 3) := by decide +kernel
theorem dX2_copyFrom_9 : decode cX2_copyFrom 9 = .ok (.iconst 0, 1) := by decide +kernel
theorem dX2_copyFrom_10 : decode cX2_copyFrom 10 = .ok (.bipush 8, 2) := by decide +kernel
theorem dX2_copyFrom_12 : decode cX2_copyFrom 12 = .ok (.invokestatic 15, 3) := by decide +kernel
theorem dX2_copyFrom_15 : decode cX2_copyFrom 15 = .ok (.return_, 1) := by decide +kernel
theorem dX2_areOne_0 : decode cX2_areOne 0 = .ok (.aload_n 0, 1) := by decide +kernel
theorem dX2_areOne_1 : decode cX2_areOne 1 = .ok (.getfield 9, 3) := by decide +kernel
theorem dX2_areOne_4 : decode cX2_areOne 4 = .ok (.iload_n 1, 1) := by decide +kernel
theorem dX2_areOne_5 : decode cX2_areOne 5 = .ok (.iaload, 1) := by decide +kernel
theorem dX2_areOne_6 : decode cX2_areOne 6 = .ok (.aload_n 0, 1) := by decide +kernel
theorem dX2_areOne_7 : decode cX2_areOne 7 = .ok (.getfield 9, 3) := by decide +kernel
theorem dX2_areOne_10 : decode cX2_areOne 10 = .ok (.iload_n 2, 1) := by decide +kernel
theorem dX2_areOne_11 : decode cX2_areOne 11 = .ok (.iaload, 1) := by decide +kernel
theorem dX2_areOne_12 : decode cX2_areOne 12 = .ok (.if_icmp .ne 7, 3) := by decide +kernel
theorem dX2_areOne_15 : decode cX2_areOne 15 = .ok (.iconst 1, 1) := by decide +kernel
theorem dX2_areOne_16 : decode cX2_areOne 16 = .ok (.goto 4, 3) := by decide +kernel
theorem dX2_areOne_19 : decode cX2_areOne 19 = .ok (.iconst 0, 1) := by decide +kernel
theorem dX2_areOne_20 : decode cX2_areOne 20 = .ok (.ireturn, 1) := by decide +kernel
theorem dX2_join_0 : decode cX2_join 0 = .ok (.aload_n 0, 1) := by decide +kernel
theorem dX2_join_1 : decode cX2_join 1 = .ok (.getfield 9, 3) := by decide +kernel
theorem dX2_join_4 : decode cX2_join 4 = .ok (.iload_n 2, 1) := by decide +kernel
theorem dX2_join_5 : decode cX2_join 5 = .ok (.iaload, 1) := by decide +kernel
theorem dX2_join_6 : decode cX2_join 6 = .ok (.istore_n 3, 1) := by decide +kernel
theorem dX2_join_7 : decode cX2_join 7 = .ok (.iconst 0, 1) := by decide +kernel
theorem dX2_join_8 : decode cX2_join 8 = .ok (.istore 4, 2) := by decide +kernel
theorem dX2_join_10 : decode cX2_join 10 = .ok (.iload 4, 2) := by decide +kernel
theorem dX2_join_12 : decode cX2_join 12 = .ok (.bipush 8, 2) := by decide +kernel
theorem dX2_join_14 : decode cX2_join 14 = .ok (.if_icmp .ge 33, 3) := by decide +kernel
theorem dX2_join_17 : decode cX2_join 17 = .ok (.aload_n 0, 1) := by decide +kernel
theorem dX2_join_18 : decode cX2_join 18 = .ok (.getfield 9, 3) := by decide +kernel
theorem dX2_join_21 : decode cX2_join 21 = .ok (.iload 4, 2) := by decide +kernel
theorem dX2_join_23 : decode cX2_join 23 = .ok (.iaload, 1) := by decide +kernel
theorem dX2_join_24 : decode cX2_join 24 = .ok (.iload_n 3, 1) := by decide +kernel
theorem dX2_join_25 : decode cX2_join 25 = .ok (.if_icmp .ne 16, 3) := by decide +kernel
theorem dX2_join_28 : decode cX2_join 28 = .ok (.aload_n 0, 1) := by decide +kernel
theorem dX2_join_29 : decode cX2_join 29 = .ok (.getfield 9, 3) := by decide +kernel
theorem dX2_join_32 : decode cX2_join 32 = .ok (.iload 4, 2) := by decide +kernel
theorem dX2_join_34 : decode cX2_join 34 = .ok (.aload_n 0, 1) := by decide +kernel
theorem dX2_join_35 : decode cX2_join 35 = .ok (.getfield 9, 3) := by decide +kernel
theorem dX2_join_38 : decode cX2_join 38 = .ok (.iload_n 1, 1) := by decide +kernel
theorem dX2_join_39 : decode cX2_join 39 = .ok (.iaload, 1) := by decide +kernel
theorem dX2_join_40 : decode cX2_join 40 = .ok (.iastore, 1) := by decide +kernel
theorem dX2_join_41 : decode cX2_join 41 = .ok (.iinc 4 1, 3) := by decide +kernel
theorem dX2_join_44 : decode cX2_join 44 = .ok (.goto (-34), 3) := by decide +kernel
theorem dX2_join_47 : decode cX2_join 47 = .ok (.return_, 1) := by decide +kernel
theorem kfX2_9 : ux_FL RX2 9 2 0 := ⟨RX2, TX2, 1, rfl, lay_X2, by decide, tw_296⟩
theorem kaX2_15 : ux_LA RX2 15 := ⟨tw_462, tw_464, tw_463, tw_85⟩
def fX2_separate_2b (c0 : Nat) (v1 : Int32) (N : ux_N) : Option ((Int32 × ux_N) ⊕ (ux_N)) :=
  if (8 : Int32) ≤ v1 then (some (.inr (N))) else (if ux_in v1 8 then (some (.inl ((v1 + 1), (ux_u N (c0 + 1) (v1.toNatClampNeg) v1)))) else none)
set_option maxHeartbeats 4000000 in
set_option maxRecDepth 20000 in
theorem wX2_separate_2b {X : ux_X} (C : ux_C X cX2_separate RX2 2 none 0 0 shC) {c0 : Nat} {v1 : Int32} (p0 : is_X2 c0) {N : ux_N} {L : ux_L} {o : (Int32 × ux_N) ⊕ (ux_N)} (hin : ∀ s : Int32 × ux_N, o = .inl s → ux_Wt X 2 2 [(0, .ref (ux_ad X c0)), (1, .int s.1)] [] s.2 L) (hex0 : ∀ e : ux_N, o = .inr (e) → ux_Wt X 2 21 [] [] e L) (h : fX2_separate_2b c0 v1 N = some o) : ux_Wt X 2 2 [(0, .ref (ux_ad X c0)), (1, .int v1)] [] N L := by
  refine wt_iload_n 3 1 C dX2_separate_2 rfl rfl ?_
  refine wt_bipush 5 8 C dX2_separate_3 rfl (by decide) ?_
  refine wt_icmp_ge 8 21 C dX2_separate_5 rfl (by decide) (fun q1 => ?_) (fun q1 => ?_)
  · have h := (if_pos q1).symm.trans h
    refine wt_sub [] rfl ?_
    exact hex0 _ (Option.some.inj h).symm
  · have h := (if_neg q1).symm.trans h
    refine wt_aload_n 9 0 C dX2_separate_8 rfl rfl ?_
    refine wt_getR 12 C kfX2_9 (p0).1 rfl dX2_separate_9 rfl ?_
    refine wt_iload_n 13 1 C dX2_separate_12 rfl rfl ?_
    refine wt_iload_n 14 1 C dX2_separate_13 rfl rfl ?_
    obtain ⟨hi2, h⟩ := ux_guard h
    refine wt_iast 15 (v1.toNatClampNeg) C (p0).2 rfl hi2 dX2_separate_14 rfl ?_
    refine wt_iinc 18 1 [(1, .int (v1 + 1)), (0, .ref (ux_ad X c0))] (v1 + 1) C dX2_separate_15 rfl rfl (by rfl) (by decide) rfl ?_
    refine wt_goto 2 C dX2_separate_18 (by decide) ?_
    refine wt_sub [1, 0] rfl ?_
    exact hin _ (Option.some.inj h).symm
def fX2_separate (c0 : Nat) (N : ux_N) : Option (ux_N) :=
  (ux_lp (fun s : Int32 × ux_N => fX2_separate_2b c0 s.1 s.2) ux_fu ((0 : Int32), N)).bind (fun e8 => some e8)
set_option maxHeartbeats 4000000 in
set_option maxRecDepth 20000 in
theorem wX2_separate {X : ux_X} (C : ux_C X cX2_separate RX2 2 none 0 0 shC) {c0 : Nat} (p0 : is_X2 c0) {N : ux_N} {L : ux_L} {o : ux_N} (hq : ux_Qv X o L) (h : fX2_separate c0 N = some o) : ux_Wt X 2 0 [(0, .ref (ux_ad X c0))] [] N L := by
  refine wt_iconst 1 0 C dX2_separate_0 rfl (by decide) ?_
  refine wt_istore_n 2 [(1, .int (0 : Int32)), (0, .ref (ux_ad X c0))] C dX2_separate_1 rfl (by decide) rfl ?_
  obtain ⟨e1, hl2, h⟩ := Option.bind_eq_some_iff.mp h
  refine wt_sub [1, 0] rfl ?_
  refine ux_loop (fun s : Int32 × ux_N => fX2_separate_2b c0 s.1 s.2) (fun s : Int32 × ux_N => ux_Wt X 2 2 [(0, .ref (ux_ad X c0)), (1, .int s.1)] [] s.2 L) (e := e1) ?_ hl2
  intro s3 o4 hb5 hi6 hx7
  refine wX2_separate_2b C p0 hi6 (fun x0 he => ?_) hb5
  · obtain ⟨e8, rfl⟩ : ∃ z, z = x0 := ⟨_, rfl⟩
    have h9 := hx7 _ he
    subst h9
    cases h
    exact wt_vret C hq dX2_separate_21
theorem mX2_separate {l : Launch} {G : ux_G} (hok : ux_ok G shC) {c0 : Nat} (p0 : is_X2 c0) {N : ux_N} {L : ux_L} {o : ux_N} (h : fX2_separate c0 N = some o) : ux_Mv l G yX2_separate cX2_separate 2 0 0 [.ref (gad G c0)] N L o L :=
  ux_ofv shC hok (by decide +kernel) (Nat.le_of_ble_eq_true rfl) (fun X hG hl C hq => by subst hG; subst hl; exact wX2_separate C p0 hq h)
def fX2_copyFrom (c0 : Nat) (c1 : Nat) (N : ux_N) : Option (ux_N) :=
  some (ux_cpN N (c1 + 1) (c0 + 1) 0 0 8)
set_option maxHeartbeats 4000000 in
set_option maxRecDepth 20000 in
theorem wX2_copyFrom {X : ux_X} (C : ux_C X cX2_copyFrom RX2 2 none 1 60 shC) {c0 : Nat} {c1 : Nat} (p0 : is_X2 c0) (p1 : is_X2 c1) {N : ux_N} {L : ux_L} {o : ux_N} (hq : ux_Qv X o L) (h : fX2_copyFrom c0 c1 N = some o) : ux_Wt X 2 0 [(0, .ref (ux_ad X c0)), (1, .ref (ux_ad X c1))] [] N L := by
  refine wt_aload_n 1 1 C dX2_copyFrom_0 rfl rfl ?_
  refine wt_getR 4 C kfX2_9 (p1).1 rfl dX2_copyFrom_1 rfl ?_
  refine wt_iconst 5 0 C dX2_copyFrom_4 rfl (by decide) ?_
  refine wt_aload_n 6 0 C dX2_copyFrom_5 rfl rfl ?_
  refine wt_getR 9 C kfX2_9 (p0).1 rfl dX2_copyFrom_6 rfl ?_
  refine wt_iconst 10 0 C dX2_copyFrom_9 rfl (by decide) ?_
  refine wt_bipush 12 8 C dX2_copyFrom_10 rfl (by decide) ?_
  refine wt_copyI 15 0 0 8 C kaX2_15 (p1).2 (p0).2 (by decide) (by decide) (by decide) (by decide) (by decide) (by decide) (by decide) (by decide) (by decide) (Nat.le_of_ble_eq_true rfl) dX2_copyFrom_12 rfl ?_
  cases h
  exact wt_vret C hq dX2_copyFrom_15
theorem mX2_copyFrom {l : Launch} {G : ux_G} (hok : ux_ok G shC) {c0 : Nat} {c1 : Nat} (p0 : is_X2 c0) (p1 : is_X2 c1) {N : ux_N} {L : ux_L} {o : ux_N} (h : fX2_copyFrom c0 c1 N = some o) : ux_Mv l G yX2_copyFrom cX2_copyFrom 2 1 60 [.ref (gad G c0), .ref (gad G c1)] N L o L :=
  ux_ofv shC hok (by decide +kernel) (Nat.le_of_ble_eq_true rfl) (fun X hG hl C hq => by subst hG; subst hl; exact wX2_copyFrom C p0 p1 hq h)
def fX2_areOne_20 (c0 : Nat) (s0 : Int32) (N : ux_N) : Option (Int32) :=
  if ux_b s0 then (some s0) else none
set_option maxHeartbeats 4000000 in
set_option maxRecDepth 20000 in
theorem wX2_areOne_20 {X : ux_X} (C : ux_C X cX2_areOne RX2 3 (some .boolean) 0 0 shC) {c0 : Nat} {s0 : Int32} (p0 : is_X2 c0) {N : ux_N} {L : ux_L} {o : Int32} (hq : ux_Qi X o N L) (h : fX2_areOne_20 c0 s0 N = some o) : ux_Wt X 3 20 [] [.int s0] N L := by
  obtain ⟨hb1, h⟩ := ux_guard h
  cases h
  exact wt_zret C (ux_b_n hb1).1 hq dX2_areOne_20
def fX2_areOne (c0 : Nat) (v1 : Int32) (v2 : Int32) (N : ux_N) : Option (Int32) :=
  if ux_in v1 8 then (if ux_in v2 8 then (if (N (c0 + 1) (v1.toNatClampNeg)) = (N (c0 + 1) (v2.toNatClampNeg)) then (fX2_areOne_20 c0 (1 : Int32) N) else (fX2_areOne_20 c0 (0 : Int32) N)) else none) else none
set_option maxHeartbeats 4000000 in
set_option maxRecDepth 20000 in
theorem wX2_areOne {X : ux_X} (C : ux_C X cX2_areOne RX2 3 (some .boolean) 0 0 shC) {c0 : Nat} {v1 : Int32} {v2 : Int32} (p0 : is_X2 c0) {N : ux_N} {L : ux_L} {o : Int32} (hq : ux_Qi X o N L) (h : fX2_areOne c0 v1 v2 N = some o) : ux_Wt X 3 0 [(0, .ref (ux_ad X c0)), (1, .int v1), (2, .int v2)] [] N L := by
  refine wt_aload_n 1 0 C dX2_areOne_0 rfl rfl ?_
  refine wt_getR 4 C kfX2_9 (p0).1 rfl dX2_areOne_1 rfl ?_
  refine wt_iload_n 5 1 C dX2_areOne_4 rfl rfl ?_
  obtain ⟨hi1, h⟩ := ux_guard h
  refine wt_iald 6 (v1.toNatClampNeg) C (p0).2 rfl hi1 dX2_areOne_5 rfl ?_
  refine wt_aload_n 7 0 C dX2_areOne_6 rfl rfl ?_
  refine wt_getR 10 C kfX2_9 (p0).1 rfl dX2_areOne_7 rfl ?_
  refine wt_iload_n 11 2 C dX2_areOne_10 rfl rfl ?_
  obtain ⟨hi2, h⟩ := ux_guard h
  refine wt_iald 12 (v2.toNatClampNeg) C (p0).2 rfl hi2 dX2_areOne_11 rfl ?_
  refine wt_icmp_ne 15 19 C dX2_areOne_12 rfl (by decide) (fun q3 => ?_) (fun q3 => ?_)
  · have h := (if_neg q3).symm.trans h
    refine wt_iconst 20 0 C dX2_areOne_19 rfl (by decide) ?_
    refine wt_sub [] rfl ?_
    exact wX2_areOne_20 C p0 hq h
  · have h := (if_pos q3).symm.trans h
    refine wt_iconst 16 1 C dX2_areOne_15 rfl (by decide) ?_
    refine wt_goto 20 C dX2_areOne_16 (by decide) ?_
    refine wt_sub [] rfl ?_
    exact wX2_areOne_20 C p0 hq h
theorem mX2_areOne {l : Launch} {G : ux_G} (hok : ux_ok G shC) {c0 : Nat} {v1 : Int32} {v2 : Int32} (p0 : is_X2 c0) {N : ux_N} {L : ux_L} {o : Int32} (h : fX2_areOne c0 v1 v2 N = some o) : ux_Mi l G yX2_areOne cX2_areOne 3 (some .boolean) 0 0 [.ref (gad G c0), .int v1, .int v2] N L o N L :=
  ux_ofi shC hok (by decide +kernel) (Nat.le_of_ble_eq_true rfl) (fun X hG hl C hq => by subst hG; subst hl; exact wX2_areOne C p0 hq h)
def fX2_join_10b_41 (c0 : Nat) (v1 : Int32) (v3 : Int32) (v4 : Int32) (N : ux_N) : Option ((Int32 × ux_N) ⊕ (ux_N)) :=
  some (.inl ((v4 + 1), N))
set_option maxHeartbeats 4000000 in
set_option maxRecDepth 20000 in
theorem wX2_join_10b_41 {X : ux_X} (C : ux_C X cX2_join RX2 5 none 0 0 shC) {c0 : Nat} {v1 : Int32} {v3 : Int32} {v4 : Int32} (p0 : is_X2 c0) {N : ux_N} {L : ux_L} {o : (Int32 × ux_N) ⊕ (ux_N)} (hin : ∀ s : Int32 × ux_N, o = .inl s → ux_Wt X 5 10 [(0, .ref (ux_ad X c0)), (1, .int v1), (3, .int v3), (4, .int s.1)] [] s.2 L) (hex0 : ∀ e : ux_N, o = .inr (e) → ux_Wt X 5 47 [] [] e L) (h : fX2_join_10b_41 c0 v1 v3 v4 N = some o) : ux_Wt X 5 41 [(0, .ref (ux_ad X c0)), (1, .int v1), (3, .int v3), (4, .int v4)] [] N L := by
  refine wt_iinc 44 3 [(4, .int (v4 + 1)), (0, .ref (ux_ad X c0)), (1, .int v1), (3, .int v3)] (v4 + 1) C dX2_join_41 rfl rfl (by rfl) (by decide) rfl ?_
  refine wt_goto 10 C dX2_join_44 (by decide) ?_
  refine wt_sub [1, 2, 3, 0] rfl ?_
  exact hin _ (Option.some.inj h).symm
def fX2_join_10b (c0 : Nat) (v1 : Int32) (v3 : Int32) (v4 : Int32) (N : ux_N) : Option ((Int32 × ux_N) ⊕ (ux_N)) :=
  if (8 : Int32) ≤ v4 then (some (.inr (N))) else (if ux_in v4 8 then (if (N (c0 + 1) (v4.toNatClampNeg)) = v3 then (if ux_in v1 8 then (if ux_in v4 8 then (fX2_join_10b_41 c0 v1 v3 v4 (ux_u N (c0 + 1) (v4.toNatClampNeg) (N (c0 + 1) (v1.toNatClampNeg)))) else none) else none) else (fX2_join_10b_41 c0 v1 v3 v4 N)) else none)
set_option maxHeartbeats 4000000 in
set_option maxRecDepth 20000 in
theorem wX2_join_10b {X : ux_X} (C : ux_C X cX2_join RX2 5 none 0 0 shC) {c0 : Nat} {v1 : Int32} {v3 : Int32} {v4 : Int32} (p0 : is_X2 c0) {N : ux_N} {L : ux_L} {o : (Int32 × ux_N) ⊕ (ux_N)} (hin : ∀ s : Int32 × ux_N, o = .inl s → ux_Wt X 5 10 [(0, .ref (ux_ad X c0)), (1, .int v1), (3, .int v3), (4, .int s.1)] [] s.2 L) (hex0 : ∀ e : ux_N, o = .inr (e) → ux_Wt X 5 47 [] [] e L) (h : fX2_join_10b c0 v1 v3 v4 N = some o) : ux_Wt X 5 10 [(0, .ref (ux_ad X c0)), (1, .int v1), (3, .int v3), (4, .int v4)] [] N L := by
  refine wt_iload 12 3 C dX2_join_10 rfl rfl ?_
  refine wt_bipush 14 8 C dX2_join_12 rfl (by decide) ?_
  refine wt_icmp_ge 17 47 C dX2_join_14 rfl (by decide) (fun q1 => ?_) (fun q1 => ?_)
  · have h := (if_pos q1).symm.trans h
    refine wt_sub [] rfl ?_
    exact hex0 _ (Option.some.inj h).symm
  · have h := (if_neg q1).symm.trans h
    refine wt_aload_n 18 0 C dX2_join_17 rfl rfl ?_
    refine wt_getR 21 C kfX2_9 (p0).1 rfl dX2_join_18 rfl ?_
    refine wt_iload 23 3 C dX2_join_21 rfl rfl ?_
    obtain ⟨hi2, h⟩ := ux_guard h
    refine wt_iald 24 (v4.toNatClampNeg) C (p0).2 rfl hi2 dX2_join_23 rfl ?_
    refine wt_iload_n 25 2 C dX2_join_24 rfl rfl ?_
    refine wt_icmp_ne 28 41 C dX2_join_25 rfl (by decide) (fun q3 => ?_) (fun q3 => ?_)
    · have h := (if_neg q3).symm.trans h
      exact wX2_join_10b_41 C p0 hin hex0 h
    · have h := (if_pos q3).symm.trans h
      refine wt_aload_n 29 0 C dX2_join_28 rfl rfl ?_
      refine wt_getR 32 C kfX2_9 (p0).1 rfl dX2_join_29 rfl ?_
      refine wt_iload 34 3 C dX2_join_32 rfl rfl ?_
      refine wt_aload_n 35 0 C dX2_join_34 rfl rfl ?_
      refine wt_getR 38 C kfX2_9 (p0).1 rfl dX2_join_35 rfl ?_
      refine wt_iload_n 39 1 C dX2_join_38 rfl rfl ?_
      obtain ⟨hi4, h⟩ := ux_guard h
      refine wt_iald 40 (v1.toNatClampNeg) C (p0).2 rfl hi4 dX2_join_39 rfl ?_
      obtain ⟨hi5, h⟩ := ux_guard h
      refine wt_iast 41 (v4.toNatClampNeg) C (p0).2 rfl hi5 dX2_join_40 rfl ?_
      exact wX2_join_10b_41 C p0 hin hex0 h
def fX2_join (c0 : Nat) (v1 : Int32) (v2 : Int32) (N : ux_N) : Option (ux_N) :=
  if ux_in v2 8 then ((ux_lp (fun s : Int32 × ux_N => fX2_join_10b c0 v1 (N (c0 + 1) (v2.toNatClampNeg)) s.1 s.2) ux_fu ((0 : Int32), N)).bind (fun e9 => some e9)) else none
set_option maxHeartbeats 4000000 in
set_option maxRecDepth 20000 in
theorem wX2_join {X : ux_X} (C : ux_C X cX2_join RX2 5 none 0 0 shC) {c0 : Nat} {v1 : Int32} {v2 : Int32} (p0 : is_X2 c0) {N : ux_N} {L : ux_L} {o : ux_N} (hq : ux_Qv X o L) (h : fX2_join c0 v1 v2 N = some o) : ux_Wt X 5 0 [(0, .ref (ux_ad X c0)), (1, .int v1), (2, .int v2)] [] N L := by
  refine wt_aload_n 1 0 C dX2_join_0 rfl rfl ?_
  refine wt_getR 4 C kfX2_9 (p0).1 rfl dX2_join_1 rfl ?_
  refine wt_iload_n 5 2 C dX2_join_4 rfl rfl ?_
  obtain ⟨hi1, h⟩ := ux_guard h
  refine wt_iald 6 (v2.toNatClampNeg) C (p0).2 rfl hi1 dX2_join_5 rfl ?_
  refine wt_istore_n 7 [(3, .int (N (c0 + 1) (v2.toNatClampNeg))), (0, .ref (ux_ad X c0)), (1, .int v1), (2, .int v2)] C dX2_join_6 rfl (by decide) rfl ?_
  refine wt_iconst 8 0 C dX2_join_7 rfl (by decide) ?_
  refine wt_istore 10 [(4, .int (0 : Int32)), (3, .int (N (c0 + 1) (v2.toNatClampNeg))), (0, .ref (ux_ad X c0)), (1, .int v1), (2, .int v2)] C dX2_join_8 rfl (by decide) rfl ?_
  obtain ⟨e2, hl3, h⟩ := Option.bind_eq_some_iff.mp h
  refine wt_sub [2, 3, 1, 0] rfl ?_
  refine ux_loop (fun s : Int32 × ux_N => fX2_join_10b c0 v1 (N (c0 + 1) (v2.toNatClampNeg)) s.1 s.2) (fun s : Int32 × ux_N => ux_Wt X 5 10 [(0, .ref (ux_ad X c0)), (1, .int v1), (3, .int (N (c0 + 1) (v2.toNatClampNeg))), (4, .int s.1)] [] s.2 L) (e := e2) ?_ hl3
  intro s4 o5 hb6 hi7 hx8
  refine wX2_join_10b C p0 hi7 (fun x0 he => ?_) hb6
  · obtain ⟨e9, rfl⟩ : ∃ z, z = x0 := ⟨_, rfl⟩
    have h9 := hx8 _ he
    subst h9
    cases h
    exact wt_vret C hq dX2_join_47
theorem mX2_join {l : Launch} {G : ux_G} (hok : ux_ok G shC) {c0 : Nat} {v1 : Int32} {v2 : Int32} (p0 : is_X2 c0) {N : ux_N} {L : ux_L} {o : ux_N} (h : fX2_join c0 v1 v2 N = some o) : ux_Mv l G yX2_join cX2_join 5 0 0 [.ref (gad G c0), .int v1, .int v2] N L o L :=
  ux_ofv shC hok (by decide +kernel) (Nat.le_of_ble_eq_true rfl) (fun X hG hl C hq => by subst hG; subst hl; exact wX2_join C p0 hq h)
