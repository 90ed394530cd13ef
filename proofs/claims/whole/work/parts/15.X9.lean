theorem dX9_renew_0 : decode cX9_renew 0 = .ok (.aload_n 0, 1) := by decide +kernel
theorem dX9_renew_1 : decode cX9_renew 1 = .ok (.iconst 1, 1) := by decide +kernel
theorem dX9_renew_2 : decode cX9_renew 2 = .ok (.putfield 18, 3) := by decide +kernel
theorem dX9_renew_5 : decode cX9_renew 5 = .ok (.aload_n 0, 1) := by decide +kernel
theorem dX9_renew_6 : decode cX9_renew 6 = .ok (.iconst 0, 1) := by decide +kernel
theorem dX9_renew_7 : decode cX9_renew 7 = .ok (.putfield 22, 3) := by decide +kernel
theorem dX9_renew_10 : decode cX9_renew 10 = .ok (.return_, 1) := by decide +kernel
theorem dX9_remove_0 : decode cX9_remove 0 = .ok (.aload_n 0, 1) := by decide +kernel
theorem dX9_remove_1 : decode cX9_remove 1 = .ok (.iconst 0, 1) := by decide +kernel
theorem dX9_remove_2 : decode cX9_remove 2 = .ok (.putfield 18, 3) := by decide +kernel
theorem dX9_remove_5 : decode cX9_remove 5 = .ok (.aload_n 0, 1) := by decide +kernel
theorem dX9_remove_6 : decode cX9_remove 6 = .ok (.iconst 0, 1) := by decide +kernel
theorem dX9_remove_7 : decode cX9_remove 7 = .ok (.putfield 22, 3) := by decide +kernel
theorem dX9_remove_10 : decode cX9_remove 10 = .ok (.return_, 1) := by decide +kernel
theorem dX9_isMissing_0 : decode cX9_isMissing 0 = .ok (.aload_n 0, 1) := by decide +kernel
theorem dX9_isMissing_1 : decode cX9_isMissing 1 = .ok (.getfield 18, 3) := by decide +kernel
theorem dX9_isMissing_4 : decode cX9_isMissing 4 = .ok (.ifCond .ne 7, 3) := by decide +kernel
theorem dX9_isMissing_7 : decode cX9_isMissing 7 = .ok (.iconst 1, 1) := by decide +kernel
theorem dX9_isMissing_8 : decode cX9_isMissing 8 = .ok (.goto 4, 3) := by decide +kernel
theorem dX9_isMissing_11 : decode cX9_isMissing 11 = .ok (.iconst 0, 1) := by decide +kernel
theorem dX9_isMissing_12 : decode cX9_isMissing 12 = .ok (.ireturn, 1) := by decide +kernel
theorem dX9_things_0 : decode cX9_things 0 = .ok (.aload_n 0, 1) := by decide +kernel
theorem dX9_things_1 : decode cX9_things 1 = .ok (.getfield 22, 3) := by decide +kernel
theorem dX9_things_4 : decode cX9_things 4 = .ok (.ireturn, 1) := by decide +kernel
theorem dX9_push_0 : decode cX9_push 0 = .ok (.aload_n 0, 1) := by decide +kernel
theorem dX9_push_1 : decode cX9_push 1 = .ok (.getfield 18, 3) := by decide +kernel
theorem dX9_push_4 : decode cX9_push 4 = .ok (.ifCond .ne 6, 3) := by decide +kernel
theorem dX9_push_7 : decode cX9_push 7 = .ok (.bipush (-11), 2) := by decide +kernel
theorem dX9_push_9 : decode cX9_push 9 = .ok (.ireturn, 1) := by decide +kernel
theorem dX9_push_10 : decode cX9_push 10 = .ok (.aload_n 0, 1) := by decide +kernel
theorem dX9_push_11 : decode cX9_push 11 = .ok (.getfield 22, 3) := by decide +kernel
theorem dX9_push_14 : decode cX9_push 14 = .ok (.bipush 8, 2) := by decide +kernel
theorem dX9_push_16 : decode cX9_push 16 = .ok (.if_icmp .lt 6, 3) := by decide +kernel
theorem dX9_push_19 : decode cX9_push 19 = .ok (.bipush (-14), 2) := by decide +kernel
theorem dX9_push_21 : decode cX9_push 21 = .ok (.ireturn, 1) := by decide +kernel
theorem dX9_push_22 : decode cX9_push 22 = .ok (.aload_n 0, 1) := by decide +kernel
theorem dX9_push_23 : decode cX9_push 23 = .ok (.getfield 9, 3) := by decide +kernel
theorem dX9_push_26 : decode cX9_push 26 = .ok (.aload_n 0, 1) := by decide +kernel
theorem dX9_push_27 : decode cX9_push 27 = .ok (.getfield 22, 3) := by decide +kernel
theorem dX9_push_30 : decode cX9_push 30 = .ok (.iload_n 1, 1) := by decide +kernel
theorem dX9_push_31 : decode cX9_push 31 = .ok (.iastore, 1) := by decide +kernel
theorem dX9_push_32 : decode cX9_push 32 = .ok (.aload_n 0, 1) := by decide +kernel
theorem dX9_push_33 : decode cX9_push 33 = .ok (.getfield 15, 3) := by decide +kernel
theorem dX9_push_36 : decode cX9_push 36 = .ok (.aload_n 0, 1) := by decide +kernel
theorem dX9_push_37 : decode cX9_push 37 = .ok (.getfield 22, 3) := by decide +kernel
theorem dX9_push_40 : decode cX9_push 40 = .ok (.iload_n 2, 1) := by decide +kernel
theorem dX9_push_41 : decode cX9_push 41 = .ok (.iastore, 1) := by decide +kernel
theorem dX9_push_42 : decode cX9_push 42 = .ok (.aload_n 0, 1) := by decide +kernel
theorem dX9_push_43 : decode cX9_push 43 = .ok (.dup, 1) := by decide +kernel
theorem dX9_push_44 : decode cX9_push 44 = .ok (.getfield 22, 3) := by decide +kernel
theorem dX9_push_47 : decode cX9_push 47 = .ok (.iconst 1, 1) := by decide +kernel
theorem dX9_push_48 : decode cX9_push 48 = .ok (.iadd, 1) := by decide +kernel
theorem dX9_push_49 : decode cX9_push 49 = .ok (.putfield 22, 3) := by decide +kernel
theorem dX9_push_52 : decode cX9_push 52 = .ok (.aload_n 0, 1) := by decide +kernel
theorem dX9_push_53 : decode cX9_push 53 = .ok (.getfield 22, 3) := by decide +kernel
theorem dX9_push_56 : decode cX9_push 56 = .ok (.ireturn, 1) := by decide +kernel
theorem dX9_pop_0 : decode cX9_pop 0 = .ok (.aload_n 0, 1) := by decide +kernel
theorem dX9_pop_1 : decode cX9_pop 1 = .ok (.getfield 18, 3) := by decide +kernel
theorem dX9_pop_4 : decode cX9_pop 4 = .ok (.ifCond .ne 6, 3) := by decide +kernel
theorem dX9_pop_7 : decode cX9_pop 7 = .ok (.bipush (-11), 2) := by decide +kernel
theorem dX9_pop_9 : decode cX9_pop 9 = .ok (.ireturn, 1) := by decide +kernel
theorem dX9_pop_10 : decode cX9_pop 10 = .ok (.aload_n 0, 1) := by decide +kernel
theorem dX9_pop_11 : decode cX9_pop 11 = .ok (.getfield 22, 3) := by decide +kernel
theorem dX9_pop_14 : decode cX9_pop 14 = .ok (.ifCond .gt 6, 3) := by decide +kernel
theorem dX9_pop_17 : decode cX9_pop 17 = .ok (.bipush (-12), 2) := by decide +kernel
theorem dX9_pop_19 : decode cX9_pop 19 = .ok (.ireturn, 1) := by decide +kernel
theorem dX9_pop_20 : decode cX9_pop 20 = .ok (.aload_n 0, 1) := by decide +kernel
theorem dX9_pop_21 : decode cX9_pop 21 = .ok (.getfield 9, 3) := by decide +kernel
theorem dX9_pop_24 : decode cX9_pop 24 = .ok (.aload_n 0, 1) := by decide +kernel
theorem dX9_pop_25 : decode cX9_pop 25 = .ok (.getfield 22, 3) := by decide +kernel
theorem dX9_pop_28 : decode cX9_pop 28 = .ok (.iconst 1, 1) := by decide +kernel
theorem dX9_pop_29 : decode cX9_pop 29 = .ok (.isub, 1) := by decide +kernel
theorem dX9_pop_30 : decode cX9_pop 30 = .ok (.iaload, 1) := by decide +kernel
theorem dX9_pop_31 : decode cX9_pop 31 = .ok (.iload_n 1, 1) := by decide +kernel
theorem dX9_pop_32 : decode cX9_pop 32 = .ok (.if_icmp .eq 6, 3) := by decide +kernel
theorem dX9_pop_35 : decode cX9_pop 35 = .ok (.bipush (-13), 2) := by decide +kernel
theorem dX9_pop_37 : decode cX9_pop 37 = .ok (.ireturn, 1) := by decide +kernel
theorem dX9_pop_38 : decode cX9_pop 38 = .ok (.aload_n 0, 1) := by decide +kernel
theorem dX9_pop_39 : decode cX9_pop 39 = .ok (.dup, 1) := by decide +kernel
theorem dX9_pop_40 : decode cX9_pop 40 = .ok (.getfield 22, 3) := by decide +kernel
theorem dX9_pop_43 : decode cX9_pop 43 = .ok (.iconst 1, 1) := by decide +kernel
theorem dX9_pop_44 : decode cX9_pop 44 = .ok (.isub, 1) := by decide +kernel
theorem dX9_pop_45 : decode cX9_pop 45 = .ok (.putfield 22, 3) := by decide +kernel
theorem dX9_pop_48 : decode cX9_pop 48 = .ok (.iload_n 1, 1) := by decide +kernel
theorem dX9_pop_49 : decode cX9_pop 49 = .ok (.iconst 1, 1) := by decide +kernel
theorem dX9_pop_50 : decode cX9_pop 50 = .ok (.if_icmp .ne 18, 3) := by decide +kernel
theorem dX9_pop_53 : decode cX9_pop 53 = .ok (.aload_n 0, 1) := by decide +kernel
theorem dX9_pop_54 : decode cX9_pop 54 = .ok (.getfield 15, 3) := by decide +kernel
theorem dX9_pop_57 : decode cX9_pop 57 = .ok (.aload_n 0, 1) := by decide +kernel
theorem dX9_pop_58 : decode cX9_pop 58 = .ok (.getfield 22, 3) := by decide +kernel
theorem dX9_pop_61 : decode cX9_pop 61 = .ok (.iaload, 1) := by decide +kernel
theorem dX9_pop_62 : decode cX9_pop 62 = .ok (.ldc 26, 2) := by decide +kernel
theorem dX9_pop_64 : decode cX9_pop 64 = .ok (.iadd, 1) := by decide +kernel
theorem dX9_pop_65 : decode cX9_pop 65 = .ok (.goto 12, 3) := by decide +kernel
theorem dX9_pop_68 : decode cX9_pop 68 = .ok (.aload_n 0, 1) := by decide +kernel
theorem dX9_pop_69 : decode cX9_pop 69 = .ok (.getfield 15, 3) := by decide +kernel
theorem dX9_pop_72 : decode cX9_pop 72 = .ok (.aload_n 0, 1) := by decide +kernel
theorem dX9_pop_73 : decode cX9_pop 73 = .ok (.getfield 22, 3) := by decide +kernel
theorem dX9_pop_76 : decode cX9_pop 76 = .ok (.iaload, 1) := by decide +kernel
theorem dX9_pop_77 : decode cX9_pop 77 = .ok (.ireturn, 1) := by decide +kernel
theorem dX9_together_0 : decode cX9_together 0 = .ok (.aload_n 0, 1) := by decide +kernel
theorem dX9_together_1 : decode cX9_together 1 = .ok (.getfield 18, 3) := by decide +kernel
theorem dX9_together_4 : decode cX9_together 4 = .ok (.ifCond .ne 6, 3) := by decide +kernel
theorem dX9_together_7 : decode cX9_together 7 = .ok (.bipush (-11), 2) := by decide +kernel
theorem dX9_together_9 : decode cX9_together 9 = .ok (.ireturn, 1) := by decide +kernel
theorem dX9_together_10 : decode cX9_together 10 = .ok (.iconst 0, 1) := by decide +kernel
theorem dX9_together_11 : decode cX9_together 11 = .ok (.istore_n 2, 1) := by decide +kernel
theorem dX9_together_12 : decode cX9_together 12 = .ok (.ldc 27, 2) := by decide +kernel
theorem dX9_together_14 : decode cX9_together 14 = .ok (.istore_n 3, 1) := by decide +kernel
theorem dX9_together_15 : decode cX9_together 15 = .ok (.iconst 0, 1) := by decide +kernel
theorem dX9_together_16 : decode cX9_together 16 = .ok (.istore 4, 2) := by decide +kernel
theorem dX9_together_18 : decode cX9_together 18 = .ok (.iconst 0, 1) := by decide +kernel
theorem dX9_together_19 : decode cX9_together 19 = .ok (.istore 5, 2) := by decide +kernel
theorem dX9_together_21 : decode cX9_together 21 = .ok (.iload 5, 2) := by decide +kernel
theorem dX9_together_23 : decode cX9_together 23 = .ok (.aload_n 0, 1) := by decide +kernel
theorem dX9_together_24 : decode cX9_together 24 = .ok (.getfield 22, 3) := by decide +kernel
theorem dX9_together_27 : decode cX9_together 27 = .ok (.if_icmp .ge 76, 3) := by decide +kernel
theorem dX9_together_30 : decode cX9_together 30 = .ok (.aload_n 0, 1) := by decide +kernel
theorem dX9_together_31 : decode cX9_together 31 = .ok (.getfield 9, 3) := by decide +kernel
theorem dX9_together_34 : decode cX9_together 34 = .ok (.iload 5, 2) := by decide +kernel
theorem dX9_together_36 : decode cX9_together 36 = .ok (.iaload, 1) := by decide +kernel
theorem dX9_together_37 : decode cX9_together 37 = .ok (.lookupswitch 46 #[(0, 27), (1, 33)], 27) := by decide +kernel
theorem dX9_together_64 : decode cX9_together 64 = .ok (.iinc 2 1, 3) := by decide +kernel
theorem dX9_together_67 : decode cX9_together 67 = .ok (.goto 30, 3) := by decide +kernel
theorem dX9_together_70 : decode cX9_together 70 = .ok (.iload_n 3, 1) := by decide +kernel
theorem dX9_together_71 : decode cX9_together 71 = .ok (.aload_n 0, 1) := by decide +kernel
theorem dX9_together_72 : decode cX9_together 72 = .ok (.getfield 15, 3) := by decide +kernel
theorem dX9_together_75 : decode cX9_together 75 = .ok (.iload 5, 2) := by decide +kernel
theorem dX9_together_77 : decode cX9_together 77 = .ok (.iaload, 1) := by decide +kernel
theorem dX9_together_78 : decode cX9_together 78 = .ok (.iadd, 1) := by decide +kernel
theorem dX9_together_79 : decode cX9_together 79 = .ok (.istore_n 3, 1) := by decide +kernel
theorem dX9_together_80 : decode cX9_together 80 = .ok (.goto 17, 3) := by decide +kernel
theorem dX9_together_83 : decode cX9_together 83 = .ok (.iload 4, 2) := by decide +kernel
theorem dX9_together_85 : decode cX9_together 85 = .ok (.iconst 1, 1) := by decide +kernel
theorem dX9_together_86 : decode cX9_together 86 = .ok (.aload_n 0, 1) := by decide +kernel
theorem dX9_together_87 : decode cX9_together 87 = .ok (.getfield 15, 3) := by decide +kernel
theorem dX9_together_90 : decode cX9_together 90 = .ok (.iload 5, 2) := by decide +kernel
theorem dX9_together_92 : decode cX9_together 92 = .ok (.iaload, 1) := by decide +kernel
theorem dX9_together_93 : decode cX9_together 93 = .ok (.ishl, 1) := by decide +kernel
theorem dX9_together_94 : decode cX9_together 94 = .ok (.ior, 1) := by decide +kernel
theorem dX9_together_95 : decode cX9_together 95 = .ok (.istore 4, 2) := by decide +kernel
theorem dX9_together_97 : decode cX9_together 97 = .ok (.iinc 5 1, 3) := by decide +kernel
theorem dX9_together_100 : decode cX9_together 100 = .ok (.goto (-79), 3) := by decide +kernel
theorem dX9_together_103 : decode cX9_together 103 = .ok (.iload_n 1, 1) := by decide +kernel
theorem dX9_together_104 : decode cX9_together 104 = .ok (.ifCond .ne 5, 3) := by decide +kernel
theorem dX9_together_107 : decode cX9_together 107 = .ok (.iload_n 2, 1) := by decide +kernel
theorem dX9_together_108 : decode cX9_together 108 = .ok (.ireturn, 1) := by decide +kernel
theorem dX9_together_109 : decode cX9_together 109 = .ok (.iload_n 1, 1) := by decide +kernel
theorem dX9_together_110 : decode cX9_together 110 = .ok (.iconst 1, 1) := by decide +kernel
theorem dX9_together_111 : decode cX9_together 111 = .ok (.if_icmp .ne 7, 3) := by decide +kernel
theorem dX9_together_114 : decode cX9_together 114 = .ok (.iload_n 3, 1) := by decide +kernel
theorem dX9_together_115 : decode cX9_together 115 = .ok (.goto 5, 3) := by decide +kernel
theorem dX9_together_118 : decode cX9_together 118 = .ok (.iload 4, 2) := by decide +kernel
theorem dX9_together_120 : decode cX9_together 120 = .ok (.ireturn, 1) := by decide +kernel
theorem kpX9_18 : ux_FP RX9 18 9 0 .boolean := ⟨RX9, TX9, 4, rfl, lay_X9, by decide, tw_408, tyX9, tyX9_ok, nmX9, rfl, by decide +kernel⟩
theorem kpX9_22 : ux_FP RX9 22 9 1 .int := ⟨RX9, TX9, 4, rfl, lay_X9, by decide, tw_409, tyX9, tyX9_ok, nmX9, rfl, by decide +kernel⟩
theorem kfX9_18 : ux_FL RX9 18 9 0 := ⟨RX9, TX9, 4, rfl, lay_X9, by decide, tw_408⟩
theorem kfX9_22 : ux_FL RX9 22 9 1 := ⟨RX9, TX9, 4, rfl, lay_X9, by decide, tw_409⟩
theorem kfX9_9 : ux_FL RX9 9 9 2 := ⟨RX9, TX9, 4, rfl, lay_X9, by decide, tw_410⟩
theorem kfX9_15 : ux_FL RX9 15 9 3 := ⟨RX9, TX9, 4, rfl, lay_X9, by decide, tw_411⟩
def fX9_renew (c0 : Nat) (N : ux_N) : Option (ux_N) :=
  some (ux_u (ux_u N c0 0 (1 : Int32)) c0 1 (0 : Int32))
set_option maxHeartbeats 4000000 in
set_option maxRecDepth 20000 in
theorem wX9_renew {X : ux_X} (C : ux_C X cX9_renew RX9 1 none 0 0 shC) {c0 : Nat} (p0 : is_X9 c0) {N : ux_N} {L : ux_L} {o : ux_N} (hq : ux_Qv X o L) (h : fX9_renew c0 N = some o) : ux_Wt X 1 0 [(0, .ref (ux_ad X c0))] [] N L := by
  refine wt_aload_n 1 0 C dX9_renew_0 rfl rfl ?_
  refine wt_iconst 2 1 C dX9_renew_1 rfl (by decide) ?_
  refine wt_putI 5 C kpX9_18 (p0).1 rfl (ux_b_n (by decide)).1 (ux_b_n (by decide)).2 dX9_renew_2 rfl ?_
  refine wt_aload_n 6 0 C dX9_renew_5 rfl rfl ?_
  refine wt_iconst 7 0 C dX9_renew_6 rfl (by decide) ?_
  refine wt_putI 10 C kpX9_22 (p0).1 rfl rfl rfl dX9_renew_7 rfl ?_
  cases h
  exact wt_vret C hq dX9_renew_10
theorem mX9_renew {l : Launch} {G : ux_G} (hok : ux_ok G shC) {c0 : Nat} (p0 : is_X9 c0) {N : ux_N} {L : ux_L} {o : ux_N} (h : fX9_renew c0 N = some o) : ux_Mv l G yX9_renew cX9_renew 1 0 0 [.ref (gad G c0)] N L o L :=
  ux_ofv shC hok (by decide +kernel) (Nat.le_of_ble_eq_true rfl) (fun X hG hl C hq => by subst hG; subst hl; exact wX9_renew C p0 hq h)
def fX9_remove (c0 : Nat) (N : ux_N) : Option (ux_N) :=
  some (ux_u (ux_u N c0 0 (0 : Int32)) c0 1 (0 : Int32))
set_option maxHeartbeats 4000000 in
set_option maxRecDepth 20000 in
theorem wX9_remove {X : ux_X} (C : ux_C X cX9_remove RX9 1 none 0 0 shC) {c0 : Nat} (p0 : is_X9 c0) {N : ux_N} {L : ux_L} {o : ux_N} (hq : ux_Qv X o L) (h : fX9_remove c0 N = some o) : ux_Wt X 1 0 [(0, .ref (ux_ad X c0))] [] N L := by
  refine wt_aload_n 1 0 C dX9_remove_0 rfl rfl ?_
  refine wt_iconst 2 0 C dX9_remove_1 rfl (by decide) ?_
  refine wt_putI 5 C kpX9_18 (p0).1 rfl (ux_b_n (by decide)).1 (ux_b_n (by decide)).2 dX9_remove_2 rfl ?_
  refine wt_aload_n 6 0 C dX9_remove_5 rfl rfl ?_
  refine wt_iconst 7 0 C dX9_remove_6 rfl (by decide) ?_
  refine wt_putI 10 C kpX9_22 (p0).1 rfl rfl rfl dX9_remove_7 rfl ?_
  cases h
  exact wt_vret C hq dX9_remove_10
theorem mX9_remove {l : Launch} {G : ux_G} (hok : ux_ok G shC) {c0 : Nat} (p0 : is_X9 c0) {N : ux_N} {L : ux_L} {o : ux_N} (h : fX9_remove c0 N = some o) : ux_Mv l G yX9_remove cX9_remove 1 0 0 [.ref (gad G c0)] N L o L :=
  ux_ofv shC hok (by decide +kernel) (Nat.le_of_ble_eq_true rfl) (fun X hG hl C hq => by subst hG; subst hl; exact wX9_remove C p0 hq h)
def fX9_isMissing_12 (c0 : Nat) (s0 : Int32) (N : ux_N) : Option (Int32) :=
  if ux_b s0 then (some s0) else none
set_option maxHeartbeats 4000000 in
set_option maxRecDepth 20000 in
theorem wX9_isMissing_12 {X : ux_X} (C : ux_C X cX9_isMissing RX9 1 (some .boolean) 0 0 shC) {c0 : Nat} {s0 : Int32} (p0 : is_X9 c0) {N : ux_N} {L : ux_L} {o : Int32} (hq : ux_Qi X o N L) (h : fX9_isMissing_12 c0 s0 N = some o) : ux_Wt X 1 12 [] [.int s0] N L := by
  obtain ⟨hb1, h⟩ := ux_guard h
  cases h
  exact wt_zret C (ux_b_n hb1).1 hq dX9_isMissing_12
def fX9_isMissing (c0 : Nat) (N : ux_N) : Option (Int32) :=
  if (N c0 0) = 0 then (fX9_isMissing_12 c0 (1 : Int32) N) else (fX9_isMissing_12 c0 (0 : Int32) N)
set_option maxHeartbeats 4000000 in
set_option maxRecDepth 20000 in
theorem wX9_isMissing {X : ux_X} (C : ux_C X cX9_isMissing RX9 1 (some .boolean) 0 0 shC) {c0 : Nat} (p0 : is_X9 c0) {N : ux_N} {L : ux_L} {o : Int32} (hq : ux_Qi X o N L) (h : fX9_isMissing c0 N = some o) : ux_Wt X 1 0 [(0, .ref (ux_ad X c0))] [] N L := by
  refine wt_aload_n 1 0 C dX9_isMissing_0 rfl rfl ?_
  refine wt_getI 4 C kfX9_18 (p0).1 rfl dX9_isMissing_1 rfl ?_
  refine wt_if_ne 7 11 C dX9_isMissing_4 rfl (by decide) (fun q1 => ?_) (fun q1 => ?_)
  · have h := (if_neg q1).symm.trans h
    refine wt_iconst 12 0 C dX9_isMissing_11 rfl (by decide) ?_
    refine wt_sub [] rfl ?_
    exact wX9_isMissing_12 C p0 hq h
  · have h := (if_pos q1).symm.trans h
    refine wt_iconst 8 1 C dX9_isMissing_7 rfl (by decide) ?_
    refine wt_goto 12 C dX9_isMissing_8 (by decide) ?_
    refine wt_sub [] rfl ?_
    exact wX9_isMissing_12 C p0 hq h
theorem mX9_isMissing {l : Launch} {G : ux_G} (hok : ux_ok G shC) {c0 : Nat} (p0 : is_X9 c0) {N : ux_N} {L : ux_L} {o : Int32} (h : fX9_isMissing c0 N = some o) : ux_Mi l G yX9_isMissing cX9_isMissing 1 (some .boolean) 0 0 [.ref (gad G c0)] N L o N L :=
  ux_ofi shC hok (by decide +kernel) (Nat.le_of_ble_eq_true rfl) (fun X hG hl C hq => by subst hG; subst hl; exact wX9_isMissing C p0 hq h)
def fX9_things (c0 : Nat) (N : ux_N) : Option (Int32) :=
  some (N c0 1)
set_option maxHeartbeats 4000000 in
set_option maxRecDepth 20000 in
theorem wX9_things {X : ux_X} (C : ux_C X cX9_things RX9 1 (some .int) 0 0 shC) {c0 : Nat} (p0 : is_X9 c0) {N : ux_N} {L : ux_L} {o : Int32} (hq : ux_Qi X o N L) (h : fX9_things c0 N = some o) : ux_Wt X 1 0 [(0, .ref (ux_ad X c0))] [] N L := by
  refine wt_aload_n 1 0 C dX9_things_0 rfl rfl ?_
  refine wt_getI 4 C kfX9_22 (p0).1 rfl dX9_things_1 rfl ?_
  cases h
  exact wt_iret C hq dX9_things_4
theorem mX9_things {l : Launch} {G : ux_G} (hok : ux_ok G shC) {c0 : Nat} (p0 : is_X9 c0) {N : ux_N} {L : ux_L} {o : Int32} (h : fX9_things c0 N = some o) : ux_Mi l G yX9_things cX9_things 1 (some .int) 0 0 [.ref (gad G c0)] N L o N L :=
  ux_ofi shC hok (by decide +kernel) (Nat.le_of_ble_eq_true rfl) (fun X hG hl C hq => by subst hG; subst hl; exact wX9_things C p0 hq h)
def fX9_push_52 (c0 : Nat) (N : ux_N) : Option (Int32 × ux_N) :=
  some ((N c0 1), N)
set_option maxHeartbeats 4000000 in
set_option maxRecDepth 20000 in
theorem wX9_push_52 {X : ux_X} (C : ux_C X cX9_push RX9 3 (some .int) 0 0 shC) {c0 : Nat} (p0 : is_X9 c0) {N : ux_N} {L : ux_L} {o : Int32 × ux_N} (hq : ux_Qi X o.1 o.2 L) (h : fX9_push_52 c0 N = some o) : ux_Wt X 3 52 [(0, .ref (ux_ad X c0))] [] N L := by
  refine wt_aload_n 53 0 C dX9_push_52 rfl rfl ?_
  refine wt_getI 56 C kfX9_22 (p0).1 rfl dX9_push_53 rfl ?_
  cases h
  exact wt_iret C hq dX9_push_56
def fX9_push (c0 : Nat) (v1 : Int32) (v2 : Int32) (N : ux_N) : Option (Int32 × ux_N) :=
  if (N c0 0) = 0 then (some ((-11 : Int32), N)) else (if (N c0 1) < (8 : Int32) then (if ux_in (N c0 1) 8 then (if ux_in ((ux_u N (c0 + 1) ((N c0 1).toNatClampNeg) v1) c0 1) 8 then (fX9_push_52 c0 (ux_u (ux_u (ux_u N (c0 + 1) ((N c0 1).toNatClampNeg) v1) (c0 + 2) (((ux_u N (c0 + 1) ((N c0 1).toNatClampNeg) v1) c0 1).toNatClampNeg) v2) c0 1 (((ux_u (ux_u N (c0 + 1) ((N c0 1).toNatClampNeg) v1) (c0 + 2) (((ux_u N (c0 + 1) ((N c0 1).toNatClampNeg) v1) c0 1).toNatClampNeg) v2) c0 1) + (1 : Int32)))) else none) else none) else (some ((-14 : Int32), N)))
set_option maxHeartbeats 4000000 in
set_option maxRecDepth 20000 in
theorem wX9_push {X : ux_X} (C : ux_C X cX9_push RX9 3 (some .int) 0 0 shC) {c0 : Nat} {v1 : Int32} {v2 : Int32} (p0 : is_X9 c0) {N : ux_N} {L : ux_L} {o : Int32 × ux_N} (hq : ux_Qi X o.1 o.2 L) (h : fX9_push c0 v1 v2 N = some o) : ux_Wt X 3 0 [(0, .ref (ux_ad X c0)), (1, .int v1), (2, .int v2)] [] N L := by
  refine wt_aload_n 1 0 C dX9_push_0 rfl rfl ?_
  refine wt_getI 4 C kfX9_18 (p0).1 rfl dX9_push_1 rfl ?_
  refine wt_if_ne 7 10 C dX9_push_4 rfl (by decide) (fun q1 => ?_) (fun q1 => ?_)
  · have h := (if_neg q1).symm.trans h
    refine wt_aload_n 11 0 C dX9_push_10 rfl rfl ?_
    refine wt_getI 14 C kfX9_22 (p0).1 rfl dX9_push_11 rfl ?_
    refine wt_bipush 16 8 C dX9_push_14 rfl (by decide) ?_
    refine wt_icmp_lt 19 22 C dX9_push_16 rfl (by decide) (fun q2 => ?_) (fun q2 => ?_)
    · have h := (if_pos q2).symm.trans h
      refine wt_aload_n 23 0 C dX9_push_22 rfl rfl ?_
      refine wt_getR 26 C kfX9_9 (p0).1 rfl dX9_push_23 rfl ?_
      refine wt_aload_n 27 0 C dX9_push_26 rfl rfl ?_
      refine wt_getI 30 C kfX9_22 (p0).1 rfl dX9_push_27 rfl ?_
      refine wt_iload_n 31 1 C dX9_push_30 rfl rfl ?_
      obtain ⟨hi3, h⟩ := ux_guard h
      refine wt_iast 32 ((N c0 1).toNatClampNeg) C (p0).2.1 rfl hi3 dX9_push_31 rfl ?_
      refine wt_aload_n 33 0 C dX9_push_32 rfl rfl ?_
      refine wt_getR 36 C kfX9_15 (p0).1 rfl dX9_push_33 rfl ?_
      refine wt_aload_n 37 0 C dX9_push_36 rfl rfl ?_
      refine wt_getI 40 C kfX9_22 (p0).1 rfl dX9_push_37 rfl ?_
      refine wt_iload_n 41 2 C dX9_push_40 rfl rfl ?_
      obtain ⟨hi4, h⟩ := ux_guard h
      refine wt_iast 42 (((ux_u N (c0 + 1) ((N c0 1).toNatClampNeg) v1) c0 1).toNatClampNeg) C (p0).2.2 rfl hi4 dX9_push_41 rfl ?_
      refine wt_aload_n 43 0 C dX9_push_42 rfl rfl ?_
      refine wt_dup 44 C dX9_push_43 rfl rfl ?_
      refine wt_getI 47 C kfX9_22 (p0).1 rfl dX9_push_44 rfl ?_
      refine wt_iconst 48 1 C dX9_push_47 rfl (by decide) ?_
      refine wt_iadd 49 C dX9_push_48 rfl ?_
      refine wt_putI 52 C kpX9_22 (p0).1 rfl rfl rfl dX9_push_49 rfl ?_
      refine wt_sub [0] rfl ?_
      exact wX9_push_52 C p0 hq h
    · have h := (if_neg q2).symm.trans h
      refine wt_bipush 21 (-14) C dX9_push_19 rfl (by decide) ?_
      cases h
      exact wt_iret C hq dX9_push_21
  · have h := (if_pos q1).symm.trans h
    refine wt_bipush 9 (-11) C dX9_push_7 rfl (by decide) ?_
    cases h
    exact wt_iret C hq dX9_push_9
theorem mX9_push {l : Launch} {G : ux_G} (hok : ux_ok G shC) {c0 : Nat} {v1 : Int32} {v2 : Int32} (p0 : is_X9 c0) {N : ux_N} {L : ux_L} {o : Int32 × ux_N} (h : fX9_push c0 v1 v2 N = some o) : ux_Mi l G yX9_push cX9_push 3 (some .int) 0 0 [.ref (gad G c0), .int v1, .int v2] N L o.1 o.2 L :=
  ux_ofi shC hok (by decide +kernel) (Nat.le_of_ble_eq_true rfl) (fun X hG hl C hq => by subst hG; subst hl; exact wX9_push C p0 hq h)
def fX9_pop_77 (c0 : Nat) (s0 : Int32) (N : ux_N) : Option (Int32 × ux_N) :=
  some (s0, N)
set_option maxHeartbeats 4000000 in
set_option maxRecDepth 20000 in
theorem wX9_pop_77 {X : ux_X} (C : ux_C X cX9_pop RX9 2 (some .int) 0 0 shC) {c0 : Nat} {s0 : Int32} (p0 : is_X9 c0) {N : ux_N} {L : ux_L} {o : Int32 × ux_N} (hq : ux_Qi X o.1 o.2 L) (h : fX9_pop_77 c0 s0 N = some o) : ux_Wt X 2 77 [] [.int s0] N L := by
  cases h
  exact wt_iret C hq dX9_pop_77
def fX9_pop (c0 : Nat) (v1 : Int32) (N : ux_N) : Option (Int32 × ux_N) :=
  if (N c0 0) = 0 then (some ((-11 : Int32), N)) else (if 0 < (N c0 1) then (if ux_in ((N c0 1) - (1 : Int32)) 8 then (if (N (c0 + 1) (((N c0 1) - (1 : Int32)).toNatClampNeg)) = v1 then (if v1 = (1 : Int32) then (if ux_in ((ux_u N c0 1 ((N c0 1) - (1 : Int32))) c0 1) 8 then (fX9_pop_77 c0 (((ux_u N c0 1 ((N c0 1) - (1 : Int32))) (c0 + 2) (((ux_u N c0 1 ((N c0 1) - (1 : Int32))) c0 1).toNatClampNeg)) + (50000 : Int32)) (ux_u N c0 1 ((N c0 1) - (1 : Int32)))) else none) else (if ux_in ((ux_u N c0 1 ((N c0 1) - (1 : Int32))) c0 1) 8 then (fX9_pop_77 c0 ((ux_u N c0 1 ((N c0 1) - (1 : Int32))) (c0 + 2) (((ux_u N c0 1 ((N c0 1) - (1 : Int32))) c0 1).toNatClampNeg)) (ux_u N c0 1 ((N c0 1) - (1 : Int32)))) else none)) else (some ((-13 : Int32), N))) else none) else (some ((-12 : Int32), N)))
set_option maxHeartbeats 4000000 in
set_option maxRecDepth 20000 in
theorem wX9_pop {X : ux_X} (C : ux_C X cX9_pop RX9 2 (some .int) 0 0 shC) {c0 : Nat} {v1 : Int32} (p0 : is_X9 c0) {N : ux_N} {L : ux_L} {o : Int32 × ux_N} (hq : ux_Qi X o.1 o.2 L) (h : fX9_pop c0 v1 N = some o) : ux_Wt X 2 0 [(0, .ref (ux_ad X c0)), (1, .int v1)] [] N L := by
  refine wt_aload_n 1 0 C dX9_pop_0 rfl rfl ?_
  refine wt_getI 4 C kfX9_18 (p0).1 rfl dX9_pop_1 rfl ?_
  refine wt_if_ne 7 10 C dX9_pop_4 rfl (by decide) (fun q1 => ?_) (fun q1 => ?_)
  · have h := (if_neg q1).symm.trans h
    refine wt_aload_n 11 0 C dX9_pop_10 rfl rfl ?_
    refine wt_getI 14 C kfX9_22 (p0).1 rfl dX9_pop_11 rfl ?_
    refine wt_if_gt 17 20 C dX9_pop_14 rfl (by decide) (fun q2 => ?_) (fun q2 => ?_)
    · have h := (if_pos q2).symm.trans h
      refine wt_aload_n 21 0 C dX9_pop_20 rfl rfl ?_
      refine wt_getR 24 C kfX9_9 (p0).1 rfl dX9_pop_21 rfl ?_
      refine wt_aload_n 25 0 C dX9_pop_24 rfl rfl ?_
      refine wt_getI 28 C kfX9_22 (p0).1 rfl dX9_pop_25 rfl ?_
      refine wt_iconst 29 1 C dX9_pop_28 rfl (by decide) ?_
      refine wt_isub 30 C dX9_pop_29 rfl ?_
      obtain ⟨hi3, h⟩ := ux_guard h
      refine wt_iald 31 (((N c0 1) - (1 : Int32)).toNatClampNeg) C (p0).2.1 rfl hi3 dX9_pop_30 rfl ?_
      refine wt_iload_n 32 1 C dX9_pop_31 rfl rfl ?_
      refine wt_icmp_eq 35 38 C dX9_pop_32 rfl (by decide) (fun q4 => ?_) (fun q4 => ?_)
      · have h := (if_pos q4).symm.trans h
        refine wt_aload_n 39 0 C dX9_pop_38 rfl rfl ?_
        refine wt_dup 40 C dX9_pop_39 rfl rfl ?_
        refine wt_getI 43 C kfX9_22 (p0).1 rfl dX9_pop_40 rfl ?_
        refine wt_iconst 44 1 C dX9_pop_43 rfl (by decide) ?_
        refine wt_isub 45 C dX9_pop_44 rfl ?_
        refine wt_putI 48 C kpX9_22 (p0).1 rfl rfl rfl dX9_pop_45 rfl ?_
        refine wt_iload_n 49 1 C dX9_pop_48 rfl rfl ?_
        refine wt_iconst 50 1 C dX9_pop_49 rfl (by decide) ?_
        refine wt_icmp_ne 53 68 C dX9_pop_50 rfl (by decide) (fun q5 => ?_) (fun q5 => ?_)
        · have h := (if_neg q5).symm.trans h
          refine wt_aload_n 69 0 C dX9_pop_68 rfl rfl ?_
          refine wt_getR 72 C kfX9_15 (p0).1 rfl dX9_pop_69 rfl ?_
          refine wt_aload_n 73 0 C dX9_pop_72 rfl rfl ?_
          refine wt_getI 76 C kfX9_22 (p0).1 rfl dX9_pop_73 rfl ?_
          obtain ⟨hi6, h⟩ := ux_guard h
          refine wt_iald 77 (((ux_u N c0 1 ((N c0 1) - (1 : Int32))) c0 1).toNatClampNeg) C (p0).2.2 rfl hi6 dX9_pop_76 rfl ?_
          refine wt_sub [] rfl ?_
          exact wX9_pop_77 C p0 hq h
        · have h := (if_pos q5).symm.trans h
          refine wt_aload_n 54 0 C dX9_pop_53 rfl rfl ?_
          refine wt_getR 57 C kfX9_15 (p0).1 rfl dX9_pop_54 rfl ?_
          refine wt_aload_n 58 0 C dX9_pop_57 rfl rfl ?_
          refine wt_getI 61 C kfX9_22 (p0).1 rfl dX9_pop_58 rfl ?_
          obtain ⟨hi7, h⟩ := ux_guard h
          refine wt_iald 62 (((ux_u N c0 1 ((N c0 1) - (1 : Int32))) c0 1).toNatClampNeg) C (p0).2.2 rfl hi7 dX9_pop_61 rfl ?_
          refine wt_ldc 64 C tw_992 dX9_pop_62 rfl ?_
          refine wt_iadd 65 C dX9_pop_64 rfl ?_
          refine wt_goto 77 C dX9_pop_65 (by decide) ?_
          refine wt_sub [] rfl ?_
          exact wX9_pop_77 C p0 hq h
      · have h := (if_neg q4).symm.trans h
        refine wt_bipush 37 (-13) C dX9_pop_35 rfl (by decide) ?_
        cases h
        exact wt_iret C hq dX9_pop_37
    · have h := (if_neg q2).symm.trans h
      refine wt_bipush 19 (-12) C dX9_pop_17 rfl (by decide) ?_
      cases h
      exact wt_iret C hq dX9_pop_19
  · have h := (if_pos q1).symm.trans h
    refine wt_bipush 9 (-11) C dX9_pop_7 rfl (by decide) ?_
    cases h
    exact wt_iret C hq dX9_pop_9
theorem mX9_pop {l : Launch} {G : ux_G} (hok : ux_ok G shC) {c0 : Nat} {v1 : Int32} (p0 : is_X9 c0) {N : ux_N} {L : ux_L} {o : Int32 × ux_N} (h : fX9_pop c0 v1 N = some o) : ux_Mi l G yX9_pop cX9_pop 2 (some .int) 0 0 [.ref (gad G c0), .int v1] N L o.1 o.2 L :=
  ux_ofi shC hok (by decide +kernel) (Nat.le_of_ble_eq_true rfl) (fun X hG hl C hq => by subst hG; subst hl; exact wX9_pop C p0 hq h)
def fX9_together_21b_97 (c0 : Nat) (v1 : Int32) (v2 : Int32) (v3 : Int32) (v4 : Int32) (v5 : Int32) (N : ux_N) : Option ((Int32 × Int32 × Int32 × Int32) ⊕ (Int32 × Int32 × Int32)) :=
  some (.inl (v2, v3, v4, (v5 + 1)))
set_option maxHeartbeats 4000000 in
set_option maxRecDepth 20000 in
theorem wX9_together_21b_97 {X : ux_X} (C : ux_C X cX9_together RX9 6 (some .int) 0 0 shC) {c0 : Nat} {v1 : Int32} {v2 : Int32} {v3 : Int32} {v4 : Int32} {v5 : Int32} (p0 : is_X9 c0) {N : ux_N} {L : ux_L} {o : (Int32 × Int32 × Int32 × Int32) ⊕ (Int32 × Int32 × Int32)} (hin : ∀ s : Int32 × Int32 × Int32 × Int32, o = .inl s → ux_Wt X 6 21 [(0, .ref (ux_ad X c0)), (1, .int v1), (2, .int s.1), (3, .int s.2.1), (4, .int s.2.2.1), (5, .int s.2.2.2)] [] N L) (hex0 : ∀ e : Int32 × Int32 × Int32, o = .inr (e) → ux_Wt X 6 103 [(1, .int v1), (2, .int e.1), (3, .int e.2.1), (4, .int e.2.2)] [] N L) (h : fX9_together_21b_97 c0 v1 v2 v3 v4 v5 N = some o) : ux_Wt X 6 97 [(0, .ref (ux_ad X c0)), (1, .int v1), (2, .int v2), (3, .int v3), (4, .int v4), (5, .int v5)] [] N L := by
  refine wt_iinc 100 5 [(5, .int (v5 + 1)), (0, .ref (ux_ad X c0)), (1, .int v1), (2, .int v2), (3, .int v3), (4, .int v4)] (v5 + 1) C dX9_together_97 rfl rfl (by rfl) (by decide) rfl ?_
  refine wt_goto 21 C dX9_together_100 (by decide) ?_
  refine wt_sub [1, 2, 3, 4, 5, 0] rfl ?_
  exact hin _ (Option.some.inj h).symm
def fX9_together_21b (c0 : Nat) (v1 : Int32) (v2 : Int32) (v3 : Int32) (v4 : Int32) (v5 : Int32) (N : ux_N) : Option ((Int32 × Int32 × Int32 × Int32) ⊕ (Int32 × Int32 × Int32)) :=
  if (N c0 1) ≤ v5 then (some (.inr ((v2, v3, v4)))) else (if ux_in v5 8 then (if (N (c0 + 1) (v5.toNatClampNeg)) = (0 : Int32) then (fX9_together_21b_97 c0 v1 (v2 + 1) v3 v4 v5 N) else (if (N (c0 + 1) (v5.toNatClampNeg)) = (1 : Int32) then (if ux_in v5 8 then (fX9_together_21b_97 c0 v1 v2 (v3 + (N (c0 + 2) (v5.toNatClampNeg))) v4 v5 N) else none) else (if ux_in v5 8 then (fX9_together_21b_97 c0 v1 v2 v3 (v4 ||| ((1 : Int32) <<< ((N (c0 + 2) (v5.toNatClampNeg)) &&& 31))) v5 N) else none))) else none)
set_option maxHeartbeats 4000000 in
set_option maxRecDepth 20000 in
theorem wX9_together_21b {X : ux_X} (C : ux_C X cX9_together RX9 6 (some .int) 0 0 shC) {c0 : Nat} {v1 : Int32} {v2 : Int32} {v3 : Int32} {v4 : Int32} {v5 : Int32} (p0 : is_X9 c0) {N : ux_N} {L : ux_L} {o : (Int32 × Int32 × Int32 × Int32) ⊕ (Int32 × Int32 × Int32)} (hin : ∀ s : Int32 × Int32 × Int32 × Int32, o = .inl s → ux_Wt X 6 21 [(0, .ref (ux_ad X c0)), (1, .int v1), (2, .int s.1), (3, .int s.2.1), (4, .int s.2.2.1), (5, .int s.2.2.2)] [] N L) (hex0 : ∀ e : Int32 × Int32 × Int32, o = .inr (e) → ux_Wt X 6 103 [(1, .int v1), (2, .int e.1), (3, .int e.2.1), (4, .int e.2.2)] [] N L) (h : fX9_together_21b c0 v1 v2 v3 v4 v5 N = some o) : ux_Wt X 6 21 [(0, .ref (ux_ad X c0)), (1, .int v1), (2, .int v2), (3, .int v3), (4, .int v4), (5, .int v5)] [] N L := by
  refine wt_iload 23 5 C dX9_together_21 rfl rfl ?_
  refine wt_aload_n 24 0 C dX9_together_23 rfl rfl ?_
  refine wt_getI 27 C kfX9_22 (p0).1 rfl dX9_together_24 rfl ?_
  refine wt_icmp_ge 30 103 C dX9_together_27 rfl (by decide) (fun q1 => ?_) (fun q1 => ?_)
  · have h := (if_pos q1).symm.trans h
    refine wt_sub [1, 2, 3, 4] rfl ?_
    exact hex0 _ (Option.some.inj h).symm
  · have h := (if_neg q1).symm.trans h
    refine wt_aload_n 31 0 C dX9_together_30 rfl rfl ?_
    refine wt_getR 34 C kfX9_9 (p0).1 rfl dX9_together_31 rfl ?_
    refine wt_iload 36 5 C dX9_together_34 rfl rfl ?_
    obtain ⟨hi2, h⟩ := ux_guard h
    refine wt_iald 37 (v5.toNatClampNeg) C (p0).2.1 rfl hi2 dX9_together_36 rfl ?_
    by_cases q3 : (N (c0 + 1) (v5.toNatClampNeg)) = (0 : Int32)
    · have h := (if_pos q3).symm.trans h
      refine wt_lsw 64 (off := 27) C dX9_together_37 (by decide) (by rw [q3] <;> rfl) (by decide) ?_
      refine wt_iinc 67 2 [(2, .int (v2 + 1)), (0, .ref (ux_ad X c0)), (1, .int v1), (3, .int v3), (4, .int v4), (5, .int v5)] (v2 + 1) C dX9_together_64 rfl rfl (by rfl) (by decide) rfl ?_
      refine wt_goto 97 C dX9_together_67 (by decide) ?_
      refine wt_sub [1, 2, 0, 3, 4, 5] rfl ?_
      exact wX9_together_21b_97 C p0 hin hex0 h
    have h := (if_neg q3).symm.trans h
    by_cases q4 : (N (c0 + 1) (v5.toNatClampNeg)) = (1 : Int32)
    · have h := (if_pos q4).symm.trans h
      refine wt_lsw 70 (off := 33) C dX9_together_37 (by decide) (by rw [q4] <;> rfl) (by decide) ?_
      refine wt_iload_n 71 3 C dX9_together_70 rfl rfl ?_
      refine wt_aload_n 72 0 C dX9_together_71 rfl rfl ?_
      refine wt_getR 75 C kfX9_15 (p0).1 rfl dX9_together_72 rfl ?_
      refine wt_iload 77 5 C dX9_together_75 rfl rfl ?_
      obtain ⟨hi5, h⟩ := ux_guard h
      refine wt_iald 78 (v5.toNatClampNeg) C (p0).2.2 rfl hi5 dX9_together_77 rfl ?_
      refine wt_iadd 79 C dX9_together_78 rfl ?_
      refine wt_istore_n 80 [(3, .int (v3 + (N (c0 + 2) (v5.toNatClampNeg)))), (0, .ref (ux_ad X c0)), (1, .int v1), (2, .int v2), (4, .int v4), (5, .int v5)] C dX9_together_79 rfl (by decide) rfl ?_
      refine wt_goto 97 C dX9_together_80 (by decide) ?_
      refine wt_sub [1, 2, 3, 0, 4, 5] rfl ?_
      exact wX9_together_21b_97 C p0 hin hex0 h
    have h := (if_neg q4).symm.trans h
    refine wt_lsw 83 (off := 46) C dX9_together_37 (by decide) (by rw [lv_osw q3 (by decide), lv_osw q4 (by decide)] <;> rfl) (by decide) ?_
    refine wt_iload 85 4 C dX9_together_83 rfl rfl ?_
    refine wt_iconst 86 1 C dX9_together_85 rfl (by decide) ?_
    refine wt_aload_n 87 0 C dX9_together_86 rfl rfl ?_
    refine wt_getR 90 C kfX9_15 (p0).1 rfl dX9_together_87 rfl ?_
    refine wt_iload 92 5 C dX9_together_90 rfl rfl ?_
    obtain ⟨hi6, h⟩ := ux_guard h
    refine wt_iald 93 (v5.toNatClampNeg) C (p0).2.2 rfl hi6 dX9_together_92 rfl ?_
    refine wt_ishl 94 C dX9_together_93 rfl ?_
    refine wt_ior 95 C dX9_together_94 rfl ?_
    refine wt_istore 97 [(4, .int (v4 ||| ((1 : Int32) <<< ((N (c0 + 2) (v5.toNatClampNeg)) &&& 31)))), (0, .ref (ux_ad X c0)), (1, .int v1), (2, .int v2), (3, .int v3), (5, .int v5)] C dX9_together_95 rfl (by decide) rfl ?_
    refine wt_sub [1, 2, 3, 4, 0, 5] rfl ?_
    exact wX9_together_21b_97 C p0 hin hex0 h
def fX9_together_120 (c0 : Nat) (s0 : Int32) (N : ux_N) : Option (Int32) :=
  some s0
set_option maxHeartbeats 4000000 in
set_option maxRecDepth 20000 in
theorem wX9_together_120 {X : ux_X} (C : ux_C X cX9_together RX9 6 (some .int) 0 0 shC) {c0 : Nat} {s0 : Int32} (p0 : is_X9 c0) {N : ux_N} {L : ux_L} {o : Int32} (hq : ux_Qi X o N L) (h : fX9_together_120 c0 s0 N = some o) : ux_Wt X 6 120 [] [.int s0] N L := by
  cases h
  exact wt_iret C hq dX9_together_120
def fX9_together (c0 : Nat) (v1 : Int32) (N : ux_N) : Option (Int32) :=
  if (N c0 0) = 0 then (some (-11 : Int32)) else ((ux_lp (fun s : Int32 × Int32 × Int32 × Int32 => fX9_together_21b c0 v1 s.1 s.2.1 s.2.2.1 s.2.2.2 N) ux_fu ((0 : Int32), (500000 : Int32), (0 : Int32), (0 : Int32))).bind (fun e9 => if v1 = 0 then (some e9.1) else (if v1 = (1 : Int32) then (fX9_together_120 c0 e9.2.1 N) else (fX9_together_120 c0 e9.2.2 N))))
set_option maxHeartbeats 4000000 in
set_option maxRecDepth 20000 in
theorem wX9_together {X : ux_X} (C : ux_C X cX9_together RX9 6 (some .int) 0 0 shC) {c0 : Nat} {v1 : Int32} (p0 : is_X9 c0) {N : ux_N} {L : ux_L} {o : Int32} (hq : ux_Qi X o N L) (h : fX9_together c0 v1 N = some o) : ux_Wt X 6 0 [(0, .ref (ux_ad X c0)), (1, .int v1)] [] N L := by
  refine wt_aload_n 1 0 C dX9_together_0 rfl rfl ?_
  refine wt_getI 4 C kfX9_18 (p0).1 rfl dX9_together_1 rfl ?_
  refine wt_if_ne 7 10 C dX9_together_4 rfl (by decide) (fun q1 => ?_) (fun q1 => ?_)
  · have h := (if_neg q1).symm.trans h
    refine wt_iconst 11 0 C dX9_together_10 rfl (by decide) ?_
    refine wt_istore_n 12 [(2, .int (0 : Int32)), (0, .ref (ux_ad X c0)), (1, .int v1)] C dX9_together_11 rfl (by decide) rfl ?_
    refine wt_ldc 14 C tw_1001 dX9_together_12 rfl ?_
    refine wt_istore_n 15 [(3, .int (500000 : Int32)), (2, .int (0 : Int32)), (0, .ref (ux_ad X c0)), (1, .int v1)] C dX9_together_14 rfl (by decide) rfl ?_
    refine wt_iconst 16 0 C dX9_together_15 rfl (by decide) ?_
    refine wt_istore 18 [(4, .int (0 : Int32)), (3, .int (500000 : Int32)), (2, .int (0 : Int32)), (0, .ref (ux_ad X c0)), (1, .int v1)] C dX9_together_16 rfl (by decide) rfl ?_
    refine wt_iconst 19 0 C dX9_together_18 rfl (by decide) ?_
    refine wt_istore 21 [(5, .int (0 : Int32)), (4, .int (0 : Int32)), (3, .int (500000 : Int32)), (2, .int (0 : Int32)), (0, .ref (ux_ad X c0)), (1, .int v1)] C dX9_together_19 rfl (by decide) rfl ?_
    obtain ⟨e2, hl3, h⟩ := Option.bind_eq_some_iff.mp h
    refine wt_sub [4, 5, 3, 2, 1, 0] rfl ?_
    refine ux_loop (fun s : Int32 × Int32 × Int32 × Int32 => fX9_together_21b c0 v1 s.1 s.2.1 s.2.2.1 s.2.2.2 N) (fun s : Int32 × Int32 × Int32 × Int32 => ux_Wt X 6 21 [(0, .ref (ux_ad X c0)), (1, .int v1), (2, .int s.1), (3, .int s.2.1), (4, .int s.2.2.1), (5, .int s.2.2.2)] [] N L) (e := e2) ?_ hl3
    intro s4 o5 hb6 hi7 hx8
    refine wX9_together_21b C p0 hi7 (fun x0 he => ?_) hb6
    · obtain ⟨e9, rfl⟩ : ∃ z, z = x0 := ⟨_, rfl⟩
      have h9 := hx8 _ he
      subst h9
      refine wt_iload_n 104 0 C dX9_together_103 rfl rfl ?_
      refine wt_if_ne 107 109 C dX9_together_104 rfl (by decide) (fun q10 => ?_) (fun q10 => ?_)
      · have h := (if_neg q10).symm.trans h
        refine wt_iload_n 110 0 C dX9_together_109 rfl rfl ?_
        refine wt_iconst 111 1 C dX9_together_110 rfl (by decide) ?_
        refine wt_icmp_ne 114 118 C dX9_together_111 rfl (by decide) (fun q11 => ?_) (fun q11 => ?_)
        · have h := (if_neg q11).symm.trans h
          refine wt_iload 120 3 C dX9_together_118 rfl rfl ?_
          refine wt_sub [] rfl ?_
          exact wX9_together_120 C p0 hq h
        · have h := (if_pos q11).symm.trans h
          refine wt_iload_n 115 2 C dX9_together_114 rfl rfl ?_
          refine wt_goto 120 C dX9_together_115 (by decide) ?_
          refine wt_sub [] rfl ?_
          exact wX9_together_120 C p0 hq h
      · have h := (if_pos q10).symm.trans h
        refine wt_iload_n 108 1 C dX9_together_107 rfl rfl ?_
        cases h
        exact wt_iret C hq dX9_together_108
  · have h := (if_pos q1).symm.trans h
    refine wt_bipush 9 (-11) C dX9_together_7 rfl (by decide) ?_
    cases h
    exact wt_iret C hq dX9_together_9
theorem mX9_together {l : Launch} {G : ux_G} (hok : ux_ok G shC) {c0 : Nat} {v1 : Int32} (p0 : is_X9 c0) {N : ux_N} {L : ux_L} {o : Int32} (h : fX9_together c0 v1 N = some o) : ux_Mi l G yX9_together cX9_together 6 (some .int) 0 0 [.ref (gad G c0), .int v1] N L o N L :=
  ux_ofi shC hok (by decide +kernel) (Nat.le_of_ble_eq_true rfl) (fun X hG hl C hq => by subst hG; subst hl; exact wX9_together C p0 hq h)
