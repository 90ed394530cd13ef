/-! the String constants: length() and charAt(k), the JDK's own code over them -/
def ux_ch (k j : Nat) : Int32 := (tb_byt.getD k []).getD j 0 &&& 255
abbrev ux_sk (X : ux_X) (k : Nat) : Nat := (xG X).2.2.2.2 (2 + k)
abbrev ux_sv (X : ux_X) (k : Nat) : Nat := (xG X).2.2.2.2 (10 + k)
section UXS
variable {X : ux_X} {cc : ByteArray} {own : String} {nL : Nat} {ret : Option FieldType} {fr lo : Nat} {sh : List ux_Sh} {pc : Nat} {lv : List (Nat × Value)} {st : List Value} {N : ux_N} {L : ux_L}
theorem wt_ldcS (q : Nat) {i k : Nat} {tx : String} (C : ux_C X cc "MeterDesk$Reader" nL ret fr lo sh) (hm : (i, tx, k) ∈ tb_str) (hd : decode cc pc = .ok (.ldc i, 2)) (hq : pc + 2 = q) (kk : ux_Wt X nL q lv (.ref (ux_sk X k) :: st) N L) : ux_Wt X nL pc lv st N L := by
  subst hq
  exact fun H locs ls hP hS hv => va_ldcS (cx_x C) (cx_b C) (cx_o C) ((cx_Z C).2.2.2.2.1 _ hm) hd (kk H locs ls hP hS hv)
theorem wt_getsC (q : Nat) {i : Nat} (C : ux_C X cc own nL ret fr lo sh) (hl : Cond.fieldLink own i "java/lang/String" "COMPACT_STRINGS" "Z" ∈ lw_gt) (hd : decode cc pc = .ok (.getstatic i, 3)) (hq : pc + 3 = q) (kk : ux_Wt X nL q lv (.int 1 :: st) N L) : ux_Wt X nL pc lv st N L := by
  subst hq
  exact fun H locs ls hP hS hv => va_gets (cx_x C) (cx_b C) (cx_Z C).2.2.1.1 hS (cx_o C) (cx_t C _ hl) (fun _ h9 => h9) hd (kk H locs ls hP hS hv)
theorem wt_getsF (q : Nat) {i : Nat} (C : ux_C X cc own nL ret fr lo sh) (hl : Cond.fieldLink own i "jdk/internal/util/Preconditions" "SIOOBE_FORMATTER" "Ljava/util/function/BiFunction;" ∈ lw_gt) (hd : decode cc pc = .ok (.getstatic i, 3)) (hq : pc + 3 = q) (kk : ∀ v : Value, v = .null ∨ (∃ a, v = .ref a) → ux_Wt X nL q lv (v :: st) N L) : ux_Wt X nL pc lv st N L := by
  subst hq
  intro H locs ls hP hS hv
  rcases (cx_Z C).2.2.1.2 with z | ⟨t, z⟩
  · exact va_gets (cx_x C) (cx_b C) z hS (cx_o C) (cx_t C _ hl) (fun _ h9 => h9) hd (kk _ (Or.inl rfl) H locs ls hP hS hv)
  · exact va_gets (cx_x C) (cx_b C) z hS (cx_o C) (cx_t C _ hl) (fun _ h9 => h9) hd (kk _ (Or.inr ⟨t, rfl⟩) H locs ls hP hS hv)
theorem wt_sgetC (q : Nat) {i k : Nat} (C : ux_C X cc own nL ret fr lo sh) (hk : k < 8) (hl : Cond.fieldLink own i "java/lang/String" "coder" "B" ∈ lw_gt) (hd : decode cc pc = .ok (.getfield i, 3)) (hq : pc + 3 = q) (kk : ux_Wt X nL q lv (.int 0 :: st) N L) : ux_Wt X nL pc lv (.ref (ux_sk X k) :: st) N L := by
  subst hq
  exact fun H locs ls hP hS hv => vk_getf (cx_x C) (cx_b C) ((cx_Z C).2.2.2.1.1 k hk).2.1 hS (cx_o C) (cx_t C _ hl) (fun _ h9 => h9) hd (kk H locs ls hP hS hv)
theorem wt_sgetV (q : Nat) {i k : Nat} (C : ux_C X cc own nL ret fr lo sh) (hk : k < 8) (hl : Cond.fieldLink own i "java/lang/String" "value" "[B" ∈ lw_gt) (hd : decode cc pc = .ok (.getfield i, 3)) (hq : pc + 3 = q) (kk : ux_Wt X nL q lv (.ref (ux_sv X k) :: st) N L) : ux_Wt X nL pc lv (.ref (ux_sk X k) :: st) N L := by
  subst hq
  exact fun H locs ls hP hS hv => vk_getf (cx_x C) (cx_b C) ((cx_Z C).2.2.2.1.1 k hk).2.2.1 hS (cx_o C) (cx_t C _ hl) (fun _ h9 => h9) hd (kk H locs ls hP hS hv)
theorem wt_slenB (q : Nat) {k : Nat} (C : ux_C X cc own nL ret fr lo sh) (hk : k < 8) (hd : decode cc pc = .ok (.arraylength, 1)) (hq : pc + 1 = q) (kk : ux_Wt X nL q lv (.int (Int32.ofNat (tb_len.getD k 0)) :: st) N L) : ux_Wt X nL pc lv (.ref (ux_sv X k) :: st) N L := by
  subst hq
  exact fun H locs ls hP hS hv => va_tlen (cx_x C) (cx_b C) ((cx_Z C).2.2.2.1.1 k hk).2.2.2 hS rfl hd (kk H locs ls hP hS hv)
theorem wt_sbald (q : Nat) {k : Nat} {i : Int32} (C : ux_C X cc own nL ret fr lo sh) (hk : k < 8) (hi : ux_in i (tb_len.getD k 0) = true) (hd : decode cc pc = .ok (.baload, 1)) (hq : pc + 1 = q) (kk : ux_Wt X nL q lv (.int ((tb_byt.getD k []).getD i.toNatClampNeg 0) :: st) N L) : ux_Wt X nL pc lv (.int i :: .ref (ux_sv X k) :: st) N L := by
  subst hq
  exact fun H locs ls hP hS hv => va_tb (cx_x C) (cx_b C) ((cx_Z C).2.2.2.1.1 k hk).2.2.2 hS (ux_in_p hi) rfl hd (kk H locs ls hP hS hv)
/-- a call of a method of a String constant -/
theorem wt_callKi (q : Nat) {idx n k maxL fr' lo' : Nat} (rest As : List Value) {y : MethodName} {cb : ByteArray} {rt : Option FieldType} {r : Int32} (C : ux_C X cc own nL ret fr lo sh) (hk : k < 8) (m1 : Cond.methodLink own idx y ∈ lw_gt) (m2 : Cond.instanceMethod y ∈ lw_gt) (m3 : Cond.selects y.cls y y ∈ lw_gt) (m4 : Cond.initialized y.cls ∈ lw_gt) (m5 : Cond.code y cb maxL rt ∈ lw_gt) (m6 : y.cls ≠ "java/lang/invoke/MethodHandle" ∧ y.cls ≠ "java/lang/invoke/VarHandle" ∧ (parseMethodDescriptor y.desc).map (fun d => d.parameters.length) = some n) (m7 : y.cls = "java/lang/String")
    (hM : ux_Mi (xl X) (xG X) y cb maxL rt fr' lo' (.ref (ux_sk X k) :: As) N L r N L) (hn : As.length = n) (hst : st = As.reverse ++ .ref (ux_sk X k) :: rest) (hR : fr' + 1 ≤ fr ∧ 8 + (maxL + 11) + lo' ≤ lo) (hr : (rest.map fun v => v.category).sum ≤ 8) (hd : decode cc pc = .ok (.invokevirtual idx, 3)) (hq : pc + 3 = q) (kk : ux_Wt X nL q lv (.int r :: rest) N L) : ux_Wt X nL pc lv st N L := by
  subst hq
  refine fun H locs ls hP hS hv => va_calli (va_runV (As := As) (rest := rest) (C := y.cls) ⟨cx_x C, cx_b C, cx_m C, cx_o C, cx_t C⟩ hM ⟨wt_cb C m1 m4 m5 m6 hR, cx_t C _ m2, cx_t C _ m3⟩ ⟨ux_Pre.blind, by rw [m7]; exact vk_recv (cx_Z C).2.2.2.1 hk hS, fun U hU hW => wt_pre C hP hS U hU hW⟩ rfl hn hv.1 hst (lv_room hr) hd ⟨Nat.zero_le _, Nat.zero_le _⟩) hS (fun _ _ z => z) (fun _ z => z) (fun r' u t H1 locs1 ht hvm hw hB hz1 hk1 hS1 => ?_)
  cases hw
  exact kk H1 locs1 ls (by rw [← ht]; exact hB) hS1 hv
theorem wt_callSv (q : Nat) {idx n maxL fr' lo' : Nat} (rest : List Value) {As : List Value} {y : MethodName} {cb : ByteArray} {N' : ux_N} {L' : ux_L} (C : ux_C X cc own nL ret fr lo sh) (kl : ux_LS own idx y cb maxL none n) (hM : ux_Mv (xl X) (xG X) y cb maxL fr' lo' As N L N' L') (hn : As.length = n) (hst : st = As.reverse ++ rest) (hR : fr' + 1 ≤ fr ∧ 8 + (maxL + 11) + lo' ≤ lo) (hr : (rest.map fun v => v.category).sum ≤ 8) (hd : decode cc pc = .ok (.invokestatic idx, 3)) (hq : pc + 3 = q) (kk : ux_Wt X nL q lv rest N' L') : ux_Wt X nL pc lv st N L := by
  subst hq
  obtain ⟨m1, m2, m4, m5, m6⟩ := kl
  refine fun H locs ls hP hS hv => va_callv (va_runS (As := As) (rest := rest) ⟨cx_x C, cx_b C, cx_m C, cx_o C, cx_t C⟩ hM ⟨wt_cb C m1 m4 m5 m6 hR, cx_t C _ m2⟩ ⟨ux_Pre.blind, fun U hU hW => wt_pre C hP hS U hU hW⟩ rfl hn hv.1 hst (lv_room hr) hd ⟨Nat.zero_le _, Nat.zero_le _⟩) hS (fun _ _ z => z) (fun _ z => z) (fun u t H1 locs1 ht hvm hw hB hz1 hk1 hS1 => ?_)
  exact kk H1 locs1 ls (by rw [← ht]; exact hB) hS1 hv
end UXS
theorem dJ0_coder_7d493_0 : decode cJ0_coder_7d493 0 = .ok (.getstatic 38, 3) := by decide +kernel
theorem dJ0_coder_7d493_3 : decode cJ0_coder_7d493 3 = .ok (.ifCond .eq 10, 3) := by decide +kernel
theorem dJ0_coder_7d493_6 : decode cJ0_coder_7d493 6 = .ok (.aload_n 0, 1) := by decide +kernel
theorem dJ0_coder_7d493_7 : decode cJ0_coder_7d493 7 = .ok (.getfield 15, 3) := by decide +kernel
theorem dJ0_coder_7d493_10 : decode cJ0_coder_7d493 10 = .ok (.goto 4, 3) := by decide +kernel
theorem dJ0_coder_7d493_13 : decode cJ0_coder_7d493 13 = .ok (.iconst 1, 1) := by decide +kernel
theorem dJ0_coder_7d493_14 : decode cJ0_coder_7d493 14 = .ok (.ireturn, 1) := by decide +kernel
theorem dJ0_length_8abf5_0 : decode cJ0_length_8abf5 0 = .ok (.aload_n 0, 1) := by decide +kernel
theorem dJ0_length_8abf5_1 : decode cJ0_length_8abf5 1 = .ok (.getfield 9, 3) := by decide +kernel
theorem dJ0_length_8abf5_4 : decode cJ0_length_8abf5 4 = .ok (.arraylength, 1) := by decide +kernel
theorem dJ0_length_8abf5_5 : decode cJ0_length_8abf5 5 = .ok (.aload_n 0, 1) := by decide +kernel
theorem dJ0_length_8abf5_6 : decode cJ0_length_8abf5 6 = .ok (.invokevirtual 335, 3) := by decide +kernel
theorem dJ0_length_8abf5_9 : decode cJ0_length_8abf5 9 = .ok (.ishr, 1) := by decide +kernel
theorem dJ0_length_8abf5_10 : decode cJ0_length_8abf5 10 = .ok (.ireturn, 1) := by decide +kernel
theorem dJ0_isLatin1_aae02_0 : decode cJ0_isLatin1_aae02 0 = .ok (.getstatic 38, 3) := by decide +kernel
theorem dJ0_isLatin1_aae02_3 : decode cJ0_isLatin1_aae02 3 = .ok (.ifCond .eq 14, 3) := by decide +kernel
theorem dJ0_isLatin1_aae02_6 : decode cJ0_isLatin1_aae02 6 = .ok (.aload_n 0, 1) := by decide +kernel
theorem dJ0_isLatin1_aae02_7 : decode cJ0_isLatin1_aae02 7 = .ok (.getfield 15, 3) := by decide +kernel
theorem dJ0_isLatin1_aae02_10 : decode cJ0_isLatin1_aae02 10 = .ok (.ifCond .ne 7, 3) := by decide +kernel
theorem dJ0_isLatin1_aae02_13 : decode cJ0_isLatin1_aae02 13 = .ok (.iconst 1, 1) := by decide +kernel
theorem dJ0_isLatin1_aae02_14 : decode cJ0_isLatin1_aae02 14 = .ok (.goto 4, 3) := by decide +kernel
theorem dJ0_isLatin1_aae02_17 : decode cJ0_isLatin1_aae02 17 = .ok (.iconst 0, 1) := by decide +kernel
theorem dJ0_isLatin1_aae02_18 : decode cJ0_isLatin1_aae02 18 = .ok (.ireturn, 1) := by decide +kernel
theorem dJ0_charAt_5068e_0 : decode cJ0_charAt_5068e 0 = .ok (.aload_n 0, 1) := by decide +kernel
theorem dJ0_charAt_5068e_1 : decode cJ0_charAt_5068e 1 = .ok (.invokevirtual 492, 3) := by decide +kernel
theorem dJ0_charAt_5068e_4 : decode cJ0_charAt_5068e 4 = .ok (.ifCond .eq 12, 3) := by decide +kernel
theorem dJ0_charAt_5068e_7 : decode cJ0_charAt_5068e 7 = .ok (.aload_n 0, 1) := by decide +kernel
theorem dJ0_charAt_5068e_8 : decode cJ0_charAt_5068e 8 = .ok (.getfield 9, 3) := by decide +kernel
theorem dJ0_charAt_5068e_11 : decode cJ0_charAt_5068e 11 = .ok (.iload_n 1, 1) := by decide +kernel
theorem dJ0_charAt_5068e_12 : decode cJ0_charAt_5068e 12 = .ok (.invokestatic 495, 3) := by decide +kernel
theorem dJ0_charAt_5068e_15 : decode cJ0_charAt_5068e 15 = .ok (.ireturn, 1) := by decide +kernel
theorem dJ0_charAt_5068e_16 : decode cJ0_charAt_5068e 16 = .ok (.aload_n 0, 1) := by decide +kernel
theorem dJ0_charAt_5068e_17 : decode cJ0_charAt_5068e 17 = .ok (.getfield 9, 3) := by decide +kernel
theorem dJ0_charAt_5068e_20 : decode cJ0_charAt_5068e 20 = .ok (.iload_n 1, 1) := by decide +kernel
theorem dJ0_charAt_5068e_21 : decode cJ0_charAt_5068e 21 = .ok (.invokestatic 498, 3) := by decide +kernel
theorem dJ0_charAt_5068e_24 : decode cJ0_charAt_5068e 24 = .ok (.ireturn, 1) := by decide +kernel
theorem dJ0_checkIndex_df160_0 : decode cJ0_checkIndex_df160 0 = .ok (.iload_n 0, 1) := by decide +kernel
theorem dJ0_checkIndex_df160_1 : decode cJ0_checkIndex_df160 1 = .ok (.iload_n 1, 1) := by decide +kernel
theorem dJ0_checkIndex_df160_2 : decode cJ0_checkIndex_df160 2 = .ok (.getstatic 1053, 3) := by decide +kernel
theorem dJ0_checkIndex_df160_5 : decode cJ0_checkIndex_df160 5 = .ok (.invokestatic 1059, 3) := by decide +kernel
theorem dJ0_checkIndex_df160_8 : decode cJ0_checkIndex_df160 8 = .ok (.pop, 1) := by decide +kernel
theorem dJ0_checkIndex_df160_9 : decode cJ0_checkIndex_df160 9 = .ok (.return_, 1) := by decide +kernel
theorem dJ1_charAt_3b067_0 : decode cJ1_charAt_3b067 0 = .ok (.iload_n 1, 1) := by decide +kernel
theorem dJ1_charAt_3b067_1 : decode cJ1_charAt_3b067 1 = .ok (.aload_n 0, 1) := by decide +kernel
theorem dJ1_charAt_3b067_2 : decode cJ1_charAt_3b067 2 = .ok (.arraylength, 1) := by decide +kernel
theorem dJ1_charAt_3b067_3 : decode cJ1_charAt_3b067 3 = .ok (.invokestatic 9, 3) := by decide +kernel
theorem dJ1_charAt_3b067_6 : decode cJ1_charAt_3b067 6 = .ok (.aload_n 0, 1) := by decide +kernel
theorem dJ1_charAt_3b067_7 : decode cJ1_charAt_3b067 7 = .ok (.iload_n 1, 1) := by decide +kernel
theorem dJ1_charAt_3b067_8 : decode cJ1_charAt_3b067 8 = .ok (.baload, 1) := by decide +kernel
theorem dJ1_charAt_3b067_9 : decode cJ1_charAt_3b067 9 = .ok (.sipush 255, 3) := by decide +kernel
theorem dJ1_charAt_3b067_12 : decode cJ1_charAt_3b067 12 = .ok (.iand, 1) := by decide +kernel
theorem dJ1_charAt_3b067_13 : decode cJ1_charAt_3b067 13 = .ok (.i2c, 1) := by decide +kernel
theorem dJ1_charAt_3b067_14 : decode cJ1_charAt_3b067 14 = .ok (.ireturn, 1) := by decide +kernel
theorem dJ3_checkIndex_8e157_0 : decode cJ3_checkIndex_8e157 0 = .ok (.iload_n 0, 1) := by decide +kernel
theorem dJ3_checkIndex_8e157_1 : decode cJ3_checkIndex_8e157 1 = .ok (.ifCond .lt 8, 3) := by decide +kernel
theorem dJ3_checkIndex_8e157_4 : decode cJ3_checkIndex_8e157 4 = .ok (.iload_n 0, 1) := by decide +kernel
theorem dJ3_checkIndex_8e157_5 : decode cJ3_checkIndex_8e157 5 = .ok (.iload_n 1, 1) := by decide +kernel
theorem dJ3_checkIndex_8e157_6 : decode cJ3_checkIndex_8e157 6 = .ok (.if_icmp .lt 10, 3) := by decide +kernel
theorem dJ3_checkIndex_8e157_9 : decode cJ3_checkIndex_8e157 9 = .ok (.aload_n 2, 1) := by decide +kernel
theorem dJ3_checkIndex_8e157_10 : decode cJ3_checkIndex_8e157 10 = .ok (.iload_n 0, 1) := by decide +kernel
theorem dJ3_checkIndex_8e157_11 : decode cJ3_checkIndex_8e157 11 = .ok (.iload_n 1, 1) := by decide +kernel
theorem dJ3_checkIndex_8e157_12 : decode cJ3_checkIndex_8e157 12 = .ok (.invokestatic 95, 3) := by decide +kernel
theorem dJ3_checkIndex_8e157_15 : decode cJ3_checkIndex_8e157 15 = .ok (.athrow, 1) := by decide +kernel
theorem dJ3_checkIndex_8e157_16 : decode cJ3_checkIndex_8e157 16 = .ok (.iload_n 0, 1) := by decide +kernel
theorem dJ3_checkIndex_8e157_17 : decode cJ3_checkIndex_8e157 17 = .ok (.ireturn, 1) := by decide +kernel
theorem st_lt {i : Int32} {n : Nat} (hn : n < 2 ^ 31) (h : ux_in i n = true) : ¬ i < 0 ∧ i < Int32.ofNat n := by
  obtain ⟨j, hj, rfl⟩ := vp_in_of (ux_in_p h) hn
  exact ⟨nI_pos (by omega), nI_lt hj hn⟩
theorem st_len : ∀ k, k < 8 → tb_len.getD k 0 < 2 ^ 31 := by decide
theorem mP_check {l : Launch} {G : ux_G} {sh : List ux_Sh} (hok : ux_ok G sh) {i n : Int32} {v : Value} (hv : v = .null ∨ ∃ a, v = .ref a) (h1 : ¬ i < 0) (h2 : i < n) {N : ux_N} {L : ux_L} : ux_Mi l G yJ3_checkIndex_8e157 cJ3_checkIndex_8e157 3 (some .int) 0 0 [.int i, .int n, v] N L i N L := by
  have key : ∀ w : Value, w.category = 1 → ∀ X : ux_X, ux_C X cJ3_checkIndex_8e157 RJ3 3 (some .int) 0 0 sh → ux_Qi X i N L → ux_Wt X 3 0 [(0, .int i), (1, .int n), (2, w)] [] N L := by
    intro w _ X C hq
    refine wt_iload_n 1 0 C dJ3_checkIndex_8e157_0 rfl rfl ?_
    refine wt_if_lt 4 9 C dJ3_checkIndex_8e157_1 rfl (by decide) (fun c => absurd c h1) (fun _ => ?_)
    refine wt_iload_n 5 0 C dJ3_checkIndex_8e157_4 rfl rfl ?_
    refine wt_iload_n 6 1 C dJ3_checkIndex_8e157_5 rfl rfl ?_
    refine wt_icmp_lt 9 16 C dJ3_checkIndex_8e157_6 rfl (by decide) (fun _ => ?_) (fun c => absurd h2 c)
    refine wt_iload_n 17 0 C dJ3_checkIndex_8e157_16 rfl rfl ?_
    exact wt_iret C hq dJ3_checkIndex_8e157_17
  rcases hv with rfl | ⟨a, rfl⟩
  · exact ux_ofi sh hok (by decide +kernel) (Nat.le_of_ble_eq_true rfl) (fun X hG hl C hq => by subst hG; subst hl; exact key .null rfl X C hq)
  · exact ux_ofi sh hok (by decide +kernel) (Nat.le_of_ble_eq_true rfl) (fun X hG hl C hq => by subst hG; subst hl; exact key (.ref a) rfl X C hq)
theorem kS_check : ux_LS RJ0 1059 yJ3_checkIndex_8e157 cJ3_checkIndex_8e157 3 (some .int) 3 := ⟨tw_639, tw_640, tw_90, tw_641, ⟨by decide, by decide, by decide +kernel⟩⟩
theorem mS_check {l : Launch} {G : ux_G} {sh : List ux_Sh} (hok : ux_ok G sh) {i n : Int32} (h1 : ¬ i < 0) (h2 : i < n) {N : ux_N} {L : ux_L} : ux_Mv l G yJ0_checkIndex_df160 cJ0_checkIndex_df160 2 1 22 [.int i, .int n] N L N L := by
  refine ux_ofv sh hok (by decide +kernel) (Nat.le_of_ble_eq_true rfl) (fun X hG hl C hq => ?_)
  subst hG; subst hl
  show ux_Wt X 2 0 [(0, .int i), (1, .int n)] [] N L
  refine wt_iload_n 1 0 C dJ0_checkIndex_df160_0 rfl rfl ?_
  refine wt_iload_n 2 1 C dJ0_checkIndex_df160_1 rfl rfl ?_
  refine wt_getsF 5 C tw_637 dJ0_checkIndex_df160_2 rfl (fun v hv => ?_)
  refine wt_callSi 8 [] C kS_check (mP_check (cx_ok C) hv h1 h2) rfl rfl ⟨Nat.le_of_ble_eq_true rfl, Nat.le_of_ble_eq_true rfl⟩ (Nat.le_of_ble_eq_true rfl) dJ0_checkIndex_df160_5 rfl ?_
  refine wt_pop 9 C dJ0_checkIndex_df160_8 rfl rfl ?_
  exact wt_vret C hq dJ0_checkIndex_df160_9
theorem kL_check : ux_LS RJ1 9 yJ0_checkIndex_df160 cJ0_checkIndex_df160 2 none 2 := ⟨tw_634, tw_635, tw_88, tw_636, ⟨by decide, by decide, by decide +kernel⟩⟩
theorem mL_charAt {l : Launch} {G : ux_G} {sh : List ux_Sh} (hok : ux_ok G sh) {k : Nat} (hk : k < 8) {i : Int32} (hi : ux_in i (tb_len.getD k 0) = true) {N : ux_N} {L : ux_L} : ux_Mi l G yJ1_charAt_3b067 cJ1_charAt_3b067 2 (some .char) 2 43 [.ref (G.2.2.2.2 (10 + k)), .int i] N L (ux_ch k i.toNatClampNeg) N L := by
  refine ux_ofi sh hok (by decide +kernel) (Nat.le_of_ble_eq_true rfl) (fun X hG hl C hq => ?_)
  subst hG; subst hl
  obtain ⟨h1, h2⟩ := st_lt (st_len k hk) hi
  show ux_Wt X 2 0 [(0, .ref (ux_sv X k)), (1, .int i)] [] N L
  refine wt_iload_n 1 1 C dJ1_charAt_3b067_0 rfl rfl ?_
  refine wt_aload_n 2 0 C dJ1_charAt_3b067_1 rfl rfl ?_
  refine wt_slenB 3 C hk dJ1_charAt_3b067_2 rfl ?_
  refine wt_callSv 6 [] C kL_check (mS_check (cx_ok C) h1 h2) rfl rfl ⟨Nat.le_of_ble_eq_true rfl, Nat.le_of_ble_eq_true rfl⟩ (Nat.le_of_ble_eq_true rfl) dJ1_charAt_3b067_3 rfl ?_
  refine wt_aload_n 7 0 C dJ1_charAt_3b067_6 rfl rfl ?_
  refine wt_iload_n 8 1 C dJ1_charAt_3b067_7 rfl rfl ?_
  refine wt_sbald 9 C hk hi dJ1_charAt_3b067_8 rfl ?_
  refine wt_sipush 12 255 C dJ1_charAt_3b067_9 rfl (by decide) ?_
  refine wt_iand 13 C dJ1_charAt_3b067_12 rfl ?_
  refine wt_i2c 14 C dJ1_charAt_3b067_13 rfl ?_
  rw [sc_c2]
  exact wt_zret C (sc_nar _) hq dJ1_charAt_3b067_14
theorem mS_coder {l : Launch} {G : ux_G} {sh : List ux_Sh} (hok : ux_ok G sh) {k : Nat} (hk : k < 8) {N : ux_N} {L : ux_L} : ux_Mi l G yJ0_coder_7d493 cJ0_coder_7d493 1 (some .byte) 0 0 [.ref (G.2.2.2.2 (2 + k))] N L 0 N L := by
  refine ux_ofi sh hok (by decide +kernel) (Nat.le_of_ble_eq_true rfl) (fun X hG hl C hq => ?_)
  subst hG; subst hl
  show ux_Wt X 1 0 [(0, .ref (ux_sk X k))] [] N L
  refine wt_getsC 3 C tw_621 dJ0_coder_7d493_0 rfl ?_
  refine wt_if_eq 6 13 C dJ0_coder_7d493_3 rfl (by decide) (fun c => absurd c (by decide)) (fun _ => ?_)
  refine wt_aload_n 7 0 C dJ0_coder_7d493_6 rfl rfl ?_
  refine wt_sgetC 10 C hk tw_1453 dJ0_coder_7d493_7 rfl ?_
  refine wt_goto 14 C dJ0_coder_7d493_10 (by decide) ?_
  exact wt_zret C (by decide) hq dJ0_coder_7d493_14
theorem mS_latin {l : Launch} {G : ux_G} {sh : List ux_Sh} (hok : ux_ok G sh) {k : Nat} (hk : k < 8) {N : ux_N} {L : ux_L} : ux_Mi l G yJ0_isLatin1_aae02 cJ0_isLatin1_aae02 1 (some .boolean) 0 0 [.ref (G.2.2.2.2 (2 + k))] N L 1 N L := by
  refine ux_ofi sh hok (by decide +kernel) (Nat.le_of_ble_eq_true rfl) (fun X hG hl C hq => ?_)
  subst hG; subst hl
  show ux_Wt X 1 0 [(0, .ref (ux_sk X k))] [] N L
  refine wt_getsC 3 C tw_621 dJ0_isLatin1_aae02_0 rfl ?_
  refine wt_if_eq 6 17 C dJ0_isLatin1_aae02_3 rfl (by decide) (fun c => absurd c (by decide)) (fun _ => ?_)
  refine wt_aload_n 7 0 C dJ0_isLatin1_aae02_6 rfl rfl ?_
  refine wt_sgetC 10 C hk tw_1453 dJ0_isLatin1_aae02_7 rfl ?_
  refine wt_if_ne 13 17 C dJ0_isLatin1_aae02_10 rfl (by decide) (fun c => absurd rfl c) (fun _ => ?_)
  refine wt_iconst 14 1 C dJ0_isLatin1_aae02_13 rfl (by decide) ?_
  refine wt_goto 18 C dJ0_isLatin1_aae02_14 (by decide) ?_
  exact wt_zret C (by decide) hq dJ0_isLatin1_aae02_18
theorem mS_length {l : Launch} {G : ux_G} {sh : List ux_Sh} (hok : ux_ok G sh) {k : Nat} (hk : k < 8) {N : ux_N} {L : ux_L} : ux_Mi l G yJ0_length_8abf5 cJ0_length_8abf5 1 (some .int) 1 20 [.ref (G.2.2.2.2 (2 + k))] N L (Int32.ofNat (tb_len.getD k 0)) N L := by
  refine ux_ofi sh hok (by decide +kernel) (Nat.le_of_ble_eq_true rfl) (fun X hG hl C hq => ?_)
  subst hG; subst hl
  show ux_Wt X 1 0 [(0, .ref (ux_sk X k))] [] N L
  refine wt_aload_n 1 0 C dJ0_length_8abf5_0 rfl rfl ?_
  refine wt_sgetV 4 C hk tw_1452 dJ0_length_8abf5_1 rfl ?_
  refine wt_slenB 5 C hk dJ0_length_8abf5_4 rfl ?_
  refine wt_aload_n 6 0 C dJ0_length_8abf5_5 rfl rfl ?_
  refine wt_callKi 9 [.int (Int32.ofNat (tb_len.getD k 0))] [] C hk tw_617 tw_618 tw_619 tw_88 tw_620 ⟨by decide, by decide, by decide +kernel⟩ rfl (mS_coder (cx_ok C) hk) rfl rfl ⟨Nat.le_of_ble_eq_true rfl, Nat.le_of_ble_eq_true rfl⟩ (Nat.le_of_ble_eq_true rfl) dJ0_length_8abf5_6 rfl ?_
  refine wt_ishr 10 C dJ0_length_8abf5_9 rfl ?_
  rw [sb_shr0]
  exact wt_iret C hq dJ0_length_8abf5_10
theorem kS_char : ux_LS RJ0 495 yJ1_charAt_3b067 cJ1_charAt_3b067 2 (some .char) 2 := ⟨tw_631, tw_632, tw_89, tw_633, ⟨by decide, by decide, by decide +kernel⟩⟩
theorem mS_charAt {l : Launch} {G : ux_G} {sh : List ux_Sh} (hok : ux_ok G sh) {k : Nat} (hk : k < 8) {i : Int32} (hi : ux_in i (tb_len.getD k 0) = true) {N : ux_N} {L : ux_L} : ux_Mi l G yJ0_charAt_5068e cJ0_charAt_5068e 2 (some .char) 3 64 [.ref (G.2.2.2.2 (2 + k)), .int i] N L (ux_ch k i.toNatClampNeg) N L := by
  refine ux_ofi sh hok (by decide +kernel) (Nat.le_of_ble_eq_true rfl) (fun X hG hl C hq => ?_)
  subst hG; subst hl
  show ux_Wt X 2 0 [(0, .ref (ux_sk X k)), (1, .int i)] [] N L
  refine wt_aload_n 1 0 C dJ0_charAt_5068e_0 rfl rfl ?_
  refine wt_callKi 4 [] [] C hk tw_627 tw_628 tw_629 tw_88 tw_630 ⟨by decide, by decide, by decide +kernel⟩ rfl (mS_latin (cx_ok C) hk) rfl rfl ⟨Nat.le_of_ble_eq_true rfl, Nat.le_of_ble_eq_true rfl⟩ (Nat.le_of_ble_eq_true rfl) dJ0_charAt_5068e_1 rfl ?_
  refine wt_if_eq 7 16 C dJ0_charAt_5068e_4 rfl (by decide) (fun c => absurd c (by decide)) (fun _ => ?_)
  refine wt_aload_n 8 0 C dJ0_charAt_5068e_7 rfl rfl ?_
  refine wt_sgetV 11 C hk tw_1452 dJ0_charAt_5068e_8 rfl ?_
  refine wt_iload_n 12 1 C dJ0_charAt_5068e_11 rfl rfl ?_
  refine wt_callSi 15 [] C kS_char (mL_charAt (cx_ok C) hk hi) rfl rfl ⟨Nat.le_of_ble_eq_true rfl, Nat.le_of_ble_eq_true rfl⟩ (Nat.le_of_ble_eq_true rfl) dJ0_charAt_5068e_12 rfl ?_
  exact wt_zret C (sc_nar _) hq dJ0_charAt_5068e_15
section UXT
variable {X : ux_X} {cc : ByteArray} {own : String} {nL : Nat} {ret : Option FieldType} {fr lo : Nat} {sh : List ux_Sh} {pc : Nat} {lv : List (Nat × Value)} {st : List Value} {N : ux_N} {L : ux_L}
theorem wt_slen (q : Nat) {idx k : Nat} (C : ux_C X cc own nL ret fr lo sh) (hk : k < 8) (m1 : Cond.methodLink own idx yJ0_length_8abf5 ∈ lw_gt) (hR : 2 ≤ fr ∧ 40 ≤ lo) (hr : (st.map fun v => v.category).sum ≤ 8) (hd : decode cc pc = .ok (.invokevirtual idx, 3)) (hq : pc + 3 = q) (kk : ux_Wt X nL q lv (.int (Int32.ofNat (tb_len.getD k 0)) :: st) N L) : ux_Wt X nL pc lv (.ref (ux_sk X k) :: st) N L :=
  wt_callKi q (n := 0) st [] C hk m1 tw_614 tw_615 tw_88 tw_616 ⟨by decide, by decide, by decide +kernel⟩ rfl (mS_length (cx_ok C) hk) rfl rfl ⟨hR.1, hR.2⟩ hr hd hq kk
theorem wt_schar (q : Nat) {idx k : Nat} {i : Int32} (C : ux_C X cc own nL ret fr lo sh) (hk : k < 8) (hi : ux_in i (tb_len.getD k 0) = true) (m1 : Cond.methodLink own idx yJ0_charAt_5068e ∈ lw_gt) (hR : 4 ≤ fr ∧ 85 ≤ lo) (hr : (st.map fun v => v.category).sum ≤ 8) (hd : decode cc pc = .ok (.invokevirtual idx, 3)) (hq : pc + 3 = q) (kk : ux_Wt X nL q lv (.int (ux_ch k i.toNatClampNeg) :: st) N L) : ux_Wt X nL pc lv (.int i :: .ref (ux_sk X k) :: st) N L :=
  wt_callKi q (n := 1) st [.int i] C hk m1 tw_624 tw_625 tw_88 tw_626 ⟨by decide, by decide, by decide +kernel⟩ rfl (mS_charAt (cx_ok C) hk hi) rfl rfl ⟨hR.1, hR.2⟩ hr hd hq kk
end UXT
