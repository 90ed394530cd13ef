/-! the class's servers -/
def arB (W : Nat) (rc : Nat → Nat) (t : Nat) : Nat := bsN (fun m => W.testBit m && (List.range 10).any (fun l => t.testBit l && (rc m).testBit l)) 9
theorem arB_tb {W : Nat} (hW : W < 512) (rc : Nat → Nat) (t m : Nat) : ((arB W rc t).testBit m = true) ↔ (W.testBit m = true ∧ ∃ l, l < 10 ∧ t.testBit l = true ∧ (rc m).testBit l = true) := by
  unfold arB
  rw [bsN_tb, Bool.and_eq_true, Bool.and_eq_true, List.any_eq_true, decide_eq_true_iff]
  constructor
  · intro ⟨_, a, l, b, c⟩
    rw [Bool.and_eq_true] at c
    exact ⟨a, l, List.mem_range.mp b, c.1, c.2⟩
  · intro ⟨a, l, b, c, d⟩
    exact ⟨Nat.lt_of_not_le (fun q => by rw [tb_ge (n := 9) hW q] at a; cases a), a, l, List.mem_range.mpr b, by rw [Bool.and_eq_true]; exact ⟨c, d⟩⟩
theorem arB_lt (W : Nat) (rc : Nat → Nat) (t : Nat) : arB W rc t < 512 := bsN_lt _ 9
theorem arB_0 (W : Nat) (rc : Nat → Nat) : arB W rc 0 = 0 := by
  refine Nat.eq_of_testBit_eq (fun j => ?_)
  unfold arB
  rw [bsN_tb, Nat.zero_testBit]
  simp
theorem arB_s {W t : Nat} (rc : Nat → Nat) (ht : t < 1024) (h0 : 0 < t) : nI (arB W rc (t &&& (t - 1))) ||| nI (bsN (fun m => W.testBit m && (rc m).testBit (lwb t)) 9) = nI (arB W rc t) := by
  unfold arB
  rw [pb_or_bs]
  refine congrArg nI (bsN_cong 9 (fun m _ => ?_))
  obtain ⟨a1, a2, a3⟩ := lwb_spec t ht h0
  rw [← Bool.and_or_distrib_left]
  congr 1
  rw [Bool.eq_iff_iff, Bool.or_eq_true, List.any_eq_true, List.any_eq_true]
  constructor
  · intro z
    rcases z with ⟨l, b, c⟩ | z
    · rw [Bool.and_eq_true, noleast_mem ht h0] at c
      exact ⟨l, b, by rw [Bool.and_eq_true]; exact ⟨c.1.1, c.2⟩⟩
    · exact ⟨lwb t, List.mem_range.mpr a1, by rw [a2, z]; rfl⟩
  · intro ⟨l, b, c⟩
    rw [Bool.and_eq_true] at c
    by_cases e : l = lwb t
    · exact Or.inr (by rw [← e]; exact c.2)
    · exact Or.inl ⟨l, b, by rw [Bool.and_eq_true, noleast_mem ht h0]; exact ⟨⟨c.1, e⟩, c.2⟩⟩
noncomputable def spB (rc : Nat → Nat) (me T W i : Nat) : Nat := bsN (fun m => W.testBit m && gq_dc (lmS rc me T i m)) 9
theorem spB_lt (rc : Nat → Nat) (me T W i : Nat) : spB rc me T W i < 512 := bsN_lt _ 9
theorem spB_tb {rc : Nat → Nat} {me T W : Nat} (hW : W < 512) (i m : Nat) : ((spB rc me T W i).testBit m = true) ↔ (W.testBit m = true ∧ lmS rc me T i m) := by
  unfold spB
  rw [bsN_tb, Bool.and_eq_true, Bool.and_eq_true, gq_dc_t, decide_eq_true_iff]
  exact ⟨fun z => z.2, fun z => ⟨Nat.lt_of_not_le (fun q => by have := z.1; rw [tb_ge (n := 9) hW q] at this; cases this), z⟩⟩
theorem spB_s {rc : Nat → Nat} {me T W i : Nat} (hW : W < 512) (hb : T.testBit i = true) : nI (spB rc me T W i) &&& (nI (2 ^ pkS rc (lmS rc me T i) T i) ^^^ (-1 : Int32)) = nI (spB rc me T W (i + 1)) := by
  rw [pb_andn (a := spB rc me T W i) (n := 9) (bsN_lt _ 9) (by decide)]
  refine congrArg nI (bsN_cong 9 (fun j hj => ?_))
  rw [Bool.eq_iff_iff, Bool.and_eq_true, Bool.and_eq_true, spB_tb hW, gq_dc_t, Nat.testBit_two_pow]
  show _ ↔ (W.testBit j = true ∧ lmS rc me T i j ∧ ¬ (T.testBit i = true ∧ j = pkS rc (lmS rc me T i) T i))
  simp only [Bool.not_eq_true', decide_eq_false_iff_not]
  exact ⟨fun ⟨⟨a, b⟩, c⟩ => ⟨a, b, fun z => c z.2.symm⟩, fun ⟨a, b, c⟩ => ⟨⟨a, b⟩, fun z => c ⟨hb, z.symm⟩⟩⟩
theorem spB_n {rc : Nat → Nat} {me T W i : Nat} (hb : ¬ T.testBit i = true) : spB rc me T W (i + 1) = spB rc me T W i := by
  unfold spB
  refine bsN_cong 9 (fun j hj => ?_)
  congr 1
  refine gq_dc_c ?_
  show (lmS rc me T i j ∧ ¬ (T.testBit i = true ∧ j = pkS rc (lmS rc me T i) T i)) ↔ _
  exact ⟨fun h => h.1, fun h => ⟨h, fun z => hb z.1⟩⟩
noncomputable def lnS (rc : Nat → Nat) (me T : Nat) : Nat → Nat → Int32
  | 0, _ => -1
  | i + 1, m => if T.testBit i = true ∧ m = pkS rc (lmS rc me T i) T i then nI i else lnS rc me T i m
section ASG
variable {N : ux_N} {W T me : Nat} {rc : Nat → Nat}
theorem cc_metersFor (hW : W < 512) (hR : ∀ m, W.testBit m = true → N 34 m = nI (rc m) ∧ rc m < 1024) {l : Nat} (hl : l < 10) : fX5_metersFor 34 9 (nI l) (nI W) N = some (nI (bsN (fun m => W.testBit m && (rc m).testBit l) 9)) := by
  have hlp : ux_lp (fun s : Int32 × Int32 => fX5_metersFor_5b 34 9 (nI l) (nI W) s.1 s.2 N) ux_fu ((0 : Int32), (0 : Int32)) = some (nI (bsN (fun m => W.testBit m && (rc m).testBit l) 9)) := by
    refine lp_at (fun i => (nI (bsN (fun m => W.testBit m && (rc m).testBit l) i), nI i)) 9 rfl (by decide) ?_ ?_
    · intro i hk
      by_cases q1 : W.testBit i = true
      · obtain ⟨r1, r2⟩ := hR i q1
        simp (disch := omega) only [fX5_metersFor_5b, fX5_metersFor_5b_48, r1, li_0, li_1, li_2, li_3, li_4, li_5, li_6, li_7, li_8, li_9, li_10, li_11, li_12, li_13, li_14, li_16, li_18, li_20, li_21, li_24, li_31, li_32, li_40, li_42, li_48, li_57, li_59, li_64, li_97, li_99, li_122, li_128, li_147, li_189, li_200, li_231, li_252, li_255, li_512, li_1023, li_1024, li_8192, li_8208, li_9999, li_50000, li_500000, nI_leI, nI_ltI, nI_eq, pb_in, nI_clamp, nI_add, pk_mul, pk_sub, qb_bit1, qb_bit0, qb_pow, qb_m1, qb_m1', qb_ofn, Option.bind_some, ↓reduceIte, eq_self, if_true, if_false, Sum.elim_inl, Sum.elim_inr]
        rw [if_neg (by omega), if_neg (by omega), if_pos q1]
        by_cases q2 : (rc i).testBit l = true
        · rw [if_pos q2, bsN_t (by simp [q1, q2])]
        · rw [if_neg q2, ← bsN_f (by simp [q2])]
      · simp (disch := omega) only [fX5_metersFor_5b, fX5_metersFor_5b_48, li_0, li_1, li_2, li_3, li_4, li_5, li_6, li_7, li_8, li_9, li_10, li_11, li_12, li_13, li_14, li_16, li_18, li_20, li_21, li_24, li_31, li_32, li_40, li_42, li_48, li_57, li_59, li_64, li_97, li_99, li_122, li_128, li_147, li_189, li_200, li_231, li_252, li_255, li_512, li_1023, li_1024, li_8192, li_8208, li_9999, li_50000, li_500000, nI_leI, nI_ltI, nI_eq, pb_in, nI_clamp, nI_add, pk_mul, pk_sub, qb_bit1, qb_bit0, qb_pow, qb_m1, qb_m1', qb_ofn, Option.bind_some, ↓reduceIte, eq_self, if_true, if_false, Sum.elim_inl, Sum.elim_inr]
        rw [if_neg (by omega), if_neg (by omega), if_neg q1, ← bsN_f (by simp [q1])]
    · simp (disch := omega) only [fX5_metersFor_5b, li_0, li_1, li_2, li_3, li_4, li_5, li_6, li_7, li_8, li_9, li_10, li_11, li_12, li_13, li_14, li_16, li_18, li_20, li_21, li_24, li_31, li_32, li_40, li_42, li_48, li_57, li_59, li_64, li_97, li_99, li_122, li_128, li_147, li_189, li_200, li_231, li_252, li_255, li_512, li_1023, li_1024, li_8192, li_8208, li_9999, li_50000, li_500000, nI_leI, nI_ltI, nI_eq, pb_in, nI_clamp, nI_add, pk_mul, pk_sub, qb_bit1, qb_bit0, qb_pow, qb_m1, qb_m1', qb_ofn, Option.bind_some, ↓reduceIte, eq_self, if_true, if_false, Sum.elim_inl, Sum.elim_inr]
      simp
  unfold fX5_metersFor
  rw [hlp]; rfl
theorem cc_around (hW : W < 512) (hT : T < 1024) (hR : ∀ m, W.testBit m = true → N 34 m = nI (rc m) ∧ rc m < 1024) : ∃ N', fX5_learnAround 34 9 (nI T) (nI W) N = some N' ∧ (∀ a, a ≠ 106 → N' a = N a) ∧ ∀ t, (∀ j, t.testBit j = true → T.testBit j = true) → N' 106 t = nI (arB W rc t) := by
  have hlp : ∃ N', ux_lp (fun s : Int32 × ux_N => fX5_learnAround_10b 34 9 (nI T) (nI W) s.1 s.2) ux_fu ((1 : Int32), ux_u N 106 0 (0 : Int32)) = some N' ∧ ((∀ a, a ≠ 106 → N' a = N a) ∧ ∀ t, (∀ j, t.testBit j = true → T.testBit j = true) → N' 106 t = nI (arB W rc t)) := by
    refine lp_inv (fun i x => x.1 = nI (i + 1) ∧ (∀ a, a ≠ 106 → x.2 a = N a) ∧ ∀ t, t < i + 1 → (∀ j, t.testBit j = true → T.testBit j = true) → x.2 106 t = nI (arB W rc t)) _ T ?_ (by omega) ?_ ?_
    · refine ⟨rfl, fun a ha => uu_ne _ _ _ ha, fun t ht _ => ?_⟩
      have t0 : t = 0 := by omega
      subst t0
      dsimp only
      rw [uu_same, if_pos rfl, arB_0]; rfl
    · intro i ⟨v, N1⟩ hk ⟨e, g1, g2⟩
      dsimp only at e g1 g2 ⊢
      subst e
      have lt : bsN (fun j => (i + 1).testBit j && !T.testBit j) 10 < 2 ^ 10 := bsN_lt _ _
      have sub0 : (nI (bsN (fun j => (i + 1).testBit j && !T.testBit j) 10) = 0) ↔ ∀ j, (i + 1).testBit j = true → T.testBit j = true := by
        rw [pb_eq0 (by omega)]
        constructor
        · intro z j hj
          have e1 : (bsN (fun j => (i + 1).testBit j && !T.testBit j) 10).testBit j = false := by rw [z]; simp
          have jm : j < 10 := Nat.lt_of_not_le (fun q => by rw [tb_ge (n := 10) (by omega) q] at hj; cases hj)
          rw [bsN_tb, hj] at e1
          simpa [jm] using e1
        · intro z
          refine Nat.eq_of_testBit_eq (fun j => ?_)
          rw [bsN_tb, Nat.zero_testBit]
          by_cases q : (i + 1).testBit j = true
          · rw [z j q]; simp
          · simp [q]
      have head : fX5_learnAround_10b 34 9 (nI T) (nI W) (nI (i + 1)) N1 = if nI (bsN (fun j => (i + 1).testBit j && !T.testBit j) 10) = 0 then (if ux_in (nI (i + 1) &&& (nI (i + 1) - (1 : Int32))) 1024 then ((fX11_lowest (nI (i + 1))).bind (fun o5 => (fX5_metersFor 34 9 o5 (nI W) N1).bind (fun o7 => if ux_in (nI (i + 1)) 1024 then (fX5_learnAround_10b_65 34 9 (nI T) (nI W) (nI (i + 1)) (ux_u N1 106 ((nI (i + 1)).toNatClampNeg) ((N1 106 ((nI (i + 1) &&& (nI (i + 1) - (1 : Int32))).toNatClampNeg)) ||| o7))) else none))) else none) else (fX5_learnAround_10b_65 34 9 (nI T) (nI W) (nI (i + 1)) N1) := by
        unfold fX5_learnAround_10b
        rw [if_neg (fun z => by have := (nI_ltI (by omega) (by omega)).mp z; omega), qb_ofn, if_neg (fun z => by have := (nI_leI (by omega) (by omega)).mp z; omega), pb_andn (a := i + 1) (b := T) (n := 10) (by omega) (by decide)]
      by_cases q : ∀ j, (i + 1).testBit j = true → T.testBit j = true
      · have hs : i + 1 < 1024 := by omega
        have nl := noleast_lt (i + 1) hs (by omega)
        have nm := noleast_mem hs (by omega : 0 < i + 1)
        have mf := cc_metersFor (N := N1) (rc := rc) hW (by rw [g1 34 (by decide)]; exact hR) (lwb_spec (i + 1) hs (by omega)).1
        have old := g2 ((i + 1) &&& ((i + 1) - 1)) nl (fun j hj => q j ((nm j).mp hj).1)
        refine Or.inl ⟨(nI (i + 1 + 1), ux_u N1 106 (i + 1) (nI (arB W rc (i + 1)))), ?_, rfl, fun a ha => (uu_ne _ _ _ ha).trans (g1 a ha), fun t ht hsub => ?_⟩
        · rw [head, if_pos (sub0.mpr q), pb_noleast _ hs, pb_in (by omega) (by decide), if_pos rfl, pb_lowest _ hs (by omega), Option.bind_some, mf, Option.bind_some, pb_in hs (by decide), if_pos rfl, nI_clamp (by omega), nI_clamp (by omega), old, arB_s rc hs (by omega)]
          unfold fX5_learnAround_10b_65
          rw [li_1, nI_add]
        · dsimp only
          rw [uu_same]
          by_cases e : t = i + 1
          · rw [if_pos e, e]
          · rw [if_neg e]; exact g2 t (by omega) hsub
      · refine Or.inl ⟨(nI (i + 1 + 1), N1), ?_, rfl, g1, fun t ht hsub => ?_⟩
        · rw [head, if_neg (fun z => q (sub0.mp z))]
          unfold fX5_learnAround_10b_65
          rw [li_1, nI_add]
        · by_cases e : t = i + 1
          · subst e; exact absurd hsub q
          · exact g2 t (by omega) hsub
    · intro ⟨v, N1⟩ ⟨e, g1, g2⟩
      dsimp only at e g1 g2 ⊢
      subst e
      refine ⟨N1, ?_, g1, fun t hsub => g2 t (by have := sub_le hsub; omega) hsub⟩
      unfold fX5_learnAround_10b
      rw [if_pos ((nI_ltI (by omega) (by omega)).mpr (by omega))]
  obtain ⟨N', q0, q1, q2⟩ := hlp
  refine ⟨N', ?_, q1, q2⟩
  unfold fX5_learnAround
  rw [q0]; rfl
theorem cc_least {i : Nat} (hW : W < 512) (hT : T < 1024) (hme : me ≤ 9) (hi : i < 10) (hWz : ∀ m, m < me → rc m ≠ 0 → W.testBit m = true) (hm : mq_MT rc (fun m => m < me) T) (hb : T.testBit i = true) (hsp : N 103 0 = nI (spB rc me T W i)) (hA : ∀ t, (∀ j, t.testBit j = true → T.testBit j = true) → N 106 t = nI (arB W rc t)) : fX5_leastMeter (nI (arB W rc (2 ^ i))) (nI (rsT T (i + 1))) N = some (nI (pkS rc (lmS rc me T i) T i)) := by
  have mt := lmS_mt hT hme hm i
  obtain ⟨p1, p2, p3, p4, p5⟩ := pk_of (M := lmS rc me T i) hT (fun m hm => Nat.lt_of_lt_of_le (lmS_lt hm) hme) hb mt
  have sl := spB_lt rc me T W i
  have body : ∀ m, m < 9 → fX5_leastMeter_2b (nI (arB W rc (2 ^ i))) (nI (rsT T (i + 1))) (nI m) N = if gq_dc (lmS rc me T i m ∧ (rc m).testBit i = true ∧ mq_MT rc (fun x => lmS rc me T i x ∧ x ≠ m) (rsT T (i + 1))) = true then some (.inr (.inl (nI m))) else some (.inl (nI (m + 1))) := by
    intro m hm9
    unfold fX5_leastMeter_2b
    rw [if_neg (fun z => by have := (nI_leI (a := 9) (by decide) (by omega)).mp z; omega), hsp, pb_pow (by omega), fa_and]
    have bit : (nI (arB W rc (2 ^ i) &&& spB rc me T W i) &&& nI (2 ^ m) = 0) ↔ ¬ (lmS rc me T i m ∧ (rc m).testBit i = true) := by
      rw [fa_bit (by omega), Nat.testBit_and]
      have e : ((arB W rc (2 ^ i)).testBit m && (spB rc me T W i).testBit m) = true ↔ (lmS rc me T i m ∧ (rc m).testBit i = true) := by
        rw [Bool.and_eq_true, arB_tb hW, spB_tb hW]
        constructor
        · intro ⟨⟨a, l, b, c, d⟩, e, f⟩
          rw [Nat.testBit_two_pow, decide_eq_true_iff] at c
          refine ⟨f, ?_⟩
          rw [c]; exact d
        · intro ⟨a, b⟩
          have hw := hWz m (lmS_lt a) (fun z => by rw [z] at b; simp at b)
          exact ⟨⟨hw, i, hi, by rw [Nat.testBit_two_pow]; simp, b⟩, hw, a⟩
      rw [← e]
      simp
    by_cases q1 : lmS rc me T i m ∧ (rc m).testBit i = true
    · rw [if_neg (fun z => bit.mp z q1), pb_andn (a := spB rc me T W i) (n := 9) sl (by decide)]
      have lt : bsN (fun j => (spB rc me T W i).testBit j && !(2 ^ m).testBit j) 9 < 512 := bsN_lt _ 9
      have tb : ∀ x, ((bsN (fun j => (spB rc me T W i).testBit j && !(2 ^ m).testBit j) 9).testBit x = true) ↔ ((W.testBit x = true ∧ lmS rc me T i x) ∧ x ≠ m) := by
        intro x
        rw [bsN_tb, Bool.and_eq_true, Bool.and_eq_true, spB_tb hW, Nat.testBit_two_pow]
        simp only [decide_eq_true_eq, Bool.not_eq_true', decide_eq_false_iff_not]
        constructor
        · intro ⟨_, a, b⟩; exact ⟨a, fun z => b z.symm⟩
        · intro ⟨a, b⟩; exact ⟨Nat.lt_of_lt_of_le (lmS_lt a.2) hme, a, fun z => b z.symm⟩
      have hA2 : ∀ t, t < 1024 → 0 < t → (∀ j, t.testBit j = true → (rsT T (i + 1)).testBit j = true) → ∃ a, N 106 t = nI a ∧ a < 512 ∧ ∀ x, (bsN (fun j => (spB rc me T W i).testBit j && !(2 ^ m).testBit j) 9).testBit x = true → (a.testBit x = true ↔ ∃ l, l < 10 ∧ t.testBit l = true ∧ (rc x).testBit l = true) := by
        intro t ht h0 hsub
        refine ⟨arB W rc t, hA t (fun j hj => ((rsT_tb hT (i + 1) j).mp (hsub j hj)).1), arB_lt _ _ _, fun x hx => ?_⟩
        rw [arB_tb hW]
        exact ⟨fun z => z.2, fun z => ⟨((tb x).mp hx).1.1, z⟩⟩
      obtain ⟨r, c0, c⟩ := cc_canAll (N := N) (rc := rc) (rsT_lt T (i + 1)) lt hA2
      have cg : mq_MT rc (fun x => (bsN (fun j => (spB rc me T W i).testBit j && !(2 ^ m).testBit j) 9).testBit x = true) (rsT T (i + 1)) ↔ mq_MT rc (fun x => lmS rc me T i x ∧ x ≠ m) (rsT T (i + 1)) := by
        constructor
        · exact mq_z (fun x hx _ => ⟨((tb x).mp hx).1.2, ((tb x).mp hx).2⟩)
        · exact mq_z (fun x hx hr => (tb x).mpr ⟨⟨hWz x (lmS_lt hx.1) hr, hx.1⟩, hx.2⟩)
      rw [c0, Option.bind_some]
      rcases c with ⟨rfl, c⟩ | ⟨rfl, c⟩
      · rw [if_neg (by decide), if_pos (gq_dc_t.mpr ⟨q1.1, q1.2, cg.mp c⟩)]
      · rw [if_pos rfl, if_neg (by rw [gq_dc_f.mpr (fun z => c (cg.mpr z.2.2))]; decide)]
        unfold fX5_leastMeter_2b_44
        rw [li_1, nI_add]
    · rw [if_pos (bit.mpr q1), if_neg (by rw [gq_dc_f.mpr (fun z => q1 ⟨z.1, z.2.1⟩)]; decide)]
      unfold fX5_leastMeter_2b_44
      rw [li_1, nI_add]
  have hlp : ux_lp (fun s : Int32 => fX5_leastMeter_2b (nI (arB W rc (2 ^ i))) (nI (rsT T (i + 1))) s N) ux_fu (0 : Int32) = some (.inl (nI (pkS rc (lmS rc me T i) T i))) := by
    refine lp_at (fun m => nI m) (pkS rc (lmS rc me T i) T i) rfl (by omega) ?_ ?_
    · intro m hm1
      rw [body m (by omega), if_neg (by rw [gq_dc_f.mpr (p5 m hm1)]; decide)]
    · rw [body _ p1, if_pos (gq_dc_t.mpr ⟨p2, p3, p4⟩)]
  unfold fX5_leastMeter
  rw [hlp]; rfl
end ASG
