/-! by how much the rank would change -/
def rcA (rc : Nat → Nat) (k v m : Nat) : Nat := if m = k then v else rc m
section GAI
variable {N : ux_N} {L : ux_L} {nd ln : Nat} {lo hi : Nat → Nat} {me : Nat} {so pl : Nat → Nat} {br cu : Nat}
/-- the rank with one more meter -/
noncomputable def rkG (ln : Nat) (lo hi : Nat → Nat) (me : Nat) (so pl : Nat → Nat) (br cu s a : Nat) : Nat := rk (qP ln lo hi (rcA (rcS ln lo hi so pl br cu) me (gp_ms ln lo hi cu.testBit s a)) (fun m => m < me ∨ m = me))
theorem gp_ms_lt (so a : Nat) (ct : Nat → Bool) : gp_ms ln lo hi ct so a < 2 ^ ln := bsN_lt _ ln
theorem foC_fr {L' : ux_L} (hF : foC L ln lo hi) (e : L' 36 = L 36) : foC L' ln lo hi := fun s hs => by rw [e]; exact hF s hs
theorem cc_gain (hp : plC N 1 nd ln lo hi) (hs : stC N 19 me so pl br cu) (hF : foC L ln lo hi) (hi1 : siC N L ln lo hi me so pl br cu) {s a : Nat} (h5 : s < 5) (ha : a < (if s < 2 then ln else nd)) : ∃ L', fX6_gain (nI s) (nI a) N L = some (nI (rkG ln lo hi me so pl br cu s a) - nI (rkS ln lo hi me so pl br cu), L') ∧ ∀ x, x ≠ 42 → x ≠ 43 → L' x = L x := by
  obtain ⟨q1, q2, q3, q4, q5, q6⟩ := hi1
  have hpb := hp.2.2.1
  have k4 : a < 2 ^ 31 := Nat.lt_of_lt_of_le ha (by split <;> omega)
  have lf := pc_linesFor (ct := cu.testBit) hp h5 k4
  rw [if_pos ha] at lf
  have gl := gp_ms_lt (ln := ln) (lo := lo) (hi := hi) s a cu.testBit
  have p10 : 2 ^ ln ≤ 1024 := show 2 ^ ln ≤ 2 ^ 10 from Nat.pow_le_pow_right (by decide) hpb.2.2
  obtain ⟨L1, c0, c1, c2⟩ := fc_copy L 41 38
  obtain ⟨L2, j0, j1, j2⟩ := fc_join (L := L1) (c := 41) (cf := 35) (by decide) (by decide) (rc := gp_ms ln lo hi cu.testBit s a) (by omega)
  have f1 : faC L1 41 ln lo hi (rcS ln lo hi so pl br cu) (fun m => m < me) := fun t ht => by
    rw [← q6 t ht]
    unfold fm
    rw [c2 _ (by omega)]
  have f2 : faC L1 41 ln lo hi (rcA (rcS ln lo hi so pl br cu) me (gp_ms ln lo hi cu.testBit s a)) (fun m => m < me) := faC_cg (fun _ => Iff.rfl) (fun m hm => by unfold rcA; rw [if_neg (by omega)]) f1
  have ev : rcA (rcS ln lo hi so pl br cu) me (gp_ms ln lo hi cu.testBit s a) me = gp_ms ln lo hi cu.testBit s a := by unfold rcA; rw [if_pos rfl]
  have f3 := faC_join (L' := L2) (m := me) (foC_fr hF (c1 36 (by decide))) f2 (by omega) (by rw [ev]; omega) (by rw [ev]; exact j2)
  have rr := faC_rk f3
  refine ⟨L2, ?_, fun x h1 h2 => (j1 x h1 h2).trans (c1 x h1)⟩
  unfold fX6_gain
  rw [c0, Option.bind_some, cc_open hp hs, Option.bind_some, lf, Option.bind_some, j0, Option.bind_some, rr, Option.bind_some, q1]
  rfl
theorem lm_brings (hp : plM N nd ln lo hi) (hb : stB nd ln me so pl br cu) (hs : stM N 0 me so pl br cu) (hW : wiM L) (hF : foM L ln lo hi) {s a : Nat} (h5 : s < 5) (ha : a < (if s < 2 then ln else nd)) : ∃ L', fX12_bringsOf (nI s) (nI a) N L = some (nI (rkG ln lo hi me so pl br cu s a) - nI (rkS ln lo hi me so pl br cu), L') ∧ ∀ x, x ≠ 15 → L' x = L x := by
  obtain ⟨L1, q0, q1, q2, q3⟩ := lm_rank hp hb hs hW hF
  have c1 := stB_c hp hb
  have hpb := hp.2.2.1
  have gl := gp_ms_lt (ln := ln) (lo := lo) (hi := hi) s a cu.testBit
  have p10 : 2 ^ ln ≤ 1024 := show 2 ^ ln ≤ 2 ^ 10 from Nat.pow_le_pow_right (by decide) hpb.2.2
  have ms := pm_mayServe hp (cu := cu) (by omega) h5 ha
  obtain ⟨L2, j0, j1, j2, j3⟩ := lm_more (L := L1) hp (wiM_fr hW (q1 16 (by decide))) (f := 8192) (t0 := 8208) (may := gp_ms ln lo hi cu.testBit s a) (by decide) (by decide) (by decide) (by omega)
  have ev : rcA (rcS ln lo hi so pl br cu) me (gp_ms ln lo hi cu.testBit s a) me = gp_ms ln lo hi cu.testBit s a := by unfold rcA; rw [if_pos rfl]
  have st := lm_step (L := L1) (L' := L2) hpb.2.2 (rc := rcA (rcS ln lo hi so pl br cu) me (gp_ms ln lo hi cu.testBit s a)) (M := fun m => m < me) (m := me) (by omega) ev gl (fun t ht => (q3 t ht).trans (mq_cg (fun _ => Iff.rfl) (fun m hm => by unfold rcA; rw [if_neg (by omega)]))) j3
  have rr := lm_rk hp (foM_fr hF ((j1 13 (by decide)).trans (q1 13 (by decide)))) (p := 8208) (by decide) st
  refine ⟨L2, ?_, fun x h1 => (j1 x h1).trans (q1 x h1)⟩
  unfold fX12_bringsOf
  rw [q0, Option.bind_some, show N 1 2 = nI cu from hs.2.2.1, ms, Option.bind_some, li_8192, li_8208, j0, Option.bind_some, rr, Option.bind_some]
  rfl
theorem cc_loss (hp : plC N 1 nd ln lo hi) (hb : stB nd ln me so pl br cu) (hs : stC N 19 me so pl br cu) (hF : foC L ln lo hi) (hi1 : siC N L ln lo hi me so pl br cu) {l : Nat} (hl : l < ln) : ∃ L', fX6_lossOf (nI l) N L = some (nI (rkS ln lo hi me so pl br cu) - nI (rkS ln lo hi me so pl br (cu ||| 2 ^ l)), L') ∧ ∀ x, x ≠ 42 → x ≠ 43 → L' x = L x := by
  have hpb := hp.2.2.1
  have me9 : me ≤ 9 := hb.1.1
  have p10 : 2 ^ ln ≤ 1024 := show 2 ^ ln ≤ 2 ^ 10 from Nat.pow_le_pow_right (by decide) hpb.2.2
  obtain ⟨L1, c0, c1, c2⟩ := fc_start L 41
  have op : nI (bsN (fun j => !cu.testBit j) ln) &&& (((1 : Int32) <<< (nI l &&& 31)) ^^^ (-1 : Int32)) = nI (bsN (fun j => !(cu ||| 2 ^ l).testBit j) ln) := by
    rw [pb_pow (by omega), pb_andn (n := ln) (bsN_lt _ _) (by omega)]
    refine congrArg nI (bsN_cong ln (fun j hj => ?_))
    rw [bsN_tb, Nat.testBit_or]
    simp [hj]
  have hlp : ∃ L', ux_lp (fun t : Int32 × ux_L => fX6_lossOf_20b (nI (bsN (fun j => !(cu ||| 2 ^ l).testBit j) ln)) t.1 N t.2) ux_fu ((0 : Int32), L1) = some L' ∧ ((∀ x, x ≠ 42 → x ≠ 43 → L' x = L x) ∧ faC L' 41 ln lo hi (rcS ln lo hi so pl br (cu ||| 2 ^ l)) (fun m => m < me)) := by
    refine lp_inv (fun i t => t.1 = nI i ∧ (∀ x, x ≠ 42 → x ≠ 43 → t.2 x = L x) ∧ faC t.2 41 ln lo hi (rcS ln lo hi so pl br (cu ||| 2 ^ l)) (fun m => m < i)) _ me ?_ (by omega) ?_ ?_
    · exact ⟨rfl, fun a h1 _ => c1 a h1, faC_none (fun m h => by omega) c2⟩
    · intro i ⟨v, L2⟩ hk ⟨e, g1, g2⟩
      dsimp only at e g1 g2 ⊢
      subst e
      have rl := rcS_lt ln lo hi so pl br (cu ||| 2 ^ l) i
      have rr := cc_reachOf hp hb hs (c := cu ||| 2 ^ l) hk
      obtain ⟨L3, q0, q1, q2⟩ := fc_join (L := L2) (c := 41) (cf := 35) (by decide) (by decide) (rc := rcS ln lo hi so pl br (cu ||| 2 ^ l) i) (by omega)
      refine Or.inl ⟨(nI (i + 1), L3), ?_, rfl, fun a h1 h2 => (q1 a h1 h2).trans (g1 a h1 h2), ?_⟩
      · simp (disch := omega) only [fX6_lossOf_20b, hs.1, rr, q0, li_0, li_1, li_2, li_3, li_4, li_5, li_6, li_7, li_8, li_9, li_10, li_11, li_12, li_13, li_14, li_16, li_18, li_20, li_21, li_24, li_31, li_32, li_40, li_42, li_48, li_57, li_59, li_64, li_97, li_99, li_122, li_128, li_147, li_189, li_200, li_231, li_252, li_255, li_512, li_1023, li_1024, li_8192, li_8208, li_9999, li_50000, li_500000, nI_leI, nI_ltI, nI_eq, pb_in, nI_clamp, nI_add, pk_mul, pk_sub, qb_bit1, qb_bit0, qb_pow, qb_m1, qb_m1', qb_ofn, Option.bind_some, ↓reduceIte, eq_self, if_true, if_false, Sum.elim_inl, Sum.elim_inr]
        rw [if_neg (by omega)]
      · exact faC_cg (fun m => by omega) (fun _ _ => rfl) (faC_join (m := i) (foC_fr hF (g1 36 (by decide) (by decide))) g2 (by omega) (by omega) q2)
    · intro ⟨v, L2⟩ ⟨e, g1, g2⟩
      dsimp only at e g1 g2 ⊢
      subst e
      refine ⟨L2, ?_, g1, g2⟩
      simp (disch := omega) only [fX6_lossOf_20b, hs.1, li_0, li_1, li_2, li_3, li_4, li_5, li_6, li_7, li_8, li_9, li_10, li_11, li_12, li_13, li_14, li_16, li_18, li_20, li_21, li_24, li_31, li_32, li_40, li_42, li_48, li_57, li_59, li_64, li_97, li_99, li_122, li_128, li_147, li_189, li_200, li_231, li_252, li_255, li_512, li_1023, li_1024, li_8192, li_8208, li_9999, li_50000, li_500000, nI_leI, nI_ltI, nI_eq, pb_in, nI_clamp, nI_add, pk_mul, pk_sub, qb_bit1, qb_bit0, qb_pow, qb_m1, qb_m1', qb_ofn, Option.bind_some, ↓reduceIte, eq_self, if_true, if_false, Sum.elim_inl, Sum.elim_inr]
      simp
  obtain ⟨L2, d0, d1, d2⟩ := hlp
  refine ⟨L2, ?_, d1⟩
  unfold fX6_lossOf
  rw [cc_open hp hs, Option.bind_some, c0, Option.bind_some, op, d0, Option.bind_some, faC_rk d2, Option.bind_some, hi1.1]
  rfl
theorem lm_loss (hp : plM N nd ln lo hi) (hb : stB nd ln me so pl br cu) (hs : stM N 0 me so pl br cu) (hW : wiM L) (hF : foM L ln lo hi) {l : Nat} (hl : l < ln) : ∃ L1 L', fX12_rank N L = some (nI (rkS ln lo hi me so pl br cu), L1) ∧ fX12_layTried ((N 1 2) ||| ((1 : Int32) <<< (nI l &&& 31))) N L1 = some (nI (rkS ln lo hi me so pl br (cu ||| 2 ^ l)), L') ∧ ∀ x, x ≠ 15 → L' x = L x := by
  obtain ⟨L1, q0, q1, q2, q3⟩ := lm_rank hp hb hs hW hF
  have c1 := stB_c hp hb
  have hpb := hp.2.2.1
  have lt : cu ||| 2 ^ l < 2 ^ 10 := Nat.or_lt_two_pow c1 (Nat.pow_lt_pow_right (by decide) (by omega))
  obtain ⟨L2, j0, j1, j2⟩ := lm_tried hp hb hs (wiM_fr hW (q1 16 (by decide))) (foM_fr hF (q1 13 (by decide))) (c := cu ||| 2 ^ l) (by omega)
  refine ⟨L1, L2, q0, ?_, fun x h1 => (j1 x h1).trans (q1 x h1)⟩
  rw [show N 1 2 = nI cu from hs.2.2.1, pb_pow (by omega), fa_or, j0]
  rfl
theorem cc_crit (hp : plC N 1 nd ln lo hi) (hb : stB nd ln me so pl br cu) (hs : stC N 19 me so pl br cu) (hF : foC L ln lo hi) (hi1 : siC N L ln lo hi me so pl br cu) {k : Nat} (hk0 : k < me) : ∃ L', fX6_isCritical (nI k) N L = some (if rkS ln lo hi me so pl br cu ≤ rk (qP ln lo hi (rcS ln lo hi so pl br cu) (fun m => m < me ∧ m ≠ k)) then 0 else 1, L') ∧ ∀ x, x ≠ 42 → x ≠ 43 → L' x = L x := by
  have hpb := hp.2.2.1
  have me9 : me ≤ 9 := hb.1.1
  have p10 : 2 ^ ln ≤ 1024 := show 2 ^ ln ≤ 2 ^ 10 from Nat.pow_le_pow_right (by decide) hpb.2.2
  obtain ⟨L1, c0, c1, c2⟩ := fc_start L 41
  have hlp : ∃ L', ux_lp (fun t : Int32 × ux_L => fX6_isCritical_9b (nI k) t.1 N t.2) ux_fu ((0 : Int32), L1) = some L' ∧ ((∀ x, x ≠ 42 → x ≠ 43 → L' x = L x) ∧ faC L' 41 ln lo hi (rcS ln lo hi so pl br cu) (fun m => m < me ∧ m ≠ k)) := by
    refine lp_inv (fun i t => t.1 = nI i ∧ (∀ x, x ≠ 42 → x ≠ 43 → t.2 x = L x) ∧ faC t.2 41 ln lo hi (rcS ln lo hi so pl br cu) (fun m => m < i ∧ m ≠ k)) _ me ?_ (by omega) ?_ ?_
    · exact ⟨rfl, fun a h1 _ => c1 a h1, faC_none (fun m h => by omega) c2⟩
    · intro i ⟨v, L2⟩ hk ⟨e, g1, g2⟩
      dsimp only at e g1 g2 ⊢
      subst e
      by_cases q : i = k
      · refine Or.inl ⟨(nI (i + 1), L2), ?_, rfl, g1, faC_cg (fun m => by omega) (fun _ _ => rfl) g2⟩
        simp (disch := omega) only [fX6_isCritical_9b, fX6_isCritical_9b_42, hs.1, li_0, li_1, li_2, li_3, li_4, li_5, li_6, li_7, li_8, li_9, li_10, li_11, li_12, li_13, li_14, li_16, li_18, li_20, li_21, li_24, li_31, li_32, li_40, li_42, li_48, li_57, li_59, li_64, li_97, li_99, li_122, li_128, li_147, li_189, li_200, li_231, li_252, li_255, li_512, li_1023, li_1024, li_8192, li_8208, li_9999, li_50000, li_500000, nI_leI, nI_ltI, nI_eq, pb_in, nI_clamp, nI_add, pk_mul, pk_sub, qb_bit1, qb_bit0, qb_pow, qb_m1, qb_m1', qb_ofn, Option.bind_some, ↓reduceIte, eq_self, if_true, if_false, Sum.elim_inl, Sum.elim_inr]
        rw [if_neg (by omega), if_pos q]
      · have rl := rcS_lt ln lo hi so pl br cu i
        have r4 := hi1.2.2.2.1 i hk
        obtain ⟨L3, q0, q1, q2⟩ := fc_join (L := L2) (c := 41) (cf := 35) (by decide) (by decide) (rc := rcS ln lo hi so pl br cu i) (by omega)
        refine Or.inl ⟨(nI (i + 1), L3), ?_, rfl, fun a h1 h2 => (q1 a h1 h2).trans (g1 a h1 h2), ?_⟩
        · simp (disch := omega) only [fX6_isCritical_9b, fX6_isCritical_9b_42, hs.1, r4, q0, li_0, li_1, li_2, li_3, li_4, li_5, li_6, li_7, li_8, li_9, li_10, li_11, li_12, li_13, li_14, li_16, li_18, li_20, li_21, li_24, li_31, li_32, li_40, li_42, li_48, li_57, li_59, li_64, li_97, li_99, li_122, li_128, li_147, li_189, li_200, li_231, li_252, li_255, li_512, li_1023, li_1024, li_8192, li_8208, li_9999, li_50000, li_500000, nI_leI, nI_ltI, nI_eq, pb_in, nI_clamp, nI_add, pk_mul, pk_sub, qb_bit1, qb_bit0, qb_pow, qb_m1, qb_m1', qb_ofn, Option.bind_some, ↓reduceIte, eq_self, if_true, if_false, Sum.elim_inl, Sum.elim_inr]
          rw [if_neg (by omega), if_neg q]
        · exact faC_cg (fun m => by omega) (fun _ _ => rfl) (faC_join (m := i) (foC_fr hF (g1 36 (by decide) (by decide))) g2 (by omega) (by omega) q2)
    · intro ⟨v, L2⟩ ⟨e, g1, g2⟩
      dsimp only at e g1 g2 ⊢
      subst e
      refine ⟨L2, ?_, g1, g2⟩
      simp (disch := omega) only [fX6_isCritical_9b, hs.1, li_0, li_1, li_2, li_3, li_4, li_5, li_6, li_7, li_8, li_9, li_10, li_11, li_12, li_13, li_14, li_16, li_18, li_20, li_21, li_24, li_31, li_32, li_40, li_42, li_48, li_57, li_59, li_64, li_97, li_99, li_122, li_128, li_147, li_189, li_200, li_231, li_252, li_255, li_512, li_1023, li_1024, li_8192, li_8208, li_9999, li_50000, li_500000, nI_leI, nI_ltI, nI_eq, pb_in, nI_clamp, nI_add, pk_mul, pk_sub, qb_bit1, qb_bit0, qb_pow, qb_m1, qb_m1', qb_ofn, Option.bind_some, ↓reduceIte, eq_self, if_true, if_false, Sum.elim_inl, Sum.elim_inr]
      simp
  obtain ⟨L2, d0, d1, d2⟩ := hlp
  refine ⟨L2, ?_, d1⟩
  have b1 := rk_le (qP ln lo hi (rcS ln lo hi so pl br cu) (fun m => m < me ∧ m ≠ k))
  have b2 : rkS ln lo hi me so pl br cu ≤ 10 := rk_le _
  unfold fX6_isCritical
  rw [c0, Option.bind_some, d0, Option.bind_some, faC_rk d2, Option.bind_some, hi1.1]
  by_cases q : rkS ln lo hi me so pl br cu ≤ rk (qP ln lo hi (rcS ln lo hi so pl br cu) (fun m => m < me ∧ m ≠ k))
  · rw [if_pos (nI_leI (by omega) (by omega) |>.mpr q), if_pos q]; rfl
  · rw [if_neg (fun z => q ((nI_leI (by omega) (by omega)).mp z)), if_neg q]; rfl
theorem allBits {me : Nat} (m : Nat) : ((2 ^ me - 1).testBit m = true) ↔ m < me := by rw [Nat.testBit_two_pow_sub_one]; simp
theorem lm_crit (hp : plM N nd ln lo hi) (hb : stB nd ln me so pl br cu) (hs : stM N 0 me so pl br cu) (hW : wiM L) (hF : foM L ln lo hi) {k : Nat} (hk0 : k < me) : ∃ L', fX12_isCritical (nI k) N L = some (if rkS ln lo hi me so pl br cu ≤ rk (qP ln lo hi (rcS ln lo hi so pl br cu) (fun m => m < me ∧ m ≠ k)) then 0 else 1, L') ∧ ∀ x, x ≠ 15 → L' x = L x := by
  have me9 : me ≤ 9 := hb.1.1
  have pm : 2 ^ me ≤ 512 := show 2 ^ me ≤ 2 ^ 9 from Nat.pow_le_pow_right (by decide) me9
  have pm0 : 0 < 2 ^ me := Nat.two_pow_pos me
  obtain ⟨L1, a0, a1, a2⟩ := lm_all hp hb hs hW
  have hF1 := foM_fr hF (a1 13 (by decide))
  have lt2 : bsN (fun j => (2 ^ me - 1).testBit j && !(2 ^ k).testBit j) me < 2 ^ me := bsN_lt _ _
  have e1 : (16 : Int32) * ((((1 : Int32) <<< (nI me &&& 31)) - (1 : Int32)) &&& (((1 : Int32) <<< (nI k &&& 31)) ^^^ (-1 : Int32))) = nI (16 * bsN (fun j => (2 ^ me - 1).testBit j && !(2 ^ k).testBit j) me) := by
    rw [pb_all (by omega), pb_pow (by omega), pb_andn (n := me) (by omega) (by omega), li_16, pk_mul]
  have e2 : (16 : Int32) * (((1 : Int32) <<< (nI me &&& 31)) - (1 : Int32)) = nI (16 * (2 ^ me - 1)) := by
    rw [pb_all (by omega), li_16, pk_mul]
  have r1 := lm_rk hp hF1 (p := 16 * bsN (fun j => (2 ^ me - 1).testBit j && !(2 ^ k).testBit j) me) (by omega) (a2 _ lt2)
  have r2 := lm_rk hp hF1 (p := 16 * (2 ^ me - 1)) (by omega) (a2 _ (by omega))
  have g1 : rk (qP ln lo hi (rcS ln lo hi so pl br cu) (fun m => (bsN (fun j => (2 ^ me - 1).testBit j && !(2 ^ k).testBit j) me).testBit m = true)) = rk (qP ln lo hi (rcS ln lo hi so pl br cu) (fun m => m < me ∧ m ≠ k)) := by
    refine rk_cg (fun s _ => ?_)
    unfold qP
    rw [mq_cg (M' := fun m => m < me ∧ m ≠ k) (fun m => ?_) (fun _ _ => rfl)]
    rw [bsN_tb, Nat.testBit_two_pow_sub_one, Nat.testBit_two_pow]
    simp only [Bool.and_eq_true, decide_eq_true_eq, Bool.not_eq_true', decide_eq_false_iff_not]
    constructor
    · intro ⟨z1, z2, z3⟩; exact ⟨z1, fun e => z3 e.symm⟩
    · intro ⟨z1, z2⟩; exact ⟨z1, z1, fun e => z2 e.symm⟩
  have g2 : rk (qP ln lo hi (rcS ln lo hi so pl br cu) (fun m => (2 ^ me - 1).testBit m = true)) = rkS ln lo hi me so pl br cu := by
    refine rk_cg (fun s _ => ?_)
    unfold qP
    rw [mq_cg (M' := fun m => m < me) (fun m => allBits m) (fun _ _ => rfl)]
  have b1 := rk_le (qP ln lo hi (rcS ln lo hi so pl br cu) (fun m => m < me ∧ m ≠ k))
  have b2 : rkS ln lo hi me so pl br cu ≤ 10 := rk_le _
  refine ⟨L1, ?_, a1⟩
  unfold fX12_isCritical
  rw [a0, Option.bind_some, show N 1 0 = nI me from hs.1, e1, r1, Option.bind_some, e2, r2, Option.bind_some, g1, g2]
  by_cases q : rkS ln lo hi me so pl br cu ≤ rk (qP ln lo hi (rcS ln lo hi so pl br cu) (fun m => m < me ∧ m ≠ k))
  · rw [if_pos (nI_leI (by omega) (by omega) |>.mpr q), if_pos q]; rfl
  · rw [if_neg (fun z => q ((nI_leI (by omega) (by omega)).mp z)), if_neg q]; rfl
end GAI
