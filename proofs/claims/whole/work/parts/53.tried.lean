/-! where the meters stand, and the reference's rank and tree -/
def stB (nd ln me : Nat) (so pl : Nat → Nat) (br cu : Nat) : Prop := (me ≤ 9 ∧ br < 2 ^ me ∧ cu < 2 ^ ln) ∧ ∀ m, m < me → so m < 5 ∧ pl m < (if so m < 2 then ln else nd)
def stM (N : ux_N) (p me : Nat) (so pl : Nat → Nat) (br cu : Nat) : Prop := N 1 p = nI me ∧ N 1 (p + 1) = nI br ∧ N 1 (p + 2) = nI cu ∧ ∀ m, m < me → N 1 (p + 3 + m) = nI (so m) ∧ N 1 (p + 12 + m) = nI (pl m)
def rcS (ln : Nat) (lo hi : Nat → Nat) (so pl : Nat → Nat) (br cu m : Nat) : Nat := if br.testBit m = true then 0 else gp_ms ln lo hi cu.testBit (so m) (pl m)
theorem rcS_lt (ln : Nat) (lo hi so pl : Nat → Nat) (br cu m : Nat) : rcS ln lo hi so pl br cu m < 2 ^ ln := by
  unfold rcS
  split
  · exact Nat.two_pow_pos ln
  · exact bsN_lt _ ln
section TRI
variable {N : ux_N} {L : ux_L} {nd ln : Nat} {lo hi : Nat → Nat} {me : Nat} {so pl : Nat → Nat} {br cu : Nat}
theorem stB_b (hb : stB nd ln me so pl br cu) : br < 512 := Nat.lt_of_lt_of_le hb.1.2.1 (show 2 ^ me ≤ 2 ^ 9 from Nat.pow_le_pow_right (by decide) hb.1.1)
theorem lm_mayOf (hp : plM N nd ln lo hi) (hb : stB nd ln me so pl br cu) (hs : stM N 0 me so pl br cu) {c m : Nat} (hc : c < 2 ^ 31) (hm : m < me) : fX12_mayOf (nI m) (nI c) N = some (nI (rcS ln lo hi so pl br c m)) := by
  have hbr := stB_b hb
  obtain ⟨⟨b1, b2, b3⟩, b4⟩ := hb
  obtain ⟨s0, s1, s2, s3⟩ := hs
  obtain ⟨k1, k2⟩ := b4 m hm
  obtain ⟨l1, l2⟩ := s3 m hm
  rw [Nat.zero_add] at l1 l2 s1
  have k3 : so m < 2 ^ 31 := by omega
  have ms := pm_mayServe hp hc k1 k2
  unfold rcS
  by_cases q : br.testBit m = true
  · rw [if_pos q]
    simp (disch := omega) only [fX12_mayOf, fX12_mayOf_39, s1, pm_has, li_0, li_1, li_2, li_3, li_4, li_5, li_6, li_7, li_8, li_9, li_10, li_11, li_12, li_13, li_14, li_16, li_18, li_20, li_21, li_24, li_31, li_32, li_40, li_42, li_48, li_57, li_59, li_64, li_97, li_99, li_122, li_128, li_147, li_189, li_200, li_231, li_252, li_255, li_512, li_1023, li_1024, li_8192, li_8208, li_9999, li_50000, li_500000, nI_leI, nI_ltI, nI_eq, pb_in, nI_clamp, nI_add, pk_mul, pk_sub, qb_bit1, qb_bit0, qb_pow, qb_m1, qb_m1', qb_ofn, Option.bind_some, ↓reduceIte, eq_self, if_true, if_false, Sum.elim_inl, Sum.elim_inr]
    rw [if_pos q, if_neg (by decide)]
  · rw [if_neg q]
    simp (disch := omega) only [fX12_mayOf, fX12_mayOf_39, s1, pm_has, l1, l2, ms, li_0, li_1, li_2, li_3, li_4, li_5, li_6, li_7, li_8, li_9, li_10, li_11, li_12, li_13, li_14, li_16, li_18, li_20, li_21, li_24, li_31, li_32, li_40, li_42, li_48, li_57, li_59, li_64, li_97, li_99, li_122, li_128, li_147, li_189, li_200, li_231, li_252, li_255, li_512, li_1023, li_1024, li_8192, li_8208, li_9999, li_50000, li_500000, nI_leI, nI_ltI, nI_eq, pb_in, nI_clamp, nI_add, pk_mul, pk_sub, qb_bit1, qb_bit0, qb_pow, qb_m1, qb_m1', qb_ofn, Option.bind_some, ↓reduceIte, eq_self, if_true, if_false, Sum.elim_inl, Sum.elim_inr]
    rw [if_neg q, if_pos rfl]
theorem lm_copy37 (v1 v2 : Int32) : ∃ L', ux_lp (fun s : Int32 × ux_L => fX12_layTried_37b v1 v2 s.1 N s.2) ux_fu ((0 : Int32), L) = some L' ∧ ((∀ a, a ≠ 15 → L' a = L a) ∧ (∀ k, k < 8192 → L' 15 k = L 15 k) ∧ ∀ k, k < 16 → L' 15 (8192 + k) = L 15 (8208 + k)) := by
  refine lp_inv (fun i s => s.1 = nI i ∧ (∀ a, a ≠ 15 → s.2 a = L a) ∧ (∀ k, k < 8192 → s.2 15 k = L 15 k) ∧ (∀ k, k < i → s.2 15 (8192 + k) = L 15 (8208 + k)) ∧ ∀ k, 8208 ≤ k → s.2 15 k = L 15 k) _ 16 ?_ (by decide) ?_ ?_
  · exact ⟨rfl, fun _ _ => rfl, fun _ _ => rfl, fun k h => by omega, fun _ _ => rfl⟩
  · intro i ⟨v, L1⟩ hk ⟨e, g1, g2, g3, g4⟩
    dsimp only at e g1 g2 g3 g4 ⊢
    subst e
    have r1 : L1 15 (8208 + i) = L 15 (8208 + i) := g4 _ (by omega)
    refine Or.inl ⟨(nI (i + 1), ux_w L1 15 (8192 + i) (L 15 (8208 + i))), ?_, rfl, fun a ha => (uw_ne L1 _ _ ha).trans (g1 a ha), fun k hk => ?_, fun k hk => ?_, fun k hk => ?_⟩
    · simp (disch := omega) only [fX12_layTried_37b, r1, li_0, li_1, li_2, li_3, li_4, li_5, li_6, li_7, li_8, li_9, li_10, li_11, li_12, li_13, li_14, li_16, li_18, li_20, li_21, li_24, li_31, li_32, li_40, li_42, li_48, li_57, li_59, li_64, li_97, li_99, li_122, li_128, li_147, li_189, li_200, li_231, li_252, li_255, li_512, li_1023, li_1024, li_8192, li_8208, li_9999, li_50000, li_500000, nI_leI, nI_ltI, nI_eq, pb_in, nI_clamp, nI_add, pk_mul, pk_sub, qb_bit1, qb_bit0, qb_pow, qb_m1, qb_m1', qb_ofn, Option.bind_some, ↓reduceIte, eq_self, if_true, if_false, Sum.elim_inl, Sum.elim_inr]
      rw [if_neg (by omega)]
    · dsimp only
      rw [uw_same, if_neg (by omega)]; exact g2 k hk
    · dsimp only
      rw [uw_same]
      by_cases e : k = i
      · rw [if_pos (by omega), e]
      · rw [if_neg (by omega)]; exact g3 k (by omega)
    · dsimp only
      rw [uw_same, if_neg (by omega)]; exact g4 k hk
  · intro ⟨v, L1⟩ ⟨e, g1, g2, g3, g4⟩
    dsimp only at e g1 g2 g3 g4 ⊢
    subst e
    refine ⟨L1, ?_, g1, g2, g3⟩
    simp (disch := omega) only [fX12_layTried_37b, li_0, li_1, li_2, li_3, li_4, li_5, li_6, li_7, li_8, li_9, li_10, li_11, li_12, li_13, li_14, li_16, li_18, li_20, li_21, li_24, li_31, li_32, li_40, li_42, li_48, li_57, li_59, li_64, li_97, li_99, li_122, li_128, li_147, li_189, li_200, li_231, li_252, li_255, li_512, li_1023, li_1024, li_8192, li_8208, li_9999, li_50000, li_500000, nI_leI, nI_ltI, nI_eq, pb_in, nI_clamp, nI_add, pk_mul, pk_sub, qb_bit1, qb_bit0, qb_pow, qb_m1, qb_m1', qb_ofn, Option.bind_some, ↓reduceIte, eq_self, if_true, if_false, Sum.elim_inl, Sum.elim_inr]
    simp
/-- the table of the reference -/
def wiM (L : ux_L) : Prop := ∀ l, l < 6 → ∀ j, j < 64 → lb (L 16 l) j = !j.testBit l
theorem lm_tried (hp : plM N nd ln lo hi) (hb : stB nd ln me so pl br cu) (hs : stM N 0 me so pl br cu) (hW : wiM L) (hF : foM L ln lo hi) {c : Nat} (hc : c < 2 ^ 31) : ∃ L', fX12_layTried (nI c) N L = some (nI (rk (qP ln lo hi (rcS ln lo hi so pl br c) (fun m => m < me))), L') ∧ (∀ a, a ≠ 15 → L' a = L a) ∧ (∀ k, k < 8192 → L' 15 k = L 15 k) ∧ ∀ s, s < 1024 → (gS L' 8192 s = true ↔ mq_MT (rcS ln lo hi so pl br c) (fun m => m < me) s) := by
  have b3 : ln ≤ 10 := hp.2.2.1.2.2
  have me9 : me ≤ 9 := hb.1.1
  obtain ⟨L0, a0, a1, a2, a3⟩ := lm_none (L := L) (p := 8192) (by decide)
  have hlp : ∃ L', ux_lp (fun t : Int32 × ux_L => fX12_layTried_9b (nI c) t.1 N t.2) ux_fu ((0 : Int32), L0) = some L' ∧ ((∀ a, a ≠ 15 → L' a = L a) ∧ (∀ k, k < 8192 → L' 15 k = L 15 k) ∧ ∀ s, s < 1024 → (gS L' 8192 s = true ↔ mq_MT (rcS ln lo hi so pl br c) (fun m => m < me) s)) := by
    refine lp_inv (fun i t => t.1 = nI i ∧ (∀ a, a ≠ 15 → t.2 a = L a) ∧ (∀ k, k < 8192 → t.2 15 k = L 15 k) ∧ ∀ s, s < 1024 → (gS t.2 8192 s = true ↔ mq_MT (rcS ln lo hi so pl br c) (fun m => m < i) s)) _ me ?_ (by omega) ?_ ?_
    · refine ⟨rfl, a1, fun k hk => a2 k (by omega), fun s hs => ?_⟩
      dsimp only
      rw [a3 s hs, mq_none (fun m h => by omega), decide_eq_true_iff]
    · intro i ⟨v, L1⟩ hk ⟨e, g1, g2, g3⟩
      dsimp only at e g1 g2 g3 ⊢
      subst e
      have ms := lm_mayOf hp hb hs hc hk
      have rl := rcS_lt ln lo hi so pl br c i
      have p10 : 2 ^ ln ≤ 1024 := show 2 ^ ln ≤ 2 ^ 10 from Nat.pow_le_pow_right (by decide) b3
      obtain ⟨L2, q0, q1, q2, q3⟩ := lm_more (L := L1) hp (by rw [g1 16 (by decide)]; exact hW) (f := 8192) (t0 := 8208) (may := rcS ln lo hi so pl br c i) (by decide) (by decide) (by decide) (by omega)
      obtain ⟨L3, r0, r1, r2, r3⟩ := lm_copy37 (N := N) (L := L2) (nI c) (nI i)
      have st := lm_step (L := L1) (L' := L2) b3 (M := fun m => m < i) (m := i) (by omega) rfl rl g3 q3
      refine Or.inl ⟨(nI (i + 1), L3), ?_, rfl, fun a ha => (r1 a ha).trans ((q1 a ha).trans (g1 a ha)), fun k hk => (r2 k hk).trans ((q2 k (by omega)).trans (g2 k hk)), fun s hs => ?_⟩
      · rw [li_0] at r0
        simp (disch := omega) only [fX12_layTried_9b, hs.1, ms, q0, r0, li_0, li_1, li_2, li_3, li_4, li_5, li_6, li_7, li_8, li_9, li_10, li_11, li_12, li_13, li_14, li_16, li_18, li_20, li_21, li_24, li_31, li_32, li_40, li_42, li_48, li_57, li_59, li_64, li_97, li_99, li_122, li_128, li_147, li_189, li_200, li_231, li_252, li_255, li_512, li_1023, li_1024, li_8192, li_8208, li_9999, li_50000, li_500000, nI_leI, nI_ltI, nI_eq, pb_in, nI_clamp, nI_add, pk_mul, pk_sub, qb_bit1, qb_bit0, qb_pow, qb_m1, qb_m1', qb_ofn, Option.bind_some, ↓reduceIte, eq_self, if_true, if_false, Sum.elim_inl, Sum.elim_inr]
        rw [if_neg (by omega)]
      · dsimp only
        rw [gm_upto, ← st s hs]
        unfold gS
        rw [r3 _ (by omega)]
    · intro ⟨v, L1⟩ ⟨e, g1, g2, g3⟩
      dsimp only at e g1 g2 g3 ⊢
      subst e
      refine ⟨L1, ?_, g1, g2, g3⟩
      simp (disch := omega) only [fX12_layTried_9b, hs.1, li_0, li_1, li_2, li_3, li_4, li_5, li_6, li_7, li_8, li_9, li_10, li_11, li_12, li_13, li_14, li_16, li_18, li_20, li_21, li_24, li_31, li_32, li_40, li_42, li_48, li_57, li_59, li_64, li_97, li_99, li_122, li_128, li_147, li_189, li_200, li_231, li_252, li_255, li_512, li_1023, li_1024, li_8192, li_8208, li_9999, li_50000, li_500000, nI_leI, nI_ltI, nI_eq, pb_in, nI_clamp, nI_add, pk_mul, pk_sub, qb_bit1, qb_bit0, qb_pow, qb_m1, qb_m1', qb_ofn, Option.bind_some, ↓reduceIte, eq_self, if_true, if_false, Sum.elim_inl, Sum.elim_inr]
      simp
  obtain ⟨L', q0, q1, q2, q3⟩ := hlp
  refine ⟨L', ?_, q1, q2, q3⟩
  have hF' : foM L' ln lo hi := fun n hn s hs => by
    have := hF n hn s hs
    unfold fmF at this ⊢
    rw [q1 13 (by decide)]; exact this
  have rr := lm_rk hp hF' (p := 8192) (by decide) q3
  unfold fX12_layTried
  rw [li_8192, a0, Option.bind_some, q0, Option.bind_some, rr]
  rfl
/-- the rank and the tree, as meters stand -/
noncomputable def rkS (ln : Nat) (lo hi : Nat → Nat) (me : Nat) (so pl : Nat → Nat) (br cu : Nat) : Nat := rk (qP ln lo hi (rcS ln lo hi so pl br cu) (fun m => m < me))
noncomputable def trS (ln : Nat) (lo hi : Nat → Nat) (me : Nat) (so pl : Nat → Nat) (br cu : Nat) : Nat := tr (qP ln lo hi (rcS ln lo hi so pl br cu) (fun m => m < me))
theorem stB_c (hp : plM N nd ln lo hi) (hb : stB nd ln me so pl br cu) : cu < 1024 := Nat.lt_of_lt_of_le hb.1.2.2 (show 2 ^ ln ≤ 2 ^ 10 from Nat.pow_le_pow_right (by decide) hp.2.2.1.2.2)
theorem lm_rank (hp : plM N nd ln lo hi) (hb : stB nd ln me so pl br cu) (hs : stM N 0 me so pl br cu) (hW : wiM L) (hF : foM L ln lo hi) : ∃ L', fX12_rank N L = some (nI (rkS ln lo hi me so pl br cu), L') ∧ (∀ a, a ≠ 15 → L' a = L a) ∧ (∀ k, k < 8192 → L' 15 k = L 15 k) ∧ ∀ s, s < 1024 → (gS L' 8192 s = true ↔ mq_MT (rcS ln lo hi so pl br cu) (fun m => m < me) s) := by
  have c1 := stB_c hp hb
  obtain ⟨L', q0, q1⟩ := lm_tried hp hb hs hW hF (c := cu) (by omega)
  refine ⟨L', ?_, q1⟩
  unfold fX12_rank
  rw [show N 1 2 = nI cu from hs.2.2.1, q0]
  rfl
theorem rkS_7 (hp : plM N nd ln lo hi) : rkS ln lo hi me so pl br cu ≤ 7 := by
  obtain ⟨s, a, b, c⟩ := rk_ex0 (qP_0 ln lo hi (rcS ln lo hi so pl br cu) (fun m => m < me))
  unfold rkS
  rw [← c]
  exact qP_7 hp b
theorem lm_tree (hp : plM N nd ln lo hi) (hb : stB nd ln me so pl br cu) (hs : stM N 0 me so pl br cu) (hW : wiM L) (hF : foM L ln lo hi) : ∃ L', fX12_tree N L = some (nI (trS ln lo hi me so pl br cu), L') ∧ (∀ a, a ≠ 15 → L' a = L a) ∧ (∀ k, k < 8192 → L' 15 k = L 15 k) := by
  obtain ⟨L1, q0, q1, q2, q3⟩ := lm_rank hp hb hs hW hF
  refine ⟨L1, ?_, q1, q2⟩
  have h1 : N 0 2 = nI ln := hp.2.1
  have b3 : ln ≤ 10 := hp.2.2.1.2.2
  have p10 : 2 ^ ln ≤ 1024 := show 2 ^ ln ≤ 2 ^ 10 from Nat.pow_le_pow_right (by decide) b3
  have r7 := rkS_7 (me := me) (so := so) (pl := pl) (br := br) (cu := cu) hp
  obtain ⟨t1, t2, t3, t4⟩ := tr_spec (qP_0 ln lo hi (rcS ln lo hi so pl br cu) (fun m => m < me))
  have tl : trS ln lo hi me so pl br cu < 2 ^ ln := t2.1.1
  have hF' : foM L1 ln lo hi := fun n hn s hs => by
    have := hF n hn s hs
    unfold fmF at this ⊢
    rw [q1 13 (by decide)]; exact this
  have key : ∀ s, s < 1024 → pcn s = rkS ln lo hi me so pl br cu → ((¬ lg_cmp ((L1 15 (8192 + s / 64) &&& L1 13 (16 * rkS ln lo hi me so pl br cu + s / 64)) &&& ((1 : Int64) <<< ((nI (s % 64)).toInt64 &&& 63))) 0 = 0) ↔ qP ln lo hi (rcS ln lo hi so pl br cu) (fun m => m < me) s) := by
    intro s hs1 hpc
    have e1 := q3 s hs1
    have e2 := hF' (rkS ln lo hi me so pl br cu) (by omega) s hs1
    unfold gS at e1
    unfold fmF at e2
    rw [lb_ne0]
    constructor
    · intro ⟨j, hj, z⟩
      rw [lb_and, lb_and, lb_pow _ (by omega) hj, Bool.and_eq_true, Bool.and_eq_true, decide_eq_true_iff] at z
      obtain ⟨⟨z1, z2⟩, z3⟩ := z
      rw [z3] at z1 z2
      exact ⟨(e2.mp z2).1, e1.mp z1⟩
    · intro z
      refine ⟨s % 64, by omega, ?_⟩
      rw [lb_and, lb_and, lb_pow _ (by omega) (by omega), e1.mpr z.2, e2.mpr ⟨z.1, hpc⟩]
      simp
  have body : ∀ s, s < 2 ^ ln → fX12_tree_7b (nI (rkS ln lo hi me so pl br cu)) (nI s) N L1 = if pcn s = rkS ln lo hi me so pl br cu then (if lg_cmp ((L1 15 (8192 + s / 64) &&& L1 13 (16 * rkS ln lo hi me so pl br cu + s / 64)) &&& ((1 : Int64) <<< ((nI (s % 64)).toInt64 &&& 63))) 0 = 0 then some (.inl (nI (s + 1))) else some (.inr (.inl (nI s)))) else some (.inl (nI (s + 1))) := by
    intro s hs1
    have pl10 := pcn_le s
    have hs2 : s < 1024 := by omega
    generalize rkS ln lo hi me so pl br cu = r at r7 ⊢
    have e8 : (8192 : Int32) + nI (s / 64) = nI (8192 + s / 64) := nI_add 8192 _
    have e16 : (16 : Int32) * nI r + nI (s / 64) = nI (16 * r + s / 64) := by rw [li_16, pk_mul, nI_add]
    unfold fX12_tree_7b
    rw [h1, pb_pow (by omega), if_neg (fun q => by have := (nI_leI (by omega) (by omega)).mp q; omega), lm_ones (by omega), Option.bind_some]
    simp (disch := omega) only [fX12_tree_7b_60, fX12_tree_7b_67, pb_div64, pb_rem64', e8, e16, pb_in, nI_clamp, if_true, nI_eq]
    rw [li_1, nI_add]
  have hlp : ux_lp (fun s : Int32 => fX12_tree_7b (nI (rkS ln lo hi me so pl br cu)) s N L1) ux_fu (0 : Int32) = some (.inl (nI (trS ln lo hi me so pl br cu))) := by
    refine lp_at (fun i => nI i) (trS ln lo hi me so pl br cu) rfl (by omega) ?_ ?_
    · intro i hk
      rw [body i (by omega)]
      by_cases e : pcn i = rkS ln lo hi me so pl br cu
      · rw [if_pos e, if_pos]
        refine Classical.byContradiction (fun z => t4 i hk ((key i (by omega) e).mp z) e)
      · rw [if_neg e]
    · have t3' : pcn (trS ln lo hi me so pl br cu) = rkS ln lo hi me so pl br cu := t3
      rw [body _ tl, if_pos t3', if_neg ((key _ (by omega) t3').mpr t2)]
  unfold fX12_tree
  rw [q0, Option.bind_some]
  dsimp only
  rw [hlp]
  rfl
end TRI
