/-! the class's rank and tree -/
def stC (N : ux_N) (h me : Nat) (so pl : Nat → Nat) (br cu : Nat) : Prop := N h 0 = nI me ∧ N h 1 = nI br ∧ N h 2 = nI cu ∧ ∀ m, m < me → N (h + 1) m = nI (so m) ∧ N (h + 2) m = nI (pl m)
def foC (L : ux_L) (ln : Nat) (lo hi : Nat → Nat) : Prop := ∀ s, s < 1024 → (fm (L 36) s = true ↔ (s < 2 ^ ln ∧ gq_ac lo hi s))
def faC (L : ux_L) (c ln : Nat) (lo hi rc : Nat → Nat) (M : Nat → Prop) : Prop := ∀ s, s < 1024 → (fm (L (c + 1)) s = true ↔ qP ln lo hi rc M s)
theorem faC_join {L L' : ux_L} {c ln m : Nat} {lo hi rc : Nat → Nat} {M : Nat → Prop} (hF : foC L ln lo hi) (hM : faC L c ln lo hi rc M) (hm : ¬ M m) (hr : rc m < 2 ^ 10) (h : ∀ s, s < 1024 → fm (L' (c + 1)) s = (fm (L (c + 1)) s || ((List.range 10).any (fun l => (rc m).testBit l && s.testBit l && fm (L (c + 1)) (s ^^^ 2 ^ l)) && fm (L (35 + 1)) s))) : faC L' c ln lo hi rc (fun i => M i ∨ i = m) := by
  intro s hs
  unfold qP
  rw [h s hs, gm_add hm hr, Bool.or_eq_true, Bool.and_eq_true, hM s hs, hF s hs, List.any_eq_true]
  unfold qP
  constructor
  · intro z
    rcases z with z | ⟨⟨l, a, b⟩, z⟩
    · exact ⟨z.1, Or.inl z.2⟩
    · simp only [Bool.and_eq_true] at b
      have hl : l < 10 := List.mem_range.mp a
      exact ⟨z, Or.inr ⟨l, hl, b.1.1, b.1.2, ((hM _ ((xr_s s hs l hl).2 b.1.2).1).mp b.2).2⟩⟩
  · intro ⟨z, q⟩
    rcases q with q | ⟨l, a, b, c, d⟩
    · exact Or.inl ⟨z, q⟩
    · refine Or.inr ⟨⟨l, List.mem_range.mpr a, ?_⟩, z⟩
      simp only [Bool.and_eq_true]
      refine ⟨⟨b, c⟩, (hM _ ((xr_s s hs l a).2 c).1).mpr ⟨⟨?_, ?_⟩, d⟩⟩
      · rw [(xor_sub s hs l a c).1]; exact Nat.lt_of_le_of_lt (Nat.sub_le _ _) z.1
      · refine gq_ac_sub z.2 (fun j hj => ?_)
        rw [mq_rm s l j c] at hj
        simp only [Bool.and_eq_true] at hj
        exact hj.1
theorem faC_none {L' : ux_L} {c ln : Nat} {lo hi rc : Nat → Nat} {M : Nat → Prop} (hM : ∀ m, ¬ M m) (h : ∀ s, s < 1024 → fm (L' (c + 1)) s = decide (s = 0)) : faC L' c ln lo hi rc M := by
  intro s hs
  rw [h s hs, decide_eq_true_iff]
  unfold qP
  rw [mq_none hM]
  constructor
  · intro e; subst e; exact ⟨(qP_0 ln lo hi rc M).1, rfl⟩
  · intro z; exact z.2
theorem faC_cg {L : ux_L} {c ln : Nat} {lo hi rc rc' : Nat → Nat} {M M' : Nat → Prop} (h : ∀ m, M m ↔ M' m) (hr : ∀ m, M m → rc m = rc' m) (hM : faC L c ln lo hi rc M) : faC L c ln lo hi rc' M' := fun s hs => by
  rw [hM s hs]; unfold qP; rw [mq_cg h hr]
theorem faC_rk {L : ux_L} {c ln : Nat} {lo hi rc : Nat → Nat} {M : Nat → Prop} (hM : faC L c ln lo hi rc M) : fX0_mostLines c L = some (nI (rk (qP ln lo hi rc M))) := by
  obtain ⟨m, q0, q1, q2, q3⟩ := fc_most L c
  rw [q0, rk_of (r := m)]
  · rcases q3 with e | ⟨s, a, b, d⟩
    · exact Or.inl e
    · exact Or.inr ⟨s, a, (hM s a).mp b, d⟩
  · exact fun s a b => q2 s a ((hM s a).mpr b)
theorem faC_tr {L : ux_L} {c ln : Nat} {lo hi rc : Nat → Nat} {M : Nat → Prop} (hM : faC L c ln lo hi rc M) : fX0_leastSet c (nI (rk (qP ln lo hi rc M))) L = some (nI (tr (qP ln lo hi rc M))) := by
  obtain ⟨t, q0, q⟩ := fc_least L c (rk_le (qP ln lo hi rc M))
  rcases q with ⟨q1, q2, q3, q4⟩ | ⟨rfl, q⟩
  · rw [q0, tr_of q1 ((hM t q1).mp q2) q3 (fun s a b => q4 s a ((hM s (by omega)).mpr b))]
  · obtain ⟨s, a, b, d⟩ := rk_ex0 (qP_0 ln lo hi rc M)
    exact absurd d (q s a ((hM s a).mpr b))
section SIG
variable {N : ux_N} {L : ux_L} {nd ln : Nat} {lo hi : Nat → Nat} {me : Nat} {so pl : Nat → Nat} {br cu : Nat}
theorem plC_fr {N' : ux_N} {h : Nat} (hp : plC N h nd ln lo hi) (e : ∀ a, h ≤ a → a < h + 3 → N' a = N a) : plC N' h nd ln lo hi := by
  obtain ⟨h0, h1, hb, hl⟩ := hp
  exact ⟨by rw [e h (by omega) (by omega)]; exact h0, by rw [e h (by omega) (by omega)]; exact h1, hb, fun k hk => by rw [e (h + 1) (by omega) (by omega), e (h + 2) (by omega) (by omega)]; exact hl k hk⟩
theorem stC_fr {N' : ux_N} {h : Nat} (hs : stC N h me so pl br cu) (e : ∀ a, h ≤ a → a < h + 3 → N' a = N a) : stC N' h me so pl br cu := by
  obtain ⟨h0, h1, h2, h3⟩ := hs
  refine ⟨by rw [e h (by omega) (by omega)]; exact h0, by rw [e h (by omega) (by omega)]; exact h1, by rw [e h (by omega) (by omega)]; exact h2, fun k hk => by rw [e (h + 1) (by omega) (by omega), e (h + 2) (by omega) (by omega)]; exact h3 k hk⟩
theorem cc_open (hp : plC N 1 nd ln lo hi) (hs : stC N 19 me so pl br cu) : fX6_openLines N = some (nI (bsN (fun l => !cu.testBit l) ln)) := by
  have b3 : ln ≤ 10 := hp.2.2.1.2.2
  unfold fX6_openLines
  rw [pc_allLines hp, Option.bind_some, hs.2.2.1, pb_andn (n := ln) (by have := Nat.two_pow_pos ln; omega) (by omega)]
  congr 2
  refine bsN_cong ln (fun j hj => ?_)
  rw [Nat.testBit_two_pow_sub_one]
  simp [hj]
theorem cc_reachOf (hp : plC N 1 nd ln lo hi) (hb : stB nd ln me so pl br cu) (hs : stC N 19 me so pl br cu) {c m : Nat} (hm : m < me) : fX6_reachOf (nI m) (nI (bsN (fun l => !c.testBit l) ln)) N = some (nI (rcS ln lo hi so pl br c m)) := by
  have hbr := stB_b hb
  obtain ⟨⟨b1, b2, b3⟩, b4⟩ := hb
  obtain ⟨s0, s1, s2, s3⟩ := hs
  obtain ⟨k1, k2⟩ := b4 m hm
  obtain ⟨l1, l2⟩ := s3 m hm
  have hpb := hp.2.2.1
  have k4 : pl m < 2 ^ 31 := Nat.lt_of_lt_of_le k2 (by split <;> omega)
  have lf := pc_linesFor (ct := c.testBit) hp k1 k4
  rw [if_pos k2] at lf
  unfold rcS
  by_cases q : br.testBit m = true
  · rw [if_pos q]
    simp (disch := omega) only [fX6_reachOf, fX6_reachOf_20, fX6_reachOf_55, s1, li_0, li_1, li_2, li_3, li_4, li_5, li_6, li_7, li_8, li_9, li_10, li_11, li_12, li_13, li_14, li_16, li_18, li_20, li_21, li_24, li_31, li_32, li_40, li_42, li_48, li_57, li_59, li_64, li_97, li_99, li_122, li_128, li_147, li_189, li_200, li_231, li_252, li_255, li_512, li_1023, li_1024, li_8192, li_8208, li_9999, li_50000, li_500000, nI_leI, nI_ltI, nI_eq, pb_in, nI_clamp, nI_add, pk_mul, pk_sub, qb_bit1, qb_bit0, qb_pow, qb_m1, qb_m1', qb_ofn, Option.bind_some, ↓reduceIte, eq_self, if_true, if_false, Sum.elim_inl, Sum.elim_inr]
    rw [if_pos q, if_neg (by decide)]
  · rw [if_neg q]
    simp (disch := omega) only [fX6_reachOf, fX6_reachOf_20, fX6_reachOf_55, s1, l1, l2, lf, li_0, li_1, li_2, li_3, li_4, li_5, li_6, li_7, li_8, li_9, li_10, li_11, li_12, li_13, li_14, li_16, li_18, li_20, li_21, li_24, li_31, li_32, li_40, li_42, li_48, li_57, li_59, li_64, li_97, li_99, li_122, li_128, li_147, li_189, li_200, li_231, li_252, li_255, li_512, li_1023, li_1024, li_8192, li_8208, li_9999, li_50000, li_500000, nI_leI, nI_ltI, nI_eq, pb_in, nI_clamp, nI_add, pk_mul, pk_sub, qb_bit1, qb_bit0, qb_pow, qb_m1, qb_m1', qb_ofn, Option.bind_some, ↓reduceIte, eq_self, if_true, if_false, Sum.elim_inl, Sum.elim_inr]
    rw [if_neg q]
/-- what the class has seen: rank, rank of the whole, tree, reach, islands, and the family -/
def siC (N : ux_N) (L : ux_L) (ln : Nat) (lo hi : Nat → Nat) (me : Nat) (so pl : Nat → Nat) (br cu : Nat) : Prop :=
  N 33 0 = nI (rkS ln lo hi me so pl br cu) ∧ N 33 1 = nI (gq_mg lo hi (bsN (fun l => !cu.testBit l) ln) ln) ∧ N 33 2 = nI (trS ln lo hi me so pl br cu) ∧ (∀ m, m < me → N 34 m = nI (rcS ln lo hi so pl br cu m)) ∧ (∀ x y, x < 8 → y < 8 → (N 101 x = N 101 y ↔ gq_cn lo hi (fun l => (trS ln lo hi me so pl br cu).testBit l = true ∧ l < ln) x y)) ∧ faC L 38 ln lo hi (rcS ln lo hi so pl br cu) (fun m => m < me)
theorem trS_lt : trS ln lo hi me so pl br cu < 2 ^ ln ∧ trS ln lo hi me so pl br cu < 1024 := by
  obtain ⟨t1, t2, t3, t4⟩ := tr_spec (qP_0 ln lo hi (rcS ln lo hi so pl br cu) (fun m => m < me))
  exact ⟨t2.1.1, t1⟩
theorem cc_refresh (hp : plC N 1 nd ln lo hi) (hb : stB nd ln me so pl br cu) (hs : stC N 19 me so pl br cu) (hF : foC L ln lo hi) : ∃ N' L', fX6_refresh N L = some (nI (rkS ln lo hi me so pl br cu), N', L') ∧ (∀ a, a ≠ 33 → a ≠ 34 → a ≠ 101 → N' a = N a) ∧ (∀ a, a ≠ 39 → a ≠ 40 → L' a = L a) ∧ siC N' L' ln lo hi me so pl br cu ∧ N' 33 14 = 0 ∧ N' 33 15 = 0 ∧ N' 33 17 = 0 := by
  have me9 : me ≤ 9 := hb.1.1
  have b3 : ln ≤ 10 := hp.2.2.1.2.2
  have p10 : 2 ^ ln ≤ 1024 := show 2 ^ ln ≤ 2 ^ 10 from Nat.pow_le_pow_right (by decide) b3
  have op := cc_open hp hs
  have hlp0 : ∃ N', ux_lp (fun t : Int32 × ux_N => fX6_refresh_7b (nI (bsN (fun l => !cu.testBit l) ln)) t.1 t.2 L) ux_fu ((0 : Int32), N) = some N' ∧ ((∀ a, a ≠ 34 → N' a = N a) ∧ ∀ m, m < me → N' 34 m = nI (rcS ln lo hi so pl br cu m)) := by
    refine lp_inv (fun i t => t.1 = nI i ∧ (∀ a, a ≠ 34 → t.2 a = N a) ∧ ∀ m, m < i → t.2 34 m = nI (rcS ln lo hi so pl br cu m)) _ me ?_ (by omega) ?_ ?_
    · exact ⟨rfl, fun _ _ => rfl, fun m h => by omega⟩
    · intro i ⟨v, N1⟩ hk ⟨e, g1, g2⟩
      dsimp only at e g1 g2 ⊢
      subst e
      have hp1 := plC_fr hp (N' := N1) (fun a h1 h2 => g1 a (by omega))
      have hs1 := stC_fr hs (N' := N1) (fun a h1 h2 => g1 a (by omega))
      have rr := cc_reachOf hp1 hb hs1 (c := cu) hk
      refine Or.inl ⟨(nI (i + 1), ux_u N1 34 i (nI (rcS ln lo hi so pl br cu i))), ?_, rfl, fun a ha => (uu_ne N1 _ _ ha).trans (g1 a ha), fun k hk => ?_⟩
      · simp (disch := omega) only [fX6_refresh_7b, hs1.1, rr, li_0, li_1, li_2, li_3, li_4, li_5, li_6, li_7, li_8, li_9, li_10, li_11, li_12, li_13, li_14, li_16, li_18, li_20, li_21, li_24, li_31, li_32, li_40, li_42, li_48, li_57, li_59, li_64, li_97, li_99, li_122, li_128, li_147, li_189, li_200, li_231, li_252, li_255, li_512, li_1023, li_1024, li_8192, li_8208, li_9999, li_50000, li_500000, nI_leI, nI_ltI, nI_eq, pb_in, nI_clamp, nI_add, pk_mul, pk_sub, qb_bit1, qb_bit0, qb_pow, qb_m1, qb_m1', qb_ofn, Option.bind_some, ↓reduceIte, eq_self, if_true, if_false, Sum.elim_inl, Sum.elim_inr]
        rw [if_neg (by omega)]
      · dsimp only
        rw [uu_same]
        by_cases e : k = i
        · rw [if_pos e, e]
        · rw [if_neg e]; exact g2 k (by omega)
    · intro ⟨v, N1⟩ ⟨e, g1, g2⟩
      dsimp only at e g1 g2 ⊢
      subst e
      have hs1 := stC_fr hs (N' := N1) (fun a h1 h2 => g1 a (by omega))
      refine ⟨N1, ?_, g1, g2⟩
      simp (disch := omega) only [fX6_refresh_7b, hs1.1, li_0, li_1, li_2, li_3, li_4, li_5, li_6, li_7, li_8, li_9, li_10, li_11, li_12, li_13, li_14, li_16, li_18, li_20, li_21, li_24, li_31, li_32, li_40, li_42, li_48, li_57, li_59, li_64, li_97, li_99, li_122, li_128, li_147, li_189, li_200, li_231, li_252, li_255, li_512, li_1023, li_1024, li_8192, li_8208, li_9999, li_50000, li_500000, nI_leI, nI_ltI, nI_eq, pb_in, nI_clamp, nI_add, pk_mul, pk_sub, qb_bit1, qb_bit0, qb_pow, qb_m1, qb_m1', qb_ofn, Option.bind_some, ↓reduceIte, eq_self, if_true, if_false, Sum.elim_inl, Sum.elim_inr]
      simp
  obtain ⟨N1, a0, a1, a2⟩ := hlp0
  obtain ⟨L1, c0, c1, c2⟩ := fc_start L 38
  have w19 : N1 19 0 = nI me := by rw [a1 19 (by decide)]; exact hs.1
  have hlp1 : ∃ L', ux_lp (fun t : Int32 × ux_L => fX6_refresh_45b (nI (bsN (fun l => !cu.testBit l) ln)) t.1 N1 t.2) ux_fu ((0 : Int32), L1) = some L' ∧ ((∀ a, a ≠ 39 → a ≠ 40 → L' a = L a) ∧ faC L' 38 ln lo hi (rcS ln lo hi so pl br cu) (fun m => m < me)) := by
    refine lp_inv (fun i t => t.1 = nI i ∧ (∀ a, a ≠ 39 → a ≠ 40 → t.2 a = L a) ∧ faC t.2 38 ln lo hi (rcS ln lo hi so pl br cu) (fun m => m < i)) _ me ?_ (by omega) ?_ ?_
    · exact ⟨rfl, fun a h1 _ => c1 a h1, faC_none (fun m h => by omega) c2⟩
    · intro i ⟨v, L2⟩ hk ⟨e, g1, g2⟩
      dsimp only at e g1 g2 ⊢
      subst e
      have rl := rcS_lt ln lo hi so pl br cu i
      obtain ⟨L3, q0, q1, q2⟩ := fc_join (L := L2) (c := 38) (cf := 35) (by decide) (by decide) (rc := rcS ln lo hi so pl br cu i) (by omega)
      have hF2 : foC L2 ln lo hi := fun s hs => by rw [g1 36 (by decide) (by decide)]; exact hF s hs
      refine Or.inl ⟨(nI (i + 1), L3), ?_, rfl, fun a h1 h2 => (q1 a h1 h2).trans (g1 a h1 h2), ?_⟩
      · simp (disch := omega) only [fX6_refresh_45b, w19, a2 i hk, q0, li_0, li_1, li_2, li_3, li_4, li_5, li_6, li_7, li_8, li_9, li_10, li_11, li_12, li_13, li_14, li_16, li_18, li_20, li_21, li_24, li_31, li_32, li_40, li_42, li_48, li_57, li_59, li_64, li_97, li_99, li_122, li_128, li_147, li_189, li_200, li_231, li_252, li_255, li_512, li_1023, li_1024, li_8192, li_8208, li_9999, li_50000, li_500000, nI_leI, nI_ltI, nI_eq, pb_in, nI_clamp, nI_add, pk_mul, pk_sub, qb_bit1, qb_bit0, qb_pow, qb_m1, qb_m1', qb_ofn, Option.bind_some, ↓reduceIte, eq_self, if_true, if_false, Sum.elim_inl, Sum.elim_inr]
        rw [if_neg (by omega)]
      · refine faC_cg (fun m => by omega) (fun _ _ => rfl) (faC_join (m := i) hF2 g2 (by omega) (by omega) q2)
    · intro ⟨v, L2⟩ ⟨e, g1, g2⟩
      dsimp only at e g1 g2 ⊢
      subst e
      refine ⟨L2, ?_, g1, g2⟩
      simp (disch := omega) only [fX6_refresh_45b, w19, li_0, li_1, li_2, li_3, li_4, li_5, li_6, li_7, li_8, li_9, li_10, li_11, li_12, li_13, li_14, li_16, li_18, li_20, li_21, li_24, li_31, li_32, li_40, li_42, li_48, li_57, li_59, li_64, li_97, li_99, li_122, li_128, li_147, li_189, li_200, li_231, li_252, li_255, li_512, li_1023, li_1024, li_8192, li_8208, li_9999, li_50000, li_500000, nI_leI, nI_ltI, nI_eq, pb_in, nI_clamp, nI_add, pk_mul, pk_sub, qb_bit1, qb_bit0, qb_pow, qb_m1, qb_m1', qb_ofn, Option.bind_some, ↓reduceIte, eq_self, if_true, if_false, Sum.elim_inl, Sum.elim_inr]
      simp
  obtain ⟨L2, d0, d1, d2⟩ := hlp1
  have rkE := faC_rk d2
  have trE := faC_tr d2
  have tl := trS_lt (ln := ln) (lo := lo) (hi := hi) (me := me) (so := so) (pl := pl) (br := br) (cu := cu)
  change fX0_mostLines 38 L2 = some (nI (rkS ln lo hi me so pl br cu)) at rkE
  change fX0_leastSet 38 (nI (rkS ln lo hi me so pl br cu)) L2 = some (nI (trS ln lo hi me so pl br cu)) at trE
  have hp2 : plC (ux_u (ux_u N1 33 0 (nI (rkS ln lo hi me so pl br cu))) 33 2 (nI (trS ln lo hi me so pl br cu))) 1 nd ln lo hi := plC_fr hp (fun a h1 h2 => by rw [uu_ne _ _ _ (by omega), uu_ne _ _ _ (by omega)]; exact a1 a (by omega))
  obtain ⟨N2, j0, j1, j2⟩ := lc_joinAll hp2 (s := bsN (fun l => !cu.testBit l) ln) (bsN_le30 (by omega))
  have hp3 : plC (ux_u N2 33 1 (nI (gq_mg lo hi (bsN (fun l => !cu.testBit l) ln) ln))) 1 nd ln lo hi := plC_fr hp2 (fun a h1 h2 => by rw [uu_ne _ _ _ (by omega)]; exact j1 a (by omega))
  obtain ⟨N3, k0, k1, k2⟩ := lc_joinAll hp3 (s := trS ln lo hi me so pl br cu) (by omega)
  have t2 : (ux_u N2 33 1 (nI (gq_mg lo hi (bsN (fun l => !cu.testBit l) ln) ln))) 33 2 = nI (trS ln lo hi me so pl br cu) := by
    rw [uu_same, if_neg (by decide), j1 33 (by decide), uu_same, if_pos rfl]
  have n0 : N3 33 0 = nI (rkS ln lo hi me so pl br cu) := by
    rw [k1 33 (by decide), uu_same, if_neg (by decide), j1 33 (by decide), uu_same, if_neg (by decide), uu_same, if_pos rfl]
  have n1 : N3 33 1 = nI (gq_mg lo hi (bsN (fun l => !cu.testBit l) ln) ln) := by
    rw [k1 33 (by decide), uu_same, if_pos rfl]
  have n2 : N3 33 2 = nI (trS ln lo hi me so pl br cu) := by rw [k1 33 (by decide)]; exact t2
  have o0 : ux_u (ux_u (ux_u N3 33 14 0) 33 15 0) 33 17 0 33 0 = nI (rkS ln lo hi me so pl br cu) := by
    rw [uu_same, if_neg (by decide), uu_same, if_neg (by decide), uu_same, if_neg (by decide)]; exact n0
  refine ⟨ux_u (ux_u (ux_u N3 33 14 0) 33 15 0) 33 17 0, L2, ?_, fun a h1 h2 h3 => ?_, d1, ⟨o0, ?_, ?_, fun m hm => ?_, fun x y hx hy => ?_, d2⟩, ?_, ?_, ?_⟩
  · unfold fX6_refresh
    rw [op, Option.bind_some, a0, Option.bind_some, c0, Option.bind_some, d0, Option.bind_some, rkE, Option.bind_some]
    rw [show ux_u N1 33 0 (nI (rkS ln lo hi me so pl br cu)) 33 0 = nI (rkS ln lo hi me so pl br cu) from by rw [uu_same, if_pos rfl], trE, Option.bind_some, j0, Option.bind_some]
    dsimp only
    rw [t2, k0, Option.bind_some]
    dsimp only
    rw [o0]
  · rw [uu_ne _ _ _ h1, uu_ne _ _ _ h1, uu_ne _ _ _ h1, k1 a h3, uu_ne _ _ _ h1, j1 a h3, uu_ne _ _ _ h1, uu_ne _ _ _ h1, a1 a h2]
  · rw [uu_same, if_neg (by decide), uu_same, if_neg (by decide), uu_same, if_neg (by decide)]; exact n1
  · rw [uu_same, if_neg (by decide), uu_same, if_neg (by decide), uu_same, if_neg (by decide)]; exact n2
  · rw [uu_ne _ _ _ (by decide), uu_ne _ _ _ (by decide), uu_ne _ _ _ (by decide), k1 34 (by decide), uu_ne _ _ _ (by decide), j1 34 (by decide), uu_ne _ _ _ (by decide), uu_ne _ _ _ (by decide)]
    exact a2 m hm
  · rw [uu_ne _ _ _ (by decide), uu_ne _ _ _ (by decide), uu_ne _ _ _ (by decide)]
    exact k2 x y hx hy
  · rw [uu_same, if_neg (by decide), uu_same, if_neg (by decide), uu_same, if_pos rfl]
  · rw [uu_same, if_neg (by decide), uu_same, if_pos rfl]
  · rw [uu_same, if_pos rfl]
end SIG
