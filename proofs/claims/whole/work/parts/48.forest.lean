/-! which sets of lines have no ring: the family that the class learns -/
theorem tb_ge {s n j : Nat} (hs : s < 2 ^ n) (hj : n ≤ j) : s.testBit j = false := Nat.testBit_lt_two_pow (Nat.lt_of_lt_of_le hs (Nat.pow_le_pow_right (by decide) hj))
theorem lowdiv {u k : Nat} (h : ∀ j, j < k → u.testBit j = false) : 2 ^ k ∣ u := by
  refine Nat.dvd_of_mod_eq_zero ?_
  refine Nat.eq_of_testBit_eq (fun j => ?_)
  rw [Nat.testBit_mod_two_pow, Nat.zero_testBit]
  by_cases q : j < k
  · rw [h j q]; simp
  · simp [q]
theorem noleast_add : ∀ s, s < 1024 → 0 < s → (s &&& (s - 1)) + 2 ^ lwb s = s := by decide +kernel
theorem noleast_nx {s u : Nat} (hs : s < 1024) (h0 : 0 < s) (hr : 0 < s &&& (s - 1)) (h1 : s &&& (s - 1) < u) (h2 : u < s) : lwb u ≠ lwb (s &&& (s - 1)) := by
  intro e
  obtain ⟨a1, a2, a3⟩ := lwb_spec s hs h0
  obtain ⟨b1, b2, b3⟩ := lwb_spec _ (Nat.lt_trans (noleast_lt s hs h0) hs) hr
  obtain ⟨c1, c2, c3⟩ := lwb_spec u (by omega) (by omega)
  have hl : lwb s < lwb (s &&& (s - 1)) := by
    have k := noleast_lwb s hs h0 _ b1
    rw [b2] at k
    by_cases q : lwb (s &&& (s - 1)) < lwb s
    · rw [a3 _ q] at k; simp at k
    · by_cases q2 : lwb (s &&& (s - 1)) = lwb s
      · simp [q2] at k
      · omega
  have d1 : 2 ^ (lwb s + 1) ∣ u := lowdiv (fun j hj => c3 j (by omega))
  have d2 : 2 ^ (lwb s + 1) ∣ s &&& (s - 1) := lowdiv (fun j hj => b3 j (by omega))
  have hadd := noleast_add s hs h0
  have d3 := Nat.le_of_dvd (by omega) (Nat.dvd_sub d1 d2)
  rw [Nat.pow_succ] at d3
  omega
theorem noleast_mem {s : Nat} (hs : s < 1024) (h0 : 0 < s) (j : Nat) : ((s &&& (s - 1)).testBit j = true) ↔ (s.testBit j = true ∧ j ≠ lwb s) := by
  by_cases q : j < 10
  · rw [noleast_lwb s hs h0 j q]; simp
  · rw [tb_ge (n := 10) (Nat.lt_trans (noleast_lt s hs h0) hs) (by omega), tb_ge (n := 10) hs (by omega)]; simp
theorem gq_ad_s {lo hi : Nat → Nat} {s : Nat} (hs : s < 1024) (h0 : 0 < s) : gq_ad lo hi s ↔ (gq_ad lo hi (s &&& (s - 1)) ∧ ¬ gq_cn lo hi (fun j => (s &&& (s - 1)).testBit j = true) (lo (lwb s)) (hi (lwb s))) := by
  obtain ⟨a1, a2, a3⟩ := lwb_spec s hs h0
  have rt := noleast_mem hs h0
  have ge : ∀ j, s.testBit j = true → lwb s ≤ j := fun j hj => Nat.le_of_not_lt (fun q => by rw [a3 j q] at hj; cases hj)
  constructor
  · intro h
    refine ⟨fun l hl z => h l ((rt l).mp hl).1 (gq_mo (fun j hj => ⟨((rt j).mp hj.1).1, hj.2⟩) z), fun z => h _ a2 (gq_mo (fun j hj => ?_) z)⟩
    obtain ⟨k1, k2⟩ := (rt j).mp hj
    have := ge j k1
    exact ⟨k1, by omega⟩
  · intro ⟨h1, h2⟩ l hl z
    by_cases e : l = lwb s
    · subst e
      exact h2 (gq_mo (fun j hj => (rt j).mpr ⟨hj.1, by omega⟩) z)
    · have := ge l hl
      exact h1 l ((rt l).mpr ⟨hl, e⟩) (gq_mo (fun j hj => ⟨(rt j).mpr ⟨hj.1, by omega⟩, hj.2⟩) z)
section FOR
variable {N : ux_N} {L : ux_L}
theorem lf_58 {t line rest w a b : Nat} (ht : t < 1024) (hline : line < 10) (hrest : rest < 1024) (hw : w < 11) (n2 : N 2 line = nI a) (n3 : N 3 line = nI b) (ha : a < 8) (hb : b < 8) :
    ∃ N' L', fX6_learnForests_19b_58 (nI t) (nI line) (nI rest) (nI w) N L = some (.inl (nI (t + 1), N', L')) ∧
      (((fm (L 36) rest = true ∧ N (78 + 2 * w + 1) a ≠ N (78 + 2 * w + 1) b) ∧ (∀ x, x ≠ 36 → L' x = L x) ∧ (∀ u, u < 1024 → fm (L' 36) u = (fm (L 36) u || decide (u = t))) ∧ (∀ x, x ≠ 78 + 2 * line + 1 → N' x = N x) ∧ ∀ k, k < 8 → N' (78 + 2 * line + 1) k = if N (78 + 2 * w + 1) k = N (78 + 2 * w + 1) b then N (78 + 2 * w + 1) a else N (78 + 2 * w + 1) k)
        ∨ (¬ (fm (L 36) rest = true ∧ N (78 + 2 * w + 1) a ≠ N (78 + 2 * w + 1) b) ∧ N' = N ∧ L' = L)) := by
  by_cases f : fm (L 36) rest = true
  · by_cases o : N (78 + 2 * w + 1) a = N (78 + 2 * w + 1) b
    · refine ⟨N, L, ?_, Or.inr ⟨fun q => q.2 o, rfl, rfl⟩⟩
      simp (disch := omega) only [fX6_learnForests_19b_58, fX6_learnForests_19b_144, fc_holds hrest, n2, n3, lc_areOne ha hb, li_0, li_1, li_2, li_3, li_4, li_5, li_6, li_7, li_8, li_9, li_10, li_11, li_12, li_13, li_14, li_16, li_18, li_20, li_21, li_24, li_31, li_32, li_40, li_42, li_48, li_57, li_59, li_64, li_97, li_99, li_122, li_128, li_147, li_189, li_200, li_231, li_252, li_255, li_512, li_1023, li_1024, li_8192, li_8208, li_9999, li_50000, li_500000, nI_leI, nI_ltI, nI_eq, pb_in, nI_clamp, nI_add, pk_mul, pk_sub, qb_bit1, qb_bit0, qb_pow, qb_m1, qb_m1', qb_ofn, Option.bind_some, ↓reduceIte, eq_self, if_true, if_false, Sum.elim_inl, Sum.elim_inr]
      rw [if_pos f, if_neg (by decide), if_pos o, if_neg (by decide)]
    · obtain ⟨L1, i0, i1, i2⟩ := fc_include (L := L) (c := 35) ht
      obtain ⟨N1, c0, c1, c2⟩ := lc_copy N (78 + 2 * line) (78 + 2 * w)
      obtain ⟨N2, j0, j1, j2⟩ := lc_join (N := N1) (c := 78 + 2 * line) ha hb
      have m2 : N1 2 line = nI a := by rw [c1 2 (by omega)]; exact n2
      have m3 : N1 3 line = nI b := by rw [c1 3 (by omega)]; exact n3
      refine ⟨N2, L1, ?_, Or.inl ⟨⟨f, o⟩, i1, i2, fun x hx => (j1 x hx).trans (c1 x hx), fun k hk => ?_⟩⟩
      · simp (disch := omega) only [fX6_learnForests_19b_58, fX6_learnForests_19b_144, fc_holds hrest, n2, n3, lc_areOne ha hb, i0, c0, m2, m3, j0, li_0, li_1, li_2, li_3, li_4, li_5, li_6, li_7, li_8, li_9, li_10, li_11, li_12, li_13, li_14, li_16, li_18, li_20, li_21, li_24, li_31, li_32, li_40, li_42, li_48, li_57, li_59, li_64, li_97, li_99, li_122, li_128, li_147, li_189, li_200, li_231, li_252, li_255, li_512, li_1023, li_1024, li_8192, li_8208, li_9999, li_50000, li_500000, nI_leI, nI_ltI, nI_eq, pb_in, nI_clamp, nI_add, pk_mul, pk_sub, qb_bit1, qb_bit0, qb_pow, qb_m1, qb_m1', qb_ofn, Option.bind_some, ↓reduceIte, eq_self, if_true, if_false, Sum.elim_inl, Sum.elim_inr]
        rw [if_pos f, if_neg (by decide), if_neg o, if_pos rfl]
      · rw [j2 k hk, c2 k hk, c2 b hb, c2 a ha]
  · refine ⟨N, L, ?_, Or.inr ⟨fun q => f q.1, rfl, rfl⟩⟩
    simp (disch := omega) only [fX6_learnForests_19b_58, fX6_learnForests_19b_144, fc_holds hrest, li_0, li_1, li_2, li_3, li_4, li_5, li_6, li_7, li_8, li_9, li_10, li_11, li_12, li_13, li_14, li_16, li_18, li_20, li_21, li_24, li_31, li_32, li_40, li_42, li_48, li_57, li_59, li_64, li_97, li_99, li_122, li_128, li_147, li_189, li_200, li_231, li_252, li_255, li_512, li_1023, li_1024, li_8192, li_8208, li_9999, li_50000, li_500000, nI_leI, nI_ltI, nI_eq, pb_in, nI_clamp, nI_add, pk_mul, pk_sub, qb_bit1, qb_bit0, qb_pow, qb_m1, qb_m1', qb_ofn, Option.bind_some, ↓reduceIte, eq_self, if_true, if_false, Sum.elim_inl, Sum.elim_inr]
    rw [if_neg f, if_pos rfl]
theorem lc_learn {nd ln : Nat} {lo hi : Nat → Nat} (hp : plC N 1 nd ln lo hi) : ∃ N' L', fX6_learnForests N L = some (N', L') ∧ (∀ a, a < 78 ∨ 100 ≤ a → N' a = N a) ∧ (∀ a, a ≠ 36 → L' a = L a) ∧ ∀ s, s < 1024 → (fm (L' 36) s = true ↔ (s < 2 ^ ln ∧ gq_ac lo hi s)) := by
  obtain ⟨L0, f0, f1, f2⟩ := fc_start L 35
  obtain ⟨N0, a0, a1, a2⟩ := lc_separate N 98
  have hp' := hp
  obtain ⟨h0, h1, ⟨b1, b2, b3⟩, hl⟩ := hp
  have p10 : 2 ^ ln ≤ 1024 := show 2 ^ ln ≤ 2 ^ 10 from Nat.pow_le_pow_right (by decide) b3
  have p0 : 0 < 2 ^ ln := Nat.two_pow_pos ln
  have hlp : ∃ e, ux_lp (fun s : Int32 × ux_N × ux_L => fX6_learnForests_19b s.1 s.2.1 s.2.2) ux_fu ((1 : Int32), N0, L0) = some e ∧ ((∀ a, a < 78 ∨ 100 ≤ a → e.1 a = N a) ∧ (∀ a, a ≠ 36 → e.2 a = L a) ∧ ∀ s, s < 1024 → (fm (e.2 36) s = true ↔ (s < 2 ^ ln ∧ gq_ac lo hi s))) := by
    refine lp_inv (fun i t => t.1 = nI (i + 1) ∧ (∀ a, a < 78 ∨ 100 ≤ a → t.2.1 a = N a) ∧ (∀ a, a ≠ 36 → t.2.2 a = L a) ∧ (∀ s, s < 1024 → (fm (t.2.2 36) s = true ↔ (s < i + 1 ∧ gq_ad lo hi s))) ∧ (∀ x y, x < 8 → y < 8 → (t.2.1 99 x = t.2.1 99 y ↔ gq_cn lo hi (fun l => (0 : Nat).testBit l = true) x y)) ∧ ∀ s, 0 < s → s < i + 1 → (∀ u, s < u → u < i + 1 → lwb u ≠ lwb s) → gq_ad lo hi s → ∀ x y, x < 8 → y < 8 → (t.2.1 (78 + 2 * lwb s + 1) x = t.2.1 (78 + 2 * lwb s + 1) y ↔ gq_cn lo hi (fun l => s.testBit l = true) x y)) _ (2 ^ ln - 1) ?_ (by omega) ?_ ?_
    · refine ⟨rfl, fun a ha => a1 a (by omega), f1, fun s hs => ?_, fun x y hx hy => ?_, fun s k1 k2 => by omega⟩
      · dsimp only
        rw [f2 s hs]
        constructor
        · intro e
          have e := of_decide_eq_true e
          subst e
          exact ⟨by decide, fun l hl => by simp at hl⟩
        · intro ⟨e, _⟩
          exact decide_eq_true (by omega)
      · dsimp only
        rw [a2 x hx, a2 y hy, gq_none (fun l h => by simp at h)]
        exact nI_eq (by omega) (by omega)
    · intro i ⟨v, N1, L1⟩ hk ⟨e1, g1, g2, g3, g4, g5⟩
      dsimp only at e1 g1 g2 g3 g4 g5 ⊢
      subst e1
      have hs : i + 1 < 1024 := by omega
      obtain ⟨s1, s2, s3⟩ := lwb_spec (i + 1) hs (by omega)
      have hln : lwb (i + 1) < ln := Nat.lt_of_not_le (fun q => by rw [tb_ge (n := ln) (by omega) q] at s2; cases s2)
      obtain ⟨l1, l2, l3, l4⟩ := hl _ hln
      have hp1 : plC N1 1 nd ln lo hi := ⟨by rw [g1 1 (by omega)]; exact h0, by rw [g1 1 (by omega)]; exact h1, ⟨b1, b2, b3⟩, fun k hk => by rw [g1 (1 + 1) (by omega), g1 (1 + 2) (by omega)]; exact hl k hk⟩
      have w2 : N1 2 (lwb (i + 1)) = nI (lo (lwb (i + 1))) := by rw [g1 2 (by omega)]; exact l1
      have w3 : N1 3 (lwb (i + 1)) = nI (hi (lwb (i + 1))) := by rw [g1 3 (by omega)]; exact l2
      have r1 := noleast_lt (i + 1) hs (by omega)
      have nl := pb_noleast (i + 1) hs
      have lw := pb_lowest (i + 1) hs (by omega)
      have ads := gq_ad_s (lo := lo) (hi := hi) hs (by omega)
      have mem := noleast_mem hs (by omega : 0 < i + 1)
      have adl := noleast_add (i + 1) hs (by omega)
      generalize hr : (i + 1) &&& ((i + 1) - 1) = r at r1 nl ads mem adl
      -- the labels of the rest
      have key : ∃ w, w < 11 ∧ w ≠ lwb (i + 1) ∧ fX6_learnForests_19b (nI (i + 1)) N1 L1 = fX6_learnForests_19b_58 (nI (i + 1)) (nI (lwb (i + 1))) (nI r) (nI w) N1 L1 ∧ (gq_ad lo hi r → ∀ x y, x < 8 → y < 8 → (N1 (78 + 2 * w + 1) x = N1 (78 + 2 * w + 1) y ↔ gq_cn lo hi (fun l => r.testBit l = true) x y)) := by
        by_cases r0 : r = 0
        · subst r0
          refine ⟨10, by decide, by omega, ?_, fun _ => g4⟩
          unfold fX6_learnForests_19b
          rw [pc_allLines hp1, Option.bind_some, lw, Option.bind_some, nl]
          rw [if_neg (fun q => by have := (nI_ltI (by omega) (by omega)).mp q; omega), if_pos (show nI 0 = 0 from rfl), ← li_10]
        · obtain ⟨t1, t2, t3⟩ := lwb_spec r (by omega) (by omega)
          refine ⟨lwb r, by omega, fun q => ((mem _).mp t2).2 q, ?_, fun had => ?_⟩
          · unfold fX6_learnForests_19b
            rw [pc_allLines hp1, Option.bind_some, lw, Option.bind_some, nl]
            rw [if_neg (fun q => by have := (nI_ltI (by omega) (by omega)).mp q; omega), if_neg (fun q => r0 ((pb_eq0 (by omega)).mp q)), pb_lowest r (by omega) (by omega), Option.bind_some]
          · refine g5 r (by omega) r1 (fun u q1 q2 => ?_) had
            have := noleast_nx (u := u) hs (by omega) (by rw [hr]; omega) (by rw [hr]; exact q1) q2
            rw [hr] at this
            exact this
      obtain ⟨w, hw, hwl, hfun, hlab⟩ := key
      obtain ⟨N2, L2, q0, q⟩ := lf_58 (L := L1) (rest := r) (w := w) hs s1 (by omega) hw w2 w3 (by omega) (by omega)
      have gr := g3 r (by omega)
      refine Or.inl ⟨(nI (i + 1 + 1), N2, L2), by rw [hfun]; exact q0, rfl, ?_⟩
      dsimp only
      rcases q with ⟨⟨q1, q2⟩, q3, q4, q5, q6⟩ | ⟨q1, rfl, rfl⟩
      · have hadr := (gr.mp q1).2
        have lab := hlab hadr
        have nc : ¬ gq_cn lo hi (fun j => r.testBit j = true) (lo (lwb (i + 1))) (hi (lwb (i + 1))) := fun z => q2 ((lab _ _ (by omega) (by omega)).mpr z)
        have hads := ads.mpr ⟨hadr, nc⟩
        refine ⟨fun a ha => (q5 a (by omega)).trans (g1 a ha), fun a ha => (q3 a ha).trans (g2 a ha), fun s hs1 => ?_, fun x y hx hy => ?_, fun s k1 k2 k3 k4 => ?_⟩
        · rw [q4 s hs1, Bool.or_eq_true, g3 s hs1, decide_eq_true_iff]
          constructor
          · intro z
            rcases z with ⟨z1, z2⟩ | rfl
            · exact ⟨by omega, z2⟩
            · exact ⟨by omega, hads⟩
          · intro ⟨z1, z2⟩
            by_cases e : s = i + 1
            · exact Or.inr e
            · exact Or.inl ⟨by omega, z2⟩
        · rw [q5 99 (by omega)]; exact g4 x y hx hy
        · by_cases e : s = i + 1
          · subst e
            intro x y hx hy
            rw [lc_joined (f := N1 (78 + 2 * w + 1)) lab (by omega) (by omega) q6 x y hx hy]
            refine gq_iff (fun l => ?_)
            rw [mem l]
            constructor
            · intro z
              rcases z with z | rfl
              · exact z.1
              · exact s2
            · intro z
              by_cases e : l = lwb (i + 1)
              · exact Or.inr e
              · exact Or.inl ⟨z, e⟩
          · have hne : lwb (i + 1) ≠ lwb s := k3 (i + 1) (by omega) (by omega)
            rw [q5 (78 + 2 * lwb s + 1) (by omega)]
            exact g5 s k1 (by omega) (fun u u1 u2 => k3 u u1 (by omega)) k4
      · have hads : ¬ gq_ad lo hi (i + 1) := fun z => by
          obtain ⟨z1, z2⟩ := ads.mp z
          exact q1 ⟨gr.mpr ⟨r1, z1⟩, fun z3 => z2 ((hlab z1 _ _ (by omega) (by omega)).mp z3)⟩
        refine ⟨g1, g2, fun s hs1 => ?_, g4, fun s k1 k2 k3 k4 => ?_⟩
        · rw [g3 s hs1]
          constructor
          · intro ⟨z1, z2⟩; exact ⟨by omega, z2⟩
          · intro ⟨z1, z2⟩
            by_cases e : s = i + 1
            · subst e; exact absurd z2 hads
            · exact ⟨by omega, z2⟩
        · by_cases e : s = i + 1
          · subst e; exact absurd k4 hads
          · exact g5 s k1 (by omega) (fun u u1 u2 => k3 u u1 (by omega)) k4
    · intro ⟨v, N1, L1⟩ ⟨e1, g1, g2, g3, g4, g5⟩
      dsimp only at e1 g1 g2 g3 g4 g5 ⊢
      subst e1
      have hp1 : plC N1 1 nd ln lo hi := ⟨by rw [g1 1 (by omega)]; exact h0, by rw [g1 1 (by omega)]; exact h1, ⟨b1, b2, b3⟩, fun k hk => by rw [g1 (1 + 1) (by omega), g1 (1 + 2) (by omega)]; exact hl k hk⟩
      refine ⟨(N1, L1), ?_, g1, g2, fun s hs1 => ?_⟩
      · unfold fX6_learnForests_19b
        rw [pc_allLines hp1, Option.bind_some, if_pos ((nI_ltI (by omega) (by omega)).mpr (by omega))]
      · dsimp only
        rw [g3 s hs1, show 2 ^ ln - 1 + 1 = 2 ^ ln from by omega]
        constructor
        · intro ⟨z1, z2⟩; exact ⟨z1, (gq_ac_ad z1 (fun k hk => ⟨by have := hl k hk; omega, (hl k hk).2.2.2⟩)).mpr z2⟩
        · intro ⟨z1, z2⟩; exact ⟨z1, (gq_ac_ad z1 (fun k hk => ⟨by have := hl k hk; omega, (hl k hk).2.2.2⟩)).mp z2⟩
  obtain ⟨⟨N', L'⟩, q0, q1⟩ := hlp
  refine ⟨N', L', ?_, q1⟩
  unfold fX6_learnForests
  rw [f0, Option.bind_some, a0, Option.bind_some, q0]
  rfl
end FOR
