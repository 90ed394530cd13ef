/-! the reference's families of sets that can be served, sixteen words from a place on -/
def gS (L : ux_L) (p s : Nat) : Bool := lb (L 15 (p + s / 64)) (s % 64)
theorem xh_o : ∀ d, d < 4 → ∀ i, i < 16 → i.testBit d = false → (i ||| 2 ^ d) < 16 ∧ (i ||| 2 ^ d).testBit d = true ∧ (i ||| 2 ^ d) ^^^ 2 ^ d = i := by decide +kernel
theorem xh_x : ∀ d, d < 4 → ∀ t, t < 16 → t.testBit d = true → (t ^^^ 2 ^ d) < 16 ∧ (t ^^^ 2 ^ d).testBit d = false ∧ (t ^^^ 2 ^ d) ||| 2 ^ d = t := by decide +kernel
theorem xh_s : ∀ s, s < 1024 → ∀ l, l < 10 → 6 ≤ l → (s ^^^ 2 ^ l) / 64 = (s / 64) ^^^ 2 ^ (l - 6) ∧ (s ^^^ 2 ^ l) % 64 = s % 64 := by decide +kernel
section SRV
variable {N : ux_N} {L : ux_L} {nd ln : Nat} {lo hi : Nat → Nat}
theorem lm_none {p : Nat} (hp : p + 16 ≤ 8224) : ∃ L', fX12_layNone (nI p) L = some L' ∧ (∀ a, a ≠ 15 → L' a = L a) ∧ (∀ k, k < p ∨ p + 16 ≤ k → L' 15 k = L 15 k) ∧ ∀ s, s < 1024 → gS L' p s = decide (s = 0) := by
  have hlp : ∃ L', ux_lp (fun t : Int32 × ux_L => fX12_layNone_2b (nI p) t.1 t.2) ux_fu ((0 : Int32), L) = some L' ∧ ((∀ a, a ≠ 15 → L' a = L a) ∧ (∀ k, k < p ∨ p + 16 ≤ k → L' 15 k = L 15 k) ∧ ∀ k, k < 16 → L' 15 (p + k) = if k = 0 then 1 else 0) := by
    refine lp_inv (fun i s => s.1 = nI i ∧ (∀ a, a ≠ 15 → s.2 a = L a) ∧ (∀ k, k < p ∨ p + 16 ≤ k → s.2 15 k = L 15 k) ∧ ∀ k, k < i → s.2 15 (p + k) = if k = 0 then 1 else 0) _ 16 ?_ (by omega) ?_ ?_
    · exact ⟨rfl, fun a _ => rfl, fun k _ => rfl, fun k h => by omega⟩
    · intro i ⟨v, L1⟩ hk ⟨e, g1, g2, g3⟩
      dsimp only at e g1 g2 g3 ⊢
      subst e
      refine Or.inl ⟨(nI (i + 1), ux_w L1 15 (p + i) (if i = 0 then 1 else 0)), ?_, rfl, fun a ha => (uw_ne L1 _ _ ha).trans (g1 a ha), fun k hk => ?_, fun k hk => ?_⟩
      · simp (disch := omega) only [fX12_layNone_2b, fX12_layNone_2b_24, li_0, li_1, li_2, li_3, li_4, li_5, li_6, li_7, li_8, li_9, li_10, li_11, li_12, li_13, li_14, li_16, li_18, li_20, li_21, li_24, li_31, li_32, li_40, li_42, li_48, li_57, li_59, li_64, li_97, li_99, li_122, li_128, li_147, li_189, li_200, li_231, li_252, li_255, li_512, li_1023, li_1024, li_8192, li_8208, li_9999, li_50000, li_500000, nI_leI, nI_ltI, nI_eq, pb_in, nI_clamp, nI_add, pk_mul, pk_sub, qb_bit1, qb_bit0, qb_pow, qb_m1, qb_m1', qb_ofn, Option.bind_some, ↓reduceIte, eq_self, if_true, if_false, Sum.elim_inl, Sum.elim_inr]
        rw [if_neg (by omega)]
        by_cases e : i = 0
        · rw [if_pos e, if_pos e]
        · rw [if_neg e, if_neg e]
      · dsimp only
        rw [uw_same, if_neg (by omega)]; exact g2 k hk
      · dsimp only
        rw [uw_same]
        by_cases e : k = i
        · rw [if_pos (by omega), e]
        · rw [if_neg (by omega)]; exact g3 k (by omega)
    · intro ⟨v, L1⟩ ⟨e, g1, g2, g3⟩
      dsimp only at e g1 g2 g3 ⊢
      subst e
      refine ⟨L1, ?_, g1, g2, g3⟩
      simp (disch := omega) only [fX12_layNone_2b, li_0, li_1, li_2, li_3, li_4, li_5, li_6, li_7, li_8, li_9, li_10, li_11, li_12, li_13, li_14, li_16, li_18, li_20, li_21, li_24, li_31, li_32, li_40, li_42, li_48, li_57, li_59, li_64, li_97, li_99, li_122, li_128, li_147, li_189, li_200, li_231, li_252, li_255, li_512, li_1023, li_1024, li_8192, li_8208, li_9999, li_50000, li_500000, nI_leI, nI_ltI, nI_eq, pb_in, nI_clamp, nI_add, pk_mul, pk_sub, qb_bit1, qb_bit0, qb_pow, qb_m1, qb_m1', qb_ofn, Option.bind_some, ↓reduceIte, eq_self, if_true, if_false, Sum.elim_inl, Sum.elim_inr]
      simp
  obtain ⟨L', q0, q1, q2, q3⟩ := hlp
  refine ⟨L', by unfold fX12_layNone; rw [q0]; rfl, q1, q2, fun s hs => ?_⟩
  unfold gS
  rw [q3 _ (by omega)]
  by_cases e : s / 64 = 0
  · rw [if_pos e, lb_1 _ (by omega)]
    exact decide_eq_decide.mpr (by omega)
  · rw [if_neg e, lb_0]
    exact (decide_eq_false (by omega)).symm
theorem lm_49lo {f t0 may l : Nat} (hf : f + 16 ≤ 8224) (ht : t0 + 16 ≤ 8224) (hd : f + 16 ≤ t0 ∨ t0 + 16 ≤ f) (hm : may < 2 ^ 31) (h6 : l < 6) (hb : may.testBit l = true) : ∃ L', ux_lp (fun s : Int32 × ux_L => fX12_layMore_49b (nI f) (nI t0) (nI may) (nI l) s.1 N s.2) ux_fu ((0 : Int32), L) = some L' ∧ ((∀ a, a ≠ 15 → L' a = L a) ∧ (∀ k, k < t0 ∨ t0 + 16 ≤ k → L' 15 k = L 15 k) ∧ ∀ k, k < 16 → L' 15 (t0 + k) = (L 15 (t0 + k) ||| ((L 15 (f + k) &&& L 16 l) <<< ((nI (2 ^ l)).toInt64 &&& 63)))) := by
  have hh : fX12_has (nI may) (nI l) = some 1 := by rw [pm_has hm (by omega), if_pos hb]
  refine lp_inv (fun i s => s.1 = nI i ∧ (∀ a, a ≠ 15 → s.2 a = L a) ∧ (∀ k, k < t0 ∨ t0 + 16 ≤ k → s.2 15 k = L 15 k) ∧ (∀ k, k < i → s.2 15 (t0 + k) = (L 15 (t0 + k) ||| ((L 15 (f + k) &&& L 16 l) <<< ((nI (2 ^ l)).toInt64 &&& 63)))) ∧ ∀ k, i ≤ k → s.2 15 (t0 + k) = L 15 (t0 + k)) _ 16 ?_ (by omega) ?_ ?_
  · exact ⟨rfl, fun a _ => rfl, fun k _ => rfl, fun k h => by omega, fun k _ => rfl⟩
  · intro i ⟨v, L1⟩ hk ⟨e, g1, g2, g3, g4⟩
    dsimp only at e g1 g2 g3 g4 ⊢
    subst e
    have r1 : L1 15 (f + i) = L 15 (f + i) := g2 _ (by omega)
    have r2 : L1 15 (t0 + i) = L 15 (t0 + i) := g4 i (Nat.le_refl i)
    refine Or.inl ⟨(nI (i + 1), ux_w L1 15 (t0 + i) (L 15 (t0 + i) ||| ((L 15 (f + i) &&& L 16 l) <<< ((nI (2 ^ l)).toInt64 &&& 63)))), ?_, rfl, fun a ha => (uw_ne L1 _ _ ha).trans (g1 a ha), fun k hk => ?_, fun k hk => ?_, fun k hk => ?_⟩
    · simp (disch := omega) only [fX12_layMore_49b, fX12_layMore_49b_106, fX12_layMore_49b_151, hh, r1, r2, g1 16 (by decide), li_0, li_1, li_2, li_3, li_4, li_5, li_6, li_7, li_8, li_9, li_10, li_11, li_12, li_13, li_14, li_16, li_18, li_20, li_21, li_24, li_31, li_32, li_40, li_42, li_48, li_57, li_59, li_64, li_97, li_99, li_122, li_128, li_147, li_189, li_200, li_231, li_252, li_255, li_512, li_1023, li_1024, li_8192, li_8208, li_9999, li_50000, li_500000, nI_leI, nI_ltI, nI_eq, pb_in, nI_clamp, nI_add, pk_mul, pk_sub, qb_bit1, qb_bit0, qb_pow, qb_m1, qb_m1', qb_ofn, Option.bind_some, ↓reduceIte, eq_self, if_true, if_false, Sum.elim_inl, Sum.elim_inr]
      rw [if_neg (by omega), if_neg (by decide), if_neg (by omega)]
    · dsimp only
      rw [uw_same, if_neg (by omega)]; exact g2 k hk
    · dsimp only
      rw [uw_same]
      by_cases e : k = i
      · rw [if_pos (by omega), e]
      · rw [if_neg (by omega)]; exact g3 k (by omega)
    · dsimp only
      rw [uw_same, if_neg (by omega)]; exact g4 k (by omega)
  · intro ⟨v, L1⟩ ⟨e, g1, g2, g3, g4⟩
    dsimp only at e g1 g2 g3 ⊢
    subst e
    refine ⟨L1, ?_, g1, g2, g3⟩
    simp (disch := omega) only [fX12_layMore_49b, li_0, li_1, li_2, li_3, li_4, li_5, li_6, li_7, li_8, li_9, li_10, li_11, li_12, li_13, li_14, li_16, li_18, li_20, li_21, li_24, li_31, li_32, li_40, li_42, li_48, li_57, li_59, li_64, li_97, li_99, li_122, li_128, li_147, li_189, li_200, li_231, li_252, li_255, li_512, li_1023, li_1024, li_8192, li_8208, li_9999, li_50000, li_500000, nI_leI, nI_ltI, nI_eq, pb_in, nI_clamp, nI_add, pk_mul, pk_sub, qb_bit1, qb_bit0, qb_pow, qb_m1, qb_m1', qb_ofn, Option.bind_some, ↓reduceIte, eq_self, if_true, if_false, Sum.elim_inl, Sum.elim_inr]
    simp
theorem lm_49hi {f t0 may l : Nat} (hf : f + 16 ≤ 8224) (ht : t0 + 16 ≤ 8224) (hd : f + 16 ≤ t0 ∨ t0 + 16 ≤ f) (hm : may < 2 ^ 31) (h6 : 6 ≤ l) (h10 : l < 10) (hb : may.testBit l = true) : ∃ L', ux_lp (fun s : Int32 × ux_L => fX12_layMore_49b (nI f) (nI t0) (nI may) (nI l) s.1 N s.2) ux_fu ((0 : Int32), L) = some L' ∧ ((∀ a, a ≠ 15 → L' a = L a) ∧ (∀ k, k < t0 ∨ t0 + 16 ≤ k → L' 15 k = L 15 k) ∧ ∀ k, k < 16 → L' 15 (t0 + k) = if k.testBit (l - 6) = true then (L 15 (t0 + k) ||| L 15 (f + (k ^^^ 2 ^ (l - 6)))) else L 15 (t0 + k)) := by
  have hh : fX12_has (nI may) (nI l) = some 1 := by rw [pm_has hm (by omega), if_pos hb]
  have hd4 : l - 6 < 4 := by omega
  have hxo := xh_o (l - 6) hd4
  have hxx := xh_x (l - 6) hd4
  generalize hdd : l - 6 = d at hd4 hxo hxx ⊢
  have hll : nI l - nI 6 = nI d := by rw [pk_sub h6, hdd]
  refine lp_inv (fun i s => s.1 = nI i ∧ (∀ a, a ≠ 15 → s.2 a = L a) ∧ (∀ k, k < t0 ∨ t0 + 16 ≤ k → s.2 15 k = L 15 k) ∧ ∀ k, k < 16 → s.2 15 (t0 + k) = if k.testBit d = true ∧ (k ^^^ 2 ^ d) < i then (L 15 (t0 + k) ||| L 15 (f + (k ^^^ 2 ^ d))) else L 15 (t0 + k)) _ 16 ?_ (by omega) ?_ ?_
  · exact ⟨rfl, fun a _ => rfl, fun k _ => rfl, fun k h => by rw [if_neg (by omega)]⟩
  · intro i ⟨v, L1⟩ hk ⟨e, g1, g2, g3⟩
    dsimp only at e g1 g2 g3 ⊢
    subst e
    have r1 : L1 15 (f + i) = L 15 (f + i) := g2 _ (by omega)
    by_cases hz : i.testBit d = true
    · refine Or.inl ⟨(nI (i + 1), L1), ?_, rfl, g1, g2, fun k hk2 => ?_⟩
      · simp (disch := omega) only [fX12_layMore_49b, fX12_layMore_49b_151, hh, hll, pm_has, hz, li_0, li_1, li_2, li_3, li_4, li_5, li_6, li_7, li_8, li_9, li_10, li_11, li_12, li_13, li_14, li_16, li_18, li_20, li_21, li_24, li_31, li_32, li_40, li_42, li_48, li_57, li_59, li_64, li_97, li_99, li_122, li_128, li_147, li_189, li_200, li_231, li_252, li_255, li_512, li_1023, li_1024, li_8192, li_8208, li_9999, li_50000, li_500000, nI_leI, nI_ltI, nI_eq, pb_in, nI_clamp, nI_add, pk_mul, pk_sub, qb_bit1, qb_bit0, qb_pow, qb_m1, qb_m1', qb_ofn, Option.bind_some, ↓reduceIte, eq_self, if_true, if_false, Sum.elim_inl, Sum.elim_inr]
        rw [if_neg (by omega), if_neg (by decide), if_pos (by omega), if_neg (by decide)]
      · dsimp only
        rw [g3 k hk2]
        by_cases q : k.testBit d = true ∧ (k ^^^ 2 ^ d) < i
        · rw [if_pos q, if_pos ⟨q.1, by omega⟩]
        · rw [if_neg q, if_neg (fun z => ?_)]
          by_cases e : (k ^^^ 2 ^ d) = i
          · have := (hxx k hk2 z.1).2.1
            rw [e, hz] at this; cases this
          · exact q ⟨z.1, by omega⟩
    · have hz0 : i.testBit d = false := by simpa using hz
      obtain ⟨o1, o2, o3⟩ := hxo i hk hz0
      have r2 := g3 (i ||| 2 ^ d) o1
      rw [if_neg (by omega)] at r2
      refine Or.inl ⟨(nI (i + 1), ux_w L1 15 (t0 + (i ||| 2 ^ d)) (L 15 (t0 + (i ||| 2 ^ d)) ||| L 15 (f + i))), ?_, rfl, fun a ha => (uw_ne L1 _ _ ha).trans (g1 a ha), fun k hk => ?_, fun k hk2 => ?_⟩
      · simp (disch := omega) only [fX12_layMore_49b, fX12_layMore_49b_151, hh, hll, pm_has, r1, r2, fa_or, li_0, li_1, li_2, li_3, li_4, li_5, li_6, li_7, li_8, li_9, li_10, li_11, li_12, li_13, li_14, li_16, li_18, li_20, li_21, li_24, li_31, li_32, li_40, li_42, li_48, li_57, li_59, li_64, li_97, li_99, li_122, li_128, li_147, li_189, li_200, li_231, li_252, li_255, li_512, li_1023, li_1024, li_8192, li_8208, li_9999, li_50000, li_500000, nI_leI, nI_ltI, nI_eq, pb_in, nI_clamp, nI_add, pk_mul, pk_sub, qb_bit1, qb_bit0, qb_pow, qb_m1, qb_m1', qb_ofn, Option.bind_some, ↓reduceIte, eq_self, if_true, if_false, Sum.elim_inl, Sum.elim_inr]
        rw [if_neg (by omega), if_neg (by decide), if_pos (by omega), if_neg hz, if_pos rfl]
      · dsimp only
        rw [uw_same, if_neg (by omega)]; exact g2 k hk
      · dsimp only
        rw [uw_same]
        by_cases e : k = (i ||| 2 ^ d)
        · rw [if_pos (by omega), e, o3, if_pos ⟨o2, by omega⟩]
        · rw [if_neg (by omega), g3 k hk2]
          by_cases q : k.testBit d = true ∧ (k ^^^ 2 ^ d) < i
          · rw [if_pos q, if_pos ⟨q.1, by omega⟩]
          · rw [if_neg q, if_neg (fun z => ?_)]
            by_cases e2 : (k ^^^ 2 ^ d) = i
            · have := (hxx k hk2 z.1).2.2
              rw [e2] at this
              exact e this.symm
            · exact q ⟨z.1, by omega⟩
  · intro ⟨v, L1⟩ ⟨e, g1, g2, g3⟩
    dsimp only at e g1 g2 g3 ⊢
    subst e
    refine ⟨L1, ?_, g1, g2, fun k hk => ?_⟩
    · simp (disch := omega) only [fX12_layMore_49b, li_0, li_1, li_2, li_3, li_4, li_5, li_6, li_7, li_8, li_9, li_10, li_11, li_12, li_13, li_14, li_16, li_18, li_20, li_21, li_24, li_31, li_32, li_40, li_42, li_48, li_57, li_59, li_64, li_97, li_99, li_122, li_128, li_147, li_189, li_200, li_231, li_252, li_255, li_512, li_1023, li_1024, li_8192, li_8208, li_9999, li_50000, li_500000, nI_leI, nI_ltI, nI_eq, pb_in, nI_clamp, nI_add, pk_mul, pk_sub, qb_bit1, qb_bit0, qb_pow, qb_m1, qb_m1', qb_ofn, Option.bind_some, ↓reduceIte, eq_self, if_true, if_false, Sum.elim_inl, Sum.elim_inr]
      simp
    · rw [g3 k hk]
      by_cases q : k.testBit d = true
      · rw [if_pos ⟨q, (hxx k hk q).1⟩, if_pos q]
      · rw [if_neg (fun z => q z.1), if_neg q]
theorem lm_49 (hW : ∀ l, l < 6 → ∀ j, j < 64 → lb (L 16 l) j = !j.testBit l) {f t0 may l : Nat} (hf : f + 16 ≤ 8224) (ht : t0 + 16 ≤ 8224) (hd : f + 16 ≤ t0 ∨ t0 + 16 ≤ f) (hm : may < 2 ^ 31) (h10 : l < 10) : ∃ L', ux_lp (fun s : Int32 × ux_L => fX12_layMore_49b (nI f) (nI t0) (nI may) (nI l) s.1 N s.2) ux_fu ((0 : Int32), L) = some L' ∧ ((∀ a, a ≠ 15 → L' a = L a) ∧ (∀ k, k < t0 ∨ t0 + 16 ≤ k → L' 15 k = L 15 k) ∧ ∀ s, s < 1024 → gS L' t0 s = (gS L t0 s || (may.testBit l && s.testBit l && gS L f (s ^^^ 2 ^ l)))) := by
  by_cases hb : may.testBit l = true
  · by_cases h6 : l < 6
    · obtain ⟨L', q0, q1, q2, q3⟩ := lm_49lo (N := N) (L := L) hf ht hd hm h6 hb
      refine ⟨L', q0, q1, q2, fun s hs => ?_⟩
      have hp : 2 ^ l < 64 := Nat.lt_of_lt_of_le (Nat.pow_lt_pow_right (by decide) h6) (by decide)
      obtain ⟨x1, x2⟩ := xr_s s hs l h10
      obtain ⟨y1, y2⟩ := xr_lo l h6 (s % 64) (by omega)
      rw [if_pos h6] at x1
      unfold gS
      rw [q3 _ (by omega), lb_or, lb_shl _ hp _ (by omega), lb_and, x1, hb, Bool.true_and]
      congr 1
      by_cases hb : (s % 64).testBit l = true
      · obtain ⟨z1, z2⟩ := x2 (by rw [x1]; exact hb)
        rw [if_pos h6] at z2
        obtain ⟨w1, w2⟩ := y2 hb
        rw [hb] at y1
        simp only [Bool.and_eq_true, decide_eq_true_eq] at y1
        rw [hW l h6 _ (by omega), y1.2, hb, z2.1, z2.2, w1]
        simp [y1.1]
      · have hb2 : (s % 64).testBit l = false := by simpa using hb
        rw [hb2] at y1 ⊢
        rw [Bool.false_and]
        by_cases hk : 2 ^ l ≤ s % 64
        · rw [hW l h6 _ (Nat.lt_of_le_of_lt (Nat.sub_le _ _) (Nat.mod_lt _ (by decide)))]
          simp only [hk, decide_true, Bool.true_and] at y1 ⊢
          rw [y1, Bool.and_false]
        · simp [hk]
    · obtain ⟨L', q0, q1, q2, q3⟩ := lm_49hi (N := N) (L := L) hf ht hd hm (by omega) h10 hb
      refine ⟨L', q0, q1, q2, fun s hs => ?_⟩
      obtain ⟨x1, _⟩ := xr_s s hs l h10
      obtain ⟨y1, y2⟩ := xh_s s hs l h10 (by omega)
      rw [if_neg h6] at x1
      unfold gS
      rw [q3 _ (by omega), x1, hb, Bool.true_and, y1, y2]
      by_cases q : (s / 64).testBit (l - 6) = true
      · rw [if_pos q, q, lb_or, Bool.true_and]
      · have q0 : (s / 64).testBit (l - 6) = false := by simpa using q
        rw [if_neg q, q0, Bool.false_and, Bool.or_false]
  · have hb0 : may.testBit l = false := by simpa using hb
    refine ⟨L, ?_, fun _ _ => rfl, fun _ _ => rfl, fun s _ => by rw [hb0]; simp⟩
    refine lp_at (fun _ => ((0 : Int32), L)) 0 rfl (by decide) (fun i hk => by omega) ?_
    simp (disch := omega) only [fX12_layMore_49b, pm_has, li_0, li_1, li_2, li_3, li_4, li_5, li_6, li_7, li_8, li_9, li_10, li_11, li_12, li_13, li_14, li_16, li_18, li_20, li_21, li_24, li_31, li_32, li_40, li_42, li_48, li_57, li_59, li_64, li_97, li_99, li_122, li_128, li_147, li_189, li_200, li_231, li_252, li_255, li_512, li_1023, li_1024, li_8192, li_8208, li_9999, li_50000, li_500000, nI_leI, nI_ltI, nI_eq, pb_in, nI_clamp, nI_add, pk_mul, pk_sub, qb_bit1, qb_bit0, qb_pow, qb_m1, qb_m1', qb_ofn, Option.bind_some, ↓reduceIte, eq_self, if_true, if_false, Sum.elim_inl, Sum.elim_inr]
    rw [if_neg (by decide), if_neg hb, if_pos (show nI 0 = nI 0 from rfl)]
theorem lm_more (hp : plM N nd ln lo hi) (hW : ∀ l, l < 6 → ∀ j, j < 64 → lb (L 16 l) j = !j.testBit l) {f t0 may : Nat} (hf : f + 16 ≤ 8224) (ht : t0 + 16 ≤ 8224) (hd : f + 16 ≤ t0 ∨ t0 + 16 ≤ f) (hm : may < 2 ^ 31) : ∃ L', fX12_layMore (nI f) (nI t0) (nI may) N L = some L' ∧ (∀ a, a ≠ 15 → L' a = L a) ∧ (∀ k, k < t0 ∨ t0 + 16 ≤ k → L' 15 k = L 15 k) ∧ ∀ s, s < 1024 → gS L' t0 s = (gS L f s || (List.range ln).any (fun l => may.testBit l && s.testBit l && gS L f (s ^^^ 2 ^ l))) := by
  obtain ⟨h0, h1, ⟨b1, b2, b3⟩, hl⟩ := hp
  have hlp0 : ∃ L', ux_lp (fun t : Int32 × ux_L => fX12_layMore_3b (nI f) (nI t0) (nI may) t.1 N t.2) ux_fu ((0 : Int32), L) = some L' ∧ ((∀ a, a ≠ 15 → L' a = L a) ∧ (∀ k, k < t0 ∨ t0 + 16 ≤ k → L' 15 k = L 15 k) ∧ ∀ k, k < 16 → L' 15 (t0 + k) = L 15 (f + k)) := by
    refine lp_inv (fun i s => s.1 = nI i ∧ (∀ a, a ≠ 15 → s.2 a = L a) ∧ (∀ k, k < t0 ∨ t0 + 16 ≤ k → s.2 15 k = L 15 k) ∧ ∀ k, k < i → s.2 15 (t0 + k) = L 15 (f + k)) _ 16 ?_ (by omega) ?_ ?_
    · exact ⟨rfl, fun a _ => rfl, fun k _ => rfl, fun k h => by omega⟩
    · intro i ⟨v, L1⟩ hk ⟨e, g1, g2, g3⟩
      dsimp only at e g1 g2 g3 ⊢
      subst e
      have r1 : L1 15 (f + i) = L 15 (f + i) := g2 _ (by omega)
      refine Or.inl ⟨(nI (i + 1), ux_w L1 15 (t0 + i) (L 15 (f + i))), ?_, rfl, fun a ha => (uw_ne L1 _ _ ha).trans (g1 a ha), fun k hk => ?_, fun k hk => ?_⟩
      · simp (disch := omega) only [fX12_layMore_3b, r1, li_0, li_1, li_2, li_3, li_4, li_5, li_6, li_7, li_8, li_9, li_10, li_11, li_12, li_13, li_14, li_16, li_18, li_20, li_21, li_24, li_31, li_32, li_40, li_42, li_48, li_57, li_59, li_64, li_97, li_99, li_122, li_128, li_147, li_189, li_200, li_231, li_252, li_255, li_512, li_1023, li_1024, li_8192, li_8208, li_9999, li_50000, li_500000, nI_leI, nI_ltI, nI_eq, pb_in, nI_clamp, nI_add, pk_mul, pk_sub, qb_bit1, qb_bit0, qb_pow, qb_m1, qb_m1', qb_ofn, Option.bind_some, ↓reduceIte, eq_self, if_true, if_false, Sum.elim_inl, Sum.elim_inr]
        rw [if_neg (by omega)]
      · dsimp only
        rw [uw_same, if_neg (by omega)]; exact g2 k hk
      · dsimp only
        rw [uw_same]
        by_cases e : k = i
        · rw [if_pos (by omega), e]
        · rw [if_neg (by omega)]; exact g3 k (by omega)
    · intro ⟨v, L1⟩ ⟨e, g1, g2, g3⟩
      dsimp only at e g1 g2 g3 ⊢
      subst e
      refine ⟨L1, ?_, g1, g2, g3⟩
      simp (disch := omega) only [fX12_layMore_3b, li_0, li_1, li_2, li_3, li_4, li_5, li_6, li_7, li_8, li_9, li_10, li_11, li_12, li_13, li_14, li_16, li_18, li_20, li_21, li_24, li_31, li_32, li_40, li_42, li_48, li_57, li_59, li_64, li_97, li_99, li_122, li_128, li_147, li_189, li_200, li_231, li_252, li_255, li_512, li_1023, li_1024, li_8192, li_8208, li_9999, li_50000, li_500000, nI_leI, nI_ltI, nI_eq, pb_in, nI_clamp, nI_add, pk_mul, pk_sub, qb_bit1, qb_bit0, qb_pow, qb_m1, qb_m1', qb_ofn, Option.bind_some, ↓reduceIte, eq_self, if_true, if_false, Sum.elim_inl, Sum.elim_inr]
      simp
  obtain ⟨L0, a0, a1, a2, a3⟩ := hlp0
  have hlp : ∃ L', ux_lp (fun t : Int32 × ux_L => fX12_layMore_37b (nI f) (nI t0) (nI may) t.1 N t.2) ux_fu ((0 : Int32), L0) = some L' ∧ ((∀ a, a ≠ 15 → L' a = L a) ∧ (∀ k, k < t0 ∨ t0 + 16 ≤ k → L' 15 k = L 15 k) ∧ ∀ s, s < 1024 → gS L' t0 s = (gS L f s || (List.range ln).any (fun l => may.testBit l && s.testBit l && gS L f (s ^^^ 2 ^ l)))) := by
    refine lp_inv (fun i t => t.1 = nI i ∧ (∀ a, a ≠ 15 → t.2 a = L a) ∧ (∀ k, k < t0 ∨ t0 + 16 ≤ k → t.2 15 k = L 15 k) ∧ ∀ s, s < 1024 → gS t.2 t0 s = (gS L f s || (List.range i).any (fun l => may.testBit l && s.testBit l && gS L f (s ^^^ 2 ^ l)))) _ ln ?_ (by omega) ?_ ?_
    · refine ⟨rfl, a1, a2, fun s hs => ?_⟩
      dsimp only
      unfold gS
      rw [a3 _ (by omega)]; simp
    · intro i ⟨v, L1⟩ hk ⟨e, g1, g2, g3⟩
      dsimp only at e g1 g2 g3 ⊢
      subst e
      obtain ⟨L2, q0, q1, q2, q3⟩ := lm_49 (N := N) (L := L1) (by rw [g1 16 (by decide)]; exact hW) hf ht hd hm (by omega : i < 10)
      refine Or.inl ⟨(nI (i + 1), L2), ?_, rfl, fun a ha => (q1 a ha).trans (g1 a ha), fun k hk => (q2 k hk).trans (g2 k hk), fun s hs => ?_⟩
      · rw [li_0] at q0
        simp (disch := omega) only [fX12_layMore_37b, fX12_layMore_37b_157, h1, q0, li_0, li_1, li_2, li_3, li_4, li_5, li_6, li_7, li_8, li_9, li_10, li_11, li_12, li_13, li_14, li_16, li_18, li_20, li_21, li_24, li_31, li_32, li_40, li_42, li_48, li_57, li_59, li_64, li_97, li_99, li_122, li_128, li_147, li_189, li_200, li_231, li_252, li_255, li_512, li_1023, li_1024, li_8192, li_8208, li_9999, li_50000, li_500000, nI_leI, nI_ltI, nI_eq, pb_in, nI_clamp, nI_add, pk_mul, pk_sub, qb_bit1, qb_bit0, qb_pow, qb_m1, qb_m1', qb_ofn, Option.bind_some, ↓reduceIte, eq_self, if_true, if_false, Sum.elim_inl, Sum.elim_inr]
        rw [if_neg (by omega)]
      · dsimp only
        have hs2 : s.testBit i = true → s ^^^ 2 ^ i < 1024 := fun hb => ((xr_s s hs i (by omega)).2 hb).1
        have e3 : s.testBit i = true → gS L1 f (s ^^^ 2 ^ i) = gS L f (s ^^^ 2 ^ i) := fun hb => by
          have := hs2 hb
          unfold gS; rw [g2 _ (by omega)]
        rw [q3 s hs, g3 s hs, List.range_succ, List.any_append, Bool.or_assoc]
        congr 2
        by_cases hb : s.testBit i = true
        · rw [e3 hb]; simp
        · simp [hb]
    · intro ⟨v, L1⟩ ⟨e, g1, g2, g3⟩
      dsimp only at e g1 g2 g3 ⊢
      subst e
      refine ⟨L1, ?_, g1, g2, g3⟩
      simp (disch := omega) only [fX12_layMore_37b, h1, li_0, li_1, li_2, li_3, li_4, li_5, li_6, li_7, li_8, li_9, li_10, li_11, li_12, li_13, li_14, li_16, li_18, li_20, li_21, li_24, li_31, li_32, li_40, li_42, li_48, li_57, li_59, li_64, li_97, li_99, li_122, li_128, li_147, li_189, li_200, li_231, li_252, li_255, li_512, li_1023, li_1024, li_8192, li_8208, li_9999, li_50000, li_500000, nI_leI, nI_ltI, nI_eq, pb_in, nI_clamp, nI_add, pk_mul, pk_sub, qb_bit1, qb_bit0, qb_pow, qb_m1, qb_m1', qb_ofn, Option.bind_some, ↓reduceIte, eq_self, if_true, if_false, Sum.elim_inl, Sum.elim_inr]
      simp
  obtain ⟨L', q0, q1⟩ := hlp
  refine ⟨L', ?_, q1⟩
  unfold fX12_layMore
  rw [a0, Option.bind_some, q0]; rfl
end SRV
