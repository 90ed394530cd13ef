/-! Int64 by its bits -/
def lb (x : Int64) (j : Nat) : Bool := x.toBitVec.getLsbD j
theorem lb_ext {x y : Int64} (h : ∀ i, i < 64 → lb x i = lb y i) : x = y := Int64.toBitVec_inj.mp (BitVec.eq_of_getLsbD_eq (fun i hi => h i hi))
theorem lb_or (x y : Int64) (i : Nat) : lb (x ||| y) i = (lb x i || lb y i) := by unfold lb; rw [Int64.toBitVec_or, BitVec.getLsbD_or]
theorem lb_and (x y : Int64) (i : Nat) : lb (x &&& y) i = (lb x i && lb y i) := by unfold lb; rw [Int64.toBitVec_and, BitVec.getLsbD_and]
theorem lb_0 (i : Nat) : lb 0 i = false := BitVec.getLsbD_zero
theorem lb_1 : ∀ i, i < 64 → lb 1 i = decide (i = 0) := by decide +kernel
theorem lb_sm : ∀ k, k < 64 → (((nI k).toInt64 &&& 63).toBitVec.smod 64).toNat = k := by decide +kernel
theorem lb_shl (k : Nat) (hk : k < 64) (x : Int64) {i : Nat} (hi : i < 64) : lb (x <<< ((nI k).toInt64 &&& 63)) i = (decide (k ≤ i) && lb x (i - k)) := by
  unfold lb
  rw [Int64.toBitVec_shiftLeft]
  show (x.toBitVec <<< (((nI k).toInt64 &&& 63).toBitVec.smod 64).toNat).getLsbD i = _
  rw [lb_sm k hk, BitVec.getLsbD_shiftLeft]
  rcases Nat.lt_or_ge i k with h | h
  · simp [h, Nat.not_le.mpr h]
  · simp [hi, h, Nat.not_lt.mpr h]
theorem lb_shr0 (k : Nat) (hk : k < 64) (x : Int64) : lb (x >>> ((nI k).toInt64 &&& 63)) 0 = lb x k := by
  unfold lb
  rw [Int64.toBitVec_shiftRight]
  show (x.toBitVec.sshiftRight (((nI k).toInt64 &&& 63).toBitVec.smod 64).toNat).getLsbD 0 = _
  rw [lb_sm k hk, BitVec.getLsbD_sshiftRight]
  simp [hk]
theorem lb_pow (k : Nat) (hk : k < 64) {i : Nat} (hi : i < 64) : lb ((1 : Int64) <<< ((nI k).toInt64 &&& 63)) i = decide (i = k) := by
  rw [lb_shl k hk _ hi]
  by_cases h : k ≤ i
  · rw [lb_1 (i - k) (by omega)]
    have : (i - k = 0) ↔ i = k := by omega
    simp [h, this]
  · have : ¬ i = k := by omega
    simp [h, this]
theorem lb_eq0 {x : Int64} : lg_cmp x 0 = 0 ↔ ∀ j, j < 64 → lb x j = false := by
  rw [lg_cmp_eq]
  constructor
  · intro h j _; rw [h]; exact lb_0 j
  · intro h; exact lb_ext (fun i hi => by rw [h i hi, lb_0])
theorem lb_ne0 {x : Int64} : ¬ lg_cmp x 0 = 0 ↔ ∃ j, j < 64 ∧ lb x j = true := by
  rw [lb_eq0]
  constructor
  · intro h
    apply Classical.byContradiction
    intro k
    apply h
    intro j hj
    cases e : lb x j with
    | false => rfl
    | true => exact absurd ⟨j, hj, e⟩ k
  · intro ⟨j, hj, e⟩ h
    rw [h j hj] at e; cases e
theorem lb_and1 (x : Int64) : lg_cmp (x &&& 1) 1 = 0 ↔ lb x 0 = true := by
  rw [lg_cmp_eq]
  constructor
  · intro h
    have h2 : lb (x &&& 1) 0 = lb 1 0 := by rw [h]
    rw [lb_and, lb_1 0 (by decide)] at h2
    simpa using h2
  · intro h
    apply lb_ext
    intro i hi
    rw [lb_and, lb_1 i hi]
    by_cases e : i = 0
    · subst e; simp [h]
    · simp [e]
/-! families of sets of lines: 1024 bits in sixteen words -/
def fm (g : Nat → Int64) (s : Nat) : Bool := lb (g (s / 64)) (s % 64)
theorem fm_at (g : Nat → Int64) {r j : Nat} (hj : j < 64) : fm g (64 * r + j) = lb (g r) j := by
  unfold fm
  rw [show (64 * r + j) / 64 = r from by omega, show (64 * r + j) % 64 = j from by omega]
theorem pb_div64 {s : Nat} (hs : s < 2 ^ 31) : nI s / (64 : Int32) = nI (s / 64) := pk_div (d := 64) hs (by decide) (by decide)
theorem pb_rem64 {s : Nat} (hs : s < 2 ^ 31) : nI s - nI s / (64 : Int32) * (64 : Int32) = nI (s % 64) := pk_rem (d := 64) hs (by decide) (by decide)
theorem uw_same (L : ux_L) (h k : Nat) (v : Int64) (j : Nat) : ux_w L h k v h j = if j = k then v else L h j := by unfold ux_w; rw [if_pos rfl]; rfl
theorem uw_ne (L : ux_L) {h a : Nat} (k : Nat) (v : Int64) (e : a ≠ h) : ux_w L h k v a = L a := by unfold ux_w; rw [if_neg e]
theorem uu_same (N : ux_N) (h k : Nat) (v : Int32) (j : Nat) : ux_u N h k v h j = if j = k then v else N h j := by unfold ux_u; rw [if_pos rfl]; rfl
theorem uu_ne (N : ux_N) {h a : Nat} (k : Nat) (v : Int32) (e : a ≠ h) : ux_u N h k v a = N a := by unfold ux_u; rw [if_neg e]
section FAM
variable {L : ux_L} {c cf : Nat}
theorem fc_start (L : ux_L) (c : Nat) : ∃ L', fX0_startWithEmptySet c L = some L' ∧ (∀ a, a ≠ c + 1 → L' a = L a) ∧ ∀ s, s < 1024 → fm (L' (c + 1)) s = decide (s = 0) := by
  have hlp : ∃ L', ux_lp (fun s : Int32 × ux_L => fX0_startWithEmptySet_9b c s.1 s.2) ux_fu ((1 : Int32), (ux_w L (c + 1) 0 (1 : Int64))) = some L' ∧ ((∀ a, a ≠ c + 1 → L' a = L a) ∧ L' (c + 1) 0 = 1 ∧ ∀ k, 1 ≤ k → k < 16 → L' (c + 1) k = 0) := by
    refine lp_inv (fun i s => s.1 = nI (1 + i) ∧ (∀ a, a ≠ c + 1 → s.2 a = L a) ∧ s.2 (c + 1) 0 = 1 ∧ ∀ k, 1 ≤ k → k < 1 + i → s.2 (c + 1) k = 0) _ 15 ?_ (by decide) ?_ ?_
    · exact ⟨rfl, fun a ha => uw_ne L 0 1 ha, by dsimp only; rw [uw_same]; rfl, fun k h1 h2 => by omega⟩
    · intro i ⟨v, L1⟩ hi ⟨e, h1, h2, h3⟩
      dsimp only at e h1 h2 h3 ⊢
      subst e
      refine Or.inl ⟨(nI (1 + (i + 1)), ux_w L1 (c + 1) (1 + i) 0), ?_, rfl, fun a ha => (uw_ne L1 _ _ ha).trans (h1 a ha), ?_, ?_⟩
      · simp (disch := omega) only [fX0_startWithEmptySet_9b, li_0, li_1, li_2, li_3, li_4, li_5, li_6, li_7, li_8, li_9, li_10, li_11, li_12, li_13, li_14, li_16, li_18, li_20, li_21, li_24, li_31, li_32, li_40, li_42, li_48, li_57, li_59, li_64, li_97, li_99, li_122, li_128, li_147, li_189, li_200, li_231, li_252, li_255, li_512, li_1023, li_1024, li_8192, li_8208, li_9999, li_50000, li_500000, nI_leI, nI_ltI, nI_eq, pb_in, nI_clamp, nI_add, pk_mul, pk_sub, qb_bit1, qb_bit0, qb_pow, qb_m1, qb_m1', qb_ofn, Option.bind_some, ↓reduceIte, eq_self, if_true, if_false, Sum.elim_inl, Sum.elim_inr]
        rw [if_neg (by omega)]
        rfl
      · dsimp only; rw [uw_same, if_neg (by omega)]; exact h2
      · intro k k1 k2
        dsimp only
        rw [uw_same]
        by_cases e : k = 1 + i
        · rw [if_pos e]
        · rw [if_neg e]; exact h3 k k1 (by omega)
    · intro ⟨v, L1⟩ ⟨e, h1, h2, h3⟩
      dsimp only at e h1 h2 h3 ⊢
      subst e
      refine ⟨L1, ?_, h1, h2, fun k k1 k2 => h3 k k1 (by omega)⟩
      simp (disch := omega) only [fX0_startWithEmptySet_9b, li_0, li_1, li_2, li_3, li_4, li_5, li_6, li_7, li_8, li_9, li_10, li_11, li_12, li_13, li_14, li_16, li_18, li_20, li_21, li_24, li_31, li_32, li_40, li_42, li_48, li_57, li_59, li_64, li_97, li_99, li_122, li_128, li_147, li_189, li_200, li_231, li_252, li_255, li_512, li_1023, li_1024, li_8192, li_8208, li_9999, li_50000, li_500000, nI_leI, nI_ltI, nI_eq, pb_in, nI_clamp, nI_add, pk_mul, pk_sub, qb_bit1, qb_bit0, qb_pow, qb_m1, qb_m1', qb_ofn, Option.bind_some, ↓reduceIte, eq_self, if_true, if_false, Sum.elim_inl, Sum.elim_inr]
      simp
  obtain ⟨L', h0, h1, h2, h3⟩ := hlp
  refine ⟨L', ?_, h1, fun s hs => ?_⟩
  · unfold fX0_startWithEmptySet
    rw [h0]; rfl
  · unfold fm
    by_cases e : s / 64 = 0
    · rw [e, h2, lb_1 _ (by omega)]
      have : (s % 64 = 0) ↔ s = 0 := by omega
      simp [this]
    · rw [h3 _ (by omega) (by omega), lb_0]
      have : ¬ s = 0 := by omega
      simp [this]
theorem fc_copy (L : ux_L) (c c1 : Nat) : ∃ L', fX0_copyFrom c c1 L = some L' ∧ (∀ a, a ≠ c + 1 → L' a = L a) ∧ ∀ k, k < 16 → L' (c + 1) k = L (c1 + 1) k := by
  refine ⟨_, rfl, fun a ha => ?_, fun k hk => ?_⟩
  · unfold ux_cpL; rw [if_neg ha]
  · unfold ux_cpL; rw [if_pos rfl, pk_cpy_in (by omega) (by omega)]
    congr 1; omega
theorem fc_holds {s : Nat} (hs : s < 1024) : fX0_holds c (nI s) L = some (if fm (L (c + 1)) s = true then 1 else 0) := by
  unfold fX0_holds fX0_holds_37
  rw [pb_rem64 (by omega), pb_div64 (by omega), if_neg (nI_pos (by omega)), if_neg (show ¬ (16 : Int32) ≤ nI (s / 64) from nI_ge (b := 16) (by omega) (by decide)), pb_in (by omega) (by decide), if_pos rfl, nI_clamp (by omega)]
  have e : (lg_cmp ((L (c + 1) (s / 64) >>> ((nI (s % 64)).toInt64 &&& 63)) &&& 1) 1 = 0) ↔ fm (L (c + 1)) s = true := by
    rw [lb_and1, lb_shr0 _ (by omega)]; rfl
  by_cases h : fm (L (c + 1)) s = true
  · rw [if_pos (e.mpr h), if_pos h]; rfl
  · rw [if_neg (fun q => h (e.mp q)), if_neg h]; rfl
theorem fc_include {s : Nat} (hs : s < 1024) : ∃ L', fX0_include c (nI s) L = some L' ∧ (∀ a, a ≠ c + 1 → L' a = L a) ∧ ∀ t, t < 1024 → fm (L' (c + 1)) t = (fm (L (c + 1)) t || decide (t = s)) := by
  refine ⟨ux_w L (c + 1) (s / 64) (L (c + 1) (s / 64) ||| ((1 : Int64) <<< ((nI (s % 64)).toInt64 &&& 63))), ?_, fun a ha => uw_ne L _ _ ha, fun t ht => ?_⟩
  · unfold fX0_include fX0_include_30
    rw [pb_rem64 (by omega), pb_div64 (by omega), if_neg (nI_pos (by omega)), if_neg (show ¬ (16 : Int32) ≤ nI (s / 64) from nI_ge (b := 16) (by omega) (by decide)), pb_in (by omega) (by decide), if_pos rfl, if_pos rfl, nI_clamp (by omega)]
  · unfold fm
    rw [uw_same]
    by_cases e : t / 64 = s / 64
    · rw [if_pos e, lb_or, lb_pow _ (by omega) (by omega), e]
      have : (t % 64 = s % 64) ↔ t = s := by omega
      simp [this]
    · rw [if_neg e]
      have : ¬ t = s := fun q => e (by rw [q])
      simp [this]
theorem lack_tb : ∀ l, l < 6 → ∀ j, j < 64 → lb (tb_lack.getD l 0) j = !j.testBit l := by decide +kernel
theorem xr_lo : ∀ l, l < 6 → ∀ j, j < 64 → (decide (2 ^ l ≤ j) && !(j - 2 ^ l).testBit l) = j.testBit l ∧ (j.testBit l = true → j - 2 ^ l = j ^^^ 2 ^ l ∧ j ^^^ 2 ^ l < 64) := by decide +kernel
theorem xr_s : ∀ s, s < 1024 → ∀ l, l < 10 → s.testBit l = (if l < 6 then (s % 64).testBit l else (s / 64).testBit (l - 6)) ∧ (s.testBit l = true → s ^^^ 2 ^ l < 1024 ∧ (if l < 6 then (s ^^^ 2 ^ l) / 64 = s / 64 ∧ (s ^^^ 2 ^ l) % 64 = s % 64 ^^^ 2 ^ l else (s ^^^ 2 ^ l) / 64 + 2 ^ (l - 6) = s / 64 ∧ (s ^^^ 2 ^ l) % 64 = s % 64)) := by decide +kernel
theorem xr_hi : ∀ d, d < 4 → ∀ t, t < 16 → t.testBit d = (decide (2 ^ d ≤ t) && decide (((t - 2 ^ d) &&& 2 ^ d) = 0)) := by decide +kernel
/-- joinLine: each set of 'before', with the line, where it lies in the forests -/
theorem fc_joinLine (hcf : c ≠ cf) {l : Nat} (hl : l < 10) : ∃ L', fX0_joinLine c cf (nI l) L = some L' ∧ (∀ a, a ≠ c + 1 → L' a = L a) ∧ ∀ s, s < 1024 → fm (L' (c + 1)) s = (fm (L (c + 1)) s || (s.testBit l && fm (L (c + 2)) (s ^^^ 2 ^ l) && fm (L (cf + 1)) s)) := by
  have n1 : c + 2 ≠ c + 1 := by omega
  have n2 : cf + 1 ≠ c + 1 := by omega
  unfold fX0_joinLine
  by_cases h6 : l < 6
  · rw [if_neg (show ¬ (6 : Int32) ≤ nI l from nI_ge (b := 6) h6 (by decide))]
    have hp : 2 ^ l < 64 := Nat.lt_of_lt_of_le (Nat.pow_lt_pow_right (by decide) h6) (by decide)
    have hlp : ∃ L', ux_lp (fun s : Int32 × ux_L => fX0_joinLine_8b c cf (nI l) s.1 s.2) ux_fu ((0 : Int32), L) = some L' ∧ ((∀ a, a ≠ c + 1 → L' a = L a) ∧ ∀ r, r < 16 → L' (c + 1) r = (L (c + 1) r ||| (((L (c + 2) r &&& tb_lack.getD l 0) <<< ((nI (2 ^ l)).toInt64 &&& 63)) &&& L (cf + 1) r))) := by
      refine lp_inv (fun i s => s.1 = nI i ∧ (∀ a, a ≠ c + 1 → s.2 a = L a) ∧ (∀ r, r < i → s.2 (c + 1) r = (L (c + 1) r ||| (((L (c + 2) r &&& tb_lack.getD l 0) <<< ((nI (2 ^ l)).toInt64 &&& 63)) &&& L (cf + 1) r))) ∧ ∀ r, i ≤ r → s.2 (c + 1) r = L (c + 1) r) _ 16 ?_ (by decide) ?_ ?_
      · exact ⟨rfl, fun a _ => rfl, fun r h => by omega, fun r _ => rfl⟩
      · intro i ⟨v, L1⟩ hi ⟨e, h1, h2, h3⟩
        dsimp only at e h1 h2 h3 ⊢
        subst e
        refine Or.inl ⟨(nI (i + 1), ux_w L1 (c + 1) i (L (c + 1) i ||| (((L (c + 2) i &&& tb_lack.getD l 0) <<< ((nI (2 ^ l)).toInt64 &&& 63)) &&& L (cf + 1) i))), ?_, rfl, fun a ha => (uw_ne L1 _ _ ha).trans (h1 a ha), fun r hr => ?_, fun r hr => ?_⟩
        · simp (disch := omega) only [fX0_joinLine_8b, fX0_joinLine_8b_45, pb_pow, h1 _ n1, h1 _ n2, h3 i (Nat.le_refl i), li_0, li_1, li_2, li_3, li_4, li_5, li_6, li_7, li_8, li_9, li_10, li_11, li_12, li_13, li_14, li_16, li_18, li_20, li_21, li_24, li_31, li_32, li_40, li_42, li_48, li_57, li_59, li_64, li_97, li_99, li_122, li_128, li_147, li_189, li_200, li_231, li_252, li_255, li_512, li_1023, li_1024, li_8192, li_8208, li_9999, li_50000, li_500000, nI_leI, nI_ltI, nI_eq, pb_in, nI_clamp, nI_add, pk_mul, pk_sub, qb_bit1, qb_bit0, qb_pow, qb_m1, qb_m1', qb_ofn, Option.bind_some, ↓reduceIte, eq_self, if_true, if_false, Sum.elim_inl, Sum.elim_inr]
          rw [if_neg (by omega)]
        · dsimp only
          rw [uw_same]
          by_cases e : r = i
          · rw [if_pos e, e]
          · rw [if_neg e]; exact h2 r (by omega)
        · dsimp only
          rw [uw_same, if_neg (by omega)]; exact h3 r (by omega)
      · intro ⟨v, L1⟩ ⟨e, h1, h2, h3⟩
        dsimp only at e h1 h2 h3 ⊢
        subst e
        refine ⟨L1, ?_, h1, h2⟩
        simp (disch := omega) only [fX0_joinLine_8b, li_0, li_1, li_2, li_3, li_4, li_5, li_6, li_7, li_8, li_9, li_10, li_11, li_12, li_13, li_14, li_16, li_18, li_20, li_21, li_24, li_31, li_32, li_40, li_42, li_48, li_57, li_59, li_64, li_97, li_99, li_122, li_128, li_147, li_189, li_200, li_231, li_252, li_255, li_512, li_1023, li_1024, li_8192, li_8208, li_9999, li_50000, li_500000, nI_leI, nI_ltI, nI_eq, pb_in, nI_clamp, nI_add, pk_mul, pk_sub, qb_bit1, qb_bit0, qb_pow, qb_m1, qb_m1', qb_ofn, Option.bind_some, ↓reduceIte, eq_self, if_true, if_false, Sum.elim_inl, Sum.elim_inr]
        simp
    obtain ⟨L', h0, h1, h2⟩ := hlp
    refine ⟨L', by rw [h0]; rfl, h1, fun s hs => ?_⟩
    obtain ⟨x1, x2⟩ := xr_s s hs l hl
    obtain ⟨y1, y2⟩ := xr_lo l h6 (s % 64) (by omega)
    rw [if_pos h6] at x1
    unfold fm
    rw [h2 _ (by omega), lb_or, lb_and, lb_shl _ hp _ (by omega), lb_and, x1]
    congr 1
    congr 1
    by_cases hb : (s % 64).testBit l = true
    · obtain ⟨z1, z2⟩ := x2 (by rw [x1]; exact hb)
      rw [if_pos h6] at z2
      obtain ⟨w1, w2⟩ := y2 hb
      rw [hb] at y1
      simp only [Bool.and_eq_true, decide_eq_true_eq] at y1
      rw [lack_tb l h6 _ (by omega), y1.2, hb, z2.1, z2.2, w1]
      simp [y1.1]
    · have hb2 : (s % 64).testBit l = false := by simpa using hb
      rw [hb2] at y1 ⊢
      rw [Bool.false_and]
      by_cases hk : 2 ^ l ≤ s % 64
      · rw [lack_tb l h6 _ (Nat.lt_of_le_of_lt (Nat.sub_le _ _) (Nat.mod_lt _ (by decide)))]
        simp only [hk, decide_true, Bool.true_and] at y1 ⊢
        rw [y1, Bool.and_false]
      · simp [hk]
  · rw [if_pos (show (6 : Int32) ≤ nI l from nI_le (a := 6) (by omega) (by omega))]
    have hstep : (1 : Int32) <<< ((nI l - (6 : Int32)) &&& 31) = nI (2 ^ (l - 6)) := by
      rw [show (6 : Int32) = nI 6 from rfl, pk_sub (by omega), pb_pow (by omega)]
    rw [hstep]
    have hp : 2 ^ (l - 6) ≤ 8 := Nat.pow_le_pow_right (n := 2) (j := 3) (by decide) (by omega)
    have hp1 : 1 ≤ 2 ^ (l - 6) := Nat.one_le_two_pow
    have hlp : ∃ L', ux_lp (fun s : Int32 × ux_L => fX0_joinLine_63b c cf (nI (2 ^ (l - 6))) s.1 s.2) ux_fu ((0 : Int32), L) = some L' ∧ ((∀ a, a ≠ c + 1 → L' a = L a) ∧ ∀ t, t < 16 → L' (c + 1) t = if 2 ^ (l - 6) ≤ t ∧ ((t - 2 ^ (l - 6)) &&& 2 ^ (l - 6)) = 0 then (L (c + 1) t ||| (L (c + 2) (t - 2 ^ (l - 6)) &&& L (cf + 1) t)) else L (c + 1) t) := by
      generalize hst : 2 ^ (l - 6) = st at hp hp1 ⊢
      refine lp_inv (fun i s => s.1 = nI i ∧ (∀ a, a ≠ c + 1 → s.2 a = L a) ∧ ∀ t, t < 16 → s.2 (c + 1) t = if (st ≤ t ∧ ((t - st) &&& st) = 0) ∧ t - st < i then (L (c + 1) t ||| (L (c + 2) (t - st) &&& L (cf + 1) t)) else L (c + 1) t) _ (16 - st) ?_ (by omega) ?_ ?_
      · exact ⟨rfl, fun a _ => rfl, fun t _ => by rw [if_neg (by omega)]⟩
      · intro i ⟨v, L1⟩ hi ⟨e, h1, h2⟩
        dsimp only at e h1 h2 ⊢
        subst e
        by_cases hz : (i &&& st) = 0
        · refine Or.inl ⟨(nI (i + 1), ux_w L1 (c + 1) (i + st) (L (c + 1) (i + st) ||| (L (c + 2) i &&& L (cf + 1) (i + st)))), ?_, rfl, fun a ha => (uw_ne L1 _ _ ha).trans (h1 a ha), fun t ht => ?_⟩
          · have hk := h2 (i + st) (by omega)
            rw [if_neg (by omega)] at hk
            simp (disch := omega) only [fX0_joinLine_63b, fX0_joinLine_63b_108, fa_and, h1 _ n1, h1 _ n2, hk, li_0, li_1, li_2, li_3, li_4, li_5, li_6, li_7, li_8, li_9, li_10, li_11, li_12, li_13, li_14, li_16, li_18, li_20, li_21, li_24, li_31, li_32, li_40, li_42, li_48, li_57, li_59, li_64, li_97, li_99, li_122, li_128, li_147, li_189, li_200, li_231, li_252, li_255, li_512, li_1023, li_1024, li_8192, li_8208, li_9999, li_50000, li_500000, nI_leI, nI_ltI, nI_eq, pb_in, nI_clamp, nI_add, pk_mul, pk_sub, qb_bit1, qb_bit0, qb_pow, qb_m1, qb_m1', qb_ofn, Option.bind_some, ↓reduceIte, eq_self, if_true, if_false, Sum.elim_inl, Sum.elim_inr]
            rw [if_neg (by omega), if_pos hz]
          · dsimp only
            rw [uw_same]
            by_cases e : t = i + st
            · rw [if_pos e, e, show i + st - st = i from by omega, if_pos ⟨⟨by omega, hz⟩, by omega⟩]
            · rw [if_neg e, h2 t ht]
              by_cases q : (st ≤ t ∧ ((t - st) &&& st) = 0) ∧ t - st < i
              · rw [if_pos q, if_pos ⟨q.1, by omega⟩]
              · rw [if_neg q, if_neg (fun z => q ⟨z.1, by omega⟩)]
        · refine Or.inl ⟨(nI (i + 1), L1), ?_, rfl, h1, fun t ht => ?_⟩
          · simp (disch := first | omega | exact Nat.lt_of_le_of_lt Nat.and_le_right (by omega)) only [fX0_joinLine_63b, fX0_joinLine_63b_108, fa_and, li_0, li_1, li_2, li_3, li_4, li_5, li_6, li_7, li_8, li_9, li_10, li_11, li_12, li_13, li_14, li_16, li_18, li_20, li_21, li_24, li_31, li_32, li_40, li_42, li_48, li_57, li_59, li_64, li_97, li_99, li_122, li_128, li_147, li_189, li_200, li_231, li_252, li_255, li_512, li_1023, li_1024, li_8192, li_8208, li_9999, li_50000, li_500000, nI_leI, nI_ltI, nI_eq, pb_in, nI_clamp, nI_add, pk_mul, pk_sub, qb_bit1, qb_bit0, qb_pow, qb_m1, qb_m1', qb_ofn, Option.bind_some, ↓reduceIte, eq_self, if_true, if_false, Sum.elim_inl, Sum.elim_inr]
            rw [if_neg (by omega), if_neg hz]
          · dsimp only
            rw [h2 t ht]
            by_cases q : (st ≤ t ∧ ((t - st) &&& st) = 0) ∧ t - st < i
            · rw [if_pos q, if_pos ⟨q.1, by omega⟩]
            · rw [if_neg q, if_neg (fun z => ?_)]
              by_cases e : t - st = i
              · rw [e] at z; exact hz z.1.2
              · exact q ⟨z.1, by omega⟩
      · intro ⟨v, L1⟩ ⟨e, h1, h2⟩
        dsimp only at e h1 h2 ⊢
        subst e
        refine ⟨L1, ?_, h1, fun t ht => ?_⟩
        · simp (disch := omega) only [fX0_joinLine_63b, li_0, li_1, li_2, li_3, li_4, li_5, li_6, li_7, li_8, li_9, li_10, li_11, li_12, li_13, li_14, li_16, li_18, li_20, li_21, li_24, li_31, li_32, li_40, li_42, li_48, li_57, li_59, li_64, li_97, li_99, li_122, li_128, li_147, li_189, li_200, li_231, li_252, li_255, li_512, li_1023, li_1024, li_8192, li_8208, li_9999, li_50000, li_500000, nI_leI, nI_ltI, nI_eq, pb_in, nI_clamp, nI_add, pk_mul, pk_sub, qb_bit1, qb_bit0, qb_pow, qb_m1, qb_m1', qb_ofn, Option.bind_some, ↓reduceIte, eq_self, if_true, if_false, Sum.elim_inl, Sum.elim_inr]
          rw [if_pos (by omega)]
        · rw [h2 t ht]
          by_cases q : st ≤ t ∧ ((t - st) &&& st) = 0
          · rw [if_pos ⟨q, by omega⟩, if_pos q]
          · rw [if_neg (fun z => q z.1), if_neg q]
    obtain ⟨L', h0, h1, h2⟩ := hlp
    refine ⟨L', by rw [h0]; rfl, h1, fun s hs => ?_⟩
    obtain ⟨x1, x2⟩ := xr_s s hs l hl
    have y1 := xr_hi (l - 6) (by omega) (s / 64) (by omega)
    rw [if_neg h6] at x1
    unfold fm
    rw [h2 _ (by omega), x1]
    by_cases hb : (s / 64).testBit (l - 6) = true
    · obtain ⟨z1, z2⟩ := x2 (by rw [x1]; exact hb)
      rw [if_neg h6] at z2
      rw [hb] at y1 ⊢
      have y2 := y1.symm
      simp only [Bool.and_eq_true, decide_eq_true_eq] at y2
      rw [if_pos y2, lb_or, lb_and, z2.2, show s / 64 - 2 ^ (l - 6) = (s ^^^ 2 ^ l) / 64 from by omega]
      simp
    · have hb2 : (s / 64).testBit (l - 6) = false := by simpa using hb
      rw [hb2] at y1 ⊢
      rw [if_neg (fun q => by rw [decide_eq_true q.1, decide_eq_true q.2] at y1; cases y1)]
      simp
end FAM
