/-! which lines a meter may serve for: lines 0 .. ln less 1 from lo to hi, some of them cut -/
def gp_at (lo hi : Nat → Nat) (ct : Nat → Bool) (v l : Nat) : Bool := (lo l == v || hi l == v) && !ct l
def gp_sv (ln : Nat) (lo hi : Nat → Nat) (ct : Nat → Bool) (so a l : Nat) : Bool := match so with
  | 0 => (l == a) && !ct l
  | 1 => (lo l == lo a && hi l == hi a) && !ct l
  | 2 => gp_at lo hi ct a l
  | 3 => (List.range ln).any (fun m => gp_at lo hi ct a m && (gp_at lo hi ct (lo m) l || gp_at lo hi ct (hi m) l))
  | _ => gp_at lo hi ct a l && (List.range l).any (fun m => gp_at lo hi ct a m)
def gp_ms (ln : Nat) (lo hi : Nat → Nat) (ct : Nat → Bool) (so a : Nat) : Nat := bsN (gp_sv ln lo hi ct so a) ln
/-- a grid as the class holds it, at the cell h -/
def plC (N : ux_N) (h nd ln : Nat) (lo hi : Nat → Nat) : Prop := N h 0 = nI nd ∧ N h 1 = nI ln ∧ (2 ≤ nd ∧ nd ≤ 8 ∧ ln ≤ 10) ∧ ∀ k, k < ln → N (h + 1) k = nI (lo k) ∧ N (h + 2) k = nI (hi k) ∧ lo k < hi k ∧ hi k < nd
/-- a grid as the reference holds it -/
def plM (N : ux_N) (nd ln : Nat) (lo hi : Nat → Nat) : Prop := N 0 1 = nI nd ∧ N 0 2 = nI ln ∧ (2 ≤ nd ∧ nd ≤ 8 ∧ ln ≤ 10) ∧ ∀ k, k < ln → N 2 (2 * k) = nI (lo k) ∧ N 2 (2 * k + 1) = nI (hi k) ∧ lo k < hi k ∧ hi k < nd
section PLC
variable {N : ux_N} {h nd ln : Nat} {lo hi : Nat → Nat} {ct : Nat → Bool}
theorem pc_linesAt (hp : plC N h nd ln lo hi) {v : Nat} (hv : v < 2 ^ 31) : fX3_linesAt h (nI v) (nI (bsN (fun l => !ct l) ln)) N = some (nI (bsN (gp_at lo hi ct v) ln)) := by
  obtain ⟨h0, h1, ⟨b1, b2, b3⟩, hl⟩ := hp
  have hlp : ux_lp (fun s : Int32 × Int32 => fX3_linesAt_5b h (nI v) (nI (bsN (fun l => !ct l) ln)) s.1 s.2 N) ux_fu ((0 : Int32), (0 : Int32)) = some (nI (bsN (fun l => lo l == v || hi l == v) ln)) := by
    refine lp_at (fun i => (nI (bsN (fun l => lo l == v || hi l == v) i), nI i)) ln rfl (by omega) ?_ ?_
    · intro i hk
      obtain ⟨l1, l2, l3, l4⟩ := hl i hk
      simp (disch := omega) only [fX3_linesAt_5b, fX3_linesAt_5b_36, fX3_linesAt_5b_43, h1, l1, l2, li_0, li_1, li_2, li_3, li_4, li_5, li_6, li_7, li_8, li_9, li_10, li_11, li_12, li_13, li_14, li_16, li_18, li_20, li_21, li_24, li_31, li_32, li_40, li_42, li_48, li_57, li_59, li_64, li_97, li_99, li_122, li_128, li_147, li_189, li_200, li_231, li_252, li_255, li_512, li_1023, li_1024, li_8192, li_8208, li_9999, li_50000, li_500000, nI_leI, nI_ltI, nI_eq, pb_in, nI_clamp, nI_add, pk_mul, pk_sub, qb_bit1, qb_bit0, qb_pow, qb_m1, qb_m1', qb_ofn, Option.bind_some, ↓reduceIte, eq_self, if_true, if_false, Sum.elim_inl, Sum.elim_inr]
      rw [if_neg (by omega)]
      by_cases e1 : lo i = v
      · rw [if_pos e1, bsN_t (by simp [e1])]
      · by_cases e2 : hi i = v
        · rw [if_neg e1, if_pos e2, bsN_t (by simp [e2])]
        · rw [if_neg e1, if_neg e2, ← bsN_f (by simp [e1, e2])]
    · simp (disch := omega) only [fX3_linesAt_5b, h1, li_0, li_1, li_2, li_3, li_4, li_5, li_6, li_7, li_8, li_9, li_10, li_11, li_12, li_13, li_14, li_16, li_18, li_20, li_21, li_24, li_31, li_32, li_40, li_42, li_48, li_57, li_59, li_64, li_97, li_99, li_122, li_128, li_147, li_189, li_200, li_231, li_252, li_255, li_512, li_1023, li_1024, li_8192, li_8208, li_9999, li_50000, li_500000, nI_leI, nI_ltI, nI_eq, pb_in, nI_clamp, nI_add, pk_mul, pk_sub, qb_bit1, qb_bit0, qb_pow, qb_m1, qb_m1', qb_ofn, Option.bind_some, ↓reduceIte, eq_self, if_true, if_false, Sum.elim_inl, Sum.elim_inr]
      simp
  unfold fX3_linesAt
  rw [hlp]
  show some (_ &&& _) = _
  rw [pb_and_bs]
  rfl
theorem gp_near {v i : Nat} (hi2 : i < ln) : bsN (fun l => (List.range (i + 1)).any (fun m => gp_at lo hi ct v m && (gp_at lo hi ct (lo m) l || gp_at lo hi ct (hi m) l))) ln = if gp_at lo hi ct v i = true then bsN (fun l => (List.range i).any (fun m => gp_at lo hi ct v m && (gp_at lo hi ct (lo m) l || gp_at lo hi ct (hi m) l)) || (gp_at lo hi ct (lo i) l || gp_at lo hi ct (hi i) l)) ln else bsN (fun l => (List.range i).any (fun m => gp_at lo hi ct v m && (gp_at lo hi ct (lo m) l || gp_at lo hi ct (hi m) l))) ln := by
  by_cases h : gp_at lo hi ct v i = true
  · rw [if_pos h]
    refine bsN_cong ln (fun l _ => ?_)
    rw [List.range_succ, List.any_append]
    simp [h]
  · rw [if_neg h]
    refine bsN_cong ln (fun l _ => ?_)
    rw [List.range_succ, List.any_append]
    simp [h]
theorem pc_linesBeside (hp : plC N h nd ln lo hi) {a : Nat} (ha : a < ln) : fX3_linesBeside h (nI a) N = some (nI (bsN (fun l => lo l == lo a && hi l == hi a) ln)) := by
  obtain ⟨h0, h1, ⟨b1, b2, b3⟩, hl⟩ := hp
  obtain ⟨a1, a2, a3, a4⟩ := hl a ha
  have hlp : ux_lp (fun s : Int32 × Int32 => fX3_linesBeside_4b h (nI a) s.1 s.2 N) ux_fu ((0 : Int32), (0 : Int32)) = some (nI (bsN (fun l => lo l == lo a && hi l == hi a) ln)) := by
    refine lp_at (fun i => (nI (bsN (fun l => lo l == lo a && hi l == hi a) i), nI i)) ln rfl (by omega) ?_ ?_
    · intro i hk
      obtain ⟨l1, l2, l3, l4⟩ := hl i hk
      simp (disch := omega) only [fX3_linesBeside_4b, fX3_linesBeside_4b_48, h1, l1, l2, a1, a2, li_0, li_1, li_2, li_3, li_4, li_5, li_6, li_7, li_8, li_9, li_10, li_11, li_12, li_13, li_14, li_16, li_18, li_20, li_21, li_24, li_31, li_32, li_40, li_42, li_48, li_57, li_59, li_64, li_97, li_99, li_122, li_128, li_147, li_189, li_200, li_231, li_252, li_255, li_512, li_1023, li_1024, li_8192, li_8208, li_9999, li_50000, li_500000, nI_leI, nI_ltI, nI_eq, pb_in, nI_clamp, nI_add, pk_mul, pk_sub, qb_bit1, qb_bit0, qb_pow, qb_m1, qb_m1', qb_ofn, Option.bind_some, ↓reduceIte, eq_self, if_true, if_false, Sum.elim_inl, Sum.elim_inr]
      rw [if_neg (by omega)]
      by_cases e1 : lo i = lo a
      · by_cases e2 : hi i = hi a
        · rw [if_pos e1, if_pos e2, bsN_t (by simp [e1, e2])]
        · rw [if_pos e1, if_neg e2, ← bsN_f (by simp [e2])]
      · rw [if_neg e1, ← bsN_f (by simp [e1])]
    · simp (disch := omega) only [fX3_linesBeside_4b, h1, li_0, li_1, li_2, li_3, li_4, li_5, li_6, li_7, li_8, li_9, li_10, li_11, li_12, li_13, li_14, li_16, li_18, li_20, li_21, li_24, li_31, li_32, li_40, li_42, li_48, li_57, li_59, li_64, li_97, li_99, li_122, li_128, li_147, li_189, li_200, li_231, li_252, li_255, li_512, li_1023, li_1024, li_8192, li_8208, li_9999, li_50000, li_500000, nI_leI, nI_ltI, nI_eq, pb_in, nI_clamp, nI_add, pk_mul, pk_sub, qb_bit1, qb_bit0, qb_pow, qb_m1, qb_m1', qb_ofn, Option.bind_some, ↓reduceIte, eq_self, if_true, if_false, Sum.elim_inl, Sum.elim_inr]
      simp
  unfold fX3_linesBeside
  rw [hlp]
  rfl
theorem pc_linesNear (hp : plC N h nd ln lo hi) {v : Nat} (hv : v < 2 ^ 31) : fX3_linesNear h (nI v) (nI (bsN (fun l => !ct l) ln)) N = some (nI (gp_ms ln lo hi ct 3 v)) := by
  have hp' := hp
  obtain ⟨h0, h1, ⟨b1, b2, b3⟩, hl⟩ := hp
  have hlp : ux_lp (fun s : Int32 × Int32 => fX3_linesNear_13b h (nI (bsN (fun l => !ct l) ln)) (nI (bsN (gp_at lo hi ct v) ln)) s.1 s.2 N) ux_fu ((0 : Int32), (0 : Int32)) = some (nI (gp_ms ln lo hi ct 3 v)) := by
    refine lp_at (fun i => (nI (bsN (fun l => (List.range i).any (fun m => gp_at lo hi ct v m && (gp_at lo hi ct (lo m) l || gp_at lo hi ct (hi m) l))) ln), nI i)) ln ?_ (by omega) ?_ ?_
    · refine Prod.ext ?_ rfl
      show nI 0 = _
      congr 1
      apply Nat.eq_of_testBit_eq
      intro j
      rw [bsN_tb]
      simp
    · intro i hk
      obtain ⟨l1, l2, l3, l4⟩ := hl i hk
      have hb : bsN (gp_at lo hi ct v) ln < 2 ^ 31 := bsN_le30 (by omega)
      rw [gp_near hk]
      simp (disch := first | omega | assumption) only [fX3_linesNear_13b, fX3_linesNear_13b_62, h1, l1, l2, pc_linesAt hp' (show lo i < 2 ^ 31 by omega), pc_linesAt hp' (show hi i < 2 ^ 31 by omega), bsN_tb, li_0, li_1, li_2, li_3, li_4, li_5, li_6, li_7, li_8, li_9, li_10, li_11, li_12, li_13, li_14, li_16, li_18, li_20, li_21, li_24, li_31, li_32, li_40, li_42, li_48, li_57, li_59, li_64, li_97, li_99, li_122, li_128, li_147, li_189, li_200, li_231, li_252, li_255, li_512, li_1023, li_1024, li_8192, li_8208, li_9999, li_50000, li_500000, nI_leI, nI_ltI, nI_eq, pb_in, nI_clamp, nI_add, pk_mul, pk_sub, qb_bit1, qb_bit0, qb_pow, qb_m1, qb_m1', qb_ofn, Option.bind_some, ↓reduceIte, eq_self, if_true, if_false, Sum.elim_inl, Sum.elim_inr]
      rw [if_neg (by omega)]
      by_cases e1 : gp_at lo hi ct v i = true
      · rw [if_pos (by simp [e1, hk]), if_pos e1, pb_or_bs, pb_or_bs]
      · rw [if_neg (by simp [e1]), if_neg e1]
    · simp (disch := omega) only [fX3_linesNear_13b, h1, li_0, li_1, li_2, li_3, li_4, li_5, li_6, li_7, li_8, li_9, li_10, li_11, li_12, li_13, li_14, li_16, li_18, li_20, li_21, li_24, li_31, li_32, li_40, li_42, li_48, li_57, li_59, li_64, li_97, li_99, li_122, li_128, li_147, li_189, li_200, li_231, li_252, li_255, li_512, li_1023, li_1024, li_8192, li_8208, li_9999, li_50000, li_500000, nI_leI, nI_ltI, nI_eq, pb_in, nI_clamp, nI_add, pk_mul, pk_sub, qb_bit1, qb_bit0, qb_pow, qb_m1, qb_m1', qb_ofn, Option.bind_some, ↓reduceIte, eq_self, if_true, if_false, Sum.elim_inl, Sum.elim_inr]
      simp
      rfl
  unfold fX3_linesNear
  rw [pc_linesAt hp' hv, Option.bind_some, hlp]
  rfl
theorem gp_dull {p : Nat → Bool} (hn : ln ≤ 10) : nI (bsN p ln) &&& (nI (bsN p ln) - (1 : Int32)) = nI (bsN (fun l => p l && (List.range l).any p) ln) := by
  rw [pb_noleast _ (bsN_1024 hn)]
  congr 1
  have h0 : bsN p ln &&& (bsN p ln - 1) < 2 ^ ln := Nat.lt_of_le_of_lt Nat.and_le_left (bsN_lt p ln)
  apply tb_ext h0 (bsN_lt _ ln)
  intro j hj
  rw [noleast_tb _ (bsN_1024 hn) j (by omega), bsN_tb, bsN_tb]
  simp only [hj, decide_true, Bool.true_and]
  congr 1
  rw [Bool.eq_iff_iff, decide_eq_true_eq, List.any_eq_true]
  constructor
  · intro ⟨m, h1, h2⟩
    rw [bsN_tb] at h2
    simp at h2
    exact ⟨m, List.mem_range.mpr h1, h2.2⟩
  · intro ⟨m, h1, h2⟩
    have := List.mem_range.mp h1
    refine ⟨m, this, ?_⟩
    rw [bsN_tb]
    simp [h2]
    omega
theorem pc_placesFor (hp : plC N h nd ln lo hi) {so : Nat} (hs : so < 5) : fX3_placesFor h (nI so) N = some (nI (if so < 2 then ln else nd)) := by
  obtain ⟨h0, h1, ⟨b1, b2, b3⟩, hl⟩ := hp
  simp (disch := omega) only [fX3_placesFor, fX3_placesFor_9, fX3_placesFor_20, h0, h1, li_0, li_1, li_2, li_3, li_4, li_5, li_6, li_7, li_8, li_9, li_10, li_11, li_12, li_13, li_14, li_16, li_18, li_20, li_21, li_24, li_31, li_32, li_40, li_42, li_48, li_57, li_59, li_64, li_97, li_99, li_122, li_128, li_147, li_189, li_200, li_231, li_252, li_255, li_512, li_1023, li_1024, li_8192, li_8208, li_9999, li_50000, li_500000, nI_leI, nI_ltI, nI_eq, pb_in, nI_clamp, nI_add, pk_mul, pk_sub, qb_bit1, qb_bit0, qb_pow, qb_m1, qb_m1', qb_ofn, Option.bind_some, ↓reduceIte, eq_self, if_true, if_false, Sum.elim_inl, Sum.elim_inr]
  by_cases e0 : so = 0
  · simp [e0]
  · by_cases e1 : so = 1
    · simp [e1]
    · have : ¬ so < 2 := by omega
      simp [e0, e1, this]
theorem pc_hasPlace (hp : plC N h nd ln lo hi) {so a : Nat} (hs : so < 5) (ha : a < 2 ^ 31) : fX3_hasPlace h (nI so) (nI a) N = some (if a < (if so < 2 then ln else nd) then 1 else 0) := by
  have hq := pc_placesFor hp hs
  obtain ⟨h0, h1, ⟨b1, b2, b3⟩, hl⟩ := hp
  have hb : (if so < 2 then ln else nd) < 2 ^ 31 := by split <;> omega
  generalize (if so < 2 then ln else nd) = pl at hq hb ⊢
  simp (disch := omega) only [fX3_hasPlace, fX3_hasPlace_17, fX3_hasPlace_18, hq, li_0, li_1, li_2, li_3, li_4, li_5, li_6, li_7, li_8, li_9, li_10, li_11, li_12, li_13, li_14, li_16, li_18, li_20, li_21, li_24, li_31, li_32, li_40, li_42, li_48, li_57, li_59, li_64, li_97, li_99, li_122, li_128, li_147, li_189, li_200, li_231, li_252, li_255, li_512, li_1023, li_1024, li_8192, li_8208, li_9999, li_50000, li_500000, nI_leI, nI_ltI, nI_eq, pb_in, nI_clamp, nI_add, pk_mul, pk_sub, qb_bit1, qb_bit0, qb_pow, qb_m1, qb_m1', qb_ofn, Option.bind_some, ↓reduceIte, eq_self, if_true, if_false, Sum.elim_inl, Sum.elim_inr]
  rw [if_neg (by omega)]
  by_cases e : pl ≤ a
  · rw [if_pos e, if_neg (by omega)]; rfl
  · rw [if_neg e, if_pos (by omega)]; rfl
theorem pc_hasNeg {so a : Int32} (ha : a < 0) : fX3_hasPlace h so a N = some 0 := by
  unfold fX3_hasPlace
  rw [if_pos ha]
  rfl
theorem pc_linesFor (hp : plC N h nd ln lo hi) {so a : Nat} (hs : so < 5) (ha : a < 2 ^ 31) : fX3_linesFor h (nI so) (nI a) (nI (bsN (fun l => !ct l) ln)) N = some (nI (if a < (if so < 2 then ln else nd) then gp_ms ln lo hi ct so a else 0)) := by
  have hq := pc_hasPlace hp hs ha
  have b3 : ln ≤ 10 := hp.2.2.1.2.2
  unfold fX3_linesFor
  rw [hq, Option.bind_some]
  by_cases e : a < (if so < 2 then ln else nd)
  · rw [if_pos e, if_neg (by decide), if_pos e]
    rcases (show so = 0 ∨ so = 1 ∨ so = 2 ∨ so = 3 ∨ so = 4 by omega) with rfl | rfl | rfl | rfl | rfl
    · rw [if_pos (by decide)]
      have e2 : a < ln := e
      rw [pb_pow (by omega), fa_and]
      congr 2
      apply tb_ext (Nat.lt_of_le_of_lt Nat.and_le_right (bsN_lt _ ln)) (bsN_lt _ ln)
      intro j hj
      rw [Nat.testBit_and, Nat.testBit_two_pow, bsN_tb, bsN_tb]
      by_cases hja : j = a
      · subst hja; simp [hj, gp_sv]
      · have : ¬ a = j := fun q => hja q.symm
        simp [this, gp_sv, hja]
    · rw [if_neg (by decide), if_pos (by decide), pc_linesBeside hp e, Option.bind_some, pb_and_bs]
      rfl
    · rw [if_neg (by decide), if_neg (by decide), if_pos (by decide), pc_linesAt hp ha]
      rfl
    · rw [if_neg (by decide), if_neg (by decide), if_neg (by decide), if_pos (by decide), pc_linesNear hp ha]
      rfl
    · rw [if_neg (by decide), if_neg (by decide), if_neg (by decide), if_neg (by decide), if_pos (by decide), pc_linesAt hp ha, Option.bind_some]
      unfold fX3_withoutLeast
      rw [gp_dull b3]
      rfl
  · rw [if_neg e, if_pos (by decide), if_neg e]
    rfl
theorem pc_allLines (hp : plC N h nd ln lo hi) : fX3_allLines h N = some (nI (2 ^ ln - 1)) := by
  obtain ⟨h0, h1, ⟨b1, b2, b3⟩, hl⟩ := hp
  unfold fX3_allLines
  rw [h1, pb_all (by omega)]
end PLC
/-! the same of the reference -/
theorem pm_in (x y z : Int32) : fX12_in x.toInt64 y.toInt64 z.toInt64 = some (if y ≤ x ∧ x ≤ z then 1 else 0) := by
  unfold fX12_in
  by_cases h1 : y ≤ x
  · rw [if_neg (by rw [lg_cmp_lt, fa_wide_lt]; exact Int32.not_lt.mpr h1)]
    by_cases h2 : x ≤ z
    · rw [if_neg (by rw [lg_cmp_gt, fa_wide_lt]; exact Int32.not_lt.mpr h2), if_pos (show y ≤ x ∧ x ≤ z from ⟨h1, h2⟩)]; rfl
    · rw [if_pos (by rw [lg_cmp_gt, fa_wide_lt]; exact Int32.not_le.mp h2), if_neg (fun q : y ≤ x ∧ x ≤ z => h2 q.2)]; rfl
  · rw [if_pos (by rw [lg_cmp_lt, fa_wide_lt]; exact Int32.not_le.mp h1), if_neg (fun q : y ≤ x ∧ x ≤ z => h1 q.1)]; rfl
theorem pm_inN {x y z : Nat} (hx : x < 2 ^ 31) (hy : y < 2 ^ 31) (hz : z < 2 ^ 31) : fX12_in (nI x).toInt64 (nI y).toInt64 (nI z).toInt64 = some (if y ≤ x ∧ x ≤ z then 1 else 0) := by
  rw [pm_in]
  congr 1
  simp only [nI_leI hy hx, nI_leI hx hz]
theorem pm_has {s k : Nat} (hs : s < 2 ^ 31) (hk : k < 32) : fX12_has (nI s) (nI k) = some (if s.testBit k = true then 1 else 0) := by
  unfold fX12_has fX12_has_14
  by_cases h : s.testBit k = true
  · rw [if_pos ((pb_bit1 hs hk).mpr h), if_pos h]; rfl
  · rw [if_neg (fun q => h ((pb_bit1 hs hk).mp q)), if_neg h]; rfl
section PLM
variable {N : ux_N} {nd ln : Nat} {lo hi : Nat → Nat} {cu : Nat}
theorem pm_isEnd (hp : plM N nd ln lo hi) {l v : Nat} (hk : l < ln) (hv : v < 2 ^ 31) : fX12_isEnd (nI l) (nI v) N = some (if (lo l == v || hi l == v) = true then 1 else 0) := by
  obtain ⟨h0, h1, ⟨b1, b2, b3⟩, hl⟩ := hp
  obtain ⟨l1, l2, l3, l4⟩ := hl l hk
  simp (disch := omega) only [fX12_isEnd, fX12_isEnd_26, fX12_isEnd_31, l1, l2, li_0, li_1, li_2, li_3, li_4, li_5, li_6, li_7, li_8, li_9, li_10, li_11, li_12, li_13, li_14, li_16, li_18, li_20, li_21, li_24, li_31, li_32, li_40, li_42, li_48, li_57, li_59, li_64, li_97, li_99, li_122, li_128, li_147, li_189, li_200, li_231, li_252, li_255, li_512, li_1023, li_1024, li_8192, li_8208, li_9999, li_50000, li_500000, nI_leI, nI_ltI, nI_eq, pb_in, nI_clamp, nI_add, pk_mul, pk_sub, qb_bit1, qb_bit0, qb_pow, qb_m1, qb_m1', qb_ofn, Option.bind_some, ↓reduceIte, eq_self, if_true, if_false, Sum.elim_inl, Sum.elim_inr]
  by_cases e1 : lo l = v
  · simp [e1]; rfl
  · by_cases e2 : hi l = v
    · simp [e1, e2]; rfl
    · simp [e1, e2]; rfl
theorem pm_linesAt (hp : plM N nd ln lo hi) (hc : cu < 2 ^ 31) {v : Nat} (hv : v < 2 ^ 31) : fX12_linesAt (nI v) (nI cu) N = some (nI (bsN (gp_at lo hi cu.testBit v) ln)) := by
  have hp' := hp
  obtain ⟨h0, h1, ⟨b1, b2, b3⟩, hl⟩ := hp
  have hlp : ux_lp (fun s : Int32 × Int32 => fX12_linesAt_5b (nI v) (nI cu) s.1 s.2 N) ux_fu ((0 : Int32), (0 : Int32)) = some (nI (bsN (gp_at lo hi cu.testBit v) ln)) := by
    refine lp_at (fun i => (nI (bsN (gp_at lo hi cu.testBit v) i), nI i)) ln rfl (by omega) ?_ ?_
    · intro i hk
      obtain ⟨l1, l2, l3, l4⟩ := hl i hk
      simp (disch := omega) only [fX12_linesAt_5b, fX12_linesAt_5b_41, fX12_linesAt_5b_42, h1, pm_has hc (show i < 32 by omega), pm_isEnd hp' hk hv, li_0, li_1, li_2, li_3, li_4, li_5, li_6, li_7, li_8, li_9, li_10, li_11, li_12, li_13, li_14, li_16, li_18, li_20, li_21, li_24, li_31, li_32, li_40, li_42, li_48, li_57, li_59, li_64, li_97, li_99, li_122, li_128, li_147, li_189, li_200, li_231, li_252, li_255, li_512, li_1023, li_1024, li_8192, li_8208, li_9999, li_50000, li_500000, nI_leI, nI_ltI, nI_eq, pb_in, nI_clamp, nI_add, pk_mul, pk_sub, qb_bit1, qb_bit0, qb_pow, qb_m1, qb_m1', qb_ofn, Option.bind_some, ↓reduceIte, eq_self, if_true, if_false, Sum.elim_inl, Sum.elim_inr]
      rw [if_neg (by omega)]
      by_cases e1 : cu.testBit i = true
      · rw [if_pos e1, if_neg (by decide), qb_or0, ← bsN_f (by simp [gp_at, e1])]
      · rw [if_neg e1, if_pos rfl]
        by_cases e2 : (lo i == v || hi i == v) = true
        · rw [if_pos e2, if_neg (by decide), bsN_t (by rw [gp_at, e2]; simp [e1])]
        · rw [if_neg e2, if_pos rfl, qb_or0, ← bsN_f (by rw [gp_at, Bool.eq_false_iff.mpr e2]; rfl)]
    · simp (disch := omega) only [fX12_linesAt_5b, h1, li_0, li_1, li_2, li_3, li_4, li_5, li_6, li_7, li_8, li_9, li_10, li_11, li_12, li_13, li_14, li_16, li_18, li_20, li_21, li_24, li_31, li_32, li_40, li_42, li_48, li_57, li_59, li_64, li_97, li_99, li_122, li_128, li_147, li_189, li_200, li_231, li_252, li_255, li_512, li_1023, li_1024, li_8192, li_8208, li_9999, li_50000, li_500000, nI_leI, nI_ltI, nI_eq, pb_in, nI_clamp, nI_add, pk_mul, pk_sub, qb_bit1, qb_bit0, qb_pow, qb_m1, qb_m1', qb_ofn, Option.bind_some, ↓reduceIte, eq_self, if_true, if_false, Sum.elim_inl, Sum.elim_inr]
      simp
  unfold fX12_linesAt
  rw [hlp]
  rfl
theorem pm_between (hp : plM N nd ln lo hi) (hc : cu < 2 ^ 31) {a : Nat} (ha : a < ln) : fX12_between (nI a) (nI cu) N = some (nI (gp_ms ln lo hi cu.testBit 1 a)) := by
  obtain ⟨h0, h1, ⟨b1, b2, b3⟩, hl⟩ := hp
  obtain ⟨a1, a2, a3, a4⟩ := hl a ha
  have hlp : ux_lp (fun s : Int32 × Int32 => fX12_between_5b (nI a) (nI cu) s.1 s.2 N) ux_fu ((0 : Int32), (0 : Int32)) = some (nI (gp_ms ln lo hi cu.testBit 1 a)) := by
    refine lp_at (fun i => (nI (bsN (gp_sv ln lo hi cu.testBit 1 a) i), nI i)) ln rfl (by omega) ?_ ?_
    · intro i hk
      obtain ⟨l1, l2, l3, l4⟩ := hl i hk
      simp (disch := omega) only [fX12_between_5b, fX12_between_5b_75, fX12_between_5b_76, h1, pm_has hc (show i < 32 by omega), l1, l2, a1, a2, li_0, li_1, li_2, li_3, li_4, li_5, li_6, li_7, li_8, li_9, li_10, li_11, li_12, li_13, li_14, li_16, li_18, li_20, li_21, li_24, li_31, li_32, li_40, li_42, li_48, li_57, li_59, li_64, li_97, li_99, li_122, li_128, li_147, li_189, li_200, li_231, li_252, li_255, li_512, li_1023, li_1024, li_8192, li_8208, li_9999, li_50000, li_500000, nI_leI, nI_ltI, nI_eq, pb_in, nI_clamp, nI_add, pk_mul, pk_sub, qb_bit1, qb_bit0, qb_pow, qb_m1, qb_m1', qb_ofn, Option.bind_some, ↓reduceIte, eq_self, if_true, if_false, Sum.elim_inl, Sum.elim_inr]
      rw [if_neg (by omega)]
      by_cases e1 : cu.testBit i = true
      · rw [if_pos e1, if_neg (by decide), qb_or0, ← bsN_f (by simp [gp_sv, e1])]
      · rw [if_neg e1, if_pos rfl]
        by_cases e2 : lo i = lo a
        · by_cases e3 : hi i = hi a
          · rw [if_pos e2, if_pos e3, bsN_t (by simp [gp_sv, e1, e2, e3])]
          · rw [if_pos e2, if_neg e3, qb_or0, ← bsN_f (by simp [gp_sv, e3])]
        · rw [if_neg e2, qb_or0, ← bsN_f (by simp [gp_sv, e2])]
    · simp (disch := omega) only [fX12_between_5b, h1, li_0, li_1, li_2, li_3, li_4, li_5, li_6, li_7, li_8, li_9, li_10, li_11, li_12, li_13, li_14, li_16, li_18, li_20, li_21, li_24, li_31, li_32, li_40, li_42, li_48, li_57, li_59, li_64, li_97, li_99, li_122, li_128, li_147, li_189, li_200, li_231, li_252, li_255, li_512, li_1023, li_1024, li_8192, li_8208, li_9999, li_50000, li_500000, nI_leI, nI_ltI, nI_eq, pb_in, nI_clamp, nI_add, pk_mul, pk_sub, qb_bit1, qb_bit0, qb_pow, qb_m1, qb_m1', qb_ofn, Option.bind_some, ↓reduceIte, eq_self, if_true, if_false, Sum.elim_inl, Sum.elim_inr]
      simp
      rfl
  unfold fX12_between
  rw [hlp]
  rfl
theorem pm_wide (hp : plM N nd ln lo hi) (hc : cu < 2 ^ 31) {v : Nat} (hv : v < 2 ^ 31) : fX12_wide (nI v) (nI cu) N = some (nI (gp_ms ln lo hi cu.testBit 3 v)) := by
  have hp' := hp
  obtain ⟨h0, h1, ⟨b1, b2, b3⟩, hl⟩ := hp
  have hlp : ux_lp (fun s : Int32 × Int32 => fX12_wide_13b (nI cu) (nI (bsN (gp_at lo hi cu.testBit v) ln)) s.1 s.2 N) ux_fu (nI (bsN (gp_at lo hi cu.testBit v) ln), (0 : Int32)) = some (nI (bsN (fun l => gp_at lo hi cu.testBit v l || (List.range ln).any (fun m => gp_at lo hi cu.testBit v m && (gp_at lo hi cu.testBit (lo m) l || gp_at lo hi cu.testBit (hi m) l))) ln)) := by
    refine lp_at (fun i => (nI (bsN (fun l => gp_at lo hi cu.testBit v l || (List.range i).any (fun m => gp_at lo hi cu.testBit v m && (gp_at lo hi cu.testBit (lo m) l || gp_at lo hi cu.testBit (hi m) l))) ln), nI i)) ln ?_ (by omega) ?_ ?_
    · refine Prod.ext ?_ rfl
      show nI _ = nI _
      congr 1
      exact bsN_cong ln (fun l _ => by simp)
    · intro i hk
      obtain ⟨l1, l2, l3, l4⟩ := hl i hk
      have hb : bsN (gp_at lo hi cu.testBit v) ln < 2 ^ 31 := bsN_le30 (by omega)
      simp (disch := first | omega | assumption) only [fX12_wide_13b, fX12_wide_13b_68, h1, l1, l2, pm_has hb (show i < 32 by omega), pm_linesAt hp' hc (show lo i < 2 ^ 31 by omega), pm_linesAt hp' hc (show hi i < 2 ^ 31 by omega), bsN_tb, li_0, li_1, li_2, li_3, li_4, li_5, li_6, li_7, li_8, li_9, li_10, li_11, li_12, li_13, li_14, li_16, li_18, li_20, li_21, li_24, li_31, li_32, li_40, li_42, li_48, li_57, li_59, li_64, li_97, li_99, li_122, li_128, li_147, li_189, li_200, li_231, li_252, li_255, li_512, li_1023, li_1024, li_8192, li_8208, li_9999, li_50000, li_500000, nI_leI, nI_ltI, nI_eq, pb_in, nI_clamp, nI_add, pk_mul, pk_sub, qb_bit1, qb_bit0, qb_pow, qb_m1, qb_m1', qb_ofn, Option.bind_some, ↓reduceIte, eq_self, if_true, if_false, Sum.elim_inl, Sum.elim_inr]
      rw [if_neg (by omega)]
      by_cases e1 : gp_at lo hi cu.testBit v i = true
      · rw [if_pos (show (decide (i < ln) && gp_at lo hi cu.testBit v i) = true by simp [e1, hk]), if_neg (by decide), pb_or_bs, pb_or_bs]
        congr 4
        refine bsN_cong ln (fun l _ => ?_)
        rw [List.range_succ, List.any_append]
        simp [e1, Bool.or_assoc]
      · rw [if_neg (show ¬ (decide (i < ln) && gp_at lo hi cu.testBit v i) = true by simp [e1]), if_pos rfl, qb_or0]
        congr 4
        refine bsN_cong ln (fun l _ => ?_)
        rw [List.range_succ, List.any_append]
        simp [e1]
    · simp (disch := omega) only [fX12_wide_13b, h1, li_0, li_1, li_2, li_3, li_4, li_5, li_6, li_7, li_8, li_9, li_10, li_11, li_12, li_13, li_14, li_16, li_18, li_20, li_21, li_24, li_31, li_32, li_40, li_42, li_48, li_57, li_59, li_64, li_97, li_99, li_122, li_128, li_147, li_189, li_200, li_231, li_252, li_255, li_512, li_1023, li_1024, li_8192, li_8208, li_9999, li_50000, li_500000, nI_leI, nI_ltI, nI_eq, pb_in, nI_clamp, nI_add, pk_mul, pk_sub, qb_bit1, qb_bit0, qb_pow, qb_m1, qb_m1', qb_ofn, Option.bind_some, ↓reduceIte, eq_self, if_true, if_false, Sum.elim_inl, Sum.elim_inr]
      simp
  unfold fX12_wide
  rw [pm_linesAt hp' hc hv, Option.bind_some, hlp]
  show some (nI _) = some (nI _)
  congr 2
  refine bsN_cong ln (fun l hk => ?_)
  show _ = (List.range ln).any (fun m => gp_at lo hi cu.testBit v m && (gp_at lo hi cu.testBit (lo m) l || gp_at lo hi cu.testBit (hi m) l))
  by_cases e : gp_at lo hi cu.testBit v l = true
  · rw [e, Bool.true_or]
    symm
    rw [List.any_eq_true]
    refine ⟨l, List.mem_range.mpr hk, ?_⟩
    rw [e]
    unfold gp_at at e ⊢
    simp at e ⊢
    exact e.2
  · rw [Bool.eq_false_iff.mpr e, Bool.false_or]
theorem pm_mayServe (hp : plM N nd ln lo hi) (hc : cu < 2 ^ 31) {so a : Nat} (hs : so < 5) (ha : a < (if so < 2 then ln else nd)) : fX12_mayServe (nI so) (nI a) (nI cu) N = some (nI (gp_ms ln lo hi cu.testBit so a)) := by
  have b3 : ln ≤ 10 := hp.2.2.1.2.2
  have b2 : nd ≤ 8 := hp.2.2.1.2.1
  have ha2 : a < 2 ^ 31 := by split at ha <;> omega
  unfold fX12_mayServe
  rcases (show so = 0 ∨ so = 1 ∨ so = 2 ∨ so = 3 ∨ so = 4 by omega) with rfl | rfl | rfl | rfl | rfl
  · rw [if_pos (by decide)]
    have e2 : a < ln := ha
    rw [pm_has hc (by omega), Option.bind_some, pb_pow (by omega)]
    unfold fX12_mayServe_47
    have : ∀ j, (gp_ms ln lo hi cu.testBit 0 a).testBit j = (decide (j = a) && !cu.testBit a) := by
      intro j
      unfold gp_ms
      rw [bsN_tb]
      by_cases hj : j = a
      · subst hj; simp [e2, gp_sv]
      · simp [hj, gp_sv]
    by_cases e : cu.testBit a = true
    · rw [if_pos e, if_neg (by decide)]
      show some (nI 0) = _
      congr 2
      apply Nat.eq_of_testBit_eq
      intro j
      rw [this j]; simp [e]
    · rw [if_neg e, if_pos (by decide)]
      congr 2
      apply Nat.eq_of_testBit_eq
      intro j
      rw [this j, Nat.testBit_two_pow]
      by_cases hj : j = a
      · simp [hj, e]
      · have : ¬ a = j := fun q => hj q.symm
        simp [hj, this]
  · rw [if_neg (by decide), if_pos (by decide), pm_between hp hc ha]
    rfl
  · rw [if_neg (by decide), if_neg (by decide), if_pos (by decide), pm_linesAt hp hc ha2]
    rfl
  · rw [if_neg (by decide), if_neg (by decide), if_neg (by decide), if_pos (by decide), pm_wide hp hc ha2]
    rfl
  · rw [if_neg (by decide), if_neg (by decide), if_neg (by decide), if_neg (by decide), pm_linesAt hp hc ha2, Option.bind_some, gp_dull b3]
    rfl
end PLM
