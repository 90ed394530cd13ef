/-! what was seen: which sorts fit, and what to ask next -/
def seB (sz : Nat) (sa sl : Nat → Nat) : Prop := sz ≤ 6 ∧ ∀ k, k < sz → sa k < 10 ∧ sl k < 1024
def seCc (N : ux_N) (sz : Nat) (sa sl : Nat → Nat) : Prop := N 107 0 = nI sz ∧ ∀ k, k < sz → N 108 k = nI (sa k) ∧ N 109 k = nI (sl k)
def seMm (N : ux_N) (sz : Nat) (sa sl : Nat → Nat) : Prop := N 0 12 = nI sz ∧ ∀ k, k < sz → N 6 k = nI (sa k) ∧ N 7 k = nI (sl k)
def wdS (nd ln : Nat) (lo hi : Nat → Nat) (cu so a : Nat) : Nat := if a < (if so < 2 then ln else nd) then gp_ms ln lo hi cu.testBit so a else 0
def fi1 (nd ln : Nat) (lo hi : Nat → Nat) (cu : Nat) (sa sl : Nat → Nat) (so k : Nat) : Bool := decide (sa k < (if so < 2 then ln else nd)) && (gp_ms ln lo hi cu.testBit so (sa k) == sl k)
def fiS (nd ln : Nat) (lo hi : Nat → Nat) (cu sz : Nat) (sa sl : Nat → Nat) (so : Nat) : Bool := (List.range sz).all (fi1 nd ln lo hi cu sa sl so)
def fiT (nd ln : Nat) (lo hi : Nat → Nat) (cu sz : Nat) (sa sl : Nat → Nat) : Nat := bsN (fiS nd ln lo hi cu sz sa sl) 5
def alS (nd ln : Nat) (lo hi : Nat → Nat) (cu t a so : Nat) : Nat → Nat := fb_ct (fun o => t.testBit o && (wdS nd ln lo hi cu o a == wdS nd ln lo hi cu so a))
def grS (nd ln : Nat) (lo hi : Nat → Nat) (cu t a : Nat) : Nat → Nat
  | 0 => 0
  | n + 1 => if t.testBit n = true ∧ grS nd ln lo hi cu t a n < alS nd ln lo hi cu t a n 5 then alS nd ln lo hi cu t a n 5 else grS nd ln lo hi cu t a n
def asS (nd ln : Nat) (lo hi : Nat → Nat) (cu t : Nat) : Nat → Nat × Int32
  | 0 => (pcn t, -1)
  | a + 1 => if grS nd ln lo hi cu t a 5 < (asS nd ln lo hi cu t a).1 then (grS nd ln lo hi cu t a 5, nI a) else asS nd ln lo hi cu t a
theorem alS_le (nd ln : Nat) (lo hi : Nat → Nat) (cu t a so n : Nat) : alS nd ln lo hi cu t a so n ≤ n := fb_ct_le _ n
theorem grS_le (nd ln : Nat) (lo hi : Nat → Nat) (cu t a : Nat) : ∀ n, grS nd ln lo hi cu t a n ≤ 5
  | 0 => Nat.zero_le 5
  | n + 1 => by
    have := grS_le nd ln lo hi cu t a n
    have := alS_le nd ln lo hi cu t a n 5
    unfold grS
    split <;> omega
theorem asS_le (nd ln : Nat) (lo hi : Nat → Nat) (cu t : Nat) : ∀ n, (asS nd ln lo hi cu t n).1 ≤ 10
  | 0 => pcn_le t
  | n + 1 => by
    have := grS_le nd ln lo hi cu t n 5
    have := asS_le nd ln lo hi cu t n
    unfold asS
    split
    · dsimp only; omega
    · assumption
section FIT
variable {N : ux_N} {nd ln : Nat} {lo hi : Nat → Nat} {cu sz : Nat} {sa sl : Nat → Nat}
theorem gp_31 (hn : ln ≤ 10) (so a : Nat) : gp_ms ln lo hi cu.testBit so a < 1024 := Nat.lt_of_lt_of_le (bsN_lt _ ln) (show 2 ^ ln ≤ 2 ^ 10 from Nat.pow_le_pow_right (by decide) hn)
theorem wd_31 (hn : ln ≤ 10) (so a : Nat) : wdS nd ln lo hi cu so a < 1024 := by
  unfold wdS
  by_cases q : a < (if so < 2 then ln else nd)
  · rw [if_pos q]; exact gp_31 hn so a
  · rw [if_neg q]; decide
theorem cc_fits (hp : plC N 1 nd ln lo hi) (hb : seB sz sa sl) (hs : seCc N sz sa sl) {so : Nat} (h5 : so < 5) : fX7_fits 1 (nI so) (nI (bsN (fun l => !cu.testBit l) ln)) N = some (if fiS nd ln lo hi cu sz sa sl so = true then 1 else 0) := by
  have hpb := hp.2.2.1
  have hz := hb.1
  have hlp : ∃ e, ux_lp (fun s : Int32 => fX7_fits_3b 1 (nI so) (nI (bsN (fun l => !cu.testBit l) ln)) s N) ux_fu (0 : Int32) = some e ∧ ((e = .inl () ∧ fiS nd ln lo hi cu sz sa sl so = false) ∨ (e = .inr () ∧ fiS nd ln lo hi cu sz sa sl so = true)) := by
    refine lp_inv (fun i v => v = nI i ∧ ∀ k, k < i → fi1 nd ln lo hi cu sa sl so k = true) _ sz ?_ (by omega) ?_ ?_
    · exact ⟨rfl, fun k h => by omega⟩
    · intro i v hk ⟨e, g⟩
      subst e
      obtain ⟨s1, s2⟩ := hs.2 i hk
      obtain ⟨b1, b2⟩ := hb.2 i hk
      have hpl := pc_hasPlace hp h5 (a := sa i) (by omega)
      have hlf := pc_linesFor (ct := cu.testBit) hp h5 (a := sa i) (by omega)
      have gl := gp_31 (lo := lo) (hi := hi) (cu := cu) hpb.2.2 so (sa i)
      have no : fi1 nd ln lo hi cu sa sl so i = false → fiS nd ln lo hi cu sz sa sl so = false := fun h => by
        unfold fiS
        rw [List.all_eq_false]
        exact ⟨i, List.mem_range.mpr hk, by rw [h]; decide⟩
      by_cases q1 : sa i < (if so < 2 then ln else nd)
      · rw [if_pos q1] at hpl hlf
        by_cases q2 : gp_ms ln lo hi cu.testBit so (sa i) = sl i
        · refine Or.inl ⟨nI (i + 1), ?_, rfl, fun k hk2 => ?_⟩
          · simp (disch := omega) only [fX7_fits_3b, hs.1, s1, s2, hpl, hlf, li_0, li_1, li_2, li_3, li_4, li_5, li_6, li_7, li_8, li_9, li_10, li_11, li_12, li_13, li_14, li_16, li_18, li_20, li_21, li_24, li_31, li_32, li_40, li_42, li_48, li_57, li_59, li_64, li_97, li_99, li_122, li_128, li_147, li_189, li_200, li_231, li_252, li_255, li_512, li_1023, li_1024, li_8192, li_8208, li_9999, li_50000, li_500000, nI_leI, nI_ltI, nI_eq, pb_in, nI_clamp, nI_add, pk_mul, pk_sub, qb_bit1, qb_bit0, qb_pow, qb_m1, qb_m1', qb_ofn, Option.bind_some, ↓reduceIte, eq_self, if_true, if_false, Sum.elim_inl, Sum.elim_inr]
            rw [if_neg (by omega), if_neg (by decide), if_pos q2]
          · by_cases e : k = i
            · rw [e]; unfold fi1; rw [decide_eq_true q1, q2]; simp
            · exact g k (by omega)
        · refine Or.inr ⟨.inl (), ?_, Or.inl ⟨rfl, no (by unfold fi1; simp [q2])⟩⟩
          simp (disch := omega) only [fX7_fits_3b, hs.1, s1, s2, hpl, hlf, li_0, li_1, li_2, li_3, li_4, li_5, li_6, li_7, li_8, li_9, li_10, li_11, li_12, li_13, li_14, li_16, li_18, li_20, li_21, li_24, li_31, li_32, li_40, li_42, li_48, li_57, li_59, li_64, li_97, li_99, li_122, li_128, li_147, li_189, li_200, li_231, li_252, li_255, li_512, li_1023, li_1024, li_8192, li_8208, li_9999, li_50000, li_500000, nI_leI, nI_ltI, nI_eq, pb_in, nI_clamp, nI_add, pk_mul, pk_sub, qb_bit1, qb_bit0, qb_pow, qb_m1, qb_m1', qb_ofn, Option.bind_some, ↓reduceIte, eq_self, if_true, if_false, Sum.elim_inl, Sum.elim_inr]
          rw [if_neg (by omega), if_neg (by decide), if_neg q2]
      · rw [if_neg q1] at hpl
        refine Or.inr ⟨.inl (), ?_, Or.inl ⟨rfl, no (by unfold fi1; rw [decide_eq_false q1]; rfl)⟩⟩
        simp (disch := omega) only [fX7_fits_3b, hs.1, s1, hpl, li_0, li_1, li_2, li_3, li_4, li_5, li_6, li_7, li_8, li_9, li_10, li_11, li_12, li_13, li_14, li_16, li_18, li_20, li_21, li_24, li_31, li_32, li_40, li_42, li_48, li_57, li_59, li_64, li_97, li_99, li_122, li_128, li_147, li_189, li_200, li_231, li_252, li_255, li_512, li_1023, li_1024, li_8192, li_8208, li_9999, li_50000, li_500000, nI_leI, nI_ltI, nI_eq, pb_in, nI_clamp, nI_add, pk_mul, pk_sub, qb_bit1, qb_bit0, qb_pow, qb_m1, qb_m1', qb_ofn, Option.bind_some, ↓reduceIte, eq_self, if_true, if_false, Sum.elim_inl, Sum.elim_inr]
        rw [if_neg (by omega)]
    · intro v ⟨e, g⟩
      subst e
      refine ⟨.inr (), ?_, Or.inr ⟨rfl, ?_⟩⟩
      · simp (disch := omega) only [fX7_fits_3b, hs.1, li_0, li_1, li_2, li_3, li_4, li_5, li_6, li_7, li_8, li_9, li_10, li_11, li_12, li_13, li_14, li_16, li_18, li_20, li_21, li_24, li_31, li_32, li_40, li_42, li_48, li_57, li_59, li_64, li_97, li_99, li_122, li_128, li_147, li_189, li_200, li_231, li_252, li_255, li_512, li_1023, li_1024, li_8192, li_8208, li_9999, li_50000, li_500000, nI_leI, nI_ltI, nI_eq, pb_in, nI_clamp, nI_add, pk_mul, pk_sub, qb_bit1, qb_bit0, qb_pow, qb_m1, qb_m1', qb_ofn, Option.bind_some, ↓reduceIte, eq_self, if_true, if_false, Sum.elim_inl, Sum.elim_inr]
        simp
      · unfold fiS
        rw [List.all_eq_true]
        exact fun k hk => g k (List.mem_range.mp hk)
  obtain ⟨e, q0, q⟩ := hlp
  unfold fX7_fits
  rw [q0]
  rcases q with ⟨rfl, q⟩ | ⟨rfl, q⟩
  · rw [q]; rfl
  · rw [q]; rfl
theorem cc_fitting (hp : plC N 1 nd ln lo hi) (hb : seB sz sa sl) (hs : seCc N sz sa sl) : fX7_fitting 1 (nI (bsN (fun l => !cu.testBit l) ln)) N = some (nI (fiT nd ln lo hi cu sz sa sl)) := by
  have hlp : ux_lp (fun s : Int32 × Int32 => fX7_fitting_5b 1 (nI (bsN (fun l => !cu.testBit l) ln)) s.1 s.2 N) ux_fu ((0 : Int32), (0 : Int32)) = some (nI (fiT nd ln lo hi cu sz sa sl)) := by
    refine lp_at (fun i => (nI (bsN (fiS nd ln lo hi cu sz sa sl) i), nI i)) 5 rfl (by decide) ?_ ?_
    · intro i hk
      have f := cc_fits (cu := cu) hp hb hs hk
      simp (disch := omega) only [fX7_fitting_5b, fX7_fitting_5b_29, f, li_0, li_1, li_2, li_3, li_4, li_5, li_6, li_7, li_8, li_9, li_10, li_11, li_12, li_13, li_14, li_16, li_18, li_20, li_21, li_24, li_31, li_32, li_40, li_42, li_48, li_57, li_59, li_64, li_97, li_99, li_122, li_128, li_147, li_189, li_200, li_231, li_252, li_255, li_512, li_1023, li_1024, li_8192, li_8208, li_9999, li_50000, li_500000, nI_leI, nI_ltI, nI_eq, pb_in, nI_clamp, nI_add, pk_mul, pk_sub, qb_bit1, qb_bit0, qb_pow, qb_m1, qb_m1', qb_ofn, Option.bind_some, ↓reduceIte, eq_self, if_true, if_false, Sum.elim_inl, Sum.elim_inr]
      rw [if_neg (by omega)]
      by_cases q : fiS nd ln lo hi cu sz sa sl i = true
      · rw [if_pos q, if_neg (by decide), bsN_t q]
      · rw [if_neg q, if_pos (show nI 0 = nI 0 from rfl), ← bsN_f (by simpa using q)]
    · simp (disch := omega) only [fX7_fitting_5b, li_0, li_1, li_2, li_3, li_4, li_5, li_6, li_7, li_8, li_9, li_10, li_11, li_12, li_13, li_14, li_16, li_18, li_20, li_21, li_24, li_31, li_32, li_40, li_42, li_48, li_57, li_59, li_64, li_97, li_99, li_122, li_128, li_147, li_189, li_200, li_231, li_252, li_255, li_512, li_1023, li_1024, li_8192, li_8208, li_9999, li_50000, li_500000, nI_leI, nI_ltI, nI_eq, pb_in, nI_clamp, nI_add, pk_mul, pk_sub, qb_bit1, qb_bit0, qb_pow, qb_m1, qb_m1', qb_ofn, Option.bind_some, ↓reduceIte, eq_self, if_true, if_false, Sum.elim_inl, Sum.elim_inr]
      rfl
  unfold fX7_fitting
  rw [hlp]; rfl
theorem lm_wd (hp : plM N nd ln lo hi) (hc : cu < 2 ^ 31) (h2 : N 1 2 = nI cu) {so a : Nat} (h5 : so < 5) (ha : a < 2 ^ 31) : fX12_wouldServe (nI so) (nI a) N = some (nI (wdS nd ln lo hi cu so a)) := by
  unfold fX12_wouldServe wdS
  rw [fm_isThere hp (by omega) ha, Option.bind_some]
  by_cases q : a < (if so < 2 then ln else nd)
  · rw [if_pos q, if_neg (by decide), h2, pm_mayServe hp hc h5 q, Option.bind_some, if_pos q]; rfl
  · rw [if_neg q, if_pos rfl, if_neg q]; rfl
theorem cc_wd (hp : plC N 1 nd ln lo hi) {so a : Nat} (h5 : so < 5) (ha : a < 2 ^ 31) : fX3_linesFor 1 (nI so) (nI a) (nI (bsN (fun l => !cu.testBit l) ln)) N = some (nI (wdS nd ln lo hi cu so a)) := pc_linesFor (ct := cu.testBit) hp h5 ha
theorem lm_fit (hp : plM N nd ln lo hi) (hc : cu < 2 ^ 31) (h2 : N 1 2 = nI cu) (hb : seB sz sa sl) (hs : seMm N sz sa sl) : fX12_fit N = some (nI (fiT nd ln lo hi cu sz sa sl)) := by
  have hpb := hp.2.2.1
  have hz := hb.1
  have inner : ∀ so, so < 5 → ∀ v1 : Int32, ux_lp (fun s : Int32 × Int32 => fX12_fit_14b v1 (nI so) s.1 s.2 N) ux_fu ((1 : Int32), (0 : Int32)) = some (if fiS nd ln lo hi cu sz sa sl so = true then 1 else 0) := by
    intro so h5 v1
    refine lp_at (fun i => ((if (List.range i).all (fi1 nd ln lo hi cu sa sl so) = true then (1 : Int32) else 0), nI i)) sz rfl (by omega) ?_ ?_
    · intro i hk
      obtain ⟨s1, s2⟩ := hs.2 i hk
      obtain ⟨b1, b2⟩ := hb.2 i hk
      have ht := fm_isThere hp (s := so) (n := sa i) (by omega) (by omega)
      have gl := gp_31 (lo := lo) (hi := hi) (cu := cu) hpb.2.2 so (sa i)
      have e : (List.range (i + 1)).all (fi1 nd ln lo hi cu sa sl so) = ((List.range i).all (fi1 nd ln lo hi cu sa sl so) && fi1 nd ln lo hi cu sa sl so i) := by
        rw [List.range_succ, List.all_append]; simp
      rw [e]
      dsimp only
      by_cases q0 : (List.range i).all (fi1 nd ln lo hi cu sa sl so) = true
      · rw [if_pos q0, q0, Bool.true_and]
        by_cases q1 : sa i < (if so < 2 then ln else nd)
        · rw [if_pos q1] at ht
          have ms := pm_mayServe hp hc h5 q1
          by_cases q2 : gp_ms ln lo hi cu.testBit so (sa i) = sl i
          · rw [if_pos (by unfold fi1; rw [decide_eq_true q1, q2]; simp)]
            simp (disch := omega) only [fX12_fit_14b, fX12_fit_14b_74, fX12_fit_14b_75, hs.1, s1, s2, ht, h2, ms, li_0, li_1, li_2, li_3, li_4, li_5, li_6, li_7, li_8, li_9, li_10, li_11, li_12, li_13, li_14, li_16, li_18, li_20, li_21, li_24, li_31, li_32, li_40, li_42, li_48, li_57, li_59, li_64, li_97, li_99, li_122, li_128, li_147, li_189, li_200, li_231, li_252, li_255, li_512, li_1023, li_1024, li_8192, li_8208, li_9999, li_50000, li_500000, nI_leI, nI_ltI, nI_eq, pb_in, nI_clamp, nI_add, pk_mul, pk_sub, qb_bit1, qb_bit0, qb_pow, qb_m1, qb_m1', qb_ofn, Option.bind_some, ↓reduceIte, eq_self, if_true, if_false, Sum.elim_inl, Sum.elim_inr]
            rw [if_neg (by omega), if_neg (by decide), if_neg (by decide), if_pos q2]
          · rw [if_neg (by unfold fi1; simp [q2])]
            simp (disch := omega) only [fX12_fit_14b, fX12_fit_14b_74, fX12_fit_14b_75, hs.1, s1, s2, ht, h2, ms, li_0, li_1, li_2, li_3, li_4, li_5, li_6, li_7, li_8, li_9, li_10, li_11, li_12, li_13, li_14, li_16, li_18, li_20, li_21, li_24, li_31, li_32, li_40, li_42, li_48, li_57, li_59, li_64, li_97, li_99, li_122, li_128, li_147, li_189, li_200, li_231, li_252, li_255, li_512, li_1023, li_1024, li_8192, li_8208, li_9999, li_50000, li_500000, nI_leI, nI_ltI, nI_eq, pb_in, nI_clamp, nI_add, pk_mul, pk_sub, qb_bit1, qb_bit0, qb_pow, qb_m1, qb_m1', qb_ofn, Option.bind_some, ↓reduceIte, eq_self, if_true, if_false, Sum.elim_inl, Sum.elim_inr]
            rw [if_neg (by omega), if_neg (by decide), if_neg (by decide), if_neg q2]
        · rw [if_neg q1] at ht
          rw [if_neg (by unfold fi1; rw [decide_eq_false q1]; simp)]
          simp (disch := omega) only [fX12_fit_14b, fX12_fit_14b_74, fX12_fit_14b_75, hs.1, s1, ht, li_0, li_1, li_2, li_3, li_4, li_5, li_6, li_7, li_8, li_9, li_10, li_11, li_12, li_13, li_14, li_16, li_18, li_20, li_21, li_24, li_31, li_32, li_40, li_42, li_48, li_57, li_59, li_64, li_97, li_99, li_122, li_128, li_147, li_189, li_200, li_231, li_252, li_255, li_512, li_1023, li_1024, li_8192, li_8208, li_9999, li_50000, li_500000, nI_leI, nI_ltI, nI_eq, pb_in, nI_clamp, nI_add, pk_mul, pk_sub, qb_bit1, qb_bit0, qb_pow, qb_m1, qb_m1', qb_ofn, Option.bind_some, ↓reduceIte, eq_self, if_true, if_false, Sum.elim_inl, Sum.elim_inr]
          rw [if_neg (by omega), if_neg (by decide)]
      · have q0' : (List.range i).all (fi1 nd ln lo hi cu sa sl so) = false := by simpa using q0
        rw [if_neg q0, q0', Bool.false_and]
        simp (disch := omega) only [fX12_fit_14b, fX12_fit_14b_74, fX12_fit_14b_75, hs.1, li_0, li_1, li_2, li_3, li_4, li_5, li_6, li_7, li_8, li_9, li_10, li_11, li_12, li_13, li_14, li_16, li_18, li_20, li_21, li_24, li_31, li_32, li_40, li_42, li_48, li_57, li_59, li_64, li_97, li_99, li_122, li_128, li_147, li_189, li_200, li_231, li_252, li_255, li_512, li_1023, li_1024, li_8192, li_8208, li_9999, li_50000, li_500000, nI_leI, nI_ltI, nI_eq, pb_in, nI_clamp, nI_add, pk_mul, pk_sub, qb_bit1, qb_bit0, qb_pow, qb_m1, qb_m1', qb_ofn, Option.bind_some, ↓reduceIte, eq_self, if_true, if_false, Sum.elim_inl, Sum.elim_inr]
        rw [if_neg (by omega), if_neg (by decide)]
    · dsimp only
      unfold fX12_fit_14b
      rw [hs.1, if_pos ((nI_leI (by omega) (by omega)).mpr (Nat.le_refl _))]
      rfl
  have hlp : ux_lp (fun s : Int32 × Int32 => fX12_fit_4b s.1 s.2 N) ux_fu ((0 : Int32), (0 : Int32)) = some (nI (fiT nd ln lo hi cu sz sa sl)) := by
    refine lp_at (fun i => (nI (bsN (fiS nd ln lo hi cu sz sa sl) i), nI i)) 5 rfl (by decide) ?_ ?_
    · intro i hk
      dsimp only
      unfold fX12_fit_4b
      rw [if_neg (fun z => by have := (nI_leI (a := 5) (by decide) (by omega)).mp z; omega), inner i hk, Option.bind_some]
      unfold fX12_fit_4b_94
      by_cases q : fiS nd ln lo hi cu sz sa sl i = true
      · rw [if_pos q, if_neg (by decide), pb_pow (by omega), bsN_t q, li_1, nI_add]
      · rw [if_neg q, if_pos rfl, li_0, qb_or0, bsN_f (by simpa using q), li_1, nI_add]
    · dsimp only
      unfold fX12_fit_4b
      rw [if_pos (by decide)]
      rfl
  unfold fX12_fit
  rw [hlp]; rfl
end FIT
