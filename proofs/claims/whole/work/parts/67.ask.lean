section ASK
variable {N : ux_N} {nd ln : Nat} {lo hi : Nat → Nat} {cu sz : Nat} {sa sl : Nat → Nat}
theorem cc_alike (hp : plC N 1 nd ln lo hi) {t a so : Nat} (ht : t < 32) (h5 : so < 5) (ha : a < 10) : fX7_alike 1 (nI t) (nI so) (nI a) (nI (bsN (fun l => !cu.testBit l) ln)) N = some (nI (alS nd ln lo hi cu t a so 5)) := by
  have hpb := hp.2.2.1
  have hlp : ux_lp (fun s : Int32 × Int32 => fX7_alike_6b 1 (nI t) (nI so) (nI a) (nI (bsN (fun l => !cu.testBit l) ln)) s.1 s.2 N) ux_fu ((0 : Int32), (0 : Int32)) = some (nI (alS nd ln lo hi cu t a so 5)) := by
    refine lp_at (fun i => (nI (alS nd ln lo hi cu t a so i), nI i)) 5 rfl (by decide) ?_ ?_
    · intro i hk
      have w1 := cc_wd (cu := cu) hp hk (a := a) (by omega)
      have w2 := cc_wd (cu := cu) hp h5 (a := a) (by omega)
      have l1 := wd_31 (nd := nd) (lo := lo) (hi := hi) (cu := cu) hpb.2.2 i a
      have l2 := wd_31 (nd := nd) (lo := lo) (hi := hi) (cu := cu) hpb.2.2 so a
      have e : alS nd ln lo hi cu t a so (i + 1) = alS nd ln lo hi cu t a so i + if (t.testBit i && (wdS nd ln lo hi cu i a == wdS nd ln lo hi cu so a)) = true then 1 else 0 := rfl
      rw [e]
      simp (disch := omega) only [fX7_alike_6b, fX7_alike_6b_45, w1, w2, li_0, li_1, li_2, li_3, li_4, li_5, li_6, li_7, li_8, li_9, li_10, li_11, li_12, li_13, li_14, li_16, li_18, li_20, li_21, li_24, li_31, li_32, li_40, li_42, li_48, li_57, li_59, li_64, li_97, li_99, li_122, li_128, li_147, li_189, li_200, li_231, li_252, li_255, li_512, li_1023, li_1024, li_8192, li_8208, li_9999, li_50000, li_500000, nI_leI, nI_ltI, nI_eq, pb_in, nI_clamp, nI_add, pk_mul, pk_sub, qb_bit1, qb_bit0, qb_pow, qb_m1, qb_m1', qb_ofn, Option.bind_some, ↓reduceIte, eq_self, if_true, if_false, Sum.elim_inl, Sum.elim_inr]
      rw [if_neg (by omega)]
      by_cases q1 : t.testBit i = true
      · rw [if_pos q1]
        by_cases q2 : wdS nd ln lo hi cu i a = wdS nd ln lo hi cu so a
        · rw [if_pos q2, if_pos (by rw [q1, q2]; simp)]
        · rw [if_neg q2, if_neg (by simp [q2])]; rfl
      · rw [if_neg q1, if_neg (by simp [q1])]; rfl
    · simp (disch := omega) only [fX7_alike_6b, li_0, li_1, li_2, li_3, li_4, li_5, li_6, li_7, li_8, li_9, li_10, li_11, li_12, li_13, li_14, li_16, li_18, li_20, li_21, li_24, li_31, li_32, li_40, li_42, li_48, li_57, li_59, li_64, li_97, li_99, li_122, li_128, li_147, li_189, li_200, li_231, li_252, li_255, li_512, li_1023, li_1024, li_8192, li_8208, li_9999, li_50000, li_500000, nI_leI, nI_ltI, nI_eq, pb_in, nI_clamp, nI_add, pk_mul, pk_sub, qb_bit1, qb_bit0, qb_pow, qb_m1, qb_m1', qb_ofn, Option.bind_some, ↓reduceIte, eq_self, if_true, if_false, Sum.elim_inl, Sum.elim_inr]
      rfl
  unfold fX7_alike
  rw [hlp]; rfl
theorem cc_greatest (hp : plC N 1 nd ln lo hi) {t a : Nat} (ht : t < 32) (ha : a < 10) : fX7_greatestPart 1 (nI t) (nI a) (nI (bsN (fun l => !cu.testBit l) ln)) N = some (nI (grS nd ln lo hi cu t a 5)) := by
  have hlp : ux_lp (fun s : Int32 × Int32 => fX7_greatestPart_6b 1 (nI t) (nI a) (nI (bsN (fun l => !cu.testBit l) ln)) s.1 s.2 N) ux_fu ((0 : Int32), (0 : Int32)) = some (nI (grS nd ln lo hi cu t a 5)) := by
    refine lp_at (fun i => (nI (grS nd ln lo hi cu t a i), nI i)) 5 rfl (by decide) ?_ ?_
    · intro i hk
      have al := cc_alike (cu := cu) hp ht hk ha
      have l1 := alS_le nd ln lo hi cu t a i 5
      have l2 := grS_le nd ln lo hi cu t a i
      have e : grS nd ln lo hi cu t a (i + 1) = if t.testBit i = true ∧ grS nd ln lo hi cu t a i < alS nd ln lo hi cu t a i 5 then alS nd ln lo hi cu t a i 5 else grS nd ln lo hi cu t a i := rfl
      rw [e]
      simp (disch := omega) only [fX7_greatestPart_6b, fX7_greatestPart_6b_38, al, li_0, li_1, li_2, li_3, li_4, li_5, li_6, li_7, li_8, li_9, li_10, li_11, li_12, li_13, li_14, li_16, li_18, li_20, li_21, li_24, li_31, li_32, li_40, li_42, li_48, li_57, li_59, li_64, li_97, li_99, li_122, li_128, li_147, li_189, li_200, li_231, li_252, li_255, li_512, li_1023, li_1024, li_8192, li_8208, li_9999, li_50000, li_500000, nI_leI, nI_ltI, nI_eq, pb_in, nI_clamp, nI_add, pk_mul, pk_sub, qb_bit1, qb_bit0, qb_pow, qb_m1, qb_m1', qb_ofn, Option.bind_some, ↓reduceIte, eq_self, if_true, if_false, Sum.elim_inl, Sum.elim_inr]
      rw [if_neg (by omega)]
      by_cases q1 : t.testBit i = true
      · rw [if_pos q1]
        by_cases q2 : grS nd ln lo hi cu t a i < alS nd ln lo hi cu t a i 5
        · rw [if_pos q2, if_pos ⟨q1, q2⟩]
        · rw [if_neg q2, if_neg (fun z => q2 z.2)]
      · rw [if_neg q1, if_neg (fun z => q1 z.1)]
    · simp (disch := omega) only [fX7_greatestPart_6b, li_0, li_1, li_2, li_3, li_4, li_5, li_6, li_7, li_8, li_9, li_10, li_11, li_12, li_13, li_14, li_16, li_18, li_20, li_21, li_24, li_31, li_32, li_40, li_42, li_48, li_57, li_59, li_64, li_97, li_99, li_122, li_128, li_147, li_189, li_200, li_231, li_252, li_255, li_512, li_1023, li_1024, li_8192, li_8208, li_9999, li_50000, li_500000, nI_leI, nI_ltI, nI_eq, pb_in, nI_clamp, nI_add, pk_mul, pk_sub, qb_bit1, qb_bit0, qb_pow, qb_m1, qb_m1', qb_ofn, Option.bind_some, ↓reduceIte, eq_self, if_true, if_false, Sum.elim_inl, Sum.elim_inr]
      rfl
  unfold fX7_greatestPart
  rw [hlp]; rfl
theorem fiT_lt (nd ln : Nat) (lo hi : Nat → Nat) (cu sz : Nat) (sa sl : Nat → Nat) : fiT nd ln lo hi cu sz sa sl < 32 := bsN_lt _ 5
theorem asS_s (nd ln : Nat) (lo hi : Nat → Nat) (cu t a : Nat) : asS nd ln lo hi cu t (a + 1) = if grS nd ln lo hi cu t a 5 < (asS nd ln lo hi cu t a).1 then (grS nd ln lo hi cu t a 5, nI a) else asS nd ln lo hi cu t a := rfl
theorem cc_best (hp : plC N 1 nd ln lo hi) (hb : seB sz sa sl) (hs : seCc N sz sa sl) : fX7_bestPlace 1 (nI (bsN (fun l => !cu.testBit l) ln)) N = some (asS nd ln lo hi cu (fiT nd ln lo hi cu sz sa sl) 10).2 := by
  have tl := fiT_lt nd ln lo hi cu sz sa sl
  have ft := cc_fitting (cu := cu) hp hb hs
  generalize fiT nd ln lo hi cu sz sa sl = t at tl ft ⊢
  have hlp : ux_lp (fun s : Int32 × Int32 × Int32 => fX7_bestPlace_19b 1 (nI (bsN (fun l => !cu.testBit l) ln)) (nI t) s.1 s.2.1 s.2.2 N) ux_fu (nI (pcn t), (-1 : Int32), (0 : Int32)) = some (asS nd ln lo hi cu t 10).2 := by
    refine lp_at (fun i => (nI (asS nd ln lo hi cu t i).1, (asS nd ln lo hi cu t i).2, nI i)) 10 rfl (by decide) ?_ ?_
    · intro i hk
      have gr := cc_greatest (cu := cu) hp tl hk
      have l1 := grS_le nd ln lo hi cu t i 5
      have l2 := asS_le nd ln lo hi cu t i
      dsimp only
      unfold fX7_bestPlace_19b fX7_bestPlace_19b_51
      rw [if_neg (fun z => by have := (nI_ltI (a := 9) (by decide) (by omega)).mp z; omega), gr, Option.bind_some, asS_s]
      by_cases q : grS nd ln lo hi cu t i 5 < (asS nd ln lo hi cu t i).1
      · rw [if_pos q, if_neg (fun z => by have := (nI_leI (by omega) (by omega)).mp z; omega), li_1, nI_add]
      · rw [if_neg q, if_pos ((nI_leI (by omega) (by omega)).mpr (by omega)), li_1, nI_add]
    · dsimp only
      unfold fX7_bestPlace_19b
      rw [if_pos (by decide)]
  unfold fX7_bestPlace
  rw [ft, Option.bind_some, pb_bitCount t (by omega), Option.bind_some, hlp]; rfl
theorem lm_ask (hp : plM N nd ln lo hi) (hc : cu < 2 ^ 31) (h2 : N 1 2 = nI cu) (hb : seB sz sa sl) (hs : seMm N sz sa sl) : fX12_ask N = some (asS nd ln lo hi cu (fiT nd ln lo hi cu sz sa sl) 10).2 := by
  have hpb := hp.2.2.1
  have tl := fiT_lt nd ln lo hi cu sz sa sl
  have ft := lm_fit hp hc h2 hb hs
  generalize fiT nd ln lo hi cu sz sa sl = t at tl ft ⊢
  have in1 : ∀ (v2 v3 v5 : Int32) a so, a < 10 → so < 5 → ux_lp (fun s : Int32 × Int32 => fX12_ask_40b (nI t) v2 v3 (nI a) v5 (nI so) s.1 s.2 N) ux_fu ((0 : Int32), (0 : Int32)) = some (nI (if t.testBit so = true then alS nd ln lo hi cu t a so 5 else 0)) := by
    intro v2 v3 v5 a so ha h5
    refine lp_at (fun i => (nI (if t.testBit so = true then alS nd ln lo hi cu t a so i else 0), nI i)) 5 (by split <;> rfl) (by decide) ?_ ?_
    · intro i hk
      have w1 := lm_wd hp hc h2 hk (a := a) (by omega)
      have w2 := lm_wd hp hc h2 h5 (a := a) (by omega)
      have l1 := wd_31 (nd := nd) (lo := lo) (hi := hi) (cu := cu) hpb.2.2 i a
      have l2 := wd_31 (nd := nd) (lo := lo) (hi := hi) (cu := cu) hpb.2.2 so a
      have e : alS nd ln lo hi cu t a so (i + 1) = alS nd ln lo hi cu t a so i + if (t.testBit i && (wdS nd ln lo hi cu i a == wdS nd ln lo hi cu so a)) = true then 1 else 0 := rfl
      rw [e]
      dsimp only
      simp (disch := omega) only [fX12_ask_40b, fX12_ask_40b_89, fX12_ask_40b_90, pm_has, w1, w2, li_0, li_1, li_2, li_3, li_4, li_5, li_6, li_7, li_8, li_9, li_10, li_11, li_12, li_13, li_14, li_16, li_18, li_20, li_21, li_24, li_31, li_32, li_40, li_42, li_48, li_57, li_59, li_64, li_97, li_99, li_122, li_128, li_147, li_189, li_200, li_231, li_252, li_255, li_512, li_1023, li_1024, li_8192, li_8208, li_9999, li_50000, li_500000, nI_leI, nI_ltI, nI_eq, pb_in, nI_clamp, nI_add, pk_mul, pk_sub, qb_bit1, qb_bit0, qb_pow, qb_m1, qb_m1', qb_ofn, Option.bind_some, ↓reduceIte, eq_self, if_true, if_false, Sum.elim_inl, Sum.elim_inr]
      rw [if_neg (by omega)]
      by_cases q0 : t.testBit so = true
      · rw [if_pos q0, if_neg (by decide), if_pos q0, if_pos q0]
        by_cases q1 : t.testBit i = true
        · rw [if_pos q1, if_neg (by decide)]
          by_cases q2 : wdS nd ln lo hi cu so a = wdS nd ln lo hi cu i a
          · rw [if_pos q2, if_pos (by rw [q1, q2]; simp)]
          · rw [if_neg q2, if_neg (by rw [Bool.and_eq_true, beq_iff_eq]; exact fun z => q2 z.2.symm)]
        · rw [if_neg q1, if_pos (show nI 0 = nI 0 from rfl), if_neg (by simp [q1])]
      · rw [if_neg q0, if_pos (show nI 0 = nI 0 from rfl), if_neg q0, if_neg q0]
    · dsimp only
      unfold fX12_ask_40b
      rw [if_pos (by decide)]
  have in2 : ∀ (v2 v3 : Int32) a, a < 10 → ux_lp (fun s : Int32 × Int32 => fX12_ask_28b (nI t) v2 v3 (nI a) s.1 s.2 N) ux_fu ((0 : Int32), (0 : Int32)) = some (nI (grS nd ln lo hi cu t a 5)) := by
    intro v2 v3 a ha
    refine lp_at (fun i => (nI (grS nd ln lo hi cu t a i), nI i)) 5 rfl (by decide) ?_ ?_
    · intro i hk
      have l1 := alS_le nd ln lo hi cu t a i 5
      have l2 := grS_le nd ln lo hi cu t a i
      have e : grS nd ln lo hi cu t a (i + 1) = if t.testBit i = true ∧ grS nd ln lo hi cu t a i < alS nd ln lo hi cu t a i 5 then alS nd ln lo hi cu t a i 5 else grS nd ln lo hi cu t a i := rfl
      rw [e]
      dsimp only
      unfold fX12_ask_28b fX12_ask_28b_113
      rw [if_neg (fun z => by have := (nI_leI (a := 5) (by decide) (by omega)).mp z; omega), in1 _ _ _ a i ha hk, Option.bind_some, li_1, nI_add]
      by_cases q1 : t.testBit i = true
      · rw [if_pos q1]
        by_cases q2 : grS nd ln lo hi cu t a i < alS nd ln lo hi cu t a i 5
        · rw [if_neg (fun z => by have := (nI_leI (by omega) (by omega)).mp z; omega), if_pos ⟨q1, q2⟩]
        · rw [if_pos ((nI_leI (by omega) (by omega)).mpr (by omega)), if_neg (fun z => q2 z.2)]
      · rw [if_neg q1, if_pos ((nI_leI (by omega) (by omega)).mpr (Nat.zero_le _)), if_neg (fun z => q1 z.1)]
    · dsimp only
      unfold fX12_ask_28b
      rw [if_pos (by decide)]
  have hlp : ux_lp (fun s : Int32 × Int32 × Int32 => fX12_ask_15b (nI t) s.1 s.2.1 s.2.2 N) ux_fu (nI (pcn t), (-1 : Int32), (0 : Int32)) = some (asS nd ln lo hi cu t 10).2 := by
    refine lp_at (fun i => (nI (asS nd ln lo hi cu t i).1, (asS nd ln lo hi cu t i).2, nI i)) 10 rfl (by decide) ?_ ?_
    · intro i hk
      have l1 := grS_le nd ln lo hi cu t i 5
      have l2 := asS_le nd ln lo hi cu t i
      dsimp only
      unfold fX12_ask_15b fX12_ask_15b_133 fX12_ask_15b_146
      rw [if_neg (fun z => by have := (nI_leI (a := 10) (by decide) (by omega)).mp z; omega), in2 _ _ i hk, Option.bind_some, asS_s]
      by_cases q : grS nd ln lo hi cu t i 5 < (asS nd ln lo hi cu t i).1
      · have nq : ¬ nI (asS nd ln lo hi cu t i).1 ≤ nI (grS nd ln lo hi cu t i 5) := fun z => by have := (nI_leI (by omega) (by omega)).mp z; omega
        rw [if_pos q, if_neg nq, if_neg nq, li_1, nI_add]
      · have nq : nI (asS nd ln lo hi cu t i).1 ≤ nI (grS nd ln lo hi cu t i 5) := (nI_leI (by omega) (by omega)).mpr (by omega)
        rw [if_neg q, if_pos nq, if_pos nq, li_1, nI_add]
    · dsimp only
      unfold fX12_ask_15b
      rw [if_pos (by decide)]
  unfold fX12_ask
  rw [ft, Option.bind_some, lm_ones (by omega), Option.bind_some, hlp]; rfl
end ASK
