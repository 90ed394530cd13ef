/-! all sets of meters, as the reference lays them -/
theorem bitsAdd {i j : Nat} (hj : j < 2 ^ i) (m : Nat) : ((j + 2 ^ i).testBit m = true) ↔ (j.testBit m = true ∨ m = i) := by
  rw [tb_add_pow hj m]
  by_cases e : m = i
  · simp [e]
  · simp [e]
section ALL
variable {N : ux_N} {L : ux_L} {nd ln : Nat} {lo hi : Nat → Nat} {me : Nat} {so pl : Nat → Nat} {br cu : Nat}
theorem lm_all (hp : plM N nd ln lo hi) (hb : stB nd ln me so pl br cu) (hs : stM N 0 me so pl br cu) (hW : wiM L) : ∃ L', fX12_layAll N L = some L' ∧ (∀ a, a ≠ 15 → L' a = L a) ∧ ∀ t, t < 2 ^ me → ∀ s, s < 1024 → (gS L' (16 * t) s = true ↔ mq_MT (rcS ln lo hi so pl br cu) (fun m => t.testBit m = true) s) := by
  have b3 : ln ≤ 10 := hp.2.2.1.2.2
  have me9 : me ≤ 9 := hb.1.1
  have p10 : 2 ^ ln ≤ 1024 := show 2 ^ ln ≤ 2 ^ 10 from Nat.pow_le_pow_right (by decide) b3
  have c1 := stB_c hp hb
  obtain ⟨L0, a0, a1, a2, a3⟩ := lm_none (L := L) (p := 0) (by decide)
  have hlp : ∃ L', ux_lp (fun t : Int32 × ux_L => fX12_layAll_7b t.1 N t.2) ux_fu ((0 : Int32), L0) = some L' ∧ ((∀ a, a ≠ 15 → L' a = L a) ∧ ∀ t, t < 2 ^ me → ∀ s, s < 1024 → (gS L' (16 * t) s = true ↔ mq_MT (rcS ln lo hi so pl br cu) (fun m => t.testBit m = true) s)) := by
    refine lp_inv (fun i x => x.1 = nI i ∧ (∀ a, a ≠ 15 → x.2 a = L a) ∧ ∀ t, t < 2 ^ i → ∀ s, s < 1024 → (gS x.2 (16 * t) s = true ↔ mq_MT (rcS ln lo hi so pl br cu) (fun m => t.testBit m = true) s)) _ me ?_ (by omega) ?_ ?_
    · refine ⟨rfl, a1, fun t ht s hs => ?_⟩
      have t0 : t = 0 := by have : (2 : Nat) ^ 0 = 1 := rfl
                            omega
      subst t0
      dsimp only
      rw [Nat.mul_zero, a3 s hs, mq_none (fun m h => by simp at h), decide_eq_true_iff]
    · intro i ⟨v, L1⟩ hk ⟨e, g1, g2⟩
      dsimp only at e g1 g2 ⊢
      subst e
      have ms := lm_mayOf hp hb hs (c := cu) (by omega) hk
      have rl := rcS_lt ln lo hi so pl br cu i
      have pi : 2 ^ i ≤ 256 := show 2 ^ i ≤ 2 ^ 8 from Nat.pow_le_pow_right (by decide) (by omega)
      have pi0 : 0 < 2 ^ i := Nat.two_pow_pos i
      have inner : ∃ L', ux_lp (fun x : Int32 × ux_L => fX12_layAll_31b (nI i) (nI (rcS ln lo hi so pl br cu i)) x.1 N x.2) ux_fu ((0 : Int32), L1) = some L' ∧ ((∀ a, a ≠ 15 → L' a = L a) ∧ ∀ t, t < 2 ^ (i + 1) → ∀ s, s < 1024 → (gS L' (16 * t) s = true ↔ mq_MT (rcS ln lo hi so pl br cu) (fun m => t.testBit m = true) s)) := by
        refine lp_inv (fun j x => x.1 = nI j ∧ (∀ a, a ≠ 15 → x.2 a = L a) ∧ (∀ k, k < 16 * 2 ^ i → x.2 15 k = L1 15 k) ∧ ∀ t, t < j → ∀ s, s < 1024 → (gS x.2 (16 * (t + 2 ^ i)) s = true ↔ mq_MT (rcS ln lo hi so pl br cu) (fun m => (t + 2 ^ i).testBit m = true) s)) _ (2 ^ i) ?_ (by omega) ?_ ?_
        · exact ⟨rfl, g1, fun _ _ => rfl, fun t ht => by omega⟩
        · intro j ⟨v, L2⟩ hj ⟨e, k1, k2, k3⟩
          dsimp only at e k1 k2 k3 ⊢
          subst e
          have ej : nI 16 * (nI j ||| nI (2 ^ i)) = nI (16 * (j + 2 ^ i)) := by rw [pb_or hj, pk_mul]
          have ej0 : nI 16 * nI j = nI (16 * j) := by rw [pk_mul]
          obtain ⟨L3, q0, q1, q2, q3⟩ := lm_more (L := L2) hp (by rw [k1 16 (by decide)]; exact hW) (f := 16 * j) (t0 := 16 * (j + 2 ^ i)) (may := rcS ln lo hi so pl br cu i) (by omega) (by omega) (by omega) (by omega)
          have hold : ∀ s, s < 1024 → (gS L2 (16 * j) s = true ↔ mq_MT (rcS ln lo hi so pl br cu) (fun m => j.testBit m = true) s) := fun s hs => by
            rw [← g2 j hj s hs]
            unfold gS
            rw [k2 _ (by omega)]
          have st := lm_step (L := L2) (L' := L3) b3 (M := fun m => j.testBit m = true) (m := i) (by rw [tb_ge hj (Nat.le_refl i)]; decide) rfl rl hold q3
          refine Or.inl ⟨(nI (j + 1), L3), ?_, rfl, fun a ha => (q1 a ha).trans (k1 a ha), fun k hk => (q2 k (by omega)).trans (k2 k hk), fun t ht s hs => ?_⟩
          · simp (disch := omega) only [fX12_layAll_31b, li_1, li_31, li_16, qb_pow, nI_leI, ej, ej0]
            rw [if_neg (by omega), q0, Option.bind_some, nI_add]
          · dsimp only
            by_cases e : t = j
            · subst e
              rw [st s hs]
              exact mq_cg (fun m => (bitsAdd hj m).symm) (fun _ _ => rfl)
            · rw [← k3 t (by omega) s hs]
              unfold gS
              rw [q2 _ (by omega)]
        · intro ⟨v, L2⟩ ⟨e, k1, k2, k3⟩
          dsimp only at e k1 k2 k3 ⊢
          subst e
          refine ⟨L2, ?_, k1, fun t ht s hs => ?_⟩
          · simp (disch := omega) only [fX12_layAll_31b, li_1, li_31, qb_pow, nI_leI]
            rw [if_pos (Nat.le_refl _)]
          · by_cases q : t < 2 ^ i
            · rw [← g2 t q s hs]
              unfold gS
              rw [k2 _ (by omega)]
            · rw [Nat.pow_succ] at ht
              have := k3 (t - 2 ^ i) (by omega) s hs
              rw [show t - 2 ^ i + 2 ^ i = t from by omega] at this
              exact this
      obtain ⟨L2, q0, q1, q2⟩ := inner
      refine Or.inl ⟨(nI (i + 1), L2), ?_, rfl, q1, q2⟩
      rw [li_0] at q0
      simp (disch := omega) only [fX12_layAll_7b, hs.1, show N 1 2 = nI cu from hs.2.2.1, ms, q0, li_0, li_1, li_2, li_3, li_4, li_5, li_6, li_7, li_8, li_9, li_10, li_11, li_12, li_13, li_14, li_16, li_18, li_20, li_21, li_24, li_31, li_32, li_40, li_42, li_48, li_57, li_59, li_64, li_97, li_99, li_122, li_128, li_147, li_189, li_200, li_231, li_252, li_255, li_512, li_1023, li_1024, li_8192, li_8208, li_9999, li_50000, li_500000, nI_leI, nI_ltI, nI_eq, pb_in, nI_clamp, nI_add, pk_mul, pk_sub, qb_bit1, qb_bit0, qb_pow, qb_m1, qb_m1', qb_ofn, Option.bind_some, ↓reduceIte, eq_self, if_true, if_false, Sum.elim_inl, Sum.elim_inr]
      rw [if_neg (by omega)]
    · intro ⟨v, L1⟩ ⟨e, g1, g2⟩
      dsimp only at e g1 g2 ⊢
      subst e
      refine ⟨L1, ?_, g1, g2⟩
      simp (disch := omega) only [fX12_layAll_7b, hs.1, li_0, li_1, li_2, li_3, li_4, li_5, li_6, li_7, li_8, li_9, li_10, li_11, li_12, li_13, li_14, li_16, li_18, li_20, li_21, li_24, li_31, li_32, li_40, li_42, li_48, li_57, li_59, li_64, li_97, li_99, li_122, li_128, li_147, li_189, li_200, li_231, li_252, li_255, li_512, li_1023, li_1024, li_8192, li_8208, li_9999, li_50000, li_500000, nI_leI, nI_ltI, nI_eq, pb_in, nI_clamp, nI_add, pk_mul, pk_sub, qb_bit1, qb_bit0, qb_pow, qb_m1, qb_m1', qb_ofn, Option.bind_some, ↓reduceIte, eq_self, if_true, if_false, Sum.elim_inl, Sum.elim_inr]
      simp
  obtain ⟨L', q0, q1⟩ := hlp
  refine ⟨L', ?_, q1⟩
  unfold fX12_layAll
  rw [li_0, a0, Option.bind_some, ← li_0, q0]; rfl
theorem foM_fr {L' : ux_L} (hF : foM L ln lo hi) (e : L' 13 = L 13) : foM L' ln lo hi := fun n hn s hs => by
  have := hF n hn s hs
  unfold fmF at this ⊢
  rw [e]; exact this
theorem wiM_fr {L' : ux_L} (hW : wiM L) (e : L' 16 = L 16) : wiM L' := fun l hl j hj => by rw [e]; exact hW l hl j hj
end ALL
