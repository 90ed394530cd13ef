theorem ct_more {p : Nat → Bool} {n : Nat} (h : ∀ j, n ≤ j → p j = false) : ∀ m, n ≤ m → fb_ct p m = fb_ct p n
  | 0, hm => by have : n = 0 := by omega
                subst this; rfl
  | m + 1, hm => by
    by_cases e : n = m + 1
    · rw [e]
    · have e1 : fb_ct p (m + 1) = fb_ct p m + if p m = true then 1 else 0 := rfl
      rw [e1, h m (by omega), ct_more h m (by omega)]
      rfl
theorem pcn_ln {s ln : Nat} (h : ln ≤ 10) (hs : s < 2 ^ ln) : fb_ct s.testBit ln = pcn s := (ct_more (fun j hj => tb_ge hs hj) 10 h).symm
theorem sub_eqI {a b c : Int32} : (a - b = a - c) ↔ b = c := by
  constructor
  · intro h
    have h1 : a - b + b + c = a - c + c + b := by rw [h, Int32.add_assoc, Int32.add_comm b c, ← Int32.add_assoc]
    rw [Int32.sub_add_cancel, Int32.sub_add_cancel] at h1
    exact ((Int32.add_right_inj a).mp h1).symm
  · intro h; rw [h]
theorem pb_rem64' {s : Nat} (hs : s < 2 ^ 31) : nI s - nI (s / 64) * (64 : Int32) = nI (s % 64) := by rw [← pb_div64 hs]; exact pb_rem64 hs
/-- one of the reference's families of forests: those of n lines -/
def fmF (L : ux_L) (n s : Nat) : Bool := lb (L 13 (16 * n + s / 64)) (s % 64)
section MFP
variable {N : ux_N} {L : ux_L} {nd ln : Nat} {lo hi : Nat → Nat}
theorem lm_layForests (hp : plM N nd ln lo hi) : ∃ N' L', fX12_layForests N L = some (N', L') ∧ (∀ a, a ≠ 14 → N' a = N a) ∧ (∀ a, a ≠ 13 → L' a = L a) ∧ ∀ n, n < 8 → ∀ s, s < 1024 → (fmF L' n s = true ↔ ((s < 2 ^ ln ∧ gq_ac lo hi s) ∧ pcn s = n)) := by
  have hp0 := hp
  obtain ⟨h0, h1, ⟨b1, b2, b3⟩, hl⟩ := hp
  have p10 : 2 ^ ln ≤ 1024 := show 2 ^ ln ≤ 2 ^ 10 from Nat.pow_le_pow_right (by decide) b3
  have hlp0 : ∃ L', ux_lp (fun t : Int32 × ux_L => fX12_layForests_2b t.1 N t.2) ux_fu ((0 : Int32), L) = some L' ∧ ((∀ a, a ≠ 13 → L' a = L a) ∧ ∀ k, k < 128 → L' 13 k = 0) := by
    refine lp_inv (fun i s => s.1 = nI i ∧ (∀ a, a ≠ 13 → s.2 a = L a) ∧ ∀ k, k < i → s.2 13 k = 0) _ 128 ?_ (by omega) ?_ ?_
    · exact ⟨rfl, fun a _ => rfl, fun k h => by omega⟩
    · intro i ⟨v, L1⟩ hk ⟨e, g1, g2⟩
      dsimp only at e g1 g2 ⊢
      subst e
      refine Or.inl ⟨(nI (i + 1), ux_w L1 13 i 0), ?_, rfl, fun a ha => (uw_ne L1 _ _ ha).trans (g1 a ha), fun k hk => ?_⟩
      · simp (disch := omega) only [fX12_layForests_2b, li_0, li_1, li_2, li_3, li_4, li_5, li_6, li_7, li_8, li_9, li_10, li_11, li_12, li_13, li_14, li_16, li_18, li_20, li_21, li_24, li_31, li_32, li_40, li_42, li_48, li_57, li_59, li_64, li_97, li_99, li_122, li_128, li_147, li_189, li_200, li_231, li_252, li_255, li_512, li_1023, li_1024, li_8192, li_8208, li_9999, li_50000, li_500000, nI_leI, nI_ltI, nI_eq, pb_in, nI_clamp, nI_add, pk_mul, pk_sub, qb_bit1, qb_bit0, qb_pow, qb_m1, qb_m1', qb_ofn, Option.bind_some, ↓reduceIte, eq_self, if_true, if_false, Sum.elim_inl, Sum.elim_inr]
        rw [if_neg (by omega)]
      · dsimp only
        rw [uw_same]
        by_cases e : k = i
        · rw [if_pos e]
        · rw [if_neg e]; exact g2 k (by omega)
    · intro ⟨v, L1⟩ ⟨e, g1, g2⟩
      dsimp only at e g1 g2 ⊢
      subst e
      refine ⟨L1, ?_, g1, g2⟩
      simp (disch := omega) only [fX12_layForests_2b, li_0, li_1, li_2, li_3, li_4, li_5, li_6, li_7, li_8, li_9, li_10, li_11, li_12, li_13, li_14, li_16, li_18, li_20, li_21, li_24, li_31, li_32, li_40, li_42, li_48, li_57, li_59, li_64, li_97, li_99, li_122, li_128, li_147, li_189, li_200, li_231, li_252, li_255, li_512, li_1023, li_1024, li_8192, li_8208, li_9999, li_50000, li_500000, nI_leI, nI_ltI, nI_eq, pb_in, nI_clamp, nI_add, pk_mul, pk_sub, qb_bit1, qb_bit0, qb_pow, qb_m1, qb_m1', qb_ofn, Option.bind_some, ↓reduceIte, eq_self, if_true, if_false, Sum.elim_inl, Sum.elim_inr]
      simp
  obtain ⟨L0, a0, a1, a2⟩ := hlp0
  have hlp : ∃ e, ux_lp (fun t : Int32 × ux_N × ux_L => fX12_layForests_24b t.1 t.2.1 t.2.2) ux_fu ((0 : Int32), N, L0) = some e ∧ ((∀ a, a ≠ 14 → e.1 a = N a) ∧ (∀ a, a ≠ 13 → e.2 a = L a) ∧ ∀ n, n < 8 → ∀ s, s < 1024 → (fmF e.2 n s = true ↔ ((s < 2 ^ ln ∧ gq_ac lo hi s) ∧ pcn s = n))) := by
    refine lp_inv (fun i t => t.1 = nI i ∧ (∀ a, a ≠ 14 → t.2.1 a = N a) ∧ (∀ a, a ≠ 13 → t.2.2 a = L a) ∧ ∀ n, n < 8 → ∀ s, s < 1024 → (fmF t.2.2 n s = true ↔ ((s < i ∧ gq_ac lo hi s) ∧ pcn s = n))) _ (2 ^ ln) ?_ (by omega) ?_ ?_
    · refine ⟨rfl, fun _ _ => rfl, a1, fun n hn s hs => ?_⟩
      dsimp only
      unfold fmF
      rw [a2 _ (by omega), lb_0]
      constructor
      · intro z; cases z
      · intro ⟨⟨z, _⟩, _⟩; omega
    · intro s ⟨v, N1, L1⟩ hk ⟨e1, g1, g2, g3⟩
      dsimp only at e1 g1 g2 g3 ⊢
      subst e1
      have hp1 := plM_fr hp0 (N' := N1) (fun a ha => g1 a (by omega))
      obtain ⟨N2, q0, q1, q2⟩ := lm_layParts hp1 (s := s) (by omega)
      have w1 : N1 0 2 = nI ln := hp1.2.1
      have w2 : N2 0 1 = nI nd := by rw [q1 0 (by decide)]; exact hp1.1
      have mle : gq_mg lo hi s ln ≤ nd := by
        have := gq_mg_nd (lo := lo) (hi := hi) (s := s) (n := ln) (nd := nd) (fun k hk2 => by have := hl k hk2; exact ⟨by omega, by omega⟩) (by omega)
        omega
      have pl := pcn_le s
      have mle2 : gq_mg lo hi s ln ≤ 10 := by omega
      have hac : (nI (nd - gq_mg lo hi s ln) = nI nd - nI (pcn s)) ↔ gq_ac lo hi s := by
        rw [← pk_sub mle, sub_eqI, nI_eq (by omega) (by omega), ← pcn_ln b3 hk, gq_mg_ac hk]
      by_cases c : gq_ac lo hi s
      · have p7 : pcn s + 1 ≤ nd := by
          have := gq_ac_lt (by omega) hk (fun k hk2 => by have := hl k hk2; exact ⟨by omega, by omega⟩) c (nd := nd)
          rw [pcn_ln b3 hk] at this
          exact this
        refine Or.inl ⟨(nI (s + 1), N2, ux_w L1 13 (16 * pcn s + s / 64) (L1 13 (16 * pcn s + s / 64) ||| ((1 : Int64) <<< ((nI (s % 64)).toInt64 &&& 63)))), ?_, rfl, fun a ha => (q1 a ha).trans (g1 a ha), fun a ha => (uw_ne L1 _ _ ha).trans (g2 a ha), fun n hn t ht => ?_⟩
        · have lf : fX12_ones (nI s) = some (nI (pcn s)) := lm_ones (by omega)
          unfold fX12_layForests_24b
          rw [w1, pb_pow (by omega), if_neg (fun q => by have := (nI_leI (by omega) (by omega)).mp q; omega), lf, Option.bind_some, q0, Option.bind_some]
          dsimp only
          rw [if_pos (show _ = N2 0 1 - nI (pcn s) from by rw [w2]; exact hac.mpr c)]
          have e16 : (16 : Int32) * nI (pcn s) + nI (s / 64) = nI (16 * pcn s + s / 64) := by rw [li_16, pk_mul, nI_add]
          simp (disch := omega) only [fX12_layForests_24b_76, pb_div64, pb_rem64', e16, pb_in, nI_clamp, if_true]
          rw [li_1, nI_add]
        · dsimp only
          unfold fmF
          rw [uw_same]
          by_cases e : 16 * n + t / 64 = 16 * pcn s + s / 64
          · rw [if_pos e, lb_or, lb_pow _ (by omega) (by omega), Bool.or_eq_true, ← e, decide_eq_true_iff]
            have old := g3 n hn t ht
            unfold fmF at old
            rw [old]
            constructor
            · intro z
              rcases z with ⟨⟨z1, z2⟩, z3⟩ | z
              · exact ⟨⟨by omega, z2⟩, z3⟩
              · have : t = s := by omega
                subst this
                exact ⟨⟨by omega, c⟩, by omega⟩
            · intro ⟨⟨z1, z2⟩, z3⟩
              by_cases e2 : t = s
              · exact Or.inr (by rw [e2])
              · exact Or.inl ⟨⟨by omega, z2⟩, z3⟩
          · rw [if_neg e]
            have old := g3 n hn t ht
            unfold fmF at old
            rw [old]
            constructor
            · intro ⟨⟨z1, z2⟩, z3⟩; exact ⟨⟨by omega, z2⟩, z3⟩
            · intro ⟨⟨z1, z2⟩, z3⟩
              refine ⟨⟨?_, z2⟩, z3⟩
              by_cases e2 : t = s
              · subst e2; omega
              · omega
      · refine Or.inl ⟨(nI (s + 1), N2, L1), ?_, rfl, fun a ha => (q1 a ha).trans (g1 a ha), g2, fun n hn t ht => ?_⟩
        · have lf : fX12_ones (nI s) = some (nI (pcn s)) := lm_ones (by omega)
          unfold fX12_layForests_24b
          rw [w1, pb_pow (by omega), if_neg (fun q => by have := (nI_leI (by omega) (by omega)).mp q; omega), lf, Option.bind_some, q0, Option.bind_some]
          dsimp only
          rw [if_neg (fun q => c (hac.mp (by rw [w2] at q; exact q)))]
          simp only [fX12_layForests_24b_76, li_1, nI_add]
        · dsimp only
          rw [g3 n hn t ht]
          constructor
          · intro ⟨⟨z1, z2⟩, z3⟩; exact ⟨⟨by omega, z2⟩, z3⟩
          · intro ⟨⟨z1, z2⟩, z3⟩
            refine ⟨⟨?_, z2⟩, z3⟩
            by_cases e2 : t = s
            · subst e2; exact absurd z2 c
            · omega
    · intro ⟨v, N1, L1⟩ ⟨e1, g1, g2, g3⟩
      dsimp only at e1 g1 g2 g3 ⊢
      subst e1
      have w1 : N1 0 2 = nI ln := by rw [g1 0 (by decide)]; exact h1
      refine ⟨(N1, L1), ?_, g1, g2, g3⟩
      unfold fX12_layForests_24b
      rw [w1, pb_pow (by omega), if_pos (nI_leI (by omega) (by omega) |>.mpr (Nat.le_refl _))]
  obtain ⟨⟨N', L'⟩, q0, q1⟩ := hlp
  refine ⟨N', L', ?_, q1⟩
  unfold fX12_layForests
  rw [a0, Option.bind_some, q0]
  rfl
end MFP
