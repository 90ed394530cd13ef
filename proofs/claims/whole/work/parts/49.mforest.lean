/-! parts and forests as the reference lays them -/
theorem qb_dec {a : Nat} (h : 1 ≤ a) : nI a + -nI 1 = nI (a - 1) := by rw [← Int32.sub_eq_add_neg]; exact pk_sub h
section MFO
variable {N : ux_N} {L : ux_L} {nd ln : Nat} {lo hi : Nat → Nat}
theorem lm_join (hn : N 0 1 = nI nd) (hnd : nd ≤ 8) (v1 v2 v3 a b w : Int32) : ∃ N', ux_lp (fun s : Int32 × ux_N => fX12_layParts_104b v1 v2 v3 a b w s.1 s.2) ux_fu ((0 : Int32), N) = some N' ∧ ((∀ x, x ≠ 14 → N' x = N x) ∧ ∀ k, k < nd → N' 14 k = if N 14 k = a ∨ N 14 k = b then w else N 14 k) := by
  refine lp_inv (fun i s => s.1 = nI i ∧ (∀ x, x ≠ 14 → s.2 x = N x) ∧ (∀ k, k < i → s.2 14 k = if N 14 k = a ∨ N 14 k = b then w else N 14 k) ∧ ∀ k, i ≤ k → s.2 14 k = N 14 k) _ nd ?_ (by omega) ?_ ?_
  · exact ⟨rfl, fun _ _ => rfl, fun k h => by omega, fun _ _ => rfl⟩
  · intro i ⟨v, N1⟩ hk ⟨e, h1, h2, h3⟩
    dsimp only at e h1 h2 h3 ⊢
    subst e
    have w0 : N1 0 1 = nI nd := by rw [h1 0 (by decide)]; exact hn
    refine Or.inl ⟨(nI (i + 1), ux_u N1 14 i (if N 14 i = a ∨ N 14 i = b then w else N 14 i)), ?_, rfl, fun x hx => (uu_ne N1 _ _ hx).trans (h1 x hx), fun k hk => ?_, fun k hk => ?_⟩
    · simp (disch := omega) only [fX12_layParts_104b, fX12_layParts_104b_143, fX12_layParts_104b_155, w0, h3 i (Nat.le_refl i), li_0, li_1, li_2, li_3, li_4, li_5, li_6, li_7, li_8, li_9, li_10, li_11, li_12, li_13, li_14, li_16, li_18, li_20, li_21, li_24, li_31, li_32, li_40, li_42, li_48, li_57, li_59, li_64, li_97, li_99, li_122, li_128, li_147, li_189, li_200, li_231, li_252, li_255, li_512, li_1023, li_1024, li_8192, li_8208, li_9999, li_50000, li_500000, nI_leI, nI_ltI, nI_eq, pb_in, nI_clamp, nI_add, pk_mul, pk_sub, qb_bit1, qb_bit0, qb_pow, qb_m1, qb_m1', qb_ofn, Option.bind_some, ↓reduceIte, eq_self, if_true, if_false, Sum.elim_inl, Sum.elim_inr]
      rw [if_neg (by omega)]
      by_cases q1 : N 14 i = a
      · rw [if_pos q1, if_pos (Or.inl q1)]
      · by_cases q2 : N 14 i = b
        · rw [if_neg q1, if_pos q2, if_pos (Or.inr q2)]
        · rw [if_neg q1, if_neg q2, if_neg (fun q => q.elim q1 q2)]
    · dsimp only
      rw [uu_same]
      by_cases e : k = i
      · rw [if_pos e, e]
      · rw [if_neg e]; exact h2 k (by omega)
    · dsimp only
      rw [uu_same, if_neg (by omega)]; exact h3 k (by omega)
  · intro ⟨v, N1⟩ ⟨e, h1, h2, h3⟩
    dsimp only at e h1 h2 h3 ⊢
    subst e
    have w0 : N1 0 1 = nI nd := by rw [h1 0 (by decide)]; exact hn
    refine ⟨N1, ?_, h1, h2⟩
    simp (disch := omega) only [fX12_layParts_104b, w0, li_0, li_1, li_2, li_3, li_4, li_5, li_6, li_7, li_8, li_9, li_10, li_11, li_12, li_13, li_14, li_16, li_18, li_20, li_21, li_24, li_31, li_32, li_40, li_42, li_48, li_57, li_59, li_64, li_97, li_99, li_122, li_128, li_147, li_189, li_200, li_231, li_252, li_255, li_512, li_1023, li_1024, li_8192, li_8208, li_9999, li_50000, li_500000, nI_leI, nI_ltI, nI_eq, pb_in, nI_clamp, nI_add, pk_mul, pk_sub, qb_bit1, qb_bit0, qb_pow, qb_m1, qb_m1', qb_ofn, Option.bind_some, ↓reduceIte, eq_self, if_true, if_false, Sum.elim_inl, Sum.elim_inr]
    simp
theorem lm_30 (hp : plM N nd ln lo hi) {s i m : Nat} (hs : s < 2 ^ 31) (hk : i < ln) (hb : s.testBit i = true) (ho : N 14 (lo i) ≠ N 14 (hi i)) (hm : 1 ≤ m) : ∃ N' w, fX12_layParts_30b (nI s) (nI m) (nI i) N = some (.inl (nI (m - 1), nI (i + 1), N')) ∧ (w = N 14 (lo i) ∨ w = N 14 (hi i)) ∧ (∀ x, x ≠ 14 → N' x = N x) ∧ ∀ k, k < nd → N' 14 k = if N 14 k = N 14 (lo i) ∨ N 14 k = N 14 (hi i) then w else N 14 k := by
  obtain ⟨h0, h1, ⟨b1, b2, b3⟩, hl⟩ := hp
  obtain ⟨l1, l2, l3, l4⟩ := hl i hk
  by_cases q : N 14 (hi i) ≤ N 14 (lo i)
  · obtain ⟨N1, j0, j1, j2⟩ := lm_join h0 b2 (nI s) (nI m) (nI i) (N 14 (lo i)) (N 14 (hi i)) (N 14 (hi i))
    refine ⟨N1, _, ?_, Or.inr rfl, j1, j2⟩
    rw [li_0] at j0
    simp (disch := omega) only [fX12_layParts_30b, fX12_layParts_30b_99, fX12_layParts_30b_165, h1, l1, l2, pm_has, qb_dec, hb, j0, li_0, li_1, li_2, li_3, li_4, li_5, li_6, li_7, li_8, li_9, li_10, li_11, li_12, li_13, li_14, li_16, li_18, li_20, li_21, li_24, li_31, li_32, li_40, li_42, li_48, li_57, li_59, li_64, li_97, li_99, li_122, li_128, li_147, li_189, li_200, li_231, li_252, li_255, li_512, li_1023, li_1024, li_8192, li_8208, li_9999, li_50000, li_500000, nI_leI, nI_ltI, nI_eq, pb_in, nI_clamp, nI_add, pk_mul, pk_sub, qb_bit1, qb_bit0, qb_pow, qb_m1, qb_m1', qb_ofn, Option.bind_some, ↓reduceIte, eq_self, if_true, if_false, Sum.elim_inl, Sum.elim_inr]
    rw [if_neg (by omega), if_neg (by decide), if_neg ho, if_pos q]
  · obtain ⟨N1, j0, j1, j2⟩ := lm_join h0 b2 (nI s) (nI m) (nI i) (N 14 (lo i)) (N 14 (hi i)) (N 14 (lo i))
    refine ⟨N1, _, ?_, Or.inl rfl, j1, j2⟩
    rw [li_0] at j0
    simp (disch := omega) only [fX12_layParts_30b, fX12_layParts_30b_99, fX12_layParts_30b_165, h1, l1, l2, pm_has, qb_dec, hb, j0, li_0, li_1, li_2, li_3, li_4, li_5, li_6, li_7, li_8, li_9, li_10, li_11, li_12, li_13, li_14, li_16, li_18, li_20, li_21, li_24, li_31, li_32, li_40, li_42, li_48, li_57, li_59, li_64, li_97, li_99, li_122, li_128, li_147, li_189, li_200, li_231, li_252, li_255, li_512, li_1023, li_1024, li_8192, li_8208, li_9999, li_50000, li_500000, nI_leI, nI_ltI, nI_eq, pb_in, nI_clamp, nI_add, pk_mul, pk_sub, qb_bit1, qb_bit0, qb_pow, qb_m1, qb_m1', qb_ofn, Option.bind_some, ↓reduceIte, eq_self, if_true, if_false, Sum.elim_inl, Sum.elim_inr]
    rw [if_neg (by omega), if_neg (by decide), if_neg ho, if_neg q]
theorem plM_fr {N' : ux_N} (hp : plM N nd ln lo hi) (h : ∀ a, a < 3 → N' a = N a) : plM N' nd ln lo hi := by
  obtain ⟨h0, h1, hb, hl⟩ := hp
  exact ⟨by rw [h 0 (by decide)]; exact h0, by rw [h 0 (by decide)]; exact h1, hb, fun k hk => by rw [h 2 (by decide)]; exact hl k hk⟩
theorem lm_layParts (hp : plM N nd ln lo hi) {s : Nat} (hs : s < 2 ^ 31) : ∃ N', fX12_layParts (nI s) N = some (nI (nd - gq_mg lo hi s ln), N') ∧ (∀ a, a ≠ 14 → N' a = N a) ∧ ∀ x y, x < nd → y < nd → (N' 14 x = N' 14 y ↔ gq_cn lo hi (fun l => s.testBit l = true ∧ l < ln) x y) := by
  have hp0 := hp
  obtain ⟨h0, h1, ⟨b1, b2, b3⟩, hl⟩ := hp
  have hlp0 : ∃ N', ux_lp (fun t : Int32 × ux_N => fX12_layParts_2b (nI s) t.1 t.2) ux_fu ((0 : Int32), N) = some N' ∧ ((∀ a, a ≠ 14 → N' a = N a) ∧ ∀ k, k < nd → N' 14 k = nI k) := by
    refine lp_inv (fun i s => s.1 = nI i ∧ (∀ a, a ≠ 14 → s.2 a = N a) ∧ ∀ k, k < i → s.2 14 k = nI k) _ nd ?_ (by omega) ?_ ?_
    · exact ⟨rfl, fun a _ => rfl, fun k h => by omega⟩
    · intro i ⟨v, N1⟩ hk ⟨e, g1, g2⟩
      dsimp only at e g1 g2 ⊢
      subst e
      have w0 : N1 0 1 = nI nd := by rw [g1 0 (by decide)]; exact h0
      refine Or.inl ⟨(nI (i + 1), ux_u N1 14 i (nI i)), ?_, rfl, fun a ha => (uu_ne N1 _ _ ha).trans (g1 a ha), fun k hk => ?_⟩
      · simp (disch := omega) only [fX12_layParts_2b, w0, li_0, li_1, li_2, li_3, li_4, li_5, li_6, li_7, li_8, li_9, li_10, li_11, li_12, li_13, li_14, li_16, li_18, li_20, li_21, li_24, li_31, li_32, li_40, li_42, li_48, li_57, li_59, li_64, li_97, li_99, li_122, li_128, li_147, li_189, li_200, li_231, li_252, li_255, li_512, li_1023, li_1024, li_8192, li_8208, li_9999, li_50000, li_500000, nI_leI, nI_ltI, nI_eq, pb_in, nI_clamp, nI_add, pk_mul, pk_sub, qb_bit1, qb_bit0, qb_pow, qb_m1, qb_m1', qb_ofn, Option.bind_some, ↓reduceIte, eq_self, if_true, if_false, Sum.elim_inl, Sum.elim_inr]
        rw [if_neg (by omega)]
      · dsimp only
        rw [uu_same]
        by_cases e : k = i
        · rw [if_pos e, e]
        · rw [if_neg e]; exact g2 k (by omega)
    · intro ⟨v, N1⟩ ⟨e, g1, g2⟩
      dsimp only at e g1 g2 ⊢
      subst e
      have w0 : N1 0 1 = nI nd := by rw [g1 0 (by decide)]; exact h0
      refine ⟨N1, ?_, g1, g2⟩
      simp (disch := omega) only [fX12_layParts_2b, w0, li_0, li_1, li_2, li_3, li_4, li_5, li_6, li_7, li_8, li_9, li_10, li_11, li_12, li_13, li_14, li_16, li_18, li_20, li_21, li_24, li_31, li_32, li_40, li_42, li_48, li_57, li_59, li_64, li_97, li_99, li_122, li_128, li_147, li_189, li_200, li_231, li_252, li_255, li_512, li_1023, li_1024, li_8192, li_8208, li_9999, li_50000, li_500000, nI_leI, nI_ltI, nI_eq, pb_in, nI_clamp, nI_add, pk_mul, pk_sub, qb_bit1, qb_bit0, qb_pow, qb_m1, qb_m1', qb_ofn, Option.bind_some, ↓reduceIte, eq_self, if_true, if_false, Sum.elim_inl, Sum.elim_inr]
      simp
  obtain ⟨N0, a0, a1, a2⟩ := hlp0
  have nb : ∀ i, i ≤ ln → gq_mg lo hi s i + 1 ≤ nd := fun i hk => gq_mg_nd (fun k hk2 => by have := hl k (by omega); exact ⟨by omega, by omega⟩) (by omega)
  have hlp : ∃ e, ux_lp (fun t : Int32 × Int32 × ux_N => fX12_layParts_30b (nI s) t.1 t.2.1 t.2.2) ux_fu (N0 0 1, (0 : Int32), N0) = some e ∧ (e.1 = nI (nd - gq_mg lo hi s ln) ∧ (∀ a, a ≠ 14 → e.2 a = N a) ∧ ∀ x y, x < nd → y < nd → (e.2 14 x = e.2 14 y ↔ gq_cn lo hi (fun l => s.testBit l = true ∧ l < ln) x y)) := by
    refine lp_inv (fun i t => t.1 = nI (nd - gq_mg lo hi s i) ∧ t.2.1 = nI i ∧ (∀ a, a ≠ 14 → t.2.2 a = N a) ∧ ∀ x y, x < nd → y < nd → (t.2.2 14 x = t.2.2 14 y ↔ gq_cn lo hi (fun l => s.testBit l = true ∧ l < i) x y)) _ ln ?_ (by omega) ?_ ?_
    · refine ⟨by dsimp only; rw [a1 0 (by decide), h0]; rfl, rfl, a1, fun x y hx hy => ?_⟩
      dsimp only
      rw [a2 x hx, a2 y hy, gq_none (fun l h => by omega)]
      exact nI_eq (by omega) (by omega)
    · intro i ⟨v2, v3, N1⟩ hk ⟨e1, e2, g1, g2⟩
      dsimp only at e1 e2 g1 g2 ⊢
      subst e1; subst e2
      obtain ⟨l1, l2, l3, l4⟩ := hl i hk
      have hp1 := plM_fr hp0 (N' := N1) (fun a ha => g1 a (by omega))
      obtain ⟨k0, k1, _, kl⟩ := hp1
      obtain ⟨m1, m2, _, _⟩ := kl i hk
      have nbi := nb i (by omega)
      have nbs := nb (i + 1) hk
      by_cases hb : s.testBit i = true
      · by_cases ho : N1 14 (lo i) = N1 14 (hi i)
        · refine Or.inl ⟨(nI (nd - gq_mg lo hi s (i + 1)), nI (i + 1), N1), ?_, rfl, rfl, g1, fun x y hx hy => ?_⟩
          · have hmm : gq_mg lo hi s (i + 1) = gq_mg lo hi s i := by
              rw [gq_mg_s, if_neg (by rw [hb, gq_dc_f.mpr (fun q => q ((g2 _ _ (by omega) (by omega)).mp ho))]; decide)]; rfl
            simp (disch := omega) only [fX12_layParts_30b, fX12_layParts_30b_165, k1, m1, m2, pm_has, hb, li_0, li_1, li_2, li_3, li_4, li_5, li_6, li_7, li_8, li_9, li_10, li_11, li_12, li_13, li_14, li_16, li_18, li_20, li_21, li_24, li_31, li_32, li_40, li_42, li_48, li_57, li_59, li_64, li_97, li_99, li_122, li_128, li_147, li_189, li_200, li_231, li_252, li_255, li_512, li_1023, li_1024, li_8192, li_8208, li_9999, li_50000, li_500000, nI_leI, nI_ltI, nI_eq, pb_in, nI_clamp, nI_add, pk_mul, pk_sub, qb_bit1, qb_bit0, qb_pow, qb_m1, qb_m1', qb_ofn, Option.bind_some, ↓reduceIte, eq_self, if_true, if_false, Sum.elim_inl, Sum.elim_inr]
            rw [if_neg (by omega), if_neg (by decide), if_pos ho, hmm]
          · dsimp only
            rw [g2 x y hx hy, gq_iff (gq_upto hb), gq_old ((g2 _ _ (by omega) (by omega)).mp ho)]
        · obtain ⟨N2, w, j0, jw, j1, j2⟩ := lm_30 (plM_fr hp0 (N' := N1) (fun a ha => g1 a (by omega))) (m := nd - gq_mg lo hi s i) hs hk hb ho (by omega)
          have hmm : gq_mg lo hi s (i + 1) = gq_mg lo hi s i + 1 := by
            rw [gq_mg_s, if_pos (by rw [hb, gq_dc_t.mpr (fun q => ho ((g2 _ _ (by omega) (by omega)).mpr q))]; rfl)]
          refine Or.inl ⟨_, j0, by dsimp only; rw [hmm, Nat.sub_sub], rfl, fun a ha => (j1 a ha).trans (g1 a ha), fun x y hx hy => ?_⟩
          dsimp only
          rw [gq_iff (gq_upto hb), j2 x hx, j2 y hy]
          exact lab_join (n := nd) (f := N1 14) g2 (by omega) (by omega) jw hx hy
      · refine Or.inl ⟨(nI (nd - gq_mg lo hi s (i + 1)), nI (i + 1), N1), ?_, rfl, rfl, g1, fun x y hx hy => ?_⟩
        · have hmm : gq_mg lo hi s (i + 1) = gq_mg lo hi s i := by
            rw [gq_mg_s, if_neg (by simp [hb])]; rfl
          simp (disch := omega) only [fX12_layParts_30b, fX12_layParts_30b_165, k1, m1, m2, pm_has, li_0, li_1, li_2, li_3, li_4, li_5, li_6, li_7, li_8, li_9, li_10, li_11, li_12, li_13, li_14, li_16, li_18, li_20, li_21, li_24, li_31, li_32, li_40, li_42, li_48, li_57, li_59, li_64, li_97, li_99, li_122, li_128, li_147, li_189, li_200, li_231, li_252, li_255, li_512, li_1023, li_1024, li_8192, li_8208, li_9999, li_50000, li_500000, nI_leI, nI_ltI, nI_eq, pb_in, nI_clamp, nI_add, pk_mul, pk_sub, qb_bit1, qb_bit0, qb_pow, qb_m1, qb_m1', qb_ofn, Option.bind_some, ↓reduceIte, eq_self, if_true, if_false, Sum.elim_inl, Sum.elim_inr]
          rw [if_neg (by omega), if_neg hb, if_pos (show nI 0 = nI 0 from rfl), hmm]
        · dsimp only
          rw [g2 x y hx hy, gq_iff (gq_upto0 hb)]
    · intro ⟨v2, v3, N1⟩ ⟨e1, e2, g1, g2⟩
      dsimp only at e1 e2 g1 g2 ⊢
      subst e1; subst e2
      have w1 : N1 0 2 = nI ln := by rw [g1 0 (by decide)]; exact h1
      refine ⟨(nI (nd - gq_mg lo hi s ln), N1), ?_, rfl, g1, g2⟩
      simp (disch := omega) only [fX12_layParts_30b, w1, li_0, li_1, li_2, li_3, li_4, li_5, li_6, li_7, li_8, li_9, li_10, li_11, li_12, li_13, li_14, li_16, li_18, li_20, li_21, li_24, li_31, li_32, li_40, li_42, li_48, li_57, li_59, li_64, li_97, li_99, li_122, li_128, li_147, li_189, li_200, li_231, li_252, li_255, li_512, li_1023, li_1024, li_8192, li_8208, li_9999, li_50000, li_500000, nI_leI, nI_ltI, nI_eq, pb_in, nI_clamp, nI_add, pk_mul, pk_sub, qb_bit1, qb_bit0, qb_pow, qb_m1, qb_m1', qb_ofn, Option.bind_some, ↓reduceIte, eq_self, if_true, if_false, Sum.elim_inl, Sum.elim_inr]
      simp
  obtain ⟨⟨r, N'⟩, q0, q1, q2, q3⟩ := hlp
  dsimp only at q1 q2 q3
  refine ⟨N', ?_, q2, q3⟩
  unfold fX12_layParts
  rw [a0, Option.bind_some, q0, q1]
  rfl
theorem lm_ones {s : Nat} (hs : s < 2 ^ 31) : fX12_ones (nI s) = some (nI (pcn s)) := by
  have hlp : ux_lp (fun t : Int32 × Int32 => fX12_ones_4b (nI s) t.1 t.2) ux_fu ((0 : Int32), (0 : Int32)) = some (nI (pcn s)) := by
    refine lp_at (fun i => (nI (fb_ct s.testBit i), nI i)) 10 rfl (by decide) ?_ ?_
    · intro i hk
      simp (disch := omega) only [fX12_ones_4b, qb_bit, li_0, li_1, li_2, li_3, li_4, li_5, li_6, li_7, li_8, li_9, li_10, li_11, li_12, li_13, li_14, li_16, li_18, li_20, li_21, li_24, li_31, li_32, li_40, li_42, li_48, li_57, li_59, li_64, li_97, li_99, li_122, li_128, li_147, li_189, li_200, li_231, li_252, li_255, li_512, li_1023, li_1024, li_8192, li_8208, li_9999, li_50000, li_500000, nI_leI, nI_ltI, nI_eq, pb_in, nI_clamp, nI_add, pk_mul, pk_sub, qb_bit1, qb_bit0, qb_pow, qb_m1, qb_m1', qb_ofn, Option.bind_some, ↓reduceIte, eq_self, if_true, if_false, Sum.elim_inl, Sum.elim_inr]
      rw [if_neg (by omega)]
      have e : fb_ct s.testBit (i + 1) = fb_ct s.testBit i + if s.testBit i = true then 1 else 0 := rfl
      rw [e]
      by_cases q : s.testBit i = true
      · rw [if_pos q, if_pos q, nI_add]
      · rw [if_neg q, if_neg q, nI_add]
    · simp (disch := omega) only [fX12_ones_4b, li_0, li_1, li_2, li_3, li_4, li_5, li_6, li_7, li_8, li_9, li_10, li_11, li_12, li_13, li_14, li_16, li_18, li_20, li_21, li_24, li_31, li_32, li_40, li_42, li_48, li_57, li_59, li_64, li_97, li_99, li_122, li_128, li_147, li_189, li_200, li_231, li_252, li_255, li_512, li_1023, li_1024, li_8192, li_8208, li_9999, li_50000, li_500000, nI_leI, nI_ltI, nI_eq, pb_in, nI_clamp, nI_add, pk_mul, pk_sub, qb_bit1, qb_bit0, qb_pow, qb_m1, qb_m1', qb_ofn, Option.bind_some, ↓reduceIte, eq_self, if_true, if_false, Sum.elim_inl, Sum.elim_inr]
      rfl
  unfold fX12_ones
  rw [hlp]; rfl
end MFO
