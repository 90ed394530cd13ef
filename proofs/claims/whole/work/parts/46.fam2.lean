section FAN
variable {L : ux_L} {c cf : Nat}
/-- joinMeter -/
theorem fc_join (h1 : cf + 1 ≠ c + 1) (h2 : cf + 1 ≠ c + 2) {rc : Nat} (hr : rc < 2 ^ 31) : ∃ L', fX0_joinMeter c cf (nI rc) L = some L' ∧ (∀ a, a ≠ c + 1 → a ≠ c + 2 → L' a = L a) ∧ ∀ s, s < 1024 → fm (L' (c + 1)) s = (fm (L (c + 1)) s || ((List.range 10).any (fun l => rc.testBit l && s.testBit l && fm (L (c + 1)) (s ^^^ 2 ^ l)) && fm (L (cf + 1)) s)) := by
  have n1 : c + 1 ≠ c + 2 := by omega
  have hlp : ∃ L', ux_lp (fun s : Int32 × ux_L => fX0_joinMeter_17b c cf (nI rc) s.1 s.2) ux_fu ((0 : Int32), (ux_cpL L (c + 1) (c + 2) 0 0 16)) = some L' ∧ ((∀ a, a ≠ c + 1 → a ≠ c + 2 → L' a = L a) ∧ ∀ s, s < 1024 → fm (L' (c + 1)) s = (fm (L (c + 1)) s || ((List.range 10).any (fun l => rc.testBit l && s.testBit l && fm (L (c + 1)) (s ^^^ 2 ^ l)) && fm (L (cf + 1)) s))) := by
    refine lp_inv (fun i s => s.1 = nI i ∧ (∀ a, a ≠ c + 1 → a ≠ c + 2 → s.2 a = L a) ∧ (∀ k, k < 16 → s.2 (c + 2) k = L (c + 1) k) ∧ ∀ t, t < 1024 → fm (s.2 (c + 1)) t = (fm (L (c + 1)) t || ((List.range i).any (fun l => rc.testBit l && t.testBit l && fm (L (c + 1)) (t ^^^ 2 ^ l)) && fm (L (cf + 1)) t))) _ 10 ?_ (by decide) ?_ ?_
    · refine ⟨rfl, fun a _ ha => ?_, fun k hk => ?_, fun t ht => ?_⟩
      · dsimp only; unfold ux_cpL; rw [if_neg ha]
      · dsimp only; unfold ux_cpL; rw [if_pos rfl, pk_cpy_in (by omega) (by omega)]; congr 1; omega
      · dsimp only; unfold ux_cpL; rw [if_neg n1]; simp
    · intro i ⟨v, L1⟩ hi ⟨e, g1, g2, g3⟩
      dsimp only at e g1 g2 g3 ⊢
      subst e
      by_cases hb : rc.testBit i = true
      · obtain ⟨L2, j1, j2, j3⟩ := fc_joinLine (L := L1) (c := c) (cf := cf) (by omega) hi
        refine Or.inl ⟨(nI (i + 1), L2), ?_, rfl, fun a a1 a2 => (j2 a a1).trans (g1 a a1 a2), fun k hk => ?_, fun t ht => ?_⟩
        · simp (disch := first | omega | assumption) only [fX0_joinMeter_17b, fX0_joinMeter_17b_38, j1, hb, li_0, li_1, li_2, li_3, li_4, li_5, li_6, li_7, li_8, li_9, li_10, li_11, li_12, li_13, li_14, li_16, li_18, li_20, li_21, li_24, li_31, li_32, li_40, li_42, li_48, li_57, li_59, li_64, li_97, li_99, li_122, li_128, li_147, li_189, li_200, li_231, li_252, li_255, li_512, li_1023, li_1024, li_8192, li_8208, li_9999, li_50000, li_500000, nI_leI, nI_ltI, nI_eq, pb_in, nI_clamp, nI_add, pk_mul, pk_sub, qb_bit1, qb_bit0, qb_pow, qb_m1, qb_m1', qb_ofn, Option.bind_some, ↓reduceIte, eq_self, if_true, if_false, Sum.elim_inl, Sum.elim_inr]
          rw [if_neg (by omega)]
        · dsimp only; rw [j2 (c + 2) (by omega)]; exact g2 k hk
        · dsimp only
          have e1 : fm (L1 (cf + 1)) t = fm (L (cf + 1)) t := by rw [g1 _ h1 h2]
          rw [j3 t ht, g3 t ht, e1, List.range_succ, List.any_append]
          by_cases hb2 : t.testBit i = true
          · have e2 : fm (L1 (c + 2)) (t ^^^ 2 ^ i) = fm (L (c + 1)) (t ^^^ 2 ^ i) := by
              have := ((xr_s t ht i hi).2 hb2).1
              unfold fm
              rw [g2 _ (by omega)]
            rw [e2]
            simp only [List.any_cons, List.any_nil, Bool.or_false, hb, hb2, Bool.true_and]
            cases fm (L (c + 1)) t <;> cases fm (L (cf + 1)) t <;> simp
          · have hb3 : t.testBit i = false := by simpa using hb2
            simp [hb3]
      · refine Or.inl ⟨(nI (i + 1), L1), ?_, rfl, g1, g2, fun t ht => ?_⟩
        · simp (disch := first | omega | assumption) only [fX0_joinMeter_17b, fX0_joinMeter_17b_38, li_0, li_1, li_2, li_3, li_4, li_5, li_6, li_7, li_8, li_9, li_10, li_11, li_12, li_13, li_14, li_16, li_18, li_20, li_21, li_24, li_31, li_32, li_40, li_42, li_48, li_57, li_59, li_64, li_97, li_99, li_122, li_128, li_147, li_189, li_200, li_231, li_252, li_255, li_512, li_1023, li_1024, li_8192, li_8208, li_9999, li_50000, li_500000, nI_leI, nI_ltI, nI_eq, pb_in, nI_clamp, nI_add, pk_mul, pk_sub, qb_bit1, qb_bit0, qb_pow, qb_m1, qb_m1', qb_ofn, Option.bind_some, ↓reduceIte, eq_self, if_true, if_false, Sum.elim_inl, Sum.elim_inr]
          rw [if_neg (by omega), if_neg hb]
        · dsimp only
          rw [g3 t ht, List.range_succ, List.any_append]
          simp [hb]
    · intro ⟨v, L1⟩ ⟨e, g1, g2, g3⟩
      dsimp only at e g1 g2 g3 ⊢
      subst e
      refine ⟨L1, ?_, g1, g3⟩
      simp (disch := omega) only [fX0_joinMeter_17b, li_0, li_1, li_2, li_3, li_4, li_5, li_6, li_7, li_8, li_9, li_10, li_11, li_12, li_13, li_14, li_16, li_18, li_20, li_21, li_24, li_31, li_32, li_40, li_42, li_48, li_57, li_59, li_64, li_97, li_99, li_122, li_128, li_147, li_189, li_200, li_231, li_252, li_255, li_512, li_1023, li_1024, li_8192, li_8208, li_9999, li_50000, li_500000, nI_leI, nI_ltI, nI_eq, pb_in, nI_clamp, nI_add, pk_mul, pk_sub, qb_bit1, qb_bit0, qb_pow, qb_m1, qb_m1', qb_ofn, Option.bind_some, ↓reduceIte, eq_self, if_true, if_false, Sum.elim_inl, Sum.elim_inr]
      simp
  obtain ⟨L', e, q⟩ := hlp
  refine ⟨L', ?_, q⟩
  unfold fX0_joinMeter
  rw [e]
  rfl
theorem sz_tb : ∀ k, k < 7 → ∀ j, j < 64 → lb (tb_sized.getD k 0) j = decide (pcn j = k) := by decide +kernel
theorem pcn_sp : ∀ s, s < 1024 → pcn s = pcn (s / 64) + pcn (s % 64) := by decide +kernel
theorem pcn_6 : ∀ j, j < 64 → pcn j ≤ 6 := by decide +kernel
theorem pcn_4 : ∀ j, j < 16 → pcn j ≤ 4 := by decide +kernel
theorem sz_ne {x : Int64} {k : Nat} (hk : k < 7) : (lg_cmp (x &&& tb_sized.getD k 0) 0 = 0) ↔ ∀ j, j < 64 → lb x j = true → pcn j ≠ k := by
  rw [lb_eq0]
  constructor
  · intro h j hj hx e
    have := h j hj
    rw [lb_and, hx, sz_tb k hk j hj] at this
    simp [e] at this
  · intro h j hj
    rw [lb_and, sz_tb k hk j hj]
    cases hx : lb x j with
    | false => rfl
    | true => simp [h j hj hx]
/-- mostLines -/
theorem fc_most (L : ux_L) (c : Nat) : ∃ m, fX0_mostLines c L = some (nI m) ∧ m ≤ 10 ∧ (∀ s, s < 1024 → fm (L (c + 1)) s = true → pcn s ≤ m) ∧ (m = 0 ∨ ∃ s, s < 1024 ∧ fm (L (c + 1)) s = true ∧ pcn s = m) := by
  have inner : ∀ r m0, r < 16 → m0 ≤ 10 → ∃ e, ux_lp (fun s : Int32 × Int32 => fX0_mostLines_19b c s.1 (nI r) (nI (pcn r)) s.2 L) ux_fu (nI m0, (6 : Int32)) = some e ∧ ∃ m, e = nI m ∧ m ≤ 10 ∧ m0 ≤ m ∧ (∀ j, j < 64 → lb (L (c + 1) r) j = true → pcn r + pcn j ≤ m) ∧ (m = m0 ∨ ∃ j, j < 64 ∧ lb (L (c + 1) r) j = true ∧ pcn r + pcn j = m) := by
    intro r m0 hr hm0
    have hp4 := pcn_4 r hr
    refine lp_inv (fun i s => s.2 = (if i ≤ 6 then nI (6 - i) else -1) ∧ ∃ m, s.1 = nI m ∧ m ≤ 10 ∧ m0 ≤ m ∧ (∀ j, j < 64 → lb (L (c + 1) r) j = true → 7 ≤ pcn j + i → pcn r + pcn j ≤ m) ∧ (m = m0 ∨ ∃ j, j < 64 ∧ lb (L (c + 1) r) j = true ∧ pcn r + pcn j = m)) _ 7 ?_ (by decide) ?_ ?_
    · exact ⟨rfl, m0, rfl, hm0, Nat.le_refl _, fun j hj _ h => by have := pcn_6 j hj; omega, Or.inl rfl⟩
    · intro i ⟨v1, v4⟩ hi ⟨e, m, e1, h1, h2, h3, h4⟩
      dsimp only at e e1 ⊢
      rw [if_pos (by omega)] at e
      subst e; subst e1
      have hk : 6 - i < 7 := by omega
      have hnext : nI (6 - i) + (-1 : Int32) = (if i + 1 ≤ 6 then nI (6 - (i + 1)) else -1) := by
        by_cases h6 : i + 1 ≤ 6
        · rw [if_pos h6, show 6 - i = (6 - (i + 1)) + 1 from by omega]; exact pk_m1 _
        · rw [if_neg h6, show 6 - i = 0 from by omega]; rfl
      unfold fX0_mostLines_19b fX0_mostLines_19b_55
      rw [if_neg (nI_pos (by omega)), nI_add]
      by_cases hle : pcn r + (6 - i) ≤ m
      · refine Or.inr ⟨nI m, ?_, m, rfl, h1, h2, fun j hj hb => ?_, h4⟩
        · rw [if_pos (nI_le hle (by omega))]
        · by_cases q : 7 ≤ pcn j + i
          · exact h3 j hj hb q
          · omega
      · rw [if_neg (nI_ge (by omega) (by omega)), pb_in hr (by decide), if_pos rfl, pb_in hk (by decide), if_pos rfl, nI_clamp (by omega), nI_clamp (by omega), hnext]
        by_cases hz : lg_cmp (L (c + 1) r &&& tb_sized.getD (6 - i) 0) 0 = 0
        · refine Or.inl ⟨_, if_pos hz, rfl, m, rfl, h1, h2, fun j hj hb q => ?_, h4⟩
          have := (sz_ne hk).mp hz j hj hb
          exact h3 j hj hb (by omega)
        · have hz2 := hz
          rw [sz_ne hk] at hz2
          have : ∃ j, j < 64 ∧ lb (L (c + 1) r) j = true ∧ pcn j = 6 - i := by
            apply Classical.byContradiction
            intro q
            exact hz2 (fun j hj hb e => q ⟨j, hj, hb, e⟩)
          obtain ⟨j0, hj0, hb0, e0⟩ := this
          refine Or.inl ⟨_, if_neg hz, rfl, pcn r + (6 - i), rfl, by omega, by omega, fun j hj hb q => ?_, Or.inr ⟨j0, hj0, hb0, by omega⟩⟩
          by_cases q2 : 7 ≤ pcn j + i
          · have := h3 j hj hb q2; omega
          · omega
    · intro ⟨v1, v4⟩ ⟨e, m, e1, h1, h2, h3, h4⟩
      dsimp only at e e1 ⊢
      rw [if_neg (by omega)] at e
      subst e; subst e1
      refine ⟨nI m, ?_, m, rfl, h1, h2, fun j hj hb => h3 j hj hb (by omega), h4⟩
      unfold fX0_mostLines_19b
      rw [if_pos (by decide)]
  have outer : ∃ e, ux_lp (fun s : Int32 × Int32 => fX0_mostLines_4b c s.1 s.2 L) ux_fu ((0 : Int32), (0 : Int32)) = some e ∧ ∃ m, e = nI m ∧ m ≤ 10 ∧ (∀ s, s < 1024 → fm (L (c + 1)) s = true → pcn s ≤ m) ∧ (m = 0 ∨ ∃ s, s < 1024 ∧ fm (L (c + 1)) s = true ∧ pcn s = m) := by
    refine lp_inv (fun i s => s.2 = nI i ∧ ∃ m, s.1 = nI m ∧ m ≤ 10 ∧ (∀ s, s < 64 * i → fm (L (c + 1)) s = true → pcn s ≤ m) ∧ (m = 0 ∨ ∃ s, s < 64 * i ∧ fm (L (c + 1)) s = true ∧ pcn s = m)) _ 16 ?_ (by decide) ?_ ?_
    · exact ⟨rfl, 0, rfl, by omega, fun s h => by omega, Or.inl rfl⟩
    · intro i ⟨v1, v2⟩ hi ⟨e, m, e1, h1, h2, h3⟩
      dsimp only at e e1 ⊢
      subst e; subst e1
      obtain ⟨e, g0, m', rfl, g1, g2, g3, g4⟩ := inner i m hi h1
      refine Or.inl ⟨(nI m', nI (i + 1)), ?_, rfl, m', rfl, g1, fun s hs hb => ?_, ?_⟩
      · simp (disch := omega) only [fX0_mostLines_4b, fX0_mostLines_4b_61, pb_bitCount i (show i < 1024 by omega), li_0, li_1, li_2, li_3, li_4, li_5, li_6, li_7, li_8, li_9, li_10, li_11, li_12, li_13, li_14, li_16, li_18, li_20, li_21, li_24, li_31, li_32, li_40, li_42, li_48, li_57, li_59, li_64, li_97, li_99, li_122, li_128, li_147, li_189, li_200, li_231, li_252, li_255, li_512, li_1023, li_1024, li_8192, li_8208, li_9999, li_50000, li_500000, nI_leI, nI_ltI, nI_eq, pb_in, nI_clamp, nI_add, pk_mul, pk_sub, qb_bit1, qb_bit0, qb_pow, qb_m1, qb_m1', qb_ofn, Option.bind_some, ↓reduceIte, eq_self, if_true, if_false, Sum.elim_inl, Sum.elim_inr]
        rw [if_neg (by omega), show nI 6 = (6 : Int32) from rfl, g0]
        rfl
      · by_cases q : s < 64 * i
        · have := h2 s q hb; omega
        · have e : s / 64 = i := by omega
          rw [pcn_sp s (by omega), e]
          refine g3 (s % 64) (by omega) ?_
          rw [← e]; exact hb
      · rcases g4 with g4 | ⟨j, j1, j2, j3⟩
        · rcases h3 with h3 | ⟨s, s1, s2, s3⟩
          · exact Or.inl (by omega)
          · exact Or.inr ⟨s, by omega, s2, by omega⟩
        · refine Or.inr ⟨64 * i + j, by omega, by rw [fm_at _ j1]; exact j2, ?_⟩
          rw [pcn_sp _ (by omega), show (64 * i + j) / 64 = i from by omega, show (64 * i + j) % 64 = j from by omega]
          exact j3
    · intro ⟨v1, v2⟩ ⟨e, m, e1, h1, h2, h3⟩
      dsimp only at e e1 ⊢
      subst e; subst e1
      refine ⟨nI m, ?_, m, rfl, h1, h2, h3⟩
      simp (disch := omega) only [fX0_mostLines_4b, li_0, li_1, li_2, li_3, li_4, li_5, li_6, li_7, li_8, li_9, li_10, li_11, li_12, li_13, li_14, li_16, li_18, li_20, li_21, li_24, li_31, li_32, li_40, li_42, li_48, li_57, li_59, li_64, li_97, li_99, li_122, li_128, li_147, li_189, li_200, li_231, li_252, li_255, li_512, li_1023, li_1024, li_8192, li_8208, li_9999, li_50000, li_500000, nI_leI, nI_ltI, nI_eq, pb_in, nI_clamp, nI_add, pk_mul, pk_sub, qb_bit1, qb_bit0, qb_pow, qb_m1, qb_m1', qb_ofn, Option.bind_some, ↓reduceIte, eq_self, if_true, if_false, Sum.elim_inl, Sum.elim_inr]
      simp
  obtain ⟨e, h0, m, rfl, h1, h2, h3⟩ := outer
  refine ⟨m, ?_, h1, h2, h3⟩
  unfold fX0_mostLines
  rw [h0]
  rfl
theorem low64 : ∀ q, q < 64 → fJ13_bitCount_95d88 (((1 : Int64) <<< ((nI q).toInt64 &&& 63)) - 1) = some (nI q) := by decide +kernel
theorem lb_low {x : Int64} {q : Nat} (hq : q < 64) (h1 : lb x q = true) (h2 : ∀ j, j < q → lb x j = false) : x &&& (-x) = (1 : Int64) <<< ((nI q).toInt64 &&& 63) := by
  apply lb_ext
  intro i hi
  rw [lb_pow q hq hi, lb_and]
  have e : lb (-x) i = (lb x i ^^ (decide (i < 64) && decide (∃ j, j < i ∧ lb x j = true))) := by
    unfold lb
    rw [Int64.toBitVec_neg, BitVec.getLsbD_neg]
  rw [e]
  by_cases a : i = q
  · subst a
    have : ¬ ∃ j, j < i ∧ lb x j = true := fun ⟨j, j1, j2⟩ => by rw [h2 j j1] at j2; cases j2
    simp [h1, this]
  · by_cases b : i < q
    · simp [h2 i b, a]
    · have : ∃ j, j < i ∧ lb x j = true := ⟨q, by omega, h1⟩
      cases lb x i <;> simp [this, hi, a]
/-- leastSet -/
theorem fc_least (L : ux_L) (c : Nat) {k : Nat} (hk : k ≤ 10) : ∃ t, fX0_leastSet c (nI k) L = some (nI t) ∧ ((t < 1024 ∧ fm (L (c + 1)) t = true ∧ pcn t = k ∧ ∀ s, s < t → fm (L (c + 1)) s = true → pcn s ≠ k) ∨ (t = 0 ∧ ∀ s, s < 1024 → fm (L (c + 1)) s = true → pcn s ≠ k)) := by
  have hlp : ∃ e, ux_lp (fun s : Int32 => fX0_leastSet_2b c (nI k) s L) ux_fu (0 : Int32) = some e ∧ ((∃ r, e = .inl (nI r, nI (k - pcn r)) ∧ r < 16 ∧ pcn r ≤ k ∧ k - pcn r < 7 ∧ (∀ s, s < 64 * r → fm (L (c + 1)) s = true → pcn s ≠ k) ∧ ∃ j, j < 64 ∧ lb (L (c + 1) r) j = true ∧ pcn j = k - pcn r) ∨ (e = .inr () ∧ ∀ s, s < 1024 → fm (L (c + 1)) s = true → pcn s ≠ k)) := by
    refine lp_inv (fun i v => v = nI i ∧ ∀ s, s < 64 * i → fm (L (c + 1)) s = true → pcn s ≠ k) _ 16 ?_ (by decide) ?_ ?_
    · exact ⟨rfl, fun s h => by omega⟩
    · intro i v hi ⟨e, h⟩
      subst e
      have hp4 := pcn_4 i hi
      have row : ∀ s, s < 64 * (i + 1) → ¬ s < 64 * i → fm (L (c + 1)) s = true → lb (L (c + 1) i) (s % 64) = true ∧ pcn s = pcn i + pcn (s % 64) := by
        intro s s1 s2 hb
        have e : s / 64 = i := by omega
        exact ⟨by rw [← e]; exact hb, by rw [pcn_sp s (by omega), e]⟩
      unfold fX0_leastSet_2b fX0_leastSet_2b_73
      rw [if_neg (show ¬ (16 : Int32) ≤ nI i from nI_ge (b := 16) hi (by decide)), pb_bitCount i (by omega), Option.bind_some]
      by_cases q1 : k < pcn i
      · refine Or.inl ⟨nI (i + 1), ?_, rfl, fun s hs hb => ?_⟩
        · rw [if_pos (pk_sneg (by omega) q1), show nI i + 1 = nI (i + 1) from nI_1 i]
        · by_cases z : s < 64 * i
          · exact h s z hb
          · have := row s hs z hb; omega
      · rw [pk_sub (by omega), if_neg (nI_pos (by omega))]
        by_cases q2 : 6 < k - pcn i
        · refine Or.inl ⟨nI (i + 1), ?_, rfl, fun s hs hb => ?_⟩
          · rw [if_pos (show (6 : Int32) < nI (k - pcn i) from nI_lt (a := 6) q2 (by omega)), show nI i + 1 = nI (i + 1) from nI_1 i]
          · by_cases z : s < 64 * i
            · exact h s z hb
            · have := row s hs z hb
              have := pcn_6 (s % 64) (by omega)
              omega
        · rw [if_neg (show ¬ (6 : Int32) < nI (k - pcn i) from nI_nlt (a := 6) (b := k - pcn i) (by omega) (by decide)), pb_in hi (by decide), if_pos rfl, pb_in (by omega) (by decide), if_pos rfl, nI_clamp (by omega), nI_clamp (by omega)]
          by_cases hz : lg_cmp (L (c + 1) i &&& tb_sized.getD (k - pcn i) 0) 0 = 0
          · refine Or.inl ⟨nI (i + 1), ?_, rfl, fun s hs hb => ?_⟩
            · rw [if_pos hz, show nI i + 1 = nI (i + 1) from nI_1 i]
            · by_cases z : s < 64 * i
              · exact h s z hb
              · have r1 := row s hs z hb
                have := (sz_ne (by omega)).mp hz (s % 64) (by omega) r1.1
                omega
          · refine Or.inr ⟨_, if_neg hz, Or.inl ⟨i, rfl, hi, by omega, by omega, h, ?_⟩⟩
            rw [sz_ne (by omega)] at hz
            apply Classical.byContradiction
            intro q
            exact hz (fun j hj hb e => q ⟨j, hj, hb, e⟩)
    · intro v ⟨e, h⟩
      subst e
      refine ⟨.inr (), ?_, Or.inr ⟨rfl, h⟩⟩
      unfold fX0_leastSet_2b
      rw [if_pos (show (16 : Int32) ≤ nI 16 from Int32.le_refl _)]
  obtain ⟨e, h0, h⟩ := hlp
  unfold fX0_leastSet
  rw [h0, Option.bind_some]
  rcases h with ⟨r, rfl, r1, r2, r3, r4, j0, j1, j2, j3⟩ | ⟨rfl, h⟩
  · obtain ⟨q, ⟨q1, q2, q3⟩, q4⟩ := pk_least (fun j => j < 64 ∧ lb (L (c + 1) r) j = true ∧ pcn j = k - pcn r) ⟨j0, j1, j2, j3⟩
    have hlow : (L (c + 1) r &&& tb_sized.getD (k - pcn r) 0) &&& (-(L (c + 1) r &&& tb_sized.getD (k - pcn r) 0)) = (1 : Int64) <<< ((nI q).toInt64 &&& 63) := by
      refine lb_low q1 ?_ (fun j hj => ?_)
      · rw [lb_and, q2, sz_tb _ r3 q q1, q3]; simp
      · rw [lb_and, sz_tb _ r3 j (by omega)]
        cases hx : lb (L (c + 1) r) j with
        | false => rfl
        | true =>
          have : ¬ pcn j = k - pcn r := fun z => q4 j hj ⟨by omega, hx, z⟩
          simp [this]
    refine ⟨64 * r + q, ?_, Or.inl ⟨by omega, by rw [fm_at _ q1]; exact q2, ?_, ?_⟩⟩
    · rw [Sum.elim_inl]
      dsimp only
      rw [pb_in r1 (by decide), if_pos rfl, pb_in r3 (by decide), if_pos rfl, nI_clamp (by omega), nI_clamp (by omega), hlow]
      unfold fX0_leastSet_68
      rw [low64 q q1, Option.bind_some, show (64 : Int32) = nI 64 from rfl, pk_mul, nI_add, Nat.mul_comm]
    · rw [pcn_sp _ (by omega), show (64 * r + q) / 64 = r from by omega, show (64 * r + q) % 64 = q from by omega, q3]; omega
    · intro s hs hb e
      by_cases z : s < 64 * r
      · exact r4 s z hb e
      · have e1 : s / 64 = r := by omega
        refine q4 (s % 64) (by omega) ⟨by omega, by rw [← e1]; exact hb, ?_⟩
        have := pcn_sp s (by omega)
        rw [e1] at this
        omega
  · exact ⟨0, rfl, Or.inr ⟨rfl, h⟩⟩
end FAN
