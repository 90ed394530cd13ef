/-! the rank and the tree of a family of sets -/
noncomputable def rkd (P : Nat → Prop) : Nat → Nat
  | 0 => 0
  | n + 1 => if gq_dc (∃ s, s < 1024 ∧ P s ∧ pcn s = n + 1) = true then n + 1 else rkd P n
noncomputable def rk (P : Nat → Prop) : Nat := rkd P 10
theorem rkd_le (P : Nat → Prop) : ∀ n, rkd P n ≤ n
  | 0 => Nat.le_refl 0
  | n + 1 => by
    have := rkd_le P n
    unfold rkd
    split <;> omega
theorem rkd_ub {P : Nat → Prop} : ∀ n {s : Nat}, s < 1024 → P s → pcn s ≤ n → pcn s ≤ rkd P n
  | 0, s, _, _, h => h
  | n + 1, s, h1, h2, h3 => by
    unfold rkd
    by_cases e : pcn s = n + 1
    · rw [if_pos (gq_dc_t.mpr ⟨s, h1, h2, e⟩)]; omega
    · have := rkd_ub n h1 h2 (by omega)
      split <;> omega
theorem rkd_ex (P : Nat → Prop) : ∀ n, rkd P n = 0 ∨ ∃ s, s < 1024 ∧ P s ∧ pcn s = rkd P n
  | 0 => Or.inl rfl
  | n + 1 => by
    unfold rkd
    by_cases e : ∃ s, s < 1024 ∧ P s ∧ pcn s = n + 1
    · rw [if_pos (gq_dc_t.mpr e)]; exact Or.inr e
    · rw [if_neg (by rw [gq_dc_f.mpr e]; decide)]; exact rkd_ex P n
theorem rk_le (P : Nat → Prop) : rk P ≤ 10 := rkd_le P 10
theorem rk_ub {P : Nat → Prop} {s : Nat} (h1 : s < 1024) (h2 : P s) : pcn s ≤ rk P := rkd_ub 10 h1 h2 (pcn_le s)
theorem rk_ex (P : Nat → Prop) : rk P = 0 ∨ ∃ s, s < 1024 ∧ P s ∧ pcn s = rk P := rkd_ex P 10
theorem rk_of {P : Nat → Prop} {r : Nat} (h1 : r = 0 ∨ ∃ s, s < 1024 ∧ P s ∧ pcn s = r) (h2 : ∀ s, s < 1024 → P s → pcn s ≤ r) : rk P = r := by
  refine Nat.le_antisymm ?_ ?_
  · rcases rk_ex P with e | ⟨s, a, b, c⟩
    · omega
    · rw [← c]; exact h2 s a b
  · rcases h1 with e | ⟨s, a, b, c⟩
    · omega
    · rw [← c]; exact rk_ub a b
theorem rk_cg {P Q : Nat → Prop} (h : ∀ s, s < 1024 → (P s ↔ Q s)) : rk P = rk Q := by
  refine rk_of ?_ (fun s a b => rk_ub a ((h s a).mp b))
  rcases rk_ex Q with e | ⟨s, a, b, c⟩
  · exact Or.inl e
  · exact Or.inr ⟨s, a, (h s a).mpr b, c⟩
theorem rk_mo {P Q : Nat → Prop} (h : ∀ s, s < 1024 → P s → Q s) : rk P ≤ rk Q := by
  rcases rk_ex P with e | ⟨s, a, b, c⟩
  · omega
  · rw [← c]; exact rk_ub a (h s a b)
theorem pcn_0 : pcn 0 = 0 := by decide
theorem rk_ex0 {P : Nat → Prop} (h0 : P 0) : ∃ s, s < 1024 ∧ P s ∧ pcn s = rk P := by
  rcases rk_ex P with e | e
  · exact ⟨0, by decide, h0, by rw [e]; exact pcn_0⟩
  · exact e
noncomputable def tr (P : Nat → Prop) : Nat := fa_first (fun s => gq_dc (P s ∧ pcn s = rk P)) 1024
theorem tr_of {P : Nat → Prop} {t : Nat} (ht : t < 1024) (h1 : P t) (h2 : pcn t = rk P) (h3 : ∀ s, s < t → P s → pcn s ≠ rk P) : tr P = t := by
  have hy : gq_dc (P t ∧ pcn t = rk P) = true := gq_dc_t.mpr ⟨h1, h2⟩
  have hno := fa_first_no (fun s => gq_dc (P s ∧ pcn s = rk P)) 1024
  have a : ¬ t < tr P := fun q => by
    have := hno t q
    rw [hy] at this; cases this
  have hyes := fa_first_yes (fun s => gq_dc (P s ∧ pcn s = rk P)) 1024 (show tr P < 1024 by omega)
  have e := gq_dc_t.mp hyes
  refine Nat.le_antisymm (by omega) (Nat.le_of_not_lt (fun q => h3 _ q e.1 e.2))
theorem tr_spec {P : Nat → Prop} (h0 : P 0) : tr P < 1024 ∧ P (tr P) ∧ pcn (tr P) = rk P ∧ ∀ s, s < tr P → P s → pcn s ≠ rk P := by
  obtain ⟨s, a, b, c⟩ := rk_ex0 h0
  have hno := fa_first_no (fun s => gq_dc (P s ∧ pcn s = rk P)) 1024
  have lt : tr P < 1024 := Nat.lt_of_not_le (fun q => by
    have := hno s (Nat.lt_of_lt_of_le a q)
    exact gq_dc_f.mp this ⟨b, c⟩)
  have e := gq_dc_t.mp (fa_first_yes (fun s => gq_dc (P s ∧ pcn s = rk P)) 1024 lt)
  exact ⟨lt, e.1, e.2, fun s q p1 p2 => gq_dc_f.mp (hno s q) ⟨p1, p2⟩⟩
/-- the sets of lines with no ring that meters can serve -/
def qP (ln : Nat) (lo hi : Nat → Nat) (rc : Nat → Nat) (M : Nat → Prop) (s : Nat) : Prop := (s < 2 ^ ln ∧ gq_ac lo hi s) ∧ mq_MT rc M s
theorem qP_0 (ln : Nat) (lo hi : Nat → Nat) (rc : Nat → Nat) (M : Nat → Prop) : qP ln lo hi rc M 0 := ⟨⟨Nat.two_pow_pos ln, fun l hl => by simp at hl⟩, mq_0 rc M⟩
theorem gm_add {rc : Nat → Nat} {M : Nat → Prop} {m n s : Nat} (hm : ¬ M m) (hr : rc m < 2 ^ n) : mq_MT rc (fun i => M i ∨ i = m) s ↔ (mq_MT rc M s ∨ ∃ l, l < n ∧ (rc m).testBit l = true ∧ s.testBit l = true ∧ mq_MT rc M (s ^^^ 2 ^ l)) := by
  rw [mq_add hm]
  constructor
  · intro z
    rcases z with z | ⟨l, a, b, c⟩
    · exact Or.inl z
    · exact Or.inr ⟨l, Nat.lt_of_not_le (fun q => by rw [tb_ge hr q] at b; cases b), b, a, c⟩
  · intro z
    rcases z with z | ⟨l, _, b, a, c⟩
    · exact Or.inl z
    · exact Or.inr ⟨l, a, b, c⟩
theorem gm_upto {rc : Nat → Nat} {i s : Nat} : mq_MT rc (fun m => m < i + 1) s ↔ mq_MT rc (fun m => m < i ∨ m = i) s := mq_cg (fun m => by omega) (fun _ _ => rfl)
section RNK
variable {N : ux_N} {L : ux_L} {nd ln : Nat} {lo hi : Nat → Nat}
theorem lm_step {L' : ux_L} {rc : Nat → Nat} {M : Nat → Prop} {f t0 m may : Nat} (hn : ln ≤ 10) (hm : ¬ M m) (e : rc m = may) (hr : may < 2 ^ ln) (hs : ∀ s, s < 1024 → (gS L f s = true ↔ mq_MT rc M s)) (h : ∀ s, s < 1024 → gS L' t0 s = (gS L f s || (List.range ln).any (fun l => may.testBit l && s.testBit l && gS L f (s ^^^ 2 ^ l)))) : ∀ s, s < 1024 → (gS L' t0 s = true ↔ mq_MT rc (fun i => M i ∨ i = m) s) := by
  intro s hs1
  subst e
  rw [gm_add hm hr, h s hs1, Bool.or_eq_true, hs s hs1, List.any_eq_true]
  refine or_congr Iff.rfl ?_
  constructor
  · intro ⟨l, a, b⟩
    simp only [Bool.and_eq_true] at b
    have hl : l < ln := List.mem_range.mp a
    exact ⟨l, hl, b.1.1, b.1.2, (hs _ ((xr_s s hs1 l (by omega)).2 b.1.2).1).mp b.2⟩
  · intro ⟨l, a, b, c, d⟩
    refine ⟨l, List.mem_range.mpr a, ?_⟩
    simp only [Bool.and_eq_true]
    exact ⟨⟨b, c⟩, (hs _ ((xr_s s hs1 l (by omega)).2 c).1).mpr d⟩
theorem lm_rankAt {p : Nat} (hp : p + 16 ≤ 8224) : ∃ r, fX12_rankAt (nI p) L = some (nI r) ∧ r ≤ 7 ∧ (∀ n, r < n → n ≤ 7 → ∀ s, s < 1024 → gS L p s = true → ¬ fmF L n s = true) ∧ (r = 0 ∨ ∃ s, s < 1024 ∧ gS L p s = true ∧ fmF L r s = true) := by
  have inner : ∀ n, n < 8 → ∃ e, ux_lp (fun s : Int32 => fX12_rankAt_9b (nI p) (nI n) s L) ux_fu (0 : Int32) = some e ∧ ((e = .inl () ∧ ∃ s, s < 1024 ∧ gS L p s = true ∧ fmF L n s = true) ∨ (e = .inr () ∧ ∀ s, s < 1024 → gS L p s = true → ¬ fmF L n s = true)) := by
    intro n hn
    refine lp_inv (fun i v => v = nI i ∧ ∀ s, s < 64 * i → gS L p s = true → ¬ fmF L n s = true) _ 16 ?_ (by decide) ?_ ?_
    · exact ⟨rfl, fun s h => by omega⟩
    · intro i v hk ⟨e, g⟩
      subst e
      have ef : fX12_rankAt_9b (nI p) (nI n) (nI i) L = if lg_cmp (L 15 (p + i) &&& L 13 (16 * n + i)) 0 = 0 then some (.inl (nI (i + 1))) else some (.inr (.inl ())) := by
        simp (disch := omega) only [fX12_rankAt_9b, li_0, li_1, li_2, li_3, li_4, li_5, li_6, li_7, li_8, li_9, li_10, li_11, li_12, li_13, li_14, li_16, li_18, li_20, li_21, li_24, li_31, li_32, li_40, li_42, li_48, li_57, li_59, li_64, li_97, li_99, li_122, li_128, li_147, li_189, li_200, li_231, li_252, li_255, li_512, li_1023, li_1024, li_8192, li_8208, li_9999, li_50000, li_500000, nI_leI, nI_ltI, nI_eq, pb_in, nI_clamp, nI_add, pk_mul, pk_sub, qb_bit1, qb_bit0, qb_pow, qb_m1, qb_m1', qb_ofn, Option.bind_some, ↓reduceIte, eq_self, if_true, if_false, Sum.elim_inl, Sum.elim_inr]
        rw [if_neg (by omega)]
        rfl
      by_cases z : lg_cmp (L 15 (p + i) &&& L 13 (16 * n + i)) 0 = 0
      · refine Or.inl ⟨nI (i + 1), by rw [ef, if_pos z], rfl, fun s h1 h2 h3 => ?_⟩
        by_cases q : s < 64 * i
        · exact g s q h2 h3
        · have hz := lb_eq0.mp z (s % 64) (by omega)
          have e64 : s / 64 = i := by omega
          unfold gS at h2
          unfold fmF at h3
          rw [e64] at h2 h3
          rw [lb_and, h2, h3] at hz
          cases hz
      · refine Or.inr ⟨_, by rw [ef, if_neg z], Or.inl ⟨rfl, ?_⟩⟩
        obtain ⟨j, hj, hz⟩ := lb_ne0.mp z
        rw [lb_and, Bool.and_eq_true] at hz
        refine ⟨64 * i + j, by omega, ?_, ?_⟩
        · unfold gS; rw [show (64 * i + j) / 64 = i from by omega, show (64 * i + j) % 64 = j from by omega]; exact hz.1
        · unfold fmF; rw [show (64 * i + j) / 64 = i from by omega, show (64 * i + j) % 64 = j from by omega]; exact hz.2
    · intro v ⟨e, g⟩
      subst e
      refine ⟨.inr (), ?_, Or.inr ⟨rfl, fun s hs => g s (by omega)⟩⟩
      simp (disch := omega) only [fX12_rankAt_9b, li_0, li_1, li_2, li_3, li_4, li_5, li_6, li_7, li_8, li_9, li_10, li_11, li_12, li_13, li_14, li_16, li_18, li_20, li_21, li_24, li_31, li_32, li_40, li_42, li_48, li_57, li_59, li_64, li_97, li_99, li_122, li_128, li_147, li_189, li_200, li_231, li_252, li_255, li_512, li_1023, li_1024, li_8192, li_8208, li_9999, li_50000, li_500000, nI_leI, nI_ltI, nI_eq, pb_in, nI_clamp, nI_add, pk_mul, pk_sub, qb_bit1, qb_bit0, qb_pow, qb_m1, qb_m1', qb_ofn, Option.bind_some, ↓reduceIte, eq_self, if_true, if_false, Sum.elim_inl, Sum.elim_inr]
      simp
  have hlp : ∃ e, ux_lp (fun s : Int32 => fX12_rankAt_3b (nI p) s L) ux_fu (7 : Int32) = some e ∧ ((∃ r, e = .inl (nI r) ∧ r ≤ 7 ∧ (∀ n, r < n → n ≤ 7 → ∀ s, s < 1024 → gS L p s = true → ¬ fmF L n s = true) ∧ ∃ s, s < 1024 ∧ gS L p s = true ∧ fmF L r s = true) ∨ (e = .inr () ∧ ∀ n, 0 < n → n ≤ 7 → ∀ s, s < 1024 → gS L p s = true → ¬ fmF L n s = true)) := by
    refine lp_inv (fun i v => v = nI (7 - i) ∧ ∀ n, 7 - i < n → n ≤ 7 → ∀ s, s < 1024 → gS L p s = true → ¬ fmF L n s = true) _ 7 ?_ (by decide) ?_ ?_
    · exact ⟨rfl, fun n h1 h2 => by omega⟩
    · intro i v hk ⟨e, g⟩
      subst e
      obtain ⟨e, q0, q⟩ := inner (7 - i) (by omega)
      rcases q with ⟨rfl, q⟩ | ⟨rfl, q⟩
      · refine Or.inr ⟨.inl (nI (7 - i)), ?_, Or.inl ⟨7 - i, rfl, by omega, g, q⟩⟩
        unfold fX12_rankAt_3b
        rw [if_neg (fun z => by have := (pb_le0 (by omega)).mp z; omega), q0]; rfl
      · refine Or.inl ⟨nI (7 - (i + 1)), ?_, rfl, fun n h1 h2 => ?_⟩
        · unfold fX12_rankAt_3b
          rw [if_neg (fun z => by have := (pb_le0 (by omega)).mp z; omega), q0]
          simp only [Option.bind_some, Sum.elim_inr]
          rw [li_1, qb_dec (by omega), Nat.sub_sub]
        · by_cases e : n = 7 - i
          · subst e; exact q
          · exact g n (by omega) h2
    · intro v ⟨e, g⟩
      subst e
      refine ⟨.inr (), ?_, Or.inr ⟨rfl, g⟩⟩
      unfold fX12_rankAt_3b
      rw [if_pos (by decide)]
  obtain ⟨e, q0, q⟩ := hlp
  rcases q with ⟨r, rfl, a, b, c⟩ | ⟨rfl, b⟩
  · exact ⟨r, by unfold fX12_rankAt; rw [q0]; rfl, a, b, Or.inr c⟩
  · exact ⟨0, by unfold fX12_rankAt; rw [q0]; rfl, by decide, b, Or.inl rfl⟩
/-- the forests as the reference has laid them -/
def foM (L : ux_L) (ln : Nat) (lo hi : Nat → Nat) : Prop := ∀ n, n < 8 → ∀ s, s < 1024 → (fmF L n s = true ↔ ((s < 2 ^ ln ∧ gq_ac lo hi s) ∧ pcn s = n))
theorem qP_7 (hp : plM N nd ln lo hi) {rc : Nat → Nat} {M : Nat → Prop} {s : Nat} (h : qP ln lo hi rc M s) : pcn s ≤ 7 := by
  obtain ⟨h0, h1, ⟨b1, b2, b3⟩, hl⟩ := hp
  have := gq_ac_lt (by omega) h.1.1 (fun k hk2 => by have := hl k hk2; exact ⟨by omega, by omega⟩) h.1.2 (nd := nd)
  rw [pcn_ln b3 h.1.1] at this
  omega
theorem lm_rk (hp : plM N nd ln lo hi) (hF : foM L ln lo hi) {rc : Nat → Nat} {M : Nat → Prop} {p : Nat} (hpp : p + 16 ≤ 8224) (hs : ∀ s, s < 1024 → (gS L p s = true ↔ mq_MT rc M s)) : fX12_rankAt (nI p) L = some (nI (rk (qP ln lo hi rc M))) := by
  obtain ⟨r, q0, q1, q2, q3⟩ := lm_rankAt (L := L) hpp
  rw [q0, rk_of (r := r)]
  · rcases q3 with e | ⟨s, a, b, c⟩
    · exact Or.inl e
    · obtain ⟨d1, d2⟩ := (hF r (by omega) s a).mp c
      exact Or.inr ⟨s, a, ⟨d1, (hs s a).mp b⟩, d2⟩
  · intro s a b
    have p7 := qP_7 hp b
    refine Nat.le_of_not_lt (fun q => q2 (pcn s) q p7 s a ((hs s a).mpr b.2) ((hF _ (by omega) s a).mpr ⟨b.1, rfl⟩))
end RNK
