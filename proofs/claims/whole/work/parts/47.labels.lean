/-! labels of nodes: two have the same one if they hang together -/
theorem lab_join {lo hi : Nat → Nat} {P : Nat → Prop} {n m : Nat} {f : Nat → Int32} {w : Int32} (h : ∀ x y, x < n → y < n → (f x = f y ↔ gq_cn lo hi P x y)) (ha : lo m < n) (hb : hi m < n) (hw : w = f (lo m) ∨ w = f (hi m)) {x y : Nat} (hx : x < n) (hy : y < n) :
    ((if f x = f (lo m) ∨ f x = f (hi m) then w else f x) = (if f y = f (lo m) ∨ f y = f (hi m) then w else f y)) ↔ gq_cn lo hi (fun l => P l ∨ l = m) x y := by
  rw [gq_add, ← h x y hx hy, ← h x (lo m) hx ha, ← h (hi m) y hb hy, ← h x (hi m) hx hb, ← h (lo m) y ha hy]
  by_cases a : f x = f (lo m) ∨ f x = f (hi m) <;> by_cases b : f y = f (lo m) ∨ f y = f (hi m)
  · rw [if_pos a, if_pos b]
    refine ⟨fun _ => ?_, fun _ => rfl⟩
    rcases a with a | a <;> rcases b with b | b
    · exact Or.inl (a.trans b.symm)
    · exact Or.inr (Or.inl ⟨a, b.symm⟩)
    · exact Or.inr (Or.inr ⟨a, b.symm⟩)
    · exact Or.inl (a.trans b.symm)
  · rw [if_pos a, if_neg b]
    have bn : ∀ z, z = f (lo m) ∨ z = f (hi m) → z ≠ f y := fun z hz e => b (by rw [← e]; exact hz)
    constructor
    · intro e; exact absurd e (bn w hw)
    · intro q
      rcases q with q | ⟨_, q⟩ | ⟨_, q⟩
      · exact absurd q (bn _ a)
      · exact absurd q (bn _ (Or.inr rfl))
      · exact absurd q (bn _ (Or.inl rfl))
  · rw [if_neg a, if_pos b]
    have an : ∀ z, z = f (lo m) ∨ z = f (hi m) → f x ≠ z := fun z hz e => a (by rw [e]; exact hz)
    constructor
    · intro e; exact absurd e (an w hw)
    · intro q
      rcases q with q | ⟨q, _⟩ | ⟨q, _⟩
      · exact absurd q (an _ b)
      · exact absurd q (an _ (Or.inl rfl))
      · exact absurd q (an _ (Or.inr rfl))
  · rw [if_neg a, if_neg b]
    constructor
    · exact Or.inl
    · intro q
      rcases q with q | ⟨q, _⟩ | ⟨q, _⟩
      · exact q
      · exact absurd (Or.inl q) a
      · exact absurd (Or.inr q) a
/-- how many lines of a set join two parts, from below -/
noncomputable def gq_mg (lo hi : Nat → Nat) (s n : Nat) : Nat := fb_ct (fun i => s.testBit i && gq_dc (¬ gq_cn lo hi (fun j => s.testBit j = true ∧ j < i) (lo i) (hi i))) n
theorem gq_mg_le (lo hi : Nat → Nat) (s n : Nat) : gq_mg lo hi s n ≤ fb_ct s.testBit n := fb_ct_sub (fun k _ h => by simp only [Bool.and_eq_true] at h; exact h.1)
theorem gq_mg_nd {lo hi : Nat → Nat} {s n nd : Nat} (hb : ∀ i, i < n → lo i < nd ∧ hi i < nd) (hn : 0 < nd) : gq_mg lo hi s n + 1 ≤ nd := by
  have k := gq_seq (lo := lo) (hi := hi) (nd := nd) s.testBit (fun i => i) n hb
  have e : fb_ct (fun i => s.testBit i && gq_dc (¬ gq_cn lo hi (fun l => ∃ j, j < i ∧ j = l ∧ s.testBit l = true) (lo i) (hi i))) n = gq_mg lo hi s n := by
    refine fb_ct_cong (fun i _ => ?_)
    congr 1
    refine gq_dc_c ?_
    rw [gq_iff (fun l => (⟨fun ⟨j, h1, h2, h3⟩ => ⟨h3, h2 ▸ h1⟩, fun ⟨h1, h2⟩ => ⟨l, h2, rfl, h1⟩⟩ : (∃ j, j < i ∧ j = l ∧ s.testBit l = true) ↔ (s.testBit l = true ∧ l < i)))]
  have p : 0 < gq_cl lo hi nd (fun l => ∃ j, j < n ∧ j = l ∧ s.testBit l = true) := fb_ct_pos.mpr ⟨0, hn, gq_dc_t.mpr (fun j hj => by omega)⟩
  have k2 : gq_mg lo hi s n + gq_cl lo hi nd (fun l => ∃ j, j < n ∧ j = l ∧ s.testBit l = true) = nd := by rw [← e]; exact k
  omega
theorem gq_mg_ac {lo hi : Nat → Nat} {s n : Nat} (hs : s < 2 ^ n) : gq_mg lo hi s n = fb_ct s.testBit n ↔ gq_ac lo hi s := by
  have sm : ∀ l, s.testBit l = true → l < n := fun l hl => Nat.lt_of_not_le (fun q => by rw [Nat.testBit_lt_two_pow (Nat.lt_of_lt_of_le hs (Nat.pow_le_pow_right (by decide) q))] at hl; cases hl)
  constructor
  · intro h l hl z
    have := ct_eq_all (fun k _ h => by simp only [Bool.and_eq_true] at h; exact h.1) h l (sm l hl) hl
    simp only [Bool.and_eq_true] at this
    exact gq_dc_t.mp this.2 z
  · intro h
    refine fb_ct_cong (fun i _ => ?_)
    by_cases e : s.testBit i = true
    · rw [e, gq_dc_t.mpr (h i e)]; rfl
    · have : s.testBit i = false := by simpa using e
      rw [this]; rfl
theorem gq_mg_s (lo hi : Nat → Nat) (s i : Nat) : gq_mg lo hi s (i + 1) = gq_mg lo hi s i + if (s.testBit i && gq_dc (¬ gq_cn lo hi (fun j => s.testBit j = true ∧ j < i) (lo i) (hi i))) = true then 1 else 0 := rfl
theorem gq_upto {s i : Nat} (h : s.testBit i = true) (l : Nat) : (s.testBit l = true ∧ l < i + 1) ↔ ((s.testBit l = true ∧ l < i) ∨ l = i) := by
  constructor
  · intro ⟨h1, h2⟩
    by_cases e : l = i
    · exact Or.inr e
    · exact Or.inl ⟨h1, by omega⟩
  · intro q
    rcases q with ⟨h1, h2⟩ | rfl
    · exact ⟨h1, by omega⟩
    · exact ⟨h, by omega⟩
theorem gq_upto0 {s i : Nat} (h : ¬ s.testBit i = true) (l : Nat) : (s.testBit l = true ∧ l < i + 1) ↔ (s.testBit l = true ∧ l < i) := by
  constructor
  · intro ⟨h1, h2⟩
    refine ⟨h1, ?_⟩
    by_cases e : l = i
    · subst e; exact absurd h1 h
    · omega
  · intro ⟨h1, h2⟩; exact ⟨h1, by omega⟩
theorem gq_old {lo hi : Nat → Nat} {P : Nat → Prop} {m : Nat} (h : gq_cn lo hi P (lo m) (hi m)) {a b : Nat} : gq_cn lo hi (fun l => P l ∨ l = m) a b ↔ gq_cn lo hi P a b := by
  rw [gq_add]
  refine ⟨fun q => ?_, Or.inl⟩
  rcases q with q | ⟨q1, q2⟩ | ⟨q1, q2⟩
  · exact q
  · exact gq_tr q1 (gq_tr h q2)
  · exact gq_tr q1 (gq_tr (gq_sy h) q2)
section LAB
variable {N : ux_N} {c : Nat}
theorem lc_separate (N : ux_N) (c : Nat) : ∃ N', fX2_separate c N = some N' ∧ (∀ a, a ≠ c + 1 → N' a = N a) ∧ ∀ k, k < 8 → N' (c + 1) k = nI k := by
  have hlp : ∃ N', ux_lp (fun s : Int32 × ux_N => fX2_separate_2b c s.1 s.2) ux_fu ((0 : Int32), N) = some N' ∧ ((∀ a, a ≠ c + 1 → N' a = N a) ∧ ∀ k, k < 8 → N' (c + 1) k = nI k) := by
    refine lp_inv (fun i s => s.1 = nI i ∧ (∀ a, a ≠ c + 1 → s.2 a = N a) ∧ ∀ k, k < i → s.2 (c + 1) k = nI k) _ 8 ?_ (by decide) ?_ ?_
    · exact ⟨rfl, fun a _ => rfl, fun k h => by omega⟩
    · intro i ⟨v, N1⟩ hi ⟨e, h1, h2⟩
      dsimp only at e h1 h2 ⊢
      subst e
      refine Or.inl ⟨(nI (i + 1), ux_u N1 (c + 1) i (nI i)), ?_, rfl, fun a ha => (uu_ne N1 _ _ ha).trans (h1 a ha), fun k hk => ?_⟩
      · simp (disch := omega) only [fX2_separate_2b, li_0, li_1, li_2, li_3, li_4, li_5, li_6, li_7, li_8, li_9, li_10, li_11, li_12, li_13, li_14, li_16, li_18, li_20, li_21, li_24, li_31, li_32, li_40, li_42, li_48, li_57, li_59, li_64, li_97, li_99, li_122, li_128, li_147, li_189, li_200, li_231, li_252, li_255, li_512, li_1023, li_1024, li_8192, li_8208, li_9999, li_50000, li_500000, nI_leI, nI_ltI, nI_eq, pb_in, nI_clamp, nI_add, pk_mul, pk_sub, qb_bit1, qb_bit0, qb_pow, qb_m1, qb_m1', qb_ofn, Option.bind_some, ↓reduceIte, eq_self, if_true, if_false, Sum.elim_inl, Sum.elim_inr]
        rw [if_neg (by omega)]
      · dsimp only
        rw [uu_same]
        by_cases e : k = i
        · rw [if_pos e, e]
        · rw [if_neg e]; exact h2 k (by omega)
    · intro ⟨v, N1⟩ ⟨e, h1, h2⟩
      dsimp only at e h1 h2 ⊢
      subst e
      refine ⟨N1, ?_, h1, h2⟩
      simp (disch := omega) only [fX2_separate_2b, li_0, li_1, li_2, li_3, li_4, li_5, li_6, li_7, li_8, li_9, li_10, li_11, li_12, li_13, li_14, li_16, li_18, li_20, li_21, li_24, li_31, li_32, li_40, li_42, li_48, li_57, li_59, li_64, li_97, li_99, li_122, li_128, li_147, li_189, li_200, li_231, li_252, li_255, li_512, li_1023, li_1024, li_8192, li_8208, li_9999, li_50000, li_500000, nI_leI, nI_ltI, nI_eq, pb_in, nI_clamp, nI_add, pk_mul, pk_sub, qb_bit1, qb_bit0, qb_pow, qb_m1, qb_m1', qb_ofn, Option.bind_some, ↓reduceIte, eq_self, if_true, if_false, Sum.elim_inl, Sum.elim_inr]
      simp
  obtain ⟨N', h0, h⟩ := hlp
  refine ⟨N', ?_, h⟩
  unfold fX2_separate
  rw [h0]; rfl
theorem lc_copy (N : ux_N) (c c1 : Nat) : ∃ N', fX2_copyFrom c c1 N = some N' ∧ (∀ a, a ≠ c + 1 → N' a = N a) ∧ ∀ k, k < 8 → N' (c + 1) k = N (c1 + 1) k := by
  refine ⟨_, rfl, fun a ha => ?_, fun k hk => ?_⟩
  · unfold ux_cpN; rw [if_neg ha]
  · unfold ux_cpN; rw [if_pos rfl, pk_cpy_in (by omega) (by omega)]; congr 1; omega
theorem lc_areOne {a b : Nat} (ha : a < 8) (hb : b < 8) : fX2_areOne c (nI a) (nI b) N = some (if N (c + 1) a = N (c + 1) b then 1 else 0) := by
  unfold fX2_areOne
  rw [pb_in ha (by decide), if_pos rfl, pb_in hb (by decide), if_pos rfl, nI_clamp (by omega), nI_clamp (by omega)]
  by_cases h : N (c + 1) a = N (c + 1) b
  · rw [if_pos h, if_pos h]; rfl
  · rw [if_neg h, if_neg h]; rfl
theorem lc_join {a b : Nat} (ha : a < 8) (hb : b < 8) : ∃ N', fX2_join c (nI a) (nI b) N = some N' ∧ (∀ x, x ≠ c + 1 → N' x = N x) ∧ ∀ k, k < 8 → N' (c + 1) k = if N (c + 1) k = N (c + 1) b then N (c + 1) a else N (c + 1) k := by
  have hlp : ∃ N', ux_lp (fun s : Int32 × ux_N => fX2_join_10b c (nI a) (N (c + 1) b) s.1 s.2) ux_fu ((0 : Int32), N) = some N' ∧ ((∀ x, x ≠ c + 1 → N' x = N x) ∧ ∀ k, k < 8 → N' (c + 1) k = if N (c + 1) k = N (c + 1) b then N (c + 1) a else N (c + 1) k) := by
    refine lp_inv (fun i s => s.1 = nI i ∧ (∀ x, x ≠ c + 1 → s.2 x = N x) ∧ (∀ k, k < i → s.2 (c + 1) k = if N (c + 1) k = N (c + 1) b then N (c + 1) a else N (c + 1) k) ∧ ∀ k, i ≤ k → s.2 (c + 1) k = N (c + 1) k) _ 8 ?_ (by decide) ?_ ?_
    · exact ⟨rfl, fun _ _ => rfl, fun k h => by omega, fun _ _ => rfl⟩
    · intro i ⟨v, N1⟩ hi ⟨e, h1, h2, h3⟩
      dsimp only at e h1 h2 h3 ⊢
      subst e
      have hva : N1 (c + 1) a = N (c + 1) a := by
        by_cases q : a < i
        · rw [h2 a q]; split <;> rfl
        · exact h3 a (by omega)
      by_cases hz : N (c + 1) i = N (c + 1) b
      · refine Or.inl ⟨(nI (i + 1), ux_u N1 (c + 1) i (N (c + 1) a)), ?_, rfl, fun x hx => (uu_ne N1 _ _ hx).trans (h1 x hx), fun k hk => ?_, fun k hk => ?_⟩
        · simp (disch := omega) only [fX2_join_10b, fX2_join_10b_41, h3 i (Nat.le_refl i), hva, li_0, li_1, li_2, li_3, li_4, li_5, li_6, li_7, li_8, li_9, li_10, li_11, li_12, li_13, li_14, li_16, li_18, li_20, li_21, li_24, li_31, li_32, li_40, li_42, li_48, li_57, li_59, li_64, li_97, li_99, li_122, li_128, li_147, li_189, li_200, li_231, li_252, li_255, li_512, li_1023, li_1024, li_8192, li_8208, li_9999, li_50000, li_500000, nI_leI, nI_ltI, nI_eq, pb_in, nI_clamp, nI_add, pk_mul, pk_sub, qb_bit1, qb_bit0, qb_pow, qb_m1, qb_m1', qb_ofn, Option.bind_some, ↓reduceIte, eq_self, if_true, if_false, Sum.elim_inl, Sum.elim_inr]
          rw [if_neg (by omega), if_pos hz]
        · dsimp only
          rw [uu_same]
          by_cases e : k = i
          · rw [if_pos e, e, if_pos hz]
          · rw [if_neg e]; exact h2 k (by omega)
        · dsimp only
          rw [uu_same, if_neg (by omega)]; exact h3 k (by omega)
      · refine Or.inl ⟨(nI (i + 1), N1), ?_, rfl, h1, fun k hk => ?_, fun k hk => h3 k (by omega)⟩
        · simp (disch := omega) only [fX2_join_10b, fX2_join_10b_41, h3 i (Nat.le_refl i), li_0, li_1, li_2, li_3, li_4, li_5, li_6, li_7, li_8, li_9, li_10, li_11, li_12, li_13, li_14, li_16, li_18, li_20, li_21, li_24, li_31, li_32, li_40, li_42, li_48, li_57, li_59, li_64, li_97, li_99, li_122, li_128, li_147, li_189, li_200, li_231, li_252, li_255, li_512, li_1023, li_1024, li_8192, li_8208, li_9999, li_50000, li_500000, nI_leI, nI_ltI, nI_eq, pb_in, nI_clamp, nI_add, pk_mul, pk_sub, qb_bit1, qb_bit0, qb_pow, qb_m1, qb_m1', qb_ofn, Option.bind_some, ↓reduceIte, eq_self, if_true, if_false, Sum.elim_inl, Sum.elim_inr]
          rw [if_neg (by omega), if_neg hz]
        · dsimp only
          by_cases e : k = i
          · rw [e, h3 i (Nat.le_refl i), if_neg hz]
          · exact h2 k (by omega)
    · intro ⟨v, N1⟩ ⟨e, h1, h2, h3⟩
      dsimp only at e h1 h2 h3 ⊢
      subst e
      refine ⟨N1, ?_, h1, h2⟩
      simp (disch := omega) only [fX2_join_10b, li_0, li_1, li_2, li_3, li_4, li_5, li_6, li_7, li_8, li_9, li_10, li_11, li_12, li_13, li_14, li_16, li_18, li_20, li_21, li_24, li_31, li_32, li_40, li_42, li_48, li_57, li_59, li_64, li_97, li_99, li_122, li_128, li_147, li_189, li_200, li_231, li_252, li_255, li_512, li_1023, li_1024, li_8192, li_8208, li_9999, li_50000, li_500000, nI_leI, nI_ltI, nI_eq, pb_in, nI_clamp, nI_add, pk_mul, pk_sub, qb_bit1, qb_bit0, qb_pow, qb_m1, qb_m1', qb_ofn, Option.bind_some, ↓reduceIte, eq_self, if_true, if_false, Sum.elim_inl, Sum.elim_inr]
      simp
  obtain ⟨N', h0, h⟩ := hlp
  refine ⟨N', ?_, h⟩
  unfold fX2_join
  rw [pb_in hb (by decide), if_pos rfl, nI_clamp (by omega), h0]
  rfl
/-- the labels after a join -/
theorem lc_joined {lo hi : Nat → Nat} {P : Nat → Prop} {m : Nat} {f g : Nat → Int32} (h : ∀ x y, x < 8 → y < 8 → (f x = f y ↔ gq_cn lo hi P x y)) (ha : lo m < 8) (hb : hi m < 8) (hg : ∀ k, k < 8 → g k = if f k = f (hi m) then f (lo m) else f k) : ∀ x y, x < 8 → y < 8 → (g x = g y ↔ gq_cn lo hi (fun l => P l ∨ l = m) x y) := by
  intro x y hx hy
  rw [← lab_join h ha hb (Or.inl rfl) hx hy, hg x hx, hg y hy]
  have e : ∀ z, (if f z = f (hi m) then f (lo m) else f z) = (if f z = f (lo m) ∨ f z = f (hi m) then f (lo m) else f z) := by
    intro z
    by_cases q1 : f z = f (hi m)
    · rw [if_pos q1, if_pos (Or.inr q1)]
    · by_cases q2 : f z = f (lo m)
      · rw [if_neg q1, if_pos (Or.inl q2), q2]
      · rw [if_neg q1, if_neg (fun q => q.elim q2 q1)]
  rw [e x, e y]
theorem lc_joinAll {nd ln : Nat} {lo hi : Nat → Nat} (hp : plC N 1 nd ln lo hi) {s : Nat} (hs : s < 2 ^ 31) : ∃ N', fX6_joinAll (nI s) N = some (nI (gq_mg lo hi s ln), N') ∧ (∀ a, a ≠ 101 → N' a = N a) ∧ ∀ x y, x < 8 → y < 8 → (N' 101 x = N' 101 y ↔ gq_cn lo hi (fun l => s.testBit l = true ∧ l < ln) x y) := by
  obtain ⟨N0, a0, a1, a2⟩ := lc_separate N 100
  obtain ⟨h0, h1, ⟨b1, b2, b3⟩, hl⟩ := hp
  have hlp : ∃ e, ux_lp (fun s_1 : Int32 × Int32 × ux_N => fX6_joinAll_11b (nI s) s_1.1 s_1.2.1 s_1.2.2) ux_fu ((0 : Int32), (0 : Int32), N0) = some e ∧ (e.1 = nI (gq_mg lo hi s ln) ∧ (∀ a, a ≠ 101 → e.2 a = N a) ∧ ∀ x y, x < 8 → y < 8 → (e.2 101 x = e.2 101 y ↔ gq_cn lo hi (fun l => s.testBit l = true ∧ l < ln) x y)) := by
    refine lp_inv (fun i t => t.1 = nI (gq_mg lo hi s i) ∧ t.2.1 = nI i ∧ (∀ a, a ≠ 101 → t.2.2 a = N a) ∧ ∀ x y, x < 8 → y < 8 → (t.2.2 101 x = t.2.2 101 y ↔ gq_cn lo hi (fun l => s.testBit l = true ∧ l < i) x y)) _ ln ?_ (by omega) ?_ ?_
    · refine ⟨rfl, rfl, a1, fun x y hx hy => ?_⟩
      dsimp only
      rw [a2 x hx, a2 y hy, gq_none (fun l h => by omega)]
      exact nI_eq (by omega) (by omega)
    · intro i ⟨v2, v3, N1⟩ hk ⟨e1, e2, g1, g2⟩
      dsimp only at e1 e2 g1 g2 ⊢
      subst e1; subst e2
      obtain ⟨l1, l2, l3, l4⟩ := hl i hk
      have w1 : N1 1 1 = nI ln := by rw [g1 1 (by decide)]; exact h1
      have w2 : N1 2 i = nI (lo i) := by rw [g1 2 (by decide)]; exact l1
      have w3 : N1 3 i = nI (hi i) := by rw [g1 3 (by decide)]; exact l2
      have hmg : gq_mg lo hi s i ≤ 10 := Nat.le_trans (gq_mg_le _ _ _ _) (Nat.le_trans (fb_ct_le _ i) (by omega))
      have c8 : lo i < 8 := by omega
      have d8 : hi i < 8 := by omega
      by_cases hb : s.testBit i = true
      · by_cases ho : N1 101 (lo i) = N1 101 (hi i)
        · refine Or.inl ⟨(nI (gq_mg lo hi s (i + 1)), nI (i + 1), N1), ?_, rfl, rfl, g1, fun x y hx hy => ?_⟩
          · have hmm : gq_mg lo hi s (i + 1) = gq_mg lo hi s i := by
              rw [gq_mg_s, if_neg (by rw [hb, gq_dc_f.mpr (fun q => q ((g2 _ _ c8 d8).mp ho))]; decide)]; rfl
            simp (disch := omega) only [fX6_joinAll_11b, fX6_joinAll_11b_87, w1, w2, w3, lc_areOne c8 d8, li_0, li_1, li_2, li_3, li_4, li_5, li_6, li_7, li_8, li_9, li_10, li_11, li_12, li_13, li_14, li_16, li_18, li_20, li_21, li_24, li_31, li_32, li_40, li_42, li_48, li_57, li_59, li_64, li_97, li_99, li_122, li_128, li_147, li_189, li_200, li_231, li_252, li_255, li_512, li_1023, li_1024, li_8192, li_8208, li_9999, li_50000, li_500000, nI_leI, nI_ltI, nI_eq, pb_in, nI_clamp, nI_add, pk_mul, pk_sub, qb_bit1, qb_bit0, qb_pow, qb_m1, qb_m1', qb_ofn, Option.bind_some, ↓reduceIte, eq_self, if_true, if_false, Sum.elim_inl, Sum.elim_inr]
            rw [if_neg (by omega), if_pos hb, if_pos ho, if_neg (by decide), hmm]
          · dsimp only
            rw [g2 x y hx hy, gq_iff (gq_upto hb), gq_old ((g2 _ _ c8 d8).mp ho)]
        · obtain ⟨N2, j0, j1, j2⟩ := lc_join (N := N1) (c := 100) c8 d8
          refine Or.inl ⟨(nI (gq_mg lo hi s (i + 1)), nI (i + 1), N2), ?_, rfl, rfl, fun a ha => (j1 a ha).trans (g1 a ha), fun x y hx hy => ?_⟩
          · have hmm : gq_mg lo hi s (i + 1) = gq_mg lo hi s i + 1 := by
              rw [gq_mg_s, if_pos (by rw [hb, gq_dc_t.mpr (fun q => ho ((g2 _ _ c8 d8).mpr q))]; rfl)]
            simp (disch := omega) only [fX6_joinAll_11b, fX6_joinAll_11b_87, w1, w2, w3, lc_areOne c8 d8, j0, li_0, li_1, li_2, li_3, li_4, li_5, li_6, li_7, li_8, li_9, li_10, li_11, li_12, li_13, li_14, li_16, li_18, li_20, li_21, li_24, li_31, li_32, li_40, li_42, li_48, li_57, li_59, li_64, li_97, li_99, li_122, li_128, li_147, li_189, li_200, li_231, li_252, li_255, li_512, li_1023, li_1024, li_8192, li_8208, li_9999, li_50000, li_500000, nI_leI, nI_ltI, nI_eq, pb_in, nI_clamp, nI_add, pk_mul, pk_sub, qb_bit1, qb_bit0, qb_pow, qb_m1, qb_m1', qb_ofn, Option.bind_some, ↓reduceIte, eq_self, if_true, if_false, Sum.elim_inl, Sum.elim_inr]
            rw [if_neg (by omega), if_pos hb, if_neg ho, if_pos rfl, hmm]
          · dsimp only
            rw [gq_iff (gq_upto hb)]
            exact lc_joined g2 c8 d8 j2 x y hx hy
      · refine Or.inl ⟨(nI (gq_mg lo hi s (i + 1)), nI (i + 1), N1), ?_, rfl, rfl, g1, fun x y hx hy => ?_⟩
        · have hmm : gq_mg lo hi s (i + 1) = gq_mg lo hi s i := by
            rw [gq_mg_s, if_neg (by simp [hb])]; rfl
          simp (disch := omega) only [fX6_joinAll_11b, fX6_joinAll_11b_87, w1, li_0, li_1, li_2, li_3, li_4, li_5, li_6, li_7, li_8, li_9, li_10, li_11, li_12, li_13, li_14, li_16, li_18, li_20, li_21, li_24, li_31, li_32, li_40, li_42, li_48, li_57, li_59, li_64, li_97, li_99, li_122, li_128, li_147, li_189, li_200, li_231, li_252, li_255, li_512, li_1023, li_1024, li_8192, li_8208, li_9999, li_50000, li_500000, nI_leI, nI_ltI, nI_eq, pb_in, nI_clamp, nI_add, pk_mul, pk_sub, qb_bit1, qb_bit0, qb_pow, qb_m1, qb_m1', qb_ofn, Option.bind_some, ↓reduceIte, eq_self, if_true, if_false, Sum.elim_inl, Sum.elim_inr]
          rw [if_neg (by omega), if_neg hb, hmm]
        · dsimp only
          rw [g2 x y hx hy, gq_iff (gq_upto0 hb)]
    · intro ⟨v2, v3, N1⟩ ⟨e1, e2, g1, g2⟩
      dsimp only at e1 e2 g1 g2 ⊢
      subst e1; subst e2
      have w1 : N1 1 1 = nI ln := by rw [g1 1 (by decide)]; exact h1
      refine ⟨(nI (gq_mg lo hi s ln), N1), ?_, rfl, g1, g2⟩
      simp (disch := omega) only [fX6_joinAll_11b, w1, li_0, li_1, li_2, li_3, li_4, li_5, li_6, li_7, li_8, li_9, li_10, li_11, li_12, li_13, li_14, li_16, li_18, li_20, li_21, li_24, li_31, li_32, li_40, li_42, li_48, li_57, li_59, li_64, li_97, li_99, li_122, li_128, li_147, li_189, li_200, li_231, li_252, li_255, li_512, li_1023, li_1024, li_8192, li_8208, li_9999, li_50000, li_500000, nI_leI, nI_ltI, nI_eq, pb_in, nI_clamp, nI_add, pk_mul, pk_sub, qb_bit1, qb_bit0, qb_pow, qb_m1, qb_m1', qb_ofn, Option.bind_some, ↓reduceIte, eq_self, if_true, if_false, Sum.elim_inl, Sum.elim_inr]
      simp
  obtain ⟨⟨r, N'⟩, q0, q1, q2, q3⟩ := hlp
  dsimp only at q1 q2 q3
  refine ⟨N', ?_, q2, q3⟩
  unfold fX6_joinAll
  rw [a0, Option.bind_some, q0, q1]
  rfl
/-- the island of a node -/
theorem lc_islandOf {nd ln : Nat} {lo hi : Nat → Nat} (hp : plC N 1 nd ln lo hi) {x : Nat} (hx : x < 8) : fX6_islandOf (nI x) N = some (nI (bsN (fun y => decide (N 101 x = N 101 y)) nd)) := by
  obtain ⟨h0, h1, ⟨b1, b2, b3⟩, hl⟩ := hp
  have hlp : ux_lp (fun s : Int32 × Int32 => fX6_islandOf_4b (nI x) s.1 s.2 N) ux_fu ((0 : Int32), (0 : Int32)) = some (nI (bsN (fun y => decide (N 101 x = N 101 y)) nd)) := by
    refine lp_at (fun i => (nI (bsN (fun y => decide (N 101 x = N 101 y)) i), nI i)) nd rfl (by omega) ?_ ?_
    · intro i hk
      have e8 : i < 8 := by omega
      simp (disch := omega) only [fX6_islandOf_4b, fX6_islandOf_4b_33, h0, lc_areOne hx e8, li_0, li_1, li_2, li_3, li_4, li_5, li_6, li_7, li_8, li_9, li_10, li_11, li_12, li_13, li_14, li_16, li_18, li_20, li_21, li_24, li_31, li_32, li_40, li_42, li_48, li_57, li_59, li_64, li_97, li_99, li_122, li_128, li_147, li_189, li_200, li_231, li_252, li_255, li_512, li_1023, li_1024, li_8192, li_8208, li_9999, li_50000, li_500000, nI_leI, nI_ltI, nI_eq, pb_in, nI_clamp, nI_add, pk_mul, pk_sub, qb_bit1, qb_bit0, qb_pow, qb_m1, qb_m1', qb_ofn, Option.bind_some, ↓reduceIte, eq_self, if_true, if_false, Sum.elim_inl, Sum.elim_inr]
      rw [if_neg (by omega)]
      by_cases e1 : N 101 x = N 101 i
      · rw [if_pos e1, if_neg (by decide), bsN_t (by simp [e1])]
      · rw [if_neg e1, if_pos rfl, ← bsN_f (by simp [e1])]
    · simp (disch := omega) only [fX6_islandOf_4b, h0, li_0, li_1, li_2, li_3, li_4, li_5, li_6, li_7, li_8, li_9, li_10, li_11, li_12, li_13, li_14, li_16, li_18, li_20, li_21, li_24, li_31, li_32, li_40, li_42, li_48, li_57, li_59, li_64, li_97, li_99, li_122, li_128, li_147, li_189, li_200, li_231, li_252, li_255, li_512, li_1023, li_1024, li_8192, li_8208, li_9999, li_50000, li_500000, nI_leI, nI_ltI, nI_eq, pb_in, nI_clamp, nI_add, pk_mul, pk_sub, qb_bit1, qb_bit0, qb_pow, qb_m1, qb_m1', qb_ofn, Option.bind_some, ↓reduceIte, eq_self, if_true, if_false, Sum.elim_inl, Sum.elim_inr]
      simp
  unfold fX6_islandOf
  rw [hlp]; rfl
end LAB
