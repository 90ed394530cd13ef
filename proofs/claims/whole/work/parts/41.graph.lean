/-! which nodes hang together by some lines: the least likeness that the lines give -/
def gq_cn (lo hi : Nat → Nat) (P : Nat → Prop) (a b : Nat) : Prop := ∀ E : Nat → Nat → Prop, (∀ x, E x x) → (∀ x y, E x y → E y x) → (∀ x y z, E x y → E y z → E x z) → (∀ l, P l → E (lo l) (hi l)) → E a b
section GQ
variable {lo hi : Nat → Nat} {P Q : Nat → Prop} {a b c m nd : Nat}
theorem gq_rf (a : Nat) : gq_cn lo hi P a a := fun _ h _ _ _ => h a
theorem gq_sy (h : gq_cn lo hi P a b) : gq_cn lo hi P b a := fun E h1 h2 h3 h4 => h2 _ _ (h E h1 h2 h3 h4)
theorem gq_tr (h : gq_cn lo hi P a b) (k : gq_cn lo hi P b c) : gq_cn lo hi P a c := fun E h1 h2 h3 h4 => h3 _ _ _ (h E h1 h2 h3 h4) (k E h1 h2 h3 h4)
theorem gq_ed (h : P m) : gq_cn lo hi P (lo m) (hi m) := fun _ _ _ _ h4 => h4 m h
theorem gq_mo (hs : ∀ l, P l → Q l) (h : gq_cn lo hi P a b) : gq_cn lo hi Q a b := fun E h1 h2 h3 h4 => h E h1 h2 h3 (fun l hl => h4 l (hs l hl))
theorem gq_iff (hs : ∀ l, P l ↔ Q l) : gq_cn lo hi P a b ↔ gq_cn lo hi Q a b := ⟨gq_mo (fun l => (hs l).mp), gq_mo (fun l => (hs l).mpr)⟩
theorem gq_add : gq_cn lo hi (fun l => P l ∨ l = m) a b ↔ gq_cn lo hi P a b ∨ (gq_cn lo hi P a (lo m) ∧ gq_cn lo hi P (hi m) b) ∨ (gq_cn lo hi P a (hi m) ∧ gq_cn lo hi P (lo m) b) := by
  constructor
  · intro h
    refine h (fun a b => gq_cn lo hi P a b ∨ (gq_cn lo hi P a (lo m) ∧ gq_cn lo hi P (hi m) b) ∨ (gq_cn lo hi P a (hi m) ∧ gq_cn lo hi P (lo m) b)) (fun x => Or.inl (gq_rf x)) ?_ ?_ ?_
    · intro x y h
      rcases h with h | ⟨h, k⟩ | ⟨h, k⟩
      · exact Or.inl (gq_sy h)
      · exact Or.inr (Or.inr ⟨gq_sy k, gq_sy h⟩)
      · exact Or.inr (Or.inl ⟨gq_sy k, gq_sy h⟩)
    · intro x y z h k
      rcases h with h | ⟨h, h'⟩ | ⟨h, h'⟩ <;> rcases k with k | ⟨k, k'⟩ | ⟨k, k'⟩
      · exact Or.inl (gq_tr h k)
      · exact Or.inr (Or.inl ⟨gq_tr h k, k'⟩)
      · exact Or.inr (Or.inr ⟨gq_tr h k, k'⟩)
      · exact Or.inr (Or.inl ⟨h, gq_tr h' k⟩)
      · exact Or.inr (Or.inl ⟨h, k'⟩)
      · exact Or.inl (gq_tr h k')
      · exact Or.inr (Or.inr ⟨h, gq_tr h' k⟩)
      · exact Or.inl (gq_tr h k')
      · exact Or.inr (Or.inr ⟨h, k'⟩)
    · intro l hl
      rcases hl with hl | rfl
      · exact Or.inl (gq_ed hl)
      · exact Or.inr (Or.inl ⟨gq_rf _, gq_rf _⟩)
  · have e : gq_cn lo hi (fun l => P l ∨ l = m) (lo m) (hi m) := gq_ed (Or.inr rfl)
    have w : ∀ {x y}, gq_cn lo hi P x y → gq_cn lo hi (fun l => P l ∨ l = m) x y := fun h => gq_mo (fun l hl => Or.inl hl) h
    intro h
    rcases h with h | ⟨h, k⟩ | ⟨h, k⟩
    · exact w h
    · exact gq_tr (w h) (gq_tr e (w k))
    · exact gq_tr (w h) (gq_tr (gq_sy e) (w k))
theorem gq_none (h : ∀ l, ¬ P l) : gq_cn lo hi P a b ↔ a = b := ⟨fun k => k (fun x y => x = y) (fun _ => rfl) (fun _ _ h => h.symm) (fun _ _ _ h k => h.trans k) (fun l hl => absurd hl (h l)), fun e => e ▸ gq_rf a⟩
/-- the least of its part -/
def gq_rep (lo hi : Nat → Nat) (P : Nat → Prop) (k : Nat) : Prop := ∀ j, j < k → ¬ gq_cn lo hi P j k
noncomputable def gq_dc (p : Prop) : Bool := @decide p (Classical.propDecidable p)
theorem gq_dc_t {p : Prop} : gq_dc p = true ↔ p := @decide_eq_true_iff p (Classical.propDecidable p)
theorem gq_dc_f {p : Prop} : gq_dc p = false ↔ ¬ p := @decide_eq_false_iff_not p (Classical.propDecidable p)
theorem gq_dc_c {p q : Prop} (h : p ↔ q) : gq_dc p = gq_dc q := by rw [propext h]
/-- how many parts -/
noncomputable def gq_cl (lo hi : Nat → Nat) (nd : Nat) (P : Nat → Prop) : Nat := fb_ct (fun k => gq_dc (gq_rep lo hi P k)) nd
theorem gq_cl_c (h : ∀ a b, gq_cn lo hi P a b ↔ gq_cn lo hi Q a b) : gq_cl lo hi nd P = gq_cl lo hi nd Q :=
  fb_ct_cong (fun k _ => gq_dc_c ⟨fun r j hj z => r j hj ((h j k).mpr z), fun r j hj z => r j hj ((h j k).mp z)⟩)
theorem gq_least (lo hi : Nat → Nat) (P : Nat → Prop) (x : Nat) : ∃ r, r ≤ x ∧ gq_cn lo hi P r x ∧ gq_rep lo hi P r := by
  obtain ⟨r, h1, h2⟩ := pk_least (fun j => gq_cn lo hi P j x) ⟨x, gq_rf x⟩
  refine ⟨r, Nat.le_of_not_lt (fun h => h2 x h (gq_rf x)), h1, fun j hj z => h2 j hj (gq_tr z h1)⟩
theorem gq_rep_one {r k : Nat} (h1 : gq_rep lo hi P r) (h2 : gq_rep lo hi P k) (h : gq_cn lo hi P r k) : r = k := by
  rcases Nat.lt_trichotomy r k with q | q | q
  · exact absurd h (h2 r q)
  · exact q
  · exact absurd (gq_sy h) (h1 k q)
theorem gq_cl_0 (h : ∀ l, ¬ P l) : gq_cl lo hi nd P = nd := fb_ct_all.mpr (fun k _ => gq_dc_t.mpr (fun j hj z => absurd ((gq_none h).mp z) (by omega)))
theorem gq_cl_old (h : gq_cn lo hi P (lo m) (hi m)) : gq_cl lo hi nd (fun l => P l ∨ l = m) = gq_cl lo hi nd P := by
  refine gq_cl_c (fun a b => ?_)
  rw [gq_add]
  constructor
  · intro z
    rcases z with z | ⟨z, y⟩ | ⟨z, y⟩
    · exact z
    · exact gq_tr z (gq_tr h y)
    · exact gq_tr z (gq_tr (gq_sy h) y)
  · exact Or.inl
theorem gq_cl_new (h : ¬ gq_cn lo hi P (lo m) (hi m)) (h1 : lo m < nd) (h2 : hi m < nd) : gq_cl lo hi nd (fun l => P l ∨ l = m) + 1 = gq_cl lo hi nd P := by
  obtain ⟨ra, a1, a2, a3⟩ := gq_least lo hi P (lo m)
  obtain ⟨rb, b1, b2, b3⟩ := gq_least lo hi P (hi m)
  have hne : ra ≠ rb := fun e => h (gq_tr (gq_sy a2) (e ▸ b2))
  have key : ∀ k, gq_rep lo hi (fun l => P l ∨ l = m) k ↔ gq_rep lo hi P k ∧ k ≠ max ra rb := by
    intro k
    constructor
    · intro r
      refine ⟨fun j hj z => r j hj (gq_add.mpr (Or.inl z)), fun e => ?_⟩
      rcases Nat.lt_or_ge ra rb with q | q
      · have : k = rb := by omega
        subst this
        exact r ra q (gq_add.mpr (Or.inr (Or.inl ⟨a2, gq_sy b2⟩)))
      · have : k = ra := by omega
        subst this
        exact r rb (by omega) (gq_add.mpr (Or.inr (Or.inr ⟨b2, gq_sy a2⟩)))
    · intro ⟨r, hk⟩ j hj z
      rcases gq_add.mp z with z | ⟨z, y⟩ | ⟨z, y⟩
      · exact r j hj z
      · have e : rb = k := gq_rep_one b3 r (gq_tr b2 y)
        have : ra ≤ j := Nat.le_of_not_lt (fun q => a3 j q (gq_tr z (gq_sy a2)))
        omega
      · have e : ra = k := gq_rep_one a3 r (gq_tr a2 y)
        have : rb ≤ j := Nat.le_of_not_lt (fun q => b3 j q (gq_tr z (gq_sy b2)))
        omega
  have u := fb_ct_upd (fun k => gq_dc (gq_rep lo hi P k)) false (i := max ra rb) (n := nd) (by omega)
  have e : gq_cl lo hi nd (fun l => P l ∨ l = m) = fb_ct (fun k => if k = max ra rb then false else gq_dc (gq_rep lo hi P k)) nd := by
    refine fb_ct_cong (fun k _ => ?_)
    by_cases hk : k = max ra rb
    · rw [if_pos hk]
      exact gq_dc_f.mpr (fun z => ((key k).mp z).2 hk)
    · rw [if_neg hk]
      exact gq_dc_c ⟨fun z => ((key k).mp z).1, fun z => (key k).mpr ⟨z, hk⟩⟩
  have hM : gq_dc (gq_rep lo hi P (max ra rb)) = true := by
    rw [gq_dc_t]
    rcases Nat.lt_or_ge ra rb with q | q
    · rw [Nat.max_eq_right (by omega)]; exact b3
    · rw [Nat.max_eq_left (by omega)]; exact a3
  rw [hM] at u
  rw [e]
  have u2 : fb_ct (fun k => if k = max ra rb then false else gq_dc (gq_rep lo hi P k)) nd + 1 = fb_ct (fun k => gq_dc (gq_rep lo hi P k)) nd + 0 := u
  exact u2
/-- lines looked at one after the other, m 0, m 1 ..: those of a set that join two parts, and the parts that are left, are as many as the nodes -/
theorem gq_seq (bt : Nat → Bool) (mm : Nat → Nat) : ∀ k, (∀ i, i < k → lo (mm i) < nd ∧ hi (mm i) < nd) → fb_ct (fun i => bt (mm i) && gq_dc (¬ gq_cn lo hi (fun l => ∃ j, j < i ∧ mm j = l ∧ bt l = true) (lo (mm i)) (hi (mm i)))) k + gq_cl lo hi nd (fun l => ∃ j, j < k ∧ mm j = l ∧ bt l = true) = nd
  | 0, _ => by
    rw [gq_cl_0 (fun l ⟨j, hj, _⟩ => by omega)]
    show 0 + nd = nd
    omega
  | k + 1, hb => by
    have ih := gq_seq bt mm k (fun i hi => hb i (by omega))
    rw [fb_ct_succ]
    by_cases hbt : bt (mm k) = true
    · have e : ∀ l, (∃ j, j < k + 1 ∧ mm j = l ∧ bt l = true) ↔ ((∃ j, j < k ∧ mm j = l ∧ bt l = true) ∨ l = mm k) := by
        intro l
        constructor
        · intro ⟨j, h1, h2, h3⟩
          by_cases hj : j = k
          · subst hj; exact Or.inr h2.symm
          · exact Or.inl ⟨j, by omega, h2, h3⟩
        · intro h
          rcases h with ⟨j, h1, h2, h3⟩ | rfl
          · exact ⟨j, by omega, h2, h3⟩
          · exact ⟨k, by omega, rfl, hbt⟩
      rw [gq_cl_c (fun a b => gq_iff e)]
      by_cases hc : gq_cn lo hi (fun l => ∃ j, j < k ∧ mm j = l ∧ bt l = true) (lo (mm k)) (hi (mm k))
      · rw [gq_cl_old hc, gq_dc_f.mpr (fun z => z hc)]
        simp
        exact ih
      · have := gq_cl_new (nd := nd) hc (hb k (by omega)).1 (hb k (by omega)).2
        rw [gq_dc_t.mpr hc, hbt]
        simp
        omega
    · have e : ∀ l, (∃ j, j < k + 1 ∧ mm j = l ∧ bt l = true) ↔ (∃ j, j < k ∧ mm j = l ∧ bt l = true) := by
        intro l
        constructor
        · intro ⟨j, h1, h2, h3⟩
          by_cases hj : j = k
          · subst hj; subst h2; exact absurd h3 hbt
          · exact ⟨j, by omega, h2, h3⟩
        · intro ⟨j, h1, h2, h3⟩
          exact ⟨j, by omega, h2, h3⟩
      rw [gq_cl_c (fun a b => gq_iff e)]
      have : bt (mm k) = false := by simpa using hbt
      rw [this]
      simp
      exact ih
end GQ
theorem ct_eq_all {p q : Nat → Bool} : ∀ {n : Nat}, (∀ k, k < n → p k = true → q k = true) → fb_ct p n = fb_ct q n → ∀ k, k < n → q k = true → p k = true
  | 0, _, _, k, hk, _ => by omega
  | n + 1, hs, he, k, hk, hq => by
    have h1 := fb_ct_sub (p := p) (q := q) (n := n) (fun k hk => hs k (by omega))
    rw [fb_ct_succ, fb_ct_succ] at he
    by_cases hn : k = n
    · subst hn
      rw [if_pos hq] at he
      by_cases hp : p k = true
      · exact hp
      · rw [if_neg hp] at he; omega
    · have : fb_ct p n = fb_ct q n := by
        by_cases hp : p n = true
        · rw [if_pos hp, if_pos (hs n (by omega) hp)] at he; omega
        · rw [if_neg hp] at he
          split at he <;> omega
      exact ct_eq_all (fun k hk => hs k (by omega)) this k (by omega) hq
theorem ct_rev (p : Nat → Bool) : ∀ n, fb_ct (fun i => p (n - 1 - i)) n = fb_ct p n
  | 0 => rfl
  | n + 1 => by
    rw [fb_ct_succ]
    have e : fb_ct (fun i => p (n + 1 - 1 - i)) n = fb_ct (fun i => (fun k => p (1 + k)) (n - 1 - i)) n := fb_ct_cong (fun k hk => by show p _ = p _; congr 1; omega)
    rw [e, ct_rev (fun k => p (1 + k)) n, show n + 1 = 1 + n from by omega, fb_ct_split p 1 n, show 1 + n - 1 - n = 0 from by omega]
    rw [show fb_ct p 1 = 0 + (if p 0 then 1 else 0) from rfl]
    omega
/-! no ring: from below, from above -/
def gq_ac (lo hi : Nat → Nat) (s : Nat) : Prop := ∀ l, s.testBit l = true → ¬ gq_cn lo hi (fun j => s.testBit j = true ∧ j < l) (lo l) (hi l)
def gq_ad (lo hi : Nat → Nat) (s : Nat) : Prop := ∀ l, s.testBit l = true → ¬ gq_cn lo hi (fun j => s.testBit j = true ∧ l < j) (lo l) (hi l)
theorem gq_ac_iff {lo hi : Nat → Nat} {nd n s : Nat} (hs : s < 2 ^ n) (hb : ∀ i, i < n → lo i < nd ∧ hi i < nd) : gq_ac lo hi s ↔ fb_ct s.testBit n + gq_cl lo hi nd (fun l => s.testBit l = true) = nd := by
  have sm : ∀ l, s.testBit l = true → l < n := fun l hl => Nat.lt_of_not_le (fun q => by rw [Nat.testBit_lt_two_pow (Nat.lt_of_lt_of_le hs (Nat.pow_le_pow_right (by decide) q))] at hl; cases hl)
  have k := gq_seq (lo := lo) (hi := hi) (nd := nd) s.testBit (fun i => i) n hb
  have e1 : gq_cl lo hi nd (fun l => ∃ j, j < n ∧ j = l ∧ s.testBit l = true) = gq_cl lo hi nd (fun l => s.testBit l = true) :=
    gq_cl_c (fun a b => gq_iff (fun l => ⟨fun ⟨j, _, _, h⟩ => h, fun h => ⟨l, sm l h, rfl, h⟩⟩))
  rw [e1] at k
  have e2 : ∀ i, gq_cn lo hi (fun l => ∃ j, j < i ∧ j = l ∧ s.testBit l = true) (lo i) (hi i) ↔ gq_cn lo hi (fun j => s.testBit j = true ∧ j < i) (lo i) (hi i) :=
    fun i => gq_iff (fun l => ⟨fun ⟨j, h1, h2, h3⟩ => ⟨h3, h2 ▸ h1⟩, fun ⟨h1, h2⟩ => ⟨l, h2, rfl, h1⟩⟩)
  have sub := fb_ct_sub (p := fun i => s.testBit i && gq_dc (¬ gq_cn lo hi (fun l => ∃ j, j < i ∧ j = l ∧ s.testBit l = true) (lo i) (hi i))) (q := s.testBit) (n := n) (fun k _ h => by simp at h; exact h.1)
  constructor
  · intro h
    have : fb_ct (fun i => s.testBit i && gq_dc (¬ gq_cn lo hi (fun l => ∃ j, j < i ∧ j = l ∧ s.testBit l = true) (lo i) (hi i))) n = fb_ct s.testBit n := by
      refine fb_ct_cong (fun i _ => ?_)
      by_cases hi2 : s.testBit i = true
      · rw [hi2, gq_dc_t.mpr (fun z => h i hi2 ((e2 i).mp z))]; rfl
      · have : s.testBit i = false := by simpa using hi2
        rw [this]; rfl
    rw [this] at k
    exact k
  · intro h l hl z
    have := ct_eq_all (fun k _ h => by simp at h; exact h.1) (by omega : fb_ct (fun i => s.testBit i && gq_dc (¬ gq_cn lo hi (fun l => ∃ j, j < i ∧ j = l ∧ s.testBit l = true) (lo i) (hi i))) n = fb_ct s.testBit n) l (sm l hl) hl
    simp only [Bool.and_eq_true] at this
    exact gq_dc_t.mp this.2 ((e2 l).mpr z)
theorem gq_ad_iff {lo hi : Nat → Nat} {nd n s : Nat} (hs : s < 2 ^ n) (hb : ∀ i, i < n → lo i < nd ∧ hi i < nd) : gq_ad lo hi s ↔ fb_ct s.testBit n + gq_cl lo hi nd (fun l => s.testBit l = true) = nd := by
  have sm : ∀ l, s.testBit l = true → l < n := fun l hl => Nat.lt_of_not_le (fun q => by rw [Nat.testBit_lt_two_pow (Nat.lt_of_lt_of_le hs (Nat.pow_le_pow_right (by decide) q))] at hl; cases hl)
  have k := gq_seq (lo := lo) (hi := hi) (nd := nd) s.testBit (fun i => n - 1 - i) n (fun i hi => hb _ (by omega))
  have e1 : gq_cl lo hi nd (fun l => ∃ j, j < n ∧ n - 1 - j = l ∧ s.testBit l = true) = gq_cl lo hi nd (fun l => s.testBit l = true) :=
    gq_cl_c (fun a b => gq_iff (fun l => ⟨fun ⟨j, _, _, h⟩ => h, fun h => ⟨n - 1 - l, by have := sm l h; omega, by have := sm l h; omega, h⟩⟩))
  rw [e1] at k
  have e2 : ∀ i, i < n → (gq_cn lo hi (fun l => ∃ j, j < i ∧ n - 1 - j = l ∧ s.testBit l = true) (lo (n - 1 - i)) (hi (n - 1 - i)) ↔ gq_cn lo hi (fun j => s.testBit j = true ∧ n - 1 - i < j) (lo (n - 1 - i)) (hi (n - 1 - i))) :=
    fun i hi => gq_iff (fun l => ⟨fun ⟨j, h1, h2, h3⟩ => ⟨h3, by omega⟩, fun ⟨h1, h2⟩ => ⟨n - 1 - l, by have := sm l h1; omega, by have := sm l h1; omega, h1⟩⟩)
  have sub := fb_ct_sub (p := fun i => s.testBit (n - 1 - i) && gq_dc (¬ gq_cn lo hi (fun l => ∃ j, j < i ∧ n - 1 - j = l ∧ s.testBit l = true) (lo (n - 1 - i)) (hi (n - 1 - i)))) (q := fun i => s.testBit (n - 1 - i)) (n := n) (fun k _ h => by simp only [Bool.and_eq_true] at h; exact h.1)
  have er := ct_rev s.testBit n
  constructor
  · intro h
    have : fb_ct (fun i => s.testBit (n - 1 - i) && gq_dc (¬ gq_cn lo hi (fun l => ∃ j, j < i ∧ n - 1 - j = l ∧ s.testBit l = true) (lo (n - 1 - i)) (hi (n - 1 - i)))) n = fb_ct (fun i => s.testBit (n - 1 - i)) n := by
      refine fb_ct_cong (fun i hi2 => ?_)
      by_cases hi3 : s.testBit (n - 1 - i) = true
      · rw [hi3, gq_dc_t.mpr (fun z => h _ hi3 ((e2 i hi2).mp z))]; rfl
      · have : s.testBit (n - 1 - i) = false := by simpa using hi3
        rw [this]; rfl
    rw [this, er] at k
    exact k
  · intro h l hl z
    have hl2 := sm l hl
    have hx : n - 1 - (n - 1 - l) = l := by omega
    have := ct_eq_all (fun k _ h => by simp only [Bool.and_eq_true] at h; exact h.1) (by omega : fb_ct (fun i => s.testBit (n - 1 - i) && gq_dc (¬ gq_cn lo hi (fun l => ∃ j, j < i ∧ n - 1 - j = l ∧ s.testBit l = true) (lo (n - 1 - i)) (hi (n - 1 - i)))) n = fb_ct (fun i => s.testBit (n - 1 - i)) n) (n - 1 - l) (by omega) (by rw [hx]; exact hl)
    simp only [Bool.and_eq_true] at this
    refine gq_dc_t.mp this.2 ((e2 (n - 1 - l) (by omega)).mpr ?_)
    rw [hx]
    exact z
theorem gq_ac_ad {lo hi : Nat → Nat} {nd n s : Nat} (hs : s < 2 ^ n) (hb : ∀ i, i < n → lo i < nd ∧ hi i < nd) : gq_ac lo hi s ↔ gq_ad lo hi s := by rw [gq_ac_iff hs hb, gq_ad_iff hs hb]
theorem gq_ac_sub {lo hi : Nat → Nat} {s t : Nat} (h : gq_ac lo hi s) (ht : ∀ j, t.testBit j = true → s.testBit j = true) : gq_ac lo hi t := fun l hl z => h l (ht l hl) (gq_mo (fun j hj => ⟨ht j hj.1, hj.2⟩) z)
theorem gq_ac_lt {lo hi : Nat → Nat} {nd n s : Nat} (hn : 0 < nd) (hs : s < 2 ^ n) (hb : ∀ i, i < n → lo i < nd ∧ hi i < nd) (h : gq_ac lo hi s) : fb_ct s.testBit n + 1 ≤ nd := by
  have e := (gq_ac_iff hs hb).mp h
  have : 0 < gq_cl lo hi nd (fun l => s.testBit l = true) := fb_ct_pos.mpr ⟨0, hn, gq_dc_t.mpr (fun j hj => by omega)⟩
  omega
