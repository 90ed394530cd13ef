/-! loops of the pure side -/
theorem lp_for {S E : Type} {b : S → Option (S ⊕ E)} (st : Nat → S) (n : Nat) {e : E} (hs : ∀ i, i < n → b (st i) = some (.inl (st (i + 1)))) (hx : b (st n) = some (.inr e)) : ∀ (f : Nat), n < f → ux_lp b f (st 0) = some e := by
  have key : ∀ k i, i + k = n → ∀ f, k < f → ux_lp b f (st i) = some e := by
    intro k
    induction k with
    | zero =>
      intro i hi f hf
      obtain ⟨f, rfl⟩ : ∃ g, f = g + 1 := ⟨f - 1, by omega⟩
      have : i = n := by omega
      subst this
      show (b (st i)).bind _ = _
      rw [hx]
      rfl
    | succ k ih =>
      intro i hi f hf
      obtain ⟨f, rfl⟩ : ∃ g, f = g + 1 := ⟨f - 1, by omega⟩
      show (b (st i)).bind _ = _
      rw [hs i (by omega)]
      exact ih (i + 1) (by omega) f (by omega)
  exact fun f hf => key n 0 (by omega) f hf
theorem lp_at {S E : Type} {b : S → Option (S ⊕ E)} (st : Nat → S) (n : Nat) {s0 : S} {e : E} (h0 : s0 = st 0) (hn : n < 1048576) (hs : ∀ i, i < n → b (st i) = some (.inl (st (i + 1)))) (hx : b (st n) = some (.inr e)) : ux_lp b ux_fu s0 = some e := by
  subst h0
  exact lp_for st n hs hx ux_fu hn
/-- a loop with an invariant: I i s at the i-th time at its head -/
theorem lp_inv {S E : Type} {b : S → Option (S ⊕ E)} (I : Nat → S → Prop) (Q : E → Prop) (n : Nat) {s0 : S} (h0 : I 0 s0) (hn : n < 1048576)
    (hs : ∀ i s, i < n → I i s → (∃ s', b s = some (.inl s') ∧ I (i + 1) s') ∨ ∃ e, b s = some (.inr e) ∧ Q e) (hx : ∀ s, I n s → ∃ e, b s = some (.inr e) ∧ Q e) : ∃ e, ux_lp b ux_fu s0 = some e ∧ Q e := by
  have key : ∀ k i s, i + k = n → I i s → ∀ f, k < f → ∃ e, ux_lp b f s = some e ∧ Q e := by
    intro k
    induction k with
    | zero =>
      intro i s hi hI f hf
      obtain ⟨f, rfl⟩ : ∃ g, f = g + 1 := ⟨f - 1, by omega⟩
      have : i = n := by omega
      subst this
      obtain ⟨e, he, hQ⟩ := hx s hI
      refine ⟨e, ?_, hQ⟩
      show (b s).bind _ = _
      rw [he]
      rfl
    | succ k ih =>
      intro i s hi hI f hf
      obtain ⟨f, rfl⟩ : ∃ g, f = g + 1 := ⟨f - 1, by omega⟩
      rcases hs i s (by omega) hI with ⟨s', h1, h2⟩ | ⟨e, h1, h2⟩
      · obtain ⟨e, he, hQ⟩ := ih (i + 1) s' (by omega) h2 f (by omega)
        refine ⟨e, ?_, hQ⟩
        show (b s).bind _ = _
        rw [h1]
        exact he
      · refine ⟨e, ?_, h2⟩
        show (b s).bind _ = _
        rw [h1]
        rfl
  exact key n 0 s0 (by omega) h0 ux_fu hn
/-! small numbers -/
theorem pb_lit (n : Nat) : (OfNat.ofNat n : Int32) = nI n := rfl
theorem pb_in {k n : Nat} (h : k < n) (hn : n < 2 ^ 31) : ux_in (nI k) n = true := decide_eq_true (vp_in_nI h hn)
theorem pb_le_l {n k : Nat} (hn : n < 2 ^ 31) (hk : k < 2 ^ 31) : ((OfNat.ofNat n : Int32) ≤ nI k) ↔ n ≤ k := nI_leI hn hk
theorem pb_le_r {n k : Nat} (hn : n < 2 ^ 31) (hk : k < 2 ^ 31) : (nI k ≤ (OfNat.ofNat n : Int32)) ↔ k ≤ n := nI_leI hk hn
theorem pb_lt_l {n k : Nat} (hn : n < 2 ^ 31) (hk : k < 2 ^ 31) : ((OfNat.ofNat n : Int32) < nI k) ↔ n < k := nI_ltI hn hk
theorem pb_lt_r {n k : Nat} (hn : n < 2 ^ 31) (hk : k < 2 ^ 31) : (nI k < (OfNat.ofNat n : Int32)) ↔ k < n := nI_ltI hk hn
theorem pb_eq_r {n k : Nat} (hn : n < 2 ^ 31) (hk : k < 2 ^ 31) : (nI k = (OfNat.ofNat n : Int32)) ↔ k = n := nI_eq hk hn
theorem pb_add (k n : Nat) : nI k + (OfNat.ofNat n : Int32) = nI (k + n) := nI_add k n
theorem pb_sub {k n : Nat} (h : n ≤ k) : nI k - (OfNat.ofNat n : Int32) = nI (k - n) := pk_sub h
theorem pb_mul (k n : Nat) : nI k * (OfNat.ofNat n : Int32) = nI (k * n) := pk_mul k n
theorem pb_mull (k n : Nat) : (OfNat.ofNat n : Int32) * nI k = nI (n * k) := pk_mul n k
theorem pb_m1 {k : Nat} (hk : k < 2 ^ 31) : ¬ nI k = (-1 : Int32) := by
  intro h
  have h1 := nI_toInt hk
  rw [h] at h1
  have : (-1 : Int32).toInt = -1 := by decide
  omega
theorem pb_m1' {k : Nat} (hk : k < 2 ^ 31) : ¬ (-1 : Int32) = nI k := fun h => pb_m1 hk h.symm
theorem pb_lt0 {k : Nat} (hk : k < 2 ^ 31) : ¬ nI k < 0 := nI_pos hk
theorem pb_eq0 {k : Nat} (hk : k < 2 ^ 31) : nI k = 0 ↔ k = 0 := nI_eq (b := 0) hk (by decide)
theorem pb_0lt {k : Nat} (hk : k < 2 ^ 31) : 0 < nI k ↔ 0 < k := nI_ltI (a := 0) (by decide) hk
theorem pb_le0 {k : Nat} (hk : k < 2 ^ 31) : nI k ≤ 0 ↔ k = 0 := by
  have : nI k ≤ nI 0 ↔ k ≤ 0 := nI_leI hk (by omega)
  rw [show (0 : Int32) = nI 0 from rfl, this]; omega
/-! bits -/
def bsN (p : Nat → Bool) : Nat → Nat
  | 0 => 0
  | n + 1 => bsN p n + if p n then 2 ^ n else 0
theorem bsN_lt (p : Nat → Bool) : ∀ n, bsN p n < 2 ^ n
  | 0 => Nat.one_pos
  | n + 1 => by
    have := bsN_lt p n
    have e : 2 ^ (n + 1) = 2 ^ n + 2 ^ n := by rw [Nat.pow_succ]; omega
    unfold bsN
    split <;> omega
theorem tb_add_pow {a i : Nat} (h : a < 2 ^ i) (j : Nat) : (a + 2 ^ i).testBit j = (if j = i then true else a.testBit j) := by
  have e : a + 2 ^ i = 2 ^ i * 1 + a := by omega
  rw [e]
  by_cases hj : j = i
  · subst hj
    rw [if_pos rfl, Nat.testBit_two_pow_mul_add _ h]
    simp
  · rw [if_neg hj, Nat.testBit_two_pow_mul_add _ h]
    split
    · rfl
    · rename_i h2
      have : i < j := by omega
      have h3 : a.testBit j = false := Nat.testBit_lt_two_pow (Nat.lt_of_lt_of_le h (Nat.pow_le_pow_right (by decide) (Nat.le_of_lt this)))
      rw [h3]
      have : j - i ≠ 0 := by omega
      exact Bool.eq_false_iff.mpr (fun q => this (Nat.testBit_one_eq_true_iff_self_eq_zero.mp q))
theorem bsN_tb (p : Nat → Bool) : ∀ n j, (bsN p n).testBit j = (decide (j < n) && p j)
  | 0, j => by simp [bsN]
  | n + 1, j => by
    unfold bsN
    by_cases hp : p n
    · rw [if_pos hp, tb_add_pow (bsN_lt p n)]
      by_cases hj : j = n
      · subst hj; simp [hp]
      · rw [if_neg hj, bsN_tb p n j]
        have : (decide (j < n)) = decide (j < n + 1) := by congr 1; apply propext; omega
        rw [this]
    · rw [if_neg hp, Nat.add_zero, bsN_tb p n j]
      by_cases hj : j = n
      · subst hj; simp [hp]
      · have : (decide (j < n)) = decide (j < n + 1) := by congr 1; apply propext; omega
        rw [this]
theorem tb_ext {a b n : Nat} (ha : a < 2 ^ n) (hb : b < 2 ^ n) (h : ∀ j, j < n → a.testBit j = b.testBit j) : a = b := by
  apply Nat.eq_of_testBit_eq
  intro j
  by_cases hj : j < n
  · exact h j hj
  · have e := Nat.pow_le_pow_right (n := 2) (by decide) (Nat.le_of_not_lt hj)
    rw [Nat.testBit_lt_two_pow (Nat.lt_of_lt_of_le ha e), Nat.testBit_lt_two_pow (Nat.lt_of_lt_of_le hb e)]
theorem bsN_self {s n : Nat} (h : s < 2 ^ n) : bsN s.testBit n = s := tb_ext (bsN_lt _ n) h (fun j hj => by rw [bsN_tb]; simp [hj])
theorem bsN_cong {p q : Nat → Bool} : ∀ n, (∀ j, j < n → p j = q j) → bsN p n = bsN q n
  | 0, _ => rfl
  | n + 1, h => by rw [bsN, bsN, bsN_cong n (fun j hj => h j (by omega)), h n (by omega)]
theorem pb_or {a i : Nat} (h : a < 2 ^ i) : nI a ||| nI (2 ^ i) = nI (a + 2 ^ i) := by
  rw [fa_or]
  congr 1
  apply Nat.eq_of_testBit_eq
  intro j
  rw [Nat.testBit_or, tb_add_pow h, Nat.testBit_two_pow]
  by_cases hj : j = i
  · subst hj; simp
  · have : ¬ i = j := fun q => hj q.symm
    simp [hj, this]
