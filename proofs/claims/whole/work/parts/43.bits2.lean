/-! bits of ints that are small naturals -/
theorem pb_shr {n k : Nat} (hn : n < 2 ^ 31) (hk : k < 32) : nI n >>> (nI k &&& 31) = nI (n / 2 ^ k) := pk_shrN hn _ k (s_l k hk)
theorem pb_bit {n k : Nat} (hn : n < 2 ^ 31) (hk : k < 32) : (nI n >>> (nI k &&& 31)) &&& (1 : Int32) = if n.testBit k = true then 1 else 0 := by
  rw [pb_shr hn hk, show (1 : Int32) = nI 1 from rfl, fa_and, Nat.and_one_is_mod, Nat.testBit_eq_decide_div_mod_eq]
  have : n / 2 ^ k % 2 = 0 ∨ n / 2 ^ k % 2 = 1 := by omega
  rcases this with h | h <;> rw [h] <;> rfl
theorem pb_bit1 {n k : Nat} (hn : n < 2 ^ 31) (hk : k < 32) : ((nI n >>> (nI k &&& 31)) &&& (1 : Int32) = (1 : Int32)) ↔ n.testBit k = true := by
  rw [pb_bit hn hk]
  cases n.testBit k <;> decide
theorem pb_bit0 {n k : Nat} (hn : n < 2 ^ 31) (hk : k < 32) : ((nI n >>> (nI k &&& 31)) &&& (1 : Int32) = 0) ↔ n.testBit k = false := by
  rw [pb_bit hn hk]
  cases n.testBit k <;> decide
theorem pb_pow {k : Nat} (hk : k < 31) : (1 : Int32) <<< (nI k &&& 31) = nI (2 ^ k) := by
  have h : 1 * 2 ^ k < 2 ^ 32 := by
    rw [Nat.one_mul]
    exact Nat.pow_lt_pow_right (by decide) (by omega)
  have := pk_shlN (n := 1) (nI k &&& 31) k (s_l k (by omega)) h
  rw [Nat.one_mul] at this
  exact this
theorem pb_powlt {k : Nat} (hk : k < 31) : 2 ^ k < 2 ^ 31 := Nat.pow_lt_pow_right (by decide) hk
theorem pb_all {k : Nat} (hk : k < 31) : ((1 : Int32) <<< (nI k &&& 31)) - (1 : Int32) = nI (2 ^ k - 1) := by
  rw [pb_pow hk, show (1 : Int32) = nI 1 from rfl, pk_sub (Nat.one_le_two_pow)]
theorem pb_bt (n i : Nat) (hi : i < 32) : bt (nI n) i = n.testBit i := by
  show (nI n).toBitVec.getLsbD i = _
  show (BitVec.ofNat 32 n).getLsbD i = _
  rw [BitVec.getLsbD_ofNat]
  simp [hi]
theorem pb_ext {x : Int32} {n : Nat} (h : ∀ i, i < 32 → bt x i = n.testBit i) : x = nI n := b_ext (fun i hi => by rw [h i hi, pb_bt n i hi])
/-- a without the bits of b -/
theorem pb_andn {a b n : Nat} (ha : a < 2 ^ n) (hn : n ≤ 32) : nI a &&& (nI b ^^^ (-1 : Int32)) = nI (bsN (fun j => a.testBit j && !b.testBit j) n) := by
  apply pb_ext
  intro i hi
  rw [b_and, b_xor, b_m1 i hi, pb_bt a i hi, pb_bt b i hi, bsN_tb]
  by_cases h : i < n
  · simp [h]
  · have : a.testBit i = false := Nat.testBit_lt_two_pow (Nat.lt_of_lt_of_le ha (Nat.pow_le_pow_right (by decide) (by omega)))
    simp [h, this]
theorem pb_or_bs {p q : Nat → Bool} {n : Nat} : nI (bsN p n) ||| nI (bsN q n) = nI (bsN (fun j => p j || q j) n) := by
  rw [fa_or]
  congr 1
  apply Nat.eq_of_testBit_eq
  intro j
  rw [Nat.testBit_or, bsN_tb, bsN_tb, bsN_tb]
  cases decide (j < n) <;> simp
theorem pb_and_bs {p q : Nat → Bool} {n : Nat} : nI (bsN p n) &&& nI (bsN q n) = nI (bsN (fun j => p j && q j) n) := by
  rw [fa_and]
  congr 1
  apply Nat.eq_of_testBit_eq
  intro j
  rw [Nat.testBit_and, bsN_tb, bsN_tb, bsN_tb]
  cases decide (j < n) <;> simp
theorem bsN_all : ∀ n, bsN (fun _ => true) n = 2 ^ n - 1
  | 0 => rfl
  | n + 1 => by
    rw [bsN, bsN_all n, if_pos rfl, Nat.pow_succ]
    have := Nat.one_le_two_pow (n := n)
    omega
theorem bsN_le30 {p : Nat → Bool} {n : Nat} (h : n ≤ 30) : bsN p n < 2 ^ 31 := Nat.lt_of_lt_of_le (bsN_lt p n) (Nat.pow_le_pow_right (by decide) (by omega))
theorem bsN_1024 {p : Nat → Bool} {n : Nat} (h : n ≤ 10) : bsN p n < 1024 := Nat.lt_of_lt_of_le (bsN_lt p n) (Nat.pow_le_pow_right (n := 2) (by decide) h)
theorem bsN_more {p : Nat → Bool} {n m : Nat} (h : n ≤ m) (hp : ∀ j, n ≤ j → j < m → p j = false) : bsN p m = bsN p n := by
  apply Nat.eq_of_testBit_eq
  intro j
  rw [bsN_tb, bsN_tb]
  by_cases h1 : j < n
  · have : j < m := by omega
    simp [h1, this]
  · by_cases h2 : j < m
    · simp [h1, h2, hp j (by omega) h2]
    · simp [h1, h2]
/-- counted over ten places -/
def pcn (s : Nat) : Nat := fb_ct s.testBit 10
theorem pcn_le (s : Nat) : pcn s ≤ 10 := fb_ct_le _ 10
theorem pb_bitCount : ∀ s, s < 1024 → fJ6_bitCount_0f7a4 (nI s) = some (nI (pcn s)) := by decide +kernel
def lwb (s : Nat) : Nat := fa_first s.testBit 10
theorem pb_lowest : ∀ s, s < 1024 → 0 < s → fX11_lowest (nI s) = some (nI (lwb s)) := by decide +kernel
theorem lwb_spec : ∀ s, s < 1024 → 0 < s → lwb s < 10 ∧ s.testBit (lwb s) = true ∧ (∀ j, j < lwb s → s.testBit j = false) := by decide +kernel
theorem pb_noleast : ∀ s, s < 1024 → nI s &&& (nI s - (1 : Int32)) = nI (s &&& (s - 1)) := by
  intro s hs
  by_cases h : s = 0
  · subst h; decide
  · rw [show (1 : Int32) = nI 1 from rfl, pk_sub (by omega), fa_and]
theorem noleast_tb : ∀ s, s < 1024 → ∀ j, j < 10 → (s &&& (s - 1)).testBit j = (s.testBit j && decide (∃ m, m < j ∧ s.testBit m = true)) := by decide +kernel
theorem noleast_lwb : ∀ s, s < 1024 → 0 < s → ∀ j, j < 10 → (s &&& (s - 1)).testBit j = (s.testBit j && !decide (j = lwb s)) := by decide +kernel
theorem noleast_lt : ∀ s, s < 1024 → 0 < s → (s &&& (s - 1)) < s := by decide +kernel
theorem xor_add : ∀ t, t < 1024 → ∀ l, l < 10 → t.testBit l = false → t ^^^ 2 ^ l = t + 2 ^ l := by decide +kernel
theorem xor_sub : ∀ t, t < 1024 → ∀ l, l < 10 → t.testBit l = true → t ^^^ 2 ^ l = t - 2 ^ l ∧ 2 ^ l ≤ t := by decide +kernel
