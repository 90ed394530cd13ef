/-! arguments of every kind -/
theorem i32_cases (x : Int32) : x < 0 ∨ ∃ n, n < 2 ^ 31 ∧ x = nI n := by
  by_cases h : x < 0
  · exact Or.inl h
  · refine Or.inr ⟨x.toInt.toNat, ?_, ?_⟩
    · have h1 := Int32.toInt_lt x
      omega
    · have h0 : 0 ≤ x.toInt := by
        rw [fa_lt] at h
        have : (0 : Int32).toInt = 0 := rfl
        omega
      rw [fa_eq]
      have h1 := Int32.toInt_lt x
      show x.toInt = (Int32.ofNat x.toInt.toNat).toInt
      rw [Int32.toInt_ofNat_of_lt (by omega)]
      omega
section FAC
variable {N : ux_N} {nd ln me : Nat}
theorem in_neg {x z : Int32} (hx : x < 0) : fX12_in x.toInt64 (0 : Int64) z.toInt64 = some 0 := by
  rw [show (0 : Int64) = (0 : Int32).toInt64 from rfl, pm_in, if_neg]
  intro z
  rw [fa_le] at z
  rw [fa_lt] at hx
  omega
theorem in_m1 {n k : Nat} (hn : n < 2 ^ 31) (hk : k < 2 ^ 31) : fX12_in (nI n).toInt64 (0 : Int64) (nI k - (1 : Int32)).toInt64 = some (if n < k then 1 else 0) := by
  rw [show (0 : Int64) = (0 : Int32).toInt64 from rfl, pm_in]
  by_cases e : k = 0
  · subst e
    rw [if_neg, if_neg (by omega)]
    intro ⟨_, z⟩
    rw [fa_le] at z
    have : (nI 0 - (1 : Int32)).toInt = -1 := by decide
    have h0 : ¬ nI n < 0 := pb_lt0 hn
    rw [fa_lt] at h0
    have : (0 : Int32).toInt = 0 := rfl
    omega
  · rw [li_1, pk_sub (by omega)]
    by_cases q : n < k
    · rw [if_pos q, if_pos ⟨(nI_leI (a := 0) (by decide) hn).mpr (Nat.zero_le _), (nI_leI hn (by omega)).mpr (by omega)⟩]
    · rw [if_neg q, if_neg (fun z => by have := (nI_leI hn (by omega)).mp z.2; omega)]
theorem ub_if (c : Prop) [Decidable c] : ux_b (if c then (1 : Int32) else 0) = true := by
  by_cases h : c
  · rw [if_pos h]; rfl
  · rw [if_neg h]; rfl
theorem fm_isLine (h : N 0 2 = nI ln) (hl : ln < 2 ^ 31) {n : Nat} (hn : n < 2 ^ 31) : fX12_isLine (nI n) N = some (if n < ln then 1 else 0) := by
  unfold fX12_isLine
  rw [h, in_m1 hn hl, Option.bind_some, ub_if, if_pos rfl]
theorem fm_isLineN {x : Int32} (hx : x < 0) : fX12_isLine x N = some 0 := by
  unfold fX12_isLine
  rw [in_neg hx]; rfl
theorem fm_isNode (h : N 0 1 = nI nd) (hl : nd < 2 ^ 31) {n : Nat} (hn : n < 2 ^ 31) : fX12_isNode (nI n) N = some (if n < nd then 1 else 0) := by
  unfold fX12_isNode
  rw [h, in_m1 hn hl, Option.bind_some, ub_if, if_pos rfl]
theorem fm_isNodeN {x : Int32} (hx : x < 0) : fX12_isNode x N = some 0 := by
  unfold fX12_isNode
  rw [in_neg hx]; rfl
theorem fm_isMeter (h : N 1 0 = nI me) (hl : me < 2 ^ 31) {n : Nat} (hn : n < 2 ^ 31) : fX12_isMeter (nI n) N = some (if n < me then 1 else 0) := by
  unfold fX12_isMeter
  rw [h, in_m1 hn hl, Option.bind_some, ub_if, if_pos rfl]
theorem fm_isMeterN {x : Int32} (hx : x < 0) : fX12_isMeter x N = some 0 := by
  unfold fX12_isMeter
  rw [in_neg hx]; rfl
theorem fm_isThere {lo hi : Nat → Nat} (hp : plM N nd ln lo hi) {s n : Nat} (hs : s < 2 ^ 31) (hn : n < 2 ^ 31) : fX12_isThere (nI s) (nI n) N = some (if n < (if s < 2 then ln else nd) then 1 else 0) := by
  have hpb := hp.2.2.1
  unfold fX12_isThere fX12_isOnLine
  by_cases q : s < 2
  · rw [if_neg (fun z => by have := (nI_leI (a := 2) (by decide) hs).mp z; omega), if_pos q]
    show (fX12_isLine (nI n) N).bind _ = _
    rw [fm_isLine hp.2.1 (by omega) hn, Option.bind_some]
    unfold fX12_isThere_20
    rw [ub_if, if_pos rfl]
  · rw [if_pos (show (2 : Int32) ≤ nI s from (nI_leI (a := 2) (by decide) hs).mpr (by omega)), if_neg q]
    show (fX12_isNode (nI n) N).bind _ = _
    rw [fm_isNode hp.1 (by omega) hn, Option.bind_some]
    unfold fX12_isThere_20
    rw [ub_if, if_pos rfl]
theorem fm_isThereN {x : Int32} (s : Int32) (hx : x < 0) : fX12_isThere s x N = some 0 := by
  unfold fX12_isThere fX12_isOnLine
  by_cases q : (2 : Int32) ≤ s
  · rw [if_pos q]
    show (fX12_isNode x N).bind _ = _
    rw [fm_isNodeN hx]; rfl
  · rw [if_neg q]
    show (fX12_isLine x N).bind _ = _
    rw [fm_isLineN hx]; rfl
end FAC
