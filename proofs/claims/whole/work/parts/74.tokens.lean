/-! tokens of a text -/
theorem uu_self {N : ux_N} {h k : Nat} {v : Int32} (e : N h k = v) : ux_u N h k v = N := by
  funext a j
  by_cases ha : a = h
  · subst ha
    rw [uu_same]
    by_cases hj : j = k
    · rw [if_pos hj, hj, e]
    · rw [if_neg hj]
  · rw [uu_ne _ _ _ ha]
theorem uu_uu (N : ux_N) (h k : Nat) (v w : Int32) : ux_u (ux_u N h k v) h k w = ux_u N h k w := by
  funext a j
  by_cases ha : a = h
  · subst ha
    rw [uu_same, uu_same, uu_same]
    by_cases hj : j = k
    · rw [if_pos hj, if_pos hj]
    · rw [if_neg hj, if_neg hj, if_neg hj]
  · rw [uu_ne _ _ _ ha, uu_ne _ _ _ ha, uu_ne _ _ _ ha]
theorem uu_at (N : ux_N) (h k : Nat) (v : Int32) : ux_u N h k v h k = v := by rw [uu_same, if_pos rfl]
theorem uu_off (N : ux_N) {h k j : Nat} (v : Int32) (e : j ≠ k) : ux_u N h k v h j = N h j := by rw [uu_same, if_neg e]
def nxF (P : Nat → Bool) (lt : Nat) : Nat → Nat → Nat
  | 0, p => p
  | n + 1, p => if p < lt ∧ P p = true then nxF P lt n (p + 1) else p
def nx (P : Nat → Bool) (lt p : Nat) : Nat := nxF P lt (lt - p) p
theorem nxF_spec (P : Nat → Bool) (lt : Nat) : ∀ n p, n = lt - p → p ≤ nxF P lt n p ∧ (p ≤ lt → nxF P lt n p ≤ lt) ∧ (∀ q, p ≤ q → q < nxF P lt n p → q < lt ∧ P q = true) ∧ ¬ (nxF P lt n p < lt ∧ P (nxF P lt n p) = true)
  | 0, p, h => ⟨Nat.le_refl _, fun z => z, fun q h1 h2 => by unfold nxF at h2; omega, fun z => by have := z.1; unfold nxF at this; omega⟩
  | n + 1, p, h => by
    unfold nxF
    by_cases c : p < lt ∧ P p = true
    · rw [if_pos c]
      obtain ⟨i1, i2, i3, i4⟩ := nxF_spec P lt n (p + 1) (by omega)
      refine ⟨by omega, fun _ => i2 (by omega), fun q h1 h2 => ?_, i4⟩
      by_cases e : q = p
      · subst e; exact c
      · exact i3 q (by omega) h2
    · rw [if_neg c]
      exact ⟨Nat.le_refl _, fun z => z, fun q h1 h2 => by omega, c⟩
theorem nx_spec (P : Nat → Bool) (lt p : Nat) : p ≤ nx P lt p ∧ (p ≤ lt → nx P lt p ≤ lt) ∧ (∀ q, p ≤ q → q < nx P lt p → q < lt ∧ P q = true) ∧ ¬ (nx P lt p < lt ∧ P (nx P lt p) = true) := nxF_spec P lt _ p rfl
theorem lp_ptr {b : ux_N → Option (ux_N ⊕ ux_N)} {N : ux_N} {h k : Nat} {P : Nat → Bool} {lt p : Nat} (hp : p ≤ lt) (hl : lt ≤ 200) (e0 : N h k = nI p) (step : ∀ q, q ≤ lt → b (ux_u N h k (nI q)) = some (if q < lt ∧ P q = true then .inl (ux_u N h k (nI (q + 1))) else .inr (ux_u N h k (nI q)))) : ux_lp b ux_fu N = some (ux_u N h k (nI (nx P lt p))) := by
  obtain ⟨i1, i2, i3, i4⟩ := nx_spec P lt p
  have i2 := i2 hp
  refine lp_at (fun i => ux_u N h k (nI (p + i))) (nx P lt p - p) (uu_self e0).symm (by omega) (fun i hi => ?_) ?_
  · rw [step (p + i) (by omega), if_pos (i3 _ (by omega) (by omega))]; rfl
  · rw [show p + (nx P lt p - p) = nx P lt p from by omega, step _ i2, if_neg i4]
def kdc (c : Nat) : Nat := if 97 ≤ c ∧ c ≤ 122 then 1 else if 48 ≤ c ∧ c ≤ 57 then 2 else 3
theorem kd_c : ∀ c, c < 256 → fX4_kindOf (nI c) = some (nI (kdc c)) := by decide +kernel
theorem kd_l : ∀ c, c < 256 → fX12_isLetter (nI c) = some (if kdc c = 1 then 1 else 0) := by decide +kernel
theorem kd_d : ∀ c, c < 256 → fX12_isDigit (nI c) = some (if kdc c = 2 then 1 else 0) := by decide +kernel
theorem kd_3 (c : Nat) : kdc c = 1 ∨ kdc c = 2 ∨ kdc c = 3 := by
  unfold kdc
  split
  · exact Or.inl rfl
  · split
    · exact Or.inr (Or.inl rfl)
    · exact Or.inr (Or.inr rfl)
section TOK
variable (lt : Nat) (tx : Nat → Nat)
def tkS (p : Nat) : Nat := nx (fun q => tx q == 32) lt p
def tkK (p : Nat) : Nat := if tkS lt tx p < lt then kdc (tx (tkS lt tx p)) else 0
def tkE (p : Nat) : Nat := if tkS lt tx p < lt then (if kdc (tx (tkS lt tx p)) = 3 then tkS lt tx p + 1 else nx (fun q => kdc (tx q) == kdc (tx (tkS lt tx p))) lt (tkS lt tx p + 1)) else tkS lt tx p
theorem tk_b {p : Nat} (hp : p ≤ lt) : p ≤ tkS lt tx p ∧ tkS lt tx p ≤ lt ∧ tkS lt tx p ≤ tkE lt tx p ∧ tkE lt tx p ≤ lt ∧ (tkS lt tx p < lt → tkS lt tx p < tkE lt tx p) := by
  obtain ⟨i1, i2, i3, i4⟩ := nx_spec (fun q => tx q == 32) lt p
  have a1 : p ≤ tkS lt tx p := i1
  have a2 : tkS lt tx p ≤ lt := i2 hp
  unfold tkE
  by_cases c : tkS lt tx p < lt
  · rw [if_pos c]
    by_cases c3 : kdc (tx (tkS lt tx p)) = 3
    · rw [if_pos c3]; omega
    · rw [if_neg c3]
      obtain ⟨j1, j2, j3, j4⟩ := nx_spec (fun q => kdc (tx q) == kdc (tx (tkS lt tx p))) lt (tkS lt tx p + 1)
      have j2 := j2 (by omega)
      omega
  · rw [if_neg c]; omega
end TOK
section TOC
variable {lt : Nat} {tx : Nat → Nat} {N : ux_N}
def txC (N : ux_N) (lt : Nat) (tx : Nat → Nat) : Prop := lt ≤ 200 ∧ N 9 0 = nI lt ∧ ∀ k, k < lt → N 18 k = nI (tx k) ∧ tx k ≤ 255
def txM (N : ux_N) (lt : Nat) (tx : Nat → Nat) : Prop := lt ≤ 200 ∧ N 0 9 = nI lt ∧ ∀ k, k < lt → N 5 k = nI (tx k) ∧ tx k ≤ 255
theorem cc_advance (h : txC N lt tx) {p : Nat} (hp : p ≤ lt) (e6 : N 9 6 = nI p) : ∃ N', fX4_advance N = some N' ∧ (∀ a, a ≠ 9 → N' a = N a) ∧ (∀ j, j ≠ 4 → j ≠ 5 → j ≠ 6 → N' 9 j = N 9 j) ∧ N' 9 4 = nI (tkK lt tx p) ∧ N' 9 5 = nI (tkS lt tx p) ∧ N' 9 6 = nI (tkE lt tx p) := by
  obtain ⟨h1, h2, h3⟩ := h
  have l1 : ux_lp (fun s : ux_N => fX4_advance_8b s) ux_fu (ux_u N 9 5 (nI p)) = some (ux_u (ux_u N 9 5 (nI p)) 9 5 (nI (tkS lt tx p))) := by
    refine lp_ptr hp h1 (by rw [uu_same, if_pos rfl]) (fun q hq => ?_)
    rw [uu_uu, uu_uu]
    show fX4_advance_8b (ux_u N 9 5 (nI q)) = _
    unfold fX4_advance_8b
    rw [uu_off _ _ (by decide : (0 : Nat) ≠ 5), uu_at, h2]
    by_cases c : q < lt
    · rw [if_neg (fun w => by have := (nI_leI (by omega) (by omega)).mp w; omega), pb_in (by omega) (by decide), if_pos rfl, nI_clamp (by omega), uu_ne _ _ _ (by decide : (18 : Nat) ≠ 9), (h3 q c).1, show nI q + (1 : Int32) = nI (q + 1) from nI_add q 1, uu_uu]
      have b := (h3 q c).2
      by_cases c2 : tx q = 32
      · rw [if_pos (show nI (tx q) = (32 : Int32) from by rw [c2]; rfl), if_pos ⟨c, by simp [c2]⟩]
      · rw [if_neg (show ¬ _ = (32 : Int32) from fun w => c2 ((nI_eq (b := 32) (by omega) (by decide)).mp w)), if_neg (fun w => c2 (by simpa using w.2))]
    · rw [if_pos ((nI_leI (by omega) (by omega)).mpr (by omega)), if_neg (fun w => c w.1)]
  obtain ⟨b1, b2, b3, b4, b5⟩ := tk_b lt tx hp
  have l2 : fX4_advance N = fX4_advance_46 (ux_u N 9 5 (nI (tkS lt tx p))) := by
    unfold fX4_advance
    rw [e6, l1, uu_uu]; rfl
  rw [l2]
  by_cases c : tkS lt tx p < lt
  · have bx := (h3 _ c).2
    have l3 : ux_lp (fun s : ux_N => fX4_advance_97b s) ux_fu (ux_u (ux_u (ux_u (ux_u N 9 5 (nI (tkS lt tx p))) 9 6 (nI (tkS lt tx p))) 9 4 (nI (tkK lt tx p))) 9 6 (nI (tkS lt tx p + 1))) = some (ux_u (ux_u (ux_u (ux_u (ux_u N 9 5 (nI (tkS lt tx p))) 9 6 (nI (tkS lt tx p))) 9 4 (nI (tkK lt tx p))) 9 6 (nI (tkS lt tx p + 1))) 9 6 (nI (tkE lt tx p))) := by
      have ek : tkK lt tx p = kdc (tx (tkS lt tx p)) := by unfold tkK; rw [if_pos c]
      rw [ek]
      generalize hM : ux_u (ux_u (ux_u (ux_u N 9 5 (nI (tkS lt tx p))) 9 6 (nI (tkS lt tx p))) 9 4 (nI (kdc (tx (tkS lt tx p))))) 9 6 (nI (tkS lt tx p + 1)) = M
      have m4 : M 9 4 = nI (kdc (tx (tkS lt tx p))) := by rw [← hM, uu_same, if_neg (by decide), uu_same, if_pos rfl]
      have m6 : M 9 6 = nI (tkS lt tx p + 1) := by rw [← hM, uu_same, if_pos rfl]
      have m0 : M 9 0 = nI lt := by rw [← hM, uu_same, if_neg (by decide), uu_same, if_neg (by decide), uu_same, if_neg (by decide), uu_same, if_neg (by decide)]; exact h2
      have m18 : M 18 = N 18 := by rw [← hM, uu_ne _ _ _ (by decide), uu_ne _ _ _ (by decide), uu_ne _ _ _ (by decide), uu_ne _ _ _ (by decide)]
      by_cases c3 : kdc (tx (tkS lt tx p)) = 3
      · have ee : tkE lt tx p = tkS lt tx p + 1 := by unfold tkE; rw [if_pos c, if_pos c3]
        rw [ee, uu_self m6]
        refine lp_at (fun _ => M) 0 rfl (by decide) (fun i hi => by omega) ?_
        show fX4_advance_97b M = _
        unfold fX4_advance_97b
        rw [m4, c3, if_pos (show nI 3 = (3 : Int32) from rfl)]
      · have ee : tkE lt tx p = nx (fun q => kdc (tx q) == kdc (tx (tkS lt tx p))) lt (tkS lt tx p + 1) := by unfold tkE; rw [if_pos c, if_neg c3]
        rw [ee]
        have k3 := kd_3 (tx (tkS lt tx p))
        refine lp_ptr (by omega) h1 m6 (fun q hq => ?_)
        show fX4_advance_97b (ux_u M 9 6 (nI q)) = _
        unfold fX4_advance_97b
        rw [uu_off _ _ (by decide : (4 : Nat) ≠ 6), uu_off _ _ (by decide : (0 : Nat) ≠ 6), uu_at, m4, m0, if_neg (show ¬ _ = (3 : Int32) from fun w => c3 ((nI_eq (b := 3) (by omega) (by decide)).mp w))]
        by_cases cq : q < lt
        · have kq := kd_3 (tx q)
          rw [if_neg (fun w => by have := (nI_leI (by omega) (by omega)).mp w; omega), pb_in (by omega) (by decide), if_pos rfl, nI_clamp (by omega), uu_ne _ _ _ (by decide : (18 : Nat) ≠ 9), m18, (h3 q cq).1, kd_c _ (by have := (h3 q cq).2; omega), Option.bind_some, show nI q + (1 : Int32) = nI (q + 1) from nI_add q 1, uu_uu]
          by_cases c2 : kdc (tx q) = kdc (tx (tkS lt tx p))
          · rw [if_pos (by rw [c2]), if_pos ⟨cq, by simp [c2]⟩]
          · rw [if_neg (fun w => c2 ((nI_eq (by omega) (by omega)).mp w)), if_neg (fun w => c2 (by simpa using w.2))]
        · rw [if_pos ((nI_leI (by omega) (by omega)).mpr (by omega)), if_neg (fun w => cq w.1)]
    refine ⟨ux_u (ux_u (ux_u (ux_u (ux_u N 9 5 (nI (tkS lt tx p))) 9 6 (nI (tkS lt tx p))) 9 4 (nI (tkK lt tx p))) 9 6 (nI (tkS lt tx p + 1))) 9 6 (nI (tkE lt tx p)), ?_, fun a ha => ?_, fun j h4 h5 h6 => ?_, ?_, ?_, ?_⟩
    · unfold fX4_advance_46
      have r5 : ux_u N 9 5 (nI (tkS lt tx p)) 9 5 = nI (tkS lt tx p) := by rw [uu_same, if_pos rfl]
      have r5' : ux_u (ux_u N 9 5 (nI (tkS lt tx p))) 9 6 (nI (tkS lt tx p)) 9 5 = nI (tkS lt tx p) := by rw [uu_same, if_neg (by decide)]; exact r5
      have r0 : ux_u (ux_u N 9 5 (nI (tkS lt tx p))) 9 6 (nI (tkS lt tx p)) 9 0 = nI lt := by rw [uu_same, if_neg (by decide), uu_same, if_neg (by decide)]; exact h2
      have ek : kdc (tx (tkS lt tx p)) = tkK lt tx p := by unfold tkK; rw [if_pos c]
      rw [r5, r5', r0, if_pos ((nI_ltI (by omega) (by omega)).mpr c), pb_in (by omega) (by decide), if_pos rfl, nI_clamp (by omega), uu_ne _ _ _ (by decide : (18 : Nat) ≠ 9), uu_ne _ _ _ (by decide : (18 : Nat) ≠ 9), (h3 _ c).1, kd_c _ (by omega), ek, Option.bind_some, uu_off _ _ (by decide : (6 : Nat) ≠ 4), uu_at, show nI (tkS lt tx p) + (1 : Int32) = nI (tkS lt tx p + 1) from nI_add _ 1, l3, Option.bind_some]
      rfl
    · rw [uu_ne _ _ _ ha, uu_ne _ _ _ ha, uu_ne _ _ _ ha, uu_ne _ _ _ ha, uu_ne _ _ _ ha]
    · rw [uu_same, if_neg h6, uu_same, if_neg h6, uu_same, if_neg h4, uu_same, if_neg h6, uu_same, if_neg h5]
    · rw [uu_same, if_neg (by decide), uu_same, if_neg (by decide), uu_same, if_pos rfl]
    · rw [uu_same, if_neg (by decide), uu_same, if_neg (by decide), uu_same, if_neg (by decide), uu_same, if_neg (by decide), uu_same, if_pos rfl]
    · rw [uu_same, if_pos rfl]
  · have ek : tkK lt tx p = 0 := by unfold tkK; rw [if_neg c]
    have ee : tkE lt tx p = tkS lt tx p := by unfold tkE; rw [if_neg c]
    rw [ek, ee]
    refine ⟨ux_u (ux_u (ux_u N 9 5 (nI (tkS lt tx p))) 9 6 (nI (tkS lt tx p))) 9 4 (0 : Int32), ?_, fun a ha => ?_, fun j h4 h5 h6 => ?_, ?_, ?_, ?_⟩
    · unfold fX4_advance_46
      rw [uu_at N 9 5, uu_off _ _ (by decide : (5 : Nat) ≠ 6), uu_at N 9 5, uu_off _ _ (by decide : (0 : Nat) ≠ 6), uu_off _ _ (by decide : (0 : Nat) ≠ 5), h2, if_neg (fun w => c ((nI_ltI (by omega) (by omega)).mp w))]
    · rw [uu_ne _ _ _ ha, uu_ne _ _ _ ha, uu_ne _ _ _ ha]
    · rw [uu_same, if_neg h4, uu_same, if_neg h6, uu_same, if_neg h5]
    · rw [uu_same, if_pos rfl]; rfl
    · rw [uu_same, if_neg (by decide), uu_same, if_neg (by decide), uu_same, if_pos rfl]
    · rw [uu_same, if_neg (by decide), uu_same, if_pos rfl]
theorem lm_next (h : txM N lt tx) {p : Nat} (hp : p ≤ lt) (e6 : N 0 17 = nI p) : ∃ N', fX12_nextToken N = some N' ∧ (∀ a, a ≠ 0 → N' a = N a) ∧ (∀ j, j ≠ 16 → j ≠ 17 → N' 0 j = N 0 j) ∧ N' 0 16 = nI (tkS lt tx p) ∧ N' 0 17 = nI (tkE lt tx p) := by
  obtain ⟨h1, h2, h3⟩ := h
  have l1 : ux_lp (fun s : ux_N => fX12_nextToken_8b s) ux_fu (ux_u N 0 16 (nI p)) = some (ux_u (ux_u N 0 16 (nI p)) 0 16 (nI (tkS lt tx p))) := by
    refine lp_ptr hp h1 (by rw [uu_same, if_pos rfl]) (fun q hq => ?_)
    rw [uu_uu, uu_uu]
    show fX12_nextToken_8b (ux_u N 0 16 (nI q)) = _
    unfold fX12_nextToken_8b
    rw [uu_off _ _ (by decide : (9 : Nat) ≠ 16), uu_at, h2]
    by_cases c : q < lt
    · rw [if_neg (fun w => by have := (nI_leI (by omega) (by omega)).mp w; omega), pb_in (by omega) (by decide), if_pos rfl, nI_clamp (by omega), uu_ne _ _ _ (by decide : (5 : Nat) ≠ 0), (h3 q c).1, show nI q + (1 : Int32) = nI (q + 1) from nI_add q 1, uu_uu]
      have b := (h3 q c).2
      by_cases c2 : tx q = 32
      · rw [if_pos (show nI (tx q) = (32 : Int32) from by rw [c2]; rfl), if_pos ⟨c, by simp [c2]⟩]
      · rw [if_neg (show ¬ _ = (32 : Int32) from fun w => c2 ((nI_eq (b := 32) (by omega) (by decide)).mp w)), if_neg (fun w => c2 (by simpa using w.2))]
    · rw [if_pos ((nI_leI (by omega) (by omega)).mpr (by omega)), if_neg (fun w => c w.1)]
  obtain ⟨b1, b2, b3, b4, b5⟩ := tk_b lt tx hp
  have r16 : ux_u N 0 16 (nI (tkS lt tx p)) 0 16 = nI (tkS lt tx p) := by rw [uu_same, if_pos rfl]
  have r9 : ux_u N 0 16 (nI (tkS lt tx p)) 0 9 = nI lt := by rw [uu_same, if_neg (by decide)]; exact h2
  have l2 : fX12_nextToken N = fX12_nextToken_46 (ux_u N 0 16 (nI (tkS lt tx p))) := by
    unfold fX12_nextToken
    rw [e6, l1, uu_uu]; rfl
  rw [l2]
  suffices hs : ∃ v, fX12_nextToken_46 (ux_u N 0 16 (nI (tkS lt tx p))) = some (ux_u (ux_u (ux_u N 0 16 (nI (tkS lt tx p))) 0 17 v) 0 17 (nI (tkE lt tx p))) by
    obtain ⟨v, hv⟩ := hs
    refine ⟨_, hv, fun a ha => ?_, fun j h4 h5 => ?_, ?_, ?_⟩
    · rw [uu_ne _ _ _ ha, uu_ne _ _ _ ha, uu_ne _ _ _ ha]
    · rw [uu_same, if_neg h5, uu_same, if_neg h5, uu_same, if_neg h4]
    · rw [uu_same, if_neg (by decide), uu_same, if_neg (by decide), uu_same, if_pos rfl]
    · rw [uu_same, if_pos rfl]
  unfold fX12_nextToken_46
  rw [r9, r16]
  by_cases c : tkS lt tx p < lt
  · rw [if_neg (fun w => by have := (nI_leI (by omega) (by omega)).mp w; omega), show nI (tkS lt tx p) + (1 : Int32) = nI (tkS lt tx p + 1) from nI_add _ 1]
    refine ⟨nI (tkS lt tx p + 1), ?_⟩
    generalize hM : ux_u (ux_u N 0 16 (nI (tkS lt tx p))) 0 17 (nI (tkS lt tx p + 1)) = M
    have m16 : M 0 16 = nI (tkS lt tx p) := by rw [← hM, uu_same, if_neg (by decide)]; exact r16
    have m17 : M 0 17 = nI (tkS lt tx p + 1) := by rw [← hM, uu_same, if_pos rfl]
    have m9 : M 0 9 = nI lt := by rw [← hM, uu_same, if_neg (by decide)]; exact r9
    have m5 : M 5 = N 5 := by rw [← hM, uu_ne _ _ _ (by decide), uu_ne _ _ _ (by decide)]
    have bx := (h3 _ c).2
    unfold fX12_nextToken_71
    rw [hM, m9, m16, if_neg (fun w => by have := (nI_leI (by omega) (by omega)).mp w; omega), pb_in (by omega) (by decide), if_pos rfl, nI_clamp (by omega), m5, (h3 _ c).1, kd_l _ (by omega), Option.bind_some]
    rcases kd_3 (tx (tkS lt tx p)) with k | k | k
    · have ee : tkE lt tx p = nx (fun q => kdc (tx q) == 1) lt (tkS lt tx p + 1) := by unfold tkE; rw [if_pos c, if_neg (by omega), k]
      have l3 : ux_lp (fun s : ux_N => fX12_nextToken_100b s) ux_fu M = some (ux_u M 0 17 (nI (tkE lt tx p))) := by
        rw [ee]
        refine lp_ptr (by omega) h1 m17 (fun q hq => ?_)
        show fX12_nextToken_100b (ux_u M 0 17 (nI q)) = _
        unfold fX12_nextToken_100b
        rw [uu_off _ _ (by decide : (9 : Nat) ≠ 17), uu_at, m9]
        by_cases cq : q < lt
        · rw [if_neg (fun w => by have := (nI_leI (by omega) (by omega)).mp w; omega), pb_in (by omega) (by decide), if_pos rfl, nI_clamp (by omega), uu_ne _ _ _ (by decide : (5 : Nat) ≠ 0), m5, (h3 q cq).1, kd_l _ (by have := (h3 q cq).2; omega), Option.bind_some, show nI q + (1 : Int32) = nI (q + 1) from nI_add q 1, uu_uu]
          by_cases c2 : kdc (tx q) = 1
          · rw [if_pos c2, if_neg (by decide), if_pos ⟨cq, by simp [c2]⟩]
          · rw [if_neg c2, if_pos rfl, if_neg (fun w => c2 (by simpa using w.2))]
        · rw [if_pos ((nI_leI (by omega) (by omega)).mpr (by omega)), if_neg (fun w => cq w.1)]
      rw [if_pos k, if_neg (by decide), l3]; rfl
    · have ee : tkE lt tx p = nx (fun q => kdc (tx q) == 2) lt (tkS lt tx p + 1) := by unfold tkE; rw [if_pos c, if_neg (by omega), k]
      have l3 : ux_lp (fun s : ux_N => fX12_nextToken_165b s) ux_fu M = some (ux_u M 0 17 (nI (tkE lt tx p))) := by
        rw [ee]
        refine lp_ptr (by omega) h1 m17 (fun q hq => ?_)
        show fX12_nextToken_165b (ux_u M 0 17 (nI q)) = _
        unfold fX12_nextToken_165b
        rw [uu_off _ _ (by decide : (9 : Nat) ≠ 17), uu_at, m9]
        by_cases cq : q < lt
        · rw [if_neg (fun w => by have := (nI_leI (by omega) (by omega)).mp w; omega), pb_in (by omega) (by decide), if_pos rfl, nI_clamp (by omega), uu_ne _ _ _ (by decide : (5 : Nat) ≠ 0), m5, (h3 q cq).1, kd_d _ (by have := (h3 q cq).2; omega), Option.bind_some, show nI q + (1 : Int32) = nI (q + 1) from nI_add q 1, uu_uu]
          by_cases c2 : kdc (tx q) = 2
          · rw [if_pos c2, if_neg (by decide), if_pos ⟨cq, by simp [c2]⟩]
          · rw [if_neg c2, if_pos rfl, if_neg (fun w => c2 (by simpa using w.2))]
        · rw [if_pos ((nI_leI (by omega) (by omega)).mpr (by omega)), if_neg (fun w => cq w.1)]
      unfold fX12_nextToken_139
      rw [show (if kdc (tx (tkS lt tx p)) = 1 then (1 : Int32) else 0) = 0 from if_neg (by omega), if_pos rfl, m9, m16, if_neg (fun w => by have := (nI_leI (by omega) (by omega)).mp w; omega), pb_in (by omega) (by decide), if_pos rfl, nI_clamp (by omega), m5, (h3 _ c).1, kd_d _ (by omega), Option.bind_some, if_pos k, if_neg (by decide), l3]; rfl
    · have ee : tkE lt tx p = tkS lt tx p + 1 := by unfold tkE; rw [if_pos c, if_pos k]
      unfold fX12_nextToken_139 fX12_nextToken_204
      rw [show (if kdc (tx (tkS lt tx p)) = 1 then (1 : Int32) else 0) = 0 from if_neg (by omega), if_pos rfl, m9, m16, if_neg (fun w => by have := (nI_leI (by omega) (by omega)).mp w; omega), pb_in (by omega) (by decide), if_pos rfl, nI_clamp (by omega), m5, (h3 _ c).1, kd_d _ (by omega), Option.bind_some, show (if kdc (tx (tkS lt tx p)) = 2 then (1 : Int32) else 0) = 0 from if_neg (by omega), if_pos rfl, ee, uu_self m17]
  · have ee : tkE lt tx p = tkS lt tx p := by unfold tkE; rw [if_neg c]
    refine ⟨nI (tkS lt tx p), ?_⟩
    have m16 : ux_u (ux_u N 0 16 (nI (tkS lt tx p))) 0 17 (nI (tkS lt tx p)) 0 16 = nI (tkS lt tx p) := by rw [uu_same, if_neg (by decide)]; exact r16
    have m9 : ux_u (ux_u N 0 16 (nI (tkS lt tx p))) 0 17 (nI (tkS lt tx p)) 0 9 = nI lt := by rw [uu_same, if_neg (by decide)]; exact r9
    have q : nI lt ≤ nI (tkS lt tx p) := (nI_leI (by omega) (by omega)).mpr (by omega)
    unfold fX12_nextToken_71 fX12_nextToken_139 fX12_nextToken_204
    rw [if_pos q, m9, m16, if_pos q, if_pos q, ee, uu_uu]
end TOC
