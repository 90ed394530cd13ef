/-! what the reference does at a clause -/
def dMl (N : ux_N) (D : drT) : Prop := (N 0 1 = nI (dNd D) ∧ N 0 2 = nI (dLn D) ∧ N 0 4 = nI (dOf D)) ∧ (∀ k, k < dLn D → N 2 (2 * k) = nI (dLo D k) ∧ N 2 (2 * k + 1) = nI (dHi D k)) ∧ (∀ k, k < dOf D → N 3 (3 * k) = nI (dOs D k) ∧ N 3 (3 * k + 1) = nI (dOa D k) ∧ N 3 (3 * k + 2) = nI (dOp D k)) ∧ stM N 0 (dTm D) (dTs D) (dTa D) 0 0
/-- cells that a clause that is done may change -/
def dFr (N N' : ux_N) : Prop := (∀ a, a ≠ 0 → a ≠ 1 → a ≠ 2 → a ≠ 3 → N' a = N a) ∧ (∀ j, j ≠ 1 → j ≠ 2 → j ≠ 4 → N' 0 j = N 0 j) ∧ ∀ k, 21 ≤ k → N' 1 k = N 1 k
section DOE
variable {N : ux_N} {D : drT}
theorem dMl_fr {N' : ux_N} (h : dMl N D) (e1 : N' 0 1 = N 0 1) (e2 : N' 0 2 = N 0 2) (e4 : N' 0 4 = N 0 4) (r1 : N' 1 = N 1) (r2 : N' 2 = N 2) (r3 : N' 3 = N 3) : dMl N' D := by
  unfold dMl
  rw [e1, e2, e4, r2, r3]
  exact ⟨h.1, h.2.1, h.2.2.1, stM_fr h.2.2.2 r1⟩
theorem dm_grid {v : Nat} (e : N 11 0 = nI v) (D : drT) : ∃ N', fX12_does (6 : Int32) N = some N' ∧ dMl N' (dGrid v D) ∧ dFr N N' := by
  refine ⟨ux_u (ux_u (ux_u (ux_u (ux_u (ux_u N 0 1 (nI v)) 0 2 (0 : Int32)) 0 4 (0 : Int32)) 1 0 (0 : Int32)) 1 1 (0 : Int32)) 1 2 (0 : Int32), ?_, ⟨⟨?_, ?_, ?_⟩, fun k hk => absurd hk (Nat.not_lt_zero k), fun k hk => absurd hk (Nat.not_lt_zero k), ?_, ?_, ?_, fun k hk => absurd hk (Nat.not_lt_zero k)⟩, fun a h0 h1 h2 h3 => ?_, fun j h1 h2 h4 => ?_, fun k hk => ?_⟩
  · unfold fX12_does fX12_anew fX12_does_194
    rw [if_neg (by decide), if_pos rfl, e]; rfl
  · rw [uu_ne _ _ _ (by decide), uu_ne _ _ _ (by decide), uu_ne _ _ _ (by decide), uu_off _ _ (by decide), uu_off _ _ (by decide), uu_at]; rfl
  · rw [uu_ne _ _ _ (by decide), uu_ne _ _ _ (by decide), uu_ne _ _ _ (by decide), uu_off _ _ (by decide), uu_at]; rfl
  · rw [uu_ne _ _ _ (by decide), uu_ne _ _ _ (by decide), uu_ne _ _ _ (by decide), uu_at]; rfl
  · rw [uu_off _ _ (by decide), uu_off _ _ (by decide), uu_at]; rfl
  · rw [uu_off _ _ (by decide), uu_at]; rfl
  · rw [uu_at]; rfl
  · rw [uu_ne _ _ _ h1, uu_ne _ _ _ h1, uu_ne _ _ _ h1, uu_ne _ _ _ h0, uu_ne _ _ _ h0, uu_ne _ _ _ h0]
  · rw [uu_ne _ _ _ (by decide), uu_ne _ _ _ (by decide), uu_ne _ _ _ (by decide), uu_off _ _ h4, uu_off _ _ h2, uu_off _ _ h1]
  · rw [uu_off _ _ (by omega), uu_off _ _ (by omega), uu_off _ _ (by omega), uu_ne _ _ _ (by decide), uu_ne _ _ _ (by decide), uu_ne _ _ _ (by decide)]
theorem dm_line (h : dMl N D) (hl : dLn D < 10) {a b : Nat} (ha : a < 2 ^ 31) (hb : b < 2 ^ 31) (hab : b ≠ a) (e0 : N 11 0 = nI a) (e1 : N 11 1 = nI b) : ∃ N', fX12_does (7 : Int32) N = some N' ∧ dMl N' (dLine a b D) ∧ dFr N N' := by
  obtain ⟨⟨x1, x2, x4⟩, r1, r2, r3⟩ := h
  have i2 : (2 : Int32) * nI (dLn D) = nI (2 * dLn D) := by rw [li_2, pk_mul]
  have i3 : nI (2 * dLn D) + (1 : Int32) = nI (2 * dLn D + 1) := nI_add _ 1
  have f81 : ∀ s0 : Int32, fX12_does_81 s0 (nI (2 * dLn D)) N = some (ux_u (ux_u (ux_u N 2 (2 * dLn D) s0) 2 (2 * dLn D + 1) (nI (if a < b then b else a))) 0 2 (nI (dLn D + 1))) := fun s0 => by
    unfold fX12_does_81 fX12_does_124 fX12_does_194
    rw [pb_in (by omega) (by decide), if_pos rfl, nI_clamp (by omega), uu_ne _ _ _ (by decide : (11 : Nat) ≠ 2), e0, e1, uu_ne _ _ _ (by decide : (0 : Nat) ≠ 2), x2, i2, i3, pb_in (by omega) (by decide), if_pos rfl, if_pos rfl, nI_clamp (by omega)]
    by_cases q : a < b
    · rw [if_neg (fun z => by have := (nI_leI hb ha).mp z; omega), if_pos q, uu_ne _ _ _ (by decide : (0 : Nat) ≠ 2), uu_ne _ _ _ (by decide : (0 : Nat) ≠ 2), x2, show nI (dLn D) + (1 : Int32) = nI (dLn D + 1) from nI_add _ 1]
    · rw [if_pos ((nI_leI hb ha).mpr (by omega)), if_neg q, uu_ne _ _ _ (by decide : (0 : Nat) ≠ 2), uu_ne _ _ _ (by decide : (0 : Nat) ≠ 2), x2, show nI (dLn D) + (1 : Int32) = nI (dLn D + 1) from nI_add _ 1]
  refine ⟨ux_u (ux_u (ux_u N 2 (2 * dLn D) (nI (if b < a then b else a))) 2 (2 * dLn D + 1) (nI (if a < b then b else a))) 0 2 (nI (dLn D + 1)), ?_, ⟨⟨?_, ?_, ?_⟩, fun k hk => ?_, fun k hk => ?_, ?_⟩, fun a h0 h1 h2 h3 => ?_, fun j h1 h2 h4 => ?_, fun k hk => ?_⟩
  · unfold fX12_does
    rw [if_neg (by decide), if_neg (by decide), if_pos rfl, e0, e1, x2, i2]
    by_cases q : b < a
    · rw [if_pos ((nI_leI hb ha).mpr (by omega)), if_pos q, f81]
    · rw [if_neg (fun z => by have := (nI_leI hb ha).mp z; omega), if_neg q, f81]
  · rw [uu_off _ _ (by decide), uu_ne _ _ _ (by decide), uu_ne _ _ _ (by decide)]; exact x1
  · rw [uu_at]; rfl
  · rw [uu_off _ _ (by decide), uu_ne _ _ _ (by decide), uu_ne _ _ _ (by decide)]; exact x4
  · have hk' : k < dLn D + 1 := hk
    rw [uu_ne _ _ _ (by decide : (2 : Nat) ≠ 0)]
    show _ = nI (fuS (dLo D) (dLn D) (if b < a then b else a) k) ∧ _ = nI (fuS (dHi D) (dLn D) (if a < b then b else a) k)
    by_cases e : k = dLn D
    · rw [e, uu_off _ _ (by omega : 2 * dLn D ≠ 2 * dLn D + 1), uu_at, uu_at, fuS_at, fuS_at]; exact ⟨rfl, rfl⟩
    · rw [uu_off _ _ (by omega : 2 * k ≠ 2 * dLn D + 1), uu_off _ _ (by omega : 2 * k ≠ 2 * dLn D), uu_off _ _ (by omega : 2 * k + 1 ≠ 2 * dLn D + 1), uu_off _ _ (by omega : 2 * k + 1 ≠ 2 * dLn D), fuS_off e, fuS_off e]; exact r1 k (by omega)
  · rw [uu_ne _ _ _ (by decide : (3 : Nat) ≠ 0), uu_ne _ _ _ (by decide : (3 : Nat) ≠ 2), uu_ne _ _ _ (by decide : (3 : Nat) ≠ 2)]; exact r2 k hk
  · exact stM_fr r3 (by rw [uu_ne _ _ _ (by decide), uu_ne _ _ _ (by decide), uu_ne _ _ _ (by decide)])
  · rw [uu_ne _ _ _ h0, uu_ne _ _ _ h2, uu_ne _ _ _ h2]
  · rw [uu_off _ _ h2, uu_ne _ _ _ (by decide), uu_ne _ _ _ (by decide)]
  · rw [uu_ne _ _ _ (by decide), uu_ne _ _ _ (by decide), uu_ne _ _ _ (by decide)]
theorem dm_offer (h : dMl N D) (hl : dOf D < 6) {s a p : Nat} (e0 : N 11 0 = nI s) (e1 : N 11 1 = nI a) (e2 : N 11 2 = nI p) : ∃ N', fX12_does (5 : Int32) N = some N' ∧ dMl N' (dOffer s a p D) ∧ dFr N N' := by
  obtain ⟨⟨x1, x2, x4⟩, r1, r2, r3⟩ := h
  have st : ∀ (M : ux_N) (k : Nat) (v : Int32), k < 3 → M 0 4 = nI (dOf D) → M 11 k = v → fX12_does_140b (nI k) M = some (.inl (nI (k + 1), ux_u M 3 (3 * dOf D + k) v)) := fun M k v hk h4 h11 => by
    unfold fX12_does_140b
    rw [if_neg (fun z => by have := (nI_leI (a := 3) (by decide) (by omega)).mp z; omega), pb_in hk (by decide), if_pos rfl, h4, li_3, pk_mul, nI_add, pb_in (by omega) (by decide), if_pos rfl, nI_clamp (by omega), nI_clamp (by omega), h11, show nI k + 1 = nI (k + 1) from nI_add k 1]
  have hl3 : ux_lp (fun t : Int32 × ux_N => fX12_does_140b t.1 t.2) ux_fu ((0 : Int32), N) = some (ux_u (ux_u (ux_u N 3 (3 * dOf D + 0) (nI s)) 3 (3 * dOf D + 1) (nI a)) 3 (3 * dOf D + 2) (nI p)) := by
    refine lp_at (fun i => match i with | 0 => (nI 0, N) | 1 => (nI 1, ux_u N 3 (3 * dOf D + 0) (nI s)) | 2 => (nI 2, ux_u (ux_u N 3 (3 * dOf D + 0) (nI s)) 3 (3 * dOf D + 1) (nI a)) | _ => (nI 3, ux_u (ux_u (ux_u N 3 (3 * dOf D + 0) (nI s)) 3 (3 * dOf D + 1) (nI a)) 3 (3 * dOf D + 2) (nI p))) 3 rfl (by decide) (fun i hi => ?_) ?_
    · rcases (show i = 0 ∨ i = 1 ∨ i = 2 by omega) with rfl | rfl | rfl
      · exact st N 0 _ (by decide) x4 e0
      · exact st (ux_u N 3 (3 * dOf D + 0) (nI s)) 1 _ (by decide) (by rw [uu_ne _ _ _ (by decide)]; exact x4) (by rw [uu_ne _ _ _ (by decide)]; exact e1)
      · exact st (ux_u (ux_u N 3 (3 * dOf D + 0) (nI s)) 3 (3 * dOf D + 1) (nI a)) 2 _ (by decide) (by rw [uu_ne _ _ _ (by decide), uu_ne _ _ _ (by decide)]; exact x4) (by rw [uu_ne _ _ _ (by decide), uu_ne _ _ _ (by decide)]; exact e2)
    · show fX12_does_140b (nI 3) _ = _
      unfold fX12_does_140b
      rw [if_pos (by decide)]; rfl
  refine ⟨ux_u (ux_u (ux_u (ux_u N 3 (3 * dOf D + 0) (nI s)) 3 (3 * dOf D + 1) (nI a)) 3 (3 * dOf D + 2) (nI p)) 0 4 (nI (dOf D + 1)), ?_, ⟨⟨?_, ?_, ?_⟩, fun k hk => ?_, fun k hk => ?_, ?_⟩, fun a h0 h1 h2 h3 => ?_, fun j h1 h2 h4 => ?_, fun k hk => ?_⟩
  · unfold fX12_does
    rw [if_pos rfl, hl3, Option.bind_some, uu_ne _ _ _ (by decide : (0 : Nat) ≠ 3), uu_ne _ _ _ (by decide : (0 : Nat) ≠ 3), uu_ne _ _ _ (by decide : (0 : Nat) ≠ 3), x4, show nI (dOf D) + (1 : Int32) = nI (dOf D + 1) from nI_add _ 1]
    rfl
  · rw [uu_off _ _ (by decide), uu_ne _ _ _ (by decide), uu_ne _ _ _ (by decide), uu_ne _ _ _ (by decide)]; exact x1
  · rw [uu_off _ _ (by decide), uu_ne _ _ _ (by decide), uu_ne _ _ _ (by decide), uu_ne _ _ _ (by decide)]; exact x2
  · rw [uu_at]; rfl
  · rw [uu_ne _ _ _ (by decide : (2 : Nat) ≠ 0), uu_ne _ _ _ (by decide : (2 : Nat) ≠ 3), uu_ne _ _ _ (by decide : (2 : Nat) ≠ 3), uu_ne _ _ _ (by decide : (2 : Nat) ≠ 3)]; exact r1 k hk
  · have hk' : k < dOf D + 1 := hk
    rw [uu_ne _ _ _ (by decide : (3 : Nat) ≠ 0)]
    show _ = nI (fuS (dOs D) (dOf D) s k) ∧ _ = nI (fuS (dOa D) (dOf D) a k) ∧ _ = nI (fuS (dOp D) (dOf D) p k)
    by_cases e : k = dOf D
    · rw [e, fuS_at, fuS_at, fuS_at]
      refine ⟨?_, ?_, ?_⟩
      · rw [uu_off _ _ (by omega), uu_off _ _ (by omega)]; exact uu_at _ _ _ _
      · rw [uu_off _ _ (by omega), uu_at]
      · rw [uu_at]
    · rw [fuS_off e, fuS_off e, fuS_off e]
      refine ⟨?_, ?_, ?_⟩
      · rw [uu_off _ _ (by omega), uu_off _ _ (by omega), uu_off _ _ (by omega)]; exact (r2 k (by omega)).1
      · rw [uu_off _ _ (by omega), uu_off _ _ (by omega), uu_off _ _ (by omega)]; exact (r2 k (by omega)).2.1
      · rw [uu_off _ _ (by omega), uu_off _ _ (by omega), uu_off _ _ (by omega)]; exact (r2 k (by omega)).2.2
  · exact stM_fr r3 (by rw [uu_ne _ _ _ (by decide), uu_ne _ _ _ (by decide), uu_ne _ _ _ (by decide), uu_ne _ _ _ (by decide)])
  · rw [uu_ne _ _ _ h0, uu_ne _ _ _ h3, uu_ne _ _ _ h3, uu_ne _ _ _ h3]
  · rw [uu_off _ _ h4, uu_ne _ _ _ (by decide), uu_ne _ _ _ (by decide), uu_ne _ _ _ (by decide)]
  · rw [uu_ne _ _ _ (by decide), uu_ne _ _ _ (by decide), uu_ne _ _ _ (by decide), uu_ne _ _ _ (by decide)]
/-- a meter more in the reference's row -/
theorem lm_addMeter {me : Nat} {so pl : Nat → Nat} {br cu : Nat} (h : stM N 0 me so pl br cu) (h9 : me < 9) (s a : Nat) : ∃ N', fX12_addMeter (nI s) (nI a) N = some N' ∧ stM N' 0 (me + 1) (fuS so me s) (fuS pl me a) br cu ∧ (∀ x, x ≠ 1 → N' x = N x) ∧ ∀ k, 21 ≤ k → N' 1 k = N 1 k := by
  obtain ⟨m0, m1, m2, m3⟩ := h
  refine ⟨ux_u (ux_u (ux_u N 1 (3 + me) (nI s)) 1 (12 + me) (nI a)) 1 0 (nI (me + 1)), ?_, ⟨?_, ?_, ?_, fun m hm => ⟨?_, ?_⟩⟩, fun x hx => ?_, fun k hk => ?_⟩
  · unfold fX12_addMeter fX12_addMeter_36
    rw [m0, li_3, li_12, nI_add, nI_add, pb_in (by omega) (by decide), if_pos rfl, pb_in (by omega) (by decide), if_pos rfl, nI_clamp (by omega), nI_clamp (by omega), uu_off _ _ (by omega : 0 ≠ 12 + me), uu_off _ _ (by omega : 0 ≠ 3 + me), m0, li_1, nI_add]
  · rw [uu_at]
  · rw [uu_off _ _ (by decide), uu_off _ _ (by omega), uu_off _ _ (by omega)]; exact m1
  · rw [uu_off _ _ (by decide), uu_off _ _ (by omega), uu_off _ _ (by omega)]; exact m2
  · rw [uu_off _ _ (by omega), uu_off _ _ (by omega)]
    by_cases e : m = me
    · subst e; rw [fuS_at, show 0 + 3 + m = 3 + m from by omega, uu_at]
    · rw [fuS_off e, uu_off _ _ (by omega)]; exact (m3 m (by omega)).1
  · rw [uu_off _ _ (by omega)]
    by_cases e : m = me
    · subst e; rw [fuS_at, show 0 + 12 + m = 12 + m from by omega, uu_at]
    · rw [fuS_off e, uu_off _ _ (by omega), uu_off _ _ (by omega)]; exact (m3 m (by omega)).2
  · rw [uu_ne _ _ _ hx, uu_ne _ _ _ hx, uu_ne _ _ _ hx]
  · rw [uu_off _ _ (by omega), uu_off _ _ (by omega), uu_off _ _ (by omega)]
theorem dm_meter (h : dMl N D) (hl : dTm D < 9) {w a : Nat} (hw : w < 5) (e0 : N 11 0 = nI a) : ∃ N', fX12_does (nI w) N = some N' ∧ dMl N' (dMeter w a D) ∧ dFr N N' := by
  obtain ⟨⟨x1, x2, x4⟩, r1, r2, r3⟩ := h
  obtain ⟨N', a0, a1, a2, a3⟩ := lm_addMeter r3 hl w a
  refine ⟨N', ?_, ⟨⟨?_, ?_, ?_⟩, fun k hk => ?_, fun k hk => ?_, a1⟩, fun a h0 h1 h2 h3 => a2 a h1, fun j h1 h2 h4 => by rw [a2 0 (by decide)], a3⟩
  · unfold fX12_does fX12_does_194
    rw [if_neg (show ¬ nI w = (5 : Int32) from fun z => by have := (nI_eq (b := 5) (by omega) (by decide)).mp z; omega), if_neg (show ¬ nI w = (6 : Int32) from fun z => by have := (nI_eq (b := 6) (by omega) (by decide)).mp z; omega), if_neg (show ¬ nI w = (7 : Int32) from fun z => by have := (nI_eq (b := 7) (by omega) (by decide)).mp z; omega), e0, a0]; rfl
  · rw [a2 0 (by decide)]; exact x1
  · rw [a2 0 (by decide)]; exact x2
  · rw [a2 0 (by decide)]; exact x4
  · rw [a2 2 (by decide)]; exact r1 k hk
  · rw [a2 3 (by decide)]; exact r2 k hk
end DOE
