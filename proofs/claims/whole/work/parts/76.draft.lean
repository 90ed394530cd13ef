/-! what a text tells, clause by clause -/
abbrev drT : Type := (Nat × Nat × Nat × Nat) × ((Nat → Nat) × (Nat → Nat)) × ((Nat → Nat) × (Nat → Nat)) × ((Nat → Nat) × (Nat → Nat) × (Nat → Nat))
def dNd (D : drT) : Nat := D.1.1
def dLn (D : drT) : Nat := D.1.2.1
def dTm (D : drT) : Nat := D.1.2.2.1
def dOf (D : drT) : Nat := D.1.2.2.2
def dLo (D : drT) : Nat → Nat := D.2.1.1
def dHi (D : drT) : Nat → Nat := D.2.1.2
def dTs (D : drT) : Nat → Nat := D.2.2.1.1
def dTa (D : drT) : Nat → Nat := D.2.2.1.2
def dOs (D : drT) : Nat → Nat := D.2.2.2.1
def dOa (D : drT) : Nat → Nat := D.2.2.2.2.1
def dOp (D : drT) : Nat → Nat := D.2.2.2.2.2
def fuS (f : Nat → Nat) (k v : Nat) : Nat → Nat := fun j => if j = k then v else f j
theorem fuS_at (f : Nat → Nat) (k v : Nat) : fuS f k v k = v := if_pos rfl
theorem fuS_off {f : Nat → Nat} {k v j : Nat} (h : j ≠ k) : fuS f k v j = f j := if_neg h
def dGrid (v : Nat) (D : drT) : drT := ((v, 0, 0, 0), D.2)
def dLine (a b : Nat) (D : drT) : drT := ((dNd D, dLn D + 1, dTm D, dOf D), (fuS (dLo D) (dLn D) (if b < a then b else a), fuS (dHi D) (dLn D) (if a < b then b else a)), D.2.2)
def dMeter (s a : Nat) (D : drT) : drT := ((dNd D, dLn D, dTm D + 1, dOf D), D.2.1, (fuS (dTs D) (dTm D) s, fuS (dTa D) (dTm D) a), D.2.2.2)
def dOffer (s a p : Nat) (D : drT) : drT := ((dNd D, dLn D, dTm D, dOf D + 1), D.2.1, D.2.2.1, (fuS (dOs D) (dOf D) s, fuS (dOa D) (dOf D) a, fuS (dOp D) (dOf D) p))
def dPl (D : drT) (s : Nat) : Nat := if s < 2 then dLn D else dNd D
def dBd (D : drT) : Prop := (2 ≤ dNd D ∧ dNd D ≤ 8 ∧ dLn D ≤ 10) ∧ (∀ k, k < dLn D → dLo D k < dHi D k ∧ dHi D k < dNd D) ∧ stB (dNd D) (dLn D) (dTm D) (dTs D) (dTa D) 0 0 ∧ ofB (dNd D) (dLn D) (dOf D) (dOs D) (dOa D) (dOp D)
theorem dB_grid {v : Nat} (h1 : 2 ≤ v) (h2 : v < 9) (D : drT) : dBd (dGrid v D) :=
  ⟨⟨h1, show v ≤ 8 from by omega, show (0 : Nat) ≤ 10 from by omega⟩, fun k hk => absurd hk (Nat.not_lt_zero k), ⟨⟨show (0 : Nat) ≤ 9 from by omega, Nat.two_pow_pos _, Nat.two_pow_pos _⟩, fun m hm => absurd hm (Nat.not_lt_zero m)⟩, ⟨show (0 : Nat) ≤ 6 from by omega, fun o ho => absurd ho (Nat.not_lt_zero o)⟩⟩
theorem dB_line {D : drT} (h : dBd D) {a b : Nat} (hl : dLn D < 10) (ha : a < dNd D) (hb : b < dNd D) (hab : b ≠ a) : dBd (dLine a b D) := by
  obtain ⟨⟨h1, h2, h3⟩, h4, ⟨⟨s1, s2, s3⟩, s4⟩, ⟨o1, o2⟩⟩ := h
  refine ⟨⟨h1, h2, show dLn D + 1 ≤ 10 from by omega⟩, fun k hk => ?_, ⟨⟨s1, s2, Nat.two_pow_pos _⟩, fun m hm => ?_⟩, ⟨o1, fun o ho => ?_⟩⟩
  · have hk' : k < dLn D + 1 := hk
    show fuS (dLo D) (dLn D) (if b < a then b else a) k < fuS (dHi D) (dLn D) (if a < b then b else a) k ∧ fuS (dHi D) (dLn D) (if a < b then b else a) k < dNd D
    by_cases e : k = dLn D
    · rw [e, fuS_at, fuS_at]
      by_cases q : a < b
      · rw [if_pos q, if_neg (by omega)]; omega
      · rw [if_neg q, if_pos (by omega)]; omega
    · rw [fuS_off e, fuS_off e]
      exact h4 k (by omega)
  · obtain ⟨t1, t2⟩ := s4 m hm
    refine ⟨t1, ?_⟩
    show dTa D m < if dTs D m < 2 then dLn D + 1 else dNd D
    by_cases q : dTs D m < 2
    · rw [if_pos q] at t2 ⊢; omega
    · rw [if_neg q] at t2 ⊢; exact t2
  · obtain ⟨t1, t2, t3⟩ := o2 o ho
    refine ⟨t1, ?_, t3⟩
    show dOa D o < if dOs D o < 2 then dLn D + 1 else dNd D
    by_cases q : dOs D o < 2
    · rw [if_pos q] at t2 ⊢; omega
    · rw [if_neg q] at t2 ⊢; exact t2
theorem dB_meter {D : drT} (h : dBd D) {s a : Nat} (hl : dTm D < 9) (hs : s < 5) (ha : a < dPl D s) : dBd (dMeter s a D) := by
  obtain ⟨⟨h1, h2, h3⟩, h4, ⟨⟨s1, s2, s3⟩, s4⟩, ho⟩ := h
  refine ⟨⟨h1, h2, h3⟩, h4, ⟨⟨show dTm D + 1 ≤ 9 from by omega, Nat.two_pow_pos _, s3⟩, fun m hm => ?_⟩, ho⟩
  have hm' : m < dTm D + 1 := hm
  show fuS (dTs D) (dTm D) s m < 5 ∧ fuS (dTa D) (dTm D) a m < if fuS (dTs D) (dTm D) s m < 2 then dLn D else dNd D
  by_cases e : m = dTm D
  · rw [e, fuS_at, fuS_at]; exact ⟨hs, ha⟩
  · rw [fuS_off e, fuS_off e]; exact s4 m (by omega)
theorem dB_offer {D : drT} (h : dBd D) {s a p : Nat} (hl : dOf D < 6) (hs : s < 5) (ha : a < dPl D s) (hp : p < 10) : dBd (dOffer s a p D) := by
  obtain ⟨h1, h4, h5, ⟨o1, o2⟩⟩ := h
  refine ⟨h1, h4, h5, ⟨show dOf D + 1 ≤ 6 from by omega, fun m hm => ?_⟩⟩
  have hm' : m < dOf D + 1 := hm
  show fuS (dOs D) (dOf D) s m < 5 ∧ (fuS (dOa D) (dOf D) a m < if fuS (dOs D) (dOf D) s m < 2 then dLn D else dNd D) ∧ fuS (dOp D) (dOf D) p m ≤ 9
  by_cases e : m = dOf D
  · rw [e, fuS_at, fuS_at, fuS_at]; exact ⟨hs, ha, by omega⟩
  · rw [fuS_off e, fuS_off e, fuS_off e]; exact o2 m (by omega)
def clS (lt : Nat) (tx : Nat → Nat) (p : Nat) (D : drT) : Nat ⊕ (Nat × drT) :=
  if wdH tx (tkS lt tx p) (tkE lt tx p) = 8 then .inl (tkS lt tx p)
  else if wdH tx (tkS lt tx p) (tkE lt tx p) = 6 then
    (match nuO lt tx (tkE lt tx p) 2 9 with
      | none => .inl (tkS lt tx (tkE lt tx p))
      | some v => .inr (tkE lt tx (tkE lt tx p), dGrid v D))
  else if wdH tx (tkS lt tx p) (tkE lt tx p) = 7 then
    (if dLn D = 10 then .inl (tkS lt tx p) else
      match nuO lt tx (tkE lt tx p) 0 (dNd D) with
      | none => .inl (tkS lt tx (tkE lt tx p))
      | some a => match nuO lt tx (tkE lt tx (tkE lt tx p)) 0 (dNd D) with
        | none => .inl (tkS lt tx (tkE lt tx (tkE lt tx p)))
        | some b => if b = a then .inl (tkS lt tx (tkE lt tx (tkE lt tx p))) else .inr (tkE lt tx (tkE lt tx (tkE lt tx p)), dLine a b D))
  else if wdH tx (tkS lt tx p) (tkE lt tx p) = 5 then
    (if dOf D = 6 then .inl (tkS lt tx p) else
      match nuO lt tx (tkE lt tx p) 0 5 with
      | none => .inl (tkS lt tx (tkE lt tx p))
      | some a => match nuO lt tx (tkE lt tx (tkE lt tx p)) 0 (dPl D a) with
        | none => .inl (tkS lt tx (tkE lt tx (tkE lt tx p)))
        | some b => match nuO lt tx (tkE lt tx (tkE lt tx (tkE lt tx p))) 1 10 with
          | none => .inl (tkS lt tx (tkE lt tx (tkE lt tx (tkE lt tx p))))
          | some c => .inr (tkE lt tx (tkE lt tx (tkE lt tx (tkE lt tx p))), dOffer a b c D))
  else
    (if dTm D = 9 then .inl (tkS lt tx p) else
      match nuO lt tx (tkE lt tx p) 0 (dPl D (wdH tx (tkS lt tx p) (tkE lt tx p))) with
      | none => .inl (tkS lt tx (tkE lt tx p))
      | some a => .inr (tkE lt tx (tkE lt tx p), dMeter (wdH tx (tkS lt tx p) (tkE lt tx p)) a D))
def dCl (N : ux_N) (h : Nat) (D : drT) : Prop := (N h 0 = nI (dNd D) ∧ N h 1 = nI (dLn D) ∧ N h 2 = nI (dTm D) ∧ N h 3 = nI (dOf D)) ∧ (∀ k, k < dLn D → N (h + 1) k = nI (dLo D k) ∧ N (h + 2) k = nI (dHi D k)) ∧ (∀ k, k < dTm D → N (h + 3) k = nI (dTs D k) ∧ N (h + 4) k = nI (dTa D k)) ∧ (∀ k, k < dOf D → N (h + 5) k = nI (dOs D k) ∧ N (h + 6) k = nI (dOa D k) ∧ N (h + 7) k = nI (dOp D k))
section DRA
variable {N : ux_N} {D : drT}
theorem dC_fr {N' : ux_N} {h : Nat} (hd : dCl N h D) (e : ∀ a, h ≤ a → a < h + 8 → N' a = N a) : dCl N' h D := by
  unfold dCl
  rw [e h (by omega) (by omega), e (h + 1) (by omega) (by omega), e (h + 2) (by omega) (by omega), e (h + 3) (by omega) (by omega), e (h + 4) (by omega) (by omega), e (h + 5) (by omega) (by omega), e (h + 6) (by omega) (by omega), e (h + 7) (by omega) (by omega)]
  exact hd
theorem dc_grid (N : ux_N) (D : drT) (v : Nat) : ∃ N', fX3_beginAnew 10 (nI v) N = some N' ∧ dCl N' 10 (dGrid v D) ∧ ∀ x, x < 10 ∨ 18 ≤ x → N' x = N x := by
  refine ⟨_, rfl, ⟨⟨?_, ?_, ?_, ?_⟩, fun k hk => absurd hk (Nat.not_lt_zero k), fun k hk => absurd hk (Nat.not_lt_zero k), fun k hk => absurd hk (Nat.not_lt_zero k)⟩, fun x hx => ?_⟩
  · rw [uu_off _ _ (by decide), uu_off _ _ (by decide), uu_off _ _ (by decide), uu_at]; rfl
  · rw [uu_off _ _ (by decide), uu_off _ _ (by decide), uu_at]; rfl
  · rw [uu_off _ _ (by decide), uu_at]; rfl
  · rw [uu_at]; rfl
  · rw [uu_ne _ _ _ (by omega), uu_ne _ _ _ (by omega), uu_ne _ _ _ (by omega), uu_ne _ _ _ (by omega)]
theorem mn_nI {a b : Nat} (ha : a < 2 ^ 31) (hb : b < 2 ^ 31) : (if nI b < nI a then nI b else nI a) = nI (if b < a then b else a) := by
  by_cases q : b < a
  · rw [if_pos q, if_pos ((nI_ltI hb ha).mpr q)]
  · rw [if_neg q, if_neg (fun z => q ((nI_ltI hb ha).mp z))]
theorem mx_nI {a b : Nat} (ha : a < 2 ^ 31) (hb : b < 2 ^ 31) : (if nI a < nI b then nI b else nI a) = nI (if a < b then b else a) := by
  by_cases q : a < b
  · rw [if_pos q, if_pos ((nI_ltI ha hb).mpr q)]
  · rw [if_neg q, if_neg (fun z => q ((nI_ltI ha hb).mp z))]
theorem dc_line (h : dCl N 10 D) (hl : dLn D < 10) {a b : Nat} (ha : a < 2 ^ 31) (hb : b < 2 ^ 31) : ∃ N', fX3_addLine 10 (nI a) (nI b) N = some N' ∧ dCl N' 10 (dLine a b D) ∧ ∀ x, x < 10 ∨ 18 ≤ x → N' x = N x := by
  obtain ⟨⟨e0, e1, e2, e3⟩, r1, r2, r3⟩ := h
  refine ⟨ux_u (ux_u (ux_u N (10 + 1) (dLn D) (nI (if b < a then b else a))) (10 + 2) (dLn D) (nI (if a < b then b else a))) 10 1 (nI (dLn D + 1)), ?_, ⟨⟨?_, ?_, ?_, ?_⟩, fun k hk => ?_, fun k hk => ?_, fun k hk => ?_⟩, fun x hx => ?_⟩
  · unfold fX3_addLine fX3_addLine_37 fX3_addLine_47
    rw [mn_nI ha hb, mx_nI ha hb, e1, if_neg (fun z => by have := (nI_leI (a := 10) (by decide) (by omega)).mp z; omega), pb_in hl (by decide), if_pos rfl, nI_clamp (by omega), uu_ne _ _ _ (by decide : (10 : Nat) ≠ 10 + 1), e1, pb_in hl (by decide), if_pos rfl, nI_clamp (by omega), uu_ne _ _ _ (by decide : (10 : Nat) ≠ 10 + 2), uu_ne _ _ _ (by decide : (10 : Nat) ≠ 10 + 1), e1, show nI (dLn D) + (1 : Int32) = nI (dLn D + 1) from nI_add _ 1]
  · rw [uu_off _ _ (by decide), uu_ne _ _ _ (by decide), uu_ne _ _ _ (by decide)]; exact e0
  · rw [uu_at]; rfl
  · rw [uu_off _ _ (by decide), uu_ne _ _ _ (by decide), uu_ne _ _ _ (by decide)]; exact e2
  · rw [uu_off _ _ (by decide), uu_ne _ _ _ (by decide), uu_ne _ _ _ (by decide)]; exact e3
  · have hk' : k < dLn D + 1 := hk
    rw [uu_ne _ _ _ (by decide : (10 + 1 : Nat) ≠ 10), uu_ne _ _ _ (by decide : (10 + 1 : Nat) ≠ 10 + 2), uu_ne _ _ _ (by decide : (10 + 2 : Nat) ≠ 10)]
    show _ = nI (fuS (dLo D) (dLn D) (if b < a then b else a) k) ∧ _ = nI (fuS (dHi D) (dLn D) (if a < b then b else a) k)
    by_cases e : k = dLn D
    · rw [e, uu_at, uu_at, fuS_at, fuS_at]; exact ⟨rfl, rfl⟩
    · rw [uu_off _ _ e, uu_off _ _ e, uu_ne _ _ _ (by decide : (10 + 2 : Nat) ≠ 10 + 1), fuS_off e, fuS_off e]; exact r1 k (by omega)
  · rw [uu_ne _ _ _ (by decide), uu_ne _ _ _ (by decide), uu_ne _ _ _ (by decide), uu_ne _ _ _ (by decide), uu_ne _ _ _ (by decide), uu_ne _ _ _ (by decide)]; exact r2 k hk
  · rw [uu_ne _ _ _ (by decide), uu_ne _ _ _ (by decide), uu_ne _ _ _ (by decide), uu_ne _ _ _ (by decide), uu_ne _ _ _ (by decide), uu_ne _ _ _ (by decide), uu_ne _ _ _ (by decide), uu_ne _ _ _ (by decide), uu_ne _ _ _ (by decide)]; exact r3 k hk
  · rw [uu_ne _ _ _ (by omega), uu_ne _ _ _ (by omega), uu_ne _ _ _ (by omega)]
theorem dc_meter (h : dCl N 10 D) (hl : dTm D < 9) (s a : Nat) : ∃ N', fX3_addMeter 10 (nI s) (nI a) N = some N' ∧ dCl N' 10 (dMeter s a D) ∧ ∀ x, x < 10 ∨ 18 ≤ x → N' x = N x := by
  obtain ⟨⟨e0, e1, e2, e3⟩, r1, r2, r3⟩ := h
  refine ⟨ux_u (ux_u (ux_u N (10 + 3) (dTm D) (nI s)) (10 + 4) (dTm D) (nI a)) 10 2 (nI (dTm D + 1)), ?_, ⟨⟨?_, ?_, ?_, ?_⟩, fun k hk => ?_, fun k hk => ?_, fun k hk => ?_⟩, fun x hx => ?_⟩
  · unfold fX3_addMeter fX3_addMeter_39
    rw [e2, if_neg (fun z => by have := (nI_leI (a := 9) (by decide) (by omega)).mp z; omega), pb_in hl (by decide), if_pos rfl, nI_clamp (by omega), uu_ne _ _ _ (by decide : (10 : Nat) ≠ 10 + 3), e2, pb_in hl (by decide), if_pos rfl, nI_clamp (by omega), uu_ne _ _ _ (by decide : (10 : Nat) ≠ 10 + 4), uu_ne _ _ _ (by decide : (10 : Nat) ≠ 10 + 3), e2, show nI (dTm D) + (1 : Int32) = nI (dTm D + 1) from nI_add _ 1]
  · rw [uu_off _ _ (by decide), uu_ne _ _ _ (by decide), uu_ne _ _ _ (by decide)]; exact e0
  · rw [uu_off _ _ (by decide), uu_ne _ _ _ (by decide), uu_ne _ _ _ (by decide)]; exact e1
  · rw [uu_at]; rfl
  · rw [uu_off _ _ (by decide), uu_ne _ _ _ (by decide), uu_ne _ _ _ (by decide)]; exact e3
  · rw [uu_ne _ _ _ (by decide), uu_ne _ _ _ (by decide), uu_ne _ _ _ (by decide), uu_ne _ _ _ (by decide), uu_ne _ _ _ (by decide), uu_ne _ _ _ (by decide)]; exact r1 k hk
  · have hk' : k < dTm D + 1 := hk
    rw [uu_ne _ _ _ (by decide : (10 + 3 : Nat) ≠ 10), uu_ne _ _ _ (by decide : (10 + 3 : Nat) ≠ 10 + 4), uu_ne _ _ _ (by decide : (10 + 4 : Nat) ≠ 10)]
    show _ = nI (fuS (dTs D) (dTm D) s k) ∧ _ = nI (fuS (dTa D) (dTm D) a k)
    by_cases e : k = dTm D
    · rw [e, uu_at, uu_at, fuS_at, fuS_at]; exact ⟨rfl, rfl⟩
    · rw [uu_off _ _ e, uu_off _ _ e, uu_ne _ _ _ (by decide : (10 + 4 : Nat) ≠ 10 + 3), fuS_off e, fuS_off e]; exact r2 k (by omega)
  · rw [uu_ne _ _ _ (by decide), uu_ne _ _ _ (by decide), uu_ne _ _ _ (by decide), uu_ne _ _ _ (by decide), uu_ne _ _ _ (by decide), uu_ne _ _ _ (by decide), uu_ne _ _ _ (by decide), uu_ne _ _ _ (by decide), uu_ne _ _ _ (by decide)]; exact r3 k hk
  · rw [uu_ne _ _ _ (by omega), uu_ne _ _ _ (by omega), uu_ne _ _ _ (by omega)]
theorem dc_offer (h : dCl N 10 D) (hl : dOf D < 6) (s a p : Nat) : ∃ N', fX3_addOffer 10 (nI s) (nI a) (nI p) N = some N' ∧ dCl N' 10 (dOffer s a p D) ∧ ∀ x, x < 10 ∨ 18 ≤ x → N' x = N x := by
  obtain ⟨⟨e0, e1, e2, e3⟩, r1, r2, r3⟩ := h
  refine ⟨ux_u (ux_u (ux_u (ux_u N (10 + 5) (dOf D) (nI s)) (10 + 6) (dOf D) (nI a)) (10 + 7) (dOf D) (nI p)) 10 3 (nI (dOf D + 1)), ?_, ⟨⟨?_, ?_, ?_, ?_⟩, fun k hk => ?_, fun k hk => ?_, fun k hk => ?_⟩, fun x hx => ?_⟩
  · unfold fX3_addOffer fX3_addOffer_39 fX3_addOffer_49
    rw [e3, if_neg (fun z => by have := (nI_leI (a := 6) (by decide) (by omega)).mp z; omega), pb_in hl (by decide), if_pos rfl, nI_clamp (by omega), uu_ne _ _ _ (by decide : (10 : Nat) ≠ 10 + 5), e3, pb_in hl (by decide), if_pos rfl, nI_clamp (by omega), uu_ne _ _ _ (by decide : (10 : Nat) ≠ 10 + 6), uu_ne _ _ _ (by decide : (10 : Nat) ≠ 10 + 5), e3, pb_in hl (by decide), if_pos rfl, nI_clamp (by omega), uu_ne _ _ _ (by decide : (10 : Nat) ≠ 10 + 7), uu_ne _ _ _ (by decide : (10 : Nat) ≠ 10 + 6), uu_ne _ _ _ (by decide : (10 : Nat) ≠ 10 + 5), e3, show nI (dOf D) + (1 : Int32) = nI (dOf D + 1) from nI_add _ 1]
  · rw [uu_off _ _ (by decide), uu_ne _ _ _ (by decide), uu_ne _ _ _ (by decide), uu_ne _ _ _ (by decide)]; exact e0
  · rw [uu_off _ _ (by decide), uu_ne _ _ _ (by decide), uu_ne _ _ _ (by decide), uu_ne _ _ _ (by decide)]; exact e1
  · rw [uu_off _ _ (by decide), uu_ne _ _ _ (by decide), uu_ne _ _ _ (by decide), uu_ne _ _ _ (by decide)]; exact e2
  · rw [uu_at]; rfl
  · have r := r1 k hk
    rw [uu_ne _ _ _ (by decide), uu_ne _ _ _ (by decide), uu_ne _ _ _ (by decide), uu_ne _ _ _ (by decide), uu_ne _ _ _ (by decide), uu_ne _ _ _ (by decide), uu_ne _ _ _ (by decide), uu_ne _ _ _ (by decide)]; exact r
  · have r := r2 k hk
    rw [uu_ne _ _ _ (by decide), uu_ne _ _ _ (by decide), uu_ne _ _ _ (by decide), uu_ne _ _ _ (by decide), uu_ne _ _ _ (by decide), uu_ne _ _ _ (by decide), uu_ne _ _ _ (by decide), uu_ne _ _ _ (by decide)]; exact r
  · have hk' : k < dOf D + 1 := hk
    show _ = nI (fuS (dOs D) (dOf D) s k) ∧ _ = nI (fuS (dOa D) (dOf D) a k) ∧ _ = nI (fuS (dOp D) (dOf D) p k)
    rw [uu_ne _ _ _ (by decide : (10 + 5 : Nat) ≠ 10), uu_ne _ _ _ (by decide : (10 + 5 : Nat) ≠ 10 + 7), uu_ne _ _ _ (by decide : (10 + 5 : Nat) ≠ 10 + 6), uu_ne _ _ _ (by decide : (10 + 6 : Nat) ≠ 10), uu_ne _ _ _ (by decide : (10 + 6 : Nat) ≠ 10 + 7), uu_ne _ _ _ (by decide : (10 + 7 : Nat) ≠ 10)]
    by_cases e : k = dOf D
    · rw [e, uu_at, uu_at, uu_at, fuS_at, fuS_at, fuS_at]; exact ⟨rfl, rfl, rfl⟩
    · rw [uu_off _ _ e, uu_off _ _ e, uu_off _ _ e, uu_ne _ _ _ (by decide : (10 + 6 : Nat) ≠ 10 + 5), uu_ne _ _ _ (by decide : (10 + 7 : Nat) ≠ 10 + 6), uu_ne _ _ _ (by decide : (10 + 7 : Nat) ≠ 10 + 5), fuS_off e, fuS_off e, fuS_off e]; exact r3 k (by omega)
  · rw [uu_ne _ _ _ (by omega), uu_ne _ _ _ (by omega), uu_ne _ _ _ (by omega), uu_ne _ _ _ (by omega)]
end DRA
