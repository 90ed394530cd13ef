/-! a clause as the class reads it -/
def cFr (N N' : ux_N) : Prop := (∀ a, a < 9 ∨ 18 ≤ a → N' a = N a) ∧ ∀ j, j ≠ 4 → j ≠ 5 → j ≠ 6 → N' 9 j = N 9 j
theorem cFr_tr {N N1 N2 : ux_N} (a : cFr N N1) (b : cFr N1 N2) : cFr N N2 := ⟨fun x hx => (b.1 x hx).trans (a.1 x hx), fun j h4 h5 h6 => (b.2 j h4 h5 h6).trans (a.2 j h4 h5 h6)⟩
theorem cFr_of {N N' : ux_N} (a : ∀ x, x ≠ 9 → N' x = N x) (b : ∀ j, j ≠ 4 → j ≠ 5 → j ≠ 6 → N' 9 j = N 9 j) : cFr N N' := ⟨fun x hx => a x (by omega), b⟩
theorem cFr_dr {N N' : ux_N} (a : ∀ x, x < 10 ∨ 18 ≤ x → N' x = N x) : cFr N N' := ⟨fun x hx => a x (by omega), fun j _ _ _ => by rw [a 9 (by decide)]⟩
theorem txC_fr {N N' : ux_N} {lt : Nat} {tx : Nat → Nat} (h : txC N lt tx) (f : cFr N N') : txC N' lt tx := by
  refine ⟨h.1, ?_, fun k hk => ?_⟩
  · rw [f.2 0 (by decide) (by decide) (by decide)]; exact h.2.1
  · rw [f.1 18 (by decide)]; exact h.2.2 k hk
def ccR (lt : Nat) (N' : ux_N) (r : Int32) (o : Nat ⊕ (Nat × drT)) : Prop := (∀ x, o = .inl x → r = 0 ∧ N' 9 5 = nI x ∧ x ≤ lt) ∧ ∀ y, o = .inr y → r = 1 ∧ N' 9 6 = nI y.1 ∧ y.1 ≤ lt ∧ dCl N' 10 y.2 ∧ dBd y.2
theorem ccR_l {lt : Nat} {N' : ux_N} {r : Int32} {x : Nat} (h1 : r = 0) (h2 : N' 9 5 = nI x) (h3 : x ≤ lt) : ccR lt N' r (.inl x) := ⟨fun z hz => (by cases hz; exact ⟨h1, h2, h3⟩), fun z hz => nomatch hz⟩
theorem ccR_r {lt : Nat} {N' : ux_N} {r : Int32} {y : Nat × drT} (h1 : r = 1) (h2 : N' 9 6 = nI y.1) (h3 : y.1 ≤ lt) (h4 : dCl N' 10 y.2) (h5 : dBd y.2) : ccR lt N' r (.inr y) := ⟨fun z hz => (nomatch hz), fun z hz => (by cases hz; exact ⟨h1, h2, h3, h4, h5⟩)⟩
section CCL
variable {lt : Nat} {tx : Nat → Nat} {N : ux_N} {D : drT}
theorem cc_readGrid (h : txC N lt tx) {p : Nat} (hp : p ≤ lt) (e6 : N 9 6 = nI p) (D : drT) : ∃ r N', fX4_readGrid N = some (r, N') ∧ cFr N N' ∧ ccR lt N' r (match nuO lt tx p 2 9 with | none => .inl (tkS lt tx p) | some v => .inr (tkE lt tx p, dGrid v D)) := by
  obtain ⟨b1, b2, b3, b4, b5⟩ := tk_b lt tx hp
  obtain ⟨N1, n0, n1, n2, n3, n4⟩ := cc_number h hp e6 (a := 2) (b := 9) (by decide) (by decide)
  have n0 : fX4_readNumber (2 : Int32) (8 : Int32) N = some (wkI (nuO lt tx p 2 9), N1) := n0
  unfold fX4_readGrid
  rw [n0, Option.bind_some]
  cases hq : nuO lt tx p 2 9 with
  | none => exact ⟨0, N1, rfl, cFr_of n1 n2, ccR_l rfl n3 b2⟩
  | some v =>
    have hv := nuO_b hq
    obtain ⟨N2, g0, g1, g2⟩ := dc_grid N1 D v
    refine ⟨1, N2, ?_, cFr_tr (cFr_of n1 n2) (cFr_dr g2), ccR_r rfl ?_ b4 g1 (dB_grid hv.1 hv.2 D)⟩
    · show (if nI v = (-1 : Int32) then _ else (fX3_beginAnew 10 (nI v) N1).bind _) = _
      rw [if_neg (pb_m1 (by omega)), g0]; rfl
    · rw [g2 9 (by decide)]; exact n4
theorem cc_readLine (h : txC N lt tx) {p : Nat} (hp : p ≤ lt) (e6 : N 9 6 = nI p) (hd : dCl N 10 D) (hb : dBd D) (hl : dLn D < 10) : ∃ r N', fX4_readLine N = some (r, N') ∧ cFr N N' ∧ ccR lt N' r (match nuO lt tx p 0 (dNd D) with
      | none => .inl (tkS lt tx p)
      | some a => match nuO lt tx (tkE lt tx p) 0 (dNd D) with
        | none => .inl (tkS lt tx (tkE lt tx p))
        | some b => if b = a then .inl (tkS lt tx (tkE lt tx p)) else .inr (tkE lt tx (tkE lt tx p), dLine a b D)) := by
  obtain ⟨b1, b2, b3, b4, b5⟩ := tk_b lt tx hp
  obtain ⟨c1, c2, c3, c4, c5⟩ := tk_b lt tx b4
  have nd8 := hb.1.2.1
  obtain ⟨N1, n0, n1, n2, n3, n4⟩ := cc_number h hp e6 (a := 0) (b := dNd D) (by decide) (by omega)
  have n0 : fX4_readNumber (0 : Int32) (nI (dNd D) - (1 : Int32)) N = some (wkI (nuO lt tx p 0 (dNd D)), N1) := n0
  have f1 := cFr_of n1 n2
  have hd1 : dCl N1 10 D := dC_fr hd (fun a h1 h2 => n1 a (by omega))
  obtain ⟨N2, m0, m1, m2, m3, m4⟩ := cc_number (txC_fr h f1) b4 n4 (a := 0) (b := dNd D) (by decide) (by omega)
  have m0 : fX4_readNumber (0 : Int32) (nI (dNd D) - (1 : Int32)) N1 = some (wkI (nuO lt tx (tkE lt tx p) 0 (dNd D)), N2) := m0
  have f2 := cFr_of m1 m2
  have hd2 : dCl N2 10 D := dC_fr hd1 (fun a h1 h2 => m1 a (by omega))
  unfold fX4_readLine
  rw [hd.1.2.1, if_pos (show _ < (10 : Int32) from (nI_ltI (b := 10) (by omega) (by decide)).mpr hl), hd.1.1, n0, Option.bind_some]
  cases hq : nuO lt tx p 0 (dNd D) with
  | none => exact ⟨0, N1, rfl, f1, ccR_l rfl n3 b2⟩
  | some a =>
    have hv := nuO_b hq
    have e1 : ∀ o, (fX4_readNumber (0 : Int32) (nI (dNd D) - (1 : Int32)) N1).bind (fun o5 => if o5.1 = (-1 : Int32) then (fX4_readLine_61 o5.2) else (if o5.1 = nI a then (fX4_readLine_61 o5.2) else ((fX3_addLine 10 (nI a) o5.1 o5.2).bind (fun o9 => some ((1 : Int32), o9))))) = o → (if (wkI (some a), N1).1 = (-1 : Int32) then (some ((0 : Int32), (wkI (some a), N1).2)) else ((fX4_readNumber (0 : Int32) (((wkI (some a), N1).2 10 0) - (1 : Int32)) (wkI (some a), N1).2).bind (fun o5 => if o5.1 = (-1 : Int32) then (fX4_readLine_61 o5.2) else (if o5.1 = (wkI (some a), N1).1 then (fX4_readLine_61 o5.2) else ((fX3_addLine 10 (wkI (some a), N1).1 o5.1 o5.2).bind (fun o9 => some ((1 : Int32), o9))))))) = o := fun o ho => by
      show (if nI a = (-1 : Int32) then _ else ((fX4_readNumber (0 : Int32) ((N1 10 0) - (1 : Int32)) N1).bind _)) = _
      rw [if_neg (pb_m1 (by omega)), hd1.1.1]
      exact ho
    cases hq2 : nuO lt tx (tkE lt tx p) 0 (dNd D) with
    | none =>
      refine ⟨0, N2, e1 _ ?_, cFr_tr f1 f2, ccR_l rfl m3 c2⟩
      rw [m0, hq2]; rfl
    | some b =>
      have hw := nuO_b hq2
      by_cases q : b = a
      · refine ⟨0, N2, e1 _ ?_, cFr_tr f1 f2, ?_⟩
        · rw [m0, hq2]
          show (if nI b = (-1 : Int32) then _ else (if nI b = nI a then _ else _)) = _
          rw [if_neg (pb_m1 (by omega)), if_pos (by rw [q])]; rfl
        · show ccR lt N2 0 (if b = a then _ else _)
          rw [if_pos q]
          exact ccR_l rfl m3 c2
      · obtain ⟨N3, g0, g1, g2⟩ := dc_line hd2 hl (a := a) (b := b) (by omega) (by omega)
        refine ⟨1, N3, e1 _ ?_, cFr_tr (cFr_tr f1 f2) (cFr_dr g2), ?_⟩
        · rw [m0, hq2]
          show (if nI b = (-1 : Int32) then _ else (if nI b = nI a then _ else ((fX3_addLine 10 (nI a) (nI b) N2).bind _))) = _
          rw [if_neg (pb_m1 (by omega)), if_neg (fun z => q ((nI_eq (by omega) (by omega)).mp z)), g0]; rfl
        · show ccR lt N3 1 (if b = a then _ else _)
          rw [if_neg q]
          exact ccR_r rfl (by rw [g2 9 (by decide)]; exact m4) c4 g1 (dB_line hb hl hv.2 hw.2 q)
theorem cc_places (hd : dCl N 10 D) (hb : dBd D) {s : Nat} (hs : s < 2 ^ 31) : fX3_placesFor 10 (nI s) N = some (nI (dPl D s)) := by
  unfold fX3_placesFor fX3_placesFor_9 fX3_placesFor_20 dPl
  by_cases s0 : s = 0
  · rw [if_pos (show nI s = 0 from by rw [s0]; rfl), if_pos (by omega), hd.1.2.1]
  · rw [if_neg (fun z => s0 ((pb_eq0 hs).mp z))]
    by_cases s1 : s = 1
    · rw [if_pos (show nI s = (1 : Int32) from by rw [s1]; rfl), if_pos (by omega), hd.1.2.1]
    · rw [if_neg (show ¬ nI s = (1 : Int32) from fun z => s1 ((nI_eq (b := 1) hs (by decide)).mp z)), if_neg (by omega), hd.1.1]
theorem dPl_b (hb : dBd D) (s : Nat) : dPl D s ≤ 10 := by
  unfold dPl
  have := hb.1
  split <;> omega
theorem cc_readMeter (h : txC N lt tx) {p : Nat} (hp : p ≤ lt) (e6 : N 9 6 = nI p) (hd : dCl N 10 D) (hb : dBd D) (hl : dTm D < 9) {w : Nat} (hw : w < 5) : ∃ r N', fX4_readMeter (nI w) N = some (r, N') ∧ cFr N N' ∧ ccR lt N' r (match nuO lt tx p 0 (dPl D w) with | none => .inl (tkS lt tx p) | some a => .inr (tkE lt tx p, dMeter w a D)) := by
  obtain ⟨b1, b2, b3, b4, b5⟩ := tk_b lt tx hp
  have pb := dPl_b hb w
  obtain ⟨N1, n0, n1, n2, n3, n4⟩ := cc_number h hp e6 (a := 0) (b := dPl D w) (by decide) (by omega)
  have n0 : fX4_readNumber (0 : Int32) (nI (dPl D w) - (1 : Int32)) N = some (wkI (nuO lt tx p 0 (dPl D w)), N1) := n0
  have f1 := cFr_of n1 n2
  have hd1 : dCl N1 10 D := dC_fr hd (fun a h1 h2 => n1 a (by omega))
  unfold fX4_readMeter
  rw [hd.1.2.2.1, if_pos (show _ < (9 : Int32) from (nI_ltI (b := 9) (by omega) (by decide)).mpr hl), cc_places hd hb (by omega), Option.bind_some, n0, Option.bind_some]
  cases hq : nuO lt tx p 0 (dPl D w) with
  | none => exact ⟨0, N1, rfl, f1, ccR_l rfl n3 b2⟩
  | some a =>
    have hv := nuO_b hq
    obtain ⟨N2, g0, g1, g2⟩ := dc_meter hd1 hl w a
    refine ⟨1, N2, ?_, cFr_tr f1 (cFr_dr g2), ccR_r rfl (by rw [g2 9 (by decide)]; exact n4) b4 g1 (dB_meter hb hl hw hv.2)⟩
    show (if nI a = (-1 : Int32) then _ else ((fX3_addMeter 10 (nI w) (nI a) N1).bind _)) = _
    rw [if_neg (pb_m1 (by omega)), g0]; rfl
theorem cc_readOffer (h : txC N lt tx) {p : Nat} (hp : p ≤ lt) (e6 : N 9 6 = nI p) (hd : dCl N 10 D) (hb : dBd D) (hl : dOf D < 6) : ∃ r N', fX4_readOffer N = some (r, N') ∧ cFr N N' ∧ ccR lt N' r (match nuO lt tx p 0 5 with
      | none => .inl (tkS lt tx p)
      | some a => match nuO lt tx (tkE lt tx p) 0 (dPl D a) with
        | none => .inl (tkS lt tx (tkE lt tx p))
        | some b => match nuO lt tx (tkE lt tx (tkE lt tx p)) 1 10 with
          | none => .inl (tkS lt tx (tkE lt tx (tkE lt tx p)))
          | some c => .inr (tkE lt tx (tkE lt tx (tkE lt tx p)), dOffer a b c D)) := by
  obtain ⟨b1, b2, b3, b4, b5⟩ := tk_b lt tx hp
  obtain ⟨c1, c2, c3, c4, c5⟩ := tk_b lt tx b4
  obtain ⟨d1, d2, d3, d4, d5⟩ := tk_b lt tx c4
  obtain ⟨N1, n0, n1, n2, n3, n4⟩ := cc_number h hp e6 (a := 0) (b := 5) (by decide) (by decide)
  have n0 : fX4_readNumber (0 : Int32) (4 : Int32) N = some (wkI (nuO lt tx p 0 5), N1) := n0
  have f1 := cFr_of n1 n2
  have hd1 : dCl N1 10 D := dC_fr hd (fun a h1 h2 => n1 a (by omega))
  unfold fX4_readOffer
  rw [hd.1.2.2.2, if_pos (show _ < (6 : Int32) from (nI_ltI (b := 6) (by omega) (by decide)).mpr hl), n0, Option.bind_some]
  cases hq : nuO lt tx p 0 5 with
  | none => exact ⟨0, N1, rfl, f1, ccR_l rfl n3 b2⟩
  | some a =>
    have hv := nuO_b hq
    have pb := dPl_b hb a
    obtain ⟨N2, m0, m1, m2, m3, m4⟩ := cc_number (txC_fr h f1) b4 n4 (a := 0) (b := dPl D a) (by decide) (by omega)
    have m0 : fX4_readNumber (0 : Int32) (nI (dPl D a) - (1 : Int32)) N1 = some (wkI (nuO lt tx (tkE lt tx p) 0 (dPl D a)), N2) := m0
    have f2 := cFr_tr f1 (cFr_of m1 m2)
    have hd2 : dCl N2 10 D := dC_fr hd1 (fun a h1 h2 => m1 a (by omega))
    obtain ⟨N3, k0, k1, k2, k3, k4⟩ := cc_number (txC_fr h f2) c4 m4 (a := 1) (b := 10) (by decide) (by decide)
    have k0 : fX4_readNumber (1 : Int32) (9 : Int32) N2 = some (wkI (nuO lt tx (tkE lt tx (tkE lt tx p)) 1 10), N3) := k0
    have f3 := cFr_tr f2 (cFr_of k1 k2)
    have hd3 : dCl N3 10 D := dC_fr hd2 (fun a h1 h2 => k1 a (by omega))
    show ∃ r N', (if nI a = (-1 : Int32) then (some ((0 : Int32), N1)) else ((fX3_placesFor 10 (nI a) N1).bind (fun o5 => (fX4_readNumber (0 : Int32) (o5 - (1 : Int32)) N1).bind (fun o7 => if o7.1 = (-1 : Int32) then (some ((0 : Int32), o7.2)) else ((fX4_readNumber (1 : Int32) (9 : Int32) o7.2).bind (fun o10 => if o10.1 = (-1 : Int32) then (some ((0 : Int32), o10.2)) else ((fX3_addOffer 10 (nI a) o7.1 o10.1 o10.2).bind (fun o13 => some ((1 : Int32), o13))))))))) = some (r, N') ∧ _ ∧ _
    rw [if_neg (pb_m1 (by omega)), cc_places hd1 hb (by omega), Option.bind_some, m0, Option.bind_some]
    dsimp only
    cases hq2 : nuO lt tx (tkE lt tx p) 0 (dPl D a) with
    | none => exact ⟨0, N2, rfl, f2, ccR_l rfl m3 c2⟩
    | some b =>
      have hw := nuO_b hq2
      show ∃ r N', (if nI b = (-1 : Int32) then (some ((0 : Int32), N2)) else ((fX4_readNumber (1 : Int32) (9 : Int32) N2).bind (fun o10 => if o10.1 = (-1 : Int32) then (some ((0 : Int32), o10.2)) else ((fX3_addOffer 10 (nI a) (nI b) o10.1 o10.2).bind (fun o13 => some ((1 : Int32), o13)))))) = some (r, N') ∧ _ ∧ _
      rw [if_neg (pb_m1 (by omega)), k0, Option.bind_some]
      dsimp only
      cases hq3 : nuO lt tx (tkE lt tx (tkE lt tx p)) 1 10 with
      | none => exact ⟨0, N3, rfl, f3, ccR_l rfl k3 d2⟩
      | some c =>
        have hx := nuO_b hq3
        obtain ⟨N4, g0, g1, g2⟩ := dc_offer hd3 hl a b c
        refine ⟨1, N4, ?_, cFr_tr f3 (cFr_dr g2), ccR_r rfl (by rw [g2 9 (by decide)]; exact k4) d4 g1 (dB_offer hb hl hv.2 hw.2 hx.2)⟩
        show (if nI c = (-1 : Int32) then _ else ((fX3_addOffer 10 (nI a) (nI b) (nI c) N3).bind _)) = _
        rw [if_neg (pb_m1 (by omega)), g0]; rfl
end CCL
