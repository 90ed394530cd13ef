/-! the text as the class reads it -/
theorem ccR_01 {lt : Nat} {N' : ux_N} {r : Int32} {o : Nat ⊕ (Nat × drT)} (h : ccR lt N' r o) : r = 0 ∨ r = 1 := by
  cases o with
  | inl x => exact Or.inl (h.1 x rfl).1
  | inr y => exact Or.inr (h.2 y rfl).1
theorem ccR_b {lt : Nat} {N' : ux_N} {r : Int32} {o : Nat ⊕ (Nat × drT)} (h : ccR lt N' r o) : ux_b r = true := by
  rcases ccR_01 h with e | e <;> rw [e] <;> rfl
section CCM
variable {lt : Nat} {tx : Nat → Nat} {N : ux_N} {D : drT}
theorem cc_readClause (h : txC N lt tx) {p : Nat} (hp : p ≤ lt) (e6 : N 9 6 = nI p) (hd : dCl N 10 D) (hb : dBd D) : ∃ r N', fX4_readClause N = some (r, N') ∧ cFr N N' ∧ ccR lt N' r (clS lt tx p D) := by
  obtain ⟨b1, b2, b3, b4, b5⟩ := tk_b lt tx hp
  obtain ⟨N1, a0, a1, a2, a3, a4, a5⟩ := cc_advance h hp e6
  have f1 := cFr_of a1 a2
  have h1 := txC_fr h f1
  have hd1 : dCl N1 10 D := dC_fr hd (fun a h1 h2 => a1 a (by omega))
  have iw : ∀ c, c < 8 → fX4_isWord c N1 = some (if wdH tx (tkS lt tx p) (tkE lt tx p) = cwJ c then 1 else 0) := fun c hc => by
    rw [cc_isWord h1 b3 b4 a3 a4 a5 (tk_4 p) hc]
    have c8 := (cw_b c hc).1
    by_cases q : wdH tx (tkS lt tx p) (tkE lt tx p) = cwJ c
    · have m := (wdH_iff c8).mpr q
      rw [if_pos q, if_pos ⟨tk_word hp c8 m, m⟩]
    · rw [if_neg q, if_neg (fun z => q ((wdH_iff c8).mp z.2))]
  have hW : wdH tx (tkS lt tx p) (tkE lt tx p) ≤ 8 := fa_first_le _ 8
  have hu : ∀ o, ((fX4_isWord 0 N1).bind (fun o3 => if o3 = 0 then ((fX4_isWord 1 N1).bind (fun o6 => if o6 = 0 then ((fX4_isWord 2 N1).bind (fun o9 => if o9 = 0 then ((fX4_readSortName N1).bind (fun o12 => if o12 = (-1 : Int32) then (fX4_readClause_68 N1) else ((fX4_readMeter o12 N1).bind (fun o15 => if o15.1 = 0 then (fX4_readClause_68 o15.2) else (fX4_readClause_69 (1 : Int32) o15.2))))) else ((fX4_readOffer N1).bind (fun o18 => if ux_b o18.1 then (some (o18.1, o18.2)) else none)))) else ((fX4_readLine N1).bind (fun o21 => if ux_b o21.1 then (some (o21.1, o21.2)) else none)))) else ((fX4_readGrid N1).bind (fun o24 => if ux_b o24.1 then (some (o24.1, o24.2)) else none)))) = o → fX4_readClause N = o := fun o ho => by
    unfold fX4_readClause
    rw [a0, Option.bind_some]
    exact ho
  have met : ∀ w, w < 5 → ∃ r N', (fX4_readMeter (nI w) N1).bind (fun o15 => if o15.1 = 0 then (fX4_readClause_68 o15.2) else (fX4_readClause_69 (1 : Int32) o15.2)) = some (r, N') ∧ cFr N N' ∧ ccR lt N' r (if dTm D = 9 then .inl (tkS lt tx p) else match nuO lt tx (tkE lt tx p) 0 (dPl D w) with | none => .inl (tkS lt tx (tkE lt tx p)) | some a => .inr (tkE lt tx (tkE lt tx p), dMeter w a D)) := fun w hw => by
    have t9 := hb.2.2.1.1.1
    by_cases q : dTm D = 9
    · refine ⟨0, N1, ?_, f1, ?_⟩
      · unfold fX4_readMeter
        rw [hd1.1.2.2.1, q, if_neg (by decide)]; rfl
      · rw [if_pos q]; exact ccR_l rfl a4 b2
    · obtain ⟨r, N', g0, g1, g2⟩ := cc_readMeter h1 b4 a5 hd1 hb (by omega) hw
      refine ⟨r, N', ?_, cFr_tr f1 g1, ?_⟩
      · rw [g0, Option.bind_some]
        rcases ccR_01 g2 with rfl | rfl <;> rfl
      · rw [if_neg q]; exact g2
  unfold clS
  generalize wdH tx (tkS lt tx p) (tkE lt tx p) = W at iw hW ⊢
  have hc : W = 6 ∨ W = 7 ∨ W = 5 ∨ W = 8 ∨ W = 0 ∨ W = 1 ∨ W = 2 ∨ W = 3 ∨ W = 4 := by omega
  rcases hc with rfl | rfl | rfl | rfl | rfl | rfl | rfl | rfl | rfl
  · have i0 : fX4_isWord 0 N1 = some 1 := iw 0 (by decide)
    obtain ⟨r, N', g0, g1, g2⟩ := cc_readGrid h1 b4 a5 D
    refine ⟨r, N', hu _ ?_, cFr_tr f1 g1, g2⟩
    rw [i0, Option.bind_some, if_neg (by decide), g0, Option.bind_some]
    exact if_pos (ccR_b g2)
  · have i0 : fX4_isWord 0 N1 = some 0 := iw 0 (by decide)
    have i1 : fX4_isWord 1 N1 = some 1 := iw 1 (by decide)
    have l10 := hb.1.2.2
    by_cases q : dLn D = 10
    · refine ⟨0, N1, hu _ ?_, f1, ?_⟩
      · rw [i0, Option.bind_some, if_pos rfl, i1, Option.bind_some, if_neg (by decide)]
        unfold fX4_readLine
        rw [hd1.1.2.1, q, if_neg (by decide)]; rfl
      · show ccR lt N1 0 (if dLn D = 10 then _ else _)
        rw [if_pos q]; exact ccR_l rfl a4 b2
    · obtain ⟨r, N', g0, g1, g2⟩ := cc_readLine h1 b4 a5 hd1 hb (by omega)
      refine ⟨r, N', hu _ ?_, cFr_tr f1 g1, ?_⟩
      · rw [i0, Option.bind_some, if_pos rfl, i1, Option.bind_some, if_neg (by decide), g0, Option.bind_some]
        exact if_pos (ccR_b g2)
      · show ccR lt N' r (if dLn D = 10 then _ else _)
        rw [if_neg q]; exact g2
  · have i0 : fX4_isWord 0 N1 = some 0 := iw 0 (by decide)
    have i1 : fX4_isWord 1 N1 = some 0 := iw 1 (by decide)
    have i2 : fX4_isWord 2 N1 = some 1 := iw 2 (by decide)
    have l10 := hb.2.2.2.1
    by_cases q : dOf D = 6
    · refine ⟨0, N1, hu _ ?_, f1, ?_⟩
      · rw [i0, Option.bind_some, if_pos rfl, i1, Option.bind_some, if_pos rfl, i2, Option.bind_some, if_neg (by decide)]
        unfold fX4_readOffer
        rw [hd1.1.2.2.2, q, if_neg (by decide)]; rfl
      · show ccR lt N1 0 (if dOf D = 6 then _ else _)
        rw [if_pos q]; exact ccR_l rfl a4 b2
    · obtain ⟨r, N', g0, g1, g2⟩ := cc_readOffer h1 b4 a5 hd1 hb (by omega)
      refine ⟨r, N', hu _ ?_, cFr_tr f1 g1, ?_⟩
      · rw [i0, Option.bind_some, if_pos rfl, i1, Option.bind_some, if_pos rfl, i2, Option.bind_some, if_neg (by decide), g0, Option.bind_some]
        exact if_pos (ccR_b g2)
      · show ccR lt N' r (if dOf D = 6 then _ else _)
        rw [if_neg q]; exact g2
  · have i0 : fX4_isWord 0 N1 = some 0 := iw 0 (by decide)
    have i1 : fX4_isWord 1 N1 = some 0 := iw 1 (by decide)
    have i2 : fX4_isWord 2 N1 = some 0 := iw 2 (by decide)
    have i3 : fX4_isWord 3 N1 = some 0 := iw 3 (by decide)
    have i4 : fX4_isWord 4 N1 = some 0 := iw 4 (by decide)
    have i5 : fX4_isWord 5 N1 = some 0 := iw 5 (by decide)
    have i6 : fX4_isWord 6 N1 = some 0 := iw 6 (by decide)
    have i7 : fX4_isWord 7 N1 = some 0 := iw 7 (by decide)
    refine ⟨0, N1, hu _ ?_, f1, ccR_l rfl a4 b2⟩
    unfold fX4_readSortName
    rw [i0, i1, i2, i3, i4, i5, i6, i7]; rfl
  · have i0 : fX4_isWord 0 N1 = some 0 := iw 0 (by decide)
    have i1 : fX4_isWord 1 N1 = some 0 := iw 1 (by decide)
    have i2 : fX4_isWord 2 N1 = some 0 := iw 2 (by decide)
    have i3 : fX4_isWord 3 N1 = some 1 := iw 3 (by decide)
    obtain ⟨r, N', g0, g1, g2⟩ := met 0 (by decide)
    refine ⟨r, N', hu _ ?_, g1, g2⟩
    unfold fX4_readSortName
    rw [i0, i1, i2, i3]; exact g0
  · have i0 : fX4_isWord 0 N1 = some 0 := iw 0 (by decide)
    have i1 : fX4_isWord 1 N1 = some 0 := iw 1 (by decide)
    have i2 : fX4_isWord 2 N1 = some 0 := iw 2 (by decide)
    have i3 : fX4_isWord 3 N1 = some 0 := iw 3 (by decide)
    have i4 : fX4_isWord 4 N1 = some 1 := iw 4 (by decide)
    obtain ⟨r, N', g0, g1, g2⟩ := met 1 (by decide)
    refine ⟨r, N', hu _ ?_, g1, g2⟩
    unfold fX4_readSortName
    rw [i0, i1, i2, i3, i4]; exact g0
  · have i0 : fX4_isWord 0 N1 = some 0 := iw 0 (by decide)
    have i1 : fX4_isWord 1 N1 = some 0 := iw 1 (by decide)
    have i2 : fX4_isWord 2 N1 = some 0 := iw 2 (by decide)
    have i3 : fX4_isWord 3 N1 = some 0 := iw 3 (by decide)
    have i4 : fX4_isWord 4 N1 = some 0 := iw 4 (by decide)
    have i5 : fX4_isWord 5 N1 = some 1 := iw 5 (by decide)
    obtain ⟨r, N', g0, g1, g2⟩ := met 2 (by decide)
    refine ⟨r, N', hu _ ?_, g1, g2⟩
    unfold fX4_readSortName
    rw [i0, i1, i2, i3, i4, i5]; exact g0
  · have i0 : fX4_isWord 0 N1 = some 0 := iw 0 (by decide)
    have i1 : fX4_isWord 1 N1 = some 0 := iw 1 (by decide)
    have i2 : fX4_isWord 2 N1 = some 0 := iw 2 (by decide)
    have i3 : fX4_isWord 3 N1 = some 0 := iw 3 (by decide)
    have i4 : fX4_isWord 4 N1 = some 0 := iw 4 (by decide)
    have i5 : fX4_isWord 5 N1 = some 0 := iw 5 (by decide)
    have i6 : fX4_isWord 6 N1 = some 1 := iw 6 (by decide)
    obtain ⟨r, N', g0, g1, g2⟩ := met 3 (by decide)
    refine ⟨r, N', hu _ ?_, g1, g2⟩
    unfold fX4_readSortName
    rw [i0, i1, i2, i3, i4, i5, i6]; exact g0
  · have i0 : fX4_isWord 0 N1 = some 0 := iw 0 (by decide)
    have i1 : fX4_isWord 1 N1 = some 0 := iw 1 (by decide)
    have i2 : fX4_isWord 2 N1 = some 0 := iw 2 (by decide)
    have i3 : fX4_isWord 3 N1 = some 0 := iw 3 (by decide)
    have i4 : fX4_isWord 4 N1 = some 0 := iw 4 (by decide)
    have i5 : fX4_isWord 5 N1 = some 0 := iw 5 (by decide)
    have i6 : fX4_isWord 6 N1 = some 0 := iw 6 (by decide)
    have i7 : fX4_isWord 7 N1 = some 1 := iw 7 (by decide)
    obtain ⟨r, N', g0, g1, g2⟩ := met 4 (by decide)
    refine ⟨r, N', hu _ ?_, g1, g2⟩
    unfold fX4_readSortName
    rw [i0, i1, i2, i3, i4, i5, i6, i7]; exact g0
end CCM
def paS (lt : Nat) (tx : Nat → Nat) : Nat → Nat → Nat → drT → Nat ⊕ (Nat × drT)
  | 0, q, _, _ => .inl q
  | n + 1, _, p, D => match clS lt tx p D with
    | .inl x => .inl x
    | .inr y => if tkS lt tx y.1 < lt then (if tx (tkS lt tx y.1) = 59 then paS lt tx n (tkS lt tx y.1) (tkE lt tx y.1) y.2 else .inl (tkS lt tx y.1)) else .inr (24 - n, y.2)
def ffR (lt : Nat) (N' : ux_N) (r : Int32) (o : Nat ⊕ (Nat × drT)) : Prop := (∀ x, o = .inl x → r = nI x ∧ x ≤ lt) ∧ ∀ y, o = .inr y → r = -1 ∧ N' 9 1 = nI y.1 ∧ dCl N' 10 y.2 ∧ dBd y.2
theorem ffR_l {lt : Nat} {N' : ux_N} {r : Int32} {x : Nat} (h1 : r = nI x) (h2 : x ≤ lt) : ffR lt N' r (.inl x) := ⟨fun z hz => (by cases hz; exact ⟨h1, h2⟩), fun z hz => (nomatch hz)⟩
theorem ffR_r {lt : Nat} {N' : ux_N} {r : Int32} {y : Nat × drT} (h1 : r = -1) (h2 : N' 9 1 = nI y.1) (h3 : dCl N' 10 y.2) (h4 : dBd y.2) : ffR lt N' r (.inr y) := ⟨fun z hz => (nomatch hz), fun z hz => (by cases hz; exact ⟨h1, h2, h3, h4⟩)⟩
def cFs (N N' : ux_N) : Prop := (∀ a, a < 9 ∨ 18 ≤ a → N' a = N a) ∧ N' 9 0 = N 9 0
theorem cFs_of {N N1 N2 : ux_N} (a : cFr N N1) (b : cFs N1 N2) : cFs N N2 := ⟨fun x hx => (b.1 x hx).trans (a.1 x hx), b.2.trans (a.2 0 (by decide) (by decide) (by decide))⟩
theorem cFs_r {N N1 : ux_N} (a : cFr N N1) : cFs N N1 := ⟨a.1, a.2 0 (by decide) (by decide) (by decide)⟩
def ffE : ux_N ⊕ ((Int32 × ux_N) ⊕ (ux_N ⊕ ux_N)) → Option (Int32 × ux_N) :=
  Sum.elim (fun e10 => some ((e10 9 5), e10)) (Sum.elim (fun e11 => some ((-1 : Int32), (ux_u e11.2 9 1 e11.1))) (Sum.elim (fun e12 => fX4_findFault_73 1 e12) (fun e13 => some ((e13 9 5), e13))))
section CCN
variable {lt : Nat} {tx : Nat → Nat}
theorem kd_59 : kdc 59 = 3 := by decide
theorem tk_0 (p : Nat) : tkK lt tx p = 0 ↔ ¬ tkS lt tx p < lt := by
  unfold tkK
  by_cases c : tkS lt tx p < lt
  · rw [if_pos c]
    have := kd_3 (tx (tkS lt tx p))
    constructor
    · intro z; omega
    · intro z; exact absurd c z
  · rw [if_neg c]
    exact ⟨fun _ => c, fun _ => rfl⟩
theorem cc_faultL : ∀ (n : Nat), n ≤ 24 → ∀ (f : Nat), n < f → ∀ (q p : Nat) (D : drT) (N : ux_N), txC N lt tx → p ≤ lt → (n = 0 → q ≤ lt ∧ N 9 5 = nI q) → N 9 6 = nI p → dCl N 10 D → dBd D → ∃ e r N', ux_lp (fun s : Int32 × ux_N => fX4_findFault_15b 1 s.1 s.2) f (nI (25 - n), N) = some e ∧ ffE e = some (r, N') ∧ cFs N N' ∧ ffR lt N' r (paS lt tx n q p D) := by
  intro n
  induction n with
  | zero =>
    intro _ f hf q p D N h hp hq e6 hd hb
    obtain ⟨hq, e5⟩ := hq rfl
    obtain ⟨f, rfl⟩ : ∃ g, f = g + 1 := ⟨f - 1, by omega⟩
    refine ⟨.inr (.inr (.inr N)), N 9 5, N, ?_, rfl, ⟨fun _ _ => rfl, rfl⟩, ffR_l e5 hq⟩
    show (fX4_findFault_15b 1 (nI 25) N).bind _ = _
    unfold fX4_findFault_15b
    rw [if_pos (by decide)]; rfl
  | succ n ih =>
    intro h24 f hf q p D N h hp hq e6 hd hb
    obtain ⟨f, rfl⟩ : ∃ g, f = g + 1 := ⟨f - 1, by omega⟩
    obtain ⟨r, N1, c0, c1, c2⟩ := cc_readClause h hp e6 hd hb
    have nl : ¬ (24 : Int32) < nI (25 - (n + 1)) := fun z => by have := (nI_ltI (a := 24) (by decide) (by omega)).mp z; omega
    have hs : ∀ o, (if r = 0 then (some (.inr (.inl N1))) else ((fX4_advance N1).bind (fun o5 => if (o5 9 4) = 0 then (some (.inr (.inr (.inl (nI (25 - (n + 1)), o5))))) else (if (o5 9 4) = (3 : Int32) then (if ux_in (o5 9 5) 200 then (if (o5 18 ((o5 9 5).toNatClampNeg)) = (59 : Int32) then (some (.inl ((nI (25 - (n + 1)) + 1), o5))) else (some (.inr (.inr (.inr (.inl o5)))))) else none) else (some (.inr (.inr (.inr (.inl o5)))))))) : Option ((Int32 × ux_N) ⊕ ((ux_N) ⊕ ((Int32 × ux_N) ⊕ ((ux_N) ⊕ (ux_N)))))) = o → fX4_findFault_15b 1 (nI (25 - (n + 1))) N = o := fun o ho => by
      unfold fX4_findFault_15b
      rw [if_neg nl, c0, Option.bind_some]
      exact ho
    have go : ∀ o e, fX4_findFault_15b 1 (nI (25 - (n + 1))) N = some o → Sum.elim (ux_lp (fun s : Int32 × ux_N => fX4_findFault_15b 1 s.1 s.2) f) some o = some e → ux_lp (fun s : Int32 × ux_N => fX4_findFault_15b 1 s.1 s.2) (f + 1) (nI (25 - (n + 1)), N) = some e := fun o e h1 h2 => by
      show (fX4_findFault_15b 1 (nI (25 - (n + 1))) N).bind _ = _
      rw [h1]; exact h2
    unfold paS
    cases hc : clS lt tx p D with
    | inl x =>
      rw [hc] at c2
      obtain ⟨rfl, d1, d2⟩ := c2.1 x rfl
      exact ⟨.inl N1, N1 9 5, N1, go _ _ (hs _ (if_pos rfl)) rfl, rfl, cFs_r c1, ffR_l d1 d2⟩
    | inr y =>
      rw [hc] at c2
      obtain ⟨rfl, d1, d2, d3, d4⟩ := c2.2 y rfl
      obtain ⟨b1, b2, b3, b4, b5⟩ := tk_b lt tx d2
      have h1 := txC_fr h c1
      obtain ⟨N2, a0, a1, a2, a3, a4, a5⟩ := cc_advance h1 d2 d1
      have f2 := cFr_tr c1 (cFr_of a1 a2)
      have h2 := txC_fr h f2
      have hd2 : dCl N2 10 y.2 := dC_fr d3 (fun a h1 h2 => a1 a (by omega))
      have k4 := tk_4 (lt := lt) (tx := tx) y.1
      have h200 := h.1
      have hs2 : ∀ o, ((if nI (tkK lt tx y.1) = 0 then (some (.inr (.inr (.inl (nI (25 - (n + 1)), N2))))) else (if nI (tkK lt tx y.1) = (3 : Int32) then (if ux_in (N2 9 5) 200 then (if (N2 18 ((N2 9 5).toNatClampNeg)) = (59 : Int32) then (some (.inl ((nI (25 - (n + 1)) + 1), N2))) else (some (.inr (.inr (.inr (.inl N2)))))) else none) else (some (.inr (.inr (.inr (.inl N2))))))) : Option ((Int32 × ux_N) ⊕ ((ux_N) ⊕ ((Int32 × ux_N) ⊕ ((ux_N) ⊕ (ux_N)))))) = o → fX4_findFault_15b 1 (nI (25 - (n + 1))) N = o := fun o ho => hs _ (by
        rw [if_neg (by decide), a0, Option.bind_some, a3]
        exact ho)
      dsimp only
      by_cases c : tkS lt tx y.1 < lt
      · rw [if_pos c]
        have ek : tkK lt tx y.1 = kdc (tx (tkS lt tx y.1)) := by unfold tkK; rw [if_pos c]
        have x := h2.2.2 _ c
        have nk : ¬ nI (tkK lt tx y.1) = 0 := fun z => ((tk_0 y.1).mp ((pb_eq0 (by omega)).mp z)) c
        by_cases c59 : tx (tkS lt tx y.1) = 59
        · rw [if_pos c59]
          have k3 : tkK lt tx y.1 = 3 := by rw [ek, c59]; rfl
          obtain ⟨e, r, N', i1, i2, i3, i4⟩ := ih (by omega) f (by omega) (tkS lt tx y.1) (tkE lt tx y.1) y.2 N2 h2 b4 (fun _ => ⟨b2, a4⟩) a5 hd2 d4
          refine ⟨e, r, N', go (.inl (nI (25 - n), N2)) e (hs2 _ ?_) i1, i2, cFs_of f2 i3, i4⟩
          rw [if_neg nk, if_pos (show nI (tkK lt tx y.1) = (3 : Int32) from by rw [k3]; rfl), a4, pb_in (by omega) (by decide), if_pos rfl, nI_clamp (by omega), x.1, c59, if_pos (show nI 59 = (59 : Int32) from rfl), show nI (25 - (n + 1)) + 1 = nI (25 - n) from by rw [li_1, nI_add]; exact congrArg nI (by omega)]
        · rw [if_neg c59]
          refine ⟨.inr (.inr (.inl N2)), N2 9 5, N2, go (.inr (.inr (.inr (.inl N2)))) _ (hs2 _ ?_) rfl, rfl, cFs_r f2, ffR_l a4 b2⟩
          rw [if_neg nk]
          by_cases k3 : tkK lt tx y.1 = 3
          · rw [if_pos (show nI (tkK lt tx y.1) = (3 : Int32) from by rw [k3]; rfl), a4, pb_in (by omega) (by decide), if_pos rfl, nI_clamp (by omega), x.1, if_neg (show ¬ nI (tx (tkS lt tx y.1)) = (59 : Int32) from fun z => c59 ((nI_eq (b := 59) (by omega) (by decide)).mp z))]
          · rw [if_neg (show ¬ nI (tkK lt tx y.1) = (3 : Int32) from fun z => k3 ((nI_eq (b := 3) (by omega) (by decide)).mp z))]
      · rw [if_neg c]
        have k0 := (tk_0 y.1).mpr c
        refine ⟨.inr (.inl (nI (25 - (n + 1)), N2)), -1, ux_u N2 9 1 (nI (25 - (n + 1))), go (.inr (.inr (.inl (nI (25 - (n + 1)), N2)))) _ (hs2 _ ?_) rfl, rfl, ⟨fun a ha => ?_, ?_⟩, ffR_r rfl ?_ ?_ d4⟩
        · rw [k0, if_pos (show nI 0 = (0 : Int32) from rfl)]
        · rw [uu_ne _ _ _ (by omega)]; exact f2.1 a ha
        · rw [uu_off _ _ (by decide)]; exact f2.2 0 (by decide) (by decide) (by decide)
        · rw [uu_at]; exact congrArg nI (by show 25 - (n + 1) = 24 - n; omega)
        · exact dC_fr hd2 (fun a h1 h2 => uu_ne _ _ _ (by omega))
theorem cc_copyP (N : ux_N) {c0 c1 : Nat} (hc : c0 + 8 ≤ c1 ∨ c1 + 8 ≤ c0) {D : drT} (hd : dCl N c1 D) (hb : dBd D) : ∃ N', fX3_copyFrom c0 c1 N = some N' ∧ dCl N' c0 D ∧ ∀ a, a < c0 ∨ c0 + 8 ≤ a → N' a = N a := by
  obtain ⟨⟨e0, e1, e2, e3⟩, r1, r2, r3⟩ := hd
  have l10 := hb.1.2.2
  have t9 := hb.2.2.1.1.1
  have o6 := hb.2.2.2.1
  obtain ⟨N1, hN1⟩ : ∃ N1, N1 = (ux_u (ux_u (ux_u (ux_u N c0 0 (N c1 0)) c0 1 ((ux_u N c0 0 (N c1 0)) c1 1)) c0 2 ((ux_u (ux_u N c0 0 (N c1 0)) c0 1 ((ux_u N c0 0 (N c1 0)) c1 1)) c1 2)) c0 3 ((ux_u (ux_u (ux_u N c0 0 (N c1 0)) c0 1 ((ux_u N c0 0 (N c1 0)) c1 1)) c0 2 ((ux_u (ux_u N c0 0 (N c1 0)) c0 1 ((ux_u N c0 0 (N c1 0)) c1 1)) c1 2)) c1 3)) := ⟨_, rfl⟩
  have n_ne : ∀ a, a ≠ c0 → N1 a = N a := fun a ha => by rw [hN1, uu_ne _ _ _ ha, uu_ne _ _ _ ha, uu_ne _ _ _ ha, uu_ne _ _ _ ha]
  have n0 : N1 c0 0 = N c1 0 := by rw [hN1, uu_off _ _ (by decide : (0 : Nat) ≠ 3), uu_off _ _ (by decide : (0 : Nat) ≠ 2), uu_off _ _ (by decide : (0 : Nat) ≠ 1), uu_at]
  have n1 : N1 c0 1 = N c1 1 := by rw [hN1, uu_off _ _ (by decide : (1 : Nat) ≠ 3), uu_off _ _ (by decide : (1 : Nat) ≠ 2), uu_at, uu_ne _ _ _ (by omega : c1 ≠ c0)]
  have n2 : N1 c0 2 = N c1 2 := by rw [hN1, uu_off _ _ (by decide : (2 : Nat) ≠ 3), uu_at, uu_ne _ _ _ (by omega : c1 ≠ c0), uu_ne _ _ _ (by omega : c1 ≠ c0)]
  have n3 : N1 c0 3 = N c1 3 := by rw [hN1, uu_at, uu_ne _ _ _ (by omega : c1 ≠ c0), uu_ne _ _ _ (by omega : c1 ≠ c0), uu_ne _ _ _ (by omega : c1 ≠ c0)]
  have hf : fX3_copyFrom c0 c1 N = some (ux_cpN (ux_cpN (ux_cpN (ux_cpN (ux_cpN (ux_cpN (ux_cpN N1 (c1 + 1) (c0 + 1) 0 0 10) (c1 + 2) (c0 + 2) 0 0 10) (c1 + 3) (c0 + 3) 0 0 9) (c1 + 4) (c0 + 4) 0 0 9) (c1 + 5) (c0 + 5) 0 0 6) (c1 + 6) (c0 + 6) 0 0 6) (c1 + 7) (c0 + 7) 0 0 6) := by rw [hN1]; rfl
  refine ⟨_, hf, ⟨⟨?_, ?_, ?_, ?_⟩, fun k hk => ⟨?_, ?_⟩, fun k hk => ⟨?_, ?_⟩, fun k hk => ⟨?_, ?_, ?_⟩⟩, fun a ha => ?_⟩
  · rw [cp_ne _ _ _ _ _ _ (by omega), cp_ne _ _ _ _ _ _ (by omega), cp_ne _ _ _ _ _ _ (by omega), cp_ne _ _ _ _ _ _ (by omega), cp_ne _ _ _ _ _ _ (by omega), cp_ne _ _ _ _ _ _ (by omega), cp_ne _ _ _ _ _ _ (by omega), n0]; exact e0
  · rw [cp_ne _ _ _ _ _ _ (by omega), cp_ne _ _ _ _ _ _ (by omega), cp_ne _ _ _ _ _ _ (by omega), cp_ne _ _ _ _ _ _ (by omega), cp_ne _ _ _ _ _ _ (by omega), cp_ne _ _ _ _ _ _ (by omega), cp_ne _ _ _ _ _ _ (by omega), n1]; exact e1
  · rw [cp_ne _ _ _ _ _ _ (by omega), cp_ne _ _ _ _ _ _ (by omega), cp_ne _ _ _ _ _ _ (by omega), cp_ne _ _ _ _ _ _ (by omega), cp_ne _ _ _ _ _ _ (by omega), cp_ne _ _ _ _ _ _ (by omega), cp_ne _ _ _ _ _ _ (by omega), n2]; exact e2
  · rw [cp_ne _ _ _ _ _ _ (by omega), cp_ne _ _ _ _ _ _ (by omega), cp_ne _ _ _ _ _ _ (by omega), cp_ne _ _ _ _ _ _ (by omega), cp_ne _ _ _ _ _ _ (by omega), cp_ne _ _ _ _ _ _ (by omega), cp_ne _ _ _ _ _ _ (by omega), n3]; exact e3
  · rw [cp_ne _ _ _ _ _ _ (by omega : c0 + 1 ≠ c0 + 7), cp_ne _ _ _ _ _ _ (by omega : c0 + 1 ≠ c0 + 6), cp_ne _ _ _ _ _ _ (by omega : c0 + 1 ≠ c0 + 5), cp_ne _ _ _ _ _ _ (by omega : c0 + 1 ≠ c0 + 4), cp_ne _ _ _ _ _ _ (by omega : c0 + 1 ≠ c0 + 3), cp_ne _ _ _ _ _ _ (by omega : c0 + 1 ≠ c0 + 2), cp_in _ _ _ _ _ _ (Nat.zero_le _) (by omega), n_ne _ (by omega), Nat.sub_zero, Nat.zero_add]; exact (r1 k hk).1
  · rw [cp_ne _ _ _ _ _ _ (by omega : c0 + 2 ≠ c0 + 7), cp_ne _ _ _ _ _ _ (by omega : c0 + 2 ≠ c0 + 6), cp_ne _ _ _ _ _ _ (by omega : c0 + 2 ≠ c0 + 5), cp_ne _ _ _ _ _ _ (by omega : c0 + 2 ≠ c0 + 4), cp_ne _ _ _ _ _ _ (by omega : c0 + 2 ≠ c0 + 3), cp_in _ _ _ _ _ _ (Nat.zero_le _) (by omega), cp_ne _ _ _ _ _ _ (by omega : c1 + 2 ≠ c0 + 1), n_ne _ (by omega), Nat.sub_zero, Nat.zero_add]; exact (r1 k hk).2
  · rw [cp_ne _ _ _ _ _ _ (by omega : c0 + 3 ≠ c0 + 7), cp_ne _ _ _ _ _ _ (by omega : c0 + 3 ≠ c0 + 6), cp_ne _ _ _ _ _ _ (by omega : c0 + 3 ≠ c0 + 5), cp_ne _ _ _ _ _ _ (by omega : c0 + 3 ≠ c0 + 4), cp_in _ _ _ _ _ _ (Nat.zero_le _) (by omega), cp_ne _ _ _ _ _ _ (by omega : c1 + 3 ≠ c0 + 2), cp_ne _ _ _ _ _ _ (by omega : c1 + 3 ≠ c0 + 1), n_ne _ (by omega), Nat.sub_zero, Nat.zero_add]; exact (r2 k hk).1
  · rw [cp_ne _ _ _ _ _ _ (by omega : c0 + 4 ≠ c0 + 7), cp_ne _ _ _ _ _ _ (by omega : c0 + 4 ≠ c0 + 6), cp_ne _ _ _ _ _ _ (by omega : c0 + 4 ≠ c0 + 5), cp_in _ _ _ _ _ _ (Nat.zero_le _) (by omega), cp_ne _ _ _ _ _ _ (by omega : c1 + 4 ≠ c0 + 3), cp_ne _ _ _ _ _ _ (by omega : c1 + 4 ≠ c0 + 2), cp_ne _ _ _ _ _ _ (by omega : c1 + 4 ≠ c0 + 1), n_ne _ (by omega), Nat.sub_zero, Nat.zero_add]; exact (r2 k hk).2
  · rw [cp_ne _ _ _ _ _ _ (by omega : c0 + 5 ≠ c0 + 7), cp_ne _ _ _ _ _ _ (by omega : c0 + 5 ≠ c0 + 6), cp_in _ _ _ _ _ _ (Nat.zero_le _) (by omega), cp_ne _ _ _ _ _ _ (by omega : c1 + 5 ≠ c0 + 4), cp_ne _ _ _ _ _ _ (by omega : c1 + 5 ≠ c0 + 3), cp_ne _ _ _ _ _ _ (by omega : c1 + 5 ≠ c0 + 2), cp_ne _ _ _ _ _ _ (by omega : c1 + 5 ≠ c0 + 1), n_ne _ (by omega), Nat.sub_zero, Nat.zero_add]; exact (r3 k hk).1
  · rw [cp_ne _ _ _ _ _ _ (by omega : c0 + 6 ≠ c0 + 7), cp_in _ _ _ _ _ _ (Nat.zero_le _) (by omega), cp_ne _ _ _ _ _ _ (by omega : c1 + 6 ≠ c0 + 5), cp_ne _ _ _ _ _ _ (by omega : c1 + 6 ≠ c0 + 4), cp_ne _ _ _ _ _ _ (by omega : c1 + 6 ≠ c0 + 3), cp_ne _ _ _ _ _ _ (by omega : c1 + 6 ≠ c0 + 2), cp_ne _ _ _ _ _ _ (by omega : c1 + 6 ≠ c0 + 1), n_ne _ (by omega), Nat.sub_zero, Nat.zero_add]; exact (r3 k hk).2.1
  · rw [cp_in _ _ _ _ _ _ (Nat.zero_le _) (by omega), cp_ne _ _ _ _ _ _ (by omega : c1 + 7 ≠ c0 + 6), cp_ne _ _ _ _ _ _ (by omega : c1 + 7 ≠ c0 + 5), cp_ne _ _ _ _ _ _ (by omega : c1 + 7 ≠ c0 + 4), cp_ne _ _ _ _ _ _ (by omega : c1 + 7 ≠ c0 + 3), cp_ne _ _ _ _ _ _ (by omega : c1 + 7 ≠ c0 + 2), cp_ne _ _ _ _ _ _ (by omega : c1 + 7 ≠ c0 + 1), n_ne _ (by omega), Nat.sub_zero, Nat.zero_add]; exact (r3 k hk).2.2
  · rw [cp_ne _ _ _ _ _ _ (by omega), cp_ne _ _ _ _ _ _ (by omega), cp_ne _ _ _ _ _ _ (by omega), cp_ne _ _ _ _ _ _ (by omega), cp_ne _ _ _ _ _ _ (by omega), cp_ne _ _ _ _ _ _ (by omega), cp_ne _ _ _ _ _ _ (by omega), n_ne a (by omega)]
theorem cc_findFault {N : ux_N} {D : drT} (h : txC N lt tx) (hd : dCl N 1 D) (hb : dBd D) : ∃ r N', fX4_findFault 1 N = some (r, N') ∧ cFs N N' ∧ ffR lt N' r (paS lt tx 24 0 0 D) := by
  obtain ⟨N1, a0, a1, a2⟩ := cc_copyP N (c0 := 10) (c1 := 1) (by decide) hd hb
  have f1 : cFr N (ux_u N1 9 6 (0 : Int32)) := cFr_tr (cFr_dr a2) ⟨fun a ha => uu_ne _ _ _ (by omega), fun j h4 h5 h6 => uu_off _ _ h6⟩
  obtain ⟨e, r, N', i1, i2, i3, i4⟩ := cc_faultL (lt := lt) (tx := tx) 24 (Nat.le_refl _) ux_fu (by decide) 0 0 D (ux_u N1 9 6 (0 : Int32)) (txC_fr h f1) (Nat.zero_le _) (fun z => by omega) (by rw [uu_at]; rfl) (dC_fr a1 (fun a h1 h2 => uu_ne _ _ _ (by omega))) hb
  refine ⟨r, N', ?_, cFs_of f1 i3, i4⟩
  unfold fX4_findFault
  rw [a0, Option.bind_some]
  show (ux_lp (fun s : Int32 × ux_N => fX4_findFault_15b 1 s.1 s.2) ux_fu (nI (25 - 24), ux_u N1 9 6 (0 : Int32))).bind _ = _
  rw [i1]
  exact i2
end CCN
