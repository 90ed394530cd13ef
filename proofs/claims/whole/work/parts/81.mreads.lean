/-! the text as the reference reads it -/
section MRD
variable {lt : Nat} {tx : Nat → Nat} {N : ux_N} {D : drT} {dg : Nat}
theorem lm_readsClause {p : Nat} (hg : dg < 2) (h : rsI N D lt tx p dg) (hp : p ≤ lt) (hb : dBd D) : ∃ r N', fX12_readsClause N = some (r, N') ∧ mFr dg N N' ∧ N' 0 22 = N 0 22 ∧ rcR dg lt tx N' r (clS lt tx p D) := by
  obtain ⟨b1, b2, b3, b4, b5⟩ := tk_b lt tx hp
  obtain ⟨c1, c2, c3, c4, c5⟩ := tk_b lt tx b4
  obtain ⟨d1, d2, d3, d4, d5⟩ := tk_b lt tx c4
  obtain ⟨e1, e2, e3, e4, e5⟩ := tk_b lt tx d4
  have hw := lm_wordHere h.1 h.2.1 b3 b4 h.2.2.1.1 h.2.2.1.2
  have hW : wdH tx (tkS lt tx p) (tkE lt tx p) ≤ 8 := fa_first_le _ 8
  obtain ⟨N1, n0, n1, n2, n3, n4⟩ := lm_next h.1 b4 h.2.2.1.2
  have f1 : nFr N N1 := ⟨fun a h0 _ => n1 a h0, n2⟩
  have h1 : rsI N1 D lt tx (tkE lt tx p) dg := rsI_n h f1 n3 n4
  have same : ∀ {o}, fX12_readsClause N = some (0, N) → o = .inl (tkS lt tx p) → ∃ r N', fX12_readsClause N = some (r, N') ∧ mFr dg N N' ∧ N' 0 22 = N 0 22 ∧ rcR dg lt tx N' r o := fun {o} g1 g2 => ⟨0, N, g1, nFr_m ⟨fun _ _ _ => rfl, fun _ _ _ => rfl⟩, rfl, by rw [g2]; exact rcR_l rfl h.2.2.1.1⟩
  have l10 := hb.1.2.2
  have nd8 := hb.1.2.1
  have t9 := hb.2.2.1.1.1
  have o6 := hb.2.2.2.1
  have h2 : ∀ v : Int32, rsI (ux_u N1 11 2 v) D lt tx (tkE lt tx p) dg := fun v => rsI_n h1 (nFr_11 N1 2 v) (by rw [uu_ne _ _ _ (by decide)]; exact n3) (by rw [uu_ne _ _ _ (by decide)]; exact n4)
  have f2 : ∀ v : Int32, nFr N (ux_u N1 11 2 v) := fun v => nFr_tr f1 (nFr_11 N1 2 v)
  have fail : ∀ {M : ux_N} {q : Nat} {o}, rsI M D lt tx q dg → nFr N M → fX12_readsClause N = some (0, M) → o = .inl (tkS lt tx q) → ∃ r N', fX12_readsClause N = some (r, N') ∧ mFr dg N N' ∧ N' 0 22 = N 0 22 ∧ rcR dg lt tx N' r o := fun {M q o} g0 g1 g2 g3 => ⟨0, M, g2, nFr_m g1, g1.2 22 (by decide) (by decide), by rw [g3]; exact rcR_l rfl g0.2.2.1.1⟩
  have good : ∀ {M : ux_N} {q : Nat} {o} {W a b c d : Int32} {D' : drT}, rsI M D lt tx q dg → nFr N M → fX12_readsClause N = fX12_readsClause_186 W d (ux_u (ux_u (ux_u M 0 18 a) 0 19 b) 0 21 c) → a = nI (dNd D') → b = nI (dLn D') → c = nI (dOf D') → d = nI (dTm D') → (∀ M1, M1 11 = M 11 → dMl M1 D → ∃ M', fX12_does W M1 = some M' ∧ dMl M' D' ∧ dFr M1 M') → o = .inr (q, D') → q ≤ lt → dBd D' → ∃ r N', fX12_readsClause N = some (r, N') ∧ mFr dg N N' ∧ N' 0 22 = N 0 22 ∧ rcR dg lt tx N' r o := fun {M q o W a b c d D'} g0 g1 g2 ga gb gc gd g3 g4 g5 g6 => by
    obtain ⟨N', t0, t1, t2, t3⟩ := lm_tail g0 hg ga gb gc gd g3
    exact ⟨1, N', by rw [g2]; exact t0, mFr_tr (nFr_m g1) t1, t2.trans (g1.2 22 (by decide) (by decide)), by rw [g4]; exact rcR_r rfl t3 g5 g6⟩
  have met : ∀ w, w < 5 → fX12_readsClause N = (if (N 0 20) = (9 : Int32) then (fX12_readsClause_53 N) else (fX12_readsClause_55 (nI w) N)) → (fX12_readsRest (nI w) N1 = (if w < 2 then fX12_readsRest_171 ((ux_u N1 11 2 0) 0 19) 0 0 (ux_u N1 11 2 0) else fX12_readsRest_171 ((ux_u N1 11 2 0) 0 18) 0 0 (ux_u N1 11 2 0))) → (∀ M : ux_N, (if nI w = (6 : Int32) then (fX12_readsClause_89 (nI w) (M 11 0) M) else (fX12_readsClause_89 (nI w) (M 0 18) M)) = fX12_readsClause_186 (nI w) (M 0 20 + 1) (ux_u (ux_u (ux_u M 0 18 (M 0 18)) 0 19 (M 0 19)) 0 21 (M 0 21))) → ∃ r N', fX12_readsClause N = some (r, N') ∧ mFr dg N N' ∧ N' 0 22 = N 0 22 ∧ rcR dg lt tx N' r (if dTm D = 9 then .inl (tkS lt tx p) else match nuO lt tx (tkE lt tx p) 0 (dPl D w) with | none => .inl (tkS lt tx (tkE lt tx p)) | some a => .inr (tkE lt tx (tkE lt tx p), dMeter w a D)) := fun w hw5 k1 k2 k3 => by
    by_cases q : dTm D = 9
    · rw [if_pos q]
      refine same ?_ rfl
      rw [k1, h.2.2.2.1.2.2.1, q, if_pos (show nI 9 = (9 : Int32) from rfl)]; rfl
    · rw [if_neg q]
      rw [h.2.2.2.1.2.2.1, if_neg (show ¬ nI (dTm D) = (9 : Int32) from fun z => q ((nI_eq (b := 9) (by omega) (by decide)).mp z))] at k1
      have pb := dPl_b hb w
      have k4 : fX12_readsRest (nI w) N1 = (fX12_number (nI 0) (nI 0) (nI (dPl D w) - (1 : Int32)) (ux_u N1 11 2 0)).bind (fun o1 => if ux_b o1.1 then (some (o1.1, o1.2)) else none) := by
        rw [k2]
        unfold dPl
        have z2 := h2 0
        by_cases w2 : w < 2
        · rw [if_pos w2, if_pos w2, z2.2.2.2.1.2.1]; rfl
        · rw [if_neg w2, if_neg w2, z2.2.2.2.1.1]; rfl
      have k5 : ∀ {r M}, fX12_number (nI 0) (nI 0) (nI (dPl D w) - (1 : Int32)) (ux_u N1 11 2 0) = some (r, M) → ux_b r = true → fX12_readsClause N = if r = 0 then some (0, M) else (if nI w = (6 : Int32) then (fX12_readsClause_89 (nI w) (M 11 0) M) else (fX12_readsClause_89 (nI w) (M 0 18) M)) := fun {r M} z1 z2 => by
        rw [k1]
        unfold fX12_readsClause_55
        rw [n0, Option.bind_some, k4, z1, Option.bind_some, if_pos z2]; rfl
      obtain ⟨m1, m2⟩ := lm_num (kk := 0) (a := 0) (b := dPl D w) (h2 0) b4 (by decide) (by decide) (by omega) (fun z => by cases z)
      cases hq : nuO lt tx (tkE lt tx p) 0 (dPl D w) with
      | none => exact fail (h2 0) (f2 0) (by rw [k5 (m1 hq) rfl, if_pos rfl]) rfl
      | some a =>
        obtain ⟨M, m3, m4, m5, m6⟩ := m2 a hq
        have hv := nuO_b hq
        have e0 : M 11 0 = nI a := by rw [m5, if_pos rfl]
        refine good (W := nI w) (D' := dMeter w a D) m6 (nFr_tr (f2 0) m4) (by rw [k5 m3 rfl, if_neg (by decide), k3]) ?_ ?_ ?_ ?_ (fun M1 z1 z2 => dm_meter z2 (by omega) hw5 (by rw [z1]; exact e0)) rfl c4 (dB_meter hb (by omega) hw5 hv.2)
        · exact m6.2.2.2.1.1
        · exact m6.2.2.2.1.2.1
        · exact m6.2.2.2.1.2.2.2
        · rw [m6.2.2.2.1.2.2.1, li_1, nI_add]; rfl
  unfold clS
  generalize wdH tx (tkS lt tx p) (tkE lt tx p) = W at hw hW ⊢
  have hc : W = 6 ∨ W = 7 ∨ W = 5 ∨ W = 8 ∨ W < 5 := by omega
  rcases hc with rfl | rfl | rfl | rfl | hc
  · have hw : fX12_wordHere N = some (6 : Int32) := hw
    have k1 : fX12_readsClause N = fX12_readsClause_55 (6 : Int32) N := by unfold fX12_readsClause; rw [hw]; rfl
    have k5 : ∀ {r M}, fX12_number (nI 0) (nI 2) (nI 9 - (1 : Int32)) (ux_u N1 11 2 0) = some (r, M) → ux_b r = true → fX12_readsClause N = if r = 0 then some (0, M) else fX12_readsClause_186 6 0 (ux_u (ux_u (ux_u M 0 18 (M 11 0)) 0 19 0) 0 21 0) := fun {r M} z1 z2 => by
      rw [k1]
      unfold fX12_readsClause_55
      rw [n0, Option.bind_some, show fX12_readsRest (6 : Int32) N1 = (fX12_number (nI 0) (nI 2) (nI 9 - (1 : Int32)) (ux_u N1 11 2 0)).bind (fun o10 => if ux_b o10.1 then (some (o10.1, o10.2)) else none) from rfl, z1, Option.bind_some, if_pos z2]; rfl
    obtain ⟨m1, m2⟩ := lm_num (kk := 0) (a := 2) (b := 9) (h2 0) b4 (by decide) (by decide) (by decide) (fun z => by cases z)
    show ∃ r N', _ ∧ _ ∧ _ ∧ rcR dg lt tx N' r (match nuO lt tx (tkE lt tx p) 2 9 with | none => .inl (tkS lt tx (tkE lt tx p)) | some v => .inr (tkE lt tx (tkE lt tx p), dGrid v D))
    cases hq : nuO lt tx (tkE lt tx p) 2 9 with
    | none => exact fail (h2 0) (f2 0) (by rw [k5 (m1 hq) rfl, if_pos rfl]) rfl
    | some v =>
      obtain ⟨M, m3, m4, m5, m6⟩ := m2 v hq
      have hv := nuO_b hq
      have e0 : M 11 0 = nI v := by rw [m5, if_pos rfl]
      exact good (W := 6) (a := M 11 0) (b := 0) (c := 0) (d := 0) (D' := dGrid v D) m6 (nFr_tr (f2 0) m4) (by rw [k5 m3 rfl, if_neg (by decide)]) e0 rfl rfl rfl (fun M1 z1 z2 => dm_grid (by rw [z1]; exact e0) D) rfl c4 (dB_grid hv.1 hv.2 D)
  · have hw : fX12_wordHere N = some (7 : Int32) := hw
    have k0 : fX12_readsClause N = if N 0 19 = (10 : Int32) then fX12_readsClause_53 N else fX12_readsClause_55 (7 : Int32) N := by unfold fX12_readsClause; rw [hw]; rfl
    show ∃ r N', _ ∧ _ ∧ _ ∧ rcR dg lt tx N' r (if dLn D = 10 then .inl (tkS lt tx p) else
      match nuO lt tx (tkE lt tx p) 0 (dNd D) with
      | none => .inl (tkS lt tx (tkE lt tx p))
      | some a => match nuO lt tx (tkE lt tx (tkE lt tx p)) 0 (dNd D) with
        | none => .inl (tkS lt tx (tkE lt tx (tkE lt tx p)))
        | some b => if b = a then .inl (tkS lt tx (tkE lt tx (tkE lt tx p))) else .inr (tkE lt tx (tkE lt tx (tkE lt tx p)), dLine a b D))
    by_cases q : dLn D = 10
    · rw [if_pos q]
      refine same ?_ rfl
      rw [k0, h.2.2.2.1.2.1, q, if_pos (show nI 10 = (10 : Int32) from rfl)]; rfl
    · rw [if_neg q]
      have k1 : fX12_readsClause N = fX12_readsClause_55 (7 : Int32) N := by
        rw [k0, h.2.2.2.1.2.1, if_neg (show ¬ nI (dLn D) = (10 : Int32) from fun z => q ((nI_eq (b := 10) (by omega) (by decide)).mp z))]
      have z2 := h2 1
      have k5 : ∀ {r M}, fX12_number (nI 0) (nI 0) (nI (dNd D) - (1 : Int32)) (ux_u N1 11 2 1) = some (r, M) → fX12_readsClause N = ((if r = 0 then (fX12_readsRest_87 M) else ((fX12_number (1 : Int32) (0 : Int32) ((M 0 18) - (1 : Int32)) M).bind (fun o17 => if o17.1 = 0 then (fX12_readsRest_87 o17.2) else (fX12_readsRest_88 (1 : Int32) o17.2)))).bind (fun o3 => if o3.1 = 0 then (some ((0 : Int32), o3.2)) else fX12_readsClause_186 7 (o3.2 0 20) (ux_u (ux_u (ux_u o3.2 0 18 (o3.2 0 18)) 0 19 (o3.2 0 19 + 1)) 0 21 (o3.2 0 21)))) := fun {r M} z1 => by
        rw [k1]
        unfold fX12_readsClause_55
        rw [n0, Option.bind_some, show fX12_readsRest (7 : Int32) N1 = (fX12_number (0 : Int32) (0 : Int32) (((ux_u N1 11 2 1) 0 18) - (1 : Int32)) (ux_u N1 11 2 1)).bind (fun o14 => if o14.1 = 0 then (fX12_readsRest_87 o14.2) else ((fX12_number (1 : Int32) (0 : Int32) ((o14.2 0 18) - (1 : Int32)) o14.2).bind (fun o17 => if o17.1 = 0 then (fX12_readsRest_87 o17.2) else (fX12_readsRest_88 (1 : Int32) o17.2)))) from rfl, z2.2.2.2.1.1]
        have z1 : fX12_number (0 : Int32) (0 : Int32) (nI (dNd D) - (1 : Int32)) (ux_u N1 11 2 1) = some (r, M) := z1
        rw [z1]; rfl
      obtain ⟨m1, m2⟩ := lm_num (kk := 0) (a := 0) (b := dNd D) (h2 1) b4 (by decide) (by decide) (by omega) (fun z => by cases z)
      cases hq : nuO lt tx (tkE lt tx p) 0 (dNd D) with
      | none => exact fail (h2 1) (f2 1) (by rw [k5 (m1 hq)]; rfl) rfl
      | some a =>
        obtain ⟨M, m3, m4, m5, m6⟩ := m2 a hq
        have hv := nuO_b hq
        have e0 : M 11 0 = nI a := by rw [m5, if_pos rfl]
        have e2 : M 11 2 = 1 := by rw [m5, if_neg (by decide), uu_at]
        have k6 : ∀ {r M2}, fX12_number (nI 1) (nI 0) (nI (dNd D) - (1 : Int32)) M = some (r, M2) → fX12_readsClause N = ((if r = 0 then (fX12_readsRest_87 M2) else (fX12_readsRest_88 (1 : Int32) M2)).bind (fun o3 => if o3.1 = 0 then (some ((0 : Int32), o3.2)) else fX12_readsClause_186 7 (o3.2 0 20) (ux_u (ux_u (ux_u o3.2 0 18 (o3.2 0 18)) 0 19 (o3.2 0 19 + 1)) 0 21 (o3.2 0 21)))) := fun {r M2} z1 => by
          have z1 : fX12_number (1 : Int32) (0 : Int32) (nI (dNd D) - (1 : Int32)) M = some (r, M2) := z1
          rw [k5 m3, if_neg (by decide), m6.2.2.2.1.1, z1]; rfl
        obtain ⟨x1, x2⟩ := lm_number m6.1 c4 m6.2.2.1.1 m6.2.2.1.2 (kk := 1) (a := 0) (b := dNd D) (by decide) (by decide) (by omega)
        dsimp only
        cases hq2 : nuO lt tx (tkE lt tx (tkE lt tx p)) 0 (dNd D) with
        | none => exact fail m6 (nFr_tr (f2 1) m4) (by rw [k6 (x1 hq2)]; rfl) rfl
        | some b =>
          have hx := nuO_b hq2
          obtain ⟨x3, x4⟩ := x2 b hq2
          dsimp only
          by_cases qb : b = a
          · rw [if_pos qb]
            exact fail m6 (nFr_tr (f2 1) m4) (by rw [k6 (x3 ⟨rfl, e2, by rw [e0, qb]⟩)]; rfl) rfl
          · rw [if_neg qb]
            obtain ⟨M2, y0, y1, y2, y3, y4, y5⟩ := x4 (fun z => qb ((nI_eq (by omega) (by omega)).mp (z.2.2.trans e0)))
            have y6 : rsI M2 D lt tx (tkE lt tx (tkE lt tx (tkE lt tx p))) dg := rsI_n m6 ⟨y1, y2⟩ y4 y5
            refine good (W := 7) (D' := dLine a b D) y6 (nFr_tr (nFr_tr (f2 1) m4) ⟨y1, y2⟩) (by rw [k6 y0]; rfl) y6.2.2.2.1.1 ?_ y6.2.2.2.1.2.2.2 y6.2.2.2.1.2.2.1 (fun M1 z1 z2 => dm_line z2 (by omega) (by omega) (by omega) qb (by rw [z1, y3, if_neg (by decide)]; exact e0) (by rw [z1, y3, if_pos rfl])) rfl d4 (dB_line hb (by omega) hv.2 hx.2 qb)
            show M2 0 19 + 1 = _
            rw [y6.2.2.2.1.2.1, li_1, nI_add]; rfl
  · have hw : fX12_wordHere N = some (5 : Int32) := hw
    have k0 : fX12_readsClause N = if N 0 21 = (6 : Int32) then fX12_readsClause_53 N else fX12_readsClause_55 (5 : Int32) N := by unfold fX12_readsClause; rw [hw]; rfl
    show ∃ r N', _ ∧ _ ∧ _ ∧ rcR dg lt tx N' r (if dOf D = 6 then .inl (tkS lt tx p) else
      match nuO lt tx (tkE lt tx p) 0 5 with
      | none => .inl (tkS lt tx (tkE lt tx p))
      | some a => match nuO lt tx (tkE lt tx (tkE lt tx p)) 0 (dPl D a) with
        | none => .inl (tkS lt tx (tkE lt tx (tkE lt tx p)))
        | some b => match nuO lt tx (tkE lt tx (tkE lt tx (tkE lt tx p))) 1 10 with
          | none => .inl (tkS lt tx (tkE lt tx (tkE lt tx (tkE lt tx p))))
          | some c => .inr (tkE lt tx (tkE lt tx (tkE lt tx (tkE lt tx p))), dOffer a b c D))
    by_cases q : dOf D = 6
    · rw [if_pos q]
      refine same ?_ rfl
      rw [k0, h.2.2.2.1.2.2.2, q, if_pos (show nI 6 = (6 : Int32) from rfl)]; rfl
    · rw [if_neg q]
      have k1 : fX12_readsClause N = fX12_readsClause_55 (5 : Int32) N := by
        rw [k0, h.2.2.2.1.2.2.2, if_neg (show ¬ nI (dOf D) = (6 : Int32) from fun z => q ((nI_eq (b := 6) (by omega) (by decide)).mp z))]
      have k5 : ∀ {r M}, fX12_number (nI 0) (nI 0) (nI 5 - (1 : Int32)) (ux_u N1 11 2 0) = some (r, M) → fX12_readsClause N = ((if r = 0 then (fX12_readsRest_148 M) else ((fX12_isOnLine (M 11 0)).bind (fun o6 => if o6 = 0 then (fX12_readsRest_125 (M 0 18) (0 : Int32) (1 : Int32) M) else (fX12_readsRest_125 (M 0 19) (0 : Int32) (1 : Int32) M)))).bind (fun o3 => if o3.1 = 0 then (some ((0 : Int32), o3.2)) else fX12_readsClause_186 5 (o3.2 0 20) (ux_u (ux_u (ux_u o3.2 0 18 (o3.2 0 18)) 0 19 (o3.2 0 19)) 0 21 (o3.2 0 21 + 1)))) := fun {r M} z1 => by
        rw [k1]
        unfold fX12_readsClause_55
        rw [n0, Option.bind_some, show fX12_readsRest (5 : Int32) N1 = (fX12_number (nI 0) (nI 0) (nI 5 - (1 : Int32)) (ux_u N1 11 2 0)).bind (fun o3 => if o3.1 = 0 then (fX12_readsRest_148 o3.2) else ((fX12_isOnLine (o3.2 11 0)).bind (fun o6 => if o6 = 0 then (fX12_readsRest_125 (o3.2 0 18) (0 : Int32) (1 : Int32) o3.2) else (fX12_readsRest_125 (o3.2 0 19) (0 : Int32) (1 : Int32) o3.2)))) from rfl, z1]; rfl
      obtain ⟨m1, m2⟩ := lm_num (kk := 0) (a := 0) (b := 5) (h2 0) b4 (by decide) (by decide) (by decide) (fun z => by cases z)
      cases hq : nuO lt tx (tkE lt tx p) 0 5 with
      | none => exact fail (h2 0) (f2 0) (by rw [k5 (m1 hq)]; rfl) rfl
      | some a =>
        obtain ⟨M, m3, m4, m5, m6⟩ := m2 a hq
        have hv := nuO_b hq
        have e0 : M 11 0 = nI a := by rw [m5, if_pos rfl]
        have e2 : M 11 2 = 0 := by rw [m5, if_neg (by decide), uu_at]
        have pb := dPl_b hb a
        have k6 : ∀ {r M2}, fX12_number (nI 1) (nI 0) (nI (dPl D a) - (1 : Int32)) M = some (r, M2) → fX12_readsClause N = ((if r = 0 then (fX12_readsRest_148 M2) else ((fX12_number (2 : Int32) (1 : Int32) (9 : Int32) M2).bind (fun o4 => if o4.1 = 0 then (fX12_readsRest_148 o4.2) else (fX12_readsRest_149 (1 : Int32) o4.2)))).bind (fun o3 => if o3.1 = 0 then (some ((0 : Int32), o3.2)) else fX12_readsClause_186 5 (o3.2 0 20) (ux_u (ux_u (ux_u o3.2 0 18 (o3.2 0 18)) 0 19 (o3.2 0 19)) 0 21 (o3.2 0 21 + 1)))) := fun {r M2} z1 => by
          have z1 : fX12_number (1 : Int32) (0 : Int32) (nI (dPl D a) - (1 : Int32)) M = some (r, M2) := z1
          have z3 : (fX12_isOnLine (M 11 0)).bind (fun o6 => if o6 = 0 then (fX12_readsRest_125 (M 0 18) (0 : Int32) (1 : Int32) M) else (fX12_readsRest_125 (M 0 19) (0 : Int32) (1 : Int32) M)) = fX12_readsRest_125 (nI (dPl D a)) (0 : Int32) (1 : Int32) M := by
            rw [e0, m6.2.2.2.1.1, m6.2.2.2.1.2.1]
            unfold fX12_isOnLine dPl
            by_cases a2 : a < 2
            · rw [if_neg (show ¬ (2 : Int32) ≤ nI a from fun z => by have := (nI_leI (a := 2) (by decide) (by omega)).mp z; omega), if_pos a2]; rfl
            · rw [if_pos (show (2 : Int32) ≤ nI a from (nI_leI (a := 2) (by decide) (by omega)).mpr (by omega)), if_neg a2]; rfl
          rw [k5 m3, if_neg (by decide), z3]
          unfold fX12_readsRest_125
          rw [z1]; rfl
        obtain ⟨x1, x2⟩ := lm_num (kk := 1) (a := 0) (b := dPl D a) m6 c4 (by decide) (by decide) (by omega) (fun _ => by rw [e2]; decide)
        dsimp only
        cases hq2 : nuO lt tx (tkE lt tx (tkE lt tx p)) 0 (dPl D a) with
        | none => exact fail m6 (nFr_tr (f2 0) m4) (by rw [k6 (x1 hq2)]; rfl) rfl
        | some b =>
          have hx := nuO_b hq2
          obtain ⟨M2, y0, y1, y2, y3⟩ := x2 b hq2
          have k7 : ∀ {r M3}, fX12_number (nI 2) (nI 1) (nI 10 - (1 : Int32)) M2 = some (r, M3) → fX12_readsClause N = ((if r = 0 then (fX12_readsRest_148 M3) else (fX12_readsRest_149 (1 : Int32) M3)).bind (fun o3 => if o3.1 = 0 then (some ((0 : Int32), o3.2)) else fX12_readsClause_186 5 (o3.2 0 20) (ux_u (ux_u (ux_u o3.2 0 18 (o3.2 0 18)) 0 19 (o3.2 0 19)) 0 21 (o3.2 0 21 + 1)))) := fun {r M3} z1 => by
            have z1 : fX12_number (2 : Int32) (1 : Int32) (9 : Int32) M2 = some (r, M3) := z1
            rw [k6 y0, if_neg (by decide), z1]; rfl
          obtain ⟨u1, u2⟩ := lm_num (kk := 2) (a := 1) (b := 10) y3 d4 (by decide) (by decide) (by decide) (fun z => by cases z)
          dsimp only
          cases hq3 : nuO lt tx (tkE lt tx (tkE lt tx (tkE lt tx p))) 1 10 with
          | none => exact fail y3 (nFr_tr (nFr_tr (f2 0) m4) y1) (by rw [k7 (u1 hq3)]; rfl) rfl
          | some c =>
            have hu := nuO_b hq3
            obtain ⟨M3, v0, v1, v2, v3⟩ := u2 c hq3
            refine good (W := 5) (D' := dOffer a b c D) v3 (nFr_tr (nFr_tr (nFr_tr (f2 0) m4) y1) v1) (by rw [k7 v0]; rfl) v3.2.2.2.1.1 v3.2.2.2.1.2.1 ?_ v3.2.2.2.1.2.2.1 (fun M1 z1 z2 => dm_offer z2 (by omega) (by rw [z1, v2, if_neg (by decide), y2, if_neg (by decide)]; exact e0) (by rw [z1, v2, if_neg (by decide), y2, if_pos rfl]) (by rw [z1, v2, if_pos rfl])) rfl e4 (dB_offer hb (by omega) hv.2 hx.2 hu.2)
            show M3 0 21 + 1 = _
            rw [v3.2.2.2.1.2.2.2, li_1, nI_add]; rfl
  · have hw : fX12_wordHere N = some (-1 : Int32) := hw
    refine same ?_ rfl
    unfold fX12_readsClause
    rw [hw]; rfl
  · rw [if_pos (by omega)] at hw
    have n5 : ¬ nI W = (5 : Int32) := fun z => by have := (nI_eq (b := 5) (by omega) (by decide)).mp z; omega
    have n6 : ¬ nI W = (6 : Int32) := fun z => by have := (nI_eq (b := 6) (by omega) (by decide)).mp z; omega
    have n7 : ¬ nI W = (7 : Int32) := fun z => by have := (nI_eq (b := 7) (by omega) (by decide)).mp z; omega
    have l5 : ¬ (5 : Int32) ≤ nI W := fun z => by have := (nI_leI (a := 5) (by decide) (by omega)).mp z; omega
    rw [if_neg (by omega), if_neg (by omega), if_neg (by omega), if_neg (by omega)]
    refine met W hc ?_ ?_ (fun M => ?_)
    · unfold fX12_readsClause fX12_readsClause_25 fX12_readsClause_39
      rw [hw, Option.bind_some, if_neg (pb_m1 (by omega)), if_neg n7, if_neg n5, if_neg l5]
    · unfold fX12_readsRest fX12_readsRest_16 fX12_isOnLine fX12_isOnLine_10
      rw [if_neg n7, show ux_in (2 : Int32) 3 = true from by decide, if_pos rfl, show (2 : Int32).toNatClampNeg = 2 from by decide, if_neg n5, if_neg n6, if_neg n7]
      by_cases w2 : W < 2
      · rw [if_neg (show ¬ (2 : Int32) ≤ nI W from fun z => by have := (nI_leI (a := 2) (by decide) (by omega)).mp z; omega), show ux_b (1 : Int32) = true from rfl, if_pos rfl, Option.bind_some, if_neg (by decide), if_pos w2]
      · rw [if_pos (show (2 : Int32) ≤ nI W from (nI_leI (a := 2) (by decide) (by omega)).mpr (by omega)), show ux_b (0 : Int32) = true from rfl, if_pos rfl, Option.bind_some, if_pos rfl, if_neg w2]
    · unfold fX12_readsClause_89 fX12_readsClause_122 fX12_readsClause_154
      rw [if_neg n6, if_neg n6, if_neg n7, if_neg n6, if_neg n5, if_neg n6, if_neg l5, uu_off _ _ (by decide : (20 : Nat) ≠ 21), uu_off _ _ (by decide : (20 : Nat) ≠ 19), uu_off _ _ (by decide : (20 : Nat) ≠ 18), uu_off _ _ (by decide : (21 : Nat) ≠ 19), uu_off _ _ (by decide : (21 : Nat) ≠ 18), uu_off _ _ (by decide : (19 : Nat) ≠ 18)]
end MRD
