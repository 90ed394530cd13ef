section AS2
variable {Nc Nm : ux_N} {Lc Lm : ux_L}
theorem iv_offer (h : ivA Nc Lc Nm Lm) (x y : Int32) : ∃ r Lc' Lm', fX11_offer x y Nc Lc = some (r, Lc') ∧ fX12_offer x y Nm Lm = some (r, Lm') ∧ ivA Nc Lc' Nm Lm' := by
  have h0 := h
  obtain ⟨nd, ln, lo, hi, of, os, oa, op, me, so, pl, br, cu, hG, hS, hR⟩ := h0
  have hG0 := hG
  obtain ⟨⟨p1, p2⟩, ⟨o1, o2, o3⟩, ⟨s1, s2, s3⟩, f1, f2, f3⟩ := hG
  have of6 := o1.1
  have e3 : Nc 1 3 = nI of := o2.1
  rcases i32_cases x with hx | ⟨n, hn, rfl⟩
  · refine ⟨-2, Lc, Lm, ?_, ?_, h⟩
    · unfold fX11_offer; rw [if_pos hx]; rfl
    · unfold fX12_offer; rw [in_neg hx]; rfl
  have inx : fX12_in (nI n).toInt64 (0 : Int64) (((Nm 0 4) - (1 : Int32)).toInt64) = some (if n < of then 1 else 0) := by rw [o3.1]; exact in_m1 hn (by omega)
  by_cases q : n < of
  · have eC : ∀ o, (if y = (0 : Int32) then (if ux_in (nI n) 6 then (some ((Nc 6 ((nI n).toNatClampNeg)), Lc)) else none) else (if y = (1 : Int32) then (if ux_in (nI n) 6 then (some ((Nc 7 ((nI n).toNatClampNeg)), Lc)) else none) else (if y = (2 : Int32) then (if ux_in (nI n) 6 then (some ((Nc 8 ((nI n).toNatClampNeg)), Lc)) else none) else (if y = (3 : Int32) then (if ux_in (nI n) 6 then (if ux_in (nI n) 6 then ((fX6_gain (Nc 6 ((nI n).toNatClampNeg)) (Nc 7 ((nI n).toNatClampNeg)) Nc Lc).bind (fun o12 => some (o12.1, o12.2))) else none) else none) else (some ((-3 : Int32), Lc)))))) = o → fX11_offer (nI n) y Nc Lc = o := fun o ho => by
      unfold fX11_offer
      rw [if_neg (pb_lt0 hn), e3, if_pos ((nI_ltI hn (by omega)).mpr q)]; exact ho
    have eM : ∀ o, ((fX12_in (y.toInt64) (0 : Int64) (2 : Int64)).bind (fun o4 => if o4 = 0 then (if y = (3 : Int32) then (if ux_in ((3 : Int32) * nI n) 18 then (if ux_in (((3 : Int32) * nI n) + (1 : Int32)) 18 then ((fX12_bringsOf (Nm 3 (((3 : Int32) * nI n).toNatClampNeg)) (Nm 3 ((((3 : Int32) * nI n) + (1 : Int32)).toNatClampNeg)) Nm Lm).bind (fun o10 => fX12_offer_76 o10.1 Nm o10.2)) else none) else none) else (fX12_offer_76 (-3 : Int32) Nm Lm)) else (if ux_in (((3 : Int32) * nI n) + y) 18 then (fX12_offer_76 (Nm 3 ((((3 : Int32) * nI n) + y).toNatClampNeg)) Nm Lm) else none))) = o → fX12_offer (nI n) y Nm Lm = o := fun o ho => by
      unfold fX12_offer
      rw [inx, if_pos q, Option.bind_some, if_neg (by decide)]; exact ho
    obtain ⟨x1, x2, x3⟩ := o2.2 n q
    have x1 : Nc 6 n = nI (os n) := x1
    have x2 : Nc 7 n = nI (oa n) := x2
    have x3 : Nc 8 n = nI (op n) := x3
    obtain ⟨y1, y2, y3⟩ := o3.2 n q
    have i3 : (3 : Int32) * nI n = nI (3 * n) := by rw [li_3, pk_mul]
    rcases tk_cases y with ⟨k1, k2, rfl | rfl | rfl⟩ | ⟨k1, k2, k3, k4, k5⟩
    · refine ⟨nI (os n), Lc, Lm, eC _ ?_, eM _ ?_, h⟩
      · rw [if_pos rfl, pb_in (by omega) (by decide), if_pos rfl, nI_clamp (by omega), x1]
      · rw [k2, Option.bind_some, if_neg (by decide), i3, li_0, nI_add, pb_in (by omega) (by decide), if_pos rfl, nI_clamp (by omega), Nat.add_zero, y1]; rfl
    · refine ⟨nI (oa n), Lc, Lm, eC _ ?_, eM _ ?_, h⟩
      · rw [if_neg (by decide), if_pos rfl, pb_in (by omega) (by decide), if_pos rfl, nI_clamp (by omega), x2]
      · rw [k2, Option.bind_some, if_neg (by decide), i3, li_1, nI_add, pb_in (by omega) (by decide), if_pos rfl, nI_clamp (by omega), y2]; rfl
    · refine ⟨nI (op n), Lc, Lm, eC _ ?_, eM _ ?_, h⟩
      · rw [if_neg (by decide), if_neg (by decide), if_pos rfl, pb_in (by omega) (by decide), if_pos rfl, nI_clamp (by omega), x3]
      · rw [k2, Option.bind_some, if_neg (by decide), i3, li_2, nI_add, pb_in (by omega) (by decide), if_pos rfl, nI_clamp (by omega), y3]; rfl
    · by_cases k6 : y = 3
      · obtain ⟨b1, b2, b3⟩ := o1.2 n q
        obtain ⟨L1, a0, a1⟩ := cc_gain p1 s2 f1 hS.1 b1 b2
        obtain ⟨L2, c0, c1⟩ := lm_brings p2 s1 s3 f3 f2 b1 b2
        refine ⟨nI (rkG ln lo hi me so pl br cu (os n) (oa n)) - nI (rkS ln lo hi me so pl br cu), L1, L2, eC _ ?_, eM _ ?_, iv_askM hG0 hS hR (fun _ _ _ => rfl) (a1 36 (by decide) (by decide)) (a1 39 (by decide) (by decide)) c1⟩
        · rw [if_neg k3, if_neg k4, if_neg k5, if_pos k6, pb_in (by omega) (by decide), if_pos rfl, if_pos rfl, nI_clamp (by omega), x1, x2, a0]; rfl
        · rw [k2, Option.bind_some, if_pos rfl, if_pos k6, i3, pb_in (by omega) (by decide), if_pos rfl, show nI (3 * n) + (1 : Int32) = nI (3 * n + 1) from nI_add _ 1, pb_in (by omega) (by decide), if_pos rfl, nI_clamp (by omega), nI_clamp (by omega), y1, y2, c0]; rfl
      · refine ⟨-3, Lc, Lm, eC _ ?_, eM _ ?_, h⟩
        · rw [if_neg k3, if_neg k4, if_neg k5, if_neg k6]
        · rw [k2, Option.bind_some, if_pos rfl, if_neg k6]; rfl
  · refine ⟨-2, Lc, Lm, ?_, ?_, h⟩
    · unfold fX11_offer; rw [if_neg (pb_lt0 hn), e3, if_neg (fun z => q ((nI_ltI hn (by omega)).mp z))]; rfl
    · unfold fX12_offer; rw [inx, if_neg q]; rfl
theorem lm_islandL {N : ux_N} {L : ux_L} {nd : Nat} (e1 : N 0 1 = nI nd) (h8 : nd ≤ 8) {x : Nat} (hx : x < 8) : ux_lp (fun s : Int32 × Int32 => fX12_island_24b (nI x) s.1 s.2 N L) ux_fu ((0 : Int32), (0 : Int32)) = some (nI (bsN (fun y => decide (N 14 y = N 14 x)) nd)) := by
  refine lp_at (fun i => (nI (bsN (fun y => decide (N 14 y = N 14 x)) i), nI i)) nd rfl (by omega) (fun i hi => ?_) ?_
  · show fX12_island_24b (nI x) _ (nI i) N L = _
    unfold fX12_island_24b fX12_island_24b_55
    rw [e1, if_neg (fun z => by have := (nI_leI (by omega) (by omega)).mp z; omega), pb_in (by omega) (by decide), if_pos rfl, pb_in hx (by decide), if_pos rfl, nI_clamp (by omega), nI_clamp (by omega), pb_pow (by omega), show nI i + 1 = nI (i + 1) from nI_add i 1]
    by_cases q : N 14 i = N 14 x
    · rw [if_pos q, bsN_t (by simp [q])]
    · rw [if_neg q, li_0, qb_or0, ← bsN_f (by simp [q])]
  · show fX12_island_24b (nI x) _ (nI nd) N L = _
    unfold fX12_island_24b
    rw [e1, if_pos ((nI_leI (by omega) (by omega)).mpr (Nat.le_refl _))]
theorem iv_island (h : ivA Nc Lc Nm Lm) (x : Int32) : ∃ r Nm' Lm', fX11_island x Nc = some r ∧ fX12_island x Nm Lm = some (r, Nm', Lm') ∧ ivA Nc Lc Nm' Lm' := by
  have h0 := h
  obtain ⟨nd, ln, lo, hi, of, os, oa, op, me, so, pl, br, cu, hG, hS, hR⟩ := h0
  have hG0 := hG
  obtain ⟨⟨p1, p2⟩, _, ⟨s1, s2, s3⟩, f1, f2, f3⟩ := hG
  have nd8 := p1.2.2.1.2.1
  have e0 : Nc 1 0 = nI nd := p1.1
  rcases i32_cases x with hx | ⟨n, hn, rfl⟩
  · refine ⟨-2, Nm, Lm, ?_, ?_, h⟩
    · unfold fX11_island; rw [if_pos hx]; rfl
    · unfold fX12_island; rw [fm_isNodeN hx]; rfl
  by_cases q : n < nd
  · obtain ⟨L1, t0, t1, t2⟩ := lm_tree p2 s1 s3 f3 f2
    have tl := (trS_lt (ln := ln) (lo := lo) (hi := hi) (me := me) (so := so) (pl := pl) (br := br) (cu := cu)).2
    obtain ⟨N1, a0, a1, a2⟩ := lm_layParts p2 (s := trS ln lo hi me so pl br cu) (by omega)
    refine ⟨nI (bsN (fun y => decide (Nc 101 n = Nc 101 y)) nd), N1, L1, ?_, ?_, iv_askM hG0 hS hR (fun a h14 _ => a1 a h14) rfl rfl t1⟩
    · unfold fX11_island
      rw [if_neg (pb_lt0 hn), e0, if_pos ((nI_ltI hn (by omega)).mpr q), lc_islandOf p1 (by omega)]; rfl
    · unfold fX12_island
      have hl := lm_islandL (N := N1) (L := L1) (nd := nd) (x := n) (by rw [a1 0 (by decide)]; exact p2.1) (by omega) (by omega)
      have hc : bsN (fun y => decide (N1 14 y = N1 14 n)) nd = bsN (fun y => decide (Nc 101 n = Nc 101 y)) nd := bsN_cong nd (fun j hj => decide_eq_decide.mpr (Iff.trans (Iff.trans eq_comm (a2 n j q hj)) (hS.1.2.2.2.2.1 n j (by omega) (by omega)).symm))
      rw [hc] at hl
      rw [fm_isNode p2.1 (by omega) hn, if_pos q, Option.bind_some, if_neg (by decide), t0, Option.bind_some, a0, Option.bind_some]
      show (ux_lp (fun s : Int32 × Int32 => fX12_island_24b (nI n) s.1 s.2 N1 L1) ux_fu ((0 : Int32), (0 : Int32))).bind _ = _
      rw [hl]; rfl
  · refine ⟨-2, Nm, Lm, ?_, ?_, h⟩
    · unfold fX11_island; rw [if_neg (pb_lt0 hn), e0, if_neg (fun z => q ((nI_ltI hn (by omega)).mp z))]; rfl
    · unfold fX12_island; rw [fm_isNode p2.1 (by omega) hn, if_neg q]; rfl
theorem in01 (x : Int32) : (fX12_in x.toInt64 (0 : Int64) (1 : Int64) = some 1 ∧ (x = 0 ∨ x = 1)) ∨ (fX12_in x.toInt64 (0 : Int64) (1 : Int64) = some 0 ∧ x ≠ 0 ∧ x ≠ 1) := by
  have e : fX12_in x.toInt64 (0 : Int64) (1 : Int64) = some (if x < 0 ∨ 1 < x then 0 else 1) := by
    rw [show (1 : Int64) = (1 : Int32).toInt64 from by decide, in_lo]
  rw [e]
  by_cases q1 : x < 0
  · refine Or.inr ⟨by rw [if_pos (Or.inl q1)], fun z => ?_, fun z => ?_⟩
    · rw [z] at q1; exact absurd q1 (by decide)
    · rw [z] at q1; exact absurd q1 (by decide)
  obtain ⟨n, hn, rfl⟩ : ∃ n, n < 2 ^ 31 ∧ x = nI n := (i32_cases x).resolve_left q1
  by_cases q2 : n < 2
  · refine Or.inl ⟨by rw [if_neg (fun z => z.elim q1 (fun w => by have := (nI_ltI (a := 1) (by decide) hn).mp w; omega))], ?_⟩
    rcases (show n = 0 ∨ n = 1 by omega) with rfl | rfl
    · exact Or.inl rfl
    · exact Or.inr rfl
  · refine Or.inr ⟨by rw [if_pos (Or.inr (show (1 : Int32) < nI n from (nI_ltI (a := 1) (by decide) hn).mpr (by omega)))], fun z => ?_, fun z => ?_⟩
    · have := (pb_eq0 hn).mp z; omega
    · have := (nI_eq (b := 1) hn (by decide)).mp z; omega
theorem iv_weak (h : ivA Nc Lc Nm Lm) (x : Int32) : ∃ r Nc' Lc' Lm', fX11_weak x Nc Lc = some (r, Nc', Lc') ∧ fX12_weak x Nm Lm = some (r, Lm') ∧ ivA Nc' Lc' Nm Lm' := by
  have h0 := h
  obtain ⟨nd, ln, lo, hi, of, os, oa, op, me, so, pl, br, cu, hG, hS, hR⟩ := h0
  have hG0 := hG
  obtain ⟨⟨p1, p2⟩, _, ⟨s1, s2, s3⟩, f1, f2, f3⟩ := hG
  have m9 := s1.1.1
  rcases in01 x with ⟨i1, ix⟩ | ⟨i1, ix, iy⟩
  · have wb : ∀ b, wkS ln lo hi me so pl br cu = some b → b < 1024 := fun b hb => by
      have := (bst_le hb).1.2
      have p9 : 2 ^ me ≤ 2 ^ 9 := Nat.pow_le_pow_right (by decide) m9
      omega
    have hw : ∃ Nc' Lc', fX6_weakSet Nc Lc = some (wkI (wkS ln lo hi me so pl br cu), Nc', Lc') ∧ (∀ a, a < 33 ∨ 107 ≤ a → Nc' a = Nc a) ∧ Lc' 36 = Lc 36 ∧ ivS Nc' Lc' ln lo hi of os oa op me so pl br cu := by
      unfold fX6_weakSet fX6_weakSet_20
      have hS0 := hS
      obtain ⟨⟨a1, a2, a3, a4, a5, a6⟩, b, c, d⟩ := hS0
      rcases c with c | ⟨c, c2⟩
      · obtain ⟨N1, L1, w0, w1, w2⟩ := cc_findWeak p1 s1 s2 f1 hS.1
        rw [if_pos c, w0, Option.bind_some]
        have n33 : ∀ j, j ≠ 15 → j ≠ 16 → ux_u (ux_u N1 33 16 (wkI (wkS ln lo hi me so pl br cu))) 33 15 1 33 j = Nc 33 j := fun j h1 h2 => by rw [uu_off _ _ h1, uu_off _ _ h2, w1 33 (by decide)]
        have nx : ∀ a, a ≠ 33 → a ≠ 45 → ux_u (ux_u N1 33 16 (wkI (wkS ln lo hi me so pl br cu))) 33 15 1 a = Nc a := fun a h1 h2 => by rw [uu_ne _ _ _ h1, uu_ne _ _ _ h1, w1 a h2]
        refine ⟨ux_u (ux_u N1 33 16 (wkI (wkS ln lo hi me so pl br cu))) 33 15 1, L1, ?_, fun a ha => nx a (by omega) (by omega), w2 36 (by decide) (by decide), ⟨?_, ?_, ?_, ?_, ?_, fun s hs => ?_⟩, ?_, Or.inr ⟨?_, ?_⟩, ?_⟩
        · show some (ux_u (ux_u N1 33 16 (wkI (wkS ln lo hi me so pl br cu))) 33 15 1 33 16, _, _) = _
          rw [uu_off _ _ (by decide), uu_at]
        · rw [n33 0 (by decide) (by decide)]; exact a1
        · rw [n33 1 (by decide) (by decide)]; exact a2
        · rw [n33 2 (by decide) (by decide)]; exact a3
        · rw [nx 34 (by decide) (by decide)]; exact a4
        · rw [nx 101 (by decide) (by decide)]; exact a5
        · show fm (L1 39) s = true ↔ _
          rw [w2 39 (by decide) (by decide)]; exact a6 s hs
        · unfold seC
          rw [n33 14 (by decide) (by decide), nx 104 (by decide) (by decide), nx 105 (by decide) (by decide), nx 103 (by decide) (by decide)]; exact b
        · rw [uu_at]
        · rw [uu_off _ _ (by decide), uu_at]
        · rw [n33 17 (by decide) (by decide), n33 18 (by decide) (by decide)]; exact d
      · rw [c, if_neg (by decide), c2]
        exact ⟨Nc, Lc, rfl, fun _ _ => rfl, rfl, hS⟩
    obtain ⟨N1, L1, w0, w1, w2, w3⟩ := hw
    obtain ⟨L2, b0, b1, b2, b3⟩ := lm_weakL p2 s1 s3 f3 f2 x
    have hiv := iv_ask (Nm' := Nm) hG0 hR w1 w2 (fun _ _ _ => rfl) b1 w3
    have eC : fX11_weak x Nc Lc = fX11_weak_12 x Nc Lc := by
      unfold fX11_weak
      rcases ix with rfl | rfl
      · rw [if_pos rfl]
      · rw [if_neg (by decide), if_pos rfl]
    have eM : ∀ o, (if x = 0 then (fX12_weak_129 (wkI (wkS ln lo hi me so pl br cu)) Nm L2) else (if (wkI (wkS ln lo hi me so pl br cu)) = (-1 : Int32) then (fX12_weak_129 (wkI (wkS ln lo hi me so pl br cu)) Nm L2) else ((fX12_ones (wkI (wkS ln lo hi me so pl br cu))).bind (fun o18 => fX12_weak_139 o18 Nm L2)))) = o → fX12_weak x Nm Lm = o := fun o ho => by
      unfold fX12_weak
      rw [i1, Option.bind_some, if_neg (by decide), b0, Option.bind_some, b2, Option.bind_some, b3, Option.bind_some]; exact ho
    have eC2 : ∀ o, (if (wkI (wkS ln lo hi me so pl br cu)) = (-1 : Int32) then (fX11_weak_29 (wkI (wkS ln lo hi me so pl br cu)) N1 L1) else (if x = 0 then (fX11_weak_29 (wkI (wkS ln lo hi me so pl br cu)) N1 L1) else ((fJ6_bitCount_0f7a4 (wkI (wkS ln lo hi me so pl br cu))).bind (fun o5 => fX11_weak_37 o5 N1 L1)))) = o → fX11_weak x Nc Lc = o := fun o ho => by
      rw [eC]
      unfold fX11_weak_12
      rw [w0, Option.bind_some]; exact ho
    cases hk : wkS ln lo hi me so pl br cu with
    | none =>
      rw [hk] at eM eC2
      refine ⟨-1, N1, L1, L2, eC2 _ (if_pos rfl), eM _ ?_, hiv⟩
      rcases ix with rfl | rfl
      · rw [if_pos rfl]; rfl
      · rw [if_neg (by decide), if_pos (show wkI none = (-1 : Int32) from rfl)]; rfl
    | some b =>
      rw [hk] at eM eC2
      have hb := wb b hk
      have nb : ¬ wkI (some b) = (-1 : Int32) := pb_m1 (by omega)
      rcases ix with rfl | rfl
      · refine ⟨nI b, N1, L1, L2, eC2 _ ?_, eM _ ?_, hiv⟩
        · rw [if_neg nb, if_pos rfl]; rfl
        · rw [if_pos rfl]; rfl
      · refine ⟨nI (pcn b), N1, L1, L2, eC2 _ ?_, eM _ ?_, hiv⟩
        · rw [if_neg nb, if_neg (by decide), show wkI (some b) = nI b from rfl, pb_bitCount b hb]; rfl
        · rw [if_neg (by decide), if_neg nb, show wkI (some b) = nI b from rfl, lm_ones (by omega)]; rfl
  · refine ⟨-3, Nc, Lc, Lm, ?_, ?_, h⟩
    · unfold fX11_weak; rw [if_neg ix, if_neg iy]
    · unfold fX12_weak; rw [i1]; rfl
theorem iv_deal (h : ivA Nc Lc Nm Lm) (x : Int32) : ∃ r Nc' Lc' Nm' Lm', fX11_deal x Nc Lc = some (r, Nc', Lc') ∧ fX12_deal x Nm Lm = some (r, Nm', Lm') ∧ ivA Nc' Lc' Nm' Lm' := by
  have h0 := h
  obtain ⟨nd, ln, lo, hi, of, os, oa, op, me, so, pl, br, cu, hG, hS, hR⟩ := h0
  have hG0 := hG
  obtain ⟨⟨p1, p2⟩, ⟨o1, o2, o3⟩, ⟨s1, s2, s3⟩, f1, f2, f3⟩ := hG
  have of6 := o1.1
  rcases in01 x with ⟨i1, ix⟩ | ⟨i1, ix, iy⟩
  · have wb : ∀ b, dlS ln lo hi me so pl br cu of os oa op = some b → b < 64 := fun b hb => by
      have := dst_le hb
      have p9 : 2 ^ of ≤ 2 ^ 6 := Nat.pow_le_pow_right (by decide) of6
      omega
    have hw : ∃ Nc' Lc', fX6_dealSet Nc Lc = some (wkI (dlS ln lo hi me so pl br cu of os oa op), Nc', Lc') ∧ (∀ a, a < 33 ∨ 107 ≤ a → Nc' a = Nc a) ∧ Lc' 36 = Lc 36 ∧ ivS Nc' Lc' ln lo hi of os oa op me so pl br cu := by
      unfold fX6_dealSet fX6_dealSet_20
      have hS0 := hS
      obtain ⟨⟨a1, a2, a3, a4, a5, a6⟩, b, c, d⟩ := hS0
      rcases d with d | ⟨d, d2⟩
      · obtain ⟨N1, L1, w0, w1, w2⟩ := cc_findDeal p1 s1 s2 f1 hS.1 o1 o2
        rw [if_pos d, w0, Option.bind_some]
        have n33 : ∀ j, j ≠ 17 → j ≠ 18 → ux_u (ux_u N1 33 18 (wkI (dlS ln lo hi me so pl br cu of os oa op))) 33 17 1 33 j = Nc 33 j := fun j h1 h2 => by rw [uu_off _ _ h1, uu_off _ _ h2, w1 33 (by decide) (by decide)]
        have nx : ∀ a, a ≠ 33 → a ≠ 45 → a ≠ 102 → ux_u (ux_u N1 33 18 (wkI (dlS ln lo hi me so pl br cu of os oa op))) 33 17 1 a = Nc a := fun a h1 h2 h3 => by rw [uu_ne _ _ _ h1, uu_ne _ _ _ h1, w1 a h2 h3]
        refine ⟨ux_u (ux_u N1 33 18 (wkI (dlS ln lo hi me so pl br cu of os oa op))) 33 17 1, L1, ?_, fun a ha => nx a (by omega) (by omega) (by omega), w2 36 (by decide), ⟨?_, ?_, ?_, ?_, ?_, fun s hs => ?_⟩, ?_, ?_, Or.inr ⟨?_, ?_⟩⟩
        · show some (ux_u (ux_u N1 33 18 (wkI (dlS ln lo hi me so pl br cu of os oa op))) 33 17 1 33 18, _, _) = _
          rw [uu_off _ _ (by decide), uu_at]
        · rw [n33 0 (by decide) (by decide)]; exact a1
        · rw [n33 1 (by decide) (by decide)]; exact a2
        · rw [n33 2 (by decide) (by decide)]; exact a3
        · rw [nx 34 (by decide) (by decide) (by decide)]; exact a4
        · rw [nx 101 (by decide) (by decide) (by decide)]; exact a5
        · show fm (L1 39) s = true ↔ _
          rw [w2 39 (by decide)]; exact a6 s hs
        · unfold seC
          rw [n33 14 (by decide) (by decide), nx 104 (by decide) (by decide) (by decide), nx 105 (by decide) (by decide) (by decide), nx 103 (by decide) (by decide) (by decide)]; exact b
        · rw [n33 15 (by decide) (by decide), n33 16 (by decide) (by decide)]; exact c
        · rw [uu_at]
        · rw [uu_off _ _ (by decide), uu_at]
      · rw [d, if_neg (by decide), d2]
        exact ⟨Nc, Lc, rfl, fun _ _ => rfl, rfl, hS⟩
    obtain ⟨N1, L1, w0, w1, w2, w3⟩ := hw
    obtain ⟨M1, m0, m1⟩ := lm_wholeRank p2 s1 s3
    have p2' : plM M1 nd ln lo hi := plM_fr p2 (fun a ha => m1 a (by omega))
    have s3' : stM M1 0 me so pl br cu := stM_fr s3 (m1 1 (by decide))
    have o3' : ofM M1 of os oa op := ofM_fr o3 (by rw [m1 0 (by decide)]) (m1 3 (by decide))
    obtain ⟨⟨v, L2⟩, b0, b1, b2⟩ := lm_dealL p2' s1 s3' f3 f2 o1 o3' x
    dsimp only at b1 b2
    subst b1
    have hiv := iv_ask (Nm' := M1) hG0 hR w1 w2 (fun a h14 _ => m1 a h14) b2 w3
    have o2' : ofC N1 1 of os oa op := ofC_fr o2 (fun a h1 h2 => w1 a (by omega))
    have eC : fX11_deal x Nc Lc = fX11_deal_12 x Nc Lc := by
      unfold fX11_deal
      rcases ix with rfl | rfl
      · rw [if_pos rfl]
      · rw [if_neg (by decide), if_pos rfl]
    have eM : ∀ o, (if x = 0 then (fX12_deal_95 (wkI (dlS ln lo hi me so pl br cu of os oa op)) M1 L2) else (if (wkI (dlS ln lo hi me so pl br cu of os oa op)) = (-1 : Int32) then (fX12_deal_95 (wkI (dlS ln lo hi me so pl br cu of os oa op)) M1 L2) else ((fX12_costOf (wkI (dlS ln lo hi me so pl br cu of os oa op)) M1).bind (fun o16 => fX12_deal_104 o16 M1 L2)))) = o → fX12_deal x Nm Lm = o := fun o ho => by
      unfold fX12_deal
      rw [i1, Option.bind_some, if_neg (by decide), m0, Option.bind_some]
      show (ux_lp _ ux_fu _).bind _ = _
      rw [b0, Option.bind_some]; exact ho
    have eC2 : ∀ o, (if (wkI (dlS ln lo hi me so pl br cu of os oa op)) = (-1 : Int32) then (fX11_deal_29 (wkI (dlS ln lo hi me so pl br cu of os oa op)) N1 L1) else (if x = 0 then (fX11_deal_29 (wkI (dlS ln lo hi me so pl br cu of os oa op)) N1 L1) else ((fX3_priceOf 1 (wkI (dlS ln lo hi me so pl br cu of os oa op)) N1).bind (fun o5 => fX11_deal_41 o5 N1 L1)))) = o → fX11_deal x Nc Lc = o := fun o ho => by
      rw [eC]
      unfold fX11_deal_12
      rw [w0, Option.bind_some]; exact ho
    cases hk : dlS ln lo hi me so pl br cu of os oa op with
    | none =>
      rw [hk] at eM eC2
      refine ⟨-1, N1, L1, M1, L2, eC2 _ (if_pos rfl), eM _ ?_, hiv⟩
      rcases ix with rfl | rfl
      · rw [if_pos rfl]; rfl
      · rw [if_neg (by decide), if_pos (show wkI none = (-1 : Int32) from rfl)]; rfl
    | some b =>
      rw [hk] at eM eC2
      have hb := wb b hk
      have nb : ¬ wkI (some b) = (-1 : Int32) := pb_m1 (by omega)
      rcases ix with rfl | rfl
      · refine ⟨nI b, N1, L1, M1, L2, eC2 _ ?_, eM _ ?_, hiv⟩
        · rw [if_neg nb, if_pos rfl]; rfl
        · rw [if_pos rfl]; rfl
      · refine ⟨nI (prS of op b), N1, L1, M1, L2, eC2 _ ?_, eM _ ?_, hiv⟩
        · rw [if_neg nb, if_neg (by decide), show wkI (some b) = nI b from rfl, cc_price o1 o2' (by omega)]; rfl
        · rw [if_neg (by decide), if_neg nb, show wkI (some b) = nI b from rfl, lm_cost o1 o3' (by omega)]; rfl
  · refine ⟨-3, Nc, Lc, Nm, Lm, ?_, ?_, h⟩
    · unfold fX11_deal; rw [if_neg ix, if_neg iy]
    · unfold fX12_deal; rw [i1]; rfl
end AS2
