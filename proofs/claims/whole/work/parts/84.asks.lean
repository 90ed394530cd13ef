/-! calls that ask -/
theorem nN0 {n : Nat} (hn : n < 2 ^ 31) {k : Nat} (hk : k < 2 ^ 31) (h : n ≠ k) : ¬ nI n = nI k := fun z => h ((nI_eq hn hk).mp z)
section AS1
variable {Nc Nm : ux_N} {Lc Lm : ux_L}
theorem ivS_learn {Nc' : ux_N} {ln : Nat} {lo hi : Nat → Nat} {of : Nat} {os oa op : Nat → Nat} {me : Nat} {so pl : Nat → Nat} {br cu : Nat} (h : ivS Nc Lc ln lo hi of os oa op me so pl br cu) (e1 : ∀ a, a ≠ 33 → a ≠ 103 → a ≠ 104 → a ≠ 105 → a ≠ 106 → Nc' a = Nc a) (e2 : ∀ j, j ≠ 14 → Nc' 33 j = Nc 33 j) (e3 : Nc' 33 14 = 1) (e4 : seC Nc' ln lo hi me so pl br cu) : ivS Nc' Lc ln lo hi of os oa op me so pl br cu := by
  obtain ⟨⟨a1, a2, a3, a4, a5, a6⟩, b, c, d⟩ := h
  refine ⟨⟨by rw [e2 0 (by decide)]; exact a1, by rw [e2 1 (by decide)]; exact a2, by rw [e2 2 (by decide)]; exact a3, by rw [e1 34 (by decide) (by decide) (by decide) (by decide) (by decide)]; exact a4, by rw [e1 101 (by decide) (by decide) (by decide) (by decide) (by decide)]; exact a5, a6⟩, Or.inr ⟨e3, e4⟩, by rw [e2 15 (by decide), e2 16 (by decide)]; exact c, by rw [e2 17 (by decide), e2 18 (by decide)]; exact d⟩
theorem iv_line (h : ivA Nc Lc Nm Lm) (x y : Int32) : ∃ r Nc' Nm' Lm', fX11_line x y Nc = some (r, Nc') ∧ fX12_line x y Nm Lm = some (r, Nm', Lm') ∧ ivA Nc' Lc Nm' Lm' := by
  have h0 := h
  obtain ⟨nd, ln, lo, hi, of, os, oa, op, me, so, pl, br, cu, hG, hS, hR⟩ := h0
  have hG0 := hG
  obtain ⟨⟨p1, p2⟩, _, ⟨s1, s2, s3⟩, f1, f2, f3⟩ := hG
  have l10 := p1.2.2.1.2.2
  have same : ∀ r, fX11_line x y Nc = some (r, Nc) → fX12_line x y Nm Lm = some (r, Nm, Lm) → ∃ r Nc' Nm' Lm', fX11_line x y Nc = some (r, Nc') ∧ fX12_line x y Nm Lm = some (r, Nm', Lm') ∧ ivA Nc' Lc Nm' Lm' := fun r g1 g2 => ⟨r, Nc, Nm, Lm, g1, g2, h⟩
  rcases i32_cases x with hx | ⟨n, hn, rfl⟩
  · refine same (-2) ?_ ?_
    · unfold fX11_line; rw [tc_isLineN hx]; rfl
    · unfold fX12_line; rw [fm_isLineN hx]; rfl
  by_cases q : n < ln
  · have eC : ∀ o, (if y = (0 : Int32) then (if ux_in (nI n) 10 then (some ((Nc 2 ((nI n).toNatClampNeg)), Nc)) else none) else (if y = (1 : Int32) then (if ux_in (nI n) 10 then (some ((Nc 3 ((nI n).toNatClampNeg)), Nc)) else none) else (if y = (2 : Int32) then (some ((((Nc 19 2) >>> (nI n &&& 31)) &&& (1 : Int32)), Nc)) else (if y = (3 : Int32) then (some ((((Nc 33 2) >>> (nI n &&& 31)) &&& (1 : Int32)), Nc)) else (if y = (4 : Int32) then ((fX6_meterOf (nI n) Nc).bind (fun o11 => some (o11.1, o11.2))) else (some ((-3 : Int32), Nc))))))) = o → fX11_line (nI n) y Nc = o := fun o ho => by
      unfold fX11_line
      rw [tc_isLine p1.2.1 (by omega) hn, if_pos q, Option.bind_some, if_neg (by decide)]; exact ho
    have eM : ∀ o, (if y = (0 : Int32) then (if ux_in (((2 : Int32) * nI n) + y) 20 then (some ((Nm 2 ((((2 : Int32) * nI n) + y).toNatClampNeg)), Nm, Lm)) else none) else (if y = (1 : Int32) then (if ux_in (((2 : Int32) * nI n) + y) 20 then (some ((Nm 2 ((((2 : Int32) * nI n) + y).toNatClampNeg)), Nm, Lm)) else none) else (if y = (2 : Int32) then (some ((((Nm 1 2) >>> (nI n &&& 31)) &&& (1 : Int32)), Nm, Lm)) else (if y = (3 : Int32) then ((fX12_tree Nm Lm).bind (fun o10 => some (((o10.1 >>> (nI n &&& 31)) &&& (1 : Int32)), Nm, o10.2))) else (if y = (4 : Int32) then ((fX12_layServes Nm Lm).bind (fun o13 => if ux_in (nI n) 10 then (some ((o13.1 17 ((nI n).toNatClampNeg)), o13.1, o13.2)) else none)) else (some ((-3 : Int32), Nm, Lm))))))) = o → fX12_line (nI n) y Nm Lm = o := fun o ho => by
      unfold fX12_line
      rw [fm_isLine p2.2.1 (by omega) hn, if_pos q, Option.bind_some, if_neg (by decide)]; exact ho
    obtain ⟨x1, x2, _, _⟩ := p1.2.2.2 n q
    obtain ⟨y1, y2, _, _⟩ := p2.2.2.2 n q
    have x1 : Nc 2 n = nI (lo n) := x1
    have x2 : Nc 3 n = nI (hi n) := x2
    by_cases k0 : y = 0
    · refine same (nI (lo n)) (eC _ ?_) (eM _ ?_)
      · rw [if_pos k0, pb_in (by omega) (by decide), if_pos rfl, nI_clamp (by omega), x1]
      · rw [if_pos k0, k0, li_2, pk_mul, li_0, nI_add, pb_in (by omega) (by decide), if_pos rfl, nI_clamp (by omega), Nat.add_zero, y1]
    by_cases k1 : y = 1
    · refine same (nI (hi n)) (eC _ ?_) (eM _ ?_)
      · rw [if_neg k0, if_pos k1, pb_in (by omega) (by decide), if_pos rfl, nI_clamp (by omega), x2]
      · rw [if_neg k0, if_pos k1, k1, li_2, pk_mul, li_1, nI_add, pb_in (by omega) (by decide), if_pos rfl, nI_clamp (by omega), y2]
    by_cases k2 : y = 2
    · refine same (nI cu >>> (nI n &&& 31) &&& 1) (eC _ ?_) (eM _ ?_)
      · rw [if_neg k0, if_neg k1, if_pos k2, s2.2.2.1]
      · rw [if_neg k0, if_neg k1, if_pos k2, show Nm 1 2 = nI cu from s3.2.2.1]
    by_cases k3 : y = 3
    · obtain ⟨L', t0, t1, t2⟩ := lm_tree p2 s1 s3 f3 f2
      refine ⟨nI (trS ln lo hi me so pl br cu) >>> (nI n &&& 31) &&& 1, Nc, Nm, L', eC _ ?_, eM _ ?_, iv_askM hG0 hS hR (fun _ _ _ => rfl) rfl rfl t1⟩
      · rw [if_neg k0, if_neg k1, if_neg k2, if_pos k3, hS.1.2.2.1]
      · rw [if_neg k0, if_neg k1, if_neg k2, if_pos k3, t0]; rfl
    by_cases k4 : y = 4
    · obtain ⟨N1, a0, a1, a2, a3, a4⟩ := cc_learnServers l10 s1 s2 hS.1 hS.2.1
      obtain ⟨N2, L2, b0, b1, b2, b3⟩ := lm_layServes p2 s1 s3 f3 f2
      refine ⟨svS (rcS ln lo hi so pl br cu) me (trS ln lo hi me so pl br cu) n, N1, N2, L2, eC _ ?_, eM _ ?_, iv_ask hG0 hR (fun a ha => a1 a (by omega) (by omega) (by omega) (by omega) (by omega)) rfl (fun a _ h17 => b1 a h17) b2 (ivS_learn hS a1 a2 a3 a4)⟩
      · rw [if_neg k0, if_neg k1, if_neg k2, if_neg k3, if_pos k4]
        unfold fX6_meterOf
        rw [a0, Option.bind_some, pb_in (by omega) (by decide), if_pos rfl, nI_clamp (by omega), a4.1 n (by omega)]; rfl
      · rw [if_neg k0, if_neg k1, if_neg k2, if_neg k3, if_pos k4, b0, Option.bind_some, pb_in (by omega) (by decide), if_pos rfl, nI_clamp (by omega), ← b3 n (by omega)]
    · refine same (-3) (eC _ ?_) (eM _ ?_)
      · rw [if_neg k0, if_neg k1, if_neg k2, if_neg k3, if_neg k4]
      · rw [if_neg k0, if_neg k1, if_neg k2, if_neg k3, if_neg k4]
  · refine same (-2) ?_ ?_
    · unfold fX11_line; rw [tc_isLine p1.2.1 (by omega) hn, if_neg q]; rfl
    · unfold fX12_line; rw [fm_isLine p2.2.1 (by omega) hn, if_neg q]; rfl
theorem iv_meter (h : ivA Nc Lc Nm Lm) (x y : Int32) : ∃ r Nc' Lc' Nm' Lm', fX11_meter x y Nc Lc = some (r, Nc', Lc') ∧ fX12_meter x y Nm Lm = some (r, Nm', Lm') ∧ ivA Nc' Lc' Nm' Lm' := by
  have h0 := h
  obtain ⟨nd, ln, lo, hi, of, os, oa, op, me, so, pl, br, cu, hG, hS, hR⟩ := h0
  have hG0 := hG
  obtain ⟨⟨p1, p2⟩, _, ⟨s1, s2, s3⟩, f1, f2, f3⟩ := hG
  have l10 := p1.2.2.1.2.2
  have m9 := s1.1.1
  have c1 := stB_c p2 s1
  have same : ∀ r, fX11_meter x y Nc Lc = some (r, Nc, Lc) → fX12_meter x y Nm Lm = some (r, Nm, Lm) → ∃ r Nc' Lc' Nm' Lm', fX11_meter x y Nc Lc = some (r, Nc', Lc') ∧ fX12_meter x y Nm Lm = some (r, Nm', Lm') ∧ ivA Nc' Lc' Nm' Lm' := fun r g1 g2 => ⟨r, Nc, Lc, Nm, Lm, g1, g2, h⟩
  rcases i32_cases x with hx | ⟨n, hn, rfl⟩
  · refine same (-2) ?_ ?_
    · unfold fX11_meter; rw [tc_isMeterN hx]; rfl
    · unfold fX12_meter; rw [fm_isMeterN hx]; rfl
  by_cases q : n < me
  · have eC : ∀ o, (if y = (0 : Int32) then (if ux_in (nI n) 9 then (some ((Nc 20 ((nI n).toNatClampNeg)), Nc, Lc)) else none) else (if y = (1 : Int32) then (if ux_in (nI n) 9 then (some ((Nc 21 ((nI n).toNatClampNeg)), Nc, Lc)) else none) else (if y = (2 : Int32) then (some ((((Nc 19 1) >>> (nI n &&& 31)) &&& (1 : Int32)), Nc, Lc)) else (if y = (3 : Int32) then (if ux_in (nI n) 9 then (some ((Nc 34 ((nI n).toNatClampNeg)), Nc, Lc)) else none) else (if y = (4 : Int32) then ((fX6_lineOf (nI n) Nc).bind (fun o12 => some (o12.1, o12.2, Lc))) else (if y = (5 : Int32) then ((fX6_isCritical (nI n) Nc Lc).bind (fun o15 => if o15.1 = 0 then (fX11_meter_119 (0 : Int32) Nc o15.2) else (fX11_meter_119 (1 : Int32) Nc o15.2))) else (some ((-3 : Int32), Nc, Lc)))))))) = o → fX11_meter (nI n) y Nc Lc = o := fun o ho => by
      unfold fX11_meter
      rw [tc_isMeter s2.1 (by omega) hn, if_pos q, Option.bind_some, if_neg (by decide)]; exact ho
    have eM : ∀ o, (if y = (0 : Int32) then (if ux_in ((3 : Int32) + nI n) 252 then (some ((Nm 1 (((3 : Int32) + nI n).toNatClampNeg)), Nm, Lm)) else none) else (if y = (1 : Int32) then (if ux_in ((12 : Int32) + nI n) 252 then (some ((Nm 1 (((12 : Int32) + nI n).toNatClampNeg)), Nm, Lm)) else none) else (if y = (2 : Int32) then (some ((((Nm 1 1) >>> (nI n &&& 31)) &&& (1 : Int32)), Nm, Lm)) else (if y = (3 : Int32) then ((fX12_mayOf (nI n) (Nm 1 2) Nm).bind (fun o10 => some (o10, Nm, Lm))) else (if y = (4 : Int32) then ((fX12_lineOf (nI n) Nm Lm).bind (fun o13 => some (o13.1, o13.2.1, o13.2.2))) else (if y = (5 : Int32) then ((fX12_isCritical (nI n) Nm Lm).bind (fun o16 => some (o16.1, Nm, o16.2))) else (some ((-3 : Int32), Nm, Lm)))))))) = o → fX12_meter (nI n) y Nm Lm = o := fun o ho => by
      unfold fX12_meter
      rw [fm_isMeter s3.1 (by omega) hn, if_pos q, Option.bind_some, if_neg (by decide)]; exact ho
    have x1 : Nc 20 n = nI (so n) := (s2.2.2.2 n q).1
    have x2 : Nc 21 n = nI (pl n) := (s2.2.2.2 n q).2
    have y1 : Nm 1 (3 + n) = nI (so n) := by have := (s3.2.2.2 n q).1; rw [Nat.zero_add] at this; exact this
    have y2 : Nm 1 (12 + n) = nI (pl n) := by have := (s3.2.2.2 n q).2; rw [Nat.zero_add] at this; exact this
    by_cases k0 : y = 0
    · refine same (nI (so n)) (eC _ ?_) (eM _ ?_)
      · rw [if_pos k0, pb_in (by omega) (by decide), if_pos rfl, nI_clamp (by omega), x1]
      · rw [if_pos k0, li_3, nI_add, pb_in (by omega) (by decide), if_pos rfl, nI_clamp (by omega), y1]
    by_cases k1 : y = 1
    · refine same (nI (pl n)) (eC _ ?_) (eM _ ?_)
      · rw [if_neg k0, if_pos k1, pb_in (by omega) (by decide), if_pos rfl, nI_clamp (by omega), x2]
      · rw [if_neg k0, if_pos k1, li_12, nI_add, pb_in (by omega) (by decide), if_pos rfl, nI_clamp (by omega), y2]
    by_cases k2 : y = 2
    · refine same (nI br >>> (nI n &&& 31) &&& 1) (eC _ ?_) (eM _ ?_)
      · rw [if_neg k0, if_neg k1, if_pos k2, s2.2.1]
      · rw [if_neg k0, if_neg k1, if_pos k2, show Nm 1 1 = nI br from s3.2.1]
    by_cases k3 : y = 3
    · refine same (nI (rcS ln lo hi so pl br cu n)) (eC _ ?_) (eM _ ?_)
      · rw [if_neg k0, if_neg k1, if_neg k2, if_pos k3, pb_in (by omega) (by decide), if_pos rfl, nI_clamp (by omega), hS.1.2.2.2.1 n q]
      · rw [if_neg k0, if_neg k1, if_neg k2, if_pos k3, show Nm 1 2 = nI cu from s3.2.2.1, lm_mayOf p2 s1 s3 (by omega) q]; rfl
    by_cases k4 : y = 4
    · obtain ⟨N1, a0, a1, a2, a3, a4⟩ := cc_learnServers l10 s1 s2 hS.1 hS.2.1
      obtain ⟨N2, L2, b0, b1, b2⟩ := lm_lineOf p2 s1 s3 f3 f2 (m := n) (by omega)
      refine ⟨lnS (rcS ln lo hi so pl br cu) me (trS ln lo hi me so pl br cu) 10 n, N1, Lc, N2, L2, eC _ ?_, eM _ ?_, iv_ask hG0 hR (fun a ha => a1 a (by omega) (by omega) (by omega) (by omega) (by omega)) rfl (fun a _ h17 => b1 a h17) b2 (ivS_learn hS a1 a2 a3 a4)⟩
      · rw [if_neg k0, if_neg k1, if_neg k2, if_neg k3, if_pos k4]
        unfold fX6_lineOf
        rw [a0, Option.bind_some, pb_in (by omega) (by decide), if_pos rfl, nI_clamp (by omega), a4.2.1 n (by omega)]; rfl
      · rw [if_neg k0, if_neg k1, if_neg k2, if_neg k3, if_pos k4, b0]; rfl
    by_cases k5 : y = 5
    · obtain ⟨L1, a0, a1⟩ := cc_crit p1 s1 s2 f1 hS.1 q
      obtain ⟨L2, b0, b1⟩ := lm_crit p2 s1 s3 f3 f2 q
      refine ⟨(if rkS ln lo hi me so pl br cu ≤ rk (qP ln lo hi (rcS ln lo hi so pl br cu) (fun m => m < me ∧ m ≠ n)) then 0 else 1), Nc, L1, Nm, L2, eC _ ?_, eM _ ?_, iv_askM hG0 hS hR (fun _ _ _ => rfl) (a1 36 (by decide) (by decide)) (a1 39 (by decide) (by decide)) b1⟩
      · rw [if_neg k0, if_neg k1, if_neg k2, if_neg k3, if_neg k4, if_pos k5, a0, Option.bind_some]
        by_cases z : rkS ln lo hi me so pl br cu ≤ rk (qP ln lo hi (rcS ln lo hi so pl br cu) (fun m => m < me ∧ m ≠ n))
        · rw [if_pos z]; rfl
        · rw [if_neg z]; rfl
      · rw [if_neg k0, if_neg k1, if_neg k2, if_neg k3, if_neg k4, if_pos k5, b0]; rfl
    · refine same (-3) (eC _ ?_) (eM _ ?_)
      · rw [if_neg k0, if_neg k1, if_neg k2, if_neg k3, if_neg k4, if_neg k5]
      · rw [if_neg k0, if_neg k1, if_neg k2, if_neg k3, if_neg k4, if_neg k5]
  · refine same (-2) ?_ ?_
    · unfold fX11_meter; rw [tc_isMeter s2.1 (by omega) hn, if_neg q]; rfl
    · unfold fX12_meter; rw [fm_isMeter s3.1 (by omega) hn, if_neg q]; rfl
theorem iv_place {nd ln : Nat} {lo hi : Nat → Nat} (p1 : plC Nc 1 nd ln lo hi) (p2 : plM Nm nd ln lo hi) (x y : Int32) :
    (∃ s a, s < 5 ∧ a < (if s < 2 then ln else nd) ∧ x = nI s ∧ y = nI a ∧ fX11_refusePlace x y Nc = some 0 ∧ fX12_in x.toInt64 (0 : Int64) (4 : Int64) = some 1 ∧ fX12_isThere x y Nm = some 1) ∨ (fX11_refusePlace x y Nc = some (-3) ∧ fX12_in x.toInt64 (0 : Int64) (4 : Int64) = some 0) ∨ (fX11_refusePlace x y Nc = some (-2) ∧ fX12_in x.toInt64 (0 : Int64) (4 : Int64) = some 1 ∧ fX12_isThere x y Nm = some 0) := by
  have e4 : fX12_in x.toInt64 (0 : Int64) (4 : Int64) = some (if x < 0 ∨ 4 < x then 0 else 1) := by
    rw [show (4 : Int64) = (4 : Int32).toInt64 from by decide, in_lo]
  rw [e4]
  by_cases q1 : x < 0
  · refine Or.inr (Or.inl ⟨?_, by rw [if_pos (Or.inl q1)]⟩)
    unfold fX11_refusePlace; rw [if_pos q1]; rfl
  obtain ⟨s, hs, rfl⟩ : ∃ n, n < 2 ^ 31 ∧ x = nI n := (i32_cases x).resolve_left q1
  by_cases q2 : s < 5
  · have lt5 : nI s < (5 : Int32) := (nI_ltI (b := 5) hs (by decide)).mpr q2
    have n4 : ¬ (nI s < 0 ∨ (4 : Int32) < nI s) := fun z => z.elim q1 (fun w => by have := (nI_ltI (a := 4) (by decide) hs).mp w; omega)
    rw [if_neg n4]
    have eC : fX11_refusePlace (nI s) y Nc = (fX3_hasPlace 1 (nI s) y Nc).bind (fun o3 => if o3 = 0 then (fX11_refusePlace_30 (-2 : Int32) Nc) else (fX11_refusePlace_30 (0 : Int32) Nc)) := by
      unfold fX11_refusePlace; rw [if_neg q1, if_pos lt5]
    rw [eC]
    rcases i32_cases y with hy | ⟨a, ha, rfl⟩
    · refine Or.inr (Or.inr ⟨by rw [pc_hasNeg hy]; rfl, rfl, fm_isThereN _ hy⟩)
    · rw [pc_hasPlace p1 q2 ha, fm_isThere p2 hs ha]
      by_cases q3 : a < (if s < 2 then ln else nd)
      · refine Or.inl ⟨s, a, q2, q3, rfl, rfl, by rw [if_pos q3]; rfl, rfl, by rw [if_pos q3]⟩
      · exact Or.inr (Or.inr ⟨by rw [if_neg q3]; rfl, rfl, by rw [if_neg q3]⟩)
  · refine Or.inr (Or.inl ⟨?_, by rw [if_pos (Or.inr (show (4 : Int32) < nI s from (nI_ltI (a := 4) (by decide) hs).mpr (by omega)))]⟩)
    unfold fX11_refusePlace
    rw [if_neg q1, if_neg (show ¬ nI s < (5 : Int32) from fun z => q2 ((nI_ltI (b := 5) hs (by decide)).mp z))]; rfl
theorem iv_brings (h : ivA Nc Lc Nm Lm) (x y : Int32) : ∃ r Lc' Lm', fX11_brings x y Nc Lc = some (r, Lc') ∧ fX12_brings x y Nm Lm = some (r, Lm') ∧ ivA Nc Lc' Nm Lm' := by
  have h0 := h
  obtain ⟨nd, ln, lo, hi, of, os, oa, op, me, so, pl, br, cu, hG, hS, hR⟩ := h0
  have hG0 := hG
  obtain ⟨⟨p1, p2⟩, _, ⟨s1, s2, s3⟩, f1, f2, f3⟩ := hG
  rcases iv_place p1 p2 x y with ⟨s, a, h5, ha, rfl, rfl, g1, g2, g3⟩ | ⟨g1, g2⟩ | ⟨g1, g2, g3⟩
  · obtain ⟨L1, a0, a1⟩ := cc_gain p1 s2 f1 hS.1 h5 ha
    obtain ⟨L2, b0, b1⟩ := lm_brings p2 s1 s3 f3 f2 h5 ha
    refine ⟨nI (rkG ln lo hi me so pl br cu s a) - nI (rkS ln lo hi me so pl br cu), L1, L2, ?_, ?_, iv_askM hG0 hS hR (fun _ _ _ => rfl) (a1 36 (by decide) (by decide)) (a1 39 (by decide) (by decide)) b1⟩
    · unfold fX11_brings; rw [g1, Option.bind_some, if_pos rfl, a0]; rfl
    · unfold fX12_brings; rw [g2, Option.bind_some, if_neg (by decide), g3, Option.bind_some, if_neg (by decide), b0]; rfl
  · refine ⟨-3, Lc, Lm, ?_, ?_, h⟩
    · unfold fX11_brings; rw [g1]; rfl
    · unfold fX12_brings; rw [g2]; rfl
  · refine ⟨-2, Lc, Lm, ?_, ?_, h⟩
    · unfold fX11_brings; rw [g1]; rfl
    · unfold fX12_brings; rw [g2, Option.bind_some, if_neg (by decide), g3]; rfl
theorem iv_lost (h : ivA Nc Lc Nm Lm) (x : Int32) : ∃ r Lc' Lm', fX11_lost x Nc Lc = some (r, Lc') ∧ fX12_lost x Nm Lm = some (r, Lm') ∧ ivA Nc Lc' Nm Lm' := by
  have h0 := h
  obtain ⟨nd, ln, lo, hi, of, os, oa, op, me, so, pl, br, cu, hG, hS, hR⟩ := h0
  have hG0 := hG
  obtain ⟨⟨p1, p2⟩, _, ⟨s1, s2, s3⟩, f1, f2, f3⟩ := hG
  have l10 := p1.2.2.1.2.2
  have c1 := stB_c p2 s1
  rcases i32_cases x with hx | ⟨n, hn, rfl⟩
  · refine ⟨-2, Lc, Lm, ?_, ?_, h⟩
    · unfold fX11_lost; rw [tc_isLineN hx]; rfl
    · unfold fX12_lost; rw [fm_isLineN hx]; rfl
  by_cases q : n < ln
  · have e1 : Nm 1 2 = nI cu := s3.2.2.1
    have e2 : Nc 19 2 = nI cu := s2.2.2.1
    cases hb : cu.testBit n with
    | true =>
      refine ⟨-4, Lc, Lm, ?_, ?_, h⟩
      · unfold fX11_lost
        rw [tc_isLine p1.2.1 (by omega) hn, if_pos q, Option.bind_some, if_neg (by decide), e2, if_pos ((pb_bit1 (by omega) (by omega)).mpr hb)]
      · unfold fX12_lost
        rw [fm_isLine p2.2.1 (by omega) hn, if_pos q, Option.bind_some, if_neg (by decide), e1, pm_has (by omega) (by omega), hb]; rfl
    | false =>
      obtain ⟨L1, a0, a1⟩ := cc_loss p1 s1 s2 f1 hS.1 q
      obtain ⟨L2, L3, b0, b1, b2⟩ := lm_loss p2 s1 s3 f3 f2 q
      refine ⟨nI (rkS ln lo hi me so pl br cu) - nI (rkS ln lo hi me so pl br (cu ||| 2 ^ n)), L1, L3, ?_, ?_, iv_askM hG0 hS hR (fun _ _ _ => rfl) (a1 36 (by decide) (by decide)) (a1 39 (by decide) (by decide)) b2⟩
      · unfold fX11_lost
        rw [tc_isLine p1.2.1 (by omega) hn, if_pos q, Option.bind_some, if_neg (by decide), e2, if_neg (fun z => by have := (pb_bit1 (by omega) (by omega)).mp z; rw [hb] at this; cases this), a0]; rfl
      · unfold fX12_lost
        rw [fm_isLine p2.2.1 (by omega) hn, if_pos q, Option.bind_some, if_neg (by decide), show fX12_has (Nm 1 2) (nI n) = some 0 from by rw [e1, pm_has (by omega) (by omega), hb]; rfl, Option.bind_some, if_pos rfl, b0, Option.bind_some, b1]; rfl
  · refine ⟨-2, Lc, Lm, ?_, ?_, h⟩
    · unfold fX11_lost; rw [tc_isLine p1.2.1 (by omega) hn, if_neg q]; rfl
    · unfold fX12_lost; rw [fm_isLine p2.2.1 (by omega) hn, if_neg q]; rfl
end AS1
