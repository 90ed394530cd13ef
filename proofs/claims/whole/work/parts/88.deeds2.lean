section DE2
variable {Nc Nm : ux_N} {Lc Lm : ux_L}
theorem lm_turn {N : ux_N} {M : ux_N} {L : ux_L} {p n : Nat} {v : Nat} (k0 : fX12_keepPast N = some M) (hp : p < 252) (hn : n < 31) (e : M 1 p = nI v) : fX12_turn (nI p) (nI n) N L = (fX12_rank (ux_u M 1 p (nI (v ^^^ 2 ^ n))) L).bind (fun o5 => some (o5.1, (ux_u M 1 p (nI (v ^^^ 2 ^ n))), o5.2)) := by
  unfold fX12_turn
  rw [k0, Option.bind_some, pb_in hp (by decide), if_pos rfl, if_pos rfl, nI_clamp (by omega), e, pb_pow hn, bit_x]
theorem iv_spoil (h : ivA Nc Lc Nm Lm) (x : Int32) : ∃ r Nc' Lc' Nm' Lm', fX11_spoil x Nc Lc = some (r, Nc', Lc') ∧ fX12_spoil x Nm Lm = some (r, Nm', Lm') ∧ ivA Nc' Lc' Nm' Lm' := by
  have h0 := h
  obtain ⟨nd, ln, lo, hi, of, os, oa, op, me, so, pl, br, cu, hG, hS, hR⟩ := h0
  have hG0 := hG
  obtain ⟨⟨p1, p2⟩, _, ⟨s1, s2, s3⟩, f1, f2, f3⟩ := hG
  have m9 := s1.1.1
  have b9 := stB_512 s1
  have same : ∀ r, fX11_spoil x Nc Lc = some (r, Nc, Lc) → fX12_spoil x Nm Lm = some (r, Nm, Lm) → ∃ r Nc' Lc' Nm' Lm', fX11_spoil x Nc Lc = some (r, Nc', Lc') ∧ fX12_spoil x Nm Lm = some (r, Nm', Lm') ∧ ivA Nc' Lc' Nm' Lm' := fun r g1 g2 => ⟨r, Nc, Lc, Nm, Lm, g1, g2, h⟩
  have e1 : Nc 19 1 = nI br := s2.2.1
  have y1 : Nm 1 1 = nI br := s3.2.1
  rcases i32_cases x with hx | ⟨n, hn, rfl⟩
  · refine same (-2) ?_ ?_
    · unfold fX11_spoil; rw [tc_isMeterN hx]; rfl
    · unfold fX12_spoil; rw [fm_isMeterN hx]; rfl
  by_cases q : n < me
  · have ec : ∀ o, (if (((Nc 19 1) >>> (nI n &&& 31)) &&& (1 : Int32)) = (1 : Int32) then (some ((-4 : Int32), Nc, Lc)) else ((fX1_note (1 : Int32) (nI n) (ux_u Nc 19 1 ((Nc 19 1) ||| ((1 : Int32) <<< (nI n &&& 31))))).bind (fun o5 => (fX6_refresh o5 Lc).bind (fun o7 => some (o7.1, o7.2.1, o7.2.2))))) = o → fX11_spoil (nI n) Nc Lc = o := fun o ho => by
      unfold fX11_spoil; rw [tc_isMeter s2.1 (by omega) hn, if_pos q, Option.bind_some, if_neg (by decide)]; exact ho
    have em : ∀ o, ((fX12_has (Nm 1 1) (nI n)).bind (fun o4 => if o4 = 0 then ((fX12_turn (1 : Int32) (nI n) Nm Lm).bind (fun o7 => fX12_spoil_37 o7.1 o7.2.1 o7.2.2)) else (fX12_spoil_37 (-4 : Int32) Nm Lm))) = o → fX12_spoil (nI n) Nm Lm = o := fun o ho => by
      unfold fX12_spoil; rw [fm_isMeter s3.1 (by omega) hn, if_pos q, Option.bind_some, if_neg (by decide)]; exact ho
    have hh := pm_has (s := br) (k := n) (by omega) (by omega)
    cases hb : br.testBit n with
    | true =>
      rw [hb] at hh
      refine same (-4) (ec _ ?_) (em _ ?_)
      · rw [e1, if_pos ((pb_bit1 (by omega) (by omega)).mpr hb)]
      · rw [y1, hh]; rfl
    | false =>
      rw [hb] at hh
      have u : ux_u Nc 19 1 ((Nc 19 1) ||| ((1 : Int32) <<< (nI n &&& 31))) = ux_u Nc 19 1 (nI (br ^^^ 2 ^ n)) := by rw [e1, pb_pow (by omega), bit_on, if_neg (by rw [hb]; decide)]
      have b1 : stB nd ln me so pl (br ^^^ 2 ^ n) cu := ⟨⟨m9, xor_lt s1.1.2.1 q, s1.1.2.2⟩, s1.2⟩
      obtain ⟨N2, M1, n0, k0, n1, k1, k2, k3, hhi⟩ := hi_push hR.2.2.2.2.2.2 s1 s3 (d := 1) (w := n) (me' := me) (br' := br ^^^ 2 ^ n) (cu' := cu) (so' := so) (pl' := pl) (Or.inr (Or.inl ⟨rfl, q, rfl, hb, rfl, rfl⟩)) (fun m _ => ⟨rfl, rfl⟩) (Nc1 := ux_u Nc 19 1 (nI (br ^^^ 2 ^ n))) (by rw [uu_ne _ _ _ (by decide)]) (uu_ne _ _ _ (by decide)) (uu_ne _ _ _ (by decide))
      have s3' : stM M1 0 me so pl br cu := stM_mv s3 m9 (fun k hk => k3 _ (by omega))
      have w1 : stM (ux_u M1 1 1 (nI (br ^^^ 2 ^ n))) 0 me so pl (br ^^^ 2 ^ n) cu := ⟨by rw [uu_off _ _ (by decide)]; exact s3'.1, by rw [uu_at], by rw [uu_off _ _ (by decide)]; exact s3'.2.2.1, fun m hm => by rw [uu_off _ _ (by omega), uu_off _ _ (by omega)]; exact s3'.2.2.2 m hm⟩
      have c1 : stC N2 19 me so pl (br ^^^ 2 ^ n) cu := by
        refine stC_fr (N := ux_u Nc 19 1 (nI (br ^^^ 2 ^ n))) ⟨by rw [uu_off _ _ (by decide)]; exact s2.1, by rw [uu_at], by rw [uu_off _ _ (by decide)]; exact s2.2.2.1, fun m hm => by rw [uu_ne _ _ _ (by decide), uu_ne _ _ _ (by decide)]; exact s2.2.2.2 m hm⟩ (fun z h1 h2 => n1 z (by omega) (by omega) (by omega))
      obtain ⟨N3, L3, r0, r1, r2⟩ := iv_refresh hG0 hR b1 c1 w1 (hiI_fr hhi rfl rfl rfl (by rw [uu_ne _ _ _ (by decide)]) (fun k h1 _ => uu_off _ _ (by omega))) (fun z hz => by rw [n1 z (by omega) (by omega) (by omega), uu_ne _ _ _ (by omega)]) (fun z z0 z1 => by rw [uu_ne _ _ _ z1]; exact k1 z z0 z1) (fun j hj => by rw [uu_ne _ _ _ (by decide)]; exact k2 j hj) (fun k hk => by rw [uu_off _ _ (by omega)]; exact k3 k (by omega))
      have p2' : plM (ux_u M1 1 1 (nI (br ^^^ 2 ^ n))) nd ln lo hi := plM_fr2 p2 (by rw [uu_ne _ _ _ (by decide)]; exact k2 1 (by decide)) (by rw [uu_ne _ _ _ (by decide)]; exact k2 2 (by decide)) (by rw [uu_ne _ _ _ (by decide)]; exact k1 2 (by decide) (by decide))
      obtain ⟨L4, t0, t1, _⟩ := lm_rank p2' b1 w1 f3 f2
      refine ⟨nI (rkS ln lo hi me so pl (br ^^^ 2 ^ n) cu), N3, L3, ux_u M1 1 1 (nI (br ^^^ 2 ^ n)), L4, ec _ ?_, em _ ?_, ivA_lm r2 t1⟩
      · have n0 : fX1_note (1 : Int32) (nI n) (ux_u Nc 19 1 (nI (br ^^^ 2 ^ n))) = some N2 := n0
        rw [u, e1, if_neg (fun z => by have := (pb_bit1 (by omega) (by omega)).mp z; rw [hb] at this; cases this), n0, Option.bind_some, r0]; rfl
      · have tt : fX12_turn (1 : Int32) (nI n) Nm Lm = some (nI (rkS ln lo hi me so pl (br ^^^ 2 ^ n) cu), ux_u M1 1 1 (nI (br ^^^ 2 ^ n)), L4) := by
          have := lm_turn (L := Lm) (p := 1) (n := n) (v := br) k0 (by decide) (by omega) s3'.2.1
          rw [t0] at this
          exact this
        rw [y1, hh]
        show (fX12_turn (1 : Int32) (nI n) Nm Lm).bind _ = _
        rw [tt]; rfl
  · refine same (-2) ?_ ?_
    · unfold fX11_spoil; rw [tc_isMeter s2.1 (by omega) hn, if_neg q]; rfl
    · unfold fX12_spoil; rw [fm_isMeter s3.1 (by omega) hn, if_neg q]; rfl
theorem iv_mend (h : ivA Nc Lc Nm Lm) (x : Int32) : ∃ r Nc' Lc' Nm' Lm', fX11_mend x Nc Lc = some (r, Nc', Lc') ∧ fX12_mend x Nm Lm = some (r, Nm', Lm') ∧ ivA Nc' Lc' Nm' Lm' := by
  have h0 := h
  obtain ⟨nd, ln, lo, hi, of, os, oa, op, me, so, pl, br, cu, hG, hS, hR⟩ := h0
  have hG0 := hG
  obtain ⟨⟨p1, p2⟩, _, ⟨s1, s2, s3⟩, f1, f2, f3⟩ := hG
  have m9 := s1.1.1
  have b9 := stB_512 s1
  have same : ∀ r, fX11_mend x Nc Lc = some (r, Nc, Lc) → fX12_mend x Nm Lm = some (r, Nm, Lm) → ∃ r Nc' Lc' Nm' Lm', fX11_mend x Nc Lc = some (r, Nc', Lc') ∧ fX12_mend x Nm Lm = some (r, Nm', Lm') ∧ ivA Nc' Lc' Nm' Lm' := fun r g1 g2 => ⟨r, Nc, Lc, Nm, Lm, g1, g2, h⟩
  have e1 : Nc 19 1 = nI br := s2.2.1
  have y1 : Nm 1 1 = nI br := s3.2.1
  rcases i32_cases x with hx | ⟨n, hn, rfl⟩
  · refine same (-2) ?_ ?_
    · unfold fX11_mend; rw [tc_isMeterN hx]; rfl
    · unfold fX12_mend; rw [fm_isMeterN hx]; rfl
  by_cases q : n < me
  · have ec : ∀ o, (if (((Nc 19 1) >>> (nI n &&& 31)) &&& (1 : Int32)) = 0 then (some ((-4 : Int32), Nc, Lc)) else ((fX1_note (2 : Int32) (nI n) (ux_u Nc 19 1 ((Nc 19 1) &&& (((1 : Int32) <<< (nI n &&& 31)) ^^^ (-1 : Int32))))).bind (fun o5 => (fX6_refresh o5 Lc).bind (fun o7 => some (o7.1, o7.2.1, o7.2.2))))) = o → fX11_mend (nI n) Nc Lc = o := fun o ho => by
      unfold fX11_mend; rw [tc_isMeter s2.1 (by omega) hn, if_pos q, Option.bind_some, if_neg (by decide)]; exact ho
    have em : ∀ o, ((fX12_has (Nm 1 1) (nI n)).bind (fun o4 => if o4 = 0 then (fX12_mend_37 (-4 : Int32) Nm Lm) else ((fX12_turn (1 : Int32) (nI n) Nm Lm).bind (fun o7 => fX12_mend_37 o7.1 o7.2.1 o7.2.2)))) = o → fX12_mend (nI n) Nm Lm = o := fun o ho => by
      unfold fX12_mend; rw [fm_isMeter s3.1 (by omega) hn, if_pos q, Option.bind_some, if_neg (by decide)]; exact ho
    have hh := pm_has (s := br) (k := n) (by omega) (by omega)
    cases hb : br.testBit n with
    | false =>
      rw [hb] at hh
      refine same (-4) (ec _ ?_) (em _ ?_)
      · rw [e1, if_pos ((pb_bit0 (by omega) (by omega)).mpr hb)]
      · rw [y1, hh]; rfl
    | true =>
      rw [hb] at hh
      have u : ux_u Nc 19 1 ((Nc 19 1) &&& (((1 : Int32) <<< (nI n &&& 31)) ^^^ (-1 : Int32))) = ux_u Nc 19 1 (nI (br ^^^ 2 ^ n)) := by rw [e1, pb_pow (by omega), bit_off (n := 9) b9 (by decide) (by omega), if_pos hb]
      have b1 : stB nd ln me so pl (br ^^^ 2 ^ n) cu := ⟨⟨m9, xor_lt s1.1.2.1 q, s1.1.2.2⟩, s1.2⟩
      obtain ⟨N2, M1, n0, k0, n1, k1, k2, k3, hhi⟩ := hi_push hR.2.2.2.2.2.2 s1 s3 (d := 2) (w := n) (me' := me) (br' := br ^^^ 2 ^ n) (cu' := cu) (so' := so) (pl' := pl) (Or.inr (Or.inr (Or.inl ⟨rfl, q, rfl, hb, rfl, rfl⟩))) (fun m _ => ⟨rfl, rfl⟩) (Nc1 := ux_u Nc 19 1 (nI (br ^^^ 2 ^ n))) (by rw [uu_ne _ _ _ (by decide)]) (uu_ne _ _ _ (by decide)) (uu_ne _ _ _ (by decide))
      have s3' : stM M1 0 me so pl br cu := stM_mv s3 m9 (fun k hk => k3 _ (by omega))
      have w1 : stM (ux_u M1 1 1 (nI (br ^^^ 2 ^ n))) 0 me so pl (br ^^^ 2 ^ n) cu := ⟨by rw [uu_off _ _ (by decide)]; exact s3'.1, by rw [uu_at], by rw [uu_off _ _ (by decide)]; exact s3'.2.2.1, fun m hm => by rw [uu_off _ _ (by omega), uu_off _ _ (by omega)]; exact s3'.2.2.2 m hm⟩
      have c1 : stC N2 19 me so pl (br ^^^ 2 ^ n) cu := by
        refine stC_fr (N := ux_u Nc 19 1 (nI (br ^^^ 2 ^ n))) ⟨by rw [uu_off _ _ (by decide)]; exact s2.1, by rw [uu_at], by rw [uu_off _ _ (by decide)]; exact s2.2.2.1, fun m hm => by rw [uu_ne _ _ _ (by decide), uu_ne _ _ _ (by decide)]; exact s2.2.2.2 m hm⟩ (fun z h1 h2 => n1 z (by omega) (by omega) (by omega))
      obtain ⟨N3, L3, r0, r1, r2⟩ := iv_refresh hG0 hR b1 c1 w1 (hiI_fr hhi rfl rfl rfl (by rw [uu_ne _ _ _ (by decide)]) (fun k h1 _ => uu_off _ _ (by omega))) (fun z hz => by rw [n1 z (by omega) (by omega) (by omega), uu_ne _ _ _ (by omega)]) (fun z z0 z1 => by rw [uu_ne _ _ _ z1]; exact k1 z z0 z1) (fun j hj => by rw [uu_ne _ _ _ (by decide)]; exact k2 j hj) (fun k hk => by rw [uu_off _ _ (by omega)]; exact k3 k (by omega))
      have p2' : plM (ux_u M1 1 1 (nI (br ^^^ 2 ^ n))) nd ln lo hi := plM_fr2 p2 (by rw [uu_ne _ _ _ (by decide)]; exact k2 1 (by decide)) (by rw [uu_ne _ _ _ (by decide)]; exact k2 2 (by decide)) (by rw [uu_ne _ _ _ (by decide)]; exact k1 2 (by decide) (by decide))
      obtain ⟨L4, t0, t1, _⟩ := lm_rank p2' b1 w1 f3 f2
      refine ⟨nI (rkS ln lo hi me so pl (br ^^^ 2 ^ n) cu), N3, L3, ux_u M1 1 1 (nI (br ^^^ 2 ^ n)), L4, ec _ ?_, em _ ?_, ivA_lm r2 t1⟩
      · have n0 : fX1_note (2 : Int32) (nI n) (ux_u Nc 19 1 (nI (br ^^^ 2 ^ n))) = some N2 := n0
        rw [u, e1, if_neg (fun z => by have := (pb_bit0 (by omega) (by omega)).mp z; rw [hb] at this; cases this), n0, Option.bind_some, r0]; rfl
      · have tt : fX12_turn (1 : Int32) (nI n) Nm Lm = some (nI (rkS ln lo hi me so pl (br ^^^ 2 ^ n) cu), ux_u M1 1 1 (nI (br ^^^ 2 ^ n)), L4) := by
          have := lm_turn (L := Lm) (p := 1) (n := n) (v := br) k0 (by decide) (by omega) s3'.2.1
          rw [t0] at this
          exact this
        rw [y1, hh]
        show (fX12_turn (1 : Int32) (nI n) Nm Lm).bind _ = _
        rw [tt]; rfl
  · refine same (-2) ?_ ?_
    · unfold fX11_mend; rw [tc_isMeter s2.1 (by omega) hn, if_neg q]; rfl
    · unfold fX12_mend; rw [fm_isMeter s3.1 (by omega) hn, if_neg q]; rfl
theorem iv_cut (h : ivA Nc Lc Nm Lm) (x : Int32) : ∃ r Nc' Lc' Nm' Lm', fX11_cut x Nc Lc = some (r, Nc', Lc') ∧ fX12_cut x Nm Lm = some (r, Nm', Lm') ∧ ivA Nc' Lc' Nm' Lm' := by
  have h0 := h
  obtain ⟨nd, ln, lo, hi, of, os, oa, op, me, so, pl, br, cu, hG, hS, hR⟩ := h0
  have hG0 := hG
  obtain ⟨⟨p1, p2⟩, _, ⟨s1, s2, s3⟩, f1, f2, f3⟩ := hG
  have m9 := s1.1.1
  have c10 := stB_c p2 s1
  have l10 := p1.2.2.1.2.2
  have same : ∀ r, fX11_cut x Nc Lc = some (r, Nc, Lc) → fX12_cut x Nm Lm = some (r, Nm, Lm) → ∃ r Nc' Lc' Nm' Lm', fX11_cut x Nc Lc = some (r, Nc', Lc') ∧ fX12_cut x Nm Lm = some (r, Nm', Lm') ∧ ivA Nc' Lc' Nm' Lm' := fun r g1 g2 => ⟨r, Nc, Lc, Nm, Lm, g1, g2, h⟩
  have e1 : Nc 19 2 = nI cu := s2.2.2.1
  have y1 : Nm 1 2 = nI cu := s3.2.2.1
  rcases i32_cases x with hx | ⟨n, hn, rfl⟩
  · refine same (-2) ?_ ?_
    · unfold fX11_cut; rw [tc_isLineN hx]; rfl
    · unfold fX12_cut; rw [fm_isLineN hx]; rfl
  by_cases q : n < ln
  · have ec : ∀ o, (if (((Nc 19 2) >>> (nI n &&& 31)) &&& (1 : Int32)) = (1 : Int32) then (some ((-4 : Int32), Nc, Lc)) else ((fX1_note (3 : Int32) (nI n) (ux_u Nc 19 2 ((Nc 19 2) ||| ((1 : Int32) <<< (nI n &&& 31))))).bind (fun o5 => (fX6_refresh o5 Lc).bind (fun o7 => some (o7.1, o7.2.1, o7.2.2))))) = o → fX11_cut (nI n) Nc Lc = o := fun o ho => by
      unfold fX11_cut; rw [tc_isLine p1.2.1 (by omega) hn, if_pos q, Option.bind_some, if_neg (by decide)]; exact ho
    have em : ∀ o, ((fX12_has (Nm 1 2) (nI n)).bind (fun o4 => if o4 = 0 then ((fX12_turn (2 : Int32) (nI n) Nm Lm).bind (fun o7 => fX12_cut_37 o7.1 o7.2.1 o7.2.2)) else (fX12_cut_37 (-4 : Int32) Nm Lm))) = o → fX12_cut (nI n) Nm Lm = o := fun o ho => by
      unfold fX12_cut; rw [fm_isLine p2.2.1 (by omega) hn, if_pos q, Option.bind_some, if_neg (by decide)]; exact ho
    have hh := pm_has (s := cu) (k := n) (by omega) (by omega)
    cases hb : cu.testBit n with
    | true =>
      rw [hb] at hh
      refine same (-4) (ec _ ?_) (em _ ?_)
      · rw [e1, if_pos ((pb_bit1 (by omega) (by omega)).mpr hb)]
      · rw [y1, hh]; rfl
    | false =>
      rw [hb] at hh
      have u : ux_u Nc 19 2 ((Nc 19 2) ||| ((1 : Int32) <<< (nI n &&& 31))) = ux_u Nc 19 2 (nI (cu ^^^ 2 ^ n)) := by rw [e1, pb_pow (by omega), bit_on, if_neg (by rw [hb]; decide)]
      have b1 : stB nd ln me so pl br (cu ^^^ 2 ^ n) := ⟨⟨m9, s1.1.2.1, xor_lt s1.1.2.2 q⟩, s1.2⟩
      obtain ⟨N2, M1, n0, k0, n1, k1, k2, k3, hhi⟩ := hi_push hR.2.2.2.2.2.2 s1 s3 (d := 3) (w := n) (me' := me) (br' := br) (cu' := cu ^^^ 2 ^ n) (so' := so) (pl' := pl) (Or.inr (Or.inr (Or.inr ⟨rfl, by omega, rfl, rfl, hb, rfl⟩))) (fun m _ => ⟨rfl, rfl⟩) (Nc1 := ux_u Nc 19 2 (nI (cu ^^^ 2 ^ n))) (by rw [uu_ne _ _ _ (by decide)]) (uu_ne _ _ _ (by decide)) (uu_ne _ _ _ (by decide))
      have s3' : stM M1 0 me so pl br cu := stM_mv s3 m9 (fun k hk => k3 _ (by omega))
      have w1 : stM (ux_u M1 1 2 (nI (cu ^^^ 2 ^ n))) 0 me so pl br (cu ^^^ 2 ^ n) := ⟨by rw [uu_off _ _ (by decide)]; exact s3'.1, by rw [uu_off _ _ (by decide)]; exact s3'.2.1, by rw [uu_at], fun m hm => by rw [uu_off _ _ (by omega), uu_off _ _ (by omega)]; exact s3'.2.2.2 m hm⟩
      have c1 : stC N2 19 me so pl br (cu ^^^ 2 ^ n) := by
        refine stC_fr (N := ux_u Nc 19 2 (nI (cu ^^^ 2 ^ n))) ⟨by rw [uu_off _ _ (by decide)]; exact s2.1, by rw [uu_off _ _ (by decide)]; exact s2.2.1, by rw [uu_at], fun m hm => by rw [uu_ne _ _ _ (by decide), uu_ne _ _ _ (by decide)]; exact s2.2.2.2 m hm⟩ (fun z h1 h2 => n1 z (by omega) (by omega) (by omega))
      obtain ⟨N3, L3, r0, r1, r2⟩ := iv_refresh hG0 hR b1 c1 w1 (hiI_fr hhi rfl rfl rfl (by rw [uu_ne _ _ _ (by decide)]) (fun k h1 _ => uu_off _ _ (by omega))) (fun z hz => by rw [n1 z (by omega) (by omega) (by omega), uu_ne _ _ _ (by omega)]) (fun z z0 z1 => by rw [uu_ne _ _ _ z1]; exact k1 z z0 z1) (fun j hj => by rw [uu_ne _ _ _ (by decide)]; exact k2 j hj) (fun k hk => by rw [uu_off _ _ (by omega)]; exact k3 k (by omega))
      have p2' : plM (ux_u M1 1 2 (nI (cu ^^^ 2 ^ n))) nd ln lo hi := plM_fr2 p2 (by rw [uu_ne _ _ _ (by decide)]; exact k2 1 (by decide)) (by rw [uu_ne _ _ _ (by decide)]; exact k2 2 (by decide)) (by rw [uu_ne _ _ _ (by decide)]; exact k1 2 (by decide) (by decide))
      obtain ⟨L4, t0, t1, _⟩ := lm_rank p2' b1 w1 f3 f2
      refine ⟨nI (rkS ln lo hi me so pl br (cu ^^^ 2 ^ n)), N3, L3, ux_u M1 1 2 (nI (cu ^^^ 2 ^ n)), L4, ec _ ?_, em _ ?_, ivA_lm r2 t1⟩
      · have n0 : fX1_note (3 : Int32) (nI n) (ux_u Nc 19 2 (nI (cu ^^^ 2 ^ n))) = some N2 := n0
        rw [u, e1, if_neg (fun z => by have := (pb_bit1 (by omega) (by omega)).mp z; rw [hb] at this; cases this), n0, Option.bind_some, r0]; rfl
      · have tt : fX12_turn (2 : Int32) (nI n) Nm Lm = some (nI (rkS ln lo hi me so pl br (cu ^^^ 2 ^ n)), ux_u M1 1 2 (nI (cu ^^^ 2 ^ n)), L4) := by
          have := lm_turn (L := Lm) (p := 2) (n := n) (v := cu) k0 (by decide) (by omega) s3'.2.2.1
          rw [t0] at this
          exact this
        rw [y1, hh]
        show (fX12_turn (2 : Int32) (nI n) Nm Lm).bind _ = _
        rw [tt]; rfl
  · refine same (-2) ?_ ?_
    · unfold fX11_cut; rw [tc_isLine p1.2.1 (by omega) hn, if_neg q]; rfl
    · unfold fX12_cut; rw [fm_isLine p2.2.1 (by omega) hn, if_neg q]; rfl
end DE2
