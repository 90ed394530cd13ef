/-! deeds -/
section DEE
variable {Nc Nm Nc1 Nm1 : ux_N} {Lc Lm : ux_L} {nd ln : Nat} {lo hi : Nat → Nat} {of : Nat} {os oa op : Nat → Nat} {me : Nat} {so pl : Nat → Nat} {br cu : Nat} {me' : Nat} {so' pl' : Nat → Nat} {br' cu' : Nat}
theorem ivA_lm {Lm' : ux_L} (h : ivA Nc Lc Nm Lm) (e : ∀ a, a ≠ 15 → Lm' a = Lm a) : ivA Nc Lc Nm Lm' := by
  obtain ⟨nd, ln, lo, hi, of, os, oa, op, me, so, pl, br, cu, hG, hS, hR⟩ := h
  exact iv_askM hG hS hR (fun _ _ _ => rfl) rfl rfl e
theorem iv_refresh (hG : ivG Nc Nm Lc Lm nd ln lo hi of os oa op me so pl br cu) (hR : ivR Nc Nm nd ln me so pl br cu) (hb' : stB nd ln me' so' pl' br' cu') (hc' : stC Nc1 19 me' so' pl' br' cu') (hm' : stM Nm1 0 me' so' pl' br' cu') (hh : hiI nd ln me' so' pl' br' cu' Nc1 Nm1) (c : ∀ a, a < 19 ∨ (22 ≤ a ∧ a < 30) ∨ 33 ≤ a → Nc1 a = Nc a) (m : ∀ a, a ≠ 0 → a ≠ 1 → Nm1 a = Nm a) (m0 : ∀ j, j ≠ 6 → Nm1 0 j = Nm 0 j) (m1 : ∀ k, 189 ≤ k → Nm1 1 k = Nm 1 k) :
    ∃ Nc2 Lc2, fX6_refresh Nc1 Lc = some (nI (rkS ln lo hi me' so' pl' br' cu'), Nc2, Lc2) ∧ (∀ a, a ≠ 33 → a ≠ 34 → a ≠ 101 → Nc2 a = Nc1 a) ∧ ivA Nc2 Lc2 Nm1 Lm := by
  obtain ⟨⟨p1, p2⟩, ⟨o1, o2, o3⟩, ⟨s1, s2, s3⟩, f1, f2, f3⟩ := hG
  obtain ⟨⟨tm, ts, ta, t⟩, s, ⟨lt, tx, xx⟩, w, r, k, _⟩ := hR
  have p1' : plC Nc1 1 nd ln lo hi := plC_fr p1 (fun a h1 h2 => c a (by omega))
  obtain ⟨Nc2, Lc2, r0, r1, r2, r3, r4, r5, r6⟩ := cc_refresh p1' hb' hc' f1
  have cc : ∀ a, a < 19 ∨ (22 ≤ a ∧ a < 30) ∨ 107 ≤ a → Nc2 a = Nc a := fun a ha => by rw [r1 a (by omega) (by omega) (by omega)]; exact c a (by omega)
  refine ⟨Nc2, Lc2, r0, r1, nd, ln, lo, hi, of, os, oa, op, me', so', pl', br', cu', ⟨⟨plC_fr p1 (fun a h1 h2 => cc a (by omega)), plM_fr2 p2 (m0 1 (by decide)) (m0 2 (by decide)) (m 2 (by decide) (by decide))⟩, ⟨o1, ofC_fr o2 (fun a h1 h2 => cc a (by omega)), ofM_fr o3 (m0 4 (by decide)) (m 3 (by decide) (by decide))⟩, ⟨hb', stC_fr hc' (fun a h1 h2 => r1 a (by omega) (by omega) (by omega)), hm'⟩, foC_fr f1 (r2 36 (by decide) (by decide)), f2, f3⟩, ⟨r3, Or.inl r4, Or.inl r5, Or.inl r6⟩, ⟨tm, ts, ta, toI_fr t (by rw [cc 1 (by decide)]) (cc 4 (by decide)) (cc 5 (by decide)) (fun j hj => m1 j (by omega))⟩, seI_fr s (cc 107 (by decide)) (cc 108 (by decide)) (cc 109 (by decide)) (m0 12 (by decide)) (m 6 (by decide) (by decide)) (m 7 (by decide) (by decide)), ⟨lt, tx, txI_fr xx (by rw [cc 9 (by decide)]) (cc 18 (by decide)) (m0 9 (by decide)) (m 5 (by decide) (by decide))⟩, fun k hk => (by rw [m 12 (by decide) (by decide)]; exact w k hk), trA_fr r (fun a h1 h2 => cc a (by omega)) (m 8 (by decide) (by decide)) (m 9 (by decide) (by decide)) (m 10 (by decide) (by decide)), fun j hj => keI_fr (k j hj) (by rw [cc 29 (by decide)]) (fun a h1 h2 => cc a (by omega)) (by rw [m 4 (by decide) (by decide)]) (fun i _ => m1 _ (by omega)), hiI_fr hh (by rw [r1 30 (by decide) (by decide) (by decide)]) (r1 31 (by decide) (by decide) (by decide)) (r1 32 (by decide) (by decide) (by decide)) rfl (fun _ _ _ => rfl)⟩
theorem cc_addMeter {N : ux_N} (h : stC N 19 me so pl br cu) (h9 : me < 9) (s a : Nat) : ∃ N', fX8_addMeter 19 (nI s) (nI a) N = some (nI me, N') ∧ stC N' 19 (me + 1) (fuS so me s) (fuS pl me a) br cu ∧ ∀ x, x < 19 ∨ 22 ≤ x → N' x = N x := by
  obtain ⟨e0, e1, e2, e3⟩ := h
  refine ⟨ux_u (ux_u (ux_u N (19 + 1) me (nI s)) (19 + 2) me (nI a)) 19 0 (nI (me + 1)), ?_, ⟨?_, ?_, ?_, fun m hm => ?_⟩, fun x hx => ?_⟩
  · unfold fX8_addMeter fX8_addMeter_41
    rw [e0, if_pos (show nI me < (9 : Int32) from (nI_ltI (b := 9) (by omega) (by decide)).mpr h9), pb_in h9 (by decide), if_pos rfl, nI_clamp (by omega), uu_ne _ _ _ (by decide : (19 : Nat) ≠ 19 + 1), e0, pb_in h9 (by decide), if_pos rfl, nI_clamp (by omega), uu_ne _ _ _ (by decide : (19 : Nat) ≠ 19 + 2), uu_ne _ _ _ (by decide : (19 : Nat) ≠ 19 + 1), e0, show nI me + (1 : Int32) = nI (me + 1) from nI_add _ 1, uu_at, show nI (me + 1) - (1 : Int32) = nI me from by rw [li_1, pk_sub (by omega)]; rfl]
  · rw [uu_at]
  · rw [uu_off _ _ (by decide), uu_ne _ _ _ (by decide), uu_ne _ _ _ (by decide)]; exact e1
  · rw [uu_off _ _ (by decide), uu_ne _ _ _ (by decide), uu_ne _ _ _ (by decide)]; exact e2
  · rw [uu_ne _ _ _ (by decide : (19 + 1 : Nat) ≠ 19), uu_ne _ _ _ (by decide : (19 + 1 : Nat) ≠ 19 + 2), uu_ne _ _ _ (by decide : (19 + 2 : Nat) ≠ 19)]
    by_cases e : m = me
    · rw [e, uu_at, uu_at, fuS_at, fuS_at]; exact ⟨rfl, rfl⟩
    · rw [uu_off _ _ e, uu_off _ _ e, uu_ne _ _ _ (by decide : (19 + 2 : Nat) ≠ 19 + 1), fuS_off e, fuS_off e]; exact e3 m (by omega)
  · rw [uu_ne _ _ _ (by omega), uu_ne _ _ _ (by omega), uu_ne _ _ _ (by omega)]
theorem iv_put (h : ivA Nc Lc Nm Lm) (x y : Int32) : ∃ r Nc' Lc' Nm', fX11_put x y Nc Lc = some (r, Nc', Lc') ∧ fX12_put x y Nm = some (r, Nm') ∧ ivA Nc' Lc' Nm' Lm := by
  have h0 := h
  obtain ⟨nd, ln, lo, hi, of, os, oa, op, me, so, pl, br, cu, hG, hS, hR⟩ := h0
  have hG0 := hG
  obtain ⟨⟨p1, p2⟩, _, ⟨s1, s2, s3⟩, f1, f2, f3⟩ := hG
  have m9 := s1.1.1
  have e0 : Nc 19 0 = nI me := s2.1
  have y0 : Nm 1 0 = nI me := s3.1
  rcases iv_place p1 p2 x y with ⟨s, a, h5, ha, rfl, rfl, g1, g2, g3⟩ | ⟨g1, g2⟩ | ⟨g1, g2, g3⟩
  · by_cases q : me = 9
    · refine ⟨-5, Nc, Lc, Nm, ?_, ?_, h⟩
      · unfold fX11_put; rw [g1, Option.bind_some, if_pos rfl, e0, q, if_neg (by decide)]
      · unfold fX12_put; rw [g2, Option.bind_some, if_neg (by decide), g3, Option.bind_some, if_neg (by decide), y0, q, if_pos (show nI 9 = (9 : Int32) from rfl)]
    · have h9 : me < 9 := by omega
      obtain ⟨N1, a0, a1, a2⟩ := cc_addMeter s2 h9 s a
      have b1 : stB nd ln (me + 1) (fuS so me s) (fuS pl me a) br cu := by
        obtain ⟨⟨t1, t2, t3⟩, t4⟩ := s1
        refine ⟨⟨by omega, Nat.lt_of_lt_of_le t2 (Nat.pow_le_pow_right (by decide) (by omega)), t3⟩, fun m hm => ?_⟩
        by_cases e : m = me
        · rw [e, fuS_at, fuS_at]; exact ⟨h5, ha⟩
        · rw [fuS_off e, fuS_off e]; exact t4 m (by omega)
      obtain ⟨N2, M1, n0, k0, n1, k1, k2, k3, hh⟩ := hi_push hR.2.2.2.2.2.2 s1 s3 (d := 0) (w := me) (me' := me + 1) (br' := br) (cu' := cu) (so' := fuS so me s) (pl' := fuS pl me a) (Or.inl ⟨rfl, rfl, rfl, rfl, rfl⟩) (fun m hm => ⟨fuS_off (by omega), fuS_off (by omega)⟩) (Nc1 := N1) (by rw [a2 30 (by decide)]) (a2 31 (by decide)) (a2 32 (by decide))
      have s3' : stM M1 0 me so pl br cu := stM_mv s3 m9 (fun k hk => k3 _ (by omega))
      have bt : br.testBit me = false := Nat.testBit_lt_two_pow s1.1.2.1
      have u1 : ux_u M1 1 1 ((M1 1 1) &&& (((1 : Int32) <<< ((M1 1 0) &&& 31)) ^^^ (-1 : Int32))) = M1 := by
        refine uu_self ?_
        rw [show M1 1 0 = nI me from s3'.1, show M1 1 1 = nI br from s3'.2.1, pb_pow (by omega), bit_off (n := 10) (Nat.lt_of_lt_of_le (stB_512 s1) (by decide)) (by decide) (by omega), bt]; rfl
      obtain ⟨M2, w0, w1, w2, w3⟩ := lm_addMeter s3' h9 s a
      have hh2 : hiI nd ln (me + 1) (fuS so me s) (fuS pl me a) br cu N2 M2 := hiI_fr hh rfl rfl rfl (by rw [w2 0 (by decide)]) (fun k h1 _ => w3 k h1)
      obtain ⟨N3, L3, r0, r1, r2⟩ := iv_refresh hG0 hR b1 (stC_fr a1 (fun z h1 h2 => n1 z (by omega) (by omega) (by omega))) w1 hh2 (fun z hz => by rw [n1 z (by omega) (by omega) (by omega)]; exact a2 z (by omega)) (fun z z0 z1 => by rw [w2 z z1]; exact k1 z z0 z1) (fun j hj => by rw [w2 0 (by decide)]; exact k2 j hj) (fun k hk => by rw [w3 k (by omega)]; exact k3 k (by omega))
      refine ⟨nI me, N3, L3, M2, ?_, ?_, r2⟩
      · unfold fX11_put
        have n0 : fX1_note (0 : Int32) (nI me) N1 = some N2 := n0
        rw [g1, Option.bind_some, if_pos rfl, e0, if_pos (show nI me < (9 : Int32) from (nI_ltI (b := 9) (by omega) (by decide)).mpr h9), a0, Option.bind_some]
        show (fX1_note (0 : Int32) (nI me) N1).bind _ = _
        rw [n0, Option.bind_some, r0]; rfl
      · unfold fX12_put
        rw [g2, Option.bind_some, if_neg (by decide), g3, Option.bind_some, if_neg (by decide), y0, if_neg (show ¬ nI me = (9 : Int32) from fun z => q ((nI_eq (b := 9) (by omega) (by decide)).mp z)), k0, Option.bind_some, u1, w0, Option.bind_some, show M2 1 0 = nI (me + 1) from w1.1, show nI (me + 1) - (1 : Int32) = nI me from by rw [li_1, pk_sub (by omega)]; rfl]
  · refine ⟨-3, Nc, Lc, Nm, ?_, ?_, h⟩
    · unfold fX11_put; rw [g1]; rfl
    · unfold fX12_put; rw [g2]; rfl
  · refine ⟨-2, Nc, Lc, Nm, ?_, ?_, h⟩
    · unfold fX11_put; rw [g1]; rfl
    · unfold fX12_put; rw [g2, Option.bind_some, if_neg (by decide), g3]; rfl
end DEE
