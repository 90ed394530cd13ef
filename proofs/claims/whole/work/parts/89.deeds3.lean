section DE3
variable {Nc Nm : ux_N} {Lc Lm : ux_L}
theorem iv_undo (h : ivA Nc Lc Nm Lm) : ∃ r Nc' Lc' Nm', fX11_undo Nc Lc = some (r, Nc', Lc') ∧ fX12_undo Nm = some (r, Nm') ∧ ivA Nc' Lc' Nm' Lm := by
  have h0 := h
  obtain ⟨nd, ln, lo, hi, of, os, oa, op, me, so, pl, br, cu, hG, hS, hR⟩ := h0
  have hG0 := hG
  obtain ⟨⟨p1, p2⟩, _, ⟨s1, s2, s3⟩, f1, f2, f3⟩ := hG
  rcases hi_undo hR.2.2.2.2.2.2 p1.2.2.1.2.2 s1 s2 with ⟨a, b⟩ | ⟨hs, me', br', cu', N1, M1, a0, a1, a2, a3, a4, a5, a6, a7, a8, a9, b1, b2, b3⟩
  · refine ⟨-4, Nc, Lc, Nm, ?_, ?_, h⟩
    · unfold fX11_undo; rw [a, if_neg (by decide)]
    · unfold fX12_undo; rw [b, if_pos (show nI 0 = 0 from rfl)]
  · obtain ⟨N3, L3, r0, r1, r2⟩ := iv_refresh hG0 hR a5 a6 a7 a8 (fun z hz => a9 z (by omega) (by omega)) b1 b2 (fun k hk => b3 k (by omega))
    refine ⟨nI hs, N3, L3, M1, ?_, a3, r2⟩
    unfold fX11_undo
    rw [a0, if_pos ((pb_0lt (by omega)).mpr (by omega)), a2, Option.bind_some, r0, Option.bind_some]
    show some (N3 30 0, _, _) = _
    rw [r1 30 (by decide) (by decide) (by decide), a4]
theorem nar_1 : vp_nar .boolean (1 : Int32) = 1 := by decide
theorem nar_0 : vp_nar .boolean (0 : Int32) = 0 := by decide
theorem iv_keep (h : ivA Nc Lc Nm Lm) (x : Int32) : ∃ r Nc' Nm' Lm', fX11_keep x Nc = some (r, Nc') ∧ fX12_keep x Nm Lm = some (r, Nm', Lm') ∧ ivA Nc' Lc Nm' Lm' := by
  have h0 := h
  obtain ⟨nd, ln, lo, hi, of, os, oa, op, me, so, pl, br, cu, hG, hS, hR⟩ := h0
  have hG0 := hG
  obtain ⟨⟨p1, p2⟩, _, ⟨s1, s2, s3⟩, f1, f2, f3⟩ := hG
  have m9 := s1.1.1
  rcases i32_cases x with hx | ⟨n, hn, rfl⟩
  · refine ⟨-2, Nc, Nm, Lm, ?_, ?_, h⟩
    · unfold fX11_keep; rw [if_pos hx]; rfl
    · unfold fX12_keep; rw [show (1 : Int64) = (1 : Int32).toInt64 from by decide, in_neg hx]; rfl
  have inx : fX12_in (nI n).toInt64 (0 : Int64) (1 : Int64) = some (if n < 2 then 1 else 0) := by
    rw [show (1 : Int64) = (nI 2 - (1 : Int32)).toInt64 from by decide]
    exact in_m1 hn (by decide)
  by_cases q : n < 2
  · obtain ⟨N1, a0, a1, a2⟩ := cc_copyS Nc (c0 := 23 + 3 * n) (c1 := 19) (by omega)
    obtain ⟨M1, b0, b1, b2, b3⟩ := lm_copyRow Nm (a := 0) (b := 189 + 21 * n) (by decide) (by omega) (by omega)
    have c1 : ∀ a, a ≠ 29 → a < 23 + 3 * n ∨ 23 + 3 * n + 3 ≤ a → ux_u N1 29 n 1 a = Nc a := fun a h1 h2 => by rw [uu_ne _ _ _ h1, a1 a h2]
    have c29 : ∀ j, ux_u N1 29 n 1 29 j = if j = n then 1 else Nc 29 j := fun j => by rw [uu_same, a1 29 (by omega)]
    have m1 : ∀ a, a ≠ 1 → a ≠ 4 → ux_u M1 4 n 1 a = Nm a := fun a h1 h2 => by rw [uu_ne _ _ _ h2, b1 a h1]
    have m4 : ∀ j, ux_u M1 4 n 1 4 j = if j = n then 1 else Nm 4 j := fun j => by rw [uu_same, b1 4 (by decide)]
    have mr : ∀ k, k < 189 + 21 * n ∨ 189 + 21 * n + 21 ≤ k → ux_u M1 4 n 1 1 k = Nm 1 k := fun k hk => by rw [uu_ne _ _ _ (by decide), b3 k hk]
    have p2' : plM (ux_u M1 4 n 1) nd ln lo hi := plM_fr2 p2 (by rw [m1 0 (by decide) (by decide)]) (by rw [m1 0 (by decide) (by decide)]) (m1 2 (by decide) (by decide))
    have s3' : stM (ux_u M1 4 n 1) 0 me so pl br cu := stM_mv s3 m9 (fun k hk => mr _ (by omega))
    obtain ⟨L4, t0, t1, _⟩ := lm_rank p2' s1 s3' f3 f2
    obtain ⟨⟨tm, ts, ta, t⟩, s, ⟨lt, tx, xx⟩, w, r, k, hh⟩ := hR
    have m0 := m1 0 (by decide) (by decide)
    refine ⟨nI (rkS ln lo hi me so pl br cu), ux_u N1 29 n 1, ux_u M1 4 n 1, L4, ?_, ?_, ivA_lm (Lm := Lm) ⟨nd, ln, lo, hi, of, os, oa, op, me, so, pl, br, cu, ivG_fr hG0 (fun a h1 h2 => c1 a (by omega) (by omega)) (fun a h1 h2 => c1 a (by omega) (by omega)) rfl (by rw [m0]) (by rw [m0]) (by rw [m0]) (fun k hk => mr k (by omega)) (m1 2 (by decide) (by decide)) (m1 3 (by decide) (by decide)) rfl rfl, ivS_fr hS (c1 33 (by decide) (by omega)) (c1 34 (by decide) (by omega)) (c1 101 (by decide) (by omega)) (c1 103 (by decide) (by omega)) (c1 104 (by decide) (by omega)) (c1 105 (by decide) (by omega)) rfl, ⟨tm, ts, ta, toI_fr t (by rw [c1 1 (by decide) (by omega)]) (c1 4 (by decide) (by omega)) (c1 5 (by decide) (by omega)) (fun j hj => mr j (by omega))⟩, seI_fr s (c1 107 (by decide) (by omega)) (c1 108 (by decide) (by omega)) (c1 109 (by decide) (by omega)) (by rw [m0]) (m1 6 (by decide) (by decide)) (m1 7 (by decide) (by decide)), ⟨lt, tx, txI_fr xx (by rw [c1 9 (by decide) (by omega)]) (c1 18 (by decide) (by omega)) (by rw [m0]) (m1 5 (by decide) (by decide))⟩, fun k hk => (by rw [m1 12 (by decide) (by decide)]; exact w k hk), trA_fr r (fun a h1 h2 => c1 a (by omega) (by omega)) (m1 8 (by decide) (by decide)) (m1 9 (by decide) (by decide)) (m1 10 (by decide) (by decide)), fun j hj => ?_, hiI_fr hh (by rw [c1 30 (by decide) (by omega)]) (c1 31 (by decide) (by omega)) (c1 32 (by decide) (by omega)) (by rw [m0]) (fun k h1 h2 => mr k (by omega))⟩ t1⟩
    · unfold fX11_keep
      rw [if_neg (pb_lt0 hn), if_pos (show nI n < (2 : Int32) from (nI_ltI (b := 2) hn (by decide)).mpr q), pb_in q (by decide), if_pos rfl, nI_clamp (by omega), a0, Option.bind_some, if_pos rfl, nar_1, c1 33 (by decide) (by omega), hS.1.1]
    · unfold fX12_keep
      rw [inx, if_pos q, Option.bind_some, if_neg (by decide), li_189, li_21, pk_mul, nI_add, li_0, b0, Option.bind_some, pb_in q (by decide), if_pos rfl, nI_clamp (by omega), nar_1, t0]; rfl
    · by_cases e : j = n
      · subst e
        refine ⟨by rw [c29, m4, if_pos rfl, if_pos rfl], Or.inr ⟨by rw [c29, if_pos rfl], me, so, pl, br, cu, s1, stC_fr (a2 me so pl br cu m9 s2) (fun a h1 h2 => uu_ne _ _ _ (by omega)), stM_mv s3 m9 (fun i hi => by rw [uu_ne _ _ _ (by decide), b2 i hi])⟩⟩
      · exact keI_fr (k j hj) (by rw [c29, if_neg e]) (fun a h1 h2 => c1 a (by omega) (by omega)) (by rw [m4, if_neg e]) (fun i hi => mr _ (by omega))
  · refine ⟨-2, Nc, Nm, Lm, ?_, ?_, h⟩
    · unfold fX11_keep; rw [if_neg (pb_lt0 hn), if_neg (show ¬ nI n < (2 : Int32) from fun z => q ((nI_ltI (b := 2) hn (by decide)).mp z))]; rfl
    · unfold fX12_keep; rw [inx, if_neg q]; rfl
theorem iv_back (h : ivA Nc Lc Nm Lm) (x : Int32) : ∃ r Nc' Lc' Nm' Lm', fX11_back x Nc Lc = some (r, Nc', Lc') ∧ fX12_back x Nm Lm = some (r, Nm', Lm') ∧ ivA Nc' Lc' Nm' Lm' := by
  have h0 := h
  obtain ⟨nd, ln, lo, hi, of, os, oa, op, me, so, pl, br, cu, hG, hS, hR⟩ := h0
  have hG0 := hG
  obtain ⟨⟨p1, p2⟩, _, ⟨s1, s2, s3⟩, f1, f2, f3⟩ := hG
  rcases i32_cases x with hx | ⟨n, hn, rfl⟩
  · refine ⟨-2, Nc, Lc, Nm, Lm, ?_, ?_, h⟩
    · unfold fX11_back; rw [if_pos hx]; rfl
    · unfold fX12_back; rw [show (1 : Int64) = (1 : Int32).toInt64 from by decide, in_neg hx]; rfl
  have inx : fX12_in (nI n).toInt64 (0 : Int64) (1 : Int64) = some (if n < 2 then 1 else 0) := by
    rw [show (1 : Int64) = (nI 2 - (1 : Int32)).toInt64 from by decide]
    exact in_m1 hn (by decide)
  by_cases q : n < 2
  · obtain ⟨k1, k2⟩ := hR.2.2.2.2.2.1 n q
    rcases k2 with k2 | ⟨k2, me', so', pl', br', cu', t1, t2, t3⟩
    · refine ⟨-4, Nc, Lc, Nm, Lm, ?_, ?_, h⟩
      · unfold fX11_back
        rw [if_neg (pb_lt0 hn), if_pos (show nI n < (2 : Int32) from (nI_ltI (b := 2) hn (by decide)).mpr q), pb_in q (by decide), if_pos rfl, nI_clamp (by omega), if_pos k2]
      · unfold fX12_back
        rw [inx, if_pos q, Option.bind_some, if_neg (by decide), pb_in q (by decide), if_pos rfl, nI_clamp (by omega), if_pos (k1.symm.trans k2)]
    · obtain ⟨N1, a0, a1, a2⟩ := cc_copyS Nc (c0 := 19) (c1 := 23 + 3 * n) (by omega)
      obtain ⟨M1, b0, b1, b2, b3⟩ := lm_copyRow Nm (a := 189 + 21 * n) (b := 0) (by omega) (by decide) (by omega)
      have c1 : stC (ux_u N1 30 0 0) 19 me' so' pl' br' cu' := stC_fr (a2 me' so' pl' br' cu' t1.1.1 t2) (fun a h1 h2 => uu_ne _ _ _ (by omega))
      have w1 : stM (ux_u M1 0 6 0) 0 me' so' pl' br' cu' := stM_mv t3 t1.1.1 (fun k hk => by rw [uu_ne _ _ _ (by decide), b2 k hk])
      obtain ⟨N3, L3, r0, r1, r2⟩ := iv_refresh hG0 hR t1 c1 w1 (hi_none (uu_at _ _ _ _) (uu_at _ _ _ _)) (fun z hz => by rw [uu_ne _ _ _ (by omega)]; exact a1 z (by omega)) (fun z z0 z1 => by rw [uu_ne _ _ _ z0]; exact b1 z z1) (fun j hj => by rw [uu_off _ _ hj, b1 0 (by decide)]) (fun k hk => by rw [uu_ne _ _ _ (by decide)]; exact b3 k (by omega))
      have p2' : plM (ux_u M1 0 6 0) nd ln lo hi := plM_fr2 p2 (by rw [uu_off _ _ (by decide), b1 0 (by decide)]) (by rw [uu_off _ _ (by decide), b1 0 (by decide)]) (by rw [uu_ne _ _ _ (by decide), b1 2 (by decide)])
      obtain ⟨L4, u0, u1, _⟩ := lm_rank p2' t1 w1 f3 f2
      refine ⟨nI (rkS ln lo hi me' so' pl' br' cu'), N3, L3, ux_u M1 0 6 0, L4, ?_, ?_, ivA_lm r2 u1⟩
      · unfold fX11_back
        rw [if_neg (pb_lt0 hn), if_pos (show nI n < (2 : Int32) from (nI_ltI (b := 2) hn (by decide)).mpr q), pb_in q (by decide), if_pos rfl, nI_clamp (by omega), if_neg (by rw [k2]; decide), if_pos rfl, a0, Option.bind_some, r0]; rfl
      · unfold fX12_back
        rw [inx, if_pos q, Option.bind_some, if_neg (by decide), pb_in q (by decide), if_pos rfl, nI_clamp (by omega), if_neg (by rw [← k1, k2]; decide), li_189, li_21, pk_mul, nI_add, show (0 : Int32) = nI 0 from rfl, b0, Option.bind_some]
        have u0 : fX12_rank (ux_u M1 0 6 (nI 0)) Lm = some (nI (rkS ln lo hi me' so' pl' br' cu'), L4) := u0
        rw [u0]; rfl
  · refine ⟨-2, Nc, Lc, Nm, Lm, ?_, ?_, h⟩
    · unfold fX11_back; rw [if_neg (pb_lt0 hn), if_neg (show ¬ nI n < (2 : Int32) from fun z => q ((nI_ltI (b := 2) hn (by decide)).mp z))]; rfl
    · unfold fX12_back; rw [inx, if_neg q]; rfl
end DE3
