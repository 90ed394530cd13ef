/-! fault and grid -/
section GRI
variable {Nc Nm : ux_N} {Lc Lm : ux_L} {nd ln : Nat} {lo hi : Nat → Nat} {of : Nat} {os oa op : Nat → Nat} {tm : Nat} {ts ta : Nat → Nat}
theorem dCl_of (p1 : plC Nc 1 nd ln lo hi) (o2 : ofC Nc 1 of os oa op) (t : toI nd ln Nc Nm tm ts ta) : dCl Nc 1 ((nd, ln, tm, of), (lo, hi), (ts, ta), (os, oa, op)) :=
  ⟨⟨p1.1, p1.2.1, t.2.1.1, o2.1⟩, fun k hk => ⟨(p1.2.2.2 k hk).1, (p1.2.2.2 k hk).2.1⟩, fun k hk => t.2.1.2 k hk, fun k hk => o2.2 k hk⟩
theorem dBd_of (p1 : plC Nc 1 nd ln lo hi) (o1 : ofB nd ln of os oa op) (t : toI nd ln Nc Nm tm ts ta) : dBd ((nd, ln, tm, of), (lo, hi), (ts, ta), (os, oa, op)) :=
  ⟨p1.2.2.1, fun k hk => ⟨(p1.2.2.2 k hk).2.2.1, (p1.2.2.2 k hk).2.2.2⟩, t.1, o1⟩
theorem plC_of {N : ux_N} {D : drT} (h : dCl N 1 D) (b : dBd D) : plC N 1 (dNd D) (dLn D) (dLo D) (dHi D) := ⟨h.1.1, h.1.2.1, b.1, fun k hk => ⟨(h.2.1 k hk).1, (h.2.1 k hk).2, (b.2.1 k hk).1, (b.2.1 k hk).2⟩⟩
theorem ofC_of {N : ux_N} {D : drT} (h : dCl N 1 D) : ofC N 1 (dOf D) (dOs D) (dOa D) (dOp D) := ⟨h.1.2.2.2, fun k hk => h.2.2.2 k hk⟩
theorem plM_of {N : ux_N} {D : drT} (h : dMl N D) (b : dBd D) : plM N (dNd D) (dLn D) (dLo D) (dHi D) := ⟨h.1.1, h.1.2.1, b.1, fun k hk => ⟨(h.2.1 k hk).1, (h.2.1 k hk).2, (b.2.1 k hk).1, (b.2.1 k hk).2⟩⟩
theorem ofM_of {N : ux_N} {D : drT} (h : dMl N D) : ofM N (dOf D) (dOs D) (dOa D) (dOp D) := ⟨h.1.2.2, fun k hk => h.2.2.1 k hk⟩
theorem ivA_rd {Nc' Nm' : ux_N} (h : ivA Nc Lc Nm Lm) (c : ∀ a, a < 9 ∨ 18 ≤ a → Nc' a = Nc a) (c9 : Nc' 9 0 = Nc 9 0) (m : ∀ a, a ≠ 0 → a ≠ 11 → Nm' a = Nm a) (m0 : ∀ j, j < 16 → Nm' 0 j = Nm 0 j) : ivA Nc' Lc Nm' Lm := by
  obtain ⟨nd, ln, lo, hi, of, os, oa, op, me, so, pl, br, cu, hG, hS, ⟨tm, ts, ta, t⟩, s, ⟨lt, tx, xx⟩, w, r, k, hh⟩ := h
  have m1 := m 1 (by decide) (by decide)
  exact ⟨nd, ln, lo, hi, of, os, oa, op, me, so, pl, br, cu, ivG_fr hG (fun a h1 h2 => c a (by omega)) (fun a h1 h2 => c a (by omega)) rfl (m0 1 (by decide)) (m0 2 (by decide)) (m0 4 (by decide)) (fun k _ => by rw [m1]) (m 2 (by decide) (by decide)) (m 3 (by decide) (by decide)) rfl rfl, ivS_fr hS (c 33 (by decide)) (c 34 (by decide)) (c 101 (by decide)) (c 103 (by decide)) (c 104 (by decide)) (c 105 (by decide)) rfl, ⟨tm, ts, ta, toI_fr t (by rw [c 1 (by decide)]) (c 4 (by decide)) (c 5 (by decide)) (fun j _ => by rw [m1])⟩, seI_fr s (c 107 (by decide)) (c 108 (by decide)) (c 109 (by decide)) (m0 12 (by decide)) (m 6 (by decide) (by decide)) (m 7 (by decide) (by decide)), ⟨lt, tx, txI_fr xx c9 (c 18 (by decide)) (m0 9 (by decide)) (m 5 (by decide) (by decide))⟩, fun k hk => (by rw [m 12 (by decide) (by decide)]; exact w k hk), trA_fr r (fun a h1 h2 => c a (by omega)) (m 8 (by decide) (by decide)) (m 9 (by decide) (by decide)) (m 10 (by decide) (by decide)), fun j hj => keI_fr (k j hj) (by rw [c 29 (by decide)]) (fun a h1 h2 => c a (by omega)) (by rw [m 4 (by decide) (by decide)]) (fun i _ => by rw [m1]), hiI_fr hh (by rw [c 30 (by decide)]) (c 31 (by decide)) (c 32 (by decide)) (m0 6 (by decide)) (fun k _ _ => by rw [m1])⟩
/-- both read the text: they find the same fault, or tell the same -/
theorem iv_read (h : ivA Nc Lc Nm Lm) : ∃ r N1 M1, fX4_findFault 1 Nc = some (r, N1) ∧ ivA N1 Lc M1 Lm ∧ (∀ a, a < 9 ∨ 18 ≤ a → N1 a = Nc a) ∧
    ((∃ x, x ≤ 200 ∧ r = nI x ∧ fX12_reads (0 : Int32) Nm = some (0, M1) ∧ M1 0 16 = nI x) ∨
     (∃ c D, r = -1 ∧ fX12_reads (0 : Int32) Nm = some (1, M1) ∧ N1 9 1 = nI c ∧ dCl N1 10 D ∧ dBd D ∧ M1 0 22 = nI c ∧
        ∃ M2 M3, fX12_copyRow (231 : Int32) (0 : Int32) M1 = some M2 ∧ fX12_reads (1 : Int32) M2 = some (1, M3) ∧ M3 0 22 = nI c ∧ dMl M3 D ∧ (∀ a, a ≠ 0 → a ≠ 1 → a ≠ 2 → a ≠ 3 → a ≠ 11 → M3 a = Nm a) ∧ (∀ j, j = 6 ∨ j = 9 ∨ j = 12 → M3 0 j = Nm 0 j))) := by
  have h0 := h
  obtain ⟨nd, ln, lo, hi, of, os, oa, op, me, so, pl, br, cu, hG, hS, ⟨tm, ts, ta, t⟩, s, ⟨lt, tx, xx⟩, w, r, k, hh⟩ := h0
  obtain ⟨⟨p1, p2⟩, ⟨o1, o2, o3⟩, ⟨s1, s2, s3⟩, f1, f2, f3⟩ := hG
  obtain ⟨x1, x2, x3, x4⟩ := xx
  have tc : txC Nc lt tx := ⟨x1, x2, fun k hk => ⟨(x4 k hk).1, (x4 k hk).2.2⟩⟩
  have tmm : txM Nm lt tx := ⟨x1, x3, fun k hk => ⟨(x4 k hk).2.1, (x4 k hk).2.2⟩⟩
  have dc := dCl_of p1 o2 t
  have db := dBd_of p1 o1 t
  obtain ⟨D, hD⟩ : ∃ D : drT, D = ((nd, ln, tm, of), (lo, hi), (ts, ta), (os, oa, op)) := ⟨_, rfl⟩
  rw [← hD] at dc db
  have d1 : dNd D = nd := by rw [hD]; rfl
  have d2 : dLn D = ln := by rw [hD]; rfl
  have d3 : dOf D = of := by rw [hD]; rfl
  have d4 : dTm D = tm := by rw [hD]; rfl
  obtain ⟨r1, N1, a0, a1, a2⟩ := cc_findFault tc dc db
  obtain ⟨r2, M1, b0, b1, b2⟩ := lm_reads (dg := 0) (by decide) tmm w (by rw [d1]; exact p2.1) (by rw [d2]; exact p2.2.1) (by rw [d3]; exact o3.1) (by rw [d4]; exact t.2.2.1) db (fun z => by cases z)
  have b0 : fX12_reads (0 : Int32) Nm = some (r2, M1) := b0
  have mf : ∀ a, a ≠ 0 → a ≠ 11 → M1 a = Nm a := fun a z1 z2 => b1.1 a z1 z2 (fun z => by cases z)
  have mf0 : ∀ j, j < 16 → M1 0 j = Nm 0 j := fun j hj => b1.2.1 j hj (fun z => by cases z)
  have hi1 : ivA N1 Lc M1 Lm := ivA_rd h a1.1 a1.2 mf mf0
  refine ⟨r1, N1, M1, a0, hi1, a1.1, ?_⟩
  cases hp : paS lt tx 24 0 0 D with
  | inl x =>
    rw [hp] at a2 b2
    obtain ⟨e1, e2⟩ := a2.1 x rfl
    obtain ⟨e3, e4⟩ := b2.1 x rfl
    exact Or.inl ⟨x, by omega, e1, by rw [b0, e3], e4⟩
  | inr y =>
    rw [hp] at a2 b2
    obtain ⟨e1, e2, e3, e4⟩ := a2.2 y rfl
    obtain ⟨e5, e6, _, _⟩ := b2.2 y rfl
    obtain ⟨M2, c0, c1, c2, c3⟩ := lm_copyRow M1 (a := 231) (b := 0) (by decide) (by decide) (by decide)
    have q0 : ∀ j, j < 16 → M2 0 j = Nm 0 j := fun j hj => by rw [c1 0 (by decide)]; exact mf0 j hj
    have qx : ∀ a, a ≠ 0 → a ≠ 1 → a ≠ 11 → M2 a = Nm a := fun a z0 z1 z2 => by rw [c1 a z1]; exact mf a z0 z2
    have dm : dMl M2 D := by
      refine ⟨⟨by rw [q0 1 (by decide), d1]; exact p2.1, by rw [q0 2 (by decide), d2]; exact p2.2.1, by rw [q0 4 (by decide), d3]; exact o3.1⟩, fun k hk => ?_, fun k hk => ?_, ?_⟩
      · rw [qx 2 (by decide) (by decide) (by decide), hD]; rw [d2] at hk; exact ⟨(p2.2.2.2 k hk).1, (p2.2.2.2 k hk).2.1⟩
      · rw [qx 3 (by decide) (by decide) (by decide), hD]; rw [d3] at hk; exact o3.2 k hk
      · rw [hD]
        exact stM_mv t.2.2 t.1.1.1 (fun k hk => by rw [c2 k hk, mf 1 (by decide) (by decide)])
    obtain ⟨r3, M3, g0, g1, g2⟩ := lm_reads (dg := 1) (lt := lt) (tx := tx) (N := M2) (D := D) (by decide) ⟨x1, by rw [q0 9 (by decide)]; exact x3, fun k hk => by rw [qx 5 (by decide) (by decide) (by decide)]; exact tmm.2.2 k hk⟩ (fun k hk => by rw [qx 12 (by decide) (by decide) (by decide)]; exact w k hk) dm.1.1 dm.1.2.1 dm.1.2.2 (by rw [c3 231 (by decide), mf 1 (by decide) (by decide), d4]; exact t.2.2.1) db (fun _ => dm)
    have g0 : fX12_reads (1 : Int32) M2 = some (r3, M3) := g0
    rw [hp] at g2
    obtain ⟨e7, e8, e9, _⟩ := g2.2 y rfl
    refine Or.inr ⟨y.1, y.2, e1, by rw [b0, e5], e2, e3, e4, e6, M2, M3, c0, by rw [g0, e7], e8, e9 rfl, fun a z0 z1 z2 z3 z11 => ?_, fun j hj => ?_⟩
    · rw [g1.1 a z0 z11 (fun _ => ⟨z1, z2, z3⟩)]; exact qx a z0 z1 z11
    · rw [g1.2.1 j (by omega) (fun _ => by omega)]; exact q0 j (by omega)
theorem iv_fault (h : ivA Nc Lc Nm Lm) : ∃ r Nc' Nm', fX11_fault Nc = some (r, Nc') ∧ fX12_fault Nm = some (r, Nm') ∧ ivA Nc' Lc Nm' Lm := by
  obtain ⟨r, N1, M1, a0, a1, _, ⟨x, a2, a3, a4, a5⟩ | ⟨c, D, a3, a4, _⟩⟩ := iv_read h
  · refine ⟨r, N1, M1, ?_, ?_, a1⟩
    · unfold fX11_fault; rw [a0]; rfl
    · unfold fX12_fault; rw [a4, Option.bind_some, if_pos rfl, a3]
      show some (M1 0 16, M1) = _
      rw [a5]
  · refine ⟨r, N1, M1, ?_, ?_, a1⟩
    · unfold fX11_fault; rw [a0]; rfl
    · unfold fX12_fault; rw [a4, Option.bind_some, if_neg (show ¬ (1 : Int32) = 0 from by decide), a3]; rfl
end GRI
