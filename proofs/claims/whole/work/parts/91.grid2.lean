section GR2
variable {Nc Nm : ux_N} {Lc Lm : ux_L}
theorem cc_startFrom {N : ux_N} {D : drT} (hd : dCl N 1 D) (hb : dBd D) : ∃ N', fX8_startFrom 19 1 N = some N' ∧ stC N' 19 (dTm D) (dTs D) (dTa D) 0 0 ∧ ∀ a, a < 19 ∨ 22 ≤ a → N' a = N a := by
  have t9 := hb.2.2.1.1.1
  refine ⟨_, rfl, ⟨?_, ?_, ?_, fun m hm => ⟨?_, ?_⟩⟩, fun a ha => ?_⟩
  · rw [cp_ne _ _ _ _ _ _ (by decide), cp_ne _ _ _ _ _ _ (by decide), uu_off _ _ (by decide), uu_off _ _ (by decide), uu_at]; exact hd.1.2.2.1
  · rw [cp_ne _ _ _ _ _ _ (by decide), cp_ne _ _ _ _ _ _ (by decide), uu_off _ _ (by decide), uu_at]; rfl
  · rw [cp_ne _ _ _ _ _ _ (by decide), cp_ne _ _ _ _ _ _ (by decide), uu_at]; rfl
  · rw [cp_ne _ _ _ _ _ _ (by decide), cp_in _ _ _ _ _ _ (Nat.zero_le _) (by omega), uu_ne _ _ _ (by decide), uu_ne _ _ _ (by decide), uu_ne _ _ _ (by decide), Nat.zero_add, Nat.sub_zero]; exact (hd.2.2.1 m hm).1
  · rw [cp_in _ _ _ _ _ _ (Nat.zero_le _) (by omega), cp_ne _ _ _ _ _ _ (by decide), uu_ne _ _ _ (by decide), uu_ne _ _ _ (by decide), uu_ne _ _ _ (by decide), Nat.zero_add, Nat.sub_zero]; exact (hd.2.2.1 m hm).2
  · rw [cp_ne _ _ _ _ _ _ (by omega), cp_ne _ _ _ _ _ _ (by omega), uu_ne _ _ _ (by omega), uu_ne _ _ _ (by omega), uu_ne _ _ _ (by omega)]
theorem cc_kept0 (N : ux_N) (L : ux_L) : ux_lp (fun s : Int32 × ux_N => fX11_grid_61b s.1 s.2 L) ux_fu ((0 : Int32), N) = some (ux_u (ux_u N 29 0 0) 29 1 0) := by
  refine lp_at (fun i => match i with | 0 => (nI 0, N) | 1 => (nI 1, ux_u N 29 0 0) | _ => (nI 2, ux_u (ux_u N 29 0 0) 29 1 0)) 2 rfl (by decide) (fun i hi => ?_) rfl
  rcases (show i = 0 ∨ i = 1 by omega) with rfl | rfl
  · show fX11_grid_61b (nI 0) N L = _
    unfold fX11_grid_61b
    rw [if_neg (by decide), pb_in (by decide) (by decide), if_pos rfl, nI_clamp (by decide), nar_0]; rfl
  · show fX11_grid_61b (nI 1) (ux_u N 29 0 0) L = _
    unfold fX11_grid_61b
    rw [if_neg (by decide), pb_in (by decide) (by decide), if_pos rfl, nI_clamp (by decide), nar_0]; rfl
theorem cc_trays0 (N : ux_N) (L : ux_L) : ∃ N', ux_lp (fun s : Int32 × ux_N => fX11_grid_81b s.1 s.2 L) ux_fu ((0 : Int32), N) = some N' ∧ ((∀ a, a < 111 ∨ 120 ≤ a → N' a = N a) ∧ ∀ t, t < 3 → N' (111 + 3 * t) 0 = 0 ∧ N' (111 + 3 * t) 1 = 0) := by
  refine lp_inv (fun i s => s.1 = nI i ∧ (∀ a, a < 111 ∨ 120 ≤ a → s.2 a = N a) ∧ ∀ t, t < i → s.2 (111 + 3 * t) 0 = 0 ∧ s.2 (111 + 3 * t) 1 = 0) _ 3 ⟨rfl, fun _ _ => rfl, fun t ht => by omega⟩ (by decide) ?_ ?_
  · intro i ⟨v, N1⟩ hk ⟨e, g1, g2⟩
    dsimp only at e g1 g2 ⊢
    subst e
    refine Or.inl ⟨(nI (i + 1), ux_u (ux_u N1 (111 + 3 * i) 0 0) (111 + 3 * i) 1 0), ?_, rfl, fun a ha => ?_, fun t ht => ?_⟩
    · unfold fX11_grid_81b fX9_remove
      rw [if_neg (fun w => by have := (nI_leI (a := 3) (by decide) (by omega)).mp w; omega), pb_in hk (by decide), if_pos rfl, nI_clamp (by omega), show nI i + 1 = nI (i + 1) from nI_add i 1]; rfl
    · dsimp only
      rw [uu_ne _ _ _ (by omega), uu_ne _ _ _ (by omega)]; exact g1 a ha
    · dsimp only
      by_cases e : t = i
      · subst e
        exact ⟨by rw [uu_off _ _ (by decide), uu_at], by rw [uu_at]⟩
      · rw [uu_ne _ _ _ (by omega), uu_ne _ _ _ (by omega)]; exact g2 t (by omega)
  · intro ⟨v, N1⟩ ⟨e, g1, g2⟩
    dsimp only at e g1 g2 ⊢
    subst e
    refine ⟨N1, ?_, g1, g2⟩
    unfold fX11_grid_81b
    rw [if_pos (by decide)]
theorem lm_sizes (N : ux_N) (L : ux_L) : ∃ N', ux_lp (fun s : Int32 × ux_N => fX12_grid_63b s.1 s.2 L) ux_fu ((0 : Int32), N) = some N' ∧ ((∀ a, a ≠ 8 → N' a = N a) ∧ ∀ t, t < 3 → N' 8 t = -1) := by
  refine lp_inv (fun i s => s.1 = nI i ∧ (∀ a, a ≠ 8 → s.2 a = N a) ∧ ∀ t, t < i → s.2 8 t = -1) _ 3 ⟨rfl, fun _ _ => rfl, fun t ht => by omega⟩ (by decide) ?_ ?_
  · intro i ⟨v, N1⟩ hk ⟨e, g1, g2⟩
    dsimp only at e g1 g2 ⊢
    subst e
    refine Or.inl ⟨(nI (i + 1), ux_u N1 8 i (-1)), ?_, rfl, fun a ha => ?_, fun t ht => ?_⟩
    · unfold fX12_grid_63b
      rw [if_neg (fun w => by have := (nI_leI (a := 3) (by decide) (by omega)).mp w; omega), pb_in hk (by decide), if_pos rfl, nI_clamp (by omega), show nI i + 1 = nI (i + 1) from nI_add i 1]
    · dsimp only
      rw [uu_ne _ _ _ ha]; exact g1 a ha
    · dsimp only
      by_cases e : t = i
      · subst e; rw [uu_at]
      · rw [uu_off _ _ e]; exact g2 t (by omega)
  · intro ⟨v, N1⟩ ⟨e, g1, g2⟩
    dsimp only at e g1 g2 ⊢
    subst e
    refine ⟨N1, ?_, g1, g2⟩
    unfold fX12_grid_63b
    rw [if_pos (by decide)]
theorem iv_grid (h : ivA Nc Lc Nm Lm) : ∃ r Nc' Lc' Nm' Lm', fX11_grid Nc Lc = some (r, Nc', Lc') ∧ fX12_grid Nm Lm = some (r, Nm', Lm') ∧ ivA Nc' Lc' Nm' Lm' := by
  obtain ⟨r, N1, M1, a0, a1, hn, hr⟩ := iv_read h
  rcases hr with ⟨x, a2, a3, a4, a5⟩ | ⟨c, D, a3, a4, a5, a6, a7, a8, M2, M3, b0, b1, b2, b3, b4, b5⟩
  · refine ⟨-4, N1, Lc, M1, Lm, ?_, ?_, a1⟩
    · unfold fX11_grid
      rw [a0, Option.bind_some, if_neg (show ¬ r = (-1 : Int32) from by rw [a3]; exact pb_m1 (by omega))]
    · unfold fX12_grid
      rw [a4]; rfl
  · obtain ⟨nd, ln, lo, hi, of, os, oa, op, me, so, pl, br, cu, hG1, hS1, hT1, hs1, ⟨lt, tx, xx⟩, w, rr, k, hh⟩ := h
    obtain ⟨N2, c0, c1, c2⟩ := cc_copyP N1 (c0 := 1) (c1 := 10) (by decide) a6 a7
    have c1' : dCl (ux_u N2 9 0 0) 1 D := dC_fr c1 (fun a h1 h2 => uu_ne _ _ _ (by omega))
    obtain ⟨N4, d0, d1, d2⟩ := cc_startFrom c1' a7
    obtain ⟨N7, e0, e1, e2⟩ := cc_trays0 (ux_u (ux_u (ux_u N4 30 0 0) 29 0 0) 29 1 0) Lc
    have x7 : ∀ a, a ≠ 29 → a ≠ 30 → a < 111 ∨ 120 ≤ a → N7 a = N4 a := fun a h1 h2 h3 => by rw [e1 a h3, uu_ne _ _ _ h1, uu_ne _ _ _ h1, uu_ne _ _ _ h2]
    have dc7 : dCl N7 1 D := dC_fr c1' (fun a h1 h2 => by rw [x7 a (by omega) (by omega) (by omega)]; exact d2 a (by omega))
    have p7 := plC_of dc7 a7
    obtain ⟨N8, L8, l0, l1, l2, l3⟩ := lc_learn (L := Lc) p7
    have x8 : ∀ a, a < 78 ∨ 100 ≤ a → N8 a = N7 a := l1
    have st8 : stC N8 19 (dTm D) (dTs D) (dTa D) 0 0 := stC_fr d1 (fun a h1 h2 => by rw [x8 a (by omega)]; exact x7 a (by omega) (by omega) (by omega))
    have p8 : plC N8 1 (dNd D) (dLn D) (dLo D) (dHi D) := plC_fr p7 (fun a h1 h2 => x8 a (by omega))
    obtain ⟨N9, L9, r0, r1, r2, r3, r4, r5, r6⟩ := cc_refresh p8 a7.2.2.1 st8 l3
    have x9 : ∀ a, a ≠ 33 → a ≠ 34 → a < 78 ∨ (100 ≤ a ∧ a ≠ 101) → N9 a = N7 a := fun a h1 h2 h3 => by rw [r1 a h1 h2 (by omega)]; exact x8 a (by omega)
    obtain ⟨M4, f0, f1, f2, f3⟩ := lm_copyRow M3 (a := 0) (b := 231) (by decide) (by decide) (by decide)
    have dm4 : dMl M4 D := ⟨by rw [f1 0 (by decide)]; exact b3.1, by rw [f1 2 (by decide)]; exact b3.2.1, by rw [f1 3 (by decide)]; exact b3.2.2.1, stM_mv b3.2.2.2 a7.2.2.1.1.1 (fun k hk => by rw [Nat.zero_add]; exact f3 k (by omega))⟩
    obtain ⟨M5, L5, g0, g1, g2, g3⟩ := lm_layForests (L := Lm) (plM_of dm4 a7)
    obtain ⟨M7, s0, s1, s2⟩ := lm_sizes (ux_u (ux_u (ux_u (ux_u M5 0 9 0) 0 6 0) 4 0 0) 4 1 0) L5
    have y7 : ∀ a, a ≠ 0 → a ≠ 4 → a ≠ 8 → a ≠ 14 → M7 a = M4 a := fun a h0 h4 h8 h14 => by rw [s1 a h8, uu_ne _ _ _ h4, uu_ne _ _ _ h4, uu_ne _ _ _ h0, uu_ne _ _ _ h0, g1 a h14]
    have y0 : ∀ j, j ≠ 6 → j ≠ 9 → M7 0 j = M3 0 j := fun j h6 h9 => by rw [s1 0 (by decide), uu_ne _ _ _ (by decide), uu_ne _ _ _ (by decide), uu_off _ _ h6, uu_off _ _ h9, g1 0 (by decide), f1 0 (by decide)]
    have y06 : M7 0 6 = 0 := by rw [s1 0 (by decide), uu_ne _ _ _ (by decide), uu_ne _ _ _ (by decide), uu_at]
    have y09 : M7 0 9 = 0 := by rw [s1 0 (by decide), uu_ne _ _ _ (by decide), uu_ne _ _ _ (by decide), uu_off _ _ (by decide), uu_at]
    have y4 : ∀ k, k < 2 → M7 4 k = 0 := fun k hk => by
      rw [s1 4 (by decide)]
      rcases (show k = 0 ∨ k = 1 by omega) with rfl | rfl
      · rw [uu_off _ _ (by decide), uu_at]
      · rw [uu_at]
    have z29 : ∀ k, k < 2 → N9 29 k = 0 := fun k hk => by
      rw [x9 29 (by decide) (by decide) (by decide), e1 29 (by decide)]
      rcases (show k = 0 ∨ k = 1 by omega) with rfl | rfl
      · rw [uu_off _ _ (by decide), uu_at]
      · rw [uu_at]
    have z30 : N9 30 0 = 0 := by rw [x9 30 (by decide) (by decide) (by decide), e1 30 (by decide), uu_ne _ _ _ (by decide), uu_ne _ _ _ (by decide), uu_at]
    have z9 : ∀ j, j ≠ 0 → N9 9 j = N1 9 j := fun j hj => by rw [x9 9 (by decide) (by decide) (by decide), x7 9 (by decide) (by decide) (by decide), d2 9 (by decide), uu_off _ _ hj, c2 9 (by decide)]
    have z90 : N9 9 0 = 0 := by rw [x9 9 (by decide) (by decide) (by decide), x7 9 (by decide) (by decide) (by decide), d2 9 (by decide), uu_at]
    have z1 : ∀ a, 22 ≤ a → a ≠ 29 → a ≠ 30 → a < 33 ∨ (107 ≤ a ∧ a < 111) → N9 a = N1 a := fun a h1 h2 h3 h4 => by rw [x9 a (by omega) (by omega) (by omega), x7 a h2 h3 (by omega), d2 a (by omega), uu_ne _ _ _ (by omega), c2 a (by omega)]
    have dc9 : dCl N9 1 D := dC_fr dc7 (fun a h1 h2 => x9 a (by omega) (by omega) (by omega))
    have dm7 : dMl M7 D := ⟨⟨by rw [y0 1 (by decide) (by decide)]; exact b3.1.1, by rw [y0 2 (by decide) (by decide)]; exact b3.1.2.1, by rw [y0 4 (by decide) (by decide)]; exact b3.1.2.2⟩, by rw [y7 2 (by decide) (by decide) (by decide) (by decide)]; exact dm4.2.1, by rw [y7 3 (by decide) (by decide) (by decide) (by decide)]; exact dm4.2.2.1, stM_fr dm4.2.2.2 (y7 1 (by decide) (by decide) (by decide) (by decide))⟩
    have wi : wiM L5 := wiM_fr hG1.2.2.2.2.2 (g2 16 (by decide))
    obtain ⟨sz, sa, sl, q1, q2, q3⟩ := hs1
    refine ⟨nI c, N9, L9, M7, L5, ?_, ?_, dNd D, dLn D, dLo D, dHi D, dOf D, dOs D, dOa D, dOp D, dTm D, dTs D, dTa D, 0, 0, ⟨⟨plC_of dc9 a7, plM_of dm7 a7⟩, ⟨a7.2.2.2, ofC_of dc9, ofM_of dm7⟩, ⟨a7.2.2.1, stC_fr st8 (fun a h1 h2 => r1 a (by omega) (by omega) (by omega)), dm7.2.2.2⟩, foC_fr l3 (r2 36 (by decide) (by decide)), g3, wi⟩, ⟨r3, Or.inl r4, Or.inl r5, Or.inl r6⟩, ⟨dTm D, dTs D, dTa D, a7.2.2.1, ⟨dc9.1.2.2.1, dc9.2.2.1⟩, stM_mv b3.2.2.2 a7.2.2.1.1.1 (fun k hk => by rw [y7 1 (by decide) (by decide) (by decide) (by decide), f2 k hk])⟩, ?_, ⟨0, tx, Nat.zero_le _, z90, y09, fun k hk => by omega⟩, fun k hk => ?_, fun t ht => Or.inl ⟨?_, ?_, s2 t ht⟩, fun k hk => ⟨by rw [z29 k hk, y4 k hk], Or.inl (z29 k hk)⟩, hi_none z30 y06⟩
    · unfold fX11_grid fX4_empty
      rw [a0, Option.bind_some, if_pos a3]
      show (fX3_copyFrom 1 10 N1).bind _ = _
      rw [c0, Option.bind_some, Option.bind_some]
      show (fX8_startFrom 19 1 (ux_u N2 9 0 0)).bind _ = _
      rw [d0, Option.bind_some, cc_kept0, Option.bind_some, e0, Option.bind_some, l0, Option.bind_some]
      show (fX6_refresh N8 L8).bind _ = _
      rw [r0, Option.bind_some]
      show some (N9 9 1, _, _) = _
      rw [z9 1 (by decide), a5]
    · unfold fX12_grid
      rw [a4, Option.bind_some, if_neg (show ¬ (1 : Int32) = 0 from by decide)]
      show (fX12_copyRow (231 : Int32) (0 : Int32) M1).bind _ = _
      rw [b0, Option.bind_some, b1, Option.bind_some]
      have f0 : fX12_copyRow (0 : Int32) (231 : Int32) M3 = some M4 := f0
      show (fX12_copyRow (0 : Int32) (231 : Int32) M3).bind _ = _
      rw [f0, Option.bind_some, g0, Option.bind_some]
      rw [nar_0]
      show (ux_lp (fun s : Int32 × ux_N => fX12_grid_63b s.1 s.2 L5) ux_fu ((0 : Int32), ux_u (ux_u (ux_u (ux_u M5 0 9 0) 0 6 0) 4 0 0) 4 1 0)).bind _ = _
      rw [s0, Option.bind_some, y0 22 (by decide) (by decide), b2]
    · refine ⟨sz, sa, sl, q1, ?_, ?_⟩
      · unfold seCc
        rw [z1 107 (by decide) (by decide) (by decide) (by decide), z1 108 (by decide) (by decide) (by decide) (by decide), z1 109 (by decide) (by decide) (by decide) (by decide), hn 107 (by decide), hn 108 (by decide), hn 109 (by decide)]
        exact q2
      · unfold seMm
        rw [y0 12 (by decide) (by decide), b5 12 (by omega), y7 6 (by decide) (by decide) (by decide) (by decide), y7 7 (by decide) (by decide) (by decide) (by decide), f1 6 (by decide), f1 7 (by decide), b4 6 (by decide) (by decide) (by decide) (by decide) (by decide), b4 7 (by decide) (by decide) (by decide) (by decide) (by decide)]
        exact q3
    · rw [y7 12 (by decide) (by decide) (by decide) (by decide), f1 12 (by decide), b4 12 (by decide) (by decide) (by decide) (by decide) (by decide)]
      exact w k hk
    · rw [x9 (111 + 3 * t) (by omega) (by omega) (by omega)]; exact (e2 t ht).1
    · rw [x9 (111 + 3 * t) (by omega) (by omega) (by omega)]; exact (e2 t ht).2
end GR2
