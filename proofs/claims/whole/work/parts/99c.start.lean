/-! the two new objects stand for the same -/
def nM0 : ux_N := ux_u (ux_u (ux_u (ux_u (ux_u (ux_u (mk_N lX12 posM) 0 1 3) 0 2 (0 : Int32)) 0 4 (0 : Int32)) 1 0 (0 : Int32)) 1 1 (0 : Int32)) 1 2 (0 : Int32)
theorem fz_0 : ∀ t, t < 3 → mk_N lX11 posC (111 + 3 * t) 0 = 0 ∧ mk_N lX11 posC (111 + 3 * t) 1 = 0 ∧ nM0 8 t = -1 := by decide +kernel
theorem fz_1 : ∀ k, k < 2 → mk_N lX11 posC 29 k = 0 ∧ nM0 4 k = 0 := by decide +kernel
theorem fz_2 : ∀ k, k < 40 → nM0 12 k = nI (wrd k) := by decide +kernel
theorem fz_3 : ∀ l, l < 6 → ∀ j, j < 64 → lb (mk_Lg lX12 posM 16 l) j = !j.testBit l := by decide +kernel
theorem iv_init : ∃ o p q r, fX6_learnForests (mk_N lX11 posC) (mk_Lg lX11 posC) = some o ∧ fX6_refresh o.1 o.2 = some p ∧ fX12_anew 3 (mk_N lX12 posM) = some q ∧ fX12_layForests q (mk_Lg lX12 posM) = some r ∧ ivA p.2.1 p.2.2 r.1 r.2 := by
  have p0 : plC (mk_N lX11 posC) 1 3 0 (fun _ => 0) (fun _ => 0) := ⟨by decide +kernel, by decide +kernel, by decide, fun k hk => by omega⟩
  obtain ⟨N8, L8, l0, l1, l2, l3⟩ := lc_learn (L := mk_Lg lX11 posC) p0
  have p8 : plC N8 1 3 0 (fun _ => 0) (fun _ => 0) := plC_fr p0 (fun a h1 h2 => l1 a (by omega))
  have b0 : stB 3 0 0 (fun _ => 0) (fun _ => 0) 0 0 := ⟨by decide, fun m hm => by omega⟩
  have s0 : stC (mk_N lX11 posC) 19 0 (fun _ => 0) (fun _ => 0) 0 0 := ⟨by decide +kernel, by decide +kernel, by decide +kernel, fun m hm => by omega⟩
  have s8 : stC N8 19 0 (fun _ => 0) (fun _ => 0) 0 0 := stC_fr s0 (fun a h1 h2 => l1 a (by omega))
  obtain ⟨N9, L9, r0, r1, r2, r3, r4, r5, r6⟩ := cc_refresh p8 b0 s8 l3
  have x9 : ∀ a, a ≠ 33 → a ≠ 34 → a ≠ 101 → a < 78 ∨ 100 ≤ a → N9 a = mk_N lX11 posC a := fun a h1 h2 h3 h4 => (r1 a h1 h2 h3).trans (l1 a h4)
  have m0 : plM nM0 3 0 (fun _ => 0) (fun _ => 0) := ⟨by decide +kernel, by decide +kernel, by decide, fun k hk => by omega⟩
  obtain ⟨M5, L5, g0, g1, g2, g3⟩ := lm_layForests (L := mk_Lg lX12 posM) m0
  have y0 := g1 0 (by decide)
  have y1 := g1 1 (by decide)
  refine ⟨(N8, L8), (nI (rkS 0 (fun _ => 0) (fun _ => 0) 0 (fun _ => 0) (fun _ => 0) 0 0), N9, L9), nM0, (M5, L5), l0, r0, rfl, g0, 3, 0, (fun _ => 0), (fun _ => 0), 0, (fun _ => 0), (fun _ => 0), (fun _ => 0), 0, (fun _ => 0), (fun _ => 0), 0, 0, ⟨⟨?_, ?_⟩, ⟨⟨?_, ?_⟩, ⟨?_, ?_⟩, ⟨?_, ?_⟩⟩, ⟨b0, ?_, ?_⟩, ?_, ?_, ?_⟩, ⟨r3, Or.inl r4, Or.inl r5, Or.inl r6⟩, ⟨0, (fun _ => 0), (fun _ => 0), b0, ⟨?_, ?_⟩, ?_⟩, ⟨0, (fun _ => 0), (fun _ => 0), ⟨?_, ?_⟩, ⟨?_, ?_⟩, ⟨?_, ?_⟩⟩, ⟨0, (fun _ => 0), ?_, ?_, ?_, ?_⟩, fun k hk => ?_, fun t ht => Or.inl ⟨?_, ?_, ?_⟩, fun k hk => ⟨?_, Or.inl ?_⟩, ?_⟩
  · exact plC_fr p0 (fun a h1 h2 => x9 a (by omega) (by omega) (by omega) (by omega))
  · exact plM_fr2 m0 (congrFun y0 1) (congrFun y0 2) (g1 2 (by decide))
  · exact Nat.zero_le _
  · exact fun o ho => by omega
  · show N9 1 3 = nI 0
    rw [x9 1 (by decide) (by decide) (by decide) (by decide)]; decide +kernel
  · exact fun o ho => by omega
  · show M5 0 4 = nI 0
    rw [y0]; decide +kernel
  · exact fun o ho => by omega
  · exact stC_fr s0 (fun a h1 h2 => x9 a (by omega) (by omega) (by omega) (by omega))
  · refine ⟨?_, ?_, ?_, fun m hm => by omega⟩
    · show M5 1 0 = nI 0
      rw [y1]; decide +kernel
    · show M5 1 (0 + 1) = nI 0
      rw [y1]; decide +kernel
    · show M5 1 (0 + 2) = nI 0
      rw [y1]; decide +kernel
  · exact foC_fr l3 (r2 36 (by decide) (by decide))
  · exact g3
  · exact wiM_fr fz_3 (g2 16 (by decide))
  · show N9 1 2 = nI 0
    rw [x9 1 (by decide) (by decide) (by decide) (by decide)]; decide +kernel
  · exact fun k hk => by omega
  · refine ⟨?_, ?_, ?_, fun m hm => by omega⟩
    · show M5 1 231 = nI 0
      rw [y1]; decide +kernel
    · show M5 1 (231 + 1) = nI 0
      rw [y1]; decide +kernel
    · show M5 1 (231 + 2) = nI 0
      rw [y1]; decide +kernel
  · exact Nat.zero_le _
  · exact fun k hk => by omega
  · show N9 107 0 = nI 0
    rw [x9 107 (by decide) (by decide) (by decide) (by decide)]; decide +kernel
  · exact fun k hk => by omega
  · show M5 0 12 = nI 0
    rw [y0]; decide +kernel
  · exact fun k hk => by omega
  · exact Nat.zero_le _
  · show N9 9 0 = nI 0
    rw [x9 9 (by decide) (by decide) (by decide) (by decide)]; decide +kernel
  · show M5 0 9 = nI 0
    rw [y0]; decide +kernel
  · exact fun k hk => by omega
  · show M5 12 k = nI (wrd k)
    rw [g1 12 (by decide)]; exact fz_2 k hk
  · show N9 (111 + 3 * t) 0 = 0
    rw [x9 (111 + 3 * t) (by omega) (by omega) (by omega) (by omega)]; exact (fz_0 t ht).1
  · show N9 (111 + 3 * t) 1 = 0
    rw [x9 (111 + 3 * t) (by omega) (by omega) (by omega) (by omega)]; exact (fz_0 t ht).2.1
  · show M5 8 t = -1
    rw [g1 8 (by decide)]; exact (fz_0 t ht).2.2
  · show N9 29 k = M5 4 k
    rw [x9 29 (by decide) (by decide) (by decide) (by decide), g1 4 (by decide), (fz_1 k hk).1, (fz_1 k hk).2]
  · show N9 29 k = 0
    rw [x9 29 (by decide) (by decide) (by decide) (by decide)]; exact (fz_1 k hk).1
  · refine hi_none ?_ ?_
    · show N9 30 0 = 0
      rw [x9 30 (by decide) (by decide) (by decide) (by decide)]; decide +kernel
    · show M5 0 6 = 0
      rw [y0]; decide +kernel
