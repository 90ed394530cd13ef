/-! counts -/
section CNT
variable {Nc Nm : ux_N} {Lc Lm : ux_L}
theorem iv_count (h : ivA Nc Lc Nm Lm) (x : Int32) : ∃ r Nc' Nm' Lm', fX11_count x Nc = some (r, Nc') ∧ fX12_count x Nm Lm = some (r, Nm', Lm') ∧ ivA Nc' Lc Nm' Lm' := by
  have h0 := h
  obtain ⟨nd, ln, lo, hi, of, os, oa, op, me, so, pl, br, cu, hG, hS, hR⟩ := h0
  have hG0 := hG
  obtain ⟨⟨p1, p2⟩, ⟨o1, o2, o3⟩, ⟨s1, s2, s3⟩, f1, f2, f3⟩ := hG
  have l10 := p1.2.2.1.2.2
  have same : ∀ r, fX11_count x Nc = some (r, Nc) → fX12_count x Nm Lm = some (r, Nm, Lm) → ∃ r Nc' Nm' Lm', fX11_count x Nc = some (r, Nc') ∧ fX12_count x Nm Lm = some (r, Nm', Lm') ∧ ivA Nc' Lc Nm' Lm' := fun r g1 g2 => ⟨r, Nc, Nm, Lm, g1, g2, h⟩
  obtain ⟨⟨tm, ts, ta, t⟩, ⟨sz, sa, sl, q1, q2, q3⟩, ⟨lt, tx, xx⟩, w, r, k, hh⟩ := id hR
  obtain ⟨hs, hs8, hh1, hh2⟩ := hi_size hh
  by_cases k0 : x = 0
  · refine same (nI nd) ?_ ?_
    · unfold fX11_count; rw [if_pos k0, show Nc 1 0 = nI nd from p1.1]
    · unfold fX12_count; rw [if_pos k0, show Nm 0 1 = nI nd from p2.1]
  by_cases k1 : x = 1
  · refine same (nI ln) ?_ ?_
    · unfold fX11_count; rw [if_neg k0, if_pos k1, show Nc 1 1 = nI ln from p1.2.1]
    · unfold fX12_count; rw [if_neg k0, if_pos k1, show Nm 0 2 = nI ln from p2.2.1]
  by_cases k2 : x = 2
  · refine same (nI me) ?_ ?_
    · unfold fX11_count; rw [if_neg k0, if_neg k1, if_pos k2, show Nc 19 0 = nI me from s2.1]
    · unfold fX12_count; rw [if_neg k0, if_neg k1, if_pos k2, show Nm 1 0 = nI me from s3.1]
  by_cases k3 : x = 3
  · refine same (nI of) ?_ ?_
    · unfold fX11_count; rw [if_neg k0, if_neg k1, if_neg k2, if_pos k3, show Nc 1 3 = nI of from o2.1]
    · unfold fX12_count; rw [if_neg k0, if_neg k1, if_neg k2, if_pos k3, show Nm 0 4 = nI of from o3.1]
  by_cases k4 : x = 4
  · obtain ⟨L1, a0, a1, a2⟩ := lm_rank p2 s1 s3 f3 f2
    refine ⟨nI (rkS ln lo hi me so pl br cu), Nc, Nm, L1, ?_, ?_, iv_askM hG0 hS hR (fun _ _ _ => rfl) rfl rfl a1⟩
    · unfold fX11_count; rw [if_neg k0, if_neg k1, if_neg k2, if_neg k3, if_pos k4, hS.1.1]
    · unfold fX12_count; rw [if_neg k0, if_neg k1, if_neg k2, if_neg k3, if_pos k4, a0]; rfl
  by_cases k5 : x = 5
  · obtain ⟨M1, m0, m1⟩ := lm_wholeRank p2 s1 s3
    refine ⟨nI (gq_mg lo hi (bsN (fun l => !cu.testBit l) ln) ln), Nc, M1, Lm, ?_, ?_, iv_askM hG0 hS hR (fun a h14 _ => m1 a h14) rfl rfl (fun _ _ => rfl)⟩
    · unfold fX11_count; rw [if_neg k0, if_neg k1, if_neg k2, if_neg k3, if_neg k4, if_pos k5, hS.1.2.1]
    · unfold fX12_count; rw [if_neg k0, if_neg k1, if_neg k2, if_neg k3, if_neg k4, if_pos k5, m0]; rfl
  by_cases k6 : x = 6
  · obtain ⟨L1, a0, a1, a2⟩ := lm_tree p2 s1 s3 f3 f2
    refine ⟨nI (trS ln lo hi me so pl br cu), Nc, Nm, L1, ?_, ?_, iv_askM hG0 hS hR (fun _ _ _ => rfl) rfl rfl a1⟩
    · unfold fX11_count; rw [if_neg k0, if_neg k1, if_neg k2, if_neg k3, if_neg k4, if_neg k5, if_pos k6, hS.1.2.2.1]
    · unfold fX12_count; rw [if_neg k0, if_neg k1, if_neg k2, if_neg k3, if_neg k4, if_neg k5, if_pos k6, a0]; rfl
  by_cases k7 : x = 7
  · obtain ⟨N1, a0, a1, a2, a3, a4⟩ := cc_learnServers l10 s1 s2 hS.1 hS.2.1
    obtain ⟨N2, L2, b0, b1, b2⟩ := lm_spare p2 s1 s3 f3 f2
    refine ⟨nI (spB (rcS ln lo hi so pl br cu) me (trS ln lo hi me so pl br cu) (whB me br) 10), N1, N2, L2, ?_, ?_, iv_ask hG0 hR (fun a ha => a1 a (by omega) (by omega) (by omega) (by omega) (by omega)) rfl (fun a _ h17 => b1 a h17) b2 (ivS_learn hS a1 a2 a3 a4)⟩
    · unfold fX11_count fX6_spares; rw [if_neg k0, if_neg k1, if_neg k2, if_neg k3, if_neg k4, if_neg k5, if_neg k6, if_pos k7, a0, Option.bind_some, a4.2.2]; rfl
    · unfold fX12_count; rw [if_neg k0, if_neg k1, if_neg k2, if_neg k3, if_neg k4, if_neg k5, if_neg k6, if_pos k7, b0]; rfl
  by_cases k8 : x = 8
  · refine same (nI br) ?_ ?_
    · unfold fX11_count; rw [if_neg k0, if_neg k1, if_neg k2, if_neg k3, if_neg k4, if_neg k5, if_neg k6, if_neg k7, if_pos k8, show Nc 19 1 = nI br from s2.2.1]
    · unfold fX12_count; rw [if_neg k0, if_neg k1, if_neg k2, if_neg k3, if_neg k4, if_neg k5, if_neg k6, if_neg k7, if_pos k8, show Nm 1 1 = nI br from s3.2.1]
  by_cases k9 : x = 9
  · refine same (nI sz) ?_ ?_
    · unfold fX11_count; rw [if_neg k0, if_neg k1, if_neg k2, if_neg k3, if_neg k4, if_neg k5, if_neg k6, if_neg k7, if_neg k8, if_pos k9, q2.1]
    · unfold fX12_count; rw [if_neg k0, if_neg k1, if_neg k2, if_neg k3, if_neg k4, if_neg k5, if_neg k6, if_neg k7, if_neg k8, if_pos k9, q3.1]
  by_cases k10 : x = 10
  · obtain ⟨v, a0, a1⟩ := tr_things r
    refine same v ?_ ?_
    · unfold fX11_count; rw [if_neg k0, if_neg k1, if_neg k2, if_neg k3, if_neg k4, if_neg k5, if_neg k6, if_neg k7, if_neg k8, if_neg k9, if_pos k10, a0]; rfl
    · unfold fX12_count; rw [if_neg k0, if_neg k1, if_neg k2, if_neg k3, if_neg k4, if_neg k5, if_neg k6, if_neg k7, if_neg k8, if_neg k9, if_pos k10, a1]; rfl
  by_cases k11 : x = 11
  · refine same (nI hs) ?_ ?_
    · unfold fX11_count; rw [if_neg k0, if_neg k1, if_neg k2, if_neg k3, if_neg k4, if_neg k5, if_neg k6, if_neg k7, if_neg k8, if_neg k9, if_neg k10, if_pos k11, hh1]
    · unfold fX12_count; rw [if_neg k0, if_neg k1, if_neg k2, if_neg k3, if_neg k4, if_neg k5, if_neg k6, if_neg k7, if_neg k8, if_neg k9, if_neg k10, if_pos k11, hh2]
  by_cases k12 : x = 12
  · refine same (nI lt) ?_ ?_
    · unfold fX11_count; rw [if_neg k0, if_neg k1, if_neg k2, if_neg k3, if_neg k4, if_neg k5, if_neg k6, if_neg k7, if_neg k8, if_neg k9, if_neg k10, if_neg k11, if_pos k12, xx.2.1]
    · unfold fX12_count; rw [if_neg k0, if_neg k1, if_neg k2, if_neg k3, if_neg k4, if_neg k5, if_neg k6, if_neg k7, if_neg k8, if_neg k9, if_neg k10, if_neg k11, if_pos k12, xx.2.2.1]
  by_cases k13 : x = 13
  · obtain ⟨L1, a0, a1, a2⟩ := lm_rank p2 s1 s3 f3 f2
    refine ⟨nI nd - nI (rkS ln lo hi me so pl br cu), Nc, Nm, L1, ?_, ?_, iv_askM hG0 hS hR (fun _ _ _ => rfl) rfl rfl a1⟩
    · unfold fX11_count; rw [if_neg k0, if_neg k1, if_neg k2, if_neg k3, if_neg k4, if_neg k5, if_neg k6, if_neg k7, if_neg k8, if_neg k9, if_neg k10, if_neg k11, if_neg k12, if_pos k13, hS.1.1, show Nc 1 0 = nI nd from p1.1]
    · unfold fX12_count; rw [if_neg k0, if_neg k1, if_neg k2, if_neg k3, if_neg k4, if_neg k5, if_neg k6, if_neg k7, if_neg k8, if_neg k9, if_neg k10, if_neg k11, if_neg k12, if_pos k13, a0, show Nm 0 1 = nI nd from p2.1]; rfl
  refine same (-3) ?_ ?_
  · unfold fX11_count; rw [if_neg k0, if_neg k1, if_neg k2, if_neg k3, if_neg k4, if_neg k5, if_neg k6, if_neg k7, if_neg k8, if_neg k9, if_neg k10, if_neg k11, if_neg k12, if_neg k13]
  · unfold fX12_count; rw [if_neg k0, if_neg k1, if_neg k2, if_neg k3, if_neg k4, if_neg k5, if_neg k6, if_neg k7, if_neg k8, if_neg k9, if_neg k10, if_neg k11, if_neg k12, if_neg k13]
end CNT
