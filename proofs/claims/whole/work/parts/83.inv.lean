/-! the invariant that ties the class to the reference -/
def ivG (Nc Nm : ux_N) (Lc Lm : ux_L) (nd ln : Nat) (lo hi : Nat → Nat) (of : Nat) (os oa op : Nat → Nat) (me : Nat) (so pl : Nat → Nat) (br cu : Nat) : Prop :=
  (plC Nc 1 nd ln lo hi ∧ plM Nm nd ln lo hi) ∧ (ofB nd ln of os oa op ∧ ofC Nc 1 of os oa op ∧ ofM Nm of os oa op) ∧ (stB nd ln me so pl br cu ∧ stC Nc 19 me so pl br cu ∧ stM Nm 0 me so pl br cu) ∧ (foC Lc ln lo hi ∧ foM Lm ln lo hi ∧ wiM Lm)
def ivS (Nc : ux_N) (Lc : ux_L) (ln : Nat) (lo hi : Nat → Nat) (of : Nat) (os oa op : Nat → Nat) (me : Nat) (so pl : Nat → Nat) (br cu : Nat) : Prop :=
  siC Nc Lc ln lo hi me so pl br cu ∧ (Nc 33 14 = 0 ∨ (Nc 33 14 = 1 ∧ seC Nc ln lo hi me so pl br cu)) ∧ (Nc 33 15 = 0 ∨ (Nc 33 15 = 1 ∧ Nc 33 16 = wkI (wkS ln lo hi me so pl br cu))) ∧ (Nc 33 17 = 0 ∨ (Nc 33 17 = 1 ∧ Nc 33 18 = wkI (dlS ln lo hi me so pl br cu of os oa op)))
def ivR (Nc Nm : ux_N) (nd ln me : Nat) (so pl : Nat → Nat) (br cu : Nat) : Prop :=
  (∃ tm ts ta, toI nd ln Nc Nm tm ts ta) ∧ seI Nc Nm ∧ (∃ lt tx, txI Nc Nm lt tx) ∧ woI Nm ∧ trA Nc Nm ∧ (∀ k, k < 2 → keI nd ln Nc Nm k) ∧ hiI nd ln me so pl br cu Nc Nm
def ivA (Nc : ux_N) (Lc : ux_L) (Nm : ux_N) (Lm : ux_L) : Prop := ∃ nd ln lo hi of os oa op me so pl br cu, ivG Nc Nm Lc Lm nd ln lo hi of os oa op me so pl br cu ∧ ivS Nc Lc ln lo hi of os oa op me so pl br cu ∧ ivR Nc Nm nd ln me so pl br cu
section INV
variable {Nc Nm Nc' Nm' : ux_N} {Lc Lm Lc' Lm' : ux_L} {nd ln : Nat} {lo hi : Nat → Nat} {of : Nat} {os oa op : Nat → Nat} {me : Nat} {so pl : Nat → Nat} {br cu : Nat}
theorem plM_fr2 (h : plM Nm nd ln lo hi) (e1 : Nm' 0 1 = Nm 0 1) (e2 : Nm' 0 2 = Nm 0 2) (r : Nm' 2 = Nm 2) : plM Nm' nd ln lo hi := by
  unfold plM; rw [e1, e2, r]; exact h
theorem ofM_fr (h : ofM Nm of os oa op) (e4 : Nm' 0 4 = Nm 0 4) (r : Nm' 3 = Nm 3) : ofM Nm' of os oa op := by
  unfold ofM; rw [e4, r]; exact h
theorem ivG_fr (h : ivG Nc Nm Lc Lm nd ln lo hi of os oa op me so pl br cu) (c1 : ∀ a, 1 ≤ a → a ≤ 8 → Nc' a = Nc a) (c2 : ∀ a, 19 ≤ a → a ≤ 21 → Nc' a = Nc a) (l36 : Lc' 36 = Lc 36) (e1 : Nm' 0 1 = Nm 0 1) (e2 : Nm' 0 2 = Nm 0 2) (e4 : Nm' 0 4 = Nm 0 4) (m1 : ∀ k, k < 21 → Nm' 1 k = Nm 1 k) (m2 : Nm' 2 = Nm 2) (m3 : Nm' 3 = Nm 3) (l13 : Lm' 13 = Lm 13) (l16 : Lm' 16 = Lm 16) : ivG Nc' Nm' Lc' Lm' nd ln lo hi of os oa op me so pl br cu := by
  obtain ⟨⟨a1, a2⟩, ⟨b1, b2, b3⟩, ⟨s1, s2, s3⟩, f1, f2, f3⟩ := h
  exact ⟨⟨plC_fr a1 (fun a h1 h2 => c1 a (by omega) (by omega)), plM_fr2 a2 e1 e2 m2⟩, ⟨b1, ofC_fr b2 (fun a h1 h2 => c1 a (by omega) (by omega)), ofM_fr b3 e4 m3⟩, ⟨s1, stC_fr s2 (fun a h1 h2 => c2 a (by omega) (by omega)), stM_mv s3 s1.1.1 (fun k hk => by rw [Nat.zero_add]; exact m1 k hk)⟩, foC_fr f1 l36, foM_fr f2 l13, wiM_fr f3 l16⟩
theorem ivS_fr (h : ivS Nc Lc ln lo hi of os oa op me so pl br cu) (c33 : Nc' 33 = Nc 33) (c34 : Nc' 34 = Nc 34) (c101 : Nc' 101 = Nc 101) (c103 : Nc' 103 = Nc 103) (c104 : Nc' 104 = Nc 104) (c105 : Nc' 105 = Nc 105) (l39 : Lc' 39 = Lc 39) : ivS Nc' Lc' ln lo hi of os oa op me so pl br cu := by
  obtain ⟨⟨a1, a2, a3, a4, a5, a6⟩, b, c, d⟩ := h
  refine ⟨⟨by rw [c33]; exact a1, by rw [c33]; exact a2, by rw [c33]; exact a3, by rw [c34]; exact a4, by rw [c101]; exact a5, fun s hs => ?_⟩, ?_, by rw [c33]; exact c, by rw [c33]; exact d⟩
  · show fm (Lc' 39) s = true ↔ _
    rw [l39]; exact a6 s hs
  · unfold seC
    rw [c33, c104, c105, c103]; exact b
theorem ivR_fr (h : ivR Nc Nm nd ln me so pl br cu) (c : ∀ a, a < 33 ∨ 107 ≤ a → Nc' a = Nc a) (m : ∀ a, a ≠ 14 → a ≠ 17 → Nm' a = Nm a) : ivR Nc' Nm' nd ln me so pl br cu := by
  obtain ⟨⟨tm, ts, ta, t⟩, s, ⟨lt, tx, x⟩, w, r, k, hh⟩ := h
  have m0 := m 0 (by decide) (by decide)
  have m1 := m 1 (by decide) (by decide)
  refine ⟨⟨tm, ts, ta, toI_fr t (by rw [c 1 (by decide)]) (c 4 (by decide)) (c 5 (by decide)) (fun j _ => by rw [m1])⟩, seI_fr s (c 107 (by decide)) (c 108 (by decide)) (c 109 (by decide)) (by rw [m0]) (m 6 (by decide) (by decide)) (m 7 (by decide) (by decide)), ⟨lt, tx, txI_fr x (by rw [c 9 (by decide)]) (c 18 (by decide)) (by rw [m0]) (m 5 (by decide) (by decide))⟩, fun k hk => by rw [m 12 (by decide) (by decide)]; exact w k hk, trA_fr r (fun a h1 h2 => c a (by omega)) (m 8 (by decide) (by decide)) (m 9 (by decide) (by decide)) (m 10 (by decide) (by decide)), fun j hj => keI_fr (k j hj) (by rw [c 29 (by decide)]) (fun a h1 h2 => c a (by omega)) (by rw [m 4 (by decide) (by decide)]) (fun i _ => by rw [m1]), hiI_fr hh (by rw [c 30 (by decide)]) (c 31 (by decide)) (c 32 (by decide)) (by rw [m0]) (fun k _ _ => by rw [m1])⟩
/-- a call that only asks -/
theorem iv_ask (hG : ivG Nc Nm Lc Lm nd ln lo hi of os oa op me so pl br cu) (hR : ivR Nc Nm nd ln me so pl br cu) (c : ∀ a, a < 33 ∨ 107 ≤ a → Nc' a = Nc a) (l36 : Lc' 36 = Lc 36) (m : ∀ a, a ≠ 14 → a ≠ 17 → Nm' a = Nm a) (lm : ∀ a, a ≠ 15 → Lm' a = Lm a) (hS : ivS Nc' Lc' ln lo hi of os oa op me so pl br cu) : ivA Nc' Lc' Nm' Lm' := by
  have m0 := m 0 (by decide) (by decide)
  exact ⟨nd, ln, lo, hi, of, os, oa, op, me, so, pl, br, cu, ivG_fr hG (fun a h1 h2 => c a (by omega)) (fun a h1 h2 => c a (by omega)) l36 (by rw [m0]) (by rw [m0]) (by rw [m0]) (fun k _ => by rw [m 1 (by decide) (by decide)]) (m 2 (by decide) (by decide)) (m 3 (by decide) (by decide)) (lm 13 (by decide)) (lm 16 (by decide)), hS, ivR_fr hR c m⟩
theorem iv_askM (hG : ivG Nc Nm Lc Lm nd ln lo hi of os oa op me so pl br cu) (hS : ivS Nc Lc ln lo hi of os oa op me so pl br cu) (hR : ivR Nc Nm nd ln me so pl br cu) (m : ∀ a, a ≠ 14 → a ≠ 17 → Nm' a = Nm a) (lc36 : Lc' 36 = Lc 36) (lc39 : Lc' 39 = Lc 39) (lm : ∀ a, a ≠ 15 → Lm' a = Lm a) : ivA Nc Lc' Nm' Lm' := iv_ask hG hR (fun _ _ => rfl) lc36 m lm (ivS_fr hS rfl rfl rfl rfl rfl rfl lc39)
theorem iv_write (h : ivA Nc Lc Nm Lm) (x : Int32) : ∃ r Nc' Nm', fX11_write x Nc = some (r, Nc') ∧ fX12_write x Nm = some (r, Nm') ∧ ivA Nc' Lc Nm' Lm := by
  obtain ⟨nd, ln, lo, hi, of, os, oa, op, me, so, pl, br, cu, hG, hS, ⟨tm, ts, ta, t⟩, s, ⟨lt, tx, xx⟩, w, r, k, hh⟩ := h
  obtain ⟨r1, Nc', Nm', lt', tx', e1, e2, e3, e4, e5, e6, e7⟩ := tx_write xx x
  refine ⟨r1, Nc', Nm', e1, e2, nd, ln, lo, hi, of, os, oa, op, me, so, pl, br, cu, ivG_fr hG (fun a h1 h2 => e4 a (by omega) (by omega)) (fun a h1 h2 => e4 a (by omega) (by omega)) rfl (e7 1 (by decide)) (e7 2 (by decide)) (e7 4 (by decide)) (fun k _ => by rw [e5 1 (by decide) (by decide)]) (e5 2 (by decide) (by decide)) (e5 3 (by decide) (by decide)) rfl rfl, ivS_fr hS (e4 33 (by decide) (by decide)) (e4 34 (by decide) (by decide)) (e4 101 (by decide) (by decide)) (e4 103 (by decide) (by decide)) (e4 104 (by decide) (by decide)) (e4 105 (by decide) (by decide)) rfl, ⟨tm, ts, ta, toI_fr t (by rw [e4 1 (by decide) (by decide)]) (e4 4 (by decide) (by decide)) (e4 5 (by decide) (by decide)) (fun j _ => by rw [e5 1 (by decide) (by decide)])⟩, seI_fr s (e4 107 (by decide) (by decide)) (e4 108 (by decide) (by decide)) (e4 109 (by decide) (by decide)) (e7 12 (by decide)) (e5 6 (by decide) (by decide)) (e5 7 (by decide) (by decide)), ⟨lt', tx', e3⟩, fun k hk => by rw [e5 12 (by decide) (by decide)]; exact w k hk, trA_fr r (fun a h1 h2 => e4 a (by omega) (by omega)) (e5 8 (by decide) (by decide)) (e5 9 (by decide) (by decide)) (e5 10 (by decide) (by decide)), fun j hj => keI_fr (k j hj) (by rw [e4 29 (by decide) (by decide)]) (fun a h1 h2 => e4 a (by omega) (by omega)) (by rw [e5 4 (by decide) (by decide)]) (fun i _ => by rw [e5 1 (by decide) (by decide)]), hiI_fr hh (by rw [e4 30 (by decide) (by decide)]) (e4 31 (by decide) (by decide)) (e4 32 (by decide) (by decide)) (e7 6 (by decide)) (fun k _ _ => by rw [e5 1 (by decide) (by decide)])⟩
theorem iv_erase (h : ivA Nc Lc Nm Lm) : ∃ r Nc' Nm', fX11_erase Nc = some (r, Nc') ∧ fX12_erase Nm = some (r, Nm') ∧ ivA Nc' Lc Nm' Lm := by
  obtain ⟨nd, ln, lo, hi, of, os, oa, op, me, so, pl, br, cu, hG, hS, ⟨tm, ts, ta, t⟩, s, ⟨lt, tx, xx⟩, w, r, k, hh⟩ := h
  obtain ⟨e1, e2, e3⟩ := tx_erase xx
  have e4 : ∀ a, a ≠ 9 → ux_u Nc 9 0 0 a = Nc a := fun a ha => uu_ne _ _ _ ha
  have e5 : ∀ a, a ≠ 0 → ux_u Nm 0 9 0 a = Nm a := fun a ha => uu_ne _ _ _ ha
  have e7 : ∀ j, j ≠ 9 → ux_u Nm 0 9 0 0 j = Nm 0 j := fun j hj => uu_off _ _ hj
  refine ⟨nI lt, _, _, e1, e2, nd, ln, lo, hi, of, os, oa, op, me, so, pl, br, cu, ivG_fr hG (fun a h1 h2 => e4 a (by omega)) (fun a h1 h2 => e4 a (by omega)) rfl (e7 1 (by decide)) (e7 2 (by decide)) (e7 4 (by decide)) (fun k _ => by rw [e5 1 (by decide)]) (e5 2 (by decide)) (e5 3 (by decide)) rfl rfl, ivS_fr hS (e4 33 (by decide)) (e4 34 (by decide)) (e4 101 (by decide)) (e4 103 (by decide)) (e4 104 (by decide)) (e4 105 (by decide)) rfl, ⟨tm, ts, ta, toI_fr t (by rw [e4 1 (by decide)]) (e4 4 (by decide)) (e4 5 (by decide)) (fun j _ => by rw [e5 1 (by decide)])⟩, seI_fr s (e4 107 (by decide)) (e4 108 (by decide)) (e4 109 (by decide)) (e7 12 (by decide)) (e5 6 (by decide)) (e5 7 (by decide)), ⟨0, tx, e3⟩, fun k hk => by rw [e5 12 (by decide)]; exact w k hk, trA_fr r (fun a h1 h2 => e4 a (by omega)) (e5 8 (by decide)) (e5 9 (by decide)) (e5 10 (by decide)), fun j hj => keI_fr (k j hj) (by rw [e4 29 (by decide)]) (fun a h1 h2 => e4 a (by omega)) (by rw [e5 4 (by decide)]) (fun i _ => by rw [e5 1 (by decide)]), hiI_fr hh (by rw [e4 30 (by decide)]) (e4 31 (by decide)) (e4 32 (by decide)) (e7 6 (by decide)) (fun k _ _ => by rw [e5 1 (by decide)])⟩
theorem ivA_se (h : ivA Nc Lc Nm Lm) (s' : seI Nc' Nm') (e4 : ∀ a, a < 107 ∨ 110 ≤ a → Nc' a = Nc a) (e5 : ∀ a, a ≠ 0 → a ≠ 6 → a ≠ 7 → Nm' a = Nm a) (e7 : ∀ j, j ≠ 12 → Nm' 0 j = Nm 0 j) : ivA Nc' Lc Nm' Lm := by
  obtain ⟨nd, ln, lo, hi, of, os, oa, op, me, so, pl, br, cu, hG, hS, ⟨tm, ts, ta, t⟩, s, ⟨lt, tx, xx⟩, w, r, k, hh⟩ := h
  have m1 := e5 1 (by decide) (by decide) (by decide)
  exact ⟨nd, ln, lo, hi, of, os, oa, op, me, so, pl, br, cu, ivG_fr hG (fun a h1 h2 => e4 a (by omega)) (fun a h1 h2 => e4 a (by omega)) rfl (e7 1 (by decide)) (e7 2 (by decide)) (e7 4 (by decide)) (fun k _ => by rw [m1]) (e5 2 (by decide) (by decide) (by decide)) (e5 3 (by decide) (by decide) (by decide)) rfl rfl, ivS_fr hS (e4 33 (by decide)) (e4 34 (by decide)) (e4 101 (by decide)) (e4 103 (by decide)) (e4 104 (by decide)) (e4 105 (by decide)) rfl, ⟨tm, ts, ta, toI_fr t (by rw [e4 1 (by decide)]) (e4 4 (by decide)) (e4 5 (by decide)) (fun j _ => by rw [m1])⟩, s', ⟨lt, tx, txI_fr xx (by rw [e4 9 (by decide)]) (e4 18 (by decide)) (e7 9 (by decide)) (e5 5 (by decide) (by decide) (by decide))⟩, fun k hk => by rw [e5 12 (by decide) (by decide) (by decide)]; exact w k hk, trA_fr r (fun a h1 h2 => e4 a (by omega)) (e5 8 (by decide) (by decide) (by decide)) (e5 9 (by decide) (by decide) (by decide)) (e5 10 (by decide) (by decide) (by decide)), fun j hj => keI_fr (k j hj) (by rw [e4 29 (by decide)]) (fun a h1 h2 => e4 a (by omega)) (by rw [e5 4 (by decide) (by decide) (by decide)]) (fun i _ => by rw [m1]), hiI_fr hh (by rw [e4 30 (by decide)]) (e4 31 (by decide)) (e4 32 (by decide)) (e7 6 (by decide)) (fun k _ _ => by rw [m1])⟩
theorem iv_seen (h : ivA Nc Lc Nm Lm) (x y : Int32) : ∃ r Nc' Nm', fX11_seen x y Nc = some (r, Nc') ∧ fX12_seen x y Nm = some (r, Nm') ∧ ivA Nc' Lc Nm' Lm := by
  have h0 := h
  obtain ⟨nd, ln, lo, hi, of, os, oa, op, me, so, pl, br, cu, hG, hS, _, s, _⟩ := h0
  obtain ⟨r1, Nc', Nm', e1, e2, e3, e4, e5, e6⟩ := se_seen s x y
  exact ⟨r1, Nc', Nm', e1, e2, ivA_se h e3 e4 e5 e6⟩
theorem iv_forget (h : ivA Nc Lc Nm Lm) : ∃ r Nc' Nm', fX11_forget Nc = some (r, Nc') ∧ fX12_forget Nm = some (r, Nm') ∧ ivA Nc' Lc Nm' Lm := by
  have h0 := h
  obtain ⟨nd, ln, lo, hi, of, os, oa, op, me, so, pl, br, cu, hG, hS, _, s, _⟩ := h0
  obtain ⟨r1, e1, e2, e3⟩ := se_forget s
  exact ⟨r1, _, _, e1, e2, ivA_se h e3 (fun a ha => uu_ne _ _ _ (by omega)) (fun a h1 _ _ => uu_ne _ _ _ h1) (fun j hj => uu_off _ _ hj)⟩
theorem ivA_tr {c m : Option (Int32 × ux_N)} (h : ivA Nc Lc Nm Lm) (q : trQ Nc Nm c m) : ∃ r Nc' Nm', c = some (r, Nc') ∧ m = some (r, Nm') ∧ ivA Nc' Lc Nm' Lm := by
  obtain ⟨nd, ln, lo, hi, of, os, oa, op, me, so, pl, br, cu, hG, hS, ⟨tm, ts, ta, t⟩, s, ⟨lt, tx, xx⟩, w, r, k, hh⟩ := h
  obtain ⟨r1, Nc', Nm', e1, e2, e3, e4, e5⟩ := q
  have m1 := e5 1 (by decide) (by decide) (by decide)
  have m0 := e5 0 (by decide) (by decide) (by decide)
  exact ⟨r1, Nc', Nm', e1, e2, nd, ln, lo, hi, of, os, oa, op, me, so, pl, br, cu, ivG_fr hG (fun a h1 h2 => e4 a (by omega)) (fun a h1 h2 => e4 a (by omega)) rfl (by rw [m0]) (by rw [m0]) (by rw [m0]) (fun k _ => by rw [m1]) (e5 2 (by decide) (by decide) (by decide)) (e5 3 (by decide) (by decide) (by decide)) rfl rfl, ivS_fr hS (e4 33 (by decide)) (e4 34 (by decide)) (e4 101 (by decide)) (e4 103 (by decide)) (e4 104 (by decide)) (e4 105 (by decide)) rfl, ⟨tm, ts, ta, toI_fr t (by rw [e4 1 (by decide)]) (e4 4 (by decide)) (e4 5 (by decide)) (fun j _ => by rw [m1])⟩, seI_fr s (e4 107 (by decide)) (e4 108 (by decide)) (e4 109 (by decide)) (by rw [m0]) (e5 6 (by decide) (by decide) (by decide)) (e5 7 (by decide) (by decide) (by decide)), ⟨lt, tx, txI_fr xx (by rw [e4 9 (by decide)]) (e4 18 (by decide)) (by rw [m0]) (e5 5 (by decide) (by decide) (by decide))⟩, fun k hk => by rw [e5 12 (by decide) (by decide) (by decide)]; exact w k hk, e3, fun j hj => keI_fr (k j hj) (by rw [e4 29 (by decide)]) (fun a h1 h2 => e4 a (by omega)) (by rw [e5 4 (by decide) (by decide) (by decide)]) (fun i _ => by rw [m1]), hiI_fr hh (by rw [e4 30 (by decide)]) (e4 31 (by decide)) (e4 32 (by decide)) (by rw [m0]) (fun k _ _ => by rw [m1])⟩
theorem ivA_trA (h : ivA Nc Lc Nm Lm) : trA Nc Nm ∧ ∃ me, me ≤ 9 ∧ Nc 19 0 = nI me ∧ Nm 1 0 = nI me := by
  obtain ⟨nd, ln, lo, hi, of, os, oa, op, me, so, pl, br, cu, ⟨_, _, ⟨s1, s2, s3⟩, _⟩, hS, _, s, _, w, r, k, hh⟩ := h
  exact ⟨r, me, s1.1.1, s2.1, s3.1⟩
theorem iv_tray (h : ivA Nc Lc Nm Lm) (x : Int32) : ∃ r Nc' Nm', fX11_tray x Nc = some (r, Nc') ∧ fX12_tray x Nm = some (r, Nm') ∧ ivA Nc' Lc Nm' Lm := ivA_tr h (tr_tray (ivA_trA h).1 x)
theorem iv_drop (h : ivA Nc Lc Nm Lm) (x : Int32) : ∃ r Nc' Nm', fX11_drop x Nc = some (r, Nc') ∧ fX12_drop x Nm = some (r, Nm') ∧ ivA Nc' Lc Nm' Lm := ivA_tr h (tr_drop (ivA_trA h).1 x)
theorem iv_take (h : ivA Nc Lc Nm Lm) (x y : Int32) : ∃ r Nc' Nm', fX11_take x y Nc = some (r, Nc') ∧ fX12_take x y Nm = some (r, Nm') ∧ ivA Nc' Lc Nm' Lm := ivA_tr h (tr_take (ivA_trA h).1 x y)
theorem iv_lay (h : ivA Nc Lc Nm Lm) (x y z : Int32) : ∃ r Nc' Nm', fX11_lay x y z Nc = some (r, Nc') ∧ fX12_lay x y z Nm = some (r, Nm') ∧ ivA Nc' Lc Nm' Lm := by
  obtain ⟨a, me, b, c, d⟩ := ivA_trA h
  exact ivA_tr h (tr_lay a c d b x y z)
theorem iv_all (h : ivA Nc Lc Nm Lm) (x y : Int32) : ∃ r, fX11_all x y Nc = some r ∧ fX12_all x y Nm = some r := tr_all (ivA_trA h).1 x y
theorem iv_fit (h : ivA Nc Lc Nm Lm) : ∃ r, fX11_fit Nc = some r ∧ fX12_fit Nm = some r := by
  obtain ⟨nd, ln, lo, hi, of, os, oa, op, me, so, pl, br, cu, ⟨⟨p1, p2⟩, _, ⟨s1, s2, s3⟩, _⟩, hS, _, ⟨sz, sa, sl, q1, q2, q3⟩, _⟩ := h
  have c1 := stB_c p2 s1
  refine ⟨_, ?_, lm_fit p2 (by omega) s3.2.2.1 q1 q3⟩
  unfold fX11_fit
  rw [show fX11_openLines Nc = fX6_openLines Nc from rfl, cc_open p1 s2, Option.bind_some, cc_fitting p1 q1 q2]; rfl
theorem iv_askC (h : ivA Nc Lc Nm Lm) : ∃ r, fX11_ask Nc = some r ∧ fX12_ask Nm = some r := by
  obtain ⟨nd, ln, lo, hi, of, os, oa, op, me, so, pl, br, cu, ⟨⟨p1, p2⟩, _, ⟨s1, s2, s3⟩, _⟩, hS, _, ⟨sz, sa, sl, q1, q2, q3⟩, _⟩ := h
  have c1 := stB_c p2 s1
  refine ⟨_, ?_, lm_ask p2 (by omega) s3.2.2.1 q1 q3⟩
  unfold fX11_ask
  rw [show fX11_openLines Nc = fX6_openLines Nc from rfl, cc_open p1 s2, Option.bind_some, cc_best p1 q1 q2]; rfl
end INV
