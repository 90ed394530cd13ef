/-! the whole text as the reference reads it -/
def paT (lt : Nat) (tx : Nat → Nat) (n p : Nat) (D : drT) : Nat ⊕ (Nat × drT) := if tkS lt tx p < lt then (if tx (tkS lt tx p) = 59 then paS lt tx n (tkS lt tx p) (tkE lt tx p) D else .inl (tkS lt tx p)) else .inr (24 - n, D)
theorem paS_l {lt : Nat} {tx : Nat → Nat} {n q p x : Nat} {D : drT} (h : clS lt tx p D = .inl x) : paS lt tx (n + 1) q p D = .inl x := by
  unfold paS; rw [h]
theorem paS_r {lt : Nat} {tx : Nat → Nat} {n q p : Nat} {y : Nat × drT} {D : drT} (h : clS lt tx p D = .inr y) : paS lt tx (n + 1) q p D = paT lt tx n y.1 y.2 := by
  unfold paS; rw [h]; rfl
def rdR (dg : Nat) (N' : ux_N) (r : Int32) (o : Nat ⊕ (Nat × drT)) : Prop := (∀ x, o = .inl x → r = 0 ∧ N' 0 16 = nI x) ∧ ∀ y, o = .inr y → r = 1 ∧ N' 0 22 = nI y.1 ∧ (dg = 1 → dMl N' y.2) ∧ dBd y.2
section MTX
variable {lt : Nat} {tx : Nat → Nat} {dg : Nat}
theorem rdR_l {N' : ux_N} {r : Int32} {x : Nat} (h1 : r = 0) (h2 : N' 0 16 = nI x) : rdR dg N' r (.inl x) := ⟨fun z hz => (by cases hz; exact ⟨h1, h2⟩), fun z hz => (nomatch hz)⟩
theorem rdR_r {N' : ux_N} {r : Int32} {y : Nat × drT} (h1 : r = 1) (h2 : N' 0 22 = nI y.1) (h3 : dg = 1 → dMl N' y.2) (h4 : dBd y.2) : rdR dg N' r (.inr y) := ⟨fun z hz => (nomatch hz), fun z hz => (by cases hz; exact ⟨h1, h2, h3, h4⟩)⟩
theorem rdR_01 {N' : ux_N} {r : Int32} {o : Nat ⊕ (Nat × drT)} (h : rdR dg N' r o) : ux_b r = true := by
  cases o with
  | inl x => rw [(h.1 x rfl).1]; rfl
  | inr y => rw [(h.2 y rfl).1]; rfl
theorem rsI_22 {N : ux_N} {D : drT} {p : Nat} (h : rsI N D lt tx p dg) (v : Int32) : rsI (ux_u N 0 22 v) D lt tx p dg := by
  obtain ⟨a1, a2, ⟨a3, a3'⟩, ⟨a4, a5, a6, a7⟩, a8, a9⟩ := h
  refine ⟨⟨a1.1, ?_, fun k hk => ?_⟩, fun k hk => ?_, ⟨?_, ?_⟩, ⟨?_, ?_, ?_, ?_⟩, ?_, fun z => dMl_fr (a9 z) ?_ ?_ ?_ ?_ ?_ ?_⟩
  · rw [uu_off _ _ (by decide)]; exact a1.2.1
  · rw [uu_ne _ _ _ (by decide)]; exact a1.2.2 k hk
  · rw [uu_ne _ _ _ (by decide)]; exact a2 k hk
  · rw [uu_off _ _ (by decide)]; exact a3
  · rw [uu_off _ _ (by decide)]; exact a3'
  · rw [uu_off _ _ (by decide)]; exact a4
  · rw [uu_off _ _ (by decide)]; exact a5
  · rw [uu_off _ _ (by decide)]; exact a6
  · rw [uu_off _ _ (by decide)]; exact a7
  · rw [uu_off _ _ (by decide)]; exact a8
  · rw [uu_off _ _ (by decide)]
  · rw [uu_off _ _ (by decide)]
  · rw [uu_off _ _ (by decide)]
  · rw [uu_ne _ _ _ (by decide)]
  · rw [uu_ne _ _ _ (by decide)]
  · rw [uu_ne _ _ _ (by decide)]
theorem mFr_22 (N : ux_N) (v : Int32) : mFr dg N (ux_u N 0 22 v) := ⟨fun a h0 _ _ => uu_ne _ _ _ h0, fun j hj _ => uu_off _ _ (by omega), fun k _ => by rw [uu_ne _ _ _ (by decide)]⟩
theorem mFr_rf (N : ux_N) : mFr dg N N := ⟨fun _ _ _ _ => rfl, fun _ _ _ => rfl, fun _ _ => rfl⟩
theorem lm_stop {f : Nat} (hf : 0 < f) (N : ux_N) : ux_lp (fun s : Int32 × ux_N => fX12_reads_60b s.1 s.2) f ((0 : Int32), N) = some ((0 : Int32), N) := by
  obtain ⟨f, rfl⟩ : ∃ g, f = g + 1 := ⟨f - 1, by omega⟩
  show (fX12_reads_60b 0 N).bind _ = _
  unfold fX12_reads_60b
  rw [if_pos rfl]; rfl
theorem lm_readsL (hg : dg < 2) : ∀ (n : Nat), n < 24 → ∀ (f : Nat), n + 2 < f → ∀ (p : Nat) (D : drT) (N : ux_N), rsI N D lt tx p dg → p ≤ lt → dBd D → N 0 22 = nI (24 - n) → ∃ r N', ux_lp (fun s : Int32 × ux_N => fX12_reads_60b s.1 s.2) f ((1 : Int32), N) = some (r, N') ∧ mFr dg N N' ∧ rdR dg N' r (paT lt tx n p D) := by
  intro n
  induction n with
  | zero =>
    intro hn f hf p D N h hp hb h22
    obtain ⟨f, rfl⟩ : ∃ g, f = g + 1 := ⟨f - 1, by omega⟩
    obtain ⟨b1, b2, b3, b4, b5⟩ := tk_b lt tx hp
    have h200 := h.1.1
    have go : ∀ o, fX12_reads_60b 1 N = some o → ux_lp (fun s : Int32 × ux_N => fX12_reads_60b s.1 s.2) (f + 1) ((1 : Int32), N) = Sum.elim (ux_lp (fun s : Int32 × ux_N => fX12_reads_60b s.1 s.2) f) some o := fun o h1 => by
      show (fX12_reads_60b 1 N).bind _ = _
      rw [h1]; rfl
    by_cases c : tkS lt tx p < lt
    · have e : fX12_reads_60b 1 N = some (.inl (0, N)) := by
        unfold fX12_reads_60b fX12_reads_60b_102 fX12_reads_60b_103
        rw [if_neg (by decide), h.1.2.1, h.2.2.1.1, if_neg (fun z => by have := (nI_leI (by omega) (by omega)).mp z; omega), h22, if_pos (by decide), if_pos rfl]
      refine ⟨0, N, by rw [go _ e]; exact lm_stop (by omega) N, mFr_rf N, ?_⟩
      unfold paT
      rw [if_pos c]
      by_cases c59 : tx (tkS lt tx p) = 59
      · rw [if_pos c59]; exact rdR_l rfl h.2.2.1.1
      · rw [if_neg c59]; exact rdR_l rfl h.2.2.1.1
    · have e : fX12_reads_60b 1 N = some (.inr (1, N)) := by
        unfold fX12_reads_60b
        rw [if_neg (by decide), h.1.2.1, h.2.2.1.1, if_pos ((nI_leI (by omega) (by omega)).mpr (by omega))]
      refine ⟨1, N, go _ e, mFr_rf N, ?_⟩
      unfold paT
      rw [if_neg c]
      exact rdR_r rfl h22 h.2.2.2.2.2 hb
  | succ n ih =>
    intro hn f hf p D N h hp hb h22
    obtain ⟨f, rfl⟩ : ∃ g, f = g + 1 := ⟨f - 1, by omega⟩
    obtain ⟨b1, b2, b3, b4, b5⟩ := tk_b lt tx hp
    have h200 := h.1.1
    have go : ∀ o, fX12_reads_60b 1 N = some o → ux_lp (fun s : Int32 × ux_N => fX12_reads_60b s.1 s.2) (f + 1) ((1 : Int32), N) = Sum.elim (ux_lp (fun s : Int32 × ux_N => fX12_reads_60b s.1 s.2) f) some o := fun o h1 => by
      show (fX12_reads_60b 1 N).bind _ = _
      rw [h1]; rfl
    by_cases c : tkS lt tx p < lt
    · have x := h.1.2.2 _ c
      have e0 : fX12_reads_60b 1 N = if nI (tx (tkS lt tx p)) = (59 : Int32) then (fX12_reads_60b_103 (1 : Int32) N) else (fX12_reads_60b_102 N) := by
        unfold fX12_reads_60b
        rw [if_neg (by decide), h.1.2.1, h.2.2.1.1, if_neg (fun z => by have := (nI_leI (by omega) (by omega)).mp z; omega), h22, if_neg (show ¬ (24 : Int32) ≤ nI (24 - (n + 1)) from fun z => by have := (nI_leI (a := 24) (by decide) (by omega)).mp z; omega), pb_in (by omega) (by decide), if_pos rfl, nI_clamp (by omega), x.1]
      by_cases c59 : tx (tkS lt tx p) = 59
      · obtain ⟨N1, n0, n1, n2, n3, n4⟩ := lm_next h.1 b4 h.2.2.1.2
        have f1 : nFr N N1 := ⟨fun a h0 _ => n1 a h0, n2⟩
        have h1 : rsI N1 D lt tx (tkE lt tx p) dg := rsI_n h f1 n3 n4
        obtain ⟨r, N2, r0, r1, r2, r3⟩ := lm_readsClause hg h1 b4 hb
        have e22 : N2 0 22 + (1 : Int32) = nI (24 - n) := by
          rw [r2, n2 22 (by decide) (by decide), h22, li_1, nI_add]
          exact congrArg nI (by omega)
        have e1 : fX12_reads_60b 1 N = some (.inl (r, ux_u N2 0 22 (nI (24 - n)))) := by
          rw [e0, if_pos (show nI (tx (tkS lt tx p)) = (59 : Int32) from by rw [c59]; rfl)]
          unfold fX12_reads_60b_103
          rw [if_neg (by decide), n0, Option.bind_some, r0, Option.bind_some, e22]
        have fr : mFr dg N (ux_u N2 0 22 (nI (24 - n))) := mFr_tr (mFr_tr (nFr_m f1) r1) (mFr_22 N2 _)
        unfold paT
        rw [if_pos c, if_pos c59]
        cases hc : clS lt tx (tkE lt tx p) D with
        | inl y =>
          rw [hc] at r3
          obtain ⟨rfl, q1⟩ := r3.1 y rfl
          refine ⟨0, _, by rw [go _ e1]; exact lm_stop (by omega) _, fr, ?_⟩
          rw [paS_l hc]
          exact rdR_l rfl (by rw [uu_off _ _ (by decide)]; exact q1)
        | inr y =>
          rw [hc] at r3
          obtain ⟨rfl, q1, q2, q3⟩ := r3.2 y rfl
          obtain ⟨r, N', i1, i2, i3⟩ := ih (by omega) f (by omega) y.1 y.2 _ (rsI_22 q1 (nI (24 - n))) q2 q3 (uu_at _ _ _ _)
          refine ⟨r, N', by rw [go _ e1]; exact i1, mFr_tr fr i2, ?_⟩
          rw [paS_r hc]
          exact i3
      · have e1 : fX12_reads_60b 1 N = some (.inl (0, N)) := by
          rw [e0, if_neg (show ¬ nI (tx (tkS lt tx p)) = (59 : Int32) from fun z => c59 ((nI_eq (b := 59) (by omega) (by decide)).mp z))]; rfl
        refine ⟨0, N, by rw [go _ e1]; exact lm_stop (by omega) N, mFr_rf N, ?_⟩
        unfold paT
        rw [if_pos c, if_neg c59]; exact rdR_l rfl h.2.2.1.1
    · have e : fX12_reads_60b 1 N = some (.inr (1, N)) := by
        unfold fX12_reads_60b
        rw [if_neg (by decide), h.1.2.1, h.2.2.1.1, if_pos ((nI_leI (by omega) (by omega)).mpr (by omega))]
      refine ⟨1, N, go _ e, mFr_rf N, ?_⟩
      unfold paT
      rw [if_neg c]
      exact rdR_r rfl h22 h.2.2.2.2.2 hb
theorem lm_reads {N : ux_N} {D : drT} (hg : dg < 2) (ht : txM N lt tx) (hw : woI N) (e1 : N 0 1 = nI (dNd D)) (e2 : N 0 2 = nI (dLn D)) (e4 : N 0 4 = nI (dOf D)) (e231 : N 1 231 = nI (dTm D)) (hb : dBd D) (hm : dg = 1 → dMl N D) : ∃ r N', fX12_reads (nI dg) N = some (r, N') ∧ mFr dg N N' ∧ rdR dg N' r (paS lt tx 24 0 0 D) := by
  obtain ⟨M, hM⟩ : ∃ M, M = ux_u (ux_u (ux_u (ux_u (ux_u (ux_u (ux_u N 0 23 (nI dg)) 0 17 (0 : Int32)) 0 22 (1 : Int32)) 0 18 (nI (dNd D))) 0 19 (nI (dLn D))) 0 21 (nI (dOf D))) 0 20 (nI (dTm D)) := ⟨_, rfl⟩
  have mx : ∀ x, x ≠ 0 → M x = N x := fun x hx => by rw [hM, uu_ne _ _ _ hx, uu_ne _ _ _ hx, uu_ne _ _ _ hx, uu_ne _ _ _ hx, uu_ne _ _ _ hx, uu_ne _ _ _ hx, uu_ne _ _ _ hx]
  have m0 : ∀ j, j < 17 → M 0 j = N 0 j := fun j hj => by rw [hM, uu_off _ _ (by omega), uu_off _ _ (by omega), uu_off _ _ (by omega), uu_off _ _ (by omega), uu_off _ _ (by omega), uu_off _ _ (by omega), uu_off _ _ (by omega)]
  have m20 : M 0 20 = nI (dTm D) := by rw [hM, uu_at]
  have m21 : M 0 21 = nI (dOf D) := by rw [hM, uu_off _ _ (by decide), uu_at]
  have m19 : M 0 19 = nI (dLn D) := by rw [hM, uu_off _ _ (by decide), uu_off _ _ (by decide), uu_at]
  have m18 : M 0 18 = nI (dNd D) := by rw [hM, uu_off _ _ (by decide), uu_off _ _ (by decide), uu_off _ _ (by decide), uu_at]
  have m22 : M 0 22 = nI 1 := by rw [hM, uu_off _ _ (by decide), uu_off _ _ (by decide), uu_off _ _ (by decide), uu_off _ _ (by decide), uu_at]; rfl
  have m17 : M 0 17 = nI 0 := by rw [hM, uu_off _ _ (by decide), uu_off _ _ (by decide), uu_off _ _ (by decide), uu_off _ _ (by decide), uu_off _ _ (by decide), uu_at]; rfl
  have m23 : M 0 23 = nI dg := by rw [hM, uu_off _ _ (by decide), uu_off _ _ (by decide), uu_off _ _ (by decide), uu_off _ _ (by decide), uu_off _ _ (by decide), uu_off _ _ (by decide), uu_at]
  have tM : txM M lt tx := ⟨ht.1, by rw [m0 9 (by decide)]; exact ht.2.1, fun k hk => by rw [mx 5 (by decide)]; exact ht.2.2 k hk⟩
  obtain ⟨N1, n0, n1, n2, n3, n4⟩ := lm_next tM (Nat.zero_le _) m17
  have f1 : nFr M N1 := ⟨fun a h0 _ => n1 a h0, n2⟩
  have h1 : rsI N1 D lt tx 0 dg := by
    refine ⟨txM_n tM f1, fun k hk => ?_, ⟨n3, n4⟩, ⟨?_, ?_, ?_, ?_⟩, ?_, fun z => dMl_n (dMl_fr (hm z) (m0 1 (by decide)) (m0 2 (by decide)) (m0 4 (by decide)) (mx 1 (by decide)) (mx 2 (by decide)) (mx 3 (by decide))) f1⟩
    · rw [n1 12 (by decide), mx 12 (by decide)]; exact hw k hk
    · rw [n2 18 (by decide) (by decide)]; exact m18
    · rw [n2 19 (by decide) (by decide)]; exact m19
    · rw [n2 20 (by decide) (by decide)]; exact m20
    · rw [n2 21 (by decide) (by decide)]; exact m21
    · rw [n2 23 (by decide) (by decide)]; exact m23
  have fM : mFr dg N M := ⟨fun x h0 _ _ => mx x h0, fun j hj _ => m0 j (by omega), fun k _ => by rw [mx 1 (by decide)]⟩
  obtain ⟨r, N2, r0, r1, r2, r3⟩ := lm_readsClause hg h1 (Nat.zero_le _) hb
  have fr : mFr dg N N2 := mFr_tr (mFr_tr fM (nFr_m f1)) r1
  have ub : ux_b (nI dg) = true := by
    rcases (show dg = 0 ∨ dg = 1 by omega) with rfl | rfl <;> rfl
  have hf : ∀ {r' N'}, ux_lp (fun s : Int32 × ux_N => fX12_reads_60b s.1 s.2) ux_fu (r, N2) = some (r', N') → ux_b r' = true → fX12_reads (nI dg) N = some (r', N') := fun {r' N'} z1 z2 => by
    unfold fX12_reads
    rw [ub, if_pos rfl]
    have eM : (ux_u (ux_u (ux_u (ux_u (ux_u (ux_u (ux_u N 0 23 (nI dg)) 0 17 (0 : Int32)) 0 22 (1 : Int32)) 0 18 ((ux_u (ux_u (ux_u N 0 23 (nI dg)) 0 17 (0 : Int32)) 0 22 (1 : Int32)) 0 1)) 0 19 ((ux_u (ux_u (ux_u (ux_u N 0 23 (nI dg)) 0 17 (0 : Int32)) 0 22 (1 : Int32)) 0 18 ((ux_u (ux_u (ux_u N 0 23 (nI dg)) 0 17 (0 : Int32)) 0 22 (1 : Int32)) 0 1)) 0 2)) 0 21 (N 0 4)) 0 20 (N 1 231)) = M := by
      rw [hM, uu_off _ _ (by decide : (1 : Nat) ≠ 22), uu_off _ _ (by decide : (1 : Nat) ≠ 17), uu_off _ _ (by decide : (1 : Nat) ≠ 23), e1, uu_off _ _ (by decide : (2 : Nat) ≠ 18), uu_off _ _ (by decide : (2 : Nat) ≠ 22), uu_off _ _ (by decide : (2 : Nat) ≠ 17), uu_off _ _ (by decide : (2 : Nat) ≠ 23), e2, e4, e231]
    unfold fX12_reads_31
    rw [uu_off _ _ (by decide : (4 : Nat) ≠ 19), uu_off _ _ (by decide : (4 : Nat) ≠ 18), uu_off _ _ (by decide : (4 : Nat) ≠ 22), uu_off _ _ (by decide : (4 : Nat) ≠ 17), uu_off _ _ (by decide : (4 : Nat) ≠ 23), uu_ne _ _ _ (by decide : (1 : Nat) ≠ 0), uu_ne _ _ _ (by decide : (1 : Nat) ≠ 0), uu_ne _ _ _ (by decide : (1 : Nat) ≠ 0), uu_ne _ _ _ (by decide : (1 : Nat) ≠ 0), uu_ne _ _ _ (by decide : (1 : Nat) ≠ 0), uu_ne _ _ _ (by decide : (1 : Nat) ≠ 0), eM, n0, Option.bind_some, r0, Option.bind_some, z1, Option.bind_some]
    exact if_pos z2
  cases hc : clS lt tx 0 D with
  | inl y =>
    rw [hc] at r3
    obtain ⟨rfl, q1⟩ := r3.1 y rfl
    refine ⟨0, N2, hf (lm_stop (by decide) N2) rfl, fr, ?_⟩
    rw [paS_l hc]
    exact rdR_l rfl q1
  | inr y =>
    rw [hc] at r3
    obtain ⟨rfl, q1, q2, q3⟩ := r3.2 y rfl
    obtain ⟨r, N', i1, i2, i3⟩ := lm_readsL hg 23 (by decide) ux_fu (by decide) y.1 y.2 N2 q1 q2 q3 (by rw [r2, n2 22 (by decide) (by decide)]; exact m22)
    refine ⟨r, N', hf i1 (rdR_01 i3), mFr_tr fr i2, ?_⟩
    rw [paS_r hc]
    exact i3
end MTX
