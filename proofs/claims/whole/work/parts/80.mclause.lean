/-! a clause as the reference reads it -/
def rsI (N : ux_N) (D : drT) (lt : Nat) (tx : Nat → Nat) (p dg : Nat) : Prop := txM N lt tx ∧ woI N ∧ (N 0 16 = nI (tkS lt tx p) ∧ N 0 17 = nI (tkE lt tx p)) ∧ (N 0 18 = nI (dNd D) ∧ N 0 19 = nI (dLn D) ∧ N 0 20 = nI (dTm D) ∧ N 0 21 = nI (dOf D)) ∧ N 0 23 = nI dg ∧ (dg = 1 → dMl N D)
def mFr (dg : Nat) (N N' : ux_N) : Prop := (∀ a, a ≠ 0 → a ≠ 11 → (dg = 1 → a ≠ 1 ∧ a ≠ 2 ∧ a ≠ 3) → N' a = N a) ∧ (∀ j, j < 16 → (dg = 1 → j ≠ 1 ∧ j ≠ 2 ∧ j ≠ 4) → N' 0 j = N 0 j) ∧ ∀ k, 21 ≤ k → N' 1 k = N 1 k
theorem mFr_tr {dg : Nat} {N N1 N2 : ux_N} (a : mFr dg N N1) (b : mFr dg N1 N2) : mFr dg N N2 := ⟨fun x h0 h1 h2 => (b.1 x h0 h1 h2).trans (a.1 x h0 h1 h2), fun j h0 h1 => (b.2.1 j h0 h1).trans (a.2.1 j h0 h1), fun k hk => (b.2.2 k hk).trans (a.2.2 k hk)⟩
def nFr (N N' : ux_N) : Prop := (∀ a, a ≠ 0 → a ≠ 11 → N' a = N a) ∧ ∀ j, j ≠ 16 → j ≠ 17 → N' 0 j = N 0 j
theorem nFr_tr {N N1 N2 : ux_N} (a : nFr N N1) (b : nFr N1 N2) : nFr N N2 := ⟨fun x h0 h1 => (b.1 x h0 h1).trans (a.1 x h0 h1), fun j h0 h1 => (b.2 j h0 h1).trans (a.2 j h0 h1)⟩
theorem nFr_m {dg : Nat} {N N1 : ux_N} (a : nFr N N1) : mFr dg N N1 := ⟨fun x h0 h1 _ => a.1 x h0 h1, fun j h0 _ => a.2 j (by omega) (by omega), fun k _ => by rw [a.1 1 (by decide) (by decide)]⟩
theorem nFr_11 (N : ux_N) (k : Nat) (v : Int32) : nFr N (ux_u N 11 k v) := ⟨fun a _ h => uu_ne _ _ _ h, fun j _ _ => by rw [uu_ne _ _ _ (by decide)]⟩
def rcR (dg lt : Nat) (tx : Nat → Nat) (N' : ux_N) (r : Int32) (o : Nat ⊕ (Nat × drT)) : Prop := (∀ x, o = .inl x → r = 0 ∧ N' 0 16 = nI x) ∧ ∀ y, o = .inr y → r = 1 ∧ rsI N' y.2 lt tx y.1 dg ∧ y.1 ≤ lt ∧ dBd y.2
section MCL
variable {lt : Nat} {tx : Nat → Nat} {N : ux_N} {D : drT} {dg : Nat}
theorem rcR_l {N' : ux_N} {r : Int32} {x : Nat} (h1 : r = 0) (h2 : N' 0 16 = nI x) : rcR dg lt tx N' r (.inl x) := ⟨fun z hz => (by cases hz; exact ⟨h1, h2⟩), fun z hz => (nomatch hz)⟩
theorem rcR_r {N' : ux_N} {r : Int32} {y : Nat × drT} (h1 : r = 1) (h2 : rsI N' y.2 lt tx y.1 dg) (h3 : y.1 ≤ lt) (h4 : dBd y.2) : rcR dg lt tx N' r (.inr y) := ⟨fun z hz => (nomatch hz), fun z hz => (by cases hz; exact ⟨h1, h2, h3, h4⟩)⟩
theorem txM_n {N' : ux_N} (h : txM N lt tx) (f : nFr N N') : txM N' lt tx := by
  refine ⟨h.1, ?_, fun k hk => ?_⟩
  · rw [f.2 9 (by decide) (by decide)]; exact h.2.1
  · rw [f.1 5 (by decide) (by decide)]; exact h.2.2 k hk
theorem dMl_n {N' : ux_N} (h : dMl N D) (f : nFr N N') : dMl N' D :=
  dMl_fr h (f.2 1 (by decide) (by decide)) (f.2 2 (by decide) (by decide)) (f.2 4 (by decide) (by decide)) (f.1 1 (by decide) (by decide)) (f.1 2 (by decide) (by decide)) (f.1 3 (by decide) (by decide))
theorem rsI_n {N' : ux_N} {p q : Nat} (h : rsI N D lt tx p dg) (f : nFr N N') (e16 : N' 0 16 = nI (tkS lt tx q)) (e17 : N' 0 17 = nI (tkE lt tx q)) : rsI N' D lt tx q dg := by
  obtain ⟨a1, a2, a3, ⟨a4, a5, a6, a7⟩, a8, a9⟩ := h
  refine ⟨txM_n a1 f, fun k hk => ?_, ⟨e16, e17⟩, ⟨?_, ?_, ?_, ?_⟩, ?_, fun z => dMl_n (a9 z) f⟩
  · rw [f.1 12 (by decide) (by decide)]; exact a2 k hk
  · rw [f.2 18 (by decide) (by decide)]; exact a4
  · rw [f.2 19 (by decide) (by decide)]; exact a5
  · rw [f.2 20 (by decide) (by decide)]; exact a6
  · rw [f.2 21 (by decide) (by decide)]; exact a7
  · rw [f.2 23 (by decide) (by decide)]; exact a8
/-- the counts, and what is done behind a clause -/
theorem lm_tail {W : Int32} {D' : drT} {q : Nat} {a b c d : Int32} (h : rsI N D lt tx q dg) (hg : dg < 2) (ha : a = nI (dNd D')) (hb : b = nI (dLn D')) (hc : c = nI (dOf D')) (hd : d = nI (dTm D')) (hdo : ∀ M, M 11 = N 11 → dMl M D → ∃ M', fX12_does W M = some M' ∧ dMl M' D' ∧ dFr M M') :
    ∃ N', fX12_readsClause_186 W d (ux_u (ux_u (ux_u N 0 18 a) 0 19 b) 0 21 c) = some (1, N') ∧ mFr dg N N' ∧ N' 0 22 = N 0 22 ∧ rsI N' D' lt tx q dg := by
  subst ha hb hc hd
  obtain ⟨a1, a2, ⟨a3, a3'⟩, ⟨a4, a5, a6, a7⟩, a8, a9⟩ := h
  generalize hM : ux_u (ux_u (ux_u (ux_u N 0 18 (nI (dNd D'))) 0 19 (nI (dLn D'))) 0 21 (nI (dOf D'))) 0 20 (nI (dTm D')) = M
  have mx : ∀ x, x ≠ 0 → M x = N x := fun x hx => by rw [← hM, uu_ne _ _ _ hx, uu_ne _ _ _ hx, uu_ne _ _ _ hx, uu_ne _ _ _ hx]
  have m0 : ∀ j, j ≠ 18 → j ≠ 19 → j ≠ 20 → j ≠ 21 → M 0 j = N 0 j := fun j h1 h2 h3 h4 => by rw [← hM, uu_off _ _ h3, uu_off _ _ h4, uu_off _ _ h2, uu_off _ _ h1]
  have m18 : M 0 18 = nI (dNd D') := by rw [← hM, uu_off _ _ (by decide), uu_off _ _ (by decide), uu_off _ _ (by decide), uu_at]
  have m19 : M 0 19 = nI (dLn D') := by rw [← hM, uu_off _ _ (by decide), uu_off _ _ (by decide), uu_at]
  have m21 : M 0 21 = nI (dOf D') := by rw [← hM, uu_off _ _ (by decide), uu_at]
  have m20 : M 0 20 = nI (dTm D') := by rw [← hM, uu_at]
  have m23 : M 0 23 = nI dg := by rw [m0 23 (by decide) (by decide) (by decide) (by decide)]; exact a8
  unfold fX12_readsClause_186 fX12_readsClause_201
  rw [hM, m23]
  by_cases g : dg = 0
  · subst g
    refine ⟨M, if_pos rfl, ⟨fun x h0 _ _ => mx x h0, fun j hj _ => m0 j (by omega) (by omega) (by omega) (by omega), fun k _ => by rw [mx 1 (by decide)]⟩, m0 22 (by decide) (by decide) (by decide) (by decide), ⟨a1.1, ?_, fun k hk => ?_⟩, fun k hk => ?_, ⟨?_, ?_⟩, ⟨m18, m19, m20, m21⟩, m23, fun z => (by cases z)⟩
    · rw [m0 9 (by decide) (by decide) (by decide) (by decide)]; exact a1.2.1
    · rw [mx 5 (by decide)]; exact a1.2.2 k hk
    · rw [mx 12 (by decide)]; exact a2 k hk
    · rw [m0 16 (by decide) (by decide) (by decide) (by decide)]; exact a3
    · rw [m0 17 (by decide) (by decide) (by decide) (by decide)]; exact a3'
  · have g1 : dg = 1 := by omega
    subst g1
    have hm : dMl M D := dMl_fr (a9 rfl) (m0 1 (by decide) (by decide) (by decide) (by decide)) (m0 2 (by decide) (by decide) (by decide) (by decide)) (m0 4 (by decide) (by decide) (by decide) (by decide)) (mx 1 (by decide)) (mx 2 (by decide)) (mx 3 (by decide))
    obtain ⟨M', d0, d1, d2, d3, d4⟩ := hdo M (mx 11 (by decide)) hm
    refine ⟨M', ?_, ⟨fun x h0 h11 hx => ?_, fun j hj hx => ?_, fun k hk => ?_⟩, ?_, ⟨a1.1, ?_, fun k hk => ?_⟩, fun k hk => ?_, ⟨?_, ?_⟩, ⟨?_, ?_, ?_, ?_⟩, ?_, fun _ => d1⟩
    · rw [if_neg (show ¬ nI 1 = 0 from by decide), d0]; rfl
    · obtain ⟨x1, x2, x3⟩ := hx rfl
      rw [d2 x h0 x1 x2 x3]; exact mx x h0
    · obtain ⟨x1, x2, x3⟩ := hx rfl
      rw [d3 j x1 x2 x3]; exact m0 j (by omega) (by omega) (by omega) (by omega)
    · rw [d4 k hk, mx 1 (by decide)]
    · rw [d3 22 (by decide) (by decide) (by decide)]; exact m0 22 (by decide) (by decide) (by decide) (by decide)
    · rw [d3 9 (by decide) (by decide) (by decide), m0 9 (by decide) (by decide) (by decide) (by decide)]; exact a1.2.1
    · rw [d2 5 (by decide) (by decide) (by decide) (by decide), mx 5 (by decide)]; exact a1.2.2 k hk
    · rw [d2 12 (by decide) (by decide) (by decide) (by decide), mx 12 (by decide)]; exact a2 k hk
    · rw [d3 16 (by decide) (by decide) (by decide), m0 16 (by decide) (by decide) (by decide) (by decide)]; exact a3
    · rw [d3 17 (by decide) (by decide) (by decide), m0 17 (by decide) (by decide) (by decide) (by decide)]; exact a3'
    · rw [d3 18 (by decide) (by decide) (by decide)]; exact m18
    · rw [d3 19 (by decide) (by decide) (by decide)]; exact m19
    · rw [d3 20 (by decide) (by decide) (by decide)]; exact m20
    · rw [d3 21 (by decide) (by decide) (by decide)]; exact m21
    · rw [d3 23 (by decide) (by decide) (by decide)]; exact m23
/-- a number that is read -/
theorem lm_num {p kk a b : Nat} (h : rsI N D lt tx p dg) (hp : p ≤ lt) (hk : kk < 3) (ha : a < 2 ^ 30) (hb : b < 2 ^ 30) (h2 : kk = 1 → ¬ N 11 2 = 1) :
    (nuO lt tx p a b = none → fX12_number (nI kk) (nI a) (nI b - (1 : Int32)) N = some (0, N)) ∧ ∀ v, nuO lt tx p a b = some v → ∃ N', fX12_number (nI kk) (nI a) (nI b - (1 : Int32)) N = some (1, N') ∧ nFr N N' ∧ (∀ j, N' 11 j = if j = kk then nI v else N 11 j) ∧ rsI N' D lt tx (tkE lt tx p) dg := by
  obtain ⟨n1, n2⟩ := lm_number h.1 hp h.2.2.1.1 h.2.2.1.2 hk ha hb
  refine ⟨n1, fun v hv => ?_⟩
  obtain ⟨N', m0, m1, m2, m3, m4, m5⟩ := (n2 v hv).2 (fun z => h2 z.1 z.2.1)
  exact ⟨N', m0, ⟨m1, m2⟩, m3, rsI_n h ⟨m1, m2⟩ m4 m5⟩
end MCL
