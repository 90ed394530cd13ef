/-! the class tries all sets of meters, or of offers, on top of what there is -/
def rcO (k : Nat) (rc v : Nat → Nat) (m : Nat) : Nat := if m < k then rc m else v (m - k)
def mO (k t m : Nat) : Prop := m < k ∨ (k ≤ m ∧ t.testBit (m - k) = true)
theorem mO_no {k r s w : Nat} (mem : ∀ j, (r.testBit j = true) ↔ (s.testBit j = true ∧ j ≠ w)) : ¬ mO k r (k + w) := by
  unfold mO
  rw [Nat.add_sub_cancel_left]
  intro z
  rcases z with z | ⟨_, z⟩
  · omega
  · exact ((mem _).mp z).2 rfl
theorem mO_add {k r s w : Nat} (mem : ∀ j, (r.testBit j = true) ↔ (s.testBit j = true ∧ j ≠ w)) (hw : s.testBit w = true) (m : Nat) : (mO k r m ∨ m = k + w) ↔ mO k s m := by
  unfold mO
  rw [mem]
  constructor
  · intro z
    rcases z with (z | ⟨z1, z2, z3⟩) | z
    · exact Or.inl z
    · exact Or.inr ⟨z1, z2⟩
    · subst z
      rw [Nat.add_sub_cancel_left]
      exact Or.inr ⟨by omega, hw⟩
  · intro z
    rcases z with z | ⟨z1, z2⟩
    · exact Or.inl (Or.inl z)
    · by_cases e : m = k + w
      · exact Or.inr e
      · exact Or.inl (Or.inr ⟨z1, z2, by omega⟩)
section TRY
variable {N : ux_N} {L : ux_L} {ln : Nat} {lo hi : Nat → Nat}
set_option maxHeartbeats 4000000 in
theorem cc_tryAll {c1 c2 n2 k off : Nat} {rc v : Nat → Nat} (hc1 : c1 = 38 ∨ c1 = 41) (hk : k ≤ 9) (hn2 : k ≤ n2) (hn9 : n2 ≤ 9) (hc2 : c2 ≠ 45) (hF : foC L ln lo hi) (hB : faC L c1 ln lo hi rc (fun m => m < off)) (hv : ∀ j, j < k → N c2 j = nI (v j) ∧ v j < 1024) :
    ∃ N' L', fX10_tryAll c1 c2 n2 35 (nI k) N L = some (N', L') ∧ (∀ a, a ≠ 45 → N' a = N a) ∧ (∀ a, a < 48 ∨ 77 ≤ a → L' a = L a) ∧ ∀ t, t < 2 ^ k → N' 45 t = nI (rk (qP ln lo hi (rcO off rc v) (mO off t))) := by
  have pk : 2 ^ k ≤ 512 := show 2 ^ k ≤ 2 ^ 9 from Nat.pow_le_pow_right (by decide) hk
  have pk0 : 0 < 2 ^ k := Nat.two_pow_pos k
  obtain ⟨L0, c0, c1', c2'⟩ := fc_copy L 74 c1
  have hB0 : faC L0 c1 ln lo hi (rcO off rc v) (mO off 0) := by
    refine faC_cg (M := fun m => m < off) (rc := rc) (fun m => ?_) (fun m hm => ?_) (fun s hs => ?_)
    · unfold mO; simp
    · unfold rcO; rw [if_pos hm]
    · rw [c1' _ (by omega)]; exact hB s hs
  have hB1 : faC L0 74 ln lo hi (rcO off rc v) (mO off 0) := fun s hs => by
    have : fm (L0 (74 + 1)) s = fm (L0 (c1 + 1)) s := by
      unfold fm; rw [c2' _ (by omega), c1' _ (by omega)]
    rw [this]; exact hB0 s hs
  have hF0 : foC L0 ln lo hi := foC_fr hF (c1' 36 (by decide))
  have r0 := faC_rk hB0
  have hlp : ∃ e, ux_lp (fun s : Int32 × ux_N × ux_L => fX10_tryAll_37b c1 c2 n2 35 (nI k) s.1 s.2.1 s.2.2) ux_fu ((1 : Int32), ux_u N 45 0 (nI (rk (qP ln lo hi (rcO off rc v) (mO off 0)))), L0) = some e ∧ ((∀ a, a ≠ 45 → e.1 a = N a) ∧ (∀ a, a < 48 ∨ 77 ≤ a → e.2 a = L a) ∧ ∀ t, t < 2 ^ k → e.1 45 t = nI (rk (qP ln lo hi (rcO off rc v) (mO off t)))) := by
    refine lp_inv (fun i x => x.1 = nI (i + 1) ∧ (∀ a, a ≠ 45 → x.2.1 a = N a) ∧ (∀ a, a < 48 ∨ 77 ≤ a → x.2.2 a = L a) ∧ (∀ t, t < i + 1 → x.2.1 45 t = nI (rk (qP ln lo hi (rcO off rc v) (mO off t)))) ∧ faC x.2.2 74 ln lo hi (rcO off rc v) (mO off 0) ∧ ∀ t, 0 < t → t < i + 1 → (∀ u, t < u → u < i + 1 → lwb u ≠ lwb t) → faC x.2.2 (47 + 3 * lwb t) ln lo hi (rcO off rc v) (mO off t)) _ (2 ^ k - 1) ?_ (by omega) ?_ ?_
    · refine ⟨rfl, fun a ha => uu_ne _ _ _ ha, fun a ha => c1' a (by omega), fun t ht => ?_, hB1, fun t h1 h2 => by omega⟩
      have t0 : t = 0 := by omega
      subst t0
      dsimp only
      rw [uu_same, if_pos rfl]
    · intro i ⟨x1, N1, L1⟩ hk1 ⟨e1, g1, g2, g3, g4, g5⟩
      dsimp only at e1 g1 g2 g3 g4 g5 ⊢
      subst e1
      have hs : i + 1 < 1024 := by omega
      obtain ⟨s1, s2, s3⟩ := lwb_spec (i + 1) hs (by omega)
      have hln : lwb (i + 1) < k := Nat.lt_of_not_le (fun q => by rw [tb_ge (n := k) (by omega) q] at s2; cases s2)
      obtain ⟨v1, v2⟩ := hv _ hln
      have w1 : N1 c2 (lwb (i + 1)) = nI (v (lwb (i + 1))) := by rw [g1 c2 hc2]; exact v1
      have r1 := noleast_lt (i + 1) hs (by omega)
      have nl := pb_noleast (i + 1) hs
      have lw := pb_lowest (i + 1) hs (by omega)
      have mem := noleast_mem hs (by omega : 0 < i + 1)
      generalize hr : (i + 1) &&& ((i + 1) - 1) = r at r1 nl mem
      have key : ∃ w, w < 10 ∧ fX10_tryAll_37b c1 c2 n2 35 (nI k) (nI (i + 1)) N1 L1 = fX10_tryAll_37b_91 c1 c2 n2 35 (nI k) (nI (i + 1)) (nI (lwb (i + 1))) (47 + 3 * lwb (i + 1)) (nI w) (47 + 3 * lwb (i + 1)) N1 L1 ∧ faC L1 (47 + 3 * w) ln lo hi (rcO off rc v) (mO off r) := by
        have st : fX10_tryAll_37b c1 c2 n2 35 (nI k) (nI (i + 1)) N1 L1 = if nI r = 0 then (fX10_tryAll_37b_91 c1 c2 n2 35 (nI k) (nI (i + 1)) (nI (lwb (i + 1))) (47 + 3 * lwb (i + 1)) (9 : Int32) (47 + 3 * lwb (i + 1)) N1 L1) else ((fX11_lowest (nI r)).bind (fun o6 => fX10_tryAll_37b_91 c1 c2 n2 35 (nI k) (nI (i + 1)) (nI (lwb (i + 1))) (47 + 3 * lwb (i + 1)) o6 (47 + 3 * lwb (i + 1)) N1 L1)) := by
          unfold fX10_tryAll_37b
          rw [pb_pow (by omega), if_neg (fun q => by have := (nI_leI (by omega) (by omega)).mp q; omega), lw, Option.bind_some, pb_in (by omega) (by decide), if_pos rfl, nl, nI_clamp (by omega)]
        by_cases r0 : r = 0
        · subst r0
          refine ⟨9, by decide, ?_, g4⟩
          rw [st, if_pos (show nI 0 = 0 from rfl), ← li_9]
        · obtain ⟨t1, t2, t3⟩ := lwb_spec r (by omega) (by omega)
          refine ⟨lwb r, t1, ?_, ?_⟩
          · rw [st, if_neg (fun q => r0 ((pb_eq0 (by omega)).mp q)), pb_lowest r (by omega) (by omega), Option.bind_some]
          · refine g5 r (by omega) r1 (fun u q1 q2 => ?_)
            have := noleast_nx (u := u) hs (by omega) (by rw [hr]; omega) (by rw [hr]; exact q1) q2
            rw [hr] at this
            exact this
      obtain ⟨w, hw, hfun, hfam⟩ := key
      obtain ⟨L2, d0, d1, d2⟩ := fc_copy L1 (47 + 3 * lwb (i + 1)) (47 + 3 * w)
      obtain ⟨L3, j0, j1, j2⟩ := fc_join (L := L2) (c := 47 + 3 * lwb (i + 1)) (cf := 35) (by omega) (by omega) (rc := v (lwb (i + 1))) (by omega)
      have f1 : faC L2 (47 + 3 * lwb (i + 1)) ln lo hi (rcO off rc v) (mO off r) := fun s hs => by
        rw [← hfam s hs]; unfold fm; rw [d2 _ (by omega)]
      have hF2 : foC L2 ln lo hi := foC_fr hF ((d1 36 (by omega)).trans (g2 36 (by omega)))
      have ev : rcO off rc v (off + lwb (i + 1)) = v (lwb (i + 1)) := by
        unfold rcO; rw [if_neg (by omega), Nat.add_sub_cancel_left]
      have nm : ¬ mO off r (off + lwb (i + 1)) := mO_no mem
      have f2 := faC_join (L' := L3) (m := off + lwb (i + 1)) hF2 f1 nm (by rw [ev]; omega) (by rw [ev]; exact j2)
      have f3 : faC L3 (47 + 3 * lwb (i + 1)) ln lo hi (rcO off rc v) (mO off (i + 1)) := faC_cg (fun m => mO_add mem s2 m) (fun _ _ => rfl) f2
      have r3 := faC_rk f3
      refine Or.inl ⟨(nI (i + 1 + 1), ux_u N1 45 (i + 1) (nI (rk (qP ln lo hi (rcO off rc v) (mO off (i + 1))))), L3), ?_, rfl, fun a ha => (uu_ne _ _ _ ha).trans (g1 a ha), fun a ha => (j1 a (by omega) (by omega)).trans ((d1 a (by omega)).trans (g2 a ha)), fun t ht => ?_, fun s hs => ?_, fun t q1 q2 q3 => ?_⟩
      · rw [hfun]
        unfold fX10_tryAll_37b_91
        rw [pb_in hw (by decide), if_pos rfl, nI_clamp (by omega), d0, Option.bind_some, pb_in (by omega) (by omega), if_pos rfl, nI_clamp (by omega), w1, j0, Option.bind_some, r3, Option.bind_some, pb_in (by omega) (by decide), if_pos rfl, nI_clamp (by omega), li_1, nI_add]
      · dsimp only
        rw [uu_same]
        by_cases e : t = i + 1
        · rw [if_pos e, e]
        · rw [if_neg e]; exact g3 t (by omega)
      · dsimp only
        rw [j1 (74 + 1) (by omega) (by omega), d1 (74 + 1) (by omega)]
        exact g4 s hs
      · by_cases e : t = i + 1
        · subst e; exact f3
        · have hne : lwb (i + 1) ≠ lwb t := q3 (i + 1) (by omega) (by omega)
          have := g5 t q1 (by omega) (fun u u1 u2 => q3 u u1 (by omega))
          intro s hs
          dsimp only
          rw [j1 (47 + 3 * lwb t + 1) (by omega) (by omega), d1 (47 + 3 * lwb t + 1) (by omega)]
          exact this s hs
    · intro ⟨x1, N1, L1⟩ ⟨e1, g1, g2, g3, g4, g5⟩
      dsimp only at e1 g1 g2 g3 g4 g5 ⊢
      subst e1
      refine ⟨(N1, L1), ?_, g1, g2, fun t ht => g3 t (by omega)⟩
      unfold fX10_tryAll_37b
      rw [pb_pow (by omega), if_pos ((nI_leI (by omega) (by omega)).mpr (by omega))]
  obtain ⟨⟨N', L'⟩, q0, q1⟩ := hlp
  refine ⟨N', L', ?_, q1⟩
  unfold fX10_tryAll
  rw [if_neg (fun z => by have := (nI_ltI (a := 9) (by decide) (by omega)).mp z; omega), qb_ofn, if_pos ((nI_leI (by omega) (by omega)).mpr hn2), c0, Option.bind_some, r0, Option.bind_some, q0]
  rfl
end TRY
