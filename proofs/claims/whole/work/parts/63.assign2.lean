section AS2
variable {N : ux_N} {W T me : Nat} {rc : Nat → Nat}
theorem cc_assign (hW : W < 512) (hT : T < 1024) (hme : me ≤ 9) (hR : ∀ m, W.testBit m = true → N 34 m = nI (rc m) ∧ rc m < 1024) (hWm : ∀ m, W.testBit m = true → m < me) (hWz : ∀ m, m < me → rc m ≠ 0 → W.testBit m = true) (hm : mq_MT rc (fun m => m < me) T) : ∃ N', fX5_assign 34 9 (nI T) (nI W) N = some N' ∧ (∀ a, a ≠ 103 → a ≠ 104 → a ≠ 105 → a ≠ 106 → N' a = N a) ∧ (∀ l, l < 10 → N' 104 l = svS rc me T l) ∧ (∀ m, m < 9 → N' 105 m = lnS rc me T 10 m) ∧ N' 103 0 = nI (spB rc me T W 10) := by
  have hlp0 : ∃ N', ux_lp (fun s : Int32 × ux_N => fX5_assign_3b 34 9 (nI T) (nI W) s.1 s.2) ux_fu ((0 : Int32), N) = some N' ∧ ((∀ a, a ≠ 105 → N' a = N a) ∧ ∀ m, m < 9 → N' 105 m = -1) := by
    refine lp_inv (fun i s => s.1 = nI i ∧ (∀ a, a ≠ 105 → s.2 a = N a) ∧ ∀ k, k < i → s.2 105 k = -1) _ 9 ?_ (by decide) ?_ ?_
    · exact ⟨rfl, fun a _ => rfl, fun k h => by omega⟩
    · intro i ⟨v, N1⟩ hk ⟨e, g1, g2⟩
      dsimp only at e g1 g2 ⊢
      subst e
      refine Or.inl ⟨(nI (i + 1), ux_u N1 105 i (-1)), ?_, rfl, fun a ha => (uu_ne N1 _ _ ha).trans (g1 a ha), fun k hk => ?_⟩
      · unfold fX5_assign_3b
        rw [if_neg (fun z => by have := (nI_leI (a := 9) (by decide) (by omega)).mp z; omega), pb_in hk (by decide), if_pos rfl, nI_clamp (by omega), li_1, nI_add]
      · dsimp only
        rw [uu_same]
        by_cases e : k = i
        · rw [if_pos e]
        · rw [if_neg e]; exact g2 k (by omega)
    · intro ⟨v, N1⟩ ⟨e, g1, g2⟩
      dsimp only at e g1 g2 ⊢
      subst e
      refine ⟨N1, ?_, g1, g2⟩
      unfold fX5_assign_3b
      rw [if_pos (by decide)]
  obtain ⟨N1, a0, a1, a2⟩ := hlp0
  obtain ⟨N2, b0, b1, b2⟩ := cc_around (N := N1) (rc := rc) hW hT (by rw [a1 34 (by decide)]; exact hR)
  have wsp : spB rc me T W 0 = W := by
    refine tb_ext (n := 9) (spB_lt _ _ _ _ _) hW (fun j hj => ?_)
    rw [Bool.eq_iff_iff, spB_tb hW]
    exact ⟨fun z => z.1, fun z => ⟨z, hWm j z⟩⟩
  have hlp : ∃ N', ux_lp (fun s : Int32 × Int32 × ux_N => fX5_assign_42b 34 9 (nI T) s.1 s.2.1 s.2.2) ux_fu (nI T, (0 : Int32), ux_u N2 103 0 (nI W)) = some N' ∧ ((∀ a, a ≠ 103 → a ≠ 104 → a ≠ 105 → a ≠ 106 → N' a = N a) ∧ (∀ l, l < 10 → N' 104 l = svS rc me T l) ∧ (∀ m, m < 9 → N' 105 m = lnS rc me T 10 m) ∧ N' 103 0 = nI (spB rc me T W 10)) := by
    refine lp_inv (fun i x => x.1 = nI (rsT T i) ∧ x.2.1 = nI i ∧ (∀ a, a ≠ 103 → a ≠ 104 → a ≠ 105 → a ≠ 106 → x.2.2 a = N a) ∧ x.2.2 106 = N2 106 ∧ (∀ l, l < i → x.2.2 104 l = svS rc me T l) ∧ (∀ m, m < 9 → x.2.2 105 m = lnS rc me T i m) ∧ x.2.2 103 0 = nI (spB rc me T W i)) _ 10 ?_ (by decide) ?_ ?_
    · refine ⟨by dsimp only; rw [rsT_0 hT], rfl, fun a h1 h2 h3 h4 => ?_, by dsimp only; rw [uu_ne _ _ _ (by decide)], fun l h => by omega, fun m hm => ?_, ?_⟩
      · dsimp only; rw [uu_ne _ _ _ h1, b1 a h4, a1 a h3]
      · dsimp only; rw [uu_ne _ _ _ (by decide), b1 105 (by decide), a2 m hm]; rfl
      · dsimp only; rw [uu_same, if_pos rfl, wsp]
    · intro i ⟨x1, x2, N3⟩ hk ⟨e1, e2, g1, g2, g3, g4, g5⟩
      dsimp only at e1 e2 g1 g2 g3 g4 g5 ⊢
      subst e1; subst e2
      have pw : 2 ^ i < 1024 := show 2 ^ i < 2 ^ 10 from Nat.pow_lt_pow_right (by decide) hk
      by_cases q : T.testBit i = true
      · have mt := lmS_mt hT hme hm i
        obtain ⟨p1, p2, p3, p4, p5⟩ := pk_of (M := lmS rc me T i) hT (fun m hm => Nat.lt_of_lt_of_le (lmS_lt hm) hme) q mt
        have sub : ∀ j, (2 ^ i).testBit j = true → T.testBit j = true := fun j hj => by
          rw [Nat.testBit_two_pow, decide_eq_true_iff] at hj
          rw [← hj]; exact q
        have ar : ux_u N3 104 i (-1 : Int32) 106 (2 ^ i) = nI (arB W rc (2 ^ i)) := by
          rw [uu_ne _ _ _ (by decide), g2]; exact b2 _ sub
        have least := cc_least (N := ux_u N3 104 i (-1 : Int32)) hW hT hme hk hWz hm q (by rw [uu_ne _ _ _ (by decide)]; exact g5) (fun t ht => by rw [uu_ne _ _ _ (by decide), g2]; exact b2 t ht)
        generalize hpk : pkS rc (lmS rc me T i) T i = pk at p1 least
        have r1 : ∀ Z : ux_N, ux_u Z 104 i (nI pk) 104 i = nI pk := fun Z => by rw [uu_same, if_pos rfl]
        refine Or.inl ⟨(nI (rsT T (i + 1)), nI (i + 1), ux_u (ux_u (ux_u (ux_u N3 104 i (-1 : Int32)) 104 i (nI pk)) 105 pk (nI i)) 103 0 (nI (spB rc me T W (i + 1)))), ?_, rfl, rfl, fun a h1 h2 h3 h4 => ?_, ?_, fun l hl => ?_, fun m hm => ?_, ?_⟩
        · have head : fX5_assign_42b 34 9 (nI T) (nI (rsT T i)) (nI i) N3 = fX5_assign_42b_100 34 9 (nI T) (nI (rsT T (i + 1))) (nI i) (ux_u (ux_u N3 104 i (-1 : Int32)) 104 i (nI pk)) := by
            unfold fX5_assign_42b
            rw [if_neg (fun z => by have := (nI_leI (a := 10) (by decide) (by omega)).mp z; omega), pb_in hk (by decide), if_pos rfl, if_pos ((pb_bit1 (by omega) (by omega)).mpr q), pb_pow (by omega), pb_in pw (by decide), if_pos rfl, nI_clamp (by omega), nI_clamp (by omega), ar, rsT_s T i hk, least, Option.bind_some, if_pos rfl]
          rw [head]
          unfold fX5_assign_42b_100
          rw [pb_in hk (by decide), if_pos rfl, nI_clamp (by omega), r1, if_neg (pb_m1 (by omega)), if_pos rfl, pb_in p1 (by decide), if_pos rfl, if_pos rfl, nI_clamp (by omega)]
          rw [uu_ne _ _ _ (by decide : (103 : Nat) ≠ 105), uu_ne _ _ _ (by decide : (103 : Nat) ≠ 104), uu_ne _ _ _ (by decide : (103 : Nat) ≠ 104), g5]
          rw [uu_ne _ _ _ (by decide : (104 : Nat) ≠ 105), r1, pb_pow (by omega)]
          have ss := spB_s (rc := rc) (me := me) (T := T) (W := W) (i := i) hW q
          rw [hpk] at ss
          rw [ss]
          unfold fX5_assign_42b_142 fX5_assign_42b_145
          rw [li_1, nI_add]
        · dsimp only
          rw [uu_ne _ _ _ h1, uu_ne _ _ _ h3, uu_ne _ _ _ h2, uu_ne _ _ _ h2]; exact g1 a h1 h2 h3 h4
        · dsimp only
          rw [uu_ne _ _ _ (by decide), uu_ne _ _ _ (by decide), uu_ne _ _ _ (by decide), uu_ne _ _ _ (by decide)]; exact g2
        · dsimp only
          rw [uu_ne _ _ _ (by decide), uu_ne _ _ _ (by decide), uu_same]
          by_cases e : l = i
          · rw [if_pos e, e]; unfold svS; rw [if_pos q, hpk]
          · rw [if_neg e, uu_same, if_neg e]; exact g3 l (by omega)
        · dsimp only
          rw [uu_ne _ _ _ (by decide), uu_same]
          show _ = if T.testBit i = true ∧ m = pkS rc (lmS rc me T i) T i then nI i else lnS rc me T i m
          rw [hpk]
          by_cases e : m = pk
          · rw [if_pos e, if_pos ⟨q, e⟩]
          · rw [if_neg e, if_neg (fun z => e z.2), uu_ne _ _ _ (by decide), uu_ne _ _ _ (by decide)]; exact g4 m hm
        · dsimp only
          rw [uu_same, if_pos rfl]
      · refine Or.inl ⟨(nI (rsT T (i + 1)), nI (i + 1), ux_u N3 104 i (-1 : Int32)), ?_, rfl, rfl, fun a h1 h2 h3 h4 => (uu_ne _ _ _ h2).trans (g1 a h1 h2 h3 h4), by dsimp only; rw [uu_ne _ _ _ (by decide)]; exact g2, fun l hl => ?_, fun m hm => ?_, ?_⟩
        · unfold fX5_assign_42b
          rw [if_neg (fun z => by have := (nI_leI (a := 10) (by decide) (by omega)).mp z; omega), pb_in hk (by decide), if_pos rfl, if_neg (fun z => q ((pb_bit1 (by omega) (by omega)).mp z)), nI_clamp (by omega)]
          unfold fX5_assign_42b_100
          rw [pb_in hk (by decide), if_pos rfl, nI_clamp (by omega), if_pos (by rw [uu_same, if_pos rfl])]
          unfold fX5_assign_42b_145
          rw [li_1, nI_add, rsT_n T i q]
        · dsimp only
          rw [uu_same]
          by_cases e : l = i
          · rw [if_pos e, e]; unfold svS; rw [if_neg q]
          · rw [if_neg e]; exact g3 l (by omega)
        · dsimp only
          rw [uu_ne _ _ _ (by decide), g4 m hm]
          show _ = if T.testBit i = true ∧ m = pkS rc (lmS rc me T i) T i then nI i else lnS rc me T i m
          rw [if_neg (fun z => q z.1)]
        · dsimp only
          rw [uu_ne _ _ _ (by decide), spB_n q]; exact g5
    · intro ⟨x1, x2, N3⟩ ⟨e1, e2, g1, g2, g3, g4, g5⟩
      dsimp only at e1 e2 g1 g2 g3 g4 g5 ⊢
      subst e2
      refine ⟨N3, ?_, g1, g3, g4, g5⟩
      unfold fX5_assign_42b
      rw [if_pos (by decide)]
  obtain ⟨N', q0, q1⟩ := hlp
  refine ⟨N', ?_, q1⟩
  unfold fX5_assign
  rw [a0, Option.bind_some, b0, Option.bind_some, q0]
  rfl
end AS2
