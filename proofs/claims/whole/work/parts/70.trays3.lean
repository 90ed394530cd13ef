/-! trays: lay, all, how many things -/
theorem in_c (x y z : Int32) : fX12_in x.toInt64 y.toInt64 z.toInt64 = some (if x < y ∨ z < x then 0 else 1) := by
  rw [pm_in]
  by_cases q : y ≤ x ∧ x ≤ z
  · rw [if_pos q, if_neg]
    rw [fa_le, fa_le] at q
    rw [fa_lt, fa_lt]
    omega
  · rw [if_neg q, if_pos]
    rw [fa_le, fa_le] at q
    rw [fa_lt, fa_lt]
    omega
theorem tc_isMeter {N : ux_N} {me n : Nat} (h : N 19 0 = nI me) (hl : me < 2 ^ 31) (hn : n < 2 ^ 31) : fX11_isMeter (nI n) N = some (if n < me then 1 else 0) := by
  unfold fX11_isMeter
  rw [if_neg (pb_lt0 hn), h]
  by_cases q : n < me
  · rw [if_pos q, if_neg (fun z => by have := (nI_leI hl hn).mp z; omega)]; rfl
  · rw [if_neg q, if_pos ((nI_leI hl hn).mpr (by omega))]; rfl
theorem tc_isMeterN {N : ux_N} {x : Int32} (hx : x < 0) : fX11_isMeter x N = some 0 := by
  unfold fX11_isMeter
  rw [if_pos hx]; rfl
theorem tc_isLine {N : ux_N} {ln n : Nat} (h : N 1 1 = nI ln) (hl : ln < 2 ^ 31) (hn : n < 2 ^ 31) : fX11_isLine (nI n) N = some (if n < ln then 1 else 0) := by
  unfold fX11_isLine
  rw [if_neg (pb_lt0 hn), h]
  by_cases q : n < ln
  · rw [if_pos q, if_neg (fun z => by have := (nI_leI hl hn).mp z; omega)]; rfl
  · rw [if_neg q, if_pos ((nI_leI hl hn).mpr (by omega))]; rfl
theorem tc_isLineN {N : ux_N} {x : Int32} (hx : x < 0) : fX11_isLine x N = some 0 := by
  unfold fX11_isLine
  rw [if_pos hx]; rfl
theorem eq0_or1 {c : Prop} [Decidable c] : (if c then (0 : Int32) else 1) = 0 ↔ c := by
  by_cases h : c
  · simp [h]
  · simp [h]
section TRD
variable {Nc Nm : ux_N}
theorem tr_push (h : trA Nc Nm) {n : Nat} (q : n < 3) {y : Int32} (hy : y = 0 ∨ y = 1 ∨ y = 2) (v : Int32) : trQ Nc Nm (fX9_push (111 + 3 * n) y v Nc) (fX12_lay_73 (nI n) y v Nm) := by
  have hn : n < 2 ^ 31 := by omega
  rcases h n q with ⟨a, b, c⟩ | ⟨a, z, b, c, d, e⟩
  · refine trQ_same h (-11) ?_ ?_
    · unfold fX9_push; rw [if_pos a]
    · unfold fX12_lay_73
      rw [pb_in q (by decide), if_pos rfl, nI_clamp (by omega), c, if_neg m1_ge0]
  · by_cases z8 : z = 8
    · subst z8
      refine trQ_same h (-14) ?_ ?_
      · unfold fX9_push; rw [a, if_neg (by decide), c, if_neg (by decide)]
      · unfold fX12_lay_73
        rw [pb_in q (by decide), if_pos rfl, nI_clamp (by omega), d, if_pos (ge0 (by decide)), if_pos rfl, if_pos (show nI 8 = (8 : Int32) from rfl)]
    · have z7 : z < 8 := by omega
      have ne8 : ¬ nI z = (8 : Int32) := fun w => z8 ((nI_eq (b := 8) (by omega) (by decide)).mp w)
      have lt8 : nI z < (8 : Int32) := (nI_ltI (b := 8) (by omega) (by decide)).mpr z7
      have ix : ((8 : Int32) * nI n) + nI z = nI (8 * n + z) := by rw [li_8, pk_mul, nI_add]
      have i1 : nI z + (1 : Int32) = nI (z + 1) := nI_add z 1
      refine ⟨nI (z + 1), ux_u (ux_u (ux_u Nc (111 + 3 * n + 1) z y) (111 + 3 * n + 2) z v) (111 + 3 * n) 1 (nI (z + 1)), ux_u (ux_u (ux_u Nm 9 (8 * n + z) y) 10 (8 * n + z) v) 8 n (nI (z + 1)), ?_, ?_, fun t ht => ?_, fun a ha => ?_, fun a h8 h9 h10 => ?_⟩
      · unfold fX9_push fX9_push_52
        rw [a, if_neg (by decide), c, if_pos lt8, pb_in z7 (by decide), if_pos rfl, nI_clamp (by omega), uu_ne _ _ _ (by omega : 111 + 3 * n ≠ 111 + 3 * n + 1), c, pb_in z7 (by decide), if_pos rfl, nI_clamp (by omega), uu_ne _ _ _ (by omega : 111 + 3 * n ≠ 111 + 3 * n + 2), uu_ne _ _ _ (by omega : 111 + 3 * n ≠ 111 + 3 * n + 1), c, i1, uu_same, if_pos rfl]
      · unfold fX12_lay_73 fX12_lay_133
        rw [pb_in q (by decide), if_pos rfl, nI_clamp (by omega), d, if_pos (ge0 (by omega)), if_pos rfl, if_neg ne8, if_pos rfl, ix, pb_in (by omega) (by decide), if_pos rfl, if_pos rfl, nI_clamp (by omega), uu_ne _ _ _ (by decide : (8 : Nat) ≠ 9), d, ix, pb_in (by omega) (by decide), if_pos rfl, nI_clamp (by omega), uu_ne _ _ _ (by decide : (8 : Nat) ≠ 10), uu_ne _ _ _ (by decide : (8 : Nat) ≠ 9), d, i1, uu_same, if_pos rfl, if_pos rfl, if_pos rfl, if_pos rfl]
      · by_cases et : t = n
        · subst et
          refine Or.inr ⟨?_, z + 1, by omega, ?_, ?_, fun k hk => ?_⟩
          · rw [uu_same, if_neg (by decide), uu_ne _ _ _ (by omega), uu_ne _ _ _ (by omega)]; exact a
          · rw [uu_same, if_pos rfl]
          · rw [uu_same, if_pos rfl]
          · have a1 : ux_u (ux_u (ux_u Nc (111 + 3 * t + 1) z y) (111 + 3 * t + 2) z v) (111 + 3 * t) 1 (nI (z + 1)) (111 + 3 * t + 1) k = if k = z then y else Nc (111 + 3 * t + 1) k := by rw [uu_ne _ _ _ (by omega), uu_ne _ _ _ (by omega), uu_same]
            have a2 : ux_u (ux_u (ux_u Nc (111 + 3 * t + 1) z y) (111 + 3 * t + 2) z v) (111 + 3 * t) 1 (nI (z + 1)) (111 + 3 * t + 2) k = if k = z then v else Nc (111 + 3 * t + 2) k := by rw [uu_ne _ _ _ (by omega), uu_same, uu_ne _ _ _ (by omega)]
            have a3 : ux_u (ux_u (ux_u Nm 9 (8 * t + z) y) 10 (8 * t + z) v) 8 t (nI (z + 1)) 9 (8 * t + k) = if k = z then y else Nm 9 (8 * t + k) := by
              rw [uu_ne _ _ _ (by decide), uu_ne _ _ _ (by decide), uu_same]
              by_cases ek : k = z
              · rw [if_pos ek, if_pos (by omega)]
              · rw [if_neg ek, if_neg (by omega)]
            have a4 : ux_u (ux_u (ux_u Nm 9 (8 * t + z) y) 10 (8 * t + z) v) 8 t (nI (z + 1)) 10 (8 * t + k) = if k = z then v else Nm 10 (8 * t + k) := by
              rw [uu_ne _ _ _ (by decide), uu_same, uu_ne _ _ _ (by decide)]
              by_cases ek : k = z
              · rw [if_pos ek, if_pos (by omega)]
              · rw [if_neg ek, if_neg (by omega)]
            rw [a1, a2, a3, a4]
            by_cases ek : k = z
            · rw [if_pos ek, if_pos ek, if_pos ek, if_pos ek]
              exact ⟨rfl, rfl, hy⟩
            · rw [if_neg ek, if_neg ek, if_neg ek, if_neg ek]
              exact e k (by omega)
        · refine trI_fr (h t ht) (fun a h1 h2 => ?_) ?_ (fun k hk => ?_) (fun k hk => ?_)
          · rw [uu_ne _ _ _ (by omega), uu_ne _ _ _ (by omega), uu_ne _ _ _ (by omega)]
          · rw [uu_same, if_neg et, uu_ne _ _ _ (by decide), uu_ne _ _ _ (by decide)]
          · rw [uu_ne _ _ _ (by decide), uu_ne _ _ _ (by decide), uu_same, if_neg (by omega)]
          · rw [uu_ne _ _ _ (by decide), uu_same, if_neg (by omega), uu_ne _ _ _ (by decide)]
      · rw [uu_ne _ _ _ (by omega), uu_ne _ _ _ (by omega), uu_ne _ _ _ (by omega)]
      · rw [uu_ne _ _ _ h8, uu_ne _ _ _ h10, uu_ne _ _ _ h9]
theorem tr_lay23 (h : trA Nc Nm) {n : Nat} (q : n < 3) (y v : Int32) : trQ Nc Nm (fX11_lay_23 (nI n) y v Nc) (fX12_lay_23 (nI n) y v Nm) := by
  have hP : ∀ y v, (if ux_in (nI n) 3 then ((fX9_push (111 + 3 * (nI n).toNatClampNeg) y v Nc).bind (fun o5 => some (o5.1, o5.2))) else none) = fX9_push (111 + 3 * n) y v Nc := fun y v => by
    rw [pb_in q (by decide), if_pos rfl, nI_clamp (by omega)]
    cases fX9_push (111 + 3 * n) y v Nc <;> rfl
  have e99 : ∀ x : Int32, fX12_in x.toInt64 (0 : Int64) (99 : Int64) = some (if x < 0 ∨ 99 < x then 0 else 1) := fun x => by
    rw [show (0 : Int64) = (0 : Int32).toInt64 from rfl, show (99 : Int64) = (99 : Int32).toInt64 from by decide, in_c]
  have e9999 : ∀ x : Int32, fX12_in x.toInt64 (-9999 : Int64) (9999 : Int64) = some (if x < -9999 ∨ 9999 < x then 0 else 1) := fun x => by
    rw [show (-9999 : Int64) = (-9999 : Int32).toInt64 from by decide, show (9999 : Int64) = (9999 : Int32).toInt64 from by decide, in_c]
  rcases tk_cases y with ⟨k1, k2, k3⟩ | ⟨k1, k2, n0, n1, n2⟩
  · have hM0 : ∀ o, (if y = 0 then ((fX12_in (v.toInt64) (0 : Int64) (99 : Int64)).bind (fun o5 => if o5 = 0 then (fX12_lay_70 Nm) else (fX12_lay_51 (nI n) y v Nm))) else (fX12_lay_51 (nI n) y v Nm)) = o → fX12_lay_23 (nI n) y v Nm = o := fun o ho => by
      unfold fX12_lay_23
      rw [k2, Option.bind_some, if_neg (by decide)]
      exact ho
    have hC0 : fX11_canBeLaid y v = some 1 → fX11_lay_23 (nI n) y v Nc = fX9_push (111 + 3 * n) y v Nc := fun ho => by
      unfold fX11_lay_23
      rw [ho, Option.bind_some, if_neg (by decide), hP]
    have hC1 : fX11_canBeLaid y v = some 0 → fX11_lay_23 (nI n) y v Nc = some (-3, Nc) := fun ho => by
      unfold fX11_lay_23
      rw [ho, Option.bind_some, if_pos rfl]
    rcases k3 with rfl | rfl | rfl
    · by_cases q1 : v < 0
      · refine trQ_same h (-3) (hC1 ?_) (hM0 _ ?_)
        · unfold fX11_canBeLaid; rw [if_pos rfl, if_pos q1]; rfl
        · rw [if_pos rfl, e99, if_pos (Or.inl q1)]; rfl
      · by_cases q2 : 99 < v
        · refine trQ_same h (-3) (hC1 ?_) (hM0 _ ?_)
          · unfold fX11_canBeLaid; rw [if_pos rfl, if_neg q1, if_pos q2]; rfl
          · rw [if_pos rfl, e99, if_pos (Or.inr q2)]; rfl
        · rw [hC0 (by unfold fX11_canBeLaid; rw [if_pos rfl, if_neg q1, if_neg q2]; rfl), hM0 (fX12_lay_73 (nI n) 0 v Nm) (by rw [if_pos rfl, e99, if_neg (fun z => z.elim q1 q2)]; rfl)]
          exact tr_push h q (Or.inl rfl) v
    · by_cases q1 : v < -9999
      · refine trQ_same h (-3) (hC1 ?_) (hM0 _ ?_)
        · unfold fX11_canBeLaid; rw [if_neg (by decide), if_pos rfl, if_pos q1]; rfl
        · rw [if_neg (by decide)]; unfold fX12_lay_51; rw [if_pos rfl, e9999, if_pos (Or.inl q1)]; rfl
      · by_cases q2 : 9999 < v
        · refine trQ_same h (-3) (hC1 ?_) (hM0 _ ?_)
          · unfold fX11_canBeLaid; rw [if_neg (by decide), if_pos rfl, if_neg q1, if_pos q2]; rfl
          · rw [if_neg (by decide)]; unfold fX12_lay_51; rw [if_pos rfl, e9999, if_pos (Or.inr q2)]; rfl
        · rw [hC0 (by unfold fX11_canBeLaid; rw [if_neg (by decide), if_pos rfl, if_neg q1, if_neg q2]; rfl), hM0 (fX12_lay_73 (nI n) 1 v Nm) (by rw [if_neg (by decide)]; unfold fX12_lay_51; rw [if_pos rfl, e9999, if_neg (fun z => z.elim q1 q2)]; rfl)]
          exact tr_push h q (Or.inr (Or.inl rfl)) v
    · rw [hC0 rfl, hM0 (fX12_lay_73 (nI n) 2 v Nm) rfl]
      exact tr_push h q (Or.inr (Or.inr rfl)) v
  · refine trQ_same h (-3) ?_ ?_
    · unfold fX11_lay_23 fX11_canBeLaid
      rw [if_neg n0, if_neg n1, if_neg n2]; rfl
    · unfold fX12_lay_23
      rw [k2]; rfl
theorem tr_lay {me : Nat} (h : trA Nc Nm) (hc : Nc 19 0 = nI me) (hm : Nm 1 0 = nI me) (h9 : me ≤ 9) (x y v : Int32) : trQ Nc Nm (fX11_lay x y v Nc) (fX12_lay x y v Nm) := by
  rcases i32_cases x with hx | ⟨n, hn, rfl⟩
  · refine trQ_same h (-2) ?_ ?_
    · unfold fX11_lay; rw [tc_isTrayN hx]; rfl
    · unfold fX12_lay; rw [tm_isTrayN hx]; rfl
  · by_cases q : n < 3
    · by_cases y2 : y = 2
      · rcases i32_cases v with hv | ⟨k, hk, rfl⟩
        · refine trQ_same h (-2) ?_ ?_
          · unfold fX11_lay; rw [tc_isTray hn, if_pos q, Option.bind_some, if_neg (by decide), if_pos y2, tc_isMeterN hv]; rfl
          · unfold fX12_lay; rw [tm_isTray hn, if_pos q, Option.bind_some, if_neg (by decide), if_pos y2, fm_isMeterN hv]; rfl
        · by_cases q2 : k < me
          · have e1 : fX11_lay (nI n) y (nI k) Nc = fX11_lay_23 (nI n) y (nI k) Nc := by
              unfold fX11_lay; rw [tc_isTray hn, if_pos q, Option.bind_some, if_neg (by decide), if_pos y2, tc_isMeter hc (by omega) hk, if_pos q2]; rfl
            have e2 : fX12_lay (nI n) y (nI k) Nm = fX12_lay_23 (nI n) y (nI k) Nm := by
              unfold fX12_lay; rw [tm_isTray hn, if_pos q, Option.bind_some, if_neg (by decide), if_pos y2, fm_isMeter hm (by omega) hk, if_pos q2]; rfl
            rw [e1, e2]
            exact tr_lay23 h q y (nI k)
          · refine trQ_same h (-2) ?_ ?_
            · unfold fX11_lay; rw [tc_isTray hn, if_pos q, Option.bind_some, if_neg (by decide), if_pos y2, tc_isMeter hc (by omega) hk, if_neg q2]; rfl
            · unfold fX12_lay; rw [tm_isTray hn, if_pos q, Option.bind_some, if_neg (by decide), if_pos y2, fm_isMeter hm (by omega) hk, if_neg q2]; rfl
      · have e1 : fX11_lay (nI n) y v Nc = fX11_lay_23 (nI n) y v Nc := by
          unfold fX11_lay; rw [tc_isTray hn, if_pos q, Option.bind_some, if_neg (by decide), if_neg y2]
        have e2 : fX12_lay (nI n) y v Nm = fX12_lay_23 (nI n) y v Nm := by
          unfold fX12_lay; rw [tm_isTray hn, if_pos q, Option.bind_some, if_neg (by decide), if_neg y2]
        rw [e1, e2]
        exact tr_lay23 h q y v
    · refine trQ_same h (-2) ?_ ?_
      · unfold fX11_lay; rw [tc_isTray hn, if_neg q]; rfl
      · unfold fX12_lay; rw [tm_isTray hn, if_neg q]; rfl
def taS (kd va : Nat → Int32) : Nat → Int32 × Int32 × Int32
  | 0 => (0, 500000, 0)
  | i + 1 => if kd i = 0 then ((taS kd va i).1 + 1, (taS kd va i).2.1, (taS kd va i).2.2) else if kd i = 1 then ((taS kd va i).1, (taS kd va i).2.1 + va i, (taS kd va i).2.2) else ((taS kd va i).1, (taS kd va i).2.1, (taS kd va i).2.2 ||| ((1 : Int32) <<< (va i &&& 31)))
theorem tr_all (h : trA Nc Nm) (x y : Int32) : ∃ r, fX11_all x y Nc = some r ∧ fX12_all x y Nm = some r := by
  rcases i32_cases x with hx | ⟨n, hn, rfl⟩
  · refine ⟨-2, ?_, ?_⟩
    · unfold fX11_all; rw [tc_isTrayN hx]; rfl
    · unfold fX12_all; rw [tm_isTrayN hx]; rfl
  · by_cases q : n < 3
    · rcases tk_cases y with ⟨k1, k2, k3⟩ | ⟨k1, k2, _⟩
      · have eC : fX11_all (nI n) y Nc = fX9_together (111 + 3 * n) y Nc := by
          unfold fX11_all
          rw [tc_isTray hn, if_pos q, Option.bind_some, if_neg (by decide), k1, Option.bind_some, if_neg (by decide), pb_in q (by decide), if_pos rfl, nI_clamp (by omega)]
          cases fX9_together (111 + 3 * n) y Nc <;> rfl
        have eM : ∀ o, (if 0 ≤ (Nm 8 n) then ((ux_lp (fun s : Int32 × Int32 × Int32 × Int32 => fX12_all_53b (nI n) y s.1 s.2.1 s.2.2.1 s.2.2.2 Nm) ux_fu ((0 : Int32), (500000 : Int32), (0 : Int32), ((8 : Int32) * nI n))).bind (fun e16 => if y = 0 then (fX12_all_169 e16.1 Nm) else (if y = (1 : Int32) then (fX12_all_169 e16.2.1 Nm) else (fX12_all_169 e16.2.2 Nm)))) else (some (-11 : Int32))) = o → fX12_all (nI n) y Nm = o := fun o ho => by
          unfold fX12_all
          rw [tm_isTray hn, if_pos q, Option.bind_some, if_neg (by decide), k2, Option.bind_some, if_neg (by decide), pb_in q (by decide), if_pos rfl, nI_clamp (by omega)]
          exact ho
        rw [eC]
        rcases h n q with ⟨a, b, c⟩ | ⟨a, z, b, c, d, e⟩
        · refine ⟨-11, ?_, eM _ ?_⟩
          · unfold fX9_together; rw [if_pos a]
          · rw [c, if_neg m1_ge0]
        · have lc : ux_lp (fun s : Int32 × Int32 × Int32 × Int32 => fX9_together_21b (111 + 3 * n) y s.1 s.2.1 s.2.2.1 s.2.2.2 Nc) ux_fu ((0 : Int32), (500000 : Int32), (0 : Int32), (0 : Int32)) = some (taS (fun k => Nm 9 (8 * n + k)) (fun k => Nm 10 (8 * n + k)) z) := by
            refine lp_at (fun i => ((taS (fun k => Nm 9 (8 * n + k)) (fun k => Nm 10 (8 * n + k)) i).1, (taS (fun k => Nm 9 (8 * n + k)) (fun k => Nm 10 (8 * n + k)) i).2.1, (taS (fun k => Nm 9 (8 * n + k)) (fun k => Nm 10 (8 * n + k)) i).2.2, nI i)) z rfl (by omega) (fun i hk => ?_) ?_
            · obtain ⟨e1, e2, e3⟩ := e i hk
              show fX9_together_21b (111 + 3 * n) y _ _ _ (nI i) Nc = _
              unfold fX9_together_21b fX9_together_21b_97
              rw [c, if_neg (fun w => by have := (nI_leI (by omega) (by omega)).mp w; omega), pb_in (by omega) (by decide), if_pos rfl, nI_clamp (by omega), e1, e2, if_pos rfl, if_pos rfl, show nI i + 1 = nI (i + 1) from nI_add i 1]
              show _ = some (Sum.inl ((taS _ _ (i + 1)).1, (taS _ _ (i + 1)).2.1, (taS _ _ (i + 1)).2.2, nI (i + 1)))
              rw [taS]
              by_cases q0 : Nm 9 (8 * n + i) = 0
              · rw [if_pos q0, if_pos q0]
              · by_cases q1 : Nm 9 (8 * n + i) = 1
                · rw [if_neg q0, if_pos q1, if_neg q0, if_pos q1]
                · rw [if_neg q0, if_neg q1, if_neg q0, if_neg q1]
            · show fX9_together_21b (111 + 3 * n) y _ _ _ (nI z) Nc = _
              unfold fX9_together_21b
              rw [c, if_pos ((nI_leI (by omega) (by omega)).mpr (Nat.le_refl _))]
          have lm : ux_lp (fun s : Int32 × Int32 × Int32 × Int32 => fX12_all_53b (nI n) y s.1 s.2.1 s.2.2.1 s.2.2.2 Nm) ux_fu ((0 : Int32), (500000 : Int32), (0 : Int32), ((8 : Int32) * nI n)) = some (taS (fun k => Nm 9 (8 * n + k)) (fun k => Nm 10 (8 * n + k)) z) := by
            refine lp_at (fun i => ((taS (fun k => Nm 9 (8 * n + k)) (fun k => Nm 10 (8 * n + k)) i).1, (taS (fun k => Nm 9 (8 * n + k)) (fun k => Nm 10 (8 * n + k)) i).2.1, (taS (fun k => Nm 9 (8 * n + k)) (fun k => Nm 10 (8 * n + k)) i).2.2, nI (8 * n + i))) z (by rw [li_8, pk_mul]; rfl) (by omega) (fun i hk => ?_) ?_
            · obtain ⟨e1, e2, e3⟩ := e i hk
              show fX12_all_53b (nI n) y _ _ _ (nI (8 * n + i)) Nm = _
              unfold fX12_all_53b fX12_all_53b_85 fX12_all_53b_111 fX12_all_53b_140
              rw [pb_in q (by decide), if_pos rfl, nI_clamp (by omega), d, li_8, pk_mul, nI_add, if_neg (fun w => by have := (nI_leI (by omega) (by omega)).mp w; omega), pb_in (by omega) (by decide), if_pos rfl, nI_clamp (by omega), show nI (8 * n + i) + 1 = nI (8 * n + (i + 1)) from nI_add _ 1]
              show _ = some (Sum.inl ((taS _ _ (i + 1)).1, (taS _ _ (i + 1)).2.1, (taS _ _ (i + 1)).2.2, nI (8 * n + (i + 1))))
              rw [taS]
              rcases e3 with q0 | q0 | q0
              · simp [q0]
              · simp [q0]
              · simp [q0]
            · show fX12_all_53b (nI n) y _ _ _ (nI (8 * n + z)) Nm = _
              unfold fX12_all_53b
              rw [pb_in q (by decide), if_pos rfl, nI_clamp (by omega), d, li_8, pk_mul, nI_add, if_pos ((nI_leI (by omega) (by omega)).mpr (Nat.le_refl _))]
          rw [eM _ rfl, d, if_pos (ge0 (by omega)), lm]
          unfold fX9_together
          rw [a, if_neg (by decide), lc, Option.bind_some, Option.bind_some]
          by_cases q0 : y = 0
          · rw [if_pos q0, if_pos q0]; exact ⟨_, rfl, rfl⟩
          · by_cases q1 : y = 1
            · rw [if_neg q0, if_pos q1, if_neg q0, if_pos q1]; exact ⟨_, rfl, rfl⟩
            · rw [if_neg q0, if_neg q1, if_neg q0, if_neg q1]; exact ⟨_, rfl, rfl⟩
      · refine ⟨-3, ?_, ?_⟩
        · unfold fX11_all; rw [tc_isTray hn, if_pos q, Option.bind_some, if_neg (by decide), k1]; rfl
        · unfold fX12_all; rw [tm_isTray hn, if_pos q, Option.bind_some, if_neg (by decide), k2]; rfl
    · refine ⟨-2, ?_, ?_⟩
      · unfold fX11_all; rw [tc_isTray hn, if_neg q]; rfl
      · unfold fX12_all; rw [tm_isTray hn, if_neg q]; rfl
theorem tr_things (h : trA Nc Nm) : ∃ r, fX11_thingsOfAllTrays Nc = some r ∧ fX12_allThings Nm = some r := by
  refine ⟨0 + Nc 111 1 + Nc 114 1 + Nc 117 1, ?_, ?_⟩
  · have hl : ux_lp (fun s : Int32 × Int32 => fX11_thingsOfAllTrays_4b s.1 s.2 Nc) ux_fu ((0 : Int32), (0 : Int32)) = some (0 + Nc 111 1 + Nc 114 1 + Nc 117 1) := by
      refine lp_at (fun i => (match i with | 0 => (0, nI 0) | 1 => (0 + Nc 111 1, nI 1) | 2 => (0 + Nc 111 1 + Nc 114 1, nI 2) | _ => (0 + Nc 111 1 + Nc 114 1 + Nc 117 1, nI 3))) 3 rfl (by decide) (fun i hi => ?_) rfl
      rcases (show i = 0 ∨ i = 1 ∨ i = 2 by omega) with rfl | rfl | rfl <;> rfl
    unfold fX11_thingsOfAllTrays
    rw [hl]; rfl
  · have hz : ∀ t, t < 3 → (0 ≤ Nm 8 t ∧ Nm 8 t = Nc (111 + 3 * t) 1) ∨ (¬ 0 ≤ Nm 8 t ∧ 0 = Nc (111 + 3 * t) 1) := fun t ht => by
      rcases h t ht with ⟨a, b, c⟩ | ⟨a, z, b, c, d, _⟩
      · exact Or.inr ⟨by rw [c]; exact m1_ge0, b.symm⟩
      · exact Or.inl ⟨by rw [d]; exact ge0 (by omega), by rw [c, d]⟩
    have st : ∀ (t : Nat) (v : Int32), t < 3 → fX12_allThings_4b v (nI t) Nm = some (.inl (v + Nc (111 + 3 * t) 1, nI (t + 1))) := fun t v ht => by
      unfold fX12_allThings_4b fX12_allThings_4b_29
      rw [if_neg (fun w => by have := (nI_leI (a := 3) (by decide) (by omega)).mp w; omega), pb_in ht (by decide), if_pos rfl, nI_clamp (by omega), show nI t + 1 = nI (t + 1) from nI_add t 1]
      rcases hz t ht with ⟨p, q⟩ | ⟨p, q⟩
      · rw [if_pos p, if_pos rfl, q]
      · rw [if_neg p, q]
    have hl : ux_lp (fun s : Int32 × Int32 => fX12_allThings_4b s.1 s.2 Nm) ux_fu ((0 : Int32), (0 : Int32)) = some (0 + Nc 111 1 + Nc 114 1 + Nc 117 1) := by
      refine lp_at (fun i => (match i with | 0 => (0, nI 0) | 1 => (0 + Nc 111 1, nI 1) | 2 => (0 + Nc 111 1 + Nc 114 1, nI 2) | _ => (0 + Nc 111 1 + Nc 114 1 + Nc 117 1, nI 3))) 3 rfl (by decide) (fun i hi => ?_) rfl
      rcases (show i = 0 ∨ i = 1 ∨ i = 2 by omega) with rfl | rfl | rfl
      · exact st 0 _ (by decide)
      · exact st 1 _ (by decide)
      · exact st 2 _ (by decide)
    unfold fX12_allThings
    rw [hl]; rfl
end TRD
