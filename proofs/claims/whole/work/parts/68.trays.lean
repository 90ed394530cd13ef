/-! trays -/
def trI (Nc Nm : ux_N) (t : Nat) : Prop :=
  (Nc (111 + 3 * t) 0 = 0 ∧ Nc (111 + 3 * t) 1 = 0 ∧ Nm 8 t = -1) ∨ (Nc (111 + 3 * t) 0 = 1 ∧ ∃ z, z ≤ 8 ∧ Nc (111 + 3 * t) 1 = nI z ∧ Nm 8 t = nI z ∧ ∀ k, k < z → Nc (111 + 3 * t + 1) k = Nm 9 (8 * t + k) ∧ Nc (111 + 3 * t + 2) k = Nm 10 (8 * t + k) ∧ (Nm 9 (8 * t + k) = 0 ∨ Nm 9 (8 * t + k) = 1 ∨ Nm 9 (8 * t + k) = 2))
def trA (Nc Nm : ux_N) : Prop := ∀ t, t < 3 → trI Nc Nm t
theorem trA_fr {Nc Nm Nc' Nm' : ux_N} (h : trA Nc Nm) (h1 : ∀ a, 111 ≤ a → a < 120 → Nc' a = Nc a) (h2 : Nm' 8 = Nm 8) (h3 : Nm' 9 = Nm 9) (h4 : Nm' 10 = Nm 10) : trA Nc' Nm' := fun t ht => by
  unfold trI
  rw [h1 (111 + 3 * t) (by omega) (by omega), h1 (111 + 3 * t + 1) (by omega) (by omega), h1 (111 + 3 * t + 2) (by omega) (by omega), h2, h3, h4]
  exact h t ht
theorem trI_fr {Nc Nm Nc' Nm' : ux_N} {t : Nat} (h : trI Nc Nm t) (h1 : ∀ a, 111 + 3 * t ≤ a → a < 111 + 3 * t + 3 → Nc' a = Nc a) (h2 : Nm' 8 t = Nm 8 t) (h3 : ∀ k, k < 8 → Nm' 9 (8 * t + k) = Nm 9 (8 * t + k)) (h4 : ∀ k, k < 8 → Nm' 10 (8 * t + k) = Nm 10 (8 * t + k)) : trI Nc' Nm' t := by
  unfold trI at h ⊢
  rw [h1 (111 + 3 * t) (by omega) (by omega), h1 (111 + 3 * t + 1) (by omega) (by omega), h1 (111 + 3 * t + 2) (by omega) (by omega), h2]
  rcases h with h | ⟨a, z, b, c, d, e⟩
  · exact Or.inl h
  · exact Or.inr ⟨a, z, b, c, d, fun k hk => by rw [h3 k (by omega), h4 k (by omega)]; exact e k hk⟩
theorem tc_isTray {n : Nat} (hn : n < 2 ^ 31) : fX11_isTray (nI n) = some (if n < 3 then 1 else 0) := by
  unfold fX11_isTray
  rw [if_neg (pb_lt0 hn)]
  by_cases q : n < 3
  · rw [if_pos q, if_neg (fun z => by have := (nI_leI (a := 3) (by decide) hn).mp z; omega)]; rfl
  · rw [if_neg q, if_pos (show (3 : Int32) ≤ nI n from (nI_leI (a := 3) (by decide) hn).mpr (by omega))]; rfl
theorem tc_isTrayN {x : Int32} (hx : x < 0) : fX11_isTray x = some 0 := by
  unfold fX11_isTray
  rw [if_pos hx]; rfl
theorem in_lit {x : Int32} (y z : Int32) : fX12_in x.toInt64 y.toInt64 z.toInt64 = some (if y ≤ x ∧ x ≤ z then 1 else 0) := pm_in x y z
theorem tm_isTray {n : Nat} (hn : n < 2 ^ 31) : fX12_isTray (nI n) = some (if n < 3 then 1 else 0) := by
  unfold fX12_isTray
  have e : fX12_in (nI n).toInt64 (0 : Int64) (2 : Int64) = some (if n < 3 then 1 else 0) := by
    rw [show (2 : Int64) = (nI 3 - (1 : Int32)).toInt64 from by decide]
    exact in_m1 hn (by decide)
  rw [e, Option.bind_some, ub_if, if_pos rfl]
theorem tm_isTrayN {x : Int32} (hx : x < 0) : fX12_isTray x = some 0 := by
  unfold fX12_isTray
  rw [show (2 : Int64) = (2 : Int32).toInt64 from rfl, in_neg hx]; rfl
/-- a call's answers agree and the trays still do -/
def trQ (Nc Nm : ux_N) (c m : Option (Int32 × ux_N)) : Prop := ∃ r Nc' Nm', c = some (r, Nc') ∧ m = some (r, Nm') ∧ trA Nc' Nm' ∧ (∀ a, a < 111 → Nc' a = Nc a) ∧ ∀ a, a ≠ 8 → a ≠ 9 → a ≠ 10 → Nm' a = Nm a
section TRA
variable {Nc Nm : ux_N}
theorem trQ_same {c m : Option (Int32 × ux_N)} (h : trA Nc Nm) (r : Int32) (e1 : c = some (r, Nc)) (e2 : m = some (r, Nm)) : trQ Nc Nm c m := ⟨r, Nc, Nm, e1, e2, h, fun _ _ => rfl, fun _ _ _ _ => rfl⟩
theorem tr_tray (h : trA Nc Nm) (x : Int32) : trQ Nc Nm (fX11_tray x Nc) (fX12_tray x Nm) := by
  rcases i32_cases x with hx | ⟨n, hn, rfl⟩
  · refine trQ_same h (-2) ?_ ?_
    · unfold fX11_tray; rw [tc_isTrayN hx]; rfl
    · unfold fX12_tray; rw [tm_isTrayN hx]; rfl
  · by_cases q : n < 3
    · refine ⟨0, ux_u (ux_u Nc (111 + 3 * n) 0 1) (111 + 3 * n) 1 0, ux_u Nm 8 n 0, ?_, ?_, fun t ht => ?_, fun a ha => ?_, fun a h8 h9 h10 => uu_ne _ _ _ h8⟩
      · unfold fX11_tray
        rw [tc_isTray hn, if_pos q, Option.bind_some, if_neg (by decide), pb_in q (by decide), if_pos rfl, nI_clamp (by omega)]
        rfl
      · unfold fX12_tray
        rw [tm_isTray hn, if_pos q, Option.bind_some, if_neg (by decide), pb_in q (by decide), if_pos rfl, nI_clamp (by omega)]
      · by_cases e : t = n
        · subst e
          refine Or.inr ⟨?_, 0, by decide, ?_, ?_, fun k hk => by omega⟩
          · rw [uu_same, if_neg (by decide), uu_same, if_pos rfl]
          · rw [uu_same, if_pos rfl]; rfl
          · rw [uu_same, if_pos rfl]; rfl
        · refine trI_fr (h t ht) (fun a h1 h2 => ?_) ?_ (fun k hk => ?_) (fun k hk => ?_)
          · rw [uu_ne _ _ _ (by omega), uu_ne _ _ _ (by omega)]
          · rw [uu_same, if_neg e]
          · rw [uu_ne _ _ _ (by decide)]
          · rw [uu_ne _ _ _ (by decide)]
      · rw [uu_ne _ _ _ (by omega), uu_ne _ _ _ (by omega)]
    · refine trQ_same h (-2) ?_ ?_
      · unfold fX11_tray; rw [tc_isTray hn, if_neg q]; rfl
      · unfold fX12_tray; rw [tm_isTray hn, if_neg q]; rfl
theorem ge0 {z : Nat} (h : z < 2 ^ 31) : (0 : Int32) ≤ nI z := (nI_leI (a := 0) (by decide) h).mpr (Nat.zero_le _)
theorem m1_ge0 : ¬ (0 : Int32) ≤ -1 := by decide
theorem tr_drop (h : trA Nc Nm) (x : Int32) : trQ Nc Nm (fX11_drop x Nc) (fX12_drop x Nm) := by
  rcases i32_cases x with hx | ⟨n, hn, rfl⟩
  · refine trQ_same h (-2) ?_ ?_
    · unfold fX11_drop; rw [tc_isTrayN hx]; rfl
    · unfold fX12_drop; rw [tm_isTrayN hx]; rfl
  · by_cases q : n < 3
    · have other : ∀ Nc' : ux_N, (∀ a, a ≠ 111 + 3 * n → Nc' a = Nc a) → ∀ t, t < 3 → t ≠ n → trI Nc' (ux_u Nm 8 n (-1)) t := fun Nc' hN t ht e => by
        refine trI_fr (h t ht) (fun a h1 h2 => hN a (by omega)) ?_ (fun k hk => ?_) (fun k hk => ?_)
        · rw [uu_same, if_neg e]
        · rw [uu_ne _ _ _ (by decide)]
        · rw [uu_ne _ _ _ (by decide)]
      rcases h n q with ⟨a, b, c⟩ | ⟨a, z, b, c, d, _⟩
      · refine ⟨-11, Nc, ux_u Nm 8 n (-1), ?_, ?_, fun t ht => ?_, fun _ _ => rfl, fun a h8 h9 h10 => uu_ne _ _ _ h8⟩
        · unfold fX11_drop fX9_isMissing
          rw [tc_isTray hn, if_pos q, Option.bind_some, if_neg (by decide), pb_in q (by decide), if_pos rfl, nI_clamp (by omega), if_pos a]
          rfl
        · unfold fX12_drop
          rw [tm_isTray hn, if_pos q, Option.bind_some, if_neg (by decide), pb_in q (by decide), if_pos rfl, if_pos rfl, nI_clamp (by omega), c, if_neg m1_ge0]
          rfl
        · by_cases e : t = n
          · subst e
            exact Or.inl ⟨a, b, by rw [uu_same, if_pos rfl]⟩
          · exact other Nc (fun _ _ => rfl) t ht e
      · refine ⟨nI z, ux_u (ux_u Nc (111 + 3 * n) 0 0) (111 + 3 * n) 1 0, ux_u Nm 8 n (-1), ?_, ?_, fun t ht => ?_, fun a ha => ?_, fun a h8 h9 h10 => uu_ne _ _ _ h8⟩
        · unfold fX11_drop fX9_isMissing fX9_things
          rw [tc_isTray hn, if_pos q, Option.bind_some, if_neg (by decide), pb_in q (by decide), if_pos rfl, nI_clamp (by omega), a, if_neg (by decide), c]
          rfl
        · unfold fX12_drop
          rw [tm_isTray hn, if_pos q, Option.bind_some, if_neg (by decide), pb_in q (by decide), if_pos rfl, if_pos rfl, nI_clamp (by omega), d, if_pos (ge0 (by omega))]
          rfl
        · by_cases e : t = n
          · subst e
            refine Or.inl ⟨?_, ?_, by rw [uu_same, if_pos rfl]⟩
            · rw [uu_same, if_neg (by decide), uu_same, if_pos rfl]
            · rw [uu_same, if_pos rfl]
          · exact other _ (fun a ha => by rw [uu_ne _ _ _ ha, uu_ne _ _ _ ha]) t ht e
        · rw [uu_ne _ _ _ (by omega), uu_ne _ _ _ (by omega)]
    · refine trQ_same h (-2) ?_ ?_
      · unfold fX11_drop; rw [tc_isTray hn, if_neg q]; rfl
      · unfold fX12_drop; rw [tm_isTray hn, if_neg q]; rfl
/-- the kinds -/
theorem tk_cases (x : Int32) : (fX11_isKind x = some 1 ∧ fX12_in x.toInt64 (0 : Int64) (2 : Int64) = some 1 ∧ (x = 0 ∨ x = 1 ∨ x = 2)) ∨ (fX11_isKind x = some 0 ∧ fX12_in x.toInt64 (0 : Int64) (2 : Int64) = some 0 ∧ x ≠ 0 ∧ x ≠ 1 ∧ x ≠ 2) := by
  rcases i32_cases x with hx | ⟨n, hn, rfl⟩
  · refine Or.inr ?_
    have n0 : x ≠ 0 := fun e => by rw [e] at hx; exact absurd hx (by decide)
    have n1 : x ≠ 1 := fun e => by rw [e] at hx; exact absurd hx (by decide)
    have n2 : x ≠ 2 := fun e => by rw [e] at hx; exact absurd hx (by decide)
    refine ⟨?_, by rw [show (2 : Int64) = (2 : Int32).toInt64 from rfl, in_neg hx], n0, n1, n2⟩
    unfold fX11_isKind
    rw [if_neg n0, if_neg n1, if_neg n2]; rfl
  · have e : fX12_in (nI n).toInt64 (0 : Int64) (2 : Int64) = some (if n < 3 then 1 else 0) := by
      rw [show (2 : Int64) = (nI 3 - (1 : Int32)).toInt64 from by decide]
      exact in_m1 hn (by decide)
    by_cases q : n < 3
    · refine Or.inl ?_
      rw [e, if_pos q]
      have hc : n = 0 ∨ n = 1 ∨ n = 2 := by omega
      rcases hc with rfl | rfl | rfl
      · exact ⟨rfl, rfl, Or.inl rfl⟩
      · exact ⟨rfl, rfl, Or.inr (Or.inl rfl)⟩
      · exact ⟨rfl, rfl, Or.inr (Or.inr rfl)⟩
    · refine Or.inr ?_
      rw [e, if_neg q]
      have n0 : nI n ≠ 0 := fun z => by have := (pb_eq0 hn).mp z; omega
      have n1 : nI n ≠ 1 := fun z => by have := (nI_eq (b := 1) hn (by decide)).mp z; omega
      have n2 : nI n ≠ 2 := fun z => by have := (nI_eq (b := 2) hn (by decide)).mp z; omega
      refine ⟨?_, rfl, n0, n1, n2⟩
      unfold fX11_isKind
      rw [if_neg n0, if_neg n1, if_neg n2]; rfl
end TRA
