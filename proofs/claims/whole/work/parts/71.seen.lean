/-! what was seen; the text's letters -/
def seI (Nc Nm : ux_N) : Prop := ∃ sz sa sl, seB sz sa sl ∧ seCc Nc sz sa sl ∧ seMm Nm sz sa sl
theorem seI_fr {Nc Nm Nc' Nm' : ux_N} (h : seI Nc Nm) (c7 : Nc' 107 = Nc 107) (c8 : Nc' 108 = Nc 108) (c9 : Nc' 109 = Nc 109) (m0 : Nm' 0 12 = Nm 0 12) (m6 : Nm' 6 = Nm 6) (m7 : Nm' 7 = Nm 7) : seI Nc' Nm' := by
  obtain ⟨sz, sa, sl, a, b, c⟩ := h
  refine ⟨sz, sa, sl, a, ?_, ?_⟩
  · unfold seCc; rw [c7, c8, c9]; exact b
  · unfold seMm; rw [m0, m6, m7]; exact c
def txI (Nc Nm : ux_N) (lt : Nat) (tx : Nat → Nat) : Prop := lt ≤ 200 ∧ Nc 9 0 = nI lt ∧ Nm 0 9 = nI lt ∧ ∀ k, k < lt → Nc 18 k = nI (tx k) ∧ Nm 5 k = nI (tx k) ∧ tx k ≤ 255
theorem txI_fr {Nc Nm Nc' Nm' : ux_N} {lt : Nat} {tx : Nat → Nat} (h : txI Nc Nm lt tx) (c9 : Nc' 9 0 = Nc 9 0) (c18 : Nc' 18 = Nc 18) (m0 : Nm' 0 9 = Nm 0 9) (m5 : Nm' 5 = Nm 5) : txI Nc' Nm' lt tx := by
  unfold txI
  rw [c9, c18, m0, m5]
  exact h
section SEN
variable {Nc Nm : ux_N}
theorem in_lo {z : Int32} (x : Int32) : fX12_in x.toInt64 (0 : Int64) z.toInt64 = some (if x < 0 ∨ z < x then 0 else 1) := by
  rw [show (0 : Int64) = (0 : Int32).toInt64 from rfl, in_c]
theorem se_seen (h : seI Nc Nm) (x y : Int32) : ∃ r Nc' Nm', fX11_seen x y Nc = some (r, Nc') ∧ fX12_seen x y Nm = some (r, Nm') ∧ seI Nc' Nm' ∧ (∀ a, a < 107 ∨ 110 ≤ a → Nc' a = Nc a) ∧ (∀ a, a ≠ 0 → a ≠ 6 → a ≠ 7 → Nm' a = Nm a) ∧ (∀ j, j ≠ 12 → Nm' 0 j = Nm 0 j) := by
  have e9 : fX12_in x.toInt64 (0 : Int64) (9 : Int64) = some (if x < 0 ∨ 9 < x then 0 else 1) := by
    rw [show (9 : Int64) = (9 : Int32).toInt64 from by decide, in_lo]
  have e1023 : fX12_in y.toInt64 (0 : Int64) (1023 : Int64) = some (if y < 0 ∨ 1023 < y then 0 else 1) := by
    rw [show (1023 : Int64) = (1023 : Int32).toInt64 from by decide, in_lo]
  have same : ∀ r, fX11_seen x y Nc = some (r, Nc) → fX12_seen x y Nm = some (r, Nm) → ∃ r Nc' Nm', fX11_seen x y Nc = some (r, Nc') ∧ fX12_seen x y Nm = some (r, Nm') ∧ seI Nc' Nm' ∧ (∀ a, a < 107 ∨ 110 ≤ a → Nc' a = Nc a) ∧ (∀ a, a ≠ 0 → a ≠ 6 → a ≠ 7 → Nm' a = Nm a) ∧ (∀ j, j ≠ 12 → Nm' 0 j = Nm 0 j) := fun r h1 h2 => ⟨r, Nc, Nm, h1, h2, h, fun _ _ => rfl, fun _ _ _ _ => rfl, fun _ _ => rfl⟩
  by_cases q1 : x < 0
  · refine same (-3) ?_ ?_
    · unfold fX11_seen; rw [if_pos q1]; rfl
    · unfold fX12_seen; rw [e9, if_pos (Or.inl q1)]; rfl
  by_cases q2 : 9 < x
  · refine same (-3) ?_ ?_
    · unfold fX11_seen; rw [if_neg q1, if_pos q2]; rfl
    · unfold fX12_seen; rw [e9, if_pos (Or.inr q2)]; rfl
  by_cases q3 : y < 0
  · refine same (-3) ?_ ?_
    · unfold fX11_seen; rw [if_neg q1, if_neg q2, if_pos q3]; rfl
    · unfold fX12_seen; rw [e9, if_neg (fun z => z.elim q1 q2), e1023, if_pos (Or.inl q3)]; rfl
  by_cases q4 : 1023 < y
  · have q5 : ¬ y ≤ 1023 := by rw [fa_le]; rw [fa_lt] at q4; omega
    refine same (-3) ?_ ?_
    · unfold fX11_seen; rw [if_neg q1, if_neg q2, if_neg q3, if_neg q5]; rfl
    · unfold fX12_seen; rw [e9, if_neg (fun z => z.elim q1 q2), e1023, if_pos (Or.inr q4)]; rfl
  have q5 : y ≤ 1023 := by rw [fa_le]; rw [fa_lt] at q4; omega
  obtain ⟨n, hn, rfl⟩ : ∃ n, n < 2 ^ 31 ∧ x = nI n := (i32_cases x).resolve_left q1
  obtain ⟨k, hk, rfl⟩ : ∃ n, n < 2 ^ 31 ∧ y = nI n := (i32_cases y).resolve_left q3
  have n10 : n < 10 := by
    have : ¬ nI 9 < nI n := q2
    rw [nI_ltI (by decide) hn] at this
    omega
  have k10 : k < 1024 := by
    have : nI k ≤ nI 1023 := q5
    rw [nI_leI hk (by decide)] at this
    omega
  have fc : fX11_seen (nI n) (nI k) Nc = (fX7_add (nI n) (nI k) Nc).bind (fun o5 => if o5.1 = 0 then (fX11_seen_48 (-5 : Int32) o5.2) else (fX11_seen_48 (o5.2 107 0) o5.2)) := by
    unfold fX11_seen; rw [if_neg q1, if_neg q2, if_neg q3, if_pos q5]
  have fm : ∀ o, (if (Nm 0 12) = (6 : Int32) then (some ((-5 : Int32), Nm)) else (if ux_in (Nm 0 12) 6 then (if ux_in ((ux_u Nm 6 ((Nm 0 12).toNatClampNeg) (nI n)) 0 12) 6 then (fX12_seen_69 (ux_u (ux_u (ux_u Nm 6 ((Nm 0 12).toNatClampNeg) (nI n)) 7 (((ux_u Nm 6 ((Nm 0 12).toNatClampNeg) (nI n)) 0 12).toNatClampNeg) (nI k)) 0 12 (((ux_u (ux_u Nm 6 ((Nm 0 12).toNatClampNeg) (nI n)) 7 (((ux_u Nm 6 ((Nm 0 12).toNatClampNeg) (nI n)) 0 12).toNatClampNeg) (nI k)) 0 12) + (1 : Int32)))) else none) else none)) = o → fX12_seen (nI n) (nI k) Nm = o := fun o ho => by
    unfold fX12_seen
    rw [e9, if_neg (fun z => z.elim q1 q2), Option.bind_some, if_neg (by decide), e1023, if_neg (fun z => z.elim q3 q4), Option.bind_some, if_neg (by decide)]
    exact ho
  obtain ⟨sz, sa, sl, a, ⟨b1, b2⟩, ⟨c1, c2⟩⟩ := h
  have a1 := a.1
  by_cases z6 : sz = 6
  · subst z6
    refine ⟨-5, Nc, Nm, ?_, fm _ ?_, ⟨6, sa, sl, a, ⟨b1, b2⟩, ⟨c1, c2⟩⟩, fun _ _ => rfl, fun _ _ _ _ => rfl, fun _ _ => rfl⟩
    · rw [fc]; unfold fX7_add; rw [b1, if_neg (by decide)]; rfl
    · rw [c1, if_pos (show nI 6 = (6 : Int32) from rfl)]
  · have z5 : sz < 6 := by omega
    have i1 : nI sz + (1 : Int32) = nI (sz + 1) := nI_add sz 1
    refine ⟨nI (sz + 1), ux_u (ux_u (ux_u Nc 108 sz (nI n)) 109 sz (nI k)) 107 0 (nI (sz + 1)), ux_u (ux_u (ux_u Nm 6 sz (nI n)) 7 sz (nI k)) 0 12 (nI (sz + 1)), ?_, fm _ ?_, ⟨sz + 1, fun j => if j = sz then n else sa j, fun j => if j = sz then k else sl j, ⟨by omega, fun j hj => ?_⟩, ⟨?_, fun j hj => ?_⟩, ⟨?_, fun j hj => ?_⟩⟩, fun a ha => ?_, fun a h0 h6 h7 => ?_, fun j hj => ?_⟩
    · rw [fc]
      unfold fX7_add fX7_add_41
      rw [b1, if_pos (show _ < (6 : Int32) from (nI_ltI (b := 6) (by omega) (by decide)).mpr z5), pb_in z5 (by decide), if_pos rfl, nI_clamp (by omega), uu_ne _ _ _ (by decide : (107 : Nat) ≠ 108), b1, pb_in z5 (by decide), if_pos rfl, nI_clamp (by omega), uu_ne _ _ _ (by decide : (107 : Nat) ≠ 109), uu_ne _ _ _ (by decide : (107 : Nat) ≠ 108), b1, i1, Option.bind_some, if_neg (show ¬ (1 : Int32) = 0 from by decide)]
      unfold fX11_seen_48
      dsimp only
      rw [uu_same, if_pos rfl]
    · rw [c1, if_neg (show ¬ _ = (6 : Int32) from fun w => z6 ((nI_eq (b := 6) (by omega) (by decide)).mp w)), pb_in z5 (by decide), if_pos rfl, nI_clamp (by omega), uu_ne _ _ _ (by decide : (0 : Nat) ≠ 6), c1, pb_in z5 (by decide), if_pos rfl, nI_clamp (by omega), uu_ne _ _ _ (by decide : (0 : Nat) ≠ 7), uu_ne _ _ _ (by decide : (0 : Nat) ≠ 6), c1, i1]
      show some (ux_u _ 0 12 (nI (sz + 1)) 0 12, _) = _
      rw [uu_same, if_pos rfl]
    · show (if j = sz then n else sa j) < 10 ∧ (if j = sz then k else sl j) < 1024
      by_cases ej : j = sz
      · rw [if_pos ej, if_pos ej]; exact ⟨n10, k10⟩
      · rw [if_neg ej, if_neg ej]; exact a.2 j (by omega)
    · rw [uu_same, if_pos rfl]
    · show _ = nI (if j = sz then n else sa j) ∧ _ = nI (if j = sz then k else sl j)
      rw [uu_ne _ _ _ (by decide : (108 : Nat) ≠ 107), uu_ne _ _ _ (by decide : (108 : Nat) ≠ 109), uu_ne _ _ _ (by decide : (109 : Nat) ≠ 107), uu_same, uu_same]
      by_cases ej : j = sz
      · rw [if_pos ej, if_pos ej, if_pos ej, if_pos ej]; exact ⟨rfl, rfl⟩
      · rw [if_neg ej, if_neg ej, if_neg ej, if_neg ej, uu_ne _ _ _ (by decide : (109 : Nat) ≠ 108)]; exact b2 j (by omega)
    · rw [uu_same, if_pos rfl]
    · show _ = nI (if j = sz then n else sa j) ∧ _ = nI (if j = sz then k else sl j)
      rw [uu_ne _ _ _ (by decide : (6 : Nat) ≠ 0), uu_ne _ _ _ (by decide : (6 : Nat) ≠ 7), uu_ne _ _ _ (by decide : (7 : Nat) ≠ 0), uu_same, uu_same]
      by_cases ej : j = sz
      · rw [if_pos ej, if_pos ej, if_pos ej, if_pos ej]; exact ⟨rfl, rfl⟩
      · rw [if_neg ej, if_neg ej, if_neg ej, if_neg ej, uu_ne _ _ _ (by decide : (7 : Nat) ≠ 6)]; exact c2 j (by omega)
    · rw [uu_ne _ _ _ (by omega), uu_ne _ _ _ (by omega), uu_ne _ _ _ (by omega)]
    · rw [uu_ne _ _ _ h0, uu_ne _ _ _ h7, uu_ne _ _ _ h6]
    · rw [uu_same, if_neg hj, uu_ne _ _ _ (by decide), uu_ne _ _ _ (by decide)]
theorem se_forget (h : seI Nc Nm) : ∃ r, fX11_forget Nc = some (r, ux_u Nc 107 0 0) ∧ fX12_forget Nm = some (r, ux_u Nm 0 12 0) ∧ seI (ux_u Nc 107 0 0) (ux_u Nm 0 12 0) := by
  obtain ⟨sz, sa, sl, a, ⟨b1, b2⟩, ⟨c1, c2⟩⟩ := h
  refine ⟨nI sz, ?_, ?_, 0, sa, sl, ⟨by decide, fun k hk => by omega⟩, ⟨by rw [uu_same, if_pos rfl]; rfl, fun k hk => by omega⟩, ⟨by rw [uu_same, if_pos rfl]; rfl, fun k hk => by omega⟩⟩
  · unfold fX11_forget; rw [b1]
  · unfold fX12_forget; rw [c1]
theorem nar_ch : ∀ n, n < 256 → vp_nar .char (((nI n).toUInt32 % 65536).toInt32) = nI n := by decide +kernel
theorem tx_write {lt : Nat} {tx : Nat → Nat} (h : txI Nc Nm lt tx) (x : Int32) : ∃ r Nc' Nm' lt' tx', fX11_write x Nc = some (r, Nc') ∧ fX12_write x Nm = some (r, Nm') ∧ txI Nc' Nm' lt' tx' ∧ (∀ a, a ≠ 9 → a ≠ 18 → Nc' a = Nc a) ∧ (∀ a, a ≠ 0 → a ≠ 5 → Nm' a = Nm a) ∧ (∀ j, j ≠ 0 → Nc' 9 j = Nc 9 j) ∧ (∀ j, j ≠ 9 → Nm' 0 j = Nm 0 j) := by
  have e255 : fX12_in x.toInt64 (0 : Int64) (255 : Int64) = some (if x < 0 ∨ 255 < x then 0 else 1) := by
    rw [show (255 : Int64) = (255 : Int32).toInt64 from by decide, in_lo]
  have same : ∀ r, fX11_write x Nc = some (r, Nc) → fX12_write x Nm = some (r, Nm) → ∃ r Nc' Nm' lt' tx', fX11_write x Nc = some (r, Nc') ∧ fX12_write x Nm = some (r, Nm') ∧ txI Nc' Nm' lt' tx' ∧ (∀ a, a ≠ 9 → a ≠ 18 → Nc' a = Nc a) ∧ (∀ a, a ≠ 0 → a ≠ 5 → Nm' a = Nm a) ∧ (∀ j, j ≠ 0 → Nc' 9 j = Nc 9 j) ∧ (∀ j, j ≠ 9 → Nm' 0 j = Nm 0 j) := fun r h1 h2 => ⟨r, Nc, Nm, lt, tx, h1, h2, h, fun _ _ _ => rfl, fun _ _ _ => rfl, fun _ _ => rfl, fun _ _ => rfl⟩
  obtain ⟨l1, l2, l3, l4⟩ := h
  by_cases q1 : x < 0
  · refine same (-3) ?_ ?_
    · unfold fX11_write; rw [if_pos q1]; rfl
    · unfold fX12_write; rw [e255, if_pos (Or.inl q1)]; rfl
  by_cases q2 : 255 < x
  · have q3 : ¬ x ≤ 255 := by rw [fa_le]; rw [fa_lt] at q2; omega
    refine same (-3) ?_ ?_
    · unfold fX11_write; rw [if_neg q1, if_neg q3]; rfl
    · unfold fX12_write; rw [e255, if_pos (Or.inr q2)]; rfl
  have q3 : x ≤ 255 := by rw [fa_le]; rw [fa_lt] at q2; omega
  obtain ⟨n, hn, rfl⟩ : ∃ n, n < 2 ^ 31 ∧ x = nI n := (i32_cases x).resolve_left q1
  have n255 : n ≤ 255 := (nI_leI (b := 255) hn (by decide)).mp q3
  by_cases z : lt = 200
  · subst z
    refine same (-5) ?_ ?_
    · unfold fX11_write fX4_append; rw [if_neg q1, if_pos q3, l2, if_neg (by decide)]; rfl
    · unfold fX12_write; rw [e255, if_neg (fun z => z.elim q1 q2), Option.bind_some, if_neg (by decide), l3, if_pos (show nI 200 = (200 : Int32) from rfl)]
  · have zl : lt < 200 := by omega
    have i1 : nI lt + (1 : Int32) = nI (lt + 1) := nI_add lt 1
    refine ⟨nI (lt + 1), ux_u (ux_u Nc 18 lt (nI n)) 9 0 (nI (lt + 1)), ux_u (ux_u Nm 5 lt (nI n)) 0 9 (nI (lt + 1)), lt + 1, fun j => if j = lt then n else tx j, ?_, ?_, ⟨by omega, ?_, ?_, fun k hk => ?_⟩, fun a h9 h18 => ?_, fun a h0 h5 => ?_, fun j hj => ?_, fun j hj => ?_⟩
    · unfold fX11_write fX4_append
      rw [if_neg q1, if_pos q3, l2, if_pos (show _ < (200 : Int32) from (nI_ltI (b := 200) (by omega) (by decide)).mpr zl), pb_in zl (by decide), if_pos rfl, nI_clamp (by omega), nar_ch n (by omega), uu_ne _ _ _ (by decide : (9 : Nat) ≠ 18), l2, i1, Option.bind_some, if_neg (show ¬ (1 : Int32) = 0 from by decide)]
      unfold fX11_write_38
      dsimp only
      rw [uu_same, if_pos rfl]
    · unfold fX12_write
      rw [e255, if_neg (fun z => z.elim q1 q2), Option.bind_some, if_neg (by decide), l3, if_neg (show ¬ _ = (200 : Int32) from fun w => z ((nI_eq (b := 200) (by omega) (by decide)).mp w)), pb_in zl (by decide), if_pos rfl, nI_clamp (by omega), uu_ne _ _ _ (by decide : (0 : Nat) ≠ 5), l3, i1, uu_same, if_pos rfl]
    · rw [uu_same, if_pos rfl]
    · rw [uu_same, if_pos rfl]
    · show _ = nI (if k = lt then n else tx k) ∧ _ = nI (if k = lt then n else tx k) ∧ (if k = lt then n else tx k) ≤ 255
      rw [uu_ne _ _ _ (by decide : (18 : Nat) ≠ 9), uu_ne _ _ _ (by decide : (5 : Nat) ≠ 0), uu_same, uu_same]
      by_cases ek : k = lt
      · rw [if_pos ek, if_pos ek, if_pos ek]; exact ⟨rfl, rfl, n255⟩
      · rw [if_neg ek, if_neg ek, if_neg ek]; exact l4 k (by omega)
    · rw [uu_ne _ _ _ h9, uu_ne _ _ _ h18]
    · rw [uu_ne _ _ _ h0, uu_ne _ _ _ h5]
    · rw [uu_same, if_neg hj, uu_ne _ _ _ (by decide)]
    · rw [uu_same, if_neg hj, uu_ne _ _ _ (by decide)]
theorem tx_erase {lt : Nat} {tx : Nat → Nat} (h : txI Nc Nm lt tx) : fX11_erase Nc = some (nI lt, ux_u Nc 9 0 0) ∧ fX12_erase Nm = some (nI lt, ux_u Nm 0 9 0) ∧ txI (ux_u Nc 9 0 0) (ux_u Nm 0 9 0) 0 tx := by
  obtain ⟨l1, l2, l3, l4⟩ := h
  refine ⟨?_, ?_, by decide, by rw [uu_same, if_pos rfl]; rfl, by rw [uu_same, if_pos rfl]; rfl, fun k hk => by omega⟩
  · unfold fX11_erase fX4_empty; rw [l2]; rfl
  · unfold fX12_erase; rw [l3]
end SEN
