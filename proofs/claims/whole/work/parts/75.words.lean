/-! words and numbers of a text -/
def wsz (w : Nat) : Nat := if wrd (5 * w + 4) = 0 then 4 else 5
def wdM (tx : Nat → Nat) (s e w : Nat) : Bool := (e - s == wsz w) && (List.range (wsz w)).all (fun k => tx (s + k) == wrd (5 * w + k))
def wdH (tx : Nat → Nat) (s e : Nat) : Nat := fa_first (wdM tx s e) 8
theorem ff_eq {P : Nat → Bool} {n w : Nat} (hw : w < n) (h1 : P w = true) (h2 : ∀ k, k < w → P k = false) : fa_first P n = w := by
  have hl := fa_first_le P n
  rcases Nat.lt_trichotomy (fa_first P n) w with h | h | h
  · have := fa_first_yes P n (by omega)
    rw [h2 _ h] at this; cases this
  · exact h
  · have := fa_first_no P n w h
    rw [h1] at this; cases this
theorem ff_none {P : Nat → Bool} {n : Nat} (h2 : ∀ k, k < n → P k = false) : fa_first P n = n := by
  have hl := fa_first_le P n
  by_cases h : fa_first P n < n
  · have := fa_first_yes P n h
    rw [h2 _ h] at this; cases this
  · omega
theorem wsz_b : ∀ w, w < 8 → wsz w = 4 ∨ wsz w = 5 := by decide
theorem wrd_let : ∀ w, w < 8 → kdc (wrd (5 * w)) = 1 := by decide
theorem wrd_b : ∀ k, k < 40 → wrd k < 256 := by decide
theorem wrd_dif : ∀ w, w < 8 → ∀ v, v < 8 → wsz w = wsz v → (∀ k, k < wsz w → wrd (5 * w + k) = wrd (5 * v + k)) → w = v := by decide
theorem wdM_iff {tx : Nat → Nat} {s e w : Nat} : wdM tx s e w = true ↔ e - s = wsz w ∧ ∀ k, k < wsz w → tx (s + k) = wrd (5 * w + k) := by
  unfold wdM
  rw [Bool.and_eq_true, beq_iff_eq, List.all_eq_true]
  constructor
  · intro ⟨a, b⟩
    exact ⟨a, fun k hk => beq_iff_eq.mp (b k (List.mem_range.mpr hk))⟩
  · intro ⟨a, b⟩
    exact ⟨a, fun k hk => beq_iff_eq.mpr (b k (List.mem_range.mp hk))⟩
theorem wdM_one {tx : Nat → Nat} {s e w v : Nat} (hw : w < 8) (hv : v < 8) (h1 : wdM tx s e w = true) (h2 : wdM tx s e v = true) : w = v := by
  obtain ⟨a1, a2⟩ := wdM_iff.mp h1
  obtain ⟨b1, b2⟩ := wdM_iff.mp h2
  have hs : wsz w = wsz v := by rw [← a1, b1]
  exact wrd_dif w hw v hv hs (fun k hk => by rw [← a2 k hk, b2 k (by omega)])
theorem wdH_iff {tx : Nat → Nat} {s e w : Nat} (hw : w < 8) : wdM tx s e w = true ↔ wdH tx s e = w := by
  constructor
  · intro h
    exact ff_eq hw h (fun k hk => by
      cases q : wdM tx s e k with
      | false => rfl
      | true => have := wdM_one (by omega) hw q h; omega)
  · intro h
    have := fa_first_yes (wdM tx s e) 8 (by unfold wdH at h; omega)
    unfold wdH at h
    rw [h] at this
    exact this
section WOR
variable {lt : Nat} {tx : Nat → Nat} {N : ux_N}
theorem lm_wordIn (h : txM N lt tx) (ho : woI N) {s e w : Nat} (hse : s ≤ e) (he : e ≤ lt) (h16 : N 0 16 = nI s) (hw : w < 8) (hsz : e - s = wsz w) : ux_lp (fun t : Int32 × Int32 => fX12_wordHere_49b (nI w) (nI (wsz w)) t.1 t.2 N) ux_fu ((1 : Int32), (0 : Int32)) = some (if wdM tx s e w = true then 1 else 0) := by
  obtain ⟨h1, h2, h3⟩ := h
  have zb := wsz_b w hw
  have hl : ∃ x, ux_lp (fun t : Int32 × Int32 => fX12_wordHere_49b (nI w) (nI (wsz w)) t.1 t.2 N) ux_fu ((1 : Int32), (0 : Int32)) = some x ∧ x = (if wdM tx s e w = true then 1 else 0) := by
    refine lp_inv (fun i t => t.2 = nI i ∧ ((t.1 = 1 ∧ ∀ k, k < i → tx (s + k) = wrd (5 * w + k)) ∨ (t.1 = 0 ∧ ¬ wdM tx s e w = true))) _ (wsz w) ⟨rfl, Or.inl ⟨rfl, fun k hk => by omega⟩⟩ (by omega) ?_ ?_
    · intro i ⟨v, j⟩ hk ⟨e1, e2⟩
      dsimp only at e1 e2 ⊢
      subst e1
      have nle : ¬ nI (wsz w) ≤ nI i := fun z => by have := (nI_leI (by omega) (by omega)).mp z; omega
      rcases e2 with ⟨rfl, e2⟩ | ⟨rfl, e2⟩
      · refine Or.inl ⟨(if tx (s + i) = wrd (5 * w + i) then 1 else 0, nI (i + 1)), ?_, rfl, ?_⟩
        · unfold fX12_wordHere_49b fX12_wordHere_49b_90
          have bx := (h3 (s + i) (by omega)).2
          have by5 := wrd_b (5 * w + i) (by omega)
          rw [if_neg nle, if_neg (by decide), h16, nI_add, pb_in (by omega) (by decide), if_pos rfl, li_5, pk_mul, nI_add, pb_in (by omega) (by decide), if_pos rfl, nI_clamp (by omega), nI_clamp (by omega), (h3 (s + i) (by omega)).1, ho _ (by omega), show nI i + 1 = nI (i + 1) from nI_add i 1]
          by_cases q : tx (s + i) = wrd (5 * w + i)
          · rw [if_pos (by rw [q]), if_pos q]
          · rw [if_neg (fun z => q ((nI_eq (by omega) (by omega)).mp z)), if_neg q]
        · by_cases q : tx (s + i) = wrd (5 * w + i)
          · refine Or.inl ⟨if_pos q, fun k hk => ?_⟩
            by_cases ek : k = i
            · subst ek; exact q
            · exact e2 k (by omega)
          · exact Or.inr ⟨if_neg q, fun z => q ((wdM_iff.mp z).2 i hk)⟩
      · refine Or.inr ⟨0, ?_, by rw [if_neg e2]⟩
        unfold fX12_wordHere_49b
        rw [if_neg nle, if_pos rfl]
    · intro ⟨v, j⟩ ⟨e1, e2⟩
      dsimp only at e1 e2 ⊢
      subst e1
      refine ⟨v, ?_, ?_⟩
      · unfold fX12_wordHere_49b
        rw [if_pos ((nI_leI (by omega) (by omega)).mpr (Nat.le_refl _))]
      · rcases e2 with ⟨rfl, e2⟩ | ⟨rfl, e2⟩
        · rw [if_pos (wdM_iff.mpr ⟨hsz, e2⟩)]
        · rw [if_neg e2]
  obtain ⟨x, a, b⟩ := hl
  rw [a, b]
theorem lm_word2b (h : txM N lt tx) (ho : woI N) {s e w : Nat} (hse : s ≤ e) (he : e ≤ lt) (h16 : N 0 16 = nI s) (h17 : N 0 17 = nI e) (hw : w < 8) : fX12_wordHere_2b (nI w) N = some (if wdM tx s e w = true then .inr (.inl (nI w)) else .inl (nI (w + 1))) := by
  have zb := wsz_b w hw
  have h1 := h.1
  have a1 : fX12_wordHere_2b (nI w) N = fX12_wordHere_2b_26 (nI w) (nI (wsz w)) N := by
    unfold fX12_wordHere_2b
    have bw := wrd_b (5 * w + 4) (by omega)
    rw [if_neg (fun z => by have := (nI_leI (a := 8) (by decide) (by omega)).mp z; omega), li_5, pk_mul, li_4, nI_add, pb_in (by omega) (by decide), if_pos rfl, nI_clamp (by omega), ho _ (by omega)]
    unfold wsz
    by_cases q : wrd (5 * w + 4) = 0
    · rw [if_pos (show nI (wrd (5 * w + 4)) = 0 from q ▸ rfl), if_pos q]
    · rw [if_neg (fun z => q ((pb_eq0 (by omega)).mp z)), if_neg q]
  have last : ∀ b : Bool, fX12_wordHere_2b_97 (nI w) (if b = true then 1 else 0) N = some (if b = true then .inr (.inl (nI w)) else .inl (nI (w + 1))) := fun b => by
    cases b with
    | true => rfl
    | false =>
      show some (Sum.inl (nI w + 1)) = some (Sum.inl (nI (w + 1)))
      rw [show nI w + 1 = nI (w + 1) from nI_add w 1]
  rw [a1]
  unfold fX12_wordHere_2b_26 fX12_wordHere_2b_45
  rw [h16, h17, pk_sub hse]
  by_cases q : e - s = wsz w
  · rw [if_pos (by rw [q]), lm_wordIn h ho hse he h16 hw q, Option.bind_some]
    exact last _
  · have nm : wdM tx s e w = false := Bool.eq_false_iff.mpr (fun z => q (wdM_iff.mp z).1)
    have l0 : ux_lp (fun t : Int32 × Int32 => fX12_wordHere_49b (nI w) (nI (wsz w)) t.1 t.2 N) ux_fu ((0 : Int32), (0 : Int32)) = some 0 := by
      refine lp_at (fun _ => ((0 : Int32), (0 : Int32))) 0 rfl (by decide) (fun i hi => by omega) ?_
      show fX12_wordHere_49b (nI w) (nI (wsz w)) 0 0 N = _
      unfold fX12_wordHere_49b
      rw [if_neg (show ¬ nI (wsz w) ≤ (0 : Int32) from fun z => by have := (pb_le0 (by omega)).mp z; omega), if_pos rfl]
    rw [if_neg (fun z => q ((nI_eq (by omega) (by omega)).mp z)), l0, Option.bind_some, nm]
    exact last false
theorem lm_wordHere (h : txM N lt tx) (ho : woI N) {s e : Nat} (hse : s ≤ e) (he : e ≤ lt) (h16 : N 0 16 = nI s) (h17 : N 0 17 = nI e) : fX12_wordHere N = some (if wdH tx s e < 8 then nI (wdH tx s e) else -1) := by
  have hl : ∃ x, ux_lp (fun t : Int32 => fX12_wordHere_2b t N) ux_fu (0 : Int32) = some x ∧ ((∃ w, w < 8 ∧ wdH tx s e = w ∧ x = .inl (nI w)) ∨ (wdH tx s e = 8 ∧ x = .inr ())) := by
    refine lp_inv (fun i t => t = nI i ∧ ∀ k, k < i → wdM tx s e k = false) _ 8 ⟨rfl, fun k hk => by omega⟩ (by decide) ?_ ?_
    · intro i t hk ⟨e1, e2⟩
      subst e1
      rw [lm_word2b h ho hse he h16 h17 hk]
      cases q : wdM tx s e i with
      | true =>
        exact Or.inr ⟨.inl (nI i), by rw [if_pos rfl], Or.inl ⟨i, hk, (wdH_iff hk).mp q, rfl⟩⟩
      | false =>
        refine Or.inl ⟨nI (i + 1), by rw [if_neg (by decide)], rfl, fun k hk2 => ?_⟩
        by_cases ek : k = i
        · subst ek; exact q
        · exact e2 k (by omega)
    · intro t ⟨e1, e2⟩
      subst e1
      refine ⟨.inr (), ?_, Or.inr ⟨ff_none e2, rfl⟩⟩
      unfold fX12_wordHere_2b
      rw [if_pos (show (8 : Int32) ≤ nI 8 from by decide)]
  obtain ⟨x, a, b⟩ := hl
  unfold fX12_wordHere
  rw [a]
  rcases b with ⟨w, b1, b2, rfl⟩ | ⟨b2, rfl⟩
  · rw [b2, if_pos b1]; rfl
  · rw [b2, if_neg (by decide)]; rfl
def cwJ (c : Nat) : Nat := [6, 7, 5, 0, 1, 2, 3, 4].getD c 0
theorem cw_b : ∀ c, c < 8 → cwJ c < 8 ∧ tb_len.getD c 0 = wsz (cwJ c) ∧ ∀ i, i < wsz (cwJ c) → ux_ch c i = nI (wrd (5 * cwJ c + i)) := by decide
theorem cc_isWord (h : txC N lt tx) {s e k : Nat} (hse : s ≤ e) (he : e ≤ lt) (h4 : N 9 4 = nI k) (h5 : N 9 5 = nI s) (h6 : N 9 6 = nI e) (hk4 : k < 4) {c : Nat} (hc : c < 8) : fX4_isWord c N = some (if k = 1 ∧ wdM tx s e (cwJ c) = true then 1 else 0) := by
  obtain ⟨h1, h2, h3⟩ := h
  obtain ⟨c1, c2, c3⟩ := cw_b c hc
  have zb := wsz_b _ c1
  unfold fX4_isWord fX4_isWord_24
  by_cases k1 : k = 1
  · rw [h4, k1, if_pos (show nI 1 = (1 : Int32) from rfl), h5, h6, pk_sub hse, c2, qb_ofn]
    by_cases q : e - s = wsz (cwJ c)
    · rw [if_pos (by rw [q])]
      have hl : ∃ x, ux_lp (fun t : Int32 => fX4_isWord_28b c t N) ux_fu (0 : Int32) = some x ∧ ((wdM tx s e (cwJ c) = true ∧ x = .inr ()) ∨ (¬ wdM tx s e (cwJ c) = true ∧ x = .inl ())) := by
        refine lp_inv (fun i t => t = nI i ∧ ∀ k, k < i → tx (s + k) = wrd (5 * cwJ c + k)) _ (wsz (cwJ c)) ⟨rfl, fun k hk => by omega⟩ (by omega) ?_ ?_
        · intro i t hk ⟨e1, e2⟩
          subst e1
          have bx := (h3 (s + i) (by omega)).2
          have bw := wrd_b (5 * cwJ c + i) (by omega)
          have st : fX4_isWord_28b c (nI i) N = if nI (tx (s + i)) = nI (wrd (5 * cwJ c + i)) then some (.inl (nI (i + 1))) else some (.inr (.inl ())) := by
            unfold fX4_isWord_28b
            rw [c2, qb_ofn, if_neg (fun z => by have := (nI_leI (by omega) (by omega)).mp z; omega), h5, nI_add, pb_in (by omega) (by decide), if_pos rfl, pb_in hk (by omega), if_pos rfl, nI_clamp (by omega), nI_clamp (by omega), (h3 (s + i) (by omega)).1, c3 i hk, show nI i + 1 = nI (i + 1) from nI_add i 1]
          rw [st]
          by_cases q2 : tx (s + i) = wrd (5 * cwJ c + i)
          · refine Or.inl ⟨nI (i + 1), by rw [if_pos (by rw [q2])], rfl, fun k hk2 => ?_⟩
            by_cases ek : k = i
            · subst ek; exact q2
            · exact e2 k (by omega)
          · exact Or.inr ⟨.inl (), by rw [if_neg (fun z => q2 ((nI_eq (by omega) (by omega)).mp z))], Or.inr ⟨fun z => q2 ((wdM_iff.mp z).2 i hk), rfl⟩⟩
        · intro t ⟨e1, e2⟩
          subst e1
          refine ⟨.inr (), ?_, Or.inl ⟨wdM_iff.mpr ⟨q, e2⟩, rfl⟩⟩
          unfold fX4_isWord_28b
          rw [c2, qb_ofn, if_pos ((nI_leI (by omega) (by omega)).mpr (Nat.le_refl _))]
      obtain ⟨x, a, b⟩ := hl
      rw [a]
      rcases b with ⟨b, rfl⟩ | ⟨b, rfl⟩
      · rw [if_pos ⟨rfl, b⟩]; rfl
      · rw [if_neg (fun z => b z.2)]; rfl
    · rw [if_neg (fun z => q ((nI_eq (by omega) (by omega)).mp z)), if_neg (fun z => q (wdM_iff.mp z.2).1)]
  · rw [h4, if_neg (show ¬ nI k = (1 : Int32) from fun z => k1 ((nI_eq (b := 1) (by omega) (by decide)).mp z)), if_neg (fun z => k1 z.1)]
theorem tk_word {p w : Nat} (hp : p ≤ lt) (hw : w < 8) (h : wdM tx (tkS lt tx p) (tkE lt tx p) w = true) : tkK lt tx p = 1 := by
  obtain ⟨a, b⟩ := wdM_iff.mp h
  have zb := wsz_b w hw
  have c : tkS lt tx p < lt := by
    apply Nat.lt_of_not_le
    intro z
    unfold tkE at a
    rw [if_neg (by omega)] at a
    omega
  unfold tkK
  rw [if_pos c]
  have := b 0 (by omega)
  rw [Nat.add_zero] at this
  rw [this]
  exact wrd_let w hw
theorem tk_4 (p : Nat) : tkK lt tx p < 4 := by
  unfold tkK
  split
  · have := kd_3 (tx (tkS lt tx p)); omega
  · decide
end WOR
section NUM
variable (lt : Nat) (tx : Nat → Nat)
def nuV (p : Nat) : Nat := if tkE lt tx p - tkS lt tx p = 2 then 10 * (tx (tkS lt tx p) - 48) + (tx (tkS lt tx p + 1) - 48) else tx (tkS lt tx p) - 48
def nuO (p a b : Nat) : Option Nat := if (tkK lt tx p = 2 ∧ tkE lt tx p - tkS lt tx p ≤ 2) ∧ a ≤ nuV lt tx p ∧ nuV lt tx p < b then some (nuV lt tx p) else none
end NUM
theorem kd_two {c : Nat} (h : kdc c = 2) : 48 ≤ c ∧ c ≤ 57 := by
  unfold kdc at h
  by_cases q : 97 ≤ c ∧ c ≤ 122
  · rw [if_pos q] at h; cases h
  · rw [if_neg q] at h
    by_cases q2 : 48 ≤ c ∧ c ≤ 57
    · exact q2
    · rw [if_neg q2] at h; cases h
theorem m1_lt {v b : Nat} (hv : v < 2 ^ 30) (hb : b < 2 ^ 30) : (nI b - (1 : Int32) < nI v) ↔ b ≤ v := by
  rw [fa_lt, li_1, pk_sub_toInt hb (by decide), nI_toInt (by omega)]; omega
theorem m1_le {v b : Nat} (hv : v < 2 ^ 30) (hb : b < 2 ^ 30) : (nI v ≤ nI b - (1 : Int32)) ↔ v < b := by
  rw [fa_le, li_1, pk_sub_toInt hb (by decide), nI_toInt (by omega)]; omega
section NUN
variable {lt : Nat} {tx : Nat → Nat} {N : ux_N}
theorem tk_dig {p : Nat} (hp : p ≤ lt) (h : tkK lt tx p = 2) : tkS lt tx p < lt ∧ tkS lt tx p < tkE lt tx p ∧ ∀ q, tkS lt tx p ≤ q → q < tkE lt tx p → 48 ≤ tx q ∧ tx q ≤ 57 := by
  obtain ⟨b1, b2, b3, b4, b5⟩ := tk_b lt tx hp
  have c : tkS lt tx p < lt := by
    apply Nat.lt_of_not_le
    intro z
    unfold tkK at h
    rw [if_neg (by omega)] at h
    cases h
  have k : kdc (tx (tkS lt tx p)) = 2 := by
    unfold tkK at h
    rw [if_pos c] at h
    exact h
  refine ⟨c, b5 c, fun q h1 h2 => ?_⟩
  by_cases e : q = tkS lt tx p
  · subst e; exact kd_two k
  · unfold tkE at h2
    rw [if_pos c, if_neg (by omega)] at h2
    obtain ⟨j1, j2, j3, j4⟩ := nx_spec (fun q => kdc (tx q) == kdc (tx (tkS lt tx p))) lt (tkS lt tx p + 1)
    have := (j3 q (by omega) h2).2
    rw [beq_iff_eq, k] at this
    exact kd_two this
theorem nuV_b {p : Nat} (hp : p ≤ lt) (h : tkK lt tx p = 2) : nuV lt tx p < 100 := by
  obtain ⟨c1, c2, c3⟩ := tk_dig hp h
  have d1 := c3 _ (Nat.le_refl _) c2
  unfold nuV
  by_cases q : tkE lt tx p - tkS lt tx p = 2
  · rw [if_pos q]
    have d2 := c3 (tkS lt tx p + 1) (by omega) (by omega)
    omega
  · rw [if_neg q]; omega
theorem nuO_b {p a b v : Nat} (h : nuO lt tx p a b = some v) : a ≤ v ∧ v < b := by
  unfold nuO at h
  by_cases q : (tkK lt tx p = 2 ∧ tkE lt tx p - tkS lt tx p ≤ 2) ∧ a ≤ nuV lt tx p ∧ nuV lt tx p < b
  · rw [if_pos q] at h
    cases h
    exact q.2
  · rw [if_neg q] at h; cases h
theorem cc_number (h : txC N lt tx) {p : Nat} (hp : p ≤ lt) (e6 : N 9 6 = nI p) {a b : Nat} (ha : a < 2 ^ 30) (hb : b < 2 ^ 30) : ∃ N', fX4_readNumber (nI a) (nI b - (1 : Int32)) N = some (wkI (nuO lt tx p a b), N') ∧ (∀ a, a ≠ 9 → N' a = N a) ∧ (∀ j, j ≠ 4 → j ≠ 5 → j ≠ 6 → N' 9 j = N 9 j) ∧ N' 9 5 = nI (tkS lt tx p) ∧ N' 9 6 = nI (tkE lt tx p) := by
  obtain ⟨N', a0, a1, a2, a3, a4, a5⟩ := cc_advance h hp e6
  obtain ⟨h1, h2, h3⟩ := h
  obtain ⟨b1, b2, b3, b4, b5⟩ := tk_b lt tx hp
  refine ⟨N', ?_, a1, a2, a4, a5⟩
  unfold fX4_readNumber
  rw [a0, Option.bind_some, a3]
  have k4 := tk_4 (lt := lt) (tx := tx) p
  by_cases k : tkK lt tx p = 2
  · obtain ⟨c1, c2, c3⟩ := tk_dig hp k
    rw [k, if_pos (show nI 2 = (2 : Int32) from rfl), a4, a5, pk_sub b3]
    by_cases q : tkE lt tx p - tkS lt tx p ≤ 2
    · rw [if_pos (show _ ≤ (2 : Int32) from (nI_leI (b := 2) (by omega) (by decide)).mpr q)]
      have nb := nuV_b hp k
      have d1 := c3 _ (Nat.le_refl _) c2
      have x1 := h3 _ c1
      have step : ∀ (v i : Nat), tkS lt tx p ≤ i → i < tkE lt tx p → fX4_readNumber_35b (nI a) (nI b - (1 : Int32)) (nI v) (nI i) N' = some (.inl (nI (v * 10 + (tx i - 48)), nI (i + 1))) := fun v i hi hi2 => by
        have d := c3 i hi hi2
        have x := h3 i (by omega)
        unfold fX4_readNumber_35b
        rw [a5, if_neg (fun z => by have := (nI_leI (by omega) (by omega)).mp z; omega), pb_in (by omega) (by decide), if_pos rfl, nI_clamp (by omega), a1 18 (by decide), x.1, li_10, li_48, pk_mul, pk_sub d.1, nI_add, show nI i + 1 = nI (i + 1) from nI_add i 1]
      have stop : ∀ v : Int32, fX4_readNumber_35b (nI a) (nI b - (1 : Int32)) v (nI (tkE lt tx p)) N' = some (.inr v) := fun v => by
        unfold fX4_readNumber_35b
        rw [a5, if_pos ((nI_leI (by omega) (by omega)).mpr (Nat.le_refl _))]
      have hl : ux_lp (fun s : Int32 × Int32 => fX4_readNumber_35b (nI a) (nI b - (1 : Int32)) s.1 s.2 N') ux_fu ((0 : Int32), nI (tkS lt tx p)) = some (nI (nuV lt tx p)) := by
        unfold nuV
        by_cases q2 : tkE lt tx p - tkS lt tx p = 2
        · rw [if_pos q2]
          have e2 : tkE lt tx p = tkS lt tx p + 1 + 1 := by omega
          refine lp_at (fun i => match i with | 0 => (nI 0, nI (tkS lt tx p)) | 1 => (nI (0 * 10 + (tx (tkS lt tx p) - 48)), nI (tkS lt tx p + 1)) | _ => (nI ((0 * 10 + (tx (tkS lt tx p) - 48)) * 10 + (tx (tkS lt tx p + 1) - 48)), nI (tkE lt tx p))) 2 rfl (by decide) (fun i hi => ?_) ?_
          · rcases (show i = 0 ∨ i = 1 by omega) with rfl | rfl
            · exact step 0 _ (Nat.le_refl _) (by omega)
            · have := step (0 * 10 + (tx (tkS lt tx p) - 48)) (tkS lt tx p + 1) (by omega) (by omega)
              rw [← e2] at this
              exact this
          · rw [show 10 * (tx (tkS lt tx p) - 48) + (tx (tkS lt tx p + 1) - 48) = (0 * 10 + (tx (tkS lt tx p) - 48)) * 10 + (tx (tkS lt tx p + 1) - 48) from by omega]
            exact stop _
        · rw [if_neg q2]
          have e2 : tkE lt tx p = tkS lt tx p + 1 := by omega
          refine lp_at (fun i => match i with | 0 => (nI 0, nI (tkS lt tx p)) | _ => (nI (tx (tkS lt tx p) - 48), nI (tkE lt tx p))) 1 rfl (by decide) (fun i hi => ?_) ?_
          · obtain rfl : i = 0 := by omega
            have := step 0 (tkS lt tx p) (Nat.le_refl _) (by omega)
            rw [← e2, show 0 * 10 + (tx (tkS lt tx p) - 48) = tx (tkS lt tx p) - 48 from by omega] at this
            exact this
          · exact stop _
      rw [hl, Option.bind_some]
      unfold nuO
      by_cases q3 : a ≤ nuV lt tx p
      · rw [if_neg (fun z => by have := (nI_ltI (by omega) (by omega)).mp z; omega)]
        by_cases q4 : nuV lt tx p < b
        · rw [if_pos ((m1_le (by omega) hb).mpr q4), if_pos ⟨⟨k, q⟩, q3, q4⟩]; rfl
        · rw [if_neg (fun z => q4 ((m1_le (by omega) hb).mp z)), if_neg (fun z => q4 z.2.2)]; rfl
      · rw [if_pos ((nI_ltI (by omega) (by omega)).mpr (by omega)), if_neg (fun z => q3 z.2.1)]; rfl
    · rw [if_neg (show ¬ _ ≤ (2 : Int32) from fun z => q ((nI_leI (b := 2) (by omega) (by decide)).mp z))]
      unfold nuO
      rw [if_neg (fun z => q z.1.2)]; rfl
  · rw [if_neg (show ¬ _ = (2 : Int32) from fun z => k ((nI_eq (b := 2) (by omega) (by decide)).mp z))]
    unfold nuO
    rw [if_neg (fun z => k z.1.1)]; rfl
theorem lm_number (h : txM N lt tx) {p : Nat} (hp : p ≤ lt) (e16 : N 0 16 = nI (tkS lt tx p)) (e17 : N 0 17 = nI (tkE lt tx p)) {kk a b : Nat} (hk : kk < 3) (ha : a < 2 ^ 30) (hb : b < 2 ^ 30) :
    (nuO lt tx p a b = none → fX12_number (nI kk) (nI a) (nI b - (1 : Int32)) N = some (0, N)) ∧ ∀ v, nuO lt tx p a b = some v →
      ((kk = 1 ∧ N 11 2 = 1 ∧ nI v = N 11 0) → fX12_number (nI kk) (nI a) (nI b - (1 : Int32)) N = some (0, N)) ∧
      (¬ (kk = 1 ∧ N 11 2 = 1 ∧ nI v = N 11 0) → ∃ N', fX12_number (nI kk) (nI a) (nI b - (1 : Int32)) N = some (1, N') ∧ (∀ x, x ≠ 0 → x ≠ 11 → N' x = N x) ∧ (∀ j, j ≠ 16 → j ≠ 17 → N' 0 j = N 0 j) ∧ (∀ j, N' 11 j = if j = kk then nI v else N 11 j) ∧ N' 0 16 = nI (tkS lt tx (tkE lt tx p)) ∧ N' 0 17 = nI (tkE lt tx (tkE lt tx p))) := by
  obtain ⟨h1, h2, h3⟩ := h
  obtain ⟨b1, b2, b3, b4, b5⟩ := tk_b lt tx hp
  by_cases k : tkK lt tx p = 2 ∧ tkE lt tx p - tkS lt tx p ≤ 2
  · obtain ⟨k, q⟩ := k
    obtain ⟨c1, c2, c3⟩ := tk_dig hp k
    have nb := nuV_b hp k
    have d1 := c3 _ (Nat.le_refl _) c2
    have x1 := h3 _ c1
    have kd : kdc (tx (tkS lt tx p)) = 2 := by unfold tkK at k; rw [if_pos c1] at k; exact k
    have e1 : fX12_number (nI kk) (nI a) (nI b - (1 : Int32)) N = fX12_number_93 (nI kk) (nI a) (nI b - (1 : Int32)) (nI (nuV lt tx p)) N := by
      unfold fX12_number nuV
      rw [e16, e17, h2, if_neg (fun z => by have := (nI_eq (by omega) (by omega)).mp z; omega), pb_in (by omega) (by decide), if_pos rfl, nI_clamp (by omega), x1.1, kd_d _ (by omega), Option.bind_some, show (if kdc (tx (tkS lt tx p)) = 2 then (1 : Int32) else 0) = 1 from if_pos kd, if_neg (by decide), pk_sub b3, if_pos (show _ ≤ (2 : Int32) from (nI_leI (b := 2) (by omega) (by decide)).mpr q), if_pos rfl, li_48, pk_sub d1.1]
      by_cases q2 : tkE lt tx p - tkS lt tx p = 2
      · have d2 := c3 (tkS lt tx p + 1) (by omega) (by omega)
        have x2 := h3 (tkS lt tx p + 1) (by omega)
        rw [if_pos (show nI (tkE lt tx p - tkS lt tx p) = (2 : Int32) from by rw [q2]; rfl), if_pos q2, show nI (tkS lt tx p) + (1 : Int32) = nI (tkS lt tx p + 1) from nI_add _ 1, pb_in (by omega) (by decide), if_pos rfl, nI_clamp (by omega), x2.1, li_10, pk_mul, nI_add, pk_sub (by omega), show 10 * (tx (tkS lt tx p) - 48) + tx (tkS lt tx p + 1) - 48 = 10 * (tx (tkS lt tx p) - 48) + (tx (tkS lt tx p + 1) - 48) from by omega]
      · rw [if_neg (show ¬ nI (tkE lt tx p - tkS lt tx p) = (2 : Int32) from fun z => q2 ((nI_eq (b := 2) (by omega) (by decide)).mp z)), if_neg q2]
    have e2 : fX12_in (nI (nuV lt tx p)).toInt64 (nI a).toInt64 (nI b - (1 : Int32)).toInt64 = some (if a ≤ nuV lt tx p ∧ nuV lt tx p < b then 1 else 0) := by
      rw [in_c]
      by_cases q3 : a ≤ nuV lt tx p ∧ nuV lt tx p < b
      · rw [if_pos q3, if_neg]
        rw [nI_ltI (by omega) (by omega), m1_lt (by omega) hb]
        omega
      · rw [if_neg q3, if_pos]
        rw [nI_ltI (by omega) (by omega), m1_lt (by omega) hb]
        omega
    rw [e1]
    unfold nuO fX12_number_93
    rw [e2, Option.bind_some]
    by_cases q3 : a ≤ nuV lt tx p ∧ nuV lt tx p < b
    · refine ⟨fun z => (by rw [if_pos ⟨⟨k, q⟩, q3⟩] at z; exact nomatch z), fun v hv => ?_⟩
      rw [if_pos ⟨⟨k, q⟩, q3⟩] at hv
      cases hv
      have e3 : (if (if a ≤ nuV lt tx p ∧ nuV lt tx p < b then (1 : Int32) else 0) = 0 then fX12_number_138 (nI kk) (nI (nuV lt tx p)) N else (if nI kk = (1 : Int32) then (if (N 11 2) = (1 : Int32) then (if nI (nuV lt tx p) = (N 11 0) then (fX12_number_138 (nI kk) (nI (nuV lt tx p)) N) else (fX12_number_134 (nI kk) (nI (nuV lt tx p)) N)) else (fX12_number_134 (nI kk) (nI (nuV lt tx p)) N)) else (fX12_number_134 (nI kk) (nI (nuV lt tx p)) N))) = if kk = 1 ∧ N 11 2 = 1 ∧ nI (nuV lt tx p) = N 11 0 then fX12_number_138 (nI kk) (nI (nuV lt tx p)) N else fX12_number_134 (nI kk) (nI (nuV lt tx p)) N := by
        rw [show (if a ≤ nuV lt tx p ∧ nuV lt tx p < b then (1 : Int32) else 0) = 1 from if_pos q3, if_neg (by decide)]
        by_cases z1 : kk = 1
        · rw [if_pos (show nI kk = (1 : Int32) from by rw [z1]; rfl)]
          by_cases z2 : N 11 2 = 1
          · rw [if_pos z2]
            by_cases z3 : nI (nuV lt tx p) = N 11 0
            · rw [if_pos z3, if_pos ⟨z1, z2, z3⟩]
            · rw [if_neg z3, if_neg (fun z => z3 z.2.2)]
          · rw [if_neg z2, if_neg (fun z => z2 z.2.1)]
        · rw [if_neg (show ¬ nI kk = (1 : Int32) from fun z => z1 ((nI_eq (b := 1) (by omega) (by decide)).mp z)), if_neg (fun z => z1 z.1)]
      rw [e3]
      refine ⟨fun z => by rw [if_pos z]; rfl, fun z => ?_⟩
      rw [if_neg z]
      have hx : txM (ux_u N 11 kk (nI (nuV lt tx p))) lt tx := by
        refine ⟨h1, ?_, fun k hk => ?_⟩
        · rw [uu_ne _ _ _ (by decide)]; exact h2
        · rw [uu_ne _ _ _ (by decide)]; exact h3 k hk
      obtain ⟨N', n0, n1, n2, n3, n4⟩ := lm_next hx b4 (by rw [uu_ne _ _ _ (by decide)]; exact e17)
      refine ⟨N', ?_, fun x h0 h11 => ?_, fun j hj hj2 => ?_, fun j => ?_, n3, n4⟩
      · unfold fX12_number_134 fX12_number_139 fX12_number_158
        rw [if_neg (by decide), pb_in hk (by decide), if_pos rfl, nI_clamp (by omega), n0]; rfl
      · rw [n1 x h0, uu_ne _ _ _ h11]
      · rw [n2 j hj hj2, uu_ne _ _ _ (by decide)]
      · rw [n1 11 (by decide), uu_same]
    · refine ⟨fun _ => ?_, fun v hv => (by rw [if_neg (fun z => q3 z.2)] at hv; exact nomatch hv)⟩
      rw [show (if a ≤ nuV lt tx p ∧ nuV lt tx p < b then (1 : Int32) else 0) = 0 from if_neg q3, if_pos rfl]; rfl
  · refine ⟨fun _ => ?_, fun v hv => (by unfold nuO at hv; rw [if_neg (fun z => k z.1)] at hv; exact nomatch hv)⟩
    unfold fX12_number fX12_number_39
    rw [e16, e17, h2]
    by_cases c : tkS lt tx p < lt
    · have x1 := h3 _ c
      have ek : tkK lt tx p = kdc (tx (tkS lt tx p)) := by unfold tkK; rw [if_pos c]
      rw [if_neg (fun z => by have := (nI_eq (by omega) (by omega)).mp z; omega), pb_in (by omega) (by decide), if_pos rfl, nI_clamp (by omega), x1.1, kd_d _ (by omega), Option.bind_some]
      by_cases k2 : kdc (tx (tkS lt tx p)) = 2
      · rw [show (if kdc (tx (tkS lt tx p)) = 2 then (1 : Int32) else 0) = 1 from if_pos k2, if_neg (by decide), pk_sub b3, if_neg (show ¬ _ ≤ (2 : Int32) from fun z => k ⟨by rw [ek]; exact k2, (nI_leI (b := 2) (by omega) (by decide)).mp z⟩)]
      · rw [show (if kdc (tx (tkS lt tx p)) = 2 then (1 : Int32) else 0) = 0 from if_neg k2, if_pos rfl]
    · rw [if_pos (by congr 1; omega)]
end NUN
