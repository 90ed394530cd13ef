/-! rows of the reference, deeds of the class -/
theorem cp_ne (N : ux_N) (s d sp dp n : Nat) {a : Nat} (h : a ≠ d) : ux_cpN N s d sp dp n a = N a := by unfold ux_cpN; rw [if_neg h]
theorem cp_in (N : ux_N) (s d sp dp n : Nat) {k : Nat} (h1 : dp ≤ k) (h2 : k < dp + n) : ux_cpN N s d sp dp n d k = N s (sp + (k - dp)) := by
  unfold ux_cpN; rw [if_pos rfl]; unfold va_cpy; rw [if_pos ⟨h1, h2⟩]
theorem cp_out (N : ux_N) (s d sp dp n : Nat) {k : Nat} (h : k < dp ∨ dp + n ≤ k) : ux_cpN N s d sp dp n d k = N d k := by
  unfold ux_cpN; rw [if_pos rfl]; unfold va_cpy; rw [if_neg (by omega)]
theorem bit_off {b w n : Nat} (hb : b < 2 ^ n) (hn : n ≤ 31) (hw : w < n) : nI b &&& (nI (2 ^ w) ^^^ (-1 : Int32)) = nI (if b.testBit w = true then b ^^^ 2 ^ w else b) := by
  apply pb_ext
  intro i hi
  rw [b_and, b_xor, b_m1 i hi, pb_bt _ i hi, pb_bt _ i hi, Nat.testBit_two_pow]
  by_cases h : b.testBit w = true
  · rw [if_pos h, Nat.testBit_xor, Nat.testBit_two_pow]
    by_cases e : w = i
    · subst e; simp [h]
    · simp [e]
  · rw [if_neg h]
    by_cases e : w = i
    · subst e; simp [h]
    · simp [e]
theorem bit_on {b w : Nat} : nI b ||| nI (2 ^ w) = nI (if b.testBit w = true then b else b ^^^ 2 ^ w) := by
  rw [fa_or]
  congr 1
  apply Nat.eq_of_testBit_eq
  intro i
  rw [Nat.testBit_or, Nat.testBit_two_pow]
  by_cases h : b.testBit w = true
  · rw [if_pos h]
    by_cases e : w = i
    · subst e; simp [h]
    · simp [e]
  · rw [if_neg h, Nat.testBit_xor, Nat.testBit_two_pow]
    by_cases e : w = i
    · subst e; simp [h]
    · simp [e]
theorem bit_x {b w : Nat} : nI b ^^^ nI (2 ^ w) = nI (b ^^^ 2 ^ w) := by
  apply pb_ext
  intro i hi
  rw [b_xor, pb_bt _ i hi, pb_bt _ i hi, Nat.testBit_xor]
theorem xor_xor (b w : Nat) : (b ^^^ 2 ^ w) ^^^ 2 ^ w = b := by
  rw [Nat.xor_assoc, Nat.xor_self, Nat.xor_zero]
theorem xor_tb (b w : Nat) : (b ^^^ 2 ^ w).testBit w = !b.testBit w := by
  rw [Nat.testBit_xor, Nat.testBit_two_pow]; simp
theorem xor_lt {b w n : Nat} (hb : b < 2 ^ n) (hw : w < n) : b ^^^ 2 ^ w < 2 ^ n := Nat.xor_lt_two_pow hb (Nat.pow_lt_pow_right (by decide) hw)
section ROW
variable {N : ux_N} {nd ln : Nat} {me : Nat} {so pl : Nat → Nat} {br cu : Nat}
theorem lm_copyRow (N : ux_N) {a b : Nat} (ha : a + 21 ≤ 252) (hb : b + 21 ≤ 252) (hd : a + 21 ≤ b ∨ b + 21 ≤ a) : ∃ N', fX12_copyRow (nI a) (nI b) N = some N' ∧ (∀ x, x ≠ 1 → N' x = N x) ∧ (∀ k, k < 21 → N' 1 (b + k) = N 1 (a + k)) ∧ ∀ k, k < b ∨ b + 21 ≤ k → N' 1 k = N 1 k := by
  have hlp : ∃ N', ux_lp (fun s : Int32 × ux_N => fX12_copyRow_2b (nI a) (nI b) s.1 s.2) ux_fu ((0 : Int32), N) = some N' ∧ ((∀ x, x ≠ 1 → N' x = N x) ∧ (∀ k, k < 21 → N' 1 (b + k) = N 1 (a + k)) ∧ ∀ k, k < b ∨ b + 21 ≤ k → N' 1 k = N 1 k) := by
    refine lp_inv (fun i s => s.1 = nI i ∧ (∀ x, x ≠ 1 → s.2 x = N x) ∧ (∀ k, k < i → s.2 1 (b + k) = N 1 (a + k)) ∧ ∀ k, k < b ∨ b + 21 ≤ k → s.2 1 k = N 1 k) _ 21 ?_ (by decide) ?_ ?_
    · exact ⟨rfl, fun _ _ => rfl, fun k h => by omega, fun _ _ => rfl⟩
    · intro i ⟨v, N1⟩ hk ⟨e, g1, g2, g3⟩
      dsimp only at e g1 g2 g3 ⊢
      subst e
      have r1 : N1 1 (a + i) = N 1 (a + i) := g3 _ (by omega)
      refine Or.inl ⟨(nI (i + 1), ux_u N1 1 (b + i) (N 1 (a + i))), ?_, rfl, fun x hx => (uu_ne N1 _ _ hx).trans (g1 x hx), fun k hk => ?_, fun k hk => ?_⟩
      · unfold fX12_copyRow_2b
        rw [if_neg (fun w => by have := (nI_leI (a := 21) (by decide) (by omega)).mp w; omega), nI_add, nI_add, pb_in (by omega) (by decide), if_pos rfl, pb_in (by omega) (by decide), if_pos rfl, nI_clamp (by omega), nI_clamp (by omega), r1, show nI i + 1 = nI (i + 1) from nI_add i 1]
      · dsimp only
        rw [uu_same]
        by_cases e : k = i
        · rw [if_pos (by omega), e]
        · rw [if_neg (by omega)]; exact g2 k (by omega)
      · dsimp only
        rw [uu_same, if_neg (by omega)]; exact g3 k hk
    · intro ⟨v, N1⟩ ⟨e, g1, g2, g3⟩
      dsimp only at e g1 g2 g3 ⊢
      subst e
      refine ⟨N1, ?_, g1, g2, g3⟩
      unfold fX12_copyRow_2b
      rw [if_pos (show (21 : Int32) ≤ nI 21 from by decide)]
  obtain ⟨N', h0, h⟩ := hlp
  refine ⟨N', ?_, h⟩
  unfold fX12_copyRow
  rw [h0]; rfl
def hsh (hs : Nat) : Nat := if hs = 8 then 1 else 0
theorem hm_keep {hs : Nat} (h8 : hs ≤ 8) (hN : N 0 6 = nI hs) : ∃ N', fX12_keepPast N = some N' ∧ (∀ a, a ≠ 0 → a ≠ 1 → N' a = N a) ∧ (∀ j, j ≠ 6 → N' 0 j = N 0 j) ∧ (∀ k, k < 21 ∨ 189 ≤ k → N' 1 k = N 1 k) ∧ N' 0 6 = nI (hs + 1 - hsh hs) ∧ (∀ i, i + hsh hs < hs → ∀ k, k < 21 → N' 1 (21 + 21 * i + k) = N 1 (21 + 21 * (i + hsh hs) + k)) ∧ ∀ k, k < 21 → N' 1 (21 + 21 * (hs - hsh hs) + k) = N 1 k := by
  by_cases e8 : hs = 8
  · subst e8
    have s1 : hsh 8 = 1 := rfl
    rw [s1]
    have hlp : ∃ N', ux_lp (fun s : Int32 × ux_N => fX12_keepPast_2b s.1 s.2) ux_fu ((0 : Int32), N) = some N' ∧ ((∀ x, x ≠ 1 → N' x = N x) ∧ (∀ k, k < 147 → N' 1 (21 + k) = N 1 (42 + k)) ∧ ∀ k, k < 21 ∨ 168 ≤ k → N' 1 k = N 1 k) := by
      refine lp_inv (fun i s => s.1 = nI i ∧ (∀ x, x ≠ 1 → s.2 x = N x) ∧ (∀ k, k < i → s.2 1 (21 + k) = N 1 (42 + k)) ∧ ∀ k, k < 21 ∨ 21 + i ≤ k → s.2 1 k = N 1 k) _ 147 ?_ (by decide) ?_ ?_
      · exact ⟨rfl, fun _ _ => rfl, fun k h => by omega, fun _ _ => rfl⟩
      · intro i ⟨v, N1⟩ hk ⟨e, g1, g2, g3⟩
        dsimp only at e g1 g2 g3 ⊢
        subst e
        have r1 : N1 1 (42 + i) = N 1 (42 + i) := g3 _ (by omega)
        have r0 : N1 0 6 = nI 8 := by rw [g1 0 (by decide)]; exact hN
        refine Or.inl ⟨(nI (i + 1), ux_u N1 1 (21 + i) (N 1 (42 + i))), ?_, rfl, fun x hx => (uu_ne N1 _ _ hx).trans (g1 x hx), fun k hk => ?_, fun k hk => ?_⟩
        · unfold fX12_keepPast_2b
          rw [if_neg (fun w => by have := (nI_leI (a := 147) (by decide) (by omega)).mp w; omega), r0, if_pos (show nI 8 = (8 : Int32) from rfl), li_42, li_21, nI_add, nI_add, pb_in (by omega) (by decide), if_pos rfl, pb_in (by omega) (by decide), if_pos rfl, nI_clamp (by omega), nI_clamp (by omega), r1, show nI i + 1 = nI (i + 1) from nI_add i 1]
        · dsimp only
          rw [uu_same]
          by_cases e : k = i
          · rw [if_pos (by omega), e]
          · rw [if_neg (by omega)]; exact g2 k (by omega)
        · dsimp only
          rw [uu_same, if_neg (by omega)]; exact g3 k (by omega)
      · intro ⟨v, N1⟩ ⟨e, g1, g2, g3⟩
        dsimp only at e g1 g2 g3 ⊢
        subst e
        refine ⟨N1, ?_, g1, g2, fun k hk => g3 k (by omega)⟩
        unfold fX12_keepPast_2b
        rw [if_pos (show (147 : Int32) ≤ nI 147 from by decide)]
    obtain ⟨N1, h0, g1, g2, g3⟩ := hlp
    have r0 : N1 0 6 = nI 8 := by rw [g1 0 (by decide)]; exact hN
    obtain ⟨N2, c0, c1, c2, c3⟩ := lm_copyRow (ux_u N1 0 6 (nI 7)) (a := 0) (b := 168) (by decide) (by decide) (by decide)
    refine ⟨ux_u N2 0 6 (nI 8), ?_, fun a h0 h1 => ?_, fun j hj => ?_, fun k hk => ?_, ?_, fun i hi k hk => ?_, fun k hk => ?_⟩
    · unfold fX12_keepPast fX12_keepPast_42 fX12_keepPast_61
      rw [h0, Option.bind_some, r0, if_pos (show nI 8 = (8 : Int32) from rfl), show nI 8 - (1 : Int32) = nI 7 from by decide, uu_same, if_pos rfl, show (21 : Int32) + (21 : Int32) * nI 7 = nI 168 from by decide, show (0 : Int32) = nI 0 from rfl, c0, Option.bind_some, c1 0 (by decide), uu_same, if_pos rfl]
      rfl
    · rw [uu_ne _ _ _ h0, c1 a h1, uu_ne _ _ _ h0, g1 a h1]
    · rw [uu_same, if_neg hj, c1 0 (by decide), uu_same, if_neg hj, g1 0 (by decide)]
    · rw [uu_ne _ _ _ (by decide), c3 k (by omega), uu_ne _ _ _ (by decide), g3 k (by omega)]
    · rw [uu_same, if_pos rfl]
    · have hi' : i + 1 < 8 := hi
      rw [uu_ne _ _ _ (by decide), c3 _ (by omega), uu_ne _ _ _ (by decide), show 21 + 21 * i + k = 21 + (21 * i + k) from by omega, g2 _ (by omega)]
      exact congrArg (N 1) (by omega)
    · rw [uu_ne _ _ _ (by decide)]
      show N2 1 (168 + k) = _
      rw [c2 k hk, uu_ne _ _ _ (by decide), g3 _ (by omega), Nat.zero_add]
  · have s0 : hsh hs = 0 := by unfold hsh; rw [if_neg e8]
    have n8 : ¬ nI hs = (8 : Int32) := fun w => e8 ((nI_eq (b := 8) (by omega) (by decide)).mp w)
    have hlp : ux_lp (fun s : Int32 × ux_N => fX12_keepPast_2b s.1 s.2) ux_fu ((0 : Int32), N) = some N := by
      refine lp_at (fun _ => ((0 : Int32), N)) 0 rfl (by decide) (fun i hi => by omega) ?_
      show fX12_keepPast_2b 0 N = _
      unfold fX12_keepPast_2b
      rw [if_neg (by decide), hN, if_neg n8]
    obtain ⟨N2, c0, c1, c2, c3⟩ := lm_copyRow (ux_u N 0 6 (nI hs)) (a := 0) (b := 21 + 21 * hs) (by decide) (by omega) (by omega)
    rw [s0]
    refine ⟨ux_u N2 0 6 (nI (hs + 1)), ?_, fun a h0 h1 => ?_, fun j hj => ?_, fun k hk => ?_, ?_, fun i hi k hk => ?_, fun k hk => ?_⟩
    · unfold fX12_keepPast fX12_keepPast_42 fX12_keepPast_61
      rw [hlp, Option.bind_some, hN, if_neg n8, show nI hs - (0 : Int32) = nI hs from by rw [li_0, pk_sub (Nat.zero_le _)]; rfl, uu_same, if_pos rfl, li_21, pk_mul, nI_add, li_0, c0, Option.bind_some, c1 0 (by decide), uu_same, if_pos rfl, li_1, nI_add]
    · rw [uu_ne _ _ _ h0, c1 a h1, uu_ne _ _ _ h0]
    · rw [uu_same, if_neg hj, c1 0 (by decide), uu_same, if_neg hj]
    · rw [uu_ne _ _ _ (by decide), c3 k (by omega), uu_ne _ _ _ (by decide)]
    · rw [uu_same, if_pos rfl]; rfl
    · have hi' : i < hs := hi
      rw [uu_ne _ _ _ (by decide), c3 _ (by omega), uu_ne _ _ _ (by decide)]; rfl
    · rw [uu_ne _ _ _ (by decide), Nat.sub_zero, c2 k hk, uu_ne _ _ _ (by decide), Nat.zero_add]
theorem hc_note45 {z : Nat} (h8 : z < 8) (hN : N 30 0 = nI z) (d w : Int32) : fX1_note_45 d w N = some (ux_u (ux_u (ux_u N 31 z d) 32 z w) 30 0 (nI (z + 1))) := by
  unfold fX1_note_45 fX1_note_75
  rw [hN, pb_in h8 (by decide), if_pos rfl, nI_clamp (by omega), uu_ne _ _ _ (by decide : (30 : Nat) ≠ 31), hN, pb_in h8 (by decide), if_pos rfl, nI_clamp (by omega), uu_ne _ _ _ (by decide : (30 : Nat) ≠ 32), uu_ne _ _ _ (by decide : (30 : Nat) ≠ 31), hN, li_1, nI_add]
theorem hc_note {hs : Nat} (h8 : hs ≤ 8) (hN : N 30 0 = nI hs) (d w : Int32) : ∃ N', fX1_note d w N = some N' ∧ (∀ a, a ≠ 30 → a ≠ 31 → a ≠ 32 → N' a = N a) ∧ N' 30 0 = nI (hs + 1 - hsh hs) ∧ (∀ i, i + hsh hs < hs → N' 31 i = N 31 (i + hsh hs) ∧ N' 32 i = N 32 (i + hsh hs)) ∧ N' 31 (hs - hsh hs) = d ∧ N' 32 (hs - hsh hs) = w := by
  by_cases e8 : hs = 8
  · subst e8
    have s1 : hsh 8 = 1 := rfl
    rw [s1]
    refine ⟨ux_u (ux_u (ux_u (ux_u (ux_cpN (ux_cpN N 31 31 1 0 7) 32 32 1 0 7) 30 0 (7 : Int32)) 31 7 d) 32 7 w) 30 0 (nI (7 + 1)), ?_, fun a h0 h1 h2 => ?_, ?_, fun i hi => ?_, ?_, ?_⟩
    · unfold fX1_note
      rw [hN, if_neg (by decide)]
      exact hc_note45 (by decide) (by rw [uu_same, if_pos rfl]; rfl) d w
    · rw [uu_ne _ _ _ h0, uu_ne _ _ _ h2, uu_ne _ _ _ h1, uu_ne _ _ _ h0, cp_ne _ _ _ _ _ _ h2, cp_ne _ _ _ _ _ _ h1]
    · rw [uu_same, if_pos rfl]
    · have hi' : i + 1 < 8 := hi
      show _ = N 31 (i + 1) ∧ _ = N 32 (i + 1)
      rw [uu_ne _ _ _ (by decide : (31 : Nat) ≠ 30), uu_ne _ _ _ (by decide : (31 : Nat) ≠ 32), uu_same, if_neg (by omega), uu_ne _ _ _ (by decide : (31 : Nat) ≠ 30), cp_ne _ _ _ _ _ _ (by decide : (31 : Nat) ≠ 32), cp_in _ _ _ _ _ _ (Nat.zero_le _) (by omega),
        uu_ne _ _ _ (by decide : (32 : Nat) ≠ 30), uu_same, if_neg (by omega), uu_ne _ _ _ (by decide : (32 : Nat) ≠ 31), uu_ne _ _ _ (by decide : (32 : Nat) ≠ 30), cp_in _ _ _ _ _ _ (Nat.zero_le _) (by omega), cp_ne _ _ _ _ _ _ (by decide : (32 : Nat) ≠ 31), Nat.sub_zero, Nat.add_comm 1 i]
      exact ⟨rfl, rfl⟩
    · show ux_u _ 30 0 _ 31 7 = d
      rw [uu_ne _ _ _ (by decide : (31 : Nat) ≠ 30), uu_ne _ _ _ (by decide : (31 : Nat) ≠ 32), uu_same, if_pos rfl]
    · show ux_u _ 30 0 _ 32 7 = w
      rw [uu_ne _ _ _ (by decide : (32 : Nat) ≠ 30), uu_same, if_pos rfl]
  · have s0 : hsh hs = 0 := by unfold hsh; rw [if_neg e8]
    rw [s0]
    refine ⟨ux_u (ux_u (ux_u N 31 hs d) 32 hs w) 30 0 (nI (hs + 1)), ?_, fun a h0 h1 h2 => ?_, ?_, fun i hi => ?_, ?_, ?_⟩
    · unfold fX1_note
      rw [hN, if_pos (show _ < (8 : Int32) from (nI_ltI (b := 8) (by omega) (by decide)).mpr (by omega))]
      exact hc_note45 (by omega) hN d w
    · rw [uu_ne _ _ _ h0, uu_ne _ _ _ h2, uu_ne _ _ _ h1]
    · rw [uu_same, if_pos rfl]; rfl
    · have hi' : i < hs := hi
      rw [uu_ne _ _ _ (by decide : (31 : Nat) ≠ 30), uu_ne _ _ _ (by decide : (31 : Nat) ≠ 32), uu_same, if_neg (by omega), uu_ne _ _ _ (by decide : (32 : Nat) ≠ 30), uu_same, if_neg (by omega), uu_ne _ _ _ (by decide : (32 : Nat) ≠ 31)]
      exact ⟨rfl, rfl⟩
    · rw [uu_ne _ _ _ (by decide : (31 : Nat) ≠ 30), uu_ne _ _ _ (by decide : (31 : Nat) ≠ 32), uu_same, if_pos (Nat.sub_zero _)]
    · rw [uu_ne _ _ _ (by decide : (32 : Nat) ≠ 30), uu_same, if_pos (Nat.sub_zero _)]
theorem stM_mv {N' : ux_N} {p p' : Nat} (h : stM N p me so pl br cu) (h9 : me ≤ 9) (e : ∀ k, k < 21 → N' 1 (p' + k) = N 1 (p + k)) : stM N' p' me so pl br cu := by
  obtain ⟨a, b, c, d⟩ := h
  refine ⟨?_, ?_, ?_, fun m hm => ⟨?_, ?_⟩⟩
  · have := e 0 (by decide); rw [Nat.add_zero, Nat.add_zero] at this; rw [this]; exact a
  · rw [e 1 (by decide)]; exact b
  · rw [e 2 (by decide)]; exact c
  · rw [Nat.add_assoc, e (3 + m) (by omega), ← Nat.add_assoc]; exact (d m hm).1
  · rw [Nat.add_assoc, e (12 + m) (by omega), ← Nat.add_assoc]; exact (d m hm).2
theorem stM_cg {so' pl' : Nat → Nat} {p : Nat} (h : stM N p me so pl br cu) (e : ∀ m, m < me → so' m = so m ∧ pl' m = pl m) : stM N p me so' pl' br cu := by
  obtain ⟨a, b, c, d⟩ := h
  exact ⟨a, b, c, fun m hm => by rw [(e m hm).1, (e m hm).2]; exact d m hm⟩
theorem stB_cg {so' pl' : Nat → Nat} (h : stB nd ln me so pl br cu) (e : ∀ m, m < me → so' m = so m ∧ pl' m = pl m) : stB nd ln me so' pl' br cu := ⟨h.1, fun m hm => by rw [(e m hm).1, (e m hm).2]; exact h.2 m hm⟩
theorem cc_copyS (N : ux_N) {c0 c1 : Nat} (hd : c0 + 3 ≤ c1 ∨ c1 + 3 ≤ c0) : ∃ N', fX8_copyFrom c0 c1 N = some N' ∧ (∀ a, a < c0 ∨ c0 + 3 ≤ a → N' a = N a) ∧ ∀ me so pl br cu, me ≤ 9 → stC N c1 me so pl br cu → stC N' c0 me so pl br cu := by
  refine ⟨_, rfl, fun a ha => ?_, fun me so pl br cu h9 ⟨e1, e2, e3, e4⟩ => ⟨?_, ?_, ?_, fun m hm => ⟨?_, ?_⟩⟩⟩
  · rw [cp_ne _ _ _ _ _ _ (by omega), cp_ne _ _ _ _ _ _ (by omega), uu_ne _ _ _ (by omega), uu_ne _ _ _ (by omega), uu_ne _ _ _ (by omega)]
  · rw [cp_ne _ _ _ _ _ _ (by omega), cp_ne _ _ _ _ _ _ (by omega), uu_same, if_neg (by decide), uu_same, if_neg (by decide), uu_same, if_pos rfl]; exact e1
  · rw [cp_ne _ _ _ _ _ _ (by omega), cp_ne _ _ _ _ _ _ (by omega), uu_same, if_neg (by decide), uu_same, if_pos rfl, uu_ne _ _ _ (by omega)]; exact e2
  · rw [cp_ne _ _ _ _ _ _ (by omega), cp_ne _ _ _ _ _ _ (by omega), uu_same, if_pos rfl, uu_ne _ _ _ (by omega), uu_ne _ _ _ (by omega)]; exact e3
  · rw [cp_ne _ _ _ _ _ _ (by omega), cp_in _ _ _ _ _ _ (Nat.zero_le _) (by omega), uu_ne _ _ _ (by omega), uu_ne _ _ _ (by omega), uu_ne _ _ _ (by omega), Nat.zero_add, Nat.sub_zero]; exact (e4 m hm).1
  · rw [cp_in _ _ _ _ _ _ (Nat.zero_le _) (by omega), cp_ne _ _ _ _ _ _ (by omega), uu_ne _ _ _ (by omega), uu_ne _ _ _ (by omega), uu_ne _ _ _ (by omega), Nat.zero_add, Nat.sub_zero]; exact (e4 m hm).2
end ROW
