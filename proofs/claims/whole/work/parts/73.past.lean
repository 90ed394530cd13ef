/-! what was done, and how it is undone -/
def hsR (d w m b c m' b' c' : Nat) : Prop :=
  (d = 0 ∧ w = m ∧ m' = m + 1 ∧ b' = b ∧ c' = c) ∨ (d = 1 ∧ w < m ∧ m' = m ∧ b.testBit w = false ∧ b' = b ^^^ 2 ^ w ∧ c' = c) ∨ (d = 2 ∧ w < m ∧ m' = m ∧ b.testBit w = true ∧ b' = b ^^^ 2 ^ w ∧ c' = c) ∨ (d = 3 ∧ w < 10 ∧ m' = m ∧ b' = b ∧ c.testBit w = false ∧ c' = c ^^^ 2 ^ w)
theorem hsR_m {d w m b c m' b' c' : Nat} (h : hsR d w m b c m' b' c') : m ≤ m' := by
  rcases h with h | h | h | h <;> omega
def hiI (nd ln me : Nat) (so pl : Nat → Nat) (br cu : Nat) (Nc Nm : ux_N) : Prop :=
  ∃ (hs : Nat) (hm hb hc : Nat → Nat), hs ≤ 8 ∧ Nc 30 0 = nI hs ∧ Nm 0 6 = nI hs ∧ (hm hs = me ∧ hb hs = br ∧ hc hs = cu) ∧ ∀ i, i < hs → (stB nd ln (hm i) so pl (hb i) (hc i) ∧ stM Nm (21 + 21 * i) (hm i) so pl (hb i) (hc i)) ∧ ∃ d w, Nc 31 i = nI d ∧ Nc 32 i = nI w ∧ hsR d w (hm i) (hb i) (hc i) (hm (i + 1)) (hb (i + 1)) (hc (i + 1))
theorem hi_mono {hs : Nat} {hm : Nat → Nat} (h : ∀ i, i < hs → hm i ≤ hm (i + 1)) : ∀ k i, i + k ≤ hs → hm i ≤ hm (i + k)
  | 0, _, _ => Nat.le_refl _
  | k + 1, i, hk => Nat.le_trans (hi_mono h k i (by omega)) (h (i + k) (by omega))
section PAS
variable {Nc Nm : ux_N} {nd ln me : Nat} {so pl : Nat → Nat} {br cu : Nat}
theorem hiI_fr {Nc' Nm' : ux_N} (h : hiI nd ln me so pl br cu Nc Nm) (c0 : Nc' 30 0 = Nc 30 0) (c1 : Nc' 31 = Nc 31) (c2 : Nc' 32 = Nc 32) (m0 : Nm' 0 6 = Nm 0 6) (m1 : ∀ k, 21 ≤ k → k < 189 → Nm' 1 k = Nm 1 k) : hiI nd ln me so pl br cu Nc' Nm' := by
  obtain ⟨hs, hm, hb, hc, h8, e1, e2, e3, e4⟩ := h
  refine ⟨hs, hm, hb, hc, h8, by rw [c0]; exact e1, by rw [m0]; exact e2, e3, fun i hi => ?_⟩
  obtain ⟨⟨s1, s2⟩, d, w, s3, s4, s5⟩ := e4 i hi
  refine ⟨⟨s1, stM_mv s2 s1.1.1 (fun k hk => m1 _ (by omega) (by omega))⟩, d, w, by rw [c1]; exact s3, by rw [c2]; exact s4, s5⟩
theorem hi_none {Nc' Nm' : ux_N} (c0 : Nc' 30 0 = 0) (m0 : Nm' 0 6 = 0) : hiI nd ln me so pl br cu Nc' Nm' :=
  ⟨0, fun _ => me, fun _ => br, fun _ => cu, Nat.zero_le _, c0, m0, ⟨rfl, rfl, rfl⟩, fun i hi => by omega⟩
theorem hi_size (h : hiI nd ln me so pl br cu Nc Nm) : ∃ hs, hs ≤ 8 ∧ Nc 30 0 = nI hs ∧ Nm 0 6 = nI hs := by
  obtain ⟨hs, hm, hb, hc, h8, e1, e2, e3, e4⟩ := h
  exact ⟨hs, h8, e1, e2⟩
theorem hi_push (h : hiI nd ln me so pl br cu Nc Nm) (hb0 : stB nd ln me so pl br cu) (hst : stM Nm 0 me so pl br cu) {d w me' br' cu' : Nat} {so' pl' : Nat → Nat} (hr : hsR d w me br cu me' br' cu') (hso : ∀ m, m < me → so' m = so m ∧ pl' m = pl m) {Nc1 : ux_N} (k0 : Nc1 30 0 = Nc 30 0) (k1 : Nc1 31 = Nc 31) (k2 : Nc1 32 = Nc 32) :
    ∃ Nc' Nm1, fX1_note (nI d) (nI w) Nc1 = some Nc' ∧ fX12_keepPast Nm = some Nm1 ∧ (∀ a, a ≠ 30 → a ≠ 31 → a ≠ 32 → Nc' a = Nc1 a) ∧ (∀ a, a ≠ 0 → a ≠ 1 → Nm1 a = Nm a) ∧ (∀ j, j ≠ 6 → Nm1 0 j = Nm 0 j) ∧ (∀ k, k < 21 ∨ 189 ≤ k → Nm1 1 k = Nm 1 k) ∧ hiI nd ln me' so' pl' br' cu' Nc' Nm1 := by
  obtain ⟨hs, hm, hb, hc, h8, e1, e2, ⟨e3, e3b, e3c⟩, e4⟩ := h
  obtain ⟨Nc', n0, n1, n2, n3, n4, n5⟩ := hc_note (N := Nc1) h8 (by rw [k0]; exact e1) (nI d) (nI w)
  obtain ⟨Nm1, p0, p1, p2, p3, p4, p5, p6⟩ := hm_keep (N := Nm) h8 e2
  have mono : ∀ i, i ≤ hs → hm i ≤ me := fun i hi => by
    have hl : ∀ i, i < hs → hm i ≤ hm (i + 1) := fun i hi => by
      obtain ⟨_, _, _, _, _, z⟩ := e4 i hi
      exact hsR_m z
    have := hi_mono hl (hs - i) i (by omega)
    rw [show i + (hs - i) = hs from by omega, e3] at this
    exact this
  have sh1 : hsh hs ≤ 1 ∧ hsh hs ≤ hs ∧ hs + 1 - hsh hs ≤ 8 := by
    unfold hsh
    by_cases q : hs = 8
    · rw [if_pos q]; omega
    · rw [if_neg q]; omega
  refine ⟨Nc', Nm1, n0, p0, n1, p1, p2, p3, hs + 1 - hsh hs, fun i => if i = hs + 1 - hsh hs then me' else hm (i + hsh hs), fun i => if i = hs + 1 - hsh hs then br' else hb (i + hsh hs), fun i => if i = hs + 1 - hsh hs then cu' else hc (i + hsh hs), sh1.2.2, n2, p4, ⟨if_pos rfl, if_pos rfl, if_pos rfl⟩, fun i hi => ?_⟩
  have ni : ¬ i = hs + 1 - hsh hs := by omega
  dsimp only
  rw [if_neg ni, if_neg ni, if_neg ni]
  by_cases q : i + hsh hs < hs
  · have ni2 : ¬ i + 1 = hs + 1 - hsh hs := by omega
    obtain ⟨⟨s1, s2⟩, d1, w1, s3, s4, s5⟩ := e4 _ q
    have hm1 := mono _ (Nat.le_of_lt q)
    have cg : ∀ m, m < hm (i + hsh hs) → so' m = so m ∧ pl' m = pl m := fun m hm2 => hso m (by omega)
    rw [if_neg ni2, if_neg ni2, if_neg ni2, show i + 1 + hsh hs = i + hsh hs + 1 from by omega]
    refine ⟨⟨stB_cg s1 cg, stM_cg (stM_mv s2 s1.1.1 (fun k hk => p5 i q k hk)) cg⟩, d1, w1, ?_, ?_, s5⟩
    · rw [(n3 i q).1, k1]; exact s3
    · rw [(n3 i q).2, k2]; exact s4
  · have ei : i = hs - hsh hs := by omega
    have ei2 : i + 1 = hs + 1 - hsh hs := by omega
    have ei3 : i + hsh hs = hs := by omega
    rw [if_pos ei2, if_pos ei2, if_pos ei2, ei3, e3, e3b, e3c]
    refine ⟨⟨stB_cg hb0 hso, stM_cg (stM_mv hst hb0.1.1 (fun k hk => ?_)) hso⟩, d, w, ?_, ?_, hr⟩
    · rw [ei, p6 k hk, Nat.zero_add]
    · rw [ei]; exact n4
    · rw [ei]; exact n5
theorem stB_512 (hb : stB nd ln me so pl br cu) : br < 2 ^ 9 := Nat.lt_of_lt_of_le hb.1.2.1 (Nat.pow_le_pow_right (by decide) hb.1.1)
theorem hi_undo (h : hiI nd ln me so pl br cu Nc Nm) (hl : ln ≤ 10) (hb0 : stB nd ln me so pl br cu) (hsc : stC Nc 19 me so pl br cu) : (Nc 30 0 = nI 0 ∧ Nm 0 6 = nI 0) ∨ ∃ hs me' br' cu' Nc' Nm', Nc 30 0 = nI (hs + 1) ∧ hs < 8 ∧ fX1_revertLatest 19 Nc = some Nc' ∧ fX12_undo Nm = some (nI hs, Nm') ∧ Nc' 30 0 = nI hs ∧ stB nd ln me' so pl br' cu' ∧ stC Nc' 19 me' so pl br' cu' ∧ stM Nm' 0 me' so pl br' cu' ∧ hiI nd ln me' so pl br' cu' Nc' Nm' ∧ (∀ a, a ≠ 19 → a ≠ 30 → Nc' a = Nc a) ∧ (∀ a, a ≠ 0 → a ≠ 1 → Nm' a = Nm a) ∧ (∀ j, j ≠ 6 → Nm' 0 j = Nm 0 j) ∧ ∀ k, 21 ≤ k → Nm' 1 k = Nm 1 k := by
  obtain ⟨hs, hm, hb, hc, h8, e1, e2, ⟨e3, e3b, e3c⟩, e4⟩ := h
  by_cases z : hs = 0
  · subst z; exact Or.inl ⟨e1, e2⟩
  · obtain ⟨hs, rfl⟩ : ∃ k, hs = k + 1 := ⟨hs - 1, by omega⟩
    refine Or.inr ?_
    obtain ⟨⟨s1, s2⟩, d, w, s3, s4, s5⟩ := e4 hs (by omega)
    obtain ⟨Nm', c0, c1, c2, c3⟩ := lm_copyRow (ux_u Nm 0 6 (nI hs)) (a := 21 + 21 * hs) (b := 0) (by omega) (by decide) (by omega)
    obtain ⟨x1, x2, x3, x4⟩ := hsc
    have im : nI (hs + 1) - (1 : Int32) = nI hs := by rw [li_1, pk_sub (by omega)]; rfl
    have hM : fX12_undo Nm = some (nI hs, Nm') := by
      unfold fX12_undo
      rw [e2, if_neg (fun w => by have := (pb_eq0 (by omega)).mp w; omega), im, uu_same, if_pos rfl, li_21, pk_mul, nI_add, li_0, c0, Option.bind_some, c1 0 (by decide), uu_same, if_pos rfl]
    have m06 : Nm' 0 6 = nI hs := by rw [c1 0 (by decide), uu_same, if_pos rfl]
    have m0j : ∀ j, j ≠ 6 → Nm' 0 j = Nm 0 j := fun j hj => by rw [c1 0 (by decide), uu_same, if_neg hj]
    have m1k : ∀ k, 21 ≤ k → Nm' 1 k = Nm 1 k := fun k hk => by rw [c3 k (by omega), uu_ne _ _ _ (by decide)]
    have mx : ∀ a, a ≠ 0 → a ≠ 1 → Nm' a = Nm a := fun a h0 h1 => by rw [c1 a h1, uu_ne _ _ _ h0]
    have hst' : stM Nm' 0 (hm hs) so pl (hb hs) (hc hs) := stM_mv s2 s1.1.1 (fun k hk => by rw [c2 k hk, uu_ne _ _ _ (by decide)])
    have fin : ∀ Nc', fX1_revertLatest 19 Nc = some Nc' → Nc' 30 0 = nI hs → stC Nc' 19 (hm hs) so pl (hb hs) (hc hs) → (∀ a, a ≠ 19 → a ≠ 30 → Nc' a = Nc a) → ∃ hs_1 me' br' cu' Nc' Nm', Nc 30 0 = nI (hs_1 + 1) ∧ hs_1 < 8 ∧ fX1_revertLatest 19 Nc = some Nc' ∧ fX12_undo Nm = some (nI hs_1, Nm') ∧ Nc' 30 0 = nI hs_1 ∧ stB nd ln me' so pl br' cu' ∧ stC Nc' 19 me' so pl br' cu' ∧ stM Nm' 0 me' so pl br' cu' ∧ hiI nd ln me' so pl br' cu' Nc' Nm' ∧ (∀ a, a ≠ 19 → a ≠ 30 → Nc' a = Nc a) ∧ (∀ a, a ≠ 0 → a ≠ 1 → Nm' a = Nm a) ∧ (∀ j, j ≠ 6 → Nm' 0 j = Nm 0 j) ∧ ∀ k, 21 ≤ k → Nm' 1 k = Nm 1 k := fun Nc' r1 r2 r3 r4 =>
      ⟨hs, hm hs, hb hs, hc hs, Nc', Nm', e1, by omega, r1, hM, r2, s1, r3, hst', ⟨hs, hm, hb, hc, by omega, r2, m06, ⟨rfl, rfl, rfl⟩, fun i hi => by
        obtain ⟨⟨t1, t2⟩, d1, w1, t3, t4, t5⟩ := e4 i (by omega)
        exact ⟨⟨t1, stM_mv t2 t1.1.1 (fun k hk => m1k _ (by omega))⟩, d1, w1, by rw [r4 31 (by decide) (by decide)]; exact t3, by rw [r4 32 (by decide) (by decide)]; exact t4, t5⟩⟩, r4, mx, m0j, m1k⟩
    have b9 := stB_512 hb0
    have b9' := stB_512 s1
    have c10 : cu < 2 ^ 10 := Nat.lt_of_lt_of_le hb0.1.2.2 (Nat.pow_le_pow_right (by decide) hl)
    have hm9 : hm hs ≤ 9 := s1.1.1
    have lt0 : 0 < nI (hs + 1) := (pb_0lt (by omega)).mpr (by omega)
    have q30 : ux_u Nc 30 0 (nI hs) 30 0 = nI hs := by rw [uu_same, if_pos rfl]
    have q31 : ux_u Nc 30 0 (nI hs) 31 hs = nI d := by rw [uu_ne _ _ _ (by decide)]; exact s3
    have q32 : ux_u Nc 30 0 (nI hs) 32 hs = nI w := by rw [uu_ne _ _ _ (by decide)]; exact s4
    have q19 : ux_u Nc 30 0 (nI hs) 19 = Nc 19 := uu_ne _ _ _ (by decide)
    rcases s5 with ⟨rfl, rfl, f1, f2, f3⟩ | ⟨rfl, f0, f1, f2, f3, f4⟩ | ⟨rfl, f0, f1, f2, f3, f4⟩ | ⟨rfl, f0, f1, f2, f3, f4⟩
    · refine fin (ux_u (ux_u Nc 30 0 (nI hs)) 19 0 (nI (hm hs))) ?_ ?_ ⟨?_, ?_, ?_, fun m hm2 => ?_⟩ (fun a h1 h2 => ?_)
      · unfold fX1_revertLatest fX1_revertLatest_77 fX1_revertLatest_120
        rw [e1, if_pos lt0, im, q30, pb_in (by omega) (by decide), if_pos rfl, if_pos rfl, nI_clamp (by omega), q31, if_pos (show nI 0 = (0 : Int32) from rfl), if_pos rfl, q32]
      · rw [uu_ne _ _ _ (by decide), q30]
      · rw [uu_same, if_pos rfl]
      · rw [uu_same, if_neg (by decide), q19, x2, ← e3b, f2]
      · rw [uu_same, if_neg (by decide), q19, x3, ← e3c, f3]
      · rw [uu_ne _ _ _ (by decide), uu_ne _ _ _ (by decide), uu_ne _ _ _ (by decide), uu_ne _ _ _ (by decide)]
        exact x4 m (by omega)
      · rw [uu_ne _ _ _ h1, uu_ne _ _ _ h2]
    · refine fin (ux_u (ux_u Nc 30 0 (nI hs)) 19 1 (nI (hb hs))) ?_ ?_ ⟨?_, ?_, ?_, fun m hm2 => ?_⟩ (fun a h1 h2 => ?_)
      · unfold fX1_revertLatest fX1_revertLatest_89 fX1_revertLatest_120
        rw [e1, if_pos lt0, im, q30, pb_in (by omega) (by decide), if_pos rfl, if_pos rfl, nI_clamp (by omega), q31, if_neg (show ¬ nI 1 = (0 : Int32) from by decide), if_pos (show nI 1 = (1 : Int32) from rfl), q32, q19, x2, pb_pow (by omega), bit_off (n := 9) b9 (by decide) (by omega), ← e3b, f3, if_pos (by rw [xor_tb, f2]; rfl), xor_xor]
      · rw [uu_ne _ _ _ (by decide), q30]
      · rw [uu_same, if_neg (by decide), q19, x1, ← e3, f1]
      · rw [uu_same, if_pos rfl]
      · rw [uu_same, if_neg (by decide), q19, x3, ← e3c, f4]
      · rw [uu_ne _ _ _ (by decide), uu_ne _ _ _ (by decide), uu_ne _ _ _ (by decide), uu_ne _ _ _ (by decide)]
        exact x4 m (by omega)
      · rw [uu_ne _ _ _ h1, uu_ne _ _ _ h2]
    · refine fin (ux_u (ux_u Nc 30 0 (nI hs)) 19 1 (nI (hb hs))) ?_ ?_ ⟨?_, ?_, ?_, fun m hm2 => ?_⟩ (fun a h1 h2 => ?_)
      · unfold fX1_revertLatest fX1_revertLatest_102 fX1_revertLatest_120
        rw [e1, if_pos lt0, im, q30, pb_in (by omega) (by decide), if_pos rfl, if_pos rfl, nI_clamp (by omega), q31, if_neg (show ¬ nI 2 = (0 : Int32) from by decide), if_neg (show ¬ nI 2 = (1 : Int32) from by decide), if_pos (show nI 2 = (2 : Int32) from rfl), q32, q19, x2, pb_pow (by omega), bit_on, ← e3b, f3, if_neg (by rw [xor_tb, f2]; decide), xor_xor]
      · rw [uu_ne _ _ _ (by decide), q30]
      · rw [uu_same, if_neg (by decide), q19, x1, ← e3, f1]
      · rw [uu_same, if_pos rfl]
      · rw [uu_same, if_neg (by decide), q19, x3, ← e3c, f4]
      · rw [uu_ne _ _ _ (by decide), uu_ne _ _ _ (by decide), uu_ne _ _ _ (by decide), uu_ne _ _ _ (by decide)]
        exact x4 m (by omega)
      · rw [uu_ne _ _ _ h1, uu_ne _ _ _ h2]
    · refine fin (ux_u (ux_u Nc 30 0 (nI hs)) 19 2 (nI (hc hs))) ?_ ?_ ⟨?_, ?_, ?_, fun m hm2 => ?_⟩ (fun a h1 h2 => ?_)
      · unfold fX1_revertLatest fX1_revertLatest_117 fX1_revertLatest_120
        rw [e1, if_pos lt0, im, q30, pb_in (by omega) (by decide), if_pos rfl, if_pos rfl, nI_clamp (by omega), q31, if_neg (show ¬ nI 3 = (0 : Int32) from by decide), if_neg (show ¬ nI 3 = (1 : Int32) from by decide), if_neg (show ¬ nI 3 = (2 : Int32) from by decide), q32, q19, x3, pb_pow (by omega), bit_off (n := 10) c10 (by decide) (by omega), ← e3c, f4, if_pos (by rw [xor_tb, f3]; rfl), xor_xor]
      · rw [uu_ne _ _ _ (by decide), q30]
      · rw [uu_same, if_neg (by decide), q19, x1, ← e3, f1]
      · rw [uu_same, if_neg (by decide), q19, x2, ← e3b, f2]
      · rw [uu_same, if_pos rfl]
      · rw [uu_ne _ _ _ (by decide), uu_ne _ _ _ (by decide), uu_ne _ _ _ (by decide), uu_ne _ _ _ (by decide)]
        exact x4 m (by omega)
      · rw [uu_ne _ _ _ h1, uu_ne _ _ _ h2]
end PAS
/-! what is kept, what is told of meters, the words -/
def keI (nd ln : Nat) (Nc Nm : ux_N) (k : Nat) : Prop := Nc 29 k = Nm 4 k ∧ (Nc 29 k = 0 ∨ (Nc 29 k = 1 ∧ ∃ me so pl br cu, stB nd ln me so pl br cu ∧ stC Nc (23 + 3 * k) me so pl br cu ∧ stM Nm (189 + 21 * k) me so pl br cu))
theorem keI_fr {Nc Nm Nc' Nm' : ux_N} {nd ln k : Nat} (h : keI nd ln Nc Nm k) (c29 : Nc' 29 k = Nc 29 k) (cc : ∀ a, 23 + 3 * k ≤ a → a < 23 + 3 * k + 3 → Nc' a = Nc a) (m4 : Nm' 4 k = Nm 4 k) (m1 : ∀ j, j < 21 → Nm' 1 (189 + 21 * k + j) = Nm 1 (189 + 21 * k + j)) : keI nd ln Nc' Nm' k := by
  obtain ⟨a, b⟩ := h
  refine ⟨by rw [c29, m4]; exact a, ?_⟩
  rw [c29]
  rcases b with b | ⟨b, me, so, pl, br, cu, s1, s2, s3⟩
  · exact Or.inl b
  · exact Or.inr ⟨b, me, so, pl, br, cu, s1, stC_fr s2 cc, stM_mv s3 s1.1.1 m1⟩
def toI (nd ln : Nat) (Nc Nm : ux_N) (tm : Nat) (ts ta : Nat → Nat) : Prop := stB nd ln tm ts ta 0 0 ∧ (Nc 1 2 = nI tm ∧ ∀ k, k < tm → Nc 4 k = nI (ts k) ∧ Nc 5 k = nI (ta k)) ∧ stM Nm 231 tm ts ta 0 0
theorem toI_fr {Nc Nm Nc' Nm' : ux_N} {nd ln tm : Nat} {ts ta : Nat → Nat} (h : toI nd ln Nc Nm tm ts ta) (c1 : Nc' 1 2 = Nc 1 2) (c4 : Nc' 4 = Nc 4) (c5 : Nc' 5 = Nc 5) (m1 : ∀ j, 231 ≤ j → Nm' 1 j = Nm 1 j) : toI nd ln Nc' Nm' tm ts ta := by
  obtain ⟨a, b, c⟩ := h
  refine ⟨a, by rw [c1, c4, c5]; exact b, stM_mv c a.1.1 (fun k hk => m1 _ (by omega))⟩
def wrd (k : Nat) : Nat := [102, 108, 111, 119, 0, 112, 97, 105, 114, 0, 110, 111, 100, 101, 0, 119, 105, 100, 101, 0, 100, 117, 108, 108, 0, 111, 102, 102, 101, 114, 103, 114, 105, 100, 0, 108, 105, 110, 101, 0].getD k 0
def woI (Nm : ux_N) : Prop := ∀ k, k < 40 → Nm 12 k = nI (wrd k)
