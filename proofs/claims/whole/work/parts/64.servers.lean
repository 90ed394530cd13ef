section SRS
variable {N : ux_N} {L : ux_L} {nd ln : Nat} {lo hi : Nat → Nat} {me : Nat} {so pl : Nat → Nat} {br cu : Nat}
/-- the servers as the class keeps them -/
def seC (N : ux_N) (ln : Nat) (lo hi : Nat → Nat) (me : Nat) (so pl : Nat → Nat) (br cu : Nat) : Prop :=
  (∀ l, l < 10 → N 104 l = svS (rcS ln lo hi so pl br cu) me (trS ln lo hi me so pl br cu) l) ∧ (∀ m, m < 9 → N 105 m = lnS (rcS ln lo hi so pl br cu) me (trS ln lo hi me so pl br cu) 10 m) ∧ N 103 0 = nI (spB (rcS ln lo hi so pl br cu) me (trS ln lo hi me so pl br cu) (whB me br) 10)
theorem whB_lt (hme : me ≤ 9) : whB me br < 512 := Nat.lt_of_lt_of_le (bsN_lt _ me) (show 2 ^ me ≤ 2 ^ 9 from Nat.pow_le_pow_right (by decide) hme)
theorem cc_learnServers (hn : ln ≤ 10) (hb : stB nd ln me so pl br cu) (hs : stC N 19 me so pl br cu) (hi1 : siC N L ln lo hi me so pl br cu) (hk : N 33 14 = 0 ∨ (N 33 14 = 1 ∧ seC N ln lo hi me so pl br cu)) : ∃ N', fX6_learnServers N = some N' ∧ (∀ a, a ≠ 33 → a ≠ 103 → a ≠ 104 → a ≠ 105 → a ≠ 106 → N' a = N a) ∧ (∀ j, j ≠ 14 → N' 33 j = N 33 j) ∧ N' 33 14 = 1 ∧ seC N' ln lo hi me so pl br cu := by
  have me9 : me ≤ 9 := hb.1.1
  have p10 : 2 ^ ln ≤ 1024 := show 2 ^ ln ≤ 2 ^ 10 from Nat.pow_le_pow_right (by decide) hn
  rcases hk with hk | ⟨hk, h2⟩
  · have tl := (trS_lt (ln := ln) (lo := lo) (hi := hi) (me := me) (so := so) (pl := pl) (br := br) (cu := cu)).2
    obtain ⟨N1, q0, q1, q2, q3, q4⟩ := cc_assign (N := N) (W := whB me br) (T := trS ln lo hi me so pl br cu) (me := me) (rc := rcS ln lo hi so pl br cu) (whB_lt me9) tl me9 (fun m hm => ⟨hi1.2.2.2.1 m ((whB_tb me br m).mp hm).1, Nat.lt_of_lt_of_le (rcS_lt ln lo hi so pl br cu m) p10⟩) (fun m hm => ((whB_tb me br m).mp hm).1) (fun m hm hr => (whB_tb me br m).mpr ⟨hm, by
      by_cases q : br.testBit m = true
      · exact absurd (by unfold rcS; rw [if_pos q]) hr
      · simpa using q⟩) trS_mt
    refine ⟨ux_u N1 33 14 1, ?_, fun a h1 h2 h3 h4 h5 => (uu_ne _ _ _ h1).trans (q1 a h2 h3 h4 h5), fun j hj => ?_, by rw [uu_same, if_pos rfl], ⟨fun l hl => ?_, fun m hm => ?_, ?_⟩⟩
    · unfold fX6_learnServers
      rw [if_pos hk, cc_whole hb hs, Option.bind_some, hi1.2.2.1, q0, Option.bind_some]
      rfl
    · rw [uu_same, if_neg hj, q1 33 (by decide) (by decide) (by decide) (by decide)]
    · rw [uu_ne _ _ _ (by decide)]; exact q2 l hl
    · rw [uu_ne _ _ _ (by decide)]; exact q3 m hm
    · rw [uu_ne _ _ _ (by decide)]; exact q4
  · refine ⟨N, ?_, fun _ _ _ _ _ _ => rfl, fun _ _ => rfl, hk, h2⟩
    unfold fX6_learnServers
    rw [hk, if_neg (by decide)]; rfl
theorem lnS_more {rc : Nat → Nat} {T n m : Nat} : ∀ {k : Nat}, n ≤ k → (∀ j, n ≤ j → T.testBit j = false) → lnS rc me T k m = lnS rc me T n m
  | 0, h, _ => by have : n = 0 := by omega
                  rw [this]
  | k + 1, h, hf => by
    by_cases e : n = k + 1
    · rw [e]
    · show (if T.testBit k = true ∧ m = pkS rc (lmS rc me T k) T k then nI k else lnS rc me T k m) = _
      rw [if_neg (fun z => by rw [hf k (by omega)] at z; cases z.1), lnS_more (by omega) hf]
theorem spB_more {rc : Nat → Nat} {T W n : Nat} : ∀ {k : Nat}, n ≤ k → (∀ j, n ≤ j → T.testBit j = false) → spB rc me T W k = spB rc me T W n
  | 0, h, _ => by have : n = 0 := by omega
                  rw [this]
  | k + 1, h, hf => by
    by_cases e : n = k + 1
    · rw [e]
    · rw [spB_n (by rw [hf k (by omega)]; decide), spB_more (by omega) hf]
theorem lm_lineOf (hp : plM N nd ln lo hi) (hb : stB nd ln me so pl br cu) (hs : stM N 0 me so pl br cu) (hW : wiM L) (hF : foM L ln lo hi) {m : Nat} (hm : m < 9) : ∃ N' L', fX12_lineOf (nI m) N L = some (lnS (rcS ln lo hi so pl br cu) me (trS ln lo hi me so pl br cu) 10 m, N', L') ∧ (∀ a, a ≠ 17 → N' a = N a) ∧ ∀ a, a ≠ 15 → L' a = L a := by
  obtain ⟨N1, L1, q0, q1, q2, q3⟩ := lm_layServes hp hb hs hW hF
  have me9 : me ≤ 9 := hb.1.1
  have hpb := hp.2.2.1
  have tl := trS_lt (ln := ln) (lo := lo) (hi := hi) (me := me) (so := so) (pl := pl) (br := br) (cu := cu)
  have tm := trS_mt (ln := ln) (lo := lo) (hi := hi) (me := me) (so := so) (pl := pl) (br := br) (cu := cu)
  have h1 : N1 0 2 = nI ln := by rw [q1 0 (by decide)]; exact hp.2.1
  have hlp : ux_lp (fun s : Int32 × Int32 => fX12_lineOf_8b (nI m) s.1 s.2 N1 L1) ux_fu ((-1 : Int32), (0 : Int32)) = some (lnS (rcS ln lo hi so pl br cu) me (trS ln lo hi me so pl br cu) 10 m) := by
    rw [lnS_more (n := ln) hpb.2.2 (fun j hj => tb_ge tl.1 hj)]
    refine lp_at (fun i => (lnS (rcS ln lo hi so pl br cu) me (trS ln lo hi me so pl br cu) i m, nI i)) ln rfl (by omega) ?_ ?_
    · intro i hk
      have s17 := q3 i (by omega)
      dsimp only
      unfold fX12_lineOf_8b
      rw [h1, if_neg (fun z => by have := (nI_leI (by omega) (by omega)).mp z; omega), pb_in (by omega : i < 10) (by decide), if_pos rfl, nI_clamp (by omega), s17]
      have es : lnS (rcS ln lo hi so pl br cu) me (trS ln lo hi me so pl br cu) (i + 1) m = if (trS ln lo hi me so pl br cu).testBit i = true ∧ m = pkS (rcS ln lo hi so pl br cu) (lmS (rcS ln lo hi so pl br cu) me (trS ln lo hi me so pl br cu) i) (trS ln lo hi me so pl br cu) i then nI i else lnS (rcS ln lo hi so pl br cu) me (trS ln lo hi me so pl br cu) i m := rfl
      rw [es]
      unfold svS fX12_lineOf_8b_31
      by_cases q : (trS ln lo hi me so pl br cu).testBit i = true
      · have mt := lmS_mt tl.2 me9 tm i
        have p1 := (pk_of (M := lmS (rcS ln lo hi so pl br cu) me (trS ln lo hi me so pl br cu) i) tl.2 (fun m hm => Nat.lt_of_lt_of_le (lmS_lt hm) me9) q mt).1
        rw [if_pos q]
        by_cases e : m = pkS (rcS ln lo hi so pl br cu) (lmS (rcS ln lo hi so pl br cu) me (trS ln lo hi me so pl br cu) i) (trS ln lo hi me so pl br cu) i
        · rw [if_pos (by rw [← e]), if_pos ⟨q, e⟩, li_1, nI_add]
        · rw [if_neg (fun z => e ((nI_eq (by omega) (by omega)).mp z).symm), if_neg (fun z => e z.2), li_1, nI_add]
      · rw [if_neg q, if_neg (fun z => pb_m1' (by omega) z), if_neg (fun z => q z.1), li_1, nI_add]
    · dsimp only
      unfold fX12_lineOf_8b
      rw [h1, if_pos ((nI_leI (by omega) (by omega)).mpr (Nat.le_refl _))]
  refine ⟨N1, L1, ?_, q1, q2⟩
  unfold fX12_lineOf
  rw [q0, Option.bind_some]
  dsimp only
  rw [hlp]; rfl
theorem lm_spare (hp : plM N nd ln lo hi) (hb : stB nd ln me so pl br cu) (hs : stM N 0 me so pl br cu) (hW : wiM L) (hF : foM L ln lo hi) : ∃ N' L', fX12_spare N L = some (nI (spB (rcS ln lo hi so pl br cu) me (trS ln lo hi me so pl br cu) (whB me br) 10), N', L') ∧ (∀ a, a ≠ 17 → N' a = N a) ∧ ∀ a, a ≠ 15 → L' a = L a := by
  obtain ⟨N1, L1, q0, q1, q2, q3⟩ := lm_layServes hp hb hs hW hF
  have me9 : me ≤ 9 := hb.1.1
  have pm0 : 0 < 2 ^ me := Nat.two_pow_pos me
  have hpb := hp.2.2.1
  have tl := trS_lt (ln := ln) (lo := lo) (hi := hi) (me := me) (so := so) (pl := pl) (br := br) (cu := cu)
  have tm := trS_mt (ln := ln) (lo := lo) (hi := hi) (me := me) (so := so) (pl := pl) (br := br) (cu := cu)
  have h1 : N1 0 2 = nI ln := by rw [q1 0 (by decide)]; exact hp.2.1
  have s0 : (((1 : Int32) <<< ((N1 1 0) &&& 31)) - (1 : Int32)) &&& ((N1 1 1) ^^^ (-1 : Int32)) = nI (whB me br) := by
    have s1 : N1 1 1 = nI br := by rw [q1 1 (by decide)]; have := hs.2.1; rw [Nat.zero_add] at this; exact this
    rw [s1, show N1 1 0 = nI me from by rw [q1 1 (by decide)]; exact hs.1, pb_all (by omega), pb_andn (n := me) (by omega) (by omega)]
    rfl
  have wl := whB_lt (me := me) (br := br) me9
  have wsp : spB (rcS ln lo hi so pl br cu) me (trS ln lo hi me so pl br cu) (whB me br) 0 = whB me br := by
    refine tb_ext (n := 9) (spB_lt _ _ _ _ _) wl (fun j hj => ?_)
    rw [Bool.eq_iff_iff, spB_tb wl]
    exact ⟨fun z => z.1, fun z => ⟨z, ((whB_tb me br j).mp z).1⟩⟩
  have hlp : ux_lp (fun s : Int32 × Int32 => fX12_spare_26b s.1 s.2 N1 L1) ux_fu (nI (whB me br), (0 : Int32)) = some (nI (spB (rcS ln lo hi so pl br cu) me (trS ln lo hi me so pl br cu) (whB me br) 10)) := by
    rw [spB_more (n := ln) hpb.2.2 (fun j hj => tb_ge tl.1 hj)]
    refine lp_at (fun i => (nI (spB (rcS ln lo hi so pl br cu) me (trS ln lo hi me so pl br cu) (whB me br) i), nI i)) ln (by rw [wsp]; rfl) (by omega) ?_ ?_
    · intro i hk
      have s17 := q3 i (by omega)
      dsimp only
      unfold fX12_spare_26b
      rw [h1, if_neg (fun z => by have := (nI_leI (by omega) (by omega)).mp z; omega), pb_in (by omega : i < 10) (by decide), if_pos rfl, nI_clamp (by omega), s17]
      unfold svS fX12_spare_26b_59
      by_cases q : (trS ln lo hi me so pl br cu).testBit i = true
      · have mt := lmS_mt tl.2 me9 tm i
        have p1 := (pk_of (M := lmS (rcS ln lo hi so pl br cu) me (trS ln lo hi me so pl br cu) i) tl.2 (fun m hm => Nat.lt_of_lt_of_le (lmS_lt hm) me9) q mt).1
        rw [if_pos q, if_neg (pb_m1 (by omega)), if_pos rfl, pb_pow (by omega), spB_s wl q, li_1, nI_add]
      · rw [if_neg q, if_pos rfl, spB_n q, fa_and, Nat.and_self, li_1, nI_add]
    · dsimp only
      unfold fX12_spare_26b
      rw [h1, if_pos ((nI_leI (by omega) (by omega)).mpr (Nat.le_refl _))]
  refine ⟨N1, L1, ?_, q1, q2⟩
  unfold fX12_spare
  rw [q0, Option.bind_some]
  dsimp only
  rw [s0, hlp]; rfl
end SRS
