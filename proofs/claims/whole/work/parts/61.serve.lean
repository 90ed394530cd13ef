/-! which meter serves which line of the tree -/
def rsT (tree i : Nat) : Nat := bsN (fun j => tree.testBit j && decide (i ≤ j)) 10
theorem rsT_tb {tree : Nat} (h : tree < 1024) (i j : Nat) : ((rsT tree i).testBit j = true) ↔ (tree.testBit j = true ∧ i ≤ j) := by
  unfold rsT
  rw [bsN_tb]
  simp only [Bool.and_eq_true, decide_eq_true_eq]
  constructor
  · intro ⟨a, b, c⟩; exact ⟨b, c⟩
  · intro ⟨b, c⟩
    exact ⟨Nat.lt_of_not_le (fun q => by rw [tb_ge (n := 10) h q] at b; cases b), b, c⟩
theorem rsT_lt (tree i : Nat) : rsT tree i < 1024 := bsN_1024 (by decide)
theorem rsT_0 {tree : Nat} (h : tree < 1024) : rsT tree 0 = tree := tb_ext (n := 10) (rsT_lt _ _) h (fun j hj => by unfold rsT; rw [bsN_tb]; simp [hj])
theorem rsT_s (tree i : Nat) (hk : i < 10) : nI (rsT tree i) &&& (nI (2 ^ i) ^^^ (-1 : Int32)) = nI (rsT tree (i + 1)) := by
  rw [pb_andn (n := 10) (rsT_lt _ _) (by decide)]
  refine congrArg nI (bsN_cong 10 (fun j hj => ?_))
  unfold rsT
  rw [bsN_tb, Nat.testBit_two_pow]
  by_cases e1 : i = j
  · have : ¬ i + 1 ≤ j := by omega
    simp [e1]
  · by_cases e2 : i ≤ j
    · have : i + 1 ≤ j := by omega
      simp [hj, e1, e2, this]
    · have : ¬ i + 1 ≤ j := by omega
      simp [hj, e1, e2, this]
theorem rsT_n (tree i : Nat) (h : ¬ tree.testBit i = true) : rsT tree (i + 1) = rsT tree i := by
  unfold rsT
  refine bsN_cong 10 (fun j hj => ?_)
  by_cases e : j = i
  · subst e; simp [h]
  · have : (i + 1 ≤ j) ↔ (i ≤ j) := by omega
    rw [decide_eq_decide.mpr this]
noncomputable def pkS (rc : Nat → Nat) (M : Nat → Prop) (tree i : Nat) : Nat := fa_first (fun m => gq_dc (M m ∧ (rc m).testBit i = true ∧ mq_MT rc (fun x => M x ∧ x ≠ m) (rsT tree (i + 1)))) 9
noncomputable def lmS (rc : Nat → Nat) (me tree : Nat) : Nat → Nat → Prop
  | 0 => fun m => m < me
  | i + 1 => fun m => lmS rc me tree i m ∧ ¬ (tree.testBit i = true ∧ m = pkS rc (lmS rc me tree i) tree i)
theorem lmS_lt {rc : Nat → Nat} {me tree : Nat} : ∀ {i m : Nat}, lmS rc me tree i m → m < me
  | 0, _, h => h
  | _ + 1, _, h => lmS_lt h.1
theorem pk_of {rc : Nat → Nat} {M : Nat → Prop} {tree i : Nat} (ht : tree < 1024) (hM : ∀ m, M m → m < 9) (hb : tree.testBit i = true) (h : mq_MT rc M (rsT tree i)) : pkS rc M tree i < 9 ∧ M (pkS rc M tree i) ∧ (rc (pkS rc M tree i)).testBit i = true ∧ mq_MT rc (fun x => M x ∧ x ≠ pkS rc M tree i) (rsT tree (i + 1)) ∧ ∀ m, m < pkS rc M tree i → ¬ (M m ∧ (rc m).testBit i = true ∧ mq_MT rc (fun x => M x ∧ x ≠ m) (rsT tree (i + 1))) := by
  obtain ⟨f, f1, f2⟩ := h
  have hi : (rsT tree i).testBit i = true := (rsT_tb ht i i).mpr ⟨hb, Nat.le_refl i⟩
  obtain ⟨g1, g2⟩ := f1 i hi
  have up : ∀ l, (rsT tree (i + 1)).testBit l = true → (rsT tree i).testBit l = true ∧ l ≠ i := fun l hl => by
    obtain ⟨a, b⟩ := (rsT_tb ht (i + 1) l).mp hl
    exact ⟨(rsT_tb ht i l).mpr ⟨a, by omega⟩, by omega⟩
  have ex : mq_MT rc (fun x => M x ∧ x ≠ f i) (rsT tree (i + 1)) := by
    refine ⟨f, fun l hl => ?_, fun l k hl hk => f2 l k (up l hl).1 (up k hk).1⟩
    obtain ⟨u1, u2⟩ := up l hl
    exact ⟨⟨(f1 l u1).1, fun e => u2 (f2 l i u1 hi e)⟩, (f1 l u1).2⟩
  have hno := fa_first_no (fun m => gq_dc (M m ∧ (rc m).testBit i = true ∧ mq_MT rc (fun x => M x ∧ x ≠ m) (rsT tree (i + 1)))) 9
  have lt : pkS rc M tree i < 9 := Nat.lt_of_not_le (fun q => by
    have := hno (f i) (Nat.lt_of_lt_of_le (hM _ g1) q)
    exact gq_dc_f.mp this ⟨g1, g2, ex⟩)
  have yes := gq_dc_t.mp (fa_first_yes (fun m => gq_dc (M m ∧ (rc m).testBit i = true ∧ mq_MT rc (fun x => M x ∧ x ≠ m) (rsT tree (i + 1)))) 9 lt)
  exact ⟨lt, yes.1, yes.2.1, yes.2.2, fun m hm => gq_dc_f.mp (hno m hm)⟩
theorem lmS_mt {rc : Nat → Nat} {me tree : Nat} (ht : tree < 1024) (hme : me ≤ 9) (h : mq_MT rc (fun m => m < me) tree) : ∀ i, mq_MT rc (lmS rc me tree i) (rsT tree i)
  | 0 => by rw [rsT_0 ht]; exact h
  | i + 1 => by
    have ih := lmS_mt ht hme h i
    by_cases hb : tree.testBit i = true
    · have := (pk_of ht (fun m hm => Nat.lt_of_lt_of_le (lmS_lt hm) hme) hb ih).2.2.2.1
      exact mq_mo (fun m hm => ⟨hm.1, fun z => hm.2 z.2⟩) this
    · rw [rsT_n tree i hb]
      exact mq_mo (fun m hm => ⟨hm, fun z => hb z.1⟩) ih
noncomputable def svS (rc : Nat → Nat) (me tree i : Nat) : Int32 := if tree.testBit i = true then nI (pkS rc (lmS rc me tree i) tree i) else -1
noncomputable def leB (rc : Nat → Nat) (me tree i : Nat) : Nat := bsN (fun m => gq_dc (lmS rc me tree i m)) 9
theorem leB_tb {rc : Nat → Nat} {me tree : Nat} (hme : me ≤ 9) (i m : Nat) : ((leB rc me tree i).testBit m = true) ↔ lmS rc me tree i m := by
  unfold leB
  rw [bsN_tb, Bool.and_eq_true, gq_dc_t, decide_eq_true_iff]
  exact ⟨fun h => h.2, fun h => ⟨Nat.lt_of_lt_of_le (lmS_lt h) hme, h⟩⟩
theorem leB_lt {rc : Nat → Nat} {me tree i : Nat} (hme : me ≤ 9) : leB rc me tree i < 2 ^ me := by
  refine Nat.lt_pow_two_of_testBit _ (fun j hj => ?_)
  cases h : (leB rc me tree i).testBit j with
  | false => rfl
  | true => have := lmS_lt ((leB_tb hme i j).mp h); omega
theorem leB_0 {rc : Nat → Nat} {me tree : Nat} (hme : me ≤ 9) : leB rc me tree 0 = 2 ^ me - 1 := by
  refine Nat.eq_of_testBit_eq (fun j => ?_)
  rw [Bool.eq_iff_iff, leB_tb hme, allBits]
  exact Iff.rfl
theorem leB_s {rc : Nat → Nat} {me tree i : Nat} (hme : me ≤ 9) (hb : tree.testBit i = true) (hp : pkS rc (lmS rc me tree i) tree i < 9) : nI (leB rc me tree i) &&& (nI (2 ^ pkS rc (lmS rc me tree i) tree i) ^^^ (-1 : Int32)) = nI (leB rc me tree (i + 1)) := by
  rw [pb_andn (a := leB rc me tree i) (n := 9) (bsN_lt _ 9) (by decide)]
  refine congrArg nI (bsN_cong 9 (fun j hj => ?_))
  rw [Bool.eq_iff_iff, Bool.and_eq_true, leB_tb hme, gq_dc_t, Nat.testBit_two_pow]
  show _ ↔ (lmS rc me tree i j ∧ ¬ (tree.testBit i = true ∧ j = pkS rc (lmS rc me tree i) tree i))
  refine and_congr Iff.rfl ?_
  simp only [Bool.not_eq_true', decide_eq_false_iff_not]
  exact ⟨fun a b => a b.2.symm, fun a b => a ⟨hb, b.symm⟩⟩
theorem leB_n {rc : Nat → Nat} {me tree i : Nat} (hb : ¬ tree.testBit i = true) : leB rc me tree (i + 1) = leB rc me tree i := by
  unfold leB
  refine bsN_cong 9 (fun j hj => gq_dc_c ?_)
  show (lmS rc me tree i j ∧ ¬ (tree.testBit i = true ∧ j = pkS rc (lmS rc me tree i) tree i)) ↔ _
  exact ⟨fun h => h.1, fun h => ⟨h, fun z => hb z.1⟩⟩
section SER
variable {N : ux_N} {L : ux_L} {nd ln : Nat} {lo hi : Nat → Nat} {me : Nat} {so pl : Nat → Nat} {br cu : Nat}
theorem lm_canDo (hp : plM N nd ln lo hi) (hb : stB nd ln me so pl br cu) (hs : stM N 0 me so pl br cu) (hA : ∀ t, t < 2 ^ me → ∀ s, s < 1024 → (gS L (16 * t) s = true ↔ mq_MT (rcS ln lo hi so pl br cu) (fun m => t.testBit m = true) s)) {m l le re : Nat} (hm : m < 32) (hl : l < 32) (hle : le < 2 ^ me) (hre : re < 1024) : ∃ r, fX12_canDo (nI m) (nI l) (nI le) (nI re) N L = some r ∧ ((r = 1 ∧ (le.testBit m = true ∧ (rcS ln lo hi so pl br cu m).testBit l = true ∧ mq_MT (rcS ln lo hi so pl br cu) (fun x => le.testBit x = true ∧ x ≠ m) re)) ∨ (r = 0 ∧ ¬ (le.testBit m = true ∧ (rcS ln lo hi so pl br cu m).testBit l = true ∧ mq_MT (rcS ln lo hi so pl br cu) (fun x => le.testBit x = true ∧ x ≠ m) re))) := by
  have me9 : me ≤ 9 := hb.1.1
  have pm : 2 ^ me ≤ 512 := show 2 ^ me ≤ 2 ^ 9 from Nat.pow_le_pow_right (by decide) me9
  have c1 := stB_c hp hb
  have hpb := hp.2.2.1
  have p10 : 2 ^ ln ≤ 1024 := show 2 ^ ln ≤ 2 ^ 10 from Nat.pow_le_pow_right (by decide) hpb.2.2
  unfold fX12_canDo
  rw [pm_has (by omega) hm, Option.bind_some]
  by_cases q1 : le.testBit m = true
  · have hme : m < me := Nat.lt_of_not_le (fun q => by rw [tb_ge hle q] at q1; cases q1)
    have rl := rcS_lt ln lo hi so pl br cu m
    rw [if_pos q1, if_neg (by decide), show N 1 2 = nI cu from hs.2.2.1, lm_mayOf hp hb hs (c := cu) (by omega) hme, Option.bind_some, pm_has (by omega) hl, Option.bind_some]
    by_cases q2 : (rcS ln lo hi so pl br cu m).testBit l = true
    · have lt2 : bsN (fun j => le.testBit j && !(2 ^ m).testBit j) me < 2 ^ me := bsN_lt _ _
      have e16 : (16 : Int32) * nI (bsN (fun j => le.testBit j && !(2 ^ m).testBit j) me) + nI (re / 64) = nI (16 * bsN (fun j => le.testBit j && !(2 ^ m).testBit j) me + re / 64) := by rw [li_16, pk_mul, nI_add]
      have key := hA _ lt2 re hre
      have cg : mq_MT (rcS ln lo hi so pl br cu) (fun x => (bsN (fun j => le.testBit j && !(2 ^ m).testBit j) me).testBit x = true) re ↔ mq_MT (rcS ln lo hi so pl br cu) (fun x => le.testBit x = true ∧ x ≠ m) re := by
        refine mq_cg (fun x => ?_) (fun _ _ => rfl)
        rw [bsN_tb, Nat.testBit_two_pow]
        simp only [Bool.and_eq_true, decide_eq_true_eq, Bool.not_eq_true', decide_eq_false_iff_not]
        constructor
        · intro ⟨_, a, b⟩; exact ⟨a, fun e => b e.symm⟩
        · intro ⟨a, b⟩; exact ⟨Nat.lt_of_not_le (fun q => by rw [tb_ge hle q] at a; cases a), a, fun e => b e.symm⟩
      rw [if_pos q2, if_neg (by decide), pb_pow (by omega), pb_andn (n := me) hle (by omega), pb_rem64 (by omega), pb_div64 (by omega), e16, pb_in (by omega) (by decide), if_pos rfl, nI_clamp (by omega)]
      unfold fX12_canDo_57
      by_cases q3 : gS L (16 * bsN (fun j => le.testBit j && !(2 ^ m).testBit j) me) re = true
      · refine ⟨1, ?_, Or.inl ⟨rfl, q1, q2, cg.mp (key.mp q3)⟩⟩
        rw [if_pos ((lb_and1 _).mpr (by rw [lb_shr0 _ (by omega)]; exact q3))]
        rfl
      · refine ⟨0, ?_, Or.inr ⟨rfl, fun z => q3 (key.mpr (cg.mpr z.2.2))⟩⟩
        rw [if_neg (fun z => q3 (by have := (lb_and1 _).mp z; rw [lb_shr0 _ (by omega)] at this; exact this))]
        rfl
    · refine ⟨0, ?_, Or.inr ⟨rfl, fun z => q2 z.2.1⟩⟩
      rw [if_neg q2, if_pos rfl]; rfl
  · refine ⟨0, ?_, Or.inr ⟨rfl, fun z => q1 z.1⟩⟩
    rw [if_neg q1, if_pos rfl]; rfl
theorem trS_mt : mq_MT (rcS ln lo hi so pl br cu) (fun m => m < me) (trS ln lo hi me so pl br cu) := (tr_spec (qP_0 ln lo hi (rcS ln lo hi so pl br cu) (fun m => m < me))).2.1.2
theorem stM_fr {N' : ux_N} {p : Nat} (hs : stM N p me so pl br cu) (e : N' 1 = N 1) : stM N' p me so pl br cu := by
  unfold stM; rw [e]; exact hs
theorem lm_layServes (hp : plM N nd ln lo hi) (hb : stB nd ln me so pl br cu) (hs : stM N 0 me so pl br cu) (hW : wiM L) (hF : foM L ln lo hi) : ∃ N' L', fX12_layServes N L = some (N', L') ∧ (∀ a, a ≠ 17 → N' a = N a) ∧ (∀ a, a ≠ 15 → L' a = L a) ∧ ∀ l, l < 10 → N' 17 l = svS (rcS ln lo hi so pl br cu) me (trS ln lo hi me so pl br cu) l := by
  have me9 : me ≤ 9 := hb.1.1
  obtain ⟨L1, a0, a1, a2⟩ := lm_tree hp hb hs hW hF
  obtain ⟨L2, b0, b1, b2⟩ := lm_all (L := L1) hp hb hs (wiM_fr hW (a1 16 (by decide)))
  have tl := (trS_lt (ln := ln) (lo := lo) (hi := hi) (me := me) (so := so) (pl := pl) (br := br) (cu := cu)).2
  have tm := trS_mt (ln := ln) (lo := lo) (hi := hi) (me := me) (so := so) (pl := pl) (br := br) (cu := cu)
  have hlp : ∃ N', ux_lp (fun s : Int32 × Int32 × Int32 × ux_N => fX12_layServes_22b s.1 s.2.1 s.2.2.1 s.2.2.2 L2) ux_fu (nI (trS ln lo hi me so pl br cu), (((1 : Int32) <<< ((N 1 0) &&& 31)) - (1 : Int32)), (0 : Int32), N) = some N' ∧ ((∀ a, a ≠ 17 → N' a = N a) ∧ ∀ l, l < 10 → N' 17 l = svS (rcS ln lo hi so pl br cu) me (trS ln lo hi me so pl br cu) l) := by
    generalize trS ln lo hi me so pl br cu = T at tl tm ⊢
    generalize hrc : rcS ln lo hi so pl br cu = rc at tm ⊢
    rw [hrc] at b2
    refine lp_inv (fun i x => x.1 = nI (rsT T i) ∧ x.2.1 = nI (leB rc me T i) ∧ x.2.2.1 = nI i ∧ (∀ a, a ≠ 17 → x.2.2.2 a = N a) ∧ ∀ l, l < i → x.2.2.2 17 l = svS rc me T l) _ 10 ?_ (by decide) ?_ ?_
    · refine ⟨by dsimp only; rw [rsT_0 tl], ?_, rfl, fun _ _ => rfl, fun l h => by omega⟩
      dsimp only
      rw [show N 1 0 = nI me from hs.1, pb_all (by omega), leB_0 me9]
    · intro i ⟨x1, x2, x3, N1⟩ hk ⟨e1, e2, e3, g1, g2⟩
      dsimp only at e1 e2 e3 g1 g2 ⊢
      subst e1; subst e2; subst e3
      have rl := rsT_lt T i
      have hh : fX12_has (nI (rsT T i)) (nI i) = some (if T.testBit i = true then 1 else 0) := by
        rw [pm_has (by omega) (by omega)]
        by_cases q : T.testBit i = true
        · rw [if_pos ((rsT_tb tl i i).mpr ⟨q, Nat.le_refl i⟩), if_pos q]
        · rw [if_neg (fun z => q ((rsT_tb tl i i).mp z).1), if_neg q]
      by_cases q : T.testBit i = true
      · have mt := lmS_mt tl me9 tm i
        obtain ⟨p1, p2, p3, p4, p5⟩ := pk_of (M := lmS rc me T i) tl (fun m hm => Nat.lt_of_lt_of_le (lmS_lt hm) me9) q mt
        have hle : leB rc me T i < 2 ^ me := leB_lt me9
        have fr : ∀ a, a ≠ 17 → ux_u N1 17 i (-1 : Int32) a = N a := fun a ha => (uu_ne N1 _ _ ha).trans (g1 a ha)
        have hp1 := plM_fr hp (N' := ux_u N1 17 i (-1 : Int32)) (fun a ha => fr a (by omega))
        have hs1 := stM_fr hs (N' := ux_u N1 17 i (-1 : Int32)) (fr 1 (by decide))
        have can : ∀ m, m < 9 → ∃ r, fX12_canDo (nI m) (nI i) (nI (leB rc me T i)) (nI (rsT T (i + 1))) (ux_u N1 17 i (-1 : Int32)) L2 = some r ∧ ((r = 1 ∧ (lmS rc me T i m ∧ (rc m).testBit i = true ∧ mq_MT rc (fun x => lmS rc me T i x ∧ x ≠ m) (rsT T (i + 1)))) ∨ (r = 0 ∧ ¬ (lmS rc me T i m ∧ (rc m).testBit i = true ∧ mq_MT rc (fun x => lmS rc me T i x ∧ x ≠ m) (rsT T (i + 1))))) := by
          intro m hm
          obtain ⟨r, c0, c⟩ := lm_canDo hp1 hb hs1 (by rw [hrc]; exact b2) (m := m) (l := i) (le := leB rc me T i) (re := rsT T (i + 1)) (by omega) (by omega) hle (rsT_lt _ _)
          rw [hrc] at c
          have cg : mq_MT rc (fun x => (leB rc me T i).testBit x = true ∧ x ≠ m) (rsT T (i + 1)) ↔ mq_MT rc (fun x => lmS rc me T i x ∧ x ≠ m) (rsT T (i + 1)) := mq_cg (fun x => and_congr (leB_tb me9 i x) Iff.rfl) (fun _ _ => rfl)
          rw [cg, leB_tb me9 i m] at c
          exact ⟨r, c0, c⟩
        have lp2 : ux_lp (fun s : Int32 => fX12_layServes_54b (nI (rsT T (i + 1))) (nI (leB rc me T i)) (nI i) s (ux_u N1 17 i (-1 : Int32)) L2) ux_fu (0 : Int32) = some (nI (pkS rc (lmS rc me T i) T i)) := by
          refine lp_at (fun m => nI m) (pkS rc (lmS rc me T i) T i) rfl (by omega) ?_ ?_
          · intro m hm
            obtain ⟨r, c0, c⟩ := can m (by omega)
            rcases c with ⟨_, c⟩ | ⟨rfl, _⟩
            · exact absurd c (p5 m hm)
            · unfold fX12_layServes_54b
              rw [c0, Option.bind_some, if_pos rfl, li_1, nI_add]
          · obtain ⟨r, c0, c⟩ := can _ p1
            rcases c with ⟨rfl, _⟩ | ⟨_, c⟩
            · unfold fX12_layServes_54b
              rw [c0, Option.bind_some, if_neg (by decide)]
            · exact absurd ⟨p2, p3, p4⟩ c
        refine Or.inl ⟨(nI (rsT T (i + 1)), nI (leB rc me T (i + 1)), nI (i + 1), ux_u (ux_u N1 17 i (-1 : Int32)) 17 i (nI (pkS rc (lmS rc me T i) T i))), ?_, rfl, rfl, rfl, fun a ha => (uu_ne _ _ _ ha).trans (fr a ha), fun l hl => ?_⟩
        · unfold fX12_layServes_22b
          rw [if_neg (fun z => by have := (nI_leI (a := 10) (by decide) (by omega)).mp z; omega), pb_in hk (by decide), if_pos rfl, hh, if_pos q, Option.bind_some, if_neg (by decide), pb_pow (by omega), rsT_s T i hk, nI_clamp (by omega), lp2, Option.bind_some, if_pos rfl, pb_pow (by omega), leB_s me9 q p1]
          unfold fX12_layServes_22b_89
          rw [li_1, nI_add]
        · dsimp only
          rw [uu_same]
          by_cases e : l = i
          · rw [if_pos e, e]; unfold svS; rw [if_pos q]
          · rw [if_neg e, uu_same, if_neg e]; exact g2 l (by omega)
      · refine Or.inl ⟨(nI (rsT T (i + 1)), nI (leB rc me T (i + 1)), nI (i + 1), ux_u N1 17 i (-1 : Int32)), ?_, rfl, rfl, rfl, fun a ha => (uu_ne N1 _ _ ha).trans (g1 a ha), fun l hl => ?_⟩
        · unfold fX12_layServes_22b
          rw [if_neg (fun z => by have := (nI_leI (a := 10) (by decide) (by omega)).mp z; omega), pb_in hk (by decide), if_pos rfl, hh, if_neg q, Option.bind_some, if_pos rfl, nI_clamp (by omega)]
          unfold fX12_layServes_22b_89
          rw [li_1, nI_add, rsT_n T i q, leB_n q]
        · dsimp only
          rw [uu_same]
          by_cases e : l = i
          · rw [if_pos e, e]; unfold svS; rw [if_neg q]
          · rw [if_neg e]; exact g2 l (by omega)
    · intro ⟨x1, x2, x3, N1⟩ ⟨e1, e2, e3, g1, g2⟩
      dsimp only at e1 e2 e3 g1 g2 ⊢
      subst e3
      refine ⟨N1, ?_, g1, g2⟩
      unfold fX12_layServes_22b
      rw [if_pos (by decide)]
  obtain ⟨N', q0, q1, q2⟩ := hlp
  refine ⟨N', L2, ?_, q1, fun a ha => (b1 a ha).trans (a1 a ha), q2⟩
  unfold fX12_layServes
  rw [a0, Option.bind_some]
  dsimp only
  rw [b0, Option.bind_some, q0]
  rfl
end SER
