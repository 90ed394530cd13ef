/-! the least set of meters that the rank needs -/
noncomputable def bst (G : Nat → Prop) : Nat → Option Nat
  | 0 => none
  | n + 1 => if gq_dc (G (n + 1) ∧ ∀ b, bst G n = some b → pcn (n + 1) < pcn b) = true then some (n + 1) else bst G n
theorem bst_t {G : Nat → Prop} {n : Nat} (h : G (n + 1) ∧ ∀ b, bst G n = some b → pcn (n + 1) < pcn b) : bst G (n + 1) = some (n + 1) := by
  show (if _ then _ else _) = _
  rw [if_pos (gq_dc_t.mpr h)]
theorem bst_f {G : Nat → Prop} {n : Nat} (h : ¬ (G (n + 1) ∧ ∀ b, bst G n = some b → pcn (n + 1) < pcn b)) : bst G (n + 1) = bst G n := by
  show (if _ then _ else _) = _
  rw [if_neg (by rw [gq_dc_f.mpr h]; decide)]
theorem bst_le {G : Nat → Prop} : ∀ {n b : Nat}, bst G n = some b → (1 ≤ b ∧ b ≤ n) ∧ G b
  | 0, b, h => by cases h
  | n + 1, b, h => by
    by_cases q : G (n + 1) ∧ ∀ b, bst G n = some b → pcn (n + 1) < pcn b
    · rw [bst_t q] at h
      cases h
      exact ⟨⟨by omega, Nat.le_refl _⟩, q.1⟩
    · rw [bst_f q] at h
      obtain ⟨⟨a1, a2⟩, a3⟩ := bst_le h
      exact ⟨⟨a1, by omega⟩, a3⟩
theorem bst_no {G : Nat → Prop} {n : Nat} : ∀ {m : Nat}, n ≤ m → (∀ k, n < k → k ≤ m → ¬ G k) → bst G m = bst G n
  | 0, h, _ => by have : n = 0 := by omega
                  rw [this]
  | m + 1, h, hg => by
    by_cases e : n = m + 1
    · rw [e]
    · rw [bst_f (fun q => hg (m + 1) (by omega) (Nat.le_refl _) q.1), bst_no (by omega) (fun k h1 h2 => hg k h1 (by omega))]
def wkI : Option Nat → Int32
  | none => -1
  | some b => nI b
theorem mq_z {rc : Nat → Nat} {M M' : Nat → Prop} {s : Nat} (h : ∀ m, M m → rc m ≠ 0 → M' m) (k : mq_MT rc M s) : mq_MT rc M' s := by
  obtain ⟨f, f1, f2⟩ := k
  refine ⟨f, fun l hl => ?_, f2⟩
  obtain ⟨a, b⟩ := f1 l hl
  exact ⟨h _ a (fun e => by rw [e] at b; simp at b), b⟩
theorem pcn_sub {a b : Nat} (ha : a < 1024) (hb : b < 1024) (h : ∀ j, a.testBit j = true → b.testBit j = true) (hne : a ≠ b) : pcn a < pcn b := by
  refine Nat.lt_of_le_of_ne (fb_ct_sub (fun k _ q => h k q)) (fun e => hne ?_)
  refine tb_ext (n := 10) ha hb (fun j hj => ?_)
  by_cases q : b.testBit j = true
  · rw [q, ct_eq_all (p := a.testBit) (q := b.testBit) (fun k _ q => h k q) e j hj q]
  · have q0 : b.testBit j = false := by simpa using q
    rw [q0]
    by_cases q2 : a.testBit j = true
    · exact absurd (h j q2) q
    · simpa using q2
theorem sub_le {a b : Nat} (h : ∀ j, a.testBit j = true → b.testBit j = true) : a ≤ b := by
  have e : a &&& b = a := by
    refine Nat.eq_of_testBit_eq (fun j => ?_)
    rw [Nat.testBit_and]
    by_cases q : a.testBit j = true
    · rw [q, h j q]; rfl
    · have q0 : a.testBit j = false := by simpa using q
      rw [q0]; rfl
  rw [← e]; exact Nat.and_le_right
theorem and0 {a b : Nat} : (a &&& b = 0) ↔ ∀ j, a.testBit j = true → b.testBit j = false := by
  constructor
  · intro h j hj
    have : (a &&& b).testBit j = false := by rw [h]; simp
    rw [Nat.testBit_and, hj, Bool.true_and] at this
    exact this
  · intro h
    refine Nat.eq_of_testBit_eq (fun j => ?_)
    rw [Nat.testBit_and, Nat.zero_testBit]
    by_cases q : a.testBit j = true
    · rw [h j q, Bool.and_false]
    · have q0 : a.testBit j = false := by simpa using q
      rw [q0]; rfl
section WEA
variable {N : ux_N} {L : ux_L} {nd ln : Nat} {lo hi : Nat → Nat} {me : Nat} {so pl : Nat → Nat} {br cu : Nat}
/-- the rank without a set of meters -/
noncomputable def rkW (ln : Nat) (lo hi : Nat → Nat) (me : Nat) (so pl : Nat → Nat) (br cu t : Nat) : Nat := rk (qP ln lo hi (rcS ln lo hi so pl br cu) (fun m => m < me ∧ t.testBit m = false))
def wkG (ln : Nat) (lo hi : Nat → Nat) (me : Nat) (so pl : Nat → Nat) (br cu t : Nat) : Prop := t &&& br = 0 ∧ rkW ln lo hi me so pl br cu t < rkS ln lo hi me so pl br cu
noncomputable def wkS (ln : Nat) (lo hi : Nat → Nat) (me : Nat) (so pl : Nat → Nat) (br cu : Nat) : Option Nat := bst (wkG ln lo hi me so pl br cu) (2 ^ me - 1)
theorem lm_weakL (hp : plM N nd ln lo hi) (hb : stB nd ln me so pl br cu) (hs : stM N 0 me so pl br cu) (hW : wiM L) (hF : foM L ln lo hi) (v1 : Int32) : ∃ L', fX12_layAll N L = some L' ∧ (∀ x, x ≠ 15 → L' x = L x) ∧ fX12_rankAt ((16 : Int32) * (((1 : Int32) <<< ((N 1 0) &&& 31)) - (1 : Int32))) L' = some (nI (rkS ln lo hi me so pl br cu)) ∧ ux_lp (fun s : Int32 × Int32 => fX12_weak_43b v1 (((1 : Int32) <<< ((N 1 0) &&& 31)) - (1 : Int32)) (nI (rkS ln lo hi me so pl br cu)) s.1 s.2 N L') ux_fu ((-1 : Int32), (1 : Int32)) = some (wkI (wkS ln lo hi me so pl br cu)) := by
  have me9 : me ≤ 9 := hb.1.1
  have hbr := stB_b hb
  have pm : 2 ^ me ≤ 512 := show 2 ^ me ≤ 2 ^ 9 from Nat.pow_le_pow_right (by decide) me9
  have pm0 : 0 < 2 ^ me := Nat.two_pow_pos me
  obtain ⟨L1, a0, a1, a2⟩ := lm_all hp hb hs hW
  have hF1 := foM_fr hF (a1 13 (by decide))
  have e0 : ((1 : Int32) <<< ((N 1 0) &&& 31)) - (1 : Int32) = nI (2 ^ me - 1) := by rw [show N 1 0 = nI me from hs.1, pb_all (by omega)]
  have r2 := lm_rk hp hF1 (p := 16 * (2 ^ me - 1)) (by omega) (a2 _ (by omega))
  have g2 : rk (qP ln lo hi (rcS ln lo hi so pl br cu) (fun m => (2 ^ me - 1).testBit m = true)) = rkS ln lo hi me so pl br cu := by
    refine rk_cg (fun s _ => ?_)
    unfold qP
    rw [mq_cg (M' := fun m => m < me) (fun m => allBits m) (fun _ _ => rfl)]
  rw [g2] at r2
  have rw1 : ∀ n, n < 512 → fX12_rankAt ((16 : Int32) * (nI (2 ^ me - 1) &&& (nI n ^^^ (-1 : Int32)))) L1 = some (nI (rkW ln lo hi me so pl br cu n)) := by
    intro n hn
    have lt2 : bsN (fun j => (2 ^ me - 1).testBit j && !n.testBit j) me < 2 ^ me := bsN_lt _ _
    have r1 := lm_rk hp hF1 (p := 16 * bsN (fun j => (2 ^ me - 1).testBit j && !n.testBit j) me) (by omega) (a2 _ lt2)
    rw [pb_andn (n := me) (by omega) (by omega), li_16, pk_mul, r1]
    refine congrArg some (congrArg nI ?_)
    refine rk_cg (fun s _ => ?_)
    unfold qP
    rw [mq_cg (M' := fun m => m < me ∧ n.testBit m = false) (fun m => ?_) (fun _ _ => rfl)]
    rw [bsN_tb, Nat.testBit_two_pow_sub_one]
    simp only [Bool.and_eq_true, decide_eq_true_eq, Bool.not_eq_true']
    constructor
    · intro ⟨z1, z2, z3⟩; exact ⟨z1, z3⟩
    · intro ⟨z1, z2⟩; exact ⟨z1, z1, z2⟩
  have s1 : N 1 1 = nI br := by have := hs.2.1; rw [Nat.zero_add] at this; exact this
  refine ⟨L1, a0, a1, by rw [e0, li_16, pk_mul]; exact r2, ?_⟩
  rw [e0]
  have b2 : rkS ln lo hi me so pl br cu ≤ 10 := rk_le _
  have b3 : ∀ n, rkW ln lo hi me so pl br cu n ≤ 10 := fun n => rk_le _
  generalize hG : wkG ln lo hi me so pl br cu = G
  have hGe : ∀ n, G n ↔ (n &&& br = 0 ∧ rkW ln lo hi me so pl br cu n < rkS ln lo hi me so pl br cu) := fun n => by rw [← hG]; exact Iff.rfl
  have hwk : wkS ln lo hi me so pl br cu = bst G (2 ^ me - 1) := by unfold wkS; rw [hG]
  rw [hwk]
  refine lp_at (fun i => (wkI (bst G i), nI (i + 1))) (2 ^ me - 1) rfl (by omega) ?_ ?_
  · intro i hk
    have pl10 := pcn_le (i + 1)
    have lt9 : i + 1 &&& br < 2 ^ 31 := Nat.lt_of_le_of_lt Nat.and_le_right (by omega)
    have o1 : fX12_ones (nI (i + 1)) = some (nI (pcn (i + 1))) := lm_ones (by omega)
    have fin : ∀ x : Int32, ((x = wkI (bst G (i + 1))) → fX12_weak_43b_113 v1 (nI (2 ^ me - 1)) (nI (rkS ln lo hi me so pl br cu)) x (nI (i + 1)) N L1 = some (.inl (wkI (bst G (i + 1)), nI (i + 1 + 1)))) := by
      intro x hx
      unfold fX12_weak_43b_113
      rw [hx, li_1, nI_add]
    have yes : (∀ b, bst G i = some b → pcn (i + 1) < pcn b) → i + 1 &&& br = 0 → fX12_weak_43b_80 v1 (nI (2 ^ me - 1)) (nI (rkS ln lo hi me so pl br cu)) (wkI (bst G i)) (nI (i + 1)) N L1 = some (.inl (wkI (bst G (i + 1)), nI (i + 1 + 1))) := by
      intro h1 h2
      unfold fX12_weak_43b_80 fX12_weak_43b_85
      rw [if_neg (by decide), rw1 _ (by omega), Option.bind_some]
      have := b3 (i + 1)
      by_cases q : rkS ln lo hi me so pl br cu ≤ rkW ln lo hi me so pl br cu (i + 1)
      · rw [if_pos ((nI_leI (by omega) (by omega)).mpr q)]
        exact fin _ (by rw [bst_f (fun z => by have := ((hGe _).mp z.1).2; omega)])
      · rw [if_neg (fun z => q ((nI_leI (by omega) (by omega)).mp z))]
        exact fin _ (by rw [bst_t ⟨(hGe _).mpr ⟨h2, by omega⟩, h1⟩]; rfl)
    have no : (¬ ((i + 1 &&& br = 0) ∧ ∀ b, bst G i = some b → pcn (i + 1) < pcn b)) → fX12_weak_43b_84 v1 (nI (2 ^ me - 1)) (nI (rkS ln lo hi me so pl br cu)) (wkI (bst G i)) (nI (i + 1)) N L1 = some (.inl (wkI (bst G (i + 1)), nI (i + 1 + 1))) := by
      intro h1
      unfold fX12_weak_43b_84 fX12_weak_43b_85
      rw [if_pos (by decide)]
      exact fin _ (by rw [bst_f (fun z => h1 ⟨((hGe _).mp z.1).1, z.2⟩)])
    unfold fX12_weak_43b
    rw [if_neg (fun z => by have := (nI_ltI (by omega) (by omega)).mp z; omega), s1, fa_and]
    by_cases q1 : i + 1 &&& br = 0
    · rw [if_pos (by rw [q1]; rfl)]
      cases hbi : bst G i with
      | none =>
        rw [hbi] at yes
        rw [show wkI none = (-1 : Int32) from rfl, if_pos rfl]
        exact yes (fun b z => by cases z) q1
      | some b =>
        obtain ⟨⟨x1, x2⟩, x3⟩ := bst_le hbi
        have plb := pcn_le b
        have ob : fX12_ones (nI b) = some (nI (pcn b)) := lm_ones (by omega)
        rw [show wkI (some b) = nI b from rfl, if_neg (pb_m1 (by omega)), o1, Option.bind_some, ob, Option.bind_some]
        by_cases q2 : pcn b ≤ pcn (i + 1)
        · rw [if_pos ((nI_leI (by omega) (by omega)).mpr q2)]
          rw [hbi] at no
          exact no (fun z => by have := z.2 b rfl; omega)
        · rw [if_neg (fun z => q2 ((nI_leI (by omega) (by omega)).mp z))]
          rw [hbi] at yes
          exact yes (fun b' z => by cases z; omega) q1
    · rw [if_neg (fun z => q1 ((pb_eq0 lt9).mp z))]
      exact no (fun z => q1 z.1)
  · unfold fX12_weak_43b
    rw [if_pos ((nI_ltI (by omega) (by omega)).mpr (by omega))]
theorem rkW_0 {t : Nat} (h : ∀ m, m < me → t.testBit m = false → rcS ln lo hi so pl br cu m = 0) : rkW ln lo hi me so pl br cu t = 0 := by
  refine rk_of (Or.inl rfl) (fun s hs z => ?_)
  have : mq_MT (rcS ln lo hi so pl br cu) (fun _ => False) s := mq_z (fun m hm hn => hn (h m hm.1 hm.2)) z.2
  rw [mq_none (fun _ h => h)] at this
  rw [this, pcn_0]; exact Nat.le_refl 0
/-- the whole meters -/
def whB (me br : Nat) : Nat := bsN (fun j => (2 ^ me - 1).testBit j && !br.testBit j) me
theorem whB_tb (me br j : Nat) : ((whB me br).testBit j = true) ↔ (j < me ∧ br.testBit j = false) := by
  unfold whB
  rw [bsN_tb, Nat.testBit_two_pow_sub_one]
  simp only [Bool.and_eq_true, decide_eq_true_eq, Bool.not_eq_true']
  constructor
  · intro ⟨z1, z2, z3⟩; exact ⟨z1, z3⟩
  · intro ⟨z1, z2⟩; exact ⟨z1, z1, z2⟩
theorem cc_whole (hb : stB nd ln me so pl br cu) (hs : stC N 19 me so pl br cu) : fX8_wholeMeters 19 N = some (nI (whB me br)) := by
  have me9 : me ≤ 9 := hb.1.1
  have pm0 : 0 < 2 ^ me := Nat.two_pow_pos me
  unfold fX8_wholeMeters
  rw [hs.1, hs.2.1, pb_all (by omega), pb_andn (n := me) (by omega) (by omega)]
  rfl
theorem whB_sub (hb : stB nd ln me so pl br cu) {n : Nat} (hn : n < 2 ^ me) : (n &&& br = 0) ↔ ∀ j, n.testBit j = true → (whB me br).testBit j = true := by
  rw [and0]
  constructor
  · intro h j hj
    exact (whB_tb me br j).mpr ⟨Nat.lt_of_not_le (fun q => by rw [tb_ge hn q] at hj; cases hj), h j hj⟩
  · intro h j hj
    exact ((whB_tb me br j).mp (h j hj)).2
/-- the class's way to it is the reference's -/
theorem wk_end (hb : stB nd ln me so pl br cu) (h0 : 0 < rkS ln lo hi me so pl br cu) : 0 < whB me br ∧ wkI (wkS ln lo hi me so pl br cu) = (match bst (wkG ln lo hi me so pl br cu) (whB me br - 1) with | none => nI (whB me br) | some b => nI b) := by
  have me9 : me ≤ 9 := hb.1.1
  have pm : 2 ^ me ≤ 512 := show 2 ^ me ≤ 2 ^ 9 from Nat.pow_le_pow_right (by decide) me9
  have pm0 : 0 < 2 ^ me := Nat.two_pow_pos me
  have wlt : whB me br < 2 ^ me := bsN_lt _ _
  have w0 : 0 < whB me br := by
    refine Nat.pos_of_ne_zero (fun e => ?_)
    have : rkW ln lo hi me so pl br cu 0 = 0 := rkW_0 (fun m hm _ => by
      unfold rcS
      rw [if_pos]
      by_cases q : br.testBit m = true
      · exact q
      · have := (whB_tb me br m).mpr ⟨hm, by simpa using q⟩
        rw [e] at this; simp at this)
    have e2 : rkW ln lo hi me so pl br cu 0 = rkS ln lo hi me so pl br cu := by
      refine rk_cg (fun s _ => ?_)
      unfold qP
      rw [mq_cg (M' := fun m => m < me) (fun m => by simp) (fun _ _ => rfl)]
    omega
  refine ⟨w0, ?_⟩
  have hGW : wkG ln lo hi me so pl br cu (whB me br) := by
    refine ⟨and0.mpr (fun j hj => ((whB_tb me br j).mp hj).2), ?_⟩
    rw [rkW_0 (fun m hm h => ?_)]
    · exact h0
    · unfold rcS
      rw [if_pos]
      by_cases q : br.testBit m = true
      · exact q
      · have := (whB_tb me br m).mpr ⟨hm, by simpa using q⟩
        rw [h] at this; cases this
  have top : bst (wkG ln lo hi me so pl br cu) (2 ^ me - 1) = bst (wkG ln lo hi me so pl br cu) (whB me br) := by
    refine bst_no (by omega) (fun k h1 h2 z => ?_)
    have := sub_le ((whB_sub hb (by omega)).mp z.1)
    omega
  unfold wkS
  rw [top]
  obtain ⟨w, hw⟩ : ∃ w, whB me br = w + 1 := ⟨whB me br - 1, by omega⟩
  rw [hw] at hGW ⊢
  rw [Nat.add_sub_cancel]
  cases hbi : bst (wkG ln lo hi me so pl br cu) w with
  | none => rw [bst_t ⟨hGW, fun b z => by rw [hbi] at z; cases z⟩]; rfl
  | some b =>
    obtain ⟨⟨x1, x2⟩, x3⟩ := bst_le hbi
    rw [bst_f (fun z => ?_), hbi]
    · rfl
    · have l1 := z.2 b hbi
      have l2 := pcn_sub (a := b) (b := w + 1) (by omega) (by omega) (by rw [← hw]; exact (whB_sub hb (by omega)).mp x3.1) (by omega)
      omega
theorem cc_findWeak (hp : plC N 1 nd ln lo hi) (hb : stB nd ln me so pl br cu) (hs : stC N 19 me so pl br cu) (hF : foC L ln lo hi) (hi1 : siC N L ln lo hi me so pl br cu) : ∃ N' L', fX6_findWeak N L = some (wkI (wkS ln lo hi me so pl br cu), N', L') ∧ (∀ a, a ≠ 45 → N' a = N a) ∧ ∀ a, a ≠ 42 → a < 48 ∨ 77 ≤ a → L' a = L a := by
  have me9 : me ≤ 9 := hb.1.1
  have hpb := hp.2.2.1
  have pm : 2 ^ me ≤ 512 := show 2 ^ me ≤ 2 ^ 9 from Nat.pow_le_pow_right (by decide) me9
  have pm0 : 0 < 2 ^ me := Nat.two_pow_pos me
  have p10 : 2 ^ ln ≤ 1024 := show 2 ^ ln ≤ 2 ^ 10 from Nat.pow_le_pow_right (by decide) hpb.2.2
  have b2 : rkS ln lo hi me so pl br cu ≤ 10 := rk_le _
  by_cases h0 : rkS ln lo hi me so pl br cu = 0
  · refine ⟨N, L, ?_, fun _ _ => rfl, fun _ _ _ => rfl⟩
    unfold fX6_findWeak
    rw [hi1.1, h0, if_pos (show nI 0 = 0 from rfl)]
    have : wkS ln lo hi me so pl br cu = none := by
      unfold wkS
      rw [bst_no (Nat.zero_le _) (fun k _ _ z => by have := z.2; omega)]
      rfl
    rw [this]; rfl
  · obtain ⟨w0, we⟩ := wk_end hb (by omega : 0 < rkS ln lo hi me so pl br cu)
    have wlt : whB me br < 2 ^ me := bsN_lt _ _
    obtain ⟨L1, c0, c1, c2⟩ := fc_start L 41
    obtain ⟨N2, L2, t0, t1, t2, t3⟩ := cc_tryAll (N := N) (L := L1) (c1 := 41) (c2 := 34) (n2 := 9) (k := me) (off := 0) (rc := rcS ln lo hi so pl br cu) (v := rcS ln lo hi so pl br cu) (Or.inr rfl) me9 me9 (by decide) (by decide) (foC_fr hF (c1 36 (by decide))) (faC_none (fun m h => by omega) c2) (fun j hj => ⟨hi1.2.2.2.1 j hj, Nat.lt_of_lt_of_le (rcS_lt ln lo hi so pl br cu j) p10⟩)
    have hs2 := stC_fr hs (N' := N2) (fun a h1 h2 => t1 a (by omega))
    have rkE : ∀ n, n < whB me br → (∀ j, n.testBit j = true → (whB me br).testBit j = true) → N2 45 (bsN (fun j => (whB me br).testBit j && !n.testBit j) me) = nI (rkW ln lo hi me so pl br cu n) := by
      intro n hn hsub
      rw [t3 _ (bsN_lt _ _)]
      refine congrArg nI (rk_cg (fun s _ => ?_))
      unfold qP
      refine and_congr Iff.rfl ?_
      rw [mq_cg (rc' := rcS ln lo hi so pl br cu) (M' := fun m => m < me ∧ (whB me br).testBit m = true ∧ n.testBit m = false) (fun m => ?_) (fun m _ => ?_)]
      · constructor
        · exact mq_z (fun m hm _ => ⟨hm.1, hm.2.2⟩)
        · refine mq_z (fun m hm hr => ⟨hm.1, (whB_tb me br m).mpr ⟨hm.1, ?_⟩, hm.2⟩)
          by_cases q : br.testBit m = true
          · exact absurd (by unfold rcS; rw [if_pos q]) hr
          · simpa using q
      · unfold mO
        rw [Nat.sub_zero, bsN_tb]
        simp
      · unfold rcO; rw [if_neg (by omega)]; rfl
    have hlp : ux_lp (fun s : Int32 × Int32 => fX6_findWeak_54b (nI (whB me br)) s.1 s.2 N2 L2) ux_fu (nI (whB me br), (1 : Int32)) = some (wkI (wkS ln lo hi me so pl br cu)) := by
      rw [we]
      refine lp_at (fun i => ((match bst (wkG ln lo hi me so pl br cu) i with | none => nI (whB me br) | some b => nI b), nI (i + 1))) (whB me br - 1) rfl (by omega) ?_ ?_
      · intro i hk
        have r33 : N2 33 0 = nI (rkS ln lo hi me so pl br cu) := by rw [t1 33 (by decide)]; exact hi1.1
        have b3 : rkW ln lo hi me so pl br cu (i + 1) ≤ 10 := rk_le _
        have sb := whB_sub hb (n := i + 1) (by omega)
        have fin : ∀ x : Int32, x = (match bst (wkG ln lo hi me so pl br cu) (i + 1) with | none => nI (whB me br) | some b => nI b) → fX6_findWeak_54b_100 (nI (whB me br)) x (nI (i + 1)) N2 L2 = some (.inl ((match bst (wkG ln lo hi me so pl br cu) (i + 1) with | none => nI (whB me br) | some b => nI b), nI (i + 1 + 1))) := by
          intro x hx
          unfold fX6_findWeak_54b_100
          rw [hx, li_1, nI_add]
        dsimp only
        unfold fX6_findWeak_54b
        rw [if_neg (fun z => by have := (nI_leI (by omega) (by omega)).mp z; omega), pb_andn (a := i + 1) (b := whB me br) (n := me) (by omega) (by omega)]
        have sub0 : (nI (bsN (fun j => (i + 1).testBit j && !(whB me br).testBit j) me) = 0) ↔ (i + 1 &&& br = 0) := by
          have lt : bsN (fun j => (i + 1).testBit j && !(whB me br).testBit j) me < 2 ^ me := bsN_lt _ _
          rw [pb_eq0 (by omega), sb]
          constructor
          · intro z j hj
            have e1 : (bsN (fun j => (i + 1).testBit j && !(whB me br).testBit j) me).testBit j = false := by rw [z]; simp
            have jm : j < me := Nat.lt_of_not_le (fun q => by rw [tb_ge (n := me) (by omega) q] at hj; cases hj)
            rw [bsN_tb, hj] at e1
            simpa [jm] using e1
          · intro z
            refine Nat.eq_of_testBit_eq (fun j => ?_)
            rw [bsN_tb, Nat.zero_testBit]
            by_cases q : (i + 1).testBit j = true
            · rw [z j q]; simp
            · simp [q]
        by_cases q1 : i + 1 &&& br = 0
        · have hsub := sb.mp q1
          rw [if_pos (sub0.mpr q1), pb_andn (a := whB me br) (b := i + 1) (n := me) (by omega) (by omega)]
          have lt : bsN (fun j => (whB me br).testBit j && !(i + 1).testBit j) me < 2 ^ me := bsN_lt _ _
          rw [pb_in (by omega) (by decide), if_pos rfl, nI_clamp (by omega), rkE _ (by omega) hsub, r33]
          by_cases q2 : rkS ln lo hi me so pl br cu ≤ rkW ln lo hi me so pl br cu (i + 1)
          · rw [if_pos ((nI_leI (by omega) (by omega)).mpr q2)]
            exact fin _ (by rw [bst_f (fun z => by have := z.1.2; omega)])
          · rw [if_neg (fun z => q2 ((nI_leI (by omega) (by omega)).mp z)), pb_bitCount _ (by omega), Option.bind_some]
            have pl10 := pcn_le (i + 1)
            have plw := pcn_le (whB me br)
            have psub := pcn_sub (a := i + 1) (b := whB me br) (by omega) (by omega) hsub (by omega)
            cases hbi : bst (wkG ln lo hi me so pl br cu) i with
            | none =>
              dsimp only
              rw [pb_bitCount _ (by omega), Option.bind_some, if_neg (fun z => by have := (nI_leI (by omega) (by omega)).mp z; omega)]
              exact fin _ (by rw [bst_t ⟨⟨q1, by omega⟩, fun b z => by rw [hbi] at z; cases z⟩])
            | some b =>
              obtain ⟨⟨x1, x2⟩, x3⟩ := bst_le hbi
              have plb := pcn_le b
              dsimp only
              rw [pb_bitCount _ (by omega), Option.bind_some]
              by_cases q3 : pcn b ≤ pcn (i + 1)
              · rw [if_pos ((nI_leI (by omega) (by omega)).mpr q3)]
                exact fin _ (by rw [bst_f (fun z => by have := z.2 b hbi; omega), hbi])
              · rw [if_neg (fun z => q3 ((nI_leI (by omega) (by omega)).mp z))]
                exact fin _ (by rw [bst_t ⟨⟨q1, by omega⟩, fun b' z => by rw [hbi] at z; cases z; omega⟩])
        · rw [if_neg (fun z => q1 (sub0.mp z))]
          exact fin _ (by rw [bst_f (fun z => q1 z.1.1)])
      · dsimp only
        unfold fX6_findWeak_54b
        rw [if_pos ((nI_leI (by omega) (by omega)).mpr (by omega))]
    refine ⟨N2, L2, ?_, t1, fun a h1 h2 => (t2 a h2).trans (c1 a h1)⟩
    unfold fX6_findWeak
    rw [hi1.1, if_neg (fun z => h0 ((pb_eq0 (by omega)).mp z)), c0, Option.bind_some, hs.1, t0, Option.bind_some]
    dsimp only
    rw [cc_whole hb hs2, Option.bind_some, hlp]
    rfl
end WEA
