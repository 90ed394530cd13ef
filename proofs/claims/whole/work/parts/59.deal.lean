/-! offers, and the cheapest set of them that makes the rank whole -/
def ofB (nd ln of : Nat) (os oa op : Nat → Nat) : Prop := of ≤ 6 ∧ ∀ o, o < of → os o < 5 ∧ oa o < (if os o < 2 then ln else nd) ∧ op o ≤ 9
def ofC (N : ux_N) (h of : Nat) (os oa op : Nat → Nat) : Prop := N h 3 = nI of ∧ ∀ o, o < of → N (h + 5) o = nI (os o) ∧ N (h + 6) o = nI (oa o) ∧ N (h + 7) o = nI (op o)
def ofM (N : ux_N) (of : Nat) (os oa op : Nat → Nat) : Prop := N 0 4 = nI of ∧ ∀ o, o < of → N 3 (3 * o) = nI (os o) ∧ N 3 (3 * o + 1) = nI (oa o) ∧ N 3 (3 * o + 2) = nI (op o)
def prS (of : Nat) (op : Nat → Nat) (t : Nat) : Nat := fb_sm (fun o => if t.testBit o = true then op o else 0) of
def dst (G : Nat → Prop) (c : Nat → Nat) (D : Prop → Bool) : Nat → Option Nat
  | 0 => none
  | n + 1 => if D (G n ∧ ∀ b, dst G c D n = some b → c n < c b) = true then some n else dst G c D n
theorem dst_t {G : Nat → Prop} {c : Nat → Nat} {n : Nat} (h : G n ∧ ∀ b, dst G c gq_dc n = some b → c n < c b) : dst G c gq_dc (n + 1) = some n := by
  show (if _ then _ else _) = _
  rw [if_pos (gq_dc_t.mpr h)]
theorem dst_f {G : Nat → Prop} {c : Nat → Nat} {n : Nat} (h : ¬ (G n ∧ ∀ b, dst G c gq_dc n = some b → c n < c b)) : dst G c gq_dc (n + 1) = dst G c gq_dc n := by
  show (if _ then _ else _) = _
  rw [if_neg (by rw [gq_dc_f.mpr h]; decide)]
theorem dst_le {G : Nat → Prop} {c : Nat → Nat} : ∀ {n b : Nat}, dst G c gq_dc n = some b → b < n
  | 0, b, h => by cases h
  | n + 1, b, h => by
    by_cases q : G n ∧ ∀ b, dst G c gq_dc n = some b → c n < c b
    · rw [dst_t q] at h
      cases h
      omega
    · rw [dst_f q] at h
      have := dst_le h
      omega
theorem mO_s {k t i : Nat} (h : t.testBit i = true) (m : Nat) : (m < k ∨ (k ≤ m ∧ m - k < i + 1 ∧ t.testBit (m - k) = true)) ↔ ((m < k ∨ (k ≤ m ∧ m - k < i ∧ t.testBit (m - k) = true)) ∨ m = k + i) := by
  constructor
  · intro z
    rcases z with z | ⟨z1, z2, z3⟩
    · exact Or.inl (Or.inl z)
    · by_cases e : m = k + i
      · exact Or.inr e
      · exact Or.inl (Or.inr ⟨z1, by omega, z3⟩)
  · intro z
    rcases z with (z | ⟨z1, z2, z3⟩) | z
    · exact Or.inl z
    · exact Or.inr ⟨z1, by omega, z3⟩
    · refine Or.inr ⟨by omega, by omega, ?_⟩
      rw [z, Nat.add_sub_cancel_left]; exact h
theorem mO_n {k t i : Nat} (h : ¬ t.testBit i = true) (m : Nat) : (m < k ∨ (k ≤ m ∧ m - k < i + 1 ∧ t.testBit (m - k) = true)) ↔ (m < k ∨ (k ≤ m ∧ m - k < i ∧ t.testBit (m - k) = true)) := by
  refine or_congr Iff.rfl (and_congr Iff.rfl ⟨fun ⟨a, b⟩ => ⟨?_, b⟩, fun ⟨a, b⟩ => ⟨by omega, b⟩⟩)
  by_cases e : m - k = i
  · rw [e] at b; exact absurd b h
  · omega
section DEA
variable {N : ux_N} {L : ux_L} {nd ln : Nat} {lo hi : Nat → Nat} {me : Nat} {so pl : Nat → Nat} {br cu : Nat} {of : Nat} {os oa op : Nat → Nat}
theorem prS_le (hb : ofB nd ln of os oa op) (t : Nat) : prS of op t ≤ 54 := by
  have : prS of op t ≤ of * 9 := fb_sm_bound (fun o ho => by
    have := (hb.2 o ho).2.2
    split <;> omega)
  have := hb.1
  omega
theorem prS_i (hb : ofB nd ln of os oa op) {t i : Nat} (hk : i ≤ of) : fb_sm (fun o => if t.testBit o = true then op o else 0) i ≤ 54 := by
  have : fb_sm (fun o => if t.testBit o = true then op o else 0) i ≤ i * 9 := fb_sm_bound (fun o ho => by
    have := (hb.2 o (by omega)).2.2
    split <;> omega)
  have := hb.1
  omega
theorem cc_price {h : Nat} (hb : ofB nd ln of os oa op) (ho : ofC N h of os oa op) {t : Nat} (ht : t < 2 ^ 31) : fX3_priceOf h (nI t) N = some (nI (prS of op t)) := by
  have h6 := hb.1
  have hlp : ux_lp (fun s : Int32 × Int32 => fX3_priceOf_4b h (nI t) s.1 s.2 N) ux_fu ((0 : Int32), (0 : Int32)) = some (nI (prS of op t)) := by
    refine lp_at (fun i => (nI (fb_sm (fun o => if t.testBit o = true then op o else 0) i), nI i)) of rfl (by omega) ?_ ?_
    · intro i hk
      obtain ⟨o1, o2, o3⟩ := ho.2 i hk
      simp (disch := omega) only [fX3_priceOf_4b, fX3_priceOf_4b_30, ho.1, o3, li_0, li_1, li_2, li_3, li_4, li_5, li_6, li_7, li_8, li_9, li_10, li_11, li_12, li_13, li_14, li_16, li_18, li_20, li_21, li_24, li_31, li_32, li_40, li_42, li_48, li_57, li_59, li_64, li_97, li_99, li_122, li_128, li_147, li_189, li_200, li_231, li_252, li_255, li_512, li_1023, li_1024, li_8192, li_8208, li_9999, li_50000, li_500000, nI_leI, nI_ltI, nI_eq, pb_in, nI_clamp, nI_add, pk_mul, pk_sub, qb_bit1, qb_bit0, qb_pow, qb_m1, qb_m1', qb_ofn, Option.bind_some, ↓reduceIte, eq_self, if_true, if_false, Sum.elim_inl, Sum.elim_inr]
      rw [if_neg (by omega), fb_sm_succ]
      by_cases q : t.testBit i = true
      · rw [if_pos q, if_pos q]
      · rw [if_neg q, if_neg q]; rfl
    · simp (disch := omega) only [fX3_priceOf_4b, ho.1, li_0, li_1, li_2, li_3, li_4, li_5, li_6, li_7, li_8, li_9, li_10, li_11, li_12, li_13, li_14, li_16, li_18, li_20, li_21, li_24, li_31, li_32, li_40, li_42, li_48, li_57, li_59, li_64, li_97, li_99, li_122, li_128, li_147, li_189, li_200, li_231, li_252, li_255, li_512, li_1023, li_1024, li_8192, li_8208, li_9999, li_50000, li_500000, nI_leI, nI_ltI, nI_eq, pb_in, nI_clamp, nI_add, pk_mul, pk_sub, qb_bit1, qb_bit0, qb_pow, qb_m1, qb_m1', qb_ofn, Option.bind_some, ↓reduceIte, eq_self, if_true, if_false, Sum.elim_inl, Sum.elim_inr]
      simp
      rfl
  unfold fX3_priceOf
  rw [hlp]; rfl
theorem lm_cost (hb : ofB nd ln of os oa op) (ho : ofM N of os oa op) {t : Nat} (ht : t < 2 ^ 31) : fX12_costOf (nI t) N = some (nI (prS of op t)) := by
  have h6 := hb.1
  have hlp : ux_lp (fun s : Int32 × Int32 => fX12_costOf_4b (nI t) s.1 s.2 N) ux_fu ((0 : Int32), (0 : Int32)) = some (nI (prS of op t)) := by
    refine lp_at (fun i => (nI (fb_sm (fun o => if t.testBit o = true then op o else 0) i), nI i)) of rfl (by omega) ?_ ?_
    · intro i hk
      obtain ⟨o1, o2, o3⟩ := ho.2 i hk
      simp (disch := omega) only [fX12_costOf_4b, fX12_costOf_4b_35, pm_has, ho.1, o3, li_0, li_1, li_2, li_3, li_4, li_5, li_6, li_7, li_8, li_9, li_10, li_11, li_12, li_13, li_14, li_16, li_18, li_20, li_21, li_24, li_31, li_32, li_40, li_42, li_48, li_57, li_59, li_64, li_97, li_99, li_122, li_128, li_147, li_189, li_200, li_231, li_252, li_255, li_512, li_1023, li_1024, li_8192, li_8208, li_9999, li_50000, li_500000, nI_leI, nI_ltI, nI_eq, pb_in, nI_clamp, nI_add, pk_mul, pk_sub, qb_bit1, qb_bit0, qb_pow, qb_m1, qb_m1', qb_ofn, Option.bind_some, ↓reduceIte, eq_self, if_true, if_false, Sum.elim_inl, Sum.elim_inr]
      rw [if_neg (by omega), fb_sm_succ]
      by_cases q : t.testBit i = true
      · rw [if_pos q, if_neg (by decide), if_pos q]
      · rw [if_neg q, if_pos (show nI 0 = nI 0 from rfl), if_neg q]
    · simp (disch := omega) only [fX12_costOf_4b, ho.1, li_0, li_1, li_2, li_3, li_4, li_5, li_6, li_7, li_8, li_9, li_10, li_11, li_12, li_13, li_14, li_16, li_18, li_20, li_21, li_24, li_31, li_32, li_40, li_42, li_48, li_57, li_59, li_64, li_97, li_99, li_122, li_128, li_147, li_189, li_200, li_231, li_252, li_255, li_512, li_1023, li_1024, li_8192, li_8208, li_9999, li_50000, li_500000, nI_leI, nI_ltI, nI_eq, pb_in, nI_clamp, nI_add, pk_mul, pk_sub, qb_bit1, qb_bit0, qb_pow, qb_m1, qb_m1', qb_ofn, Option.bind_some, ↓reduceIte, eq_self, if_true, if_false, Sum.elim_inl, Sum.elim_inr]
      simp
      rfl
  unfold fX12_costOf
  rw [hlp]; rfl
/-- what an offer would serve -/
def ofR (ln : Nat) (lo hi : Nat → Nat) (cu : Nat) (os oa : Nat → Nat) (o : Nat) : Nat := gp_ms ln lo hi cu.testBit (os o) (oa o)
noncomputable def rkO (ln : Nat) (lo hi : Nat → Nat) (me : Nat) (so pl : Nat → Nat) (br cu : Nat) (os oa : Nat → Nat) (t : Nat) : Nat := rk (qP ln lo hi (rcO me (rcS ln lo hi so pl br cu) (ofR ln lo hi cu os oa)) (mO me t))
theorem lm_copy64 (v1 v2 v3 : Int32) : ∃ L', ux_lp (fun s : Int32 × ux_L => fX12_isWhole_64b v1 v2 v3 s.1 N s.2) ux_fu ((0 : Int32), L) = some L' ∧ ((∀ a, a ≠ 15 → L' a = L a) ∧ (∀ k, k < 8192 → L' 15 k = L 15 k) ∧ ∀ k, k < 16 → L' 15 (8192 + k) = L 15 (8208 + k)) := lm_copy37 (N := N) (L := L) v1 v2
theorem lm_isWhole (hp : plM N nd ln lo hi) (hb : stB nd ln me so pl br cu) (hs : stM N 0 me so pl br cu) (hW : wiM L) (hF : foM L ln lo hi) (hob : ofB nd ln of os oa op) (ho : ofM N of os oa op) {t w : Nat} (ht : t < 2 ^ of) (hw : w < 2 ^ 31) : ∃ L', fX12_isWhole (nI t) (nI w) N L = some (if rkO ln lo hi me so pl br cu os oa t = w then 1 else 0, L') ∧ ∀ x, x ≠ 15 → L' x = L x := by
  have c1 := stB_c hp hb
  have hpb := hp.2.2.1
  have h6 := hob.1
  have p10 : 2 ^ ln ≤ 1024 := show 2 ^ ln ≤ 2 ^ 10 from Nat.pow_le_pow_right (by decide) hpb.2.2
  have p6 : 2 ^ of ≤ 64 := show 2 ^ of ≤ 2 ^ 6 from Nat.pow_le_pow_right (by decide) h6
  obtain ⟨L1, q0, q1, q2, q3⟩ := lm_rank hp hb hs hW hF
  have hlp : ∃ L', ux_lp (fun x : Int32 × ux_L => fX12_isWhole_7b (nI t) (nI w) x.1 N x.2) ux_fu ((0 : Int32), L1) = some L' ∧ ((∀ a, a ≠ 15 → L' a = L a) ∧ ∀ s, s < 1024 → (gS L' 8192 s = true ↔ mq_MT (rcO me (rcS ln lo hi so pl br cu) (ofR ln lo hi cu os oa)) (fun m => m < me ∨ (me ≤ m ∧ m - me < of ∧ t.testBit (m - me) = true)) s)) := by
    refine lp_inv (fun i x => x.1 = nI i ∧ (∀ a, a ≠ 15 → x.2 a = L a) ∧ ∀ s, s < 1024 → (gS x.2 8192 s = true ↔ mq_MT (rcO me (rcS ln lo hi so pl br cu) (ofR ln lo hi cu os oa)) (fun m => m < me ∨ (me ≤ m ∧ m - me < i ∧ t.testBit (m - me) = true)) s)) _ of ?_ (by omega) ?_ ?_
    · refine ⟨rfl, q1, fun s hs => ?_⟩
      dsimp only
      rw [q3 s hs]
      exact mq_cg (fun m => by omega) (fun m hm => by unfold rcO; rw [if_pos hm])
    · intro i ⟨x1, L2⟩ hk ⟨e, g1, g2⟩
      dsimp only at e g1 g2 ⊢
      subst e
      obtain ⟨o1, o2, o3⟩ := ho.2 i hk
      obtain ⟨k1, k2, k3⟩ := hob.2 i hk
      by_cases q : t.testBit i = true
      · have ms := pm_mayServe hp (cu := cu) (by omega) k1 k2
        have gl := gp_ms_lt (ln := ln) (lo := lo) (hi := hi) (os i) (oa i) cu.testBit
        have ev : rcO me (rcS ln lo hi so pl br cu) (ofR ln lo hi cu os oa) (me + i) = gp_ms ln lo hi cu.testBit (os i) (oa i) := by
          unfold rcO; rw [if_neg (by omega), Nat.add_sub_cancel_left]; rfl
        obtain ⟨L3, j0, j1, j2, j3⟩ := lm_more (L := L2) hp (wiM_fr hW (g1 16 (by decide))) (f := 8192) (t0 := 8208) (may := gp_ms ln lo hi cu.testBit (os i) (oa i)) (by decide) (by decide) (by decide) (by omega)
        obtain ⟨L4, r0, r1, r2, r3⟩ := lm_copy64 (N := N) (L := L3) (nI t) (nI w) (nI i)
        have st := lm_step (L := L2) (L' := L3) hpb.2.2 (rc := rcO me (rcS ln lo hi so pl br cu) (ofR ln lo hi cu os oa)) (m := me + i) (by omega) ev gl g2 j3
        refine Or.inl ⟨(nI (i + 1), L4), ?_, rfl, fun a ha => (r1 a ha).trans ((j1 a ha).trans (g1 a ha)), fun s hs => ?_⟩
        · rw [li_0] at r0
          simp (disch := omega) only [fX12_isWhole_7b, fX12_isWhole_7b_99, pm_has, ho.1, o1, o2, show N 1 2 = nI cu from hs.2.2.1, ms, j0, r0, li_0, li_1, li_2, li_3, li_4, li_5, li_6, li_7, li_8, li_9, li_10, li_11, li_12, li_13, li_14, li_16, li_18, li_20, li_21, li_24, li_31, li_32, li_40, li_42, li_48, li_57, li_59, li_64, li_97, li_99, li_122, li_128, li_147, li_189, li_200, li_231, li_252, li_255, li_512, li_1023, li_1024, li_8192, li_8208, li_9999, li_50000, li_500000, nI_leI, nI_ltI, nI_eq, pb_in, nI_clamp, nI_add, pk_mul, pk_sub, qb_bit1, qb_bit0, qb_pow, qb_m1, qb_m1', qb_ofn, Option.bind_some, ↓reduceIte, eq_self, if_true, if_false, Sum.elim_inl, Sum.elim_inr]
          rw [if_neg (by omega), if_pos q, if_neg (by decide)]
        · dsimp only
          rw [mq_cg (mO_s q) (fun _ _ => rfl), ← st s hs]
          unfold gS
          rw [r3 _ (by omega)]
      · refine Or.inl ⟨(nI (i + 1), L2), ?_, rfl, g1, fun s hs => ?_⟩
        · simp (disch := omega) only [fX12_isWhole_7b, fX12_isWhole_7b_99, pm_has, ho.1, li_0, li_1, li_2, li_3, li_4, li_5, li_6, li_7, li_8, li_9, li_10, li_11, li_12, li_13, li_14, li_16, li_18, li_20, li_21, li_24, li_31, li_32, li_40, li_42, li_48, li_57, li_59, li_64, li_97, li_99, li_122, li_128, li_147, li_189, li_200, li_231, li_252, li_255, li_512, li_1023, li_1024, li_8192, li_8208, li_9999, li_50000, li_500000, nI_leI, nI_ltI, nI_eq, pb_in, nI_clamp, nI_add, pk_mul, pk_sub, qb_bit1, qb_bit0, qb_pow, qb_m1, qb_m1', qb_ofn, Option.bind_some, ↓reduceIte, eq_self, if_true, if_false, Sum.elim_inl, Sum.elim_inr]
          rw [if_neg (by omega), if_neg q, if_pos (show nI 0 = nI 0 from rfl)]
        · dsimp only
          rw [g2 s hs]
          exact mq_cg (fun m => (mO_n q m).symm) (fun _ _ => rfl)
    · intro ⟨x1, L2⟩ ⟨e, g1, g2⟩
      dsimp only at e g1 g2 ⊢
      subst e
      refine ⟨L2, ?_, g1, g2⟩
      simp (disch := omega) only [fX12_isWhole_7b, ho.1, li_0, li_1, li_2, li_3, li_4, li_5, li_6, li_7, li_8, li_9, li_10, li_11, li_12, li_13, li_14, li_16, li_18, li_20, li_21, li_24, li_31, li_32, li_40, li_42, li_48, li_57, li_59, li_64, li_97, li_99, li_122, li_128, li_147, li_189, li_200, li_231, li_252, li_255, li_512, li_1023, li_1024, li_8192, li_8208, li_9999, li_50000, li_500000, nI_leI, nI_ltI, nI_eq, pb_in, nI_clamp, nI_add, pk_mul, pk_sub, qb_bit1, qb_bit0, qb_pow, qb_m1, qb_m1', qb_ofn, Option.bind_some, ↓reduceIte, eq_self, if_true, if_false, Sum.elim_inl, Sum.elim_inr]
      simp
  obtain ⟨L2, d0, d1, d2⟩ := hlp
  have rr := lm_rk hp (foM_fr hF (d1 13 (by decide))) (p := 8192) (by decide) d2
  have er : rk (qP ln lo hi (rcO me (rcS ln lo hi so pl br cu) (ofR ln lo hi cu os oa)) (fun m => m < me ∨ (me ≤ m ∧ m - me < of ∧ t.testBit (m - me) = true))) = rkO ln lo hi me so pl br cu os oa t := by
    refine rk_cg (fun s _ => ?_)
    unfold qP
    refine and_congr Iff.rfl (mq_cg (fun m => ?_) (fun _ _ => rfl))
    unfold mO
    refine or_congr Iff.rfl (and_congr Iff.rfl ⟨fun z => z.2, fun z => ⟨?_, z⟩⟩)
    exact Nat.lt_of_not_le (fun q => by rw [tb_ge ht q] at z; cases z)
  have bo : rkO ln lo hi me so pl br cu os oa t ≤ 10 := rk_le _
  refine ⟨L2, ?_, d1⟩
  unfold fX12_isWhole
  rw [q0, Option.bind_some]
  dsimp only
  rw [d0, Option.bind_some, li_8192, rr, Option.bind_some, er]
  by_cases q : rkO ln lo hi me so pl br cu os oa t = w
  · rw [if_pos ((nI_eq (by omega) hw).mpr q), if_pos q]; rfl
  · rw [if_neg (fun z => q ((nI_eq (by omega) hw).mp z)), if_neg q]; rfl
theorem lm_wholeRank (hp : plM N nd ln lo hi) (hb : stB nd ln me so pl br cu) (hs : stM N 0 me so pl br cu) : ∃ N', fX12_wholeRank N = some (nI (gq_mg lo hi (bsN (fun l => !cu.testBit l) ln) ln), N') ∧ ∀ a, a ≠ 14 → N' a = N a := by
  have hpb := hp.2.2.1
  have pl0 := Nat.two_pow_pos ln
  have op : (((1 : Int32) <<< (nI ln &&& 31)) - (1 : Int32)) &&& (nI cu ^^^ (-1 : Int32)) = nI (bsN (fun l => !cu.testBit l) ln) := by
    rw [pb_all (by omega), pb_andn (n := ln) (by omega) (by omega)]
    refine congrArg nI (bsN_cong ln (fun j hj => ?_))
    rw [Nat.testBit_two_pow_sub_one]
    simp [hj]
  obtain ⟨N1, q0, q1, q2⟩ := lm_layParts hp (s := bsN (fun l => !cu.testBit l) ln) (bsN_le30 (by omega))
  have mle := gq_mg_nd (lo := lo) (hi := hi) (s := bsN (fun l => !cu.testBit l) ln) (n := ln) (nd := nd) (fun k hk2 => by have := hp.2.2.2 k hk2; exact ⟨by omega, by omega⟩) (by omega)
  refine ⟨N1, ?_, q1⟩
  unfold fX12_wholeRank
  rw [show N 0 2 = nI ln from hp.2.1, show N 1 2 = nI cu from hs.2.2.1, op, q0, Option.bind_some]
  dsimp only
  rw [hp.1, pk_sub (by omega), Nat.sub_sub_self (by omega)]
def cst (of : Nat) (op : Nat → Nat) (t : Nat) : Nat := 10 * prS of op t + pcn t
noncomputable def dlS (ln : Nat) (lo hi : Nat → Nat) (me : Nat) (so pl : Nat → Nat) (br cu of : Nat) (os oa op : Nat → Nat) : Option Nat := dst (fun t => rkO ln lo hi me so pl br cu os oa t = gq_mg lo hi (bsN (fun l => !cu.testBit l) ln) ln) (cst of op) gq_dc (2 ^ of)
theorem mg_10 (hn : ln ≤ 10) (s : Nat) : gq_mg lo hi s ln ≤ 10 := Nat.le_trans (gq_mg_le _ _ _ _) (Nat.le_trans (fb_ct_le _ ln) hn)
def chI (of : Nat) (op : Nat → Nat) : Option Nat → Int32
  | none => 9999
  | some b => nI (cst of op b)
theorem cst_le (hb : ofB nd ln of os oa op) (t : Nat) : cst of op t ≤ 550 := by
  have := prS_le hb t
  have := pcn_le t
  unfold cst
  omega
theorem lm_dealL (hp : plM N nd ln lo hi) (hb : stB nd ln me so pl br cu) (hs : stM N 0 me so pl br cu) (hW : wiM L) (hF : foM L ln lo hi) (hob : ofB nd ln of os oa op) (ho : ofM N of os oa op) (v1 : Int32) : ∃ e, ux_lp (fun s : Int32 × Int32 × Int32 × ux_L => fX12_deal_28b v1 (nI (gq_mg lo hi (bsN (fun l => !cu.testBit l) ln) ln)) s.1 s.2.1 s.2.2.1 N s.2.2.2) ux_fu ((-1 : Int32), (9999 : Int32), (0 : Int32), L) = some e ∧ (e.1 = wkI (dlS ln lo hi me so pl br cu of os oa op) ∧ ∀ x, x ≠ 15 → e.2 x = L x) := by
  have h6 := hob.1
  have p6 : 2 ^ of ≤ 64 := show 2 ^ of ≤ 2 ^ 6 from Nat.pow_le_pow_right (by decide) h6
  have mgl := mg_10 (lo := lo) (hi := hi) hp.2.2.1.2.2 (bsN (fun l => !cu.testBit l) ln)
  unfold dlS
  generalize gq_mg lo hi (bsN (fun l => !cu.testBit l) ln) ln = w at mgl ⊢
  generalize hG : (fun t => rkO ln lo hi me so pl br cu os oa t = w) = G
  have hGe : ∀ t, G t ↔ rkO ln lo hi me so pl br cu os oa t = w := fun t => by rw [← hG]
  refine lp_inv (fun i x => x.1 = wkI (dst G (cst of op) gq_dc i) ∧ x.2.1 = chI of op (dst G (cst of op) gq_dc i) ∧ x.2.2.1 = nI i ∧ ∀ a, a ≠ 15 → x.2.2.2 a = L a) _ (2 ^ of) ?_ (by omega) ?_ ?_
  · exact ⟨rfl, rfl, rfl, fun _ _ => rfl⟩
  · intro i ⟨x1, x2, x3, L1⟩ hk ⟨e1, e2, e3, g⟩
    dsimp only at e1 e2 e3 g ⊢
    subst e1; subst e2; subst e3
    have pl10 := pcn_le i
    have pr := prS_le hob i
    have co := lm_cost hob ho (t := i) (by omega)
    have on := lm_ones (s := i) (by omega)
    have ec : (10 : Int32) * nI (prS of op i) + nI (pcn i) = nI (cst of op i) := by
      rw [li_10, pk_mul, nI_add]; rfl
    have cl := cst_le hob i
    have head : fX12_deal_28b v1 (nI w) (wkI (dst G (cst of op) gq_dc i)) (chI of op (dst G (cst of op) gq_dc i)) (nI i) N L1 = if chI of op (dst G (cst of op) gq_dc i) ≤ nI (cst of op i) then (fX12_deal_28b_80 v1 (nI w) (wkI (dst G (cst of op) gq_dc i)) (chI of op (dst G (cst of op) gq_dc i)) (nI i) N L1) else ((fX12_isWhole (nI i) (nI w) N L1).bind (fun o7 => if o7.1 = 0 then (fX12_deal_28b_80 v1 (nI w) (wkI (dst G (cst of op) gq_dc i)) (chI of op (dst G (cst of op) gq_dc i)) (nI i) N o7.2) else (fX12_deal_28b_80 v1 (nI w) (nI i) (nI (cst of op i)) (nI i) N o7.2))) := by
      unfold fX12_deal_28b
      rw [ho.1, pb_pow (by omega), if_neg (fun z => by have := (nI_leI (by omega) (by omega)).mp z; omega), co, Option.bind_some, on, Option.bind_some, ec]
    have lt : (chI of op (dst G (cst of op) gq_dc i) ≤ nI (cst of op i)) ↔ ¬ ∀ b, dst G (cst of op) gq_dc i = some b → cst of op i < cst of op b := by
      cases hd : dst G (cst of op) gq_dc i with
      | none =>
        refine ⟨fun z => ?_, fun z => absurd (fun b q => by cases q) z⟩
        have := (nI_leI (a := 9999) (by decide) (by omega)).mp z
        omega
      | some b =>
        have clb := cst_le hob b
        rw [show chI of op (some b) = nI (cst of op b) from rfl, nI_leI (by omega) (by omega)]
        constructor
        · intro z q; have := q b rfl; omega
        · intro z; exact Nat.le_of_not_lt (fun q => z (fun b' hb' => by cases hb'; exact q))
    by_cases q1 : ∀ b, dst G (cst of op) gq_dc i = some b → cst of op i < cst of op b
    · obtain ⟨L2, w0, w1⟩ := lm_isWhole hp hb hs (wiM_fr hW (g 16 (by decide))) (foM_fr hF (g 13 (by decide))) hob ho (t := i) (w := w) hk (by omega)
      by_cases q2 : rkO ln lo hi me so pl br cu os oa i = w
      · refine Or.inl ⟨(nI i, nI (cst of op i), nI (i + 1), L2), ?_, ?_, ?_, rfl, fun a ha => (w1 a ha).trans (g a ha)⟩
        · rw [head, if_neg (fun z => lt.mp z q1), w0, Option.bind_some, if_pos q2]
          dsimp only
          rw [if_neg (by decide)]
          unfold fX12_deal_28b_80
          rw [li_1, nI_add]
        · dsimp only; rw [dst_t ⟨(hGe i).mpr q2, q1⟩]; rfl
        · dsimp only; rw [dst_t ⟨(hGe i).mpr q2, q1⟩]; rfl
      · refine Or.inl ⟨(wkI (dst G (cst of op) gq_dc i), chI of op (dst G (cst of op) gq_dc i), nI (i + 1), L2), ?_, ?_, ?_, rfl, fun a ha => (w1 a ha).trans (g a ha)⟩
        · rw [head, if_neg (fun z => lt.mp z q1), w0, Option.bind_some, if_neg q2]
          dsimp only
          rw [if_pos rfl]
          unfold fX12_deal_28b_80
          rw [li_1, nI_add]
        · dsimp only; rw [dst_f (fun z => q2 ((hGe i).mp z.1))]
        · dsimp only; rw [dst_f (fun z => q2 ((hGe i).mp z.1))]
    · refine Or.inl ⟨(wkI (dst G (cst of op) gq_dc i), chI of op (dst G (cst of op) gq_dc i), nI (i + 1), L1), ?_, ?_, ?_, rfl, g⟩
      · rw [head, if_pos (lt.mpr q1)]
        unfold fX12_deal_28b_80
        rw [li_1, nI_add]
      · dsimp only; rw [dst_f (fun z => q1 z.2)]
      · dsimp only; rw [dst_f (fun z => q1 z.2)]
  · intro ⟨x1, x2, x3, L1⟩ ⟨e1, e2, e3, g⟩
    dsimp only at e1 e2 e3 g ⊢
    subst e3
    refine ⟨(x1, L1), ?_, e1, g⟩
    unfold fX12_deal_28b
    rw [ho.1, pb_pow (by omega), if_pos ((nI_leI (by omega) (by omega)).mpr (Nat.le_refl _))]
theorem ofC_fr {N' : ux_N} {h : Nat} (ho : ofC N h of os oa op) (e : ∀ a, h ≤ a → a < h + 8 → N' a = N a) : ofC N' h of os oa op := by
  obtain ⟨h0, h1⟩ := ho
  exact ⟨by rw [e h (by omega) (by omega)]; exact h0, fun o hk => by rw [e (h + 5) (by omega) (by omega), e (h + 6) (by omega) (by omega), e (h + 7) (by omega) (by omega)]; exact h1 o hk⟩
theorem pcn_of {t : Nat} (h : t < 64) : pcn t ≤ 6 := pcn_6 t h
theorem neg_lt {a b : Nat} (ha : a ≤ 54) (hb : b ≤ 54) : (nI a - nI b < 0 ↔ a < b) ∧ (nI a - nI b = 0 ↔ a = b) := by
  have key : ∀ a, a < 55 → ∀ b, b < 55 → (nI a - nI b < 0 ↔ a < b) ∧ (nI a - nI b = 0 ↔ a = b) := by decide +kernel
  exact key a (by omega) b (by omega)
theorem cc_better (hob : ofB nd ln of os oa op) (ho : ofC N 1 of os oa op) {t b : Nat} (ht : t < 64) (hb : b < 64) : fX6_isBetterDeal (nI t) (nI b) N = some (if cst of op t < cst of op b then 1 else 0) := by
  have p1 := prS_le hob t
  have p2 := prS_le hob b
  have c1 := pcn_of ht
  have c2 := pcn_of hb
  obtain ⟨n1, n2⟩ := neg_lt p1 p2
  unfold fX6_isBetterDeal
  rw [cc_price hob ho (by omega), Option.bind_some, cc_price hob ho (by omega), Option.bind_some]
  by_cases q1 : prS of op t < prS of op b
  · rw [if_pos (n1.mpr q1), if_pos (by unfold cst; omega)]; rfl
  · rw [if_neg (fun z => q1 (n1.mp z))]
    by_cases q2 : prS of op t = prS of op b
    · rw [if_pos (n2.mpr q2), pb_bitCount _ (by omega), Option.bind_some, pb_bitCount _ (by omega), Option.bind_some]
      by_cases q3 : pcn b ≤ pcn t
      · rw [if_pos ((nI_leI (by omega) (by omega)).mpr q3), if_neg (by unfold cst; omega)]; rfl
      · rw [if_neg (fun z => q3 ((nI_leI (by omega) (by omega)).mp z)), if_pos (by unfold cst; omega)]; rfl
    · rw [if_neg (fun z => q2 (n2.mp z)), if_neg (by unfold cst; omega)]; rfl
theorem cc_findDeal (hp : plC N 1 nd ln lo hi) (hb : stB nd ln me so pl br cu) (hs : stC N 19 me so pl br cu) (hF : foC L ln lo hi) (hi1 : siC N L ln lo hi me so pl br cu) (hob : ofB nd ln of os oa op) (ho : ofC N 1 of os oa op) : ∃ N' L', fX6_findDeal N L = some (wkI (dlS ln lo hi me so pl br cu of os oa op), N', L') ∧ (∀ a, a ≠ 45 → a ≠ 102 → N' a = N a) ∧ ∀ a, a < 48 ∨ 77 ≤ a → L' a = L a := by
  have h6 := hob.1
  have hpb := hp.2.2.1
  have p6 : 2 ^ of ≤ 64 := show 2 ^ of ≤ 2 ^ 6 from Nat.pow_le_pow_right (by decide) h6
  have p10 : 2 ^ ln ≤ 1024 := show 2 ^ ln ≤ 2 ^ 10 from Nat.pow_le_pow_right (by decide) hpb.2.2
  have mgl := mg_10 (lo := lo) (hi := hi) hpb.2.2 (bsN (fun l => !cu.testBit l) ln)
  have hlp0 : ∃ N', ux_lp (fun s : Int32 × ux_N => fX6_findDeal_2b s.1 s.2 L) ux_fu ((0 : Int32), N) = some N' ∧ ((∀ a, a ≠ 102 → N' a = N a) ∧ ∀ o, o < of → N' 102 o = nI (ofR ln lo hi cu os oa o)) := by
    refine lp_inv (fun i t => t.1 = nI i ∧ (∀ a, a ≠ 102 → t.2 a = N a) ∧ ∀ o, o < i → t.2 102 o = nI (ofR ln lo hi cu os oa o)) _ of ?_ (by omega) ?_ ?_
    · exact ⟨rfl, fun _ _ => rfl, fun m h => by omega⟩
    · intro i ⟨v, N1⟩ hk ⟨e, g1, g2⟩
      dsimp only at e g1 g2 ⊢
      subst e
      have hp1 := plC_fr hp (N' := N1) (fun a h1 h2 => g1 a (by omega))
      have hs1 := stC_fr hs (N' := N1) (fun a h1 h2 => g1 a (by omega))
      have ho1 := ofC_fr ho (N' := N1) (fun a h1 h2 => g1 a (by omega))
      obtain ⟨o1, o2, o3⟩ := ho1.2 i hk
      obtain ⟨k1, k2, k3⟩ := hob.2 i hk
      have k4 : oa i < 2 ^ 31 := Nat.lt_of_lt_of_le k2 (by split <;> omega)
      have lf := pc_linesFor (ct := cu.testBit) hp1 k1 k4
      rw [if_pos k2] at lf
      have op := cc_open hp1 hs1
      refine Or.inl ⟨(nI (i + 1), ux_u N1 102 i (nI (ofR ln lo hi cu os oa i))), ?_, rfl, fun a ha => (uu_ne N1 _ _ ha).trans (g1 a ha), fun k hk => ?_⟩
      · have n3 : N1 1 3 = nI of := ho1.1
        have n6 : N1 6 i = nI (os i) := o1
        have n7 : N1 7 i = nI (oa i) := o2
        simp (disch := omega) only [fX6_findDeal_2b, n3, n6, n7, op, lf, li_0, li_1, li_2, li_3, li_4, li_5, li_6, li_7, li_8, li_9, li_10, li_11, li_12, li_13, li_14, li_16, li_18, li_20, li_21, li_24, li_31, li_32, li_40, li_42, li_48, li_57, li_59, li_64, li_97, li_99, li_122, li_128, li_147, li_189, li_200, li_231, li_252, li_255, li_512, li_1023, li_1024, li_8192, li_8208, li_9999, li_50000, li_500000, nI_leI, nI_ltI, nI_eq, pb_in, nI_clamp, nI_add, pk_mul, pk_sub, qb_bit1, qb_bit0, qb_pow, qb_m1, qb_m1', qb_ofn, Option.bind_some, ↓reduceIte, eq_self, if_true, if_false, Sum.elim_inl, Sum.elim_inr]
        rw [if_neg (by omega)]
        rfl
      · dsimp only
        rw [uu_same]
        by_cases e : k = i
        · rw [if_pos e, e]
        · rw [if_neg e]; exact g2 k (by omega)
    · intro ⟨v, N1⟩ ⟨e, g1, g2⟩
      dsimp only at e g1 g2 ⊢
      subst e
      have ho1 := ofC_fr ho (N' := N1) (fun a h1 h2 => g1 a (by omega))
      have n3 : N1 1 3 = nI of := ho1.1
      refine ⟨N1, ?_, g1, g2⟩
      simp (disch := omega) only [fX6_findDeal_2b, n3, li_0, li_1, li_2, li_3, li_4, li_5, li_6, li_7, li_8, li_9, li_10, li_11, li_12, li_13, li_14, li_16, li_18, li_20, li_21, li_24, li_31, li_32, li_40, li_42, li_48, li_57, li_59, li_64, li_97, li_99, li_122, li_128, li_147, li_189, li_200, li_231, li_252, li_255, li_512, li_1023, li_1024, li_8192, li_8208, li_9999, li_50000, li_500000, nI_leI, nI_ltI, nI_eq, pb_in, nI_clamp, nI_add, pk_mul, pk_sub, qb_bit1, qb_bit0, qb_pow, qb_m1, qb_m1', qb_ofn, Option.bind_some, ↓reduceIte, eq_self, if_true, if_false, Sum.elim_inl, Sum.elim_inr]
      simp
  obtain ⟨N1, a0, a1, a2⟩ := hlp0
  have n3 : N1 1 3 = nI of := by rw [a1 1 (by decide)]; exact ho.1
  obtain ⟨N2, L2, t0, t1, t2, t3⟩ := cc_tryAll (N := N1) (L := L) (c1 := 38) (c2 := 102) (n2 := 6) (k := of) (off := me) (rc := rcS ln lo hi so pl br cu) (v := ofR ln lo hi cu os oa) (Or.inl rfl) (by omega) h6 (by decide) (by decide) hF hi1.2.2.2.2.2 (fun j hj => ⟨a2 j hj, Nat.lt_of_lt_of_le (gp_ms_lt _ _ _) p10⟩)
  have ho2 := ofC_fr ho (N' := N2) (fun a h1 h2 => (t1 a (by omega)).trans (a1 a (by omega)))
  have m33 : N2 33 1 = nI (gq_mg lo hi (bsN (fun l => !cu.testBit l) ln) ln) := by rw [t1 33 (by decide), a1 33 (by decide)]; exact hi1.2.1
  have n3' : N2 1 3 = nI of := ho2.1
  have hlp : ux_lp (fun s : Int32 × Int32 => fX6_findDeal_84b s.1 s.2 N2 L2) ux_fu ((-1 : Int32), (0 : Int32)) = some (wkI (dlS ln lo hi me so pl br cu of os oa op)) := by
    unfold dlS
    generalize gq_mg lo hi (bsN (fun l => !cu.testBit l) ln) ln = w at mgl m33 ⊢
    generalize hG : (fun t => rkO ln lo hi me so pl br cu os oa t = w) = G
    have hGe : ∀ t, G t ↔ rkO ln lo hi me so pl br cu os oa t = w := fun t => by rw [← hG]
    refine lp_at (fun i => (wkI (dst G (cst of op) gq_dc i), nI i)) (2 ^ of) rfl (by omega) ?_ ?_
    · intro i hk
      have r45 : N2 45 i = nI (rkO ln lo hi me so pl br cu os oa i) := t3 i hk
      have bo : rkO ln lo hi me so pl br cu os oa i ≤ 10 := rk_le _
      have yes : (G i ∧ ∀ b, dst G (cst of op) gq_dc i = some b → cst of op i < cst of op b) → fX6_findDeal_84b_127 (nI i) N2 L2 = some (.inl (wkI (dst G (cst of op) gq_dc (i + 1)), nI (i + 1))) := by
        intro z
        rw [dst_t z]
        unfold fX6_findDeal_84b_127 fX6_findDeal_84b_129
        rw [li_1, nI_add]; rfl
      have no : (¬ (G i ∧ ∀ b, dst G (cst of op) gq_dc i = some b → cst of op i < cst of op b)) → fX6_findDeal_84b_129 (wkI (dst G (cst of op) gq_dc i)) (nI i) N2 L2 = some (.inl (wkI (dst G (cst of op) gq_dc (i + 1)), nI (i + 1))) := by
        intro z
        rw [dst_f z]
        unfold fX6_findDeal_84b_129
        rw [li_1, nI_add]
      dsimp only
      unfold fX6_findDeal_84b
      rw [n3', pb_pow (by omega), if_neg (fun z => by have := (nI_leI (by omega) (by omega)).mp z; omega), pb_in (by omega) (by decide), if_pos rfl, nI_clamp (by omega), r45, m33]
      by_cases q1 : rkO ln lo hi me so pl br cu os oa i = w
      · rw [if_pos ((nI_eq (by omega) (by omega)).mpr q1)]
        cases hd : dst G (cst of op) gq_dc i with
        | none =>
          rw [show wkI none = (-1 : Int32) from rfl, if_pos rfl]
          exact yes ⟨(hGe i).mpr q1, fun b z => by rw [hd] at z; cases z⟩
        | some b =>
          have := dst_le hd
          rw [show wkI (some b) = nI b from rfl, if_neg (pb_m1 (by omega)), cc_better hob ho2 (by omega) (by omega), Option.bind_some]
          by_cases q2 : cst of op i < cst of op b
          · rw [if_pos q2, if_neg (by decide)]
            exact yes ⟨(hGe i).mpr q1, fun b' z => by rw [hd] at z; cases z; exact q2⟩
          · rw [if_neg q2, if_pos rfl]
            have := no (fun z => q2 (z.2 b hd))
            rw [hd] at this
            exact this
      · rw [if_neg (fun z => q1 ((nI_eq (by omega) (by omega)).mp z))]
        exact no (fun z => q1 ((hGe i).mp z.1))
    · dsimp only
      unfold fX6_findDeal_84b
      rw [n3', pb_pow (by omega), if_pos ((nI_leI (by omega) (by omega)).mpr (Nat.le_refl _))]
  refine ⟨N2, L2, ?_, fun a h1 h2 => (t1 a h1).trans (a1 a h2), t2⟩
  unfold fX6_findDeal
  rw [a0, Option.bind_some, n3, t0, Option.bind_some]
  dsimp only
  rw [hlp]
  rfl
end DEA
