/-! the class's check by Hall's rule -/
theorem low1_tb : ∀ s, s < 1024 → 0 < s → ∀ j, j < 10 → (s - 1).testBit j = (if j < lwb s then true else if j = lwb s then false else s.testBit j) := by decide +kernel
theorem lt_tb {x y : Nat} (i : Nat) (h1 : x.testBit i = false) (h2 : y.testBit i = true) (h : ∀ j, i < j → x.testBit j = y.testBit j) : x < y := by
  have e : x / 2 ^ (i + 1) = y / 2 ^ (i + 1) := Nat.eq_of_testBit_eq (fun j => by rw [Nat.testBit_div_two_pow, Nat.testBit_div_two_pow, h _ (by omega)])
  have a : x % 2 ^ (i + 1) < 2 ^ i := by
    refine Nat.lt_pow_two_of_testBit _ (fun j hj => ?_)
    rw [Nat.testBit_mod_two_pow]
    by_cases q : j = i
    · rw [q, h1, Bool.and_false]
    · rw [decide_eq_false (by omega)]; rfl
  have b : 2 ^ i ≤ y % 2 ^ (i + 1) := Nat.le_of_not_lt (fun q => by
    have z := tb_ge q (Nat.le_refl i)
    rw [Nat.testBit_mod_two_pow, h2, decide_eq_true (by omega)] at z
    cases z)
  have c := Nat.div_add_mod x (2 ^ (i + 1))
  have d := Nat.div_add_mod y (2 ^ (i + 1))
  rw [e] at c
  omega
theorem top_bit {a b : Nat} : ∀ n, (∀ j, n ≤ j → a.testBit j = b.testBit j) → a < b → ∃ k, k < n ∧ a.testBit k = false ∧ b.testBit k = true ∧ ∀ j, k < j → a.testBit j = b.testBit j
  | 0, h, hl => by
    have : a = b := Nat.eq_of_testBit_eq (fun j => h j (Nat.zero_le j))
    omega
  | n + 1, h, hl => by
    by_cases e : a.testBit n = b.testBit n
    · obtain ⟨k, k1, k2⟩ := top_bit n (fun j hj => by
        by_cases q : j = n
        · rw [q]; exact e
        · exact h j (by omega)) hl
      exact ⟨k, by omega, k2⟩
    · cases ha : a.testBit n with
      | false =>
        refine ⟨n, by omega, ha, ?_, fun j hj => h j (by omega)⟩
        rw [ha] at e
        cases hb : b.testBit n with
        | false => rw [hb] at e; exact absurd rfl e
        | true => rfl
      | true =>
        have hb : b.testBit n = false := by
          rw [ha] at e
          cases hb : b.testBit n with
          | false => rfl
          | true => rw [hb] at e; exact absurd rfl e
        have := lt_tb n hb ha (fun j hj => (h j (by omega)).symm)
        omega
/-- the next smaller set of some lines -/
theorem sub_next {t s ls : Nat} (hs : s < 1024) (h1 : ∀ j, t.testBit j = true → ls.testBit j = true) (h2 : ∀ j, s.testBit j = true → ls.testBit j = true) (h : t < s) : t ≤ (s - 1) &&& ls := by
  have s0 : 0 < s := by omega
  obtain ⟨a1, a2, a3⟩ := lwb_spec s hs s0
  have tbs := low1_tb s hs s0
  obtain ⟨k, k1, k2, k3, k4⟩ := top_bit 10 (fun j hj => by rw [tb_ge (n := 10) (by omega) hj, tb_ge (n := 10) (by omega) hj]) h
  have hk : lwb s ≤ k := Nat.le_of_not_lt (fun q => by rw [a3 k q] at k3; cases k3)
  have agree : ∀ j, k < j → t.testBit j = ((s - 1) &&& ls).testBit j := fun j hj => by
    rw [Nat.testBit_and]
    by_cases q : j < 10
    · rw [tbs j q, if_neg (by omega), if_neg (by omega), k4 j hj]
      by_cases z : s.testBit j = true
      · rw [z, h2 j z]; rfl
      · have z0 : s.testBit j = false := by simpa using z
        rw [z0]; rfl
    · rw [tb_ge (s := t) (n := 10) (by omega) (by omega), tb_ge (s := s - 1) (n := 10) (by omega) (by omega)]; rfl
  by_cases q : lwb s = k
  · refine sub_le (fun j hj => ?_)
    by_cases q1 : k < j
    · rw [← agree j q1]; exact hj
    · have q2 : j ≠ k := fun e => by rw [e, k2] at hj; cases hj
      rw [Nat.testBit_and, h1 j hj, tbs j (by omega), if_pos (by omega)]; rfl
  · refine Nat.le_of_lt (lt_tb k k2 ?_ agree)
    rw [Nat.testBit_and, tbs k k1, if_neg (by omega), if_neg (by omega), k3, h2 k k3]; rfl
/-- a match gives Hall's rule -/
theorem mq_hall_c {rc : Nat → Nat} {M T : Nat → Bool} {f : Nat → Nat} (hf : ∀ l, l < 10 → T l = true → f l < 9 ∧ M (f l) = true ∧ (rc (f l)).testBit l = true) (hi : ∀ l k, l < 10 → k < 10 → T l = true → T k = true → f l = f k → l = k) : fb_ct T 10 ≤ fb_ct (mq_nb rc M T) 9 := by
  have hk : ∀ k, k < fb_ct T 10 → ∃ i, i < 10 ∧ T i = true ∧ fb_ct T i = k := fun k hk => fb_ct_kth hk
  have hch : ∃ g : Nat → Nat, ∀ k, k < fb_ct T 10 → g k < 10 ∧ T (g k) = true ∧ fb_ct T (g k) = k := ⟨fun k => if h : k < fb_ct T 10 then Classical.choose (hk k h) else 0, fun k h => by
    dsimp only
    rw [dif_pos h]
    exact Classical.choose_spec (hk k h)⟩
  obtain ⟨g, hg⟩ := hch
  have nb : ∀ k, k < fb_ct T 10 → mq_nb rc M T (f (g k)) = true := fun k hk => by
    obtain ⟨a, b, c⟩ := hg k hk
    obtain ⟨d, e, e2⟩ := hf _ a b
    exact mq_nb_t.mpr ⟨e, g k, a, b, e2⟩
  refine fb_holes _ _ (fun k => fb_ct (mq_nb rc M T) (f (g k))) (fun k hk => ?_) (fun i j hij hj e => ?_)
  · obtain ⟨a, b, c⟩ := hg k hk
    have l9 := (hf _ a b).1
    have s1 := fb_ct_succ (mq_nb rc M T) (f (g k))
    rw [nb k hk, if_pos rfl] at s1
    have := fb_ct_mono (mq_nb rc M T) (show f (g k) + 1 ≤ 9 by omega)
    omega
  · have e2 := fb_ct_kth_one (nb i (by omega)) (nb j hj) e
    obtain ⟨a, b, c⟩ := hg i (by omega)
    obtain ⟨a', b', c'⟩ := hg j hj
    have := hi _ _ a a' b b' e2
    rw [this] at c
    omega
theorem mq_PM_MT {rc : Nat → Nat} {M : Nat → Bool} {s : Nat} (hs : s < 1024) (hM : ∀ m, M m = true → m < 9) : mq_PM rc M s.testBit ↔ mq_MT rc (fun m => M m = true) s := by
  have sm : ∀ l, s.testBit l = true → l < 10 := fun l hl => Nat.lt_of_not_le (fun q => by rw [tb_ge (n := 10) hs q] at hl; cases hl)
  constructor
  · intro ⟨f, f1, f2⟩
    exact ⟨f, fun l hl => ⟨(f1 l (sm l hl) hl).2.1, (f1 l (sm l hl) hl).2.2⟩, fun l k hl hk => f2 l k (sm l hl) (sm k hk) hl hk⟩
  · intro ⟨f, f1, f2⟩
    exact ⟨f, fun l _ hl => ⟨hM _ (f1 l hl).1, (f1 l hl).1, (f1 l hl).2⟩, fun l k _ _ hl hk => f2 l k hl hk⟩
/-- the class's check -/
theorem cc_canAll {N : ux_N} {rc : Nat → Nat} {ls ms : Nat} (hl : ls < 1024) (hm : ms < 512) (hA : ∀ t, t < 1024 → 0 < t → (∀ j, t.testBit j = true → ls.testBit j = true) → ∃ a, N 106 t = nI a ∧ a < 512 ∧ ∀ m, ms.testBit m = true → (a.testBit m = true ↔ ∃ l, l < 10 ∧ t.testBit l = true ∧ (rc m).testBit l = true)) : ∃ r, fX5_canAllHaveOne (nI ls) (nI ms) N = some r ∧ ((r = 1 ∧ mq_MT rc (fun m => ms.testBit m = true) ls) ∨ (r = 0 ∧ ¬ mq_MT rc (fun m => ms.testBit m = true) ls)) := by
  have hms : ∀ m, ms.testBit m = true → m < 9 := fun m h => Nat.lt_of_not_le (fun q => by rw [tb_ge (n := 9) hm q] at h; cases h)
  have cnt : ∀ t a, t < 1024 → a < 512 → (∀ m, ms.testBit m = true → (a.testBit m = true ↔ ∃ l, l < 10 ∧ t.testBit l = true ∧ (rc m).testBit l = true)) → pcn (a &&& ms) = fb_ct (mq_nb rc ms.testBit t.testBit) 9 := by
    intro t a ht ha h
    have : pcn (a &&& ms) = fb_ct (a &&& ms).testBit 9 := by
      rw [← pcn_ln (ln := 9) (by decide) (Nat.lt_of_le_of_lt Nat.and_le_right hm)]
    rw [this]
    refine fb_ct_cong (fun m _ => ?_)
    rw [Bool.eq_iff_iff, mq_nb_t, Nat.testBit_and, Bool.and_eq_true]
    constructor
    · intro ⟨q1, q2⟩; exact ⟨q2, (h m q2).mp q1⟩
    · intro ⟨q1, q2⟩; exact ⟨(h m q1).mpr q2, q1⟩
  have hlp : ∃ e, ux_lp (fun s : Int32 => fX5_canAllHaveOne_2b (nI ls) (nI ms) s N) ux_fu (nI ls) = some e ∧ ((e = .inl () ∧ ¬ mq_MT rc (fun m => ms.testBit m = true) ls) ∨ (e = .inr () ∧ mq_MT rc (fun m => ms.testBit m = true) ls)) := by
    refine lp_inv (fun i v => ∃ t, v = nI t ∧ t + i ≤ 1024 ∧ (t < 1024) ∧ (∀ j, t.testBit j = true → ls.testBit j = true) ∧ ∀ u, t < u → (∀ j, u.testBit j = true → ls.testBit j = true) → pcn u ≤ fb_ct (mq_nb rc ms.testBit u.testBit) 9) _ 1024 ?_ (by decide) ?_ ?_
    · exact ⟨ls, rfl, by omega, hl, fun _ h => h, fun u hu h => by have := sub_le h; omega⟩
    · intro i v hk ⟨t, e, t1, t2, t3, t4⟩
      subst e
      by_cases t0 : t = 0
      · subst t0
        refine Or.inr ⟨.inr (), ?_, Or.inr ⟨rfl, ?_⟩⟩
        · unfold fX5_canAllHaveOne_2b; rw [if_pos (by decide)]
        · refine (mq_PM_MT hl (fun m h => hms m h)).mp (mq_hall rc 10 ms.testBit ls.testBit (fb_ct_le _ 10) (fun T hT => ?_))
          have e : ∀ j, j < 10 → (bsN T 10).testBit j = T j := fun j hj => by rw [bsN_tb]; simp [hj]
          have e1 : fb_ct T 10 = pcn (bsN T 10) := fb_ct_cong (fun j hj => (e j hj).symm)
          have e2 : fb_ct (mq_nb rc ms.testBit T) 9 = fb_ct (mq_nb rc ms.testBit (bsN T 10).testBit) 9 := by
            refine fb_ct_cong (fun m _ => ?_)
            rw [Bool.eq_iff_iff, mq_nb_t, mq_nb_t]
            refine and_congr Iff.rfl ⟨fun ⟨l, a, b, c⟩ => ⟨l, a, by rw [e l a]; exact b, c⟩, fun ⟨l, a, b, c⟩ => ⟨l, a, by rw [← e l a]; exact b, c⟩⟩
          rw [e1, e2]
          by_cases z : bsN T 10 = 0
          · rw [z, pcn_0]; exact Nat.zero_le _
          · refine t4 _ (by omega) (fun j hj => ?_)
            rw [bsN_tb, Bool.and_eq_true, decide_eq_true_iff] at hj
            exact hT j hj.1 hj.2
      · obtain ⟨a, n1, n2, n3⟩ := hA t t2 (by omega) t3
        have ce := cnt t a t2 n2 n3
        have p1 := pcn_le (a &&& ms)
        have p2 := pcn_le t
        have al : a &&& ms < 1024 := Nat.lt_of_le_of_lt Nat.and_le_right (by omega)
        have body : fX5_canAllHaveOne_2b (nI ls) (nI ms) (nI t) N = if pcn t ≤ pcn (a &&& ms) then some (.inl (nI ((t - 1) &&& ls))) else some (.inr (.inl ())) := by
          unfold fX5_canAllHaveOne_2b
          rw [if_neg (fun z => t0 ((pb_le0 (by omega)).mp z)), pb_in t2 (by decide), if_pos rfl, nI_clamp (by omega), n1, fa_and, pb_bitCount _ al, Option.bind_some, pb_bitCount _ t2, Option.bind_some, li_1, pk_sub (by omega), fa_and]
          by_cases q : pcn t ≤ pcn (a &&& ms)
          · rw [if_pos ((nI_leI (by omega) (by omega)).mpr q), if_pos q]
          · rw [if_neg (fun z => q ((nI_leI (by omega) (by omega)).mp z)), if_neg q]
        by_cases q : pcn t ≤ pcn (a &&& ms)
        · refine Or.inl ⟨nI ((t - 1) &&& ls), by rw [body, if_pos q], (t - 1) &&& ls, rfl, ?_, ?_, fun j hj => ?_, fun u hu h => ?_⟩
          · have : (t - 1) &&& ls ≤ t - 1 := Nat.and_le_left
            omega
          · exact Nat.lt_of_le_of_lt Nat.and_le_right hl
          · rw [Nat.testBit_and, Bool.and_eq_true] at hj; exact hj.2
          · by_cases q1 : t < u
            · exact t4 u q1 h
            · by_cases q2 : u = t
              · subst q2; rw [← ce]; exact q
              · have := sub_next t2 h t3 (by omega)
                omega
        · refine Or.inr ⟨.inl (), by rw [body, if_neg q], Or.inl ⟨rfl, fun z => q ?_⟩⟩
          obtain ⟨f, f1, f2⟩ := (mq_PM_MT hl (fun m h => hms m h)).mpr z
          rw [ce]
          exact mq_hall_c (fun l a b => f1 l a (t3 l b)) (fun l k a b c d => f2 l k a b (t3 l c) (t3 k d))
    · intro v ⟨t, e, t1, t2, t3, t4⟩
      have t0 : t = 0 := by omega
      subst t0; subst e
      refine ⟨.inr (), ?_, Or.inr ⟨rfl, ?_⟩⟩
      · unfold fX5_canAllHaveOne_2b; rw [if_pos (by decide)]
      · refine (mq_PM_MT hl (fun m h => hms m h)).mp (mq_hall rc 10 ms.testBit ls.testBit (fb_ct_le _ 10) (fun T hT => ?_))
        have e : ∀ j, j < 10 → (bsN T 10).testBit j = T j := fun j hj => by rw [bsN_tb]; simp [hj]
        have e1 : fb_ct T 10 = pcn (bsN T 10) := fb_ct_cong (fun j hj => (e j hj).symm)
        have e2 : fb_ct (mq_nb rc ms.testBit T) 9 = fb_ct (mq_nb rc ms.testBit (bsN T 10).testBit) 9 := by
          refine fb_ct_cong (fun m _ => ?_)
          rw [Bool.eq_iff_iff, mq_nb_t, mq_nb_t]
          refine and_congr Iff.rfl ⟨fun ⟨l, a, b, c⟩ => ⟨l, a, by rw [e l a]; exact b, c⟩, fun ⟨l, a, b, c⟩ => ⟨l, a, by rw [← e l a]; exact b, c⟩⟩
        rw [e1, e2]
        by_cases z : bsN T 10 = 0
        · rw [z, pcn_0]; exact Nat.zero_le _
        · refine t4 _ (by omega) (fun j hj => ?_)
          rw [bsN_tb, Bool.and_eq_true, decide_eq_true_iff] at hj
          exact hT j hj.1 hj.2
  obtain ⟨e, q0, q⟩ := hlp
  rcases q with ⟨rfl, q⟩ | ⟨rfl, q⟩
  · exact ⟨0, by unfold fX5_canAllHaveOne; rw [q0]; rfl, Or.inr ⟨rfl, q⟩⟩
  · exact ⟨1, by unfold fX5_canAllHaveOne; rw [q0]; rfl, Or.inl ⟨rfl, q⟩⟩
