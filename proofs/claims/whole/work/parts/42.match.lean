/-! sets of lines that meters can serve: each line has a meter of its own, out of M -/
def mq_MT (rc : Nat → Nat) (M : Nat → Prop) (s : Nat) : Prop := ∃ f : Nat → Nat, (∀ l, s.testBit l = true → M (f l) ∧ (rc (f l)).testBit l = true) ∧ ∀ l k, s.testBit l = true → s.testBit k = true → f l = f k → l = k
theorem mq_0 (rc : Nat → Nat) (M : Nat → Prop) : mq_MT rc M 0 := ⟨fun _ => 0, fun l h => by simp at h, fun l k h => by simp at h⟩
theorem mq_none {rc : Nat → Nat} {M : Nat → Prop} (h : ∀ m, ¬ M m) {s : Nat} : mq_MT rc M s ↔ s = 0 := by
  constructor
  · intro ⟨f, h1, _⟩
    apply Nat.eq_of_testBit_eq
    intro j
    rw [Nat.zero_testBit]
    by_cases hj : s.testBit j = true
    · exact absurd (h1 j hj).1 (h _)
    · simpa using hj
  · intro h; rw [h]; exact mq_0 rc M
theorem mq_mo {rc : Nat → Nat} {M M' : Nat → Prop} (h : ∀ m, M m → M' m) {s : Nat} (k : mq_MT rc M s) : mq_MT rc M' s := by
  obtain ⟨f, h1, h2⟩ := k
  exact ⟨f, fun l hl => ⟨h _ (h1 l hl).1, (h1 l hl).2⟩, h2⟩
theorem mq_cg {rc rc' : Nat → Nat} {M M' : Nat → Prop} (h : ∀ m, M m ↔ M' m) (hr : ∀ m, M m → rc m = rc' m) {s : Nat} : mq_MT rc M s ↔ mq_MT rc' M' s := by
  constructor
  · intro ⟨f, h1, h2⟩
    exact ⟨f, fun l hl => ⟨(h _).mp (h1 l hl).1, by rw [← hr _ (h1 l hl).1]; exact (h1 l hl).2⟩, h2⟩
  · intro ⟨f, h1, h2⟩
    exact ⟨f, fun l hl => ⟨(h _).mpr (h1 l hl).1, by rw [hr _ ((h _).mpr (h1 l hl).1)]; exact (h1 l hl).2⟩, h2⟩
theorem mq_sub {rc : Nat → Nat} {M : Nat → Prop} {s t : Nat} (k : mq_MT rc M s) (h : ∀ l, t.testBit l = true → s.testBit l = true) : mq_MT rc M t := by
  obtain ⟨f, h1, h2⟩ := k
  exact ⟨f, fun l hl => h1 l (h l hl), fun l k hl hk => h2 l k (h l hl) (h k hk)⟩
theorem mq_rm (s l j : Nat) (h : s.testBit l = true) : (s ^^^ 2 ^ l).testBit j = (s.testBit j && !decide (j = l)) := by
  rw [fb_bit_flip]
  by_cases hj : j = l
  · subst hj; simp [h]
  · simp [hj]
theorem mq_add {rc : Nat → Nat} {M : Nat → Prop} {m s : Nat} (hm : ¬ M m) : mq_MT rc (fun i => M i ∨ i = m) s ↔ mq_MT rc M s ∨ ∃ l, s.testBit l = true ∧ (rc m).testBit l = true ∧ mq_MT rc M (s ^^^ 2 ^ l) := by
  constructor
  · intro ⟨f, h1, h2⟩
    by_cases h : ∃ l, s.testBit l = true ∧ f l = m
    · obtain ⟨l, hl, hf⟩ := h
      refine Or.inr ⟨l, hl, hf ▸ (h1 l hl).2, f, fun j hj => ?_, fun j k hj hk => ?_⟩
      · rw [mq_rm s l j hl] at hj
        simp only [Bool.and_eq_true, Bool.not_eq_true', decide_eq_false_iff_not] at hj
        rcases (h1 j hj.1).1 with q | q
        · exact ⟨q, (h1 j hj.1).2⟩
        · exact absurd (h2 j l hj.1 hl (q.trans hf.symm)) hj.2
      · rw [mq_rm s l j hl] at hj
        rw [mq_rm s l k hl] at hk
        simp only [Bool.and_eq_true] at hj hk
        exact h2 j k hj.1 hk.1
    · refine Or.inl ⟨f, fun l hl => ?_, h2⟩
      rcases (h1 l hl).1 with q | q
      · exact ⟨q, (h1 l hl).2⟩
      · exact absurd ⟨l, hl, q⟩ h
  · intro h
    rcases h with h | ⟨l, hl, hr, f, h1, h2⟩
    · exact mq_mo (fun _ => Or.inl) h
    · refine ⟨fun j => if j = l then m else f j, fun j hj => ?_, fun j k hj hk e => ?_⟩
      · dsimp only
        by_cases hjl : j = l
        · subst hjl; rw [if_pos rfl]; exact ⟨Or.inr rfl, hr⟩
        · rw [if_neg hjl]
          have := h1 j (by rw [mq_rm s l j hl, hj]; simp [hjl])
          exact ⟨Or.inl this.1, this.2⟩
      · have nm : ∀ j, s.testBit j = true → j ≠ l → f j ≠ m := fun j hj hjl q => hm (q ▸ (h1 j (by rw [mq_rm s l j hl, hj]; simp [hjl])).1)
        dsimp only at e
        by_cases hjl : j = l <;> by_cases hkl : k = l
        · rw [hjl, hkl]
        · rw [if_pos hjl, if_neg hkl] at e; exact absurd e.symm (nm k hk hkl)
        · rw [if_neg hjl, if_pos hkl] at e; exact absurd e (nm j hj hjl)
        · rw [if_neg hjl, if_neg hkl] at e
          exact h2 j k (by rw [mq_rm s l j hl, hj]; simp [hjl]) (by rw [mq_rm s l k hl, hk]; simp [hkl]) e
/-! Hall's rule -/
def mq_nb (rc : Nat → Nat) (M : Nat → Bool) (T : Nat → Bool) (m : Nat) : Bool := M m && (List.range 10).any (fun l => T l && (rc m).testBit l)
theorem mq_nb_t {rc : Nat → Nat} {M T : Nat → Bool} {m : Nat} : mq_nb rc M T m = true ↔ M m = true ∧ ∃ l, l < 10 ∧ T l = true ∧ (rc m).testBit l = true := by
  unfold mq_nb
  rw [Bool.and_eq_true, List.any_eq_true]
  constructor
  · intro ⟨h, l, h1, h2⟩
    rw [Bool.and_eq_true] at h2
    exact ⟨h, l, List.mem_range.mp h1, h2.1, h2.2⟩
  · intro ⟨h, l, h1, h2, h3⟩
    exact ⟨h, l, List.mem_range.mpr h1, by rw [Bool.and_eq_true]; exact ⟨h2, h3⟩⟩
/-- a match of the set A (a predicate over 0 .. 9) -/
def mq_PM (rc : Nat → Nat) (M A : Nat → Bool) : Prop := ∃ f : Nat → Nat, (∀ l, l < 10 → A l = true → f l < 9 ∧ M (f l) = true ∧ (rc (f l)).testBit l = true) ∧ ∀ l k, l < 10 → k < 10 → A l = true → A k = true → f l = f k → l = k
theorem mq_hall (rc : Nat → Nat) : ∀ (n : Nat) (M A : Nat → Bool), fb_ct A 10 ≤ n → (∀ T : Nat → Bool, (∀ l, l < 10 → T l = true → A l = true) → fb_ct T 10 ≤ fb_ct (mq_nb rc M T) 9) → mq_PM rc M A := by
  intro n
  induction n with
  | zero =>
    intro M A hA _
    have := fb_ct_zero.mp (Nat.le_zero.mp hA)
    exact ⟨fun _ => 0, (fun l hl h => by rw [this l hl] at h; cases h), (fun l k hl _ h => by rw [this l hl] at h; cases h)⟩
  | succ n ih =>
    intro M A hA hH
    by_cases hT : ∃ T : Nat → Bool, (∀ l, l < 10 → T l = true → A l = true) ∧ 0 < fb_ct T 10 ∧ fb_ct T 10 < fb_ct A 10 ∧ fb_ct (mq_nb rc M T) 9 ≤ fb_ct T 10
    · obtain ⟨T, t1, t2, t3, t4⟩ := hT
      obtain ⟨f, f1, f2⟩ := ih (mq_nb rc M T) T (by omega) (fun T' h' => by
        have e : fb_ct (mq_nb rc (mq_nb rc M T) T') 9 = fb_ct (mq_nb rc M T') 9 := by
          refine fb_ct_cong (fun m _ => ?_)
          rw [Bool.eq_iff_iff, mq_nb_t, mq_nb_t, mq_nb_t]
          constructor
          · intro ⟨⟨h1, _⟩, h2⟩; exact ⟨h1, h2⟩
          · intro ⟨h1, l, h2, h3, h4⟩; exact ⟨⟨h1, l, h2, h' l h2 h3, h4⟩, l, h2, h3, h4⟩
        rw [e]
        exact hH T' (fun l hl hq => t1 l hl (h' l hl hq)))
      have dsj : fb_ct (fun l => A l && !T l) 10 + fb_ct T 10 = fb_ct A 10 := by
        rw [← fb_ct_or (fun k _ h => by simp at h; simp [h.2] at h)]
        refine fb_ct_cong (fun l hl => ?_)
        cases ha : A l <;> cases ht : T l <;> simp
        exact absurd (t1 l hl ht) (by rw [ha]; decide)
      obtain ⟨g, g1, g2⟩ := ih (fun m => M m && !mq_nb rc M T m) (fun l => A l && !T l) (by omega) (fun T' h' => by
        have hd : ∀ k, k < 10 → ¬ (T k = true ∧ T' k = true) := fun k hk ⟨q1, q2⟩ => by
          have := h' k hk q2
          simp [q1] at this
        have h1 := hH (fun l => T l || T' l) (fun l hl q => by
          rw [Bool.or_eq_true] at q
          rcases q with q | q
          · exact t1 l hl q
          · have := h' l hl q; simp at this; exact this.1)
        rw [fb_ct_or hd] at h1
        have h2 : fb_ct (mq_nb rc M (fun l => T l || T' l)) 9 = fb_ct (fun m => mq_nb rc M T m || mq_nb rc (fun m => M m && !mq_nb rc M T m) T' m) 9 := by
          refine fb_ct_cong (fun m _ => ?_)
          rw [Bool.eq_iff_iff, Bool.or_eq_true, mq_nb_t, mq_nb_t]
          constructor
          · intro ⟨q1, l, q2, q3, q4⟩
            by_cases hz : mq_nb rc M T m = true
            · exact Or.inl (mq_nb_t.mp hz)
            · refine Or.inr (mq_nb_t.mpr ⟨by simp [q1]; simpa using hz, l, q2, ?_, q4⟩)
              rw [Bool.or_eq_true] at q3
              rcases q3 with q3 | q3
              · exact absurd (mq_nb_t.mpr ⟨q1, l, q2, q3, q4⟩) hz
              · exact q3
          · intro q
            rcases q with ⟨q1, l, q2, q3, q4⟩ | q
            · exact ⟨q1, l, q2, by simp [q3], q4⟩
            · obtain ⟨q1, l, q2, q3, q4⟩ := mq_nb_t.mp q
              simp only [Bool.and_eq_true] at q1
              exact ⟨q1.1, l, q2, by simp [q3], q4⟩
        rw [h2, fb_ct_or (fun m _ q => by
          obtain ⟨q1, q2⟩ := q
          have := (mq_nb_t.mp q2).1
          simp [q1] at this)] at h1
        omega)
      refine ⟨fun l => if T l = true then f l else g l, fun l hl ha => ?_, fun l k hl hk ha hk2 e => ?_⟩
      · dsimp only
        by_cases ht : T l = true
        · rw [if_pos ht]
          have := f1 l hl ht
          exact ⟨this.1, (mq_nb_t.mp this.2.1).1, this.2.2⟩
        · rw [if_neg ht]
          have := g1 l hl (by simp [ha]; simpa using ht)
          exact ⟨this.1, by have h9 := this.2.1; simp only [Bool.and_eq_true] at h9; exact h9.1, this.2.2⟩
      · have apart : ∀ l k, l < 10 → k < 10 → T l = true → A k = true → ¬ T k = true → f l ≠ g k := by
          intro l k hl hk q1 q2 q3 q
          have h1 := (f1 l hl q1).2.1
          have h2 := (g1 k hk (by simp [q2]; simpa using q3)).2.1
          rw [q] at h1
          simp [h1] at h2
        dsimp only at e
        by_cases h1 : T l = true <;> by_cases h2 : T k = true
        · rw [if_pos h1, if_pos h2] at e; exact f2 l k hl hk h1 h2 e
        · rw [if_pos h1, if_neg h2] at e; exact absurd e (apart l k hl hk h1 hk2 h2)
        · rw [if_neg h1, if_pos h2] at e; exact absurd e.symm (apart k l hk hl h2 ha h1)
        · rw [if_neg h1, if_neg h2] at e
          exact g2 l k hl hk (by simp [ha]; simpa using h1) (by simp [hk2]; simpa using h2) e
    · by_cases h0 : fb_ct A 10 = 0
      · have := fb_ct_zero.mp h0
        exact ⟨fun _ => 0, (fun l hl h => by rw [this l hl] at h; cases h), (fun l k hl _ h => by rw [this l hl] at h; cases h)⟩
      obtain ⟨a, ha1, ha2⟩ := fb_ct_pos.mp (by omega : 0 < fb_ct A 10)
      have one : fb_ct (fun l => decide (l = a)) 10 = 1 := by
        have := fb_ct_upd (fun _ => false) true (i := a) (n := 10) ha1
        have z : fb_ct (fun _ => false) 10 = 0 := rfl
        rw [z] at this
        have e : fb_ct (fun k => if k = a then true else false) 10 = fb_ct (fun l => decide (l = a)) 10 := fb_ct_cong (fun k _ => by by_cases h : k = a <;> simp [h])
        rw [e] at this
        simpa using this
      have h1 := hH (fun l => decide (l = a)) (fun l _ q => by rw [decide_eq_true_eq] at q; rw [q]; exact ha2)
      rw [one] at h1
      obtain ⟨m, hm1, hm2⟩ := fb_ct_pos.mp (by omega : 0 < fb_ct (mq_nb rc M (fun l => decide (l = a))) 9)
      obtain ⟨hm3, l, hl, hla, hrl⟩ := mq_nb_t.mp hm2
      rw [decide_eq_true_eq] at hla
      subst hla
      have less : fb_ct (fun k => if k = l then false else A k) 10 + 1 = fb_ct A 10 := by
        have := fb_ct_upd A false (i := l) (n := 10) hl
        rw [ha2] at this
        exact this
      obtain ⟨f, f1, f2⟩ := ih (fun i => if i = m then false else M i) (fun k => if k = l then false else A k) (by omega) (fun T h' => by
        have hTA : ∀ k, k < 10 → T k = true → A k = true ∧ k ≠ l := fun k hk q => by
          have := h' k hk q
          by_cases hkl : k = l
          · rw [if_pos hkl] at this; cases this
          · rw [if_neg hkl] at this; exact ⟨this, hkl⟩
        by_cases hz : fb_ct T 10 = 0
        · omega
        have lt : fb_ct T 10 < fb_ct A 10 := by
          have : fb_ct T 10 ≤ fb_ct (fun k => if k = l then false else A k) 10 := fb_ct_sub h'
          omega
        have big : fb_ct T 10 < fb_ct (mq_nb rc M T) 9 := by
          rcases Nat.lt_or_ge (fb_ct T 10) (fb_ct (mq_nb rc M T) 9) with q | q
          · exact q
          · exact absurd ⟨T, fun k hk q2 => (hTA k hk q2).1, by omega, lt, q⟩ hT
        have e : fb_ct (mq_nb rc (fun i => if i = m then false else M i) T) 9 = fb_ct (fun k => if k = m then false else mq_nb rc M T k) 9 := by
          refine fb_ct_cong (fun k _ => ?_)
          by_cases hk : k = m
          · rw [if_pos hk]
            unfold mq_nb
            dsimp only
            rw [if_pos hk, Bool.false_and]
          · rw [if_neg hk]
            unfold mq_nb
            dsimp only
            rw [if_neg hk]
        have u := fb_ct_upd (mq_nb rc M T) false (i := m) (n := 9) hm1
        rw [e]
        have u2 : fb_ct (fun k => if k = m then false else mq_nb rc M T k) 9 + (if mq_nb rc M T m then 1 else 0) = fb_ct (mq_nb rc M T) 9 + 0 := u
        split at u2 <;> omega)
      refine ⟨fun k => if k = l then m else f k, fun k hk hak => ?_, fun j k hj hk haj hak e => ?_⟩
      · dsimp only
        by_cases hkl : k = l
        · subst hkl; rw [if_pos rfl]; exact ⟨hm1, hm3, hrl⟩
        · rw [if_neg hkl]
          have := f1 k hk (by dsimp only; rw [if_neg hkl]; exact hak)
          refine ⟨this.1, ?_, this.2.2⟩
          have h9 := this.2.1
          dsimp only at h9
          by_cases hfm : f k = m
          · rw [if_pos hfm] at h9; cases h9
          · rw [if_neg hfm] at h9; exact h9
      · have nm : ∀ k, k < 10 → A k = true → k ≠ l → f k ≠ m := fun k hk hak hkl q => by
          have h9 := (f1 k hk (by dsimp only; rw [if_neg hkl]; exact hak)).2.1
          dsimp only at h9
          rw [if_pos q] at h9; cases h9
        dsimp only at e
        by_cases hjl : j = l <;> by_cases hkl : k = l
        · rw [hjl, hkl]
        · rw [if_pos hjl, if_neg hkl] at e; exact absurd e.symm (nm k hk hak hkl)
        · rw [if_neg hjl, if_pos hkl] at e; exact absurd e (nm j hj haj hjl)
        · rw [if_neg hjl, if_neg hkl] at e
          exact f2 j k hj hk (by dsimp only; rw [if_neg hjl]; exact haj) (by dsimp only; rw [if_neg hkl]; exact hak) e
