/-! the tables' words that a method may take with it -/
def lw_gt : List Cond := lw_tbl.filter goodWord
theorem gt_of {w : Cond} (i : Nat) (h : lw_tbl[i]? = some w) (hg : goodWord w = true) : w ∈ lw_gt := List.mem_filter.mpr ⟨List.mem_of_getElem? h, hg⟩
theorem gt_good {y : MethodName} {cc : ByteArray} {n : Nat} {r : Option FieldType} (h : Cond.code y cc n r ∈ lw_gt) : GoodIn lw_gt (Cond.code y cc n r :: lw_gt) := by
  intro w hw
  rcases List.mem_cons.mp hw with rfl | hw
  · exact ⟨h, good_of_word (List.mem_filter.mp h).2⟩
  · exact ⟨hw, good_of_word (List.mem_filter.mp hw).2⟩
/-! the world: cells 0 .. n less 1 of a fixed shape; N holds the ints of a cell (an object's int fields by slot, an array's elements by place), L the longs -/
abbrev ux_Sh : Type := Nat × Nat × Nat × List (Option Nat)
abbrev ux_N : Type := Nat → Nat → Int32
abbrev ux_L : Type := Nat → Nat → Int64
abbrev ux_G : Type := List ux_Sh × va_G × (Nat → ClassId) × (Nat → Nat) × (Nat → Nat)
def ux_v (ad : Nat → Nat) (f : Nat → Int32) (k : Nat) (o : Option Nat) : Value := match o with
  | none => .int (f k)
  | some j => .ref (ad j)
def ux_E (cy : Nat → ClassId) (ad : Nat → Nat) (f : Nat → Int32) (g : Nat → Int64) (q : ux_Sh) : va_E := match q.1 with
  | 0 => .inr (q.2.1, q.2.2.2.mapIdx (ux_v ad f))
  | 1 => .inl (cy q.2.1, q.2.2.1, .inl f)
  | 2 => .inl (cy q.2.1, q.2.2.1, .inr (.inl g))
  | _ => .inl (cy q.2.1, q.2.2.1, .inr (.inr (.inr (.inr (fun i => (q.2.2.2.getD i none).map ad)))))
abbrev gad (G : ux_G) : Nat → Nat := G.2.2.2.1
abbrev gcy (G : ux_G) : Nat → ClassId := G.2.2.1
def ux_wl (G : ux_G) (N : ux_N) (L : ux_L) : va_W := G.1.mapIdx (fun k q => (gad G k, ux_E (gcy G) (gad G) (N k) (L k) q))
def ux_A (G : ux_G) : Nat → Prop := fun a => ∃ k, k < G.1.length ∧ a = gad G k
def ux_tys (G : ux_G) : List (ClassId × FieldType) := [(gcy G 0, .int), (gcy G 1, .boolean), (gcy G 2, .char), (gcy G 3, .long), (gcy G 4, .object "MeterDesk$Family"), (gcy G 5, .object "MeterDesk$Parts"), (gcy G 6, .object "MeterDesk$Standing"), (gcy G 7, .object "MeterDesk$Tray")]
def ux_ok (G : ux_G) (sh : List ux_Sh) : Prop := G.1 = sh ∧ (∀ i j, i < G.1.length → j < G.1.length → gad G i = gad G j → i = j)
/-! what the start gives that no cell of the world is: the two tables, the strings, the links among nest mates -/
def tb_lack : List Int64 := [6148914691236517205, 3689348814741910323, 1085102592571150095, 71777214294589695, 281470681808895, 4294967295]
def tb_sized : List Int64 := [1, 4295033110, 282668995843688, 78274679833913472, 1614655367130677248, 7530159316599308288, -9223372036854775808]
def tb_len : List Nat := [4, 4, 5, 4, 4, 4, 4, 4]
def tb_byt : List (List Int32) := [[103, 114, 105, 100], [108, 105, 110, 101], [111, 102, 102, 101, 114], [102, 108, 111, 119], [112, 97, 105, 114], [110, 111, 100, 101], [119, 105, 100, 101], [100, 117, 108, 108]]
def tb_str : List (Nat × String × Nat) := [(62, "grid", 0), (71, "line", 1), (76, "offer", 2), (88, "flow", 3), (90, "pair", 4), (92, "node", 5), (94, "wide", 6), (96, "dull", 7)]
def tb_nest : List (String × Nat × MethodName × String) := [("MeterDesk", 9, ⟨"MeterDesk$Plan", "<init>", "()V"⟩, "MeterDesk"), ("MeterDesk", 18, ⟨"MeterDesk$Reader", "<init>", "()V"⟩, "MeterDesk"), ("MeterDesk$Reader", 11, ⟨"MeterDesk$Plan", "<init>", "()V"⟩, "MeterDesk"), ("MeterDesk", 25, ⟨"MeterDesk$Standing", "<init>", "()V"⟩, "MeterDesk"), ("MeterDesk", 40, ⟨"MeterDesk$History", "<init>", "()V"⟩, "MeterDesk"), ("MeterDesk$Sight", 17, ⟨"MeterDesk$Family", "<init>", "()V"⟩, "MeterDesk"), ("MeterDesk$Trials", 21, ⟨"MeterDesk$Family", "<init>", "()V"⟩, "MeterDesk"), ("MeterDesk$Sight", 41, ⟨"MeterDesk$Parts", "<init>", "()V"⟩, "MeterDesk"), ("MeterDesk$Sight", 51, ⟨"MeterDesk$Servers", "<init>", "()V"⟩, "MeterDesk"), ("MeterDesk", 56, ⟨"MeterDesk$Sightings", "<init>", "()V"⟩, "MeterDesk"), ("MeterDesk", 67, ⟨"MeterDesk$Tray", "<init>", "()V"⟩, "MeterDesk"), ("MeterDesk$Sight", 76, ⟨"MeterDesk", "lowest", "(I)I"⟩, "MeterDesk"), ("MeterDesk$Servers", 33, ⟨"MeterDesk", "lowest", "(I)I"⟩, "MeterDesk"), ("MeterDesk$Trials", 30, ⟨"MeterDesk", "lowest", "(I)I"⟩, "MeterDesk")]
def ux_Z (A : Nat → Prop) (sa : Nat → Nat) (U : State) : Prop :=
  (va_Z "MeterDesk$Family" "LACKING" "[J" (.ref (sa 0)) A U U.heap ∧ va_T .long (sa 0) 6 (fun j => .long (tb_lack.getD j 0)) A U U.heap) ∧ (va_Z "MeterDesk$Family" "SIZED" "[J" (.ref (sa 1)) A U U.heap ∧ va_T .long (sa 1) 7 (fun j => .long (tb_sized.getD j 0)) A U U.heap) ∧
  (va_Z "java/lang/String" "COMPACT_STRINGS" "Z" (.int 1) A U U.heap ∧ va_Zq "jdk/internal/util/Preconditions" "SIOOBE_FORMATTER" "Ljava/util/function/BiFunction;" A U U.heap) ∧
  vk_S 8 tb_len tb_byt (fun i => sa (2 + i)) (fun i => sa (10 + i)) A U U.heap ∧ (∀ q ∈ tb_str, vk_R "MeterDesk$Reader" q.1 q.2.1 (sa (2 + q.2.2)) U) ∧ (∀ q ∈ tb_nest, va_Nw (.methodLinkNest q.1 q.2.1 q.2.2.1 q.2.2.2) U)
theorem ux_Z.same {A : Nat → Prop} {sa : Nat → Nat} {u U : State} (hv : U.vm = u.vm) (hh : U.heap = u.heap) (h : ux_Z A sa u) : ux_Z A sa U := by
  have al : u.vm.Alike U.vm := by rw [hv]; exact Vm.Alike.refl _
  obtain ⟨⟨a1, a2⟩, ⟨a3, a4⟩, ⟨a5, a6⟩, a7, a8, a9⟩ := h
  unfold ux_Z
  rw [hh]
  exact ⟨⟨a1.moved al, a2.moved al⟩, ⟨a3.moved al, a4.moved al⟩, ⟨a5.moved al, a6.moved al⟩, a7.moved al, fun q hq => vk_R.same hv (a8 q hq), fun q hq => va_Nw.same rfl hv.symm (a9 q hq)⟩
theorem ux_Z.call {A : Nat → Prop} {sa : Nat → Nat} {s U : State} {H : Heap} {locs : List Loc} (hW : s.WarmedH U.vm) (hS : va_S A s.heap H locs) (hU : U.heap = H) (h : ux_Z A sa s) : ux_Z A sa U := by
  have al := hW.alike
  have kp : ∀ a : Nat, a < s.heap.size → ¬ A a → U.heap[a]? = s.heap[a]? := by rw [hU]; exact hS.2.1
  obtain ⟨⟨a1, a2⟩, ⟨a3, a4⟩, ⟨a5, a6⟩, a7, a8, a9⟩ := h
  exact ⟨⟨(a1.kept kp).moved al, (a2.kept kp).moved al⟩, ⟨(a3.kept kp).moved al, (a4.kept kp).moved al⟩, ⟨(a5.kept kp).moved al, (a6.kept kp).moved al⟩, (a7.kept kp).moved al, fun q hq => (a8 q hq).warm hW, fun q hq => (a9 q hq).warmM hW⟩
theorem ux_at {G : ux_G} {N : ux_N} {L : ux_L} {k : Nat} {q : ux_Sh} (h : G.1[k]? = some q) : (ux_wl G N L)[k]? = some (gad G k, ux_E (gcy G) (gad G) (N k) (L k) q) := by
  unfold ux_wl
  rw [List.getElem?_mapIdx, h]
  rfl
theorem ux_at_inv {G : ux_G} {N : ux_N} {L : ux_L} {k : Nat} {x : Nat × va_E} (h : (ux_wl G N L)[k]? = some x) : k < G.1.length ∧ x.1 = gad G k := by
  unfold ux_wl at h
  rw [List.getElem?_mapIdx] at h
  cases hq : G.1[k]? with
  | none => rw [hq] at h; cases h
  | some q =>
    rw [hq] at h
    cases h
    exact ⟨(List.getElem?_eq_some_iff.mp hq).1, rfl⟩
theorem ux_D {G : ux_G} {sh : List ux_Sh} (h : ux_ok G sh) (N : ux_N) (L : ux_L) : va_D (ux_A G) (ux_wl G N L) := by
  refine ⟨fun i j x y hi hj hxy => ?_, fun k q hk => ?_⟩
  · obtain ⟨h1, h2⟩ := ux_at_inv hi
    obtain ⟨h3, h4⟩ := ux_at_inv hj
    exact h.2 i j h1 h3 (by rw [← h2, ← h4]; exact hxy)
  · obtain ⟨h1, h2⟩ := ux_at_inv hk
    exact ⟨k, h1, h2⟩
theorem ux_set {G : ux_G} {N N' : ux_N} {L L' : ux_L} {h : Nat} {q : ux_Sh} {e : va_E} (hs : G.1[h]? = some q) (he : ux_E (gcy G) (gad G) (N' h) (L' h) q = e) (hN : ∀ j, j ≠ h → N' j = N j) (hL : ∀ j, j ≠ h → L' j = L j) : (ux_wl G N L).set h (gad G h, e) = ux_wl G N' L' := by
  subst he
  apply List.ext_getElem?
  intro j
  by_cases hj : j = h
  · subst hj
    rw [List.getElem?_set_self (by unfold ux_wl; rw [List.length_mapIdx]; exact (List.getElem?_eq_some_iff.mp hs).1), ux_at hs]
  · rw [List.getElem?_set_ne (Ne.symm hj)]
    unfold ux_wl
    rw [List.getElem?_mapIdx, List.getElem?_mapIdx, hN j hj, hL j hj]
def ux_u (N : ux_N) (h k : Nat) (v : Int32) : ux_N := fun a => if a = h then upd (N h) k v else N a
def ux_w (L : ux_L) (h k : Nat) (v : Int64) : ux_L := fun a => if a = h then vp_updL (L h) k v else L a
def ux_cpN (N : ux_N) (src dst sp dp n : Nat) : ux_N := fun a => if a = dst then va_cpy (N src) (N dst) sp dp n else N a
def ux_cpL (L : ux_L) (src dst sp dp n : Nat) : ux_L := fun a => if a = dst then va_cpy (L src) (L dst) sp dp n else L a
theorem ux_fset {ad : Nat → Nat} {f : Nat → Int32} {fks : List (Option Nat)} {k : Nat} {v : Int32} (hk : fks[k]? = some none) : (fks.mapIdx (ux_v ad f)).set k (.int v) = fks.mapIdx (ux_v ad (upd f k v)) := by
  apply List.ext_getElem?
  intro j
  by_cases hj : j = k
  · subst hj
    rw [List.getElem?_set_self (by rw [List.length_mapIdx]; exact (List.getElem?_eq_some_iff.mp hk).1), List.getElem?_mapIdx, hk]
    simp [ux_v, upd]
  · rw [List.getElem?_set_ne (Ne.symm hj), List.getElem?_mapIdx, List.getElem?_mapIdx]
    cases fks[j]? with
    | none => rfl
    | some o => cases o <;> simp [ux_v, upd, hj]
/-- a field's link: entry idx of own's pool names slot k of kind ci -/
def ux_FL (own : String) (idx ci k : Nat) : Prop := ∃ (CN : String) (T : u_T) (n : Nat), vwCl[ci]? = some (CN, T, n) ∧ (∀ w ∈ u_ws CN T n, w ∈ lw_gt) ∧ k < n ∧ Cond.fieldLink own idx (T k).1 (T k).2.1 (T k).2.2.1 ∈ lw_gt
def ux_FP (own : String) (idx ci k : Nat) (ty : FieldType) : Prop := (∃ (CN : String) (T : u_T) (n : Nat), vwCl[ci]? = some (CN, T, n) ∧ (∀ w ∈ u_ws CN T n, w ∈ lw_gt) ∧ k < n ∧ Cond.fieldLink own idx (T k).1 (T k).2.1 (T k).2.2.1 ∈ lw_gt ∧ ∃ ty0 : Nat → FieldType, (∀ k, k < n → parseFieldDescriptor (T k).2.2.1 = some (ty0 k)) ∧ (∀ a, a < n → ∀ b, b < n → a ≠ b → (T a).2.1 ≠ (T b).2.1) ∧ (T k).2.2.2 = false ∧ parseFieldDescriptor (T k).2.2.1 = some ty)
def ux_LA (own : String) (idx : Nat) : Prop := Cond.methodLink own idx arraycopyName ∈ lw_gt ∧ Cond.native arraycopyName ∈ lw_gt ∧ Cond.static arraycopyName ∈ lw_gt ∧ Cond.initialized "java/lang/System" ∈ lw_gt
/-! guards and loops of the pure side -/
def ux_in (i : Int32) (n : Nat) : Bool := decide (¬ (i < 0 ∨ n ≤ i.toNatClampNeg))
theorem ux_in_p {i : Int32} {n : Nat} (h : ux_in i n = true) : vp_in i n := of_decide_eq_true (p := ¬ (i < 0 ∨ n ≤ i.toNatClampNeg)) h
theorem ux_in_lt {i : Int32} {n : Nat} (h : ux_in i n = true) : i.toNatClampNeg < n := Nat.not_le.mp fun z => ux_in_p h (Or.inr z)
def ux_b (v : Int32) : Bool := decide (v = 0 ∨ v = 1)
theorem ux_b_n {v : Int32} (h : ux_b v = true) : narrow .boolean (.int v) = .int v ∧ fits .boolean (.int v) = true := by
  rcases of_decide_eq_true h with rfl | rfl <;> exact ⟨by decide, by decide⟩
theorem ux_guard {α : Type} {b : Bool} {a : Option α} {o : α} (h : (if b = true then a else none) = some o) : b = true ∧ a = some o := by
  cases b with
  | true => exact ⟨rfl, by rw [if_pos rfl] at h; exact h⟩
  | false => rw [if_neg (by decide)] at h; cases h
def ux_lp {S E : Type} (b : S → Option (S ⊕ E)) : Nat → S → Option E
  | 0, _ => none
  | n + 1, s => (b s).bind (Sum.elim (ux_lp b n) some)
def ux_fu : Nat := 1048576
theorem ux_loop {S E : Type} (b : S → Option (S ⊕ E)) (Wh : S → Prop) {e : E} (hb : ∀ s o, b s = some o → (∀ s', o = .inl s' → Wh s') → (∀ e', o = .inr e' → e' = e) → Wh s) : ∀ {n : Nat} {s : S}, ux_lp b n s = some e → Wh s := by
  intro n
  induction n with
  | zero => intro s h; cases h
  | succ n ih =>
    intro s h
    obtain ⟨o, h1, h2⟩ := Option.bind_eq_some_iff.mp h
    refine hb s o h1 (fun s' hs => ?_) (fun e' he => ?_)
    · subst hs; exact ih h2
    · subst he; exact Option.some.inj h2
/-! a method under way -/
abbrev ux_X : Type := Program × Launch × Env × Room × State × MethodId × Array Value × List Frame × Method × Code × ux_G × (State → Prop)
abbrev xp (X : ux_X) : Program := X.1
abbrev xl (X : ux_X) : Launch := X.2.1
abbrev xe (X : ux_X) : Env := X.2.2.1
abbrev xR (X : ux_X) : Room := X.2.2.2.1
abbrev xs (X : ux_X) : State := X.2.2.2.2.1
abbrev xm (X : ux_X) : MethodId := X.2.2.2.2.2.1
abbrev xa (X : ux_X) : Array Value := X.2.2.2.2.2.2.1
abbrev xb (X : ux_X) : List Frame := X.2.2.2.2.2.2.2.1
abbrev xme (X : ux_X) : Method := X.2.2.2.2.2.2.2.2.1
abbrev xc (X : ux_X) : Code := X.2.2.2.2.2.2.2.2.2.1
abbrev xG (X : ux_X) : ux_G := X.2.2.2.2.2.2.2.2.2.2.1
abbrev xQ (X : ux_X) : State → Prop := X.2.2.2.2.2.2.2.2.2.2.2
def ux_ad (X : ux_X) (h : Nat) : Nat := gad (xG X) h
abbrev ux_Wx (X : ux_X) (H : Heap) (locs : List Loc) (g : JFrame) : Prop := W (xp X) (xl X) (xe X) (xR X) (xs X) (xm X) (xa X) (xb X) (xme X) (xc X) H locs 0 0 (xQ X) g
def ux_Wt (X : ux_X) (nL pc : Nat) (lv : List (Nat × Value)) (st : List Value) (N : ux_N) (L : ux_L) : Prop :=
  ∀ (H : Heap) (locs : List Loc) (ls : Array Slot), va_P (xG X).2.1 vwCl (ux_wl (xG X) N L) H → va_S (ux_A (xG X)) (xs X).heap H locs → lv_has ls nL lv → ux_Wx X H locs (F0 (xm X) pc ls st)
def ux_C (X : ux_X) (cc : ByteArray) (own : String) (nL : Nat) (ret : Option FieldType) (fr lo : Nat) (sh : List ux_Sh) : Prop :=
  ((xp X).tables.exec = Jvm.exec ∧ (xc X).code = cc) ∧ (xme X).sig.returnType = ret ∧ (xc X).maxLocals = nL ∧ (xs X).vm.findClass own = some (xm X).cls ∧ (∀ w ∈ lw_gt, w.before (xa X) (xs X) = true) ∧ (xme X).locks = false ∧ (fr ≤ (xR X).frames ∧ lo ≤ (xR X).locals) ∧ ux_ok (xG X) sh ∧ va_K (xG X).2.1 vwCl (ux_tys (xG X)) (xs X) ∧ ux_Z (ux_A (xG X)) (xG X).2.2.2.2 (xs X)
section UXC
variable {X : ux_X} {cc : ByteArray} {own : String} {nL : Nat} {ret : Option FieldType} {fr lo : Nat} {sh : List ux_Sh}
theorem cx_x (C : ux_C X cc own nL ret fr lo sh) : (xp X).tables.exec = Jvm.exec := C.1.1
theorem cx_b (C : ux_C X cc own nL ret fr lo sh) : (xc X).code = cc := C.1.2
theorem cx_r (C : ux_C X cc own nL ret fr lo sh) : (xme X).sig.returnType = ret := C.2.1
theorem cx_m (C : ux_C X cc own nL ret fr lo sh) : (xc X).maxLocals = nL := C.2.2.1
theorem cx_o (C : ux_C X cc own nL ret fr lo sh) : (xs X).vm.findClass own = some (xm X).cls := C.2.2.2.1
theorem cx_t (C : ux_C X cc own nL ret fr lo sh) : ∀ w ∈ lw_gt, w.before (xa X) (xs X) = true := C.2.2.2.2.1
theorem cx_l (C : ux_C X cc own nL ret fr lo sh) : (xme X).locks = false := C.2.2.2.2.2.1
theorem cx_fr (C : ux_C X cc own nL ret fr lo sh) : fr ≤ (xR X).frames := C.2.2.2.2.2.2.1.1
theorem cx_lo (C : ux_C X cc own nL ret fr lo sh) : lo ≤ (xR X).locals := C.2.2.2.2.2.2.1.2
theorem cx_ok (C : ux_C X cc own nL ret fr lo sh) : ux_ok (xG X) sh := C.2.2.2.2.2.2.2.1
theorem cx_K (C : ux_C X cc own nL ret fr lo sh) : va_K (xG X).2.1 vwCl (ux_tys (xG X)) (xs X) := C.2.2.2.2.2.2.2.2.1
theorem cx_Z (C : ux_C X cc own nL ret fr lo sh) : ux_Z (ux_A (xG X)) (xG X).2.2.2.2 (xs X) := C.2.2.2.2.2.2.2.2.2
theorem cx_s (C : ux_C X cc own nL ret fr lo sh) {h : Nat} {q : ux_Sh} (hs : sh[h]? = some q) : (xG X).1[h]? = some q := by rw [(cx_ok C).1]; exact hs
variable {pc : Nat} {lv lv' : List (Nat × Value)} {st : List Value} {N : ux_N} {L : ux_L}
theorem wt_sub (ks : List Nat) (h : lv_pick lv ks = lv') (k : ux_Wt X nL pc lv' st N L) : ux_Wt X nL pc lv st N L := fun H locs ls hP hS hl => k H locs ls hP hS (lv_sub hl ks h)
theorem wt_iconst (q : Nat) {n : Int} (v : Int32) (C : ux_C X cc own nL ret fr lo sh) (hd : decode cc pc = .ok (.iconst n, 1)) (hq : pc + 1 = q) (hv : Int32.ofInt n = v) (k : ux_Wt X nL q lv (.int v :: st) N L) : ux_Wt X nL pc lv st N L := by
  subst hq; exact fun H locs ls hP hS hl => lv_iconst (cx_x C) (cx_b C) hd hv (k H locs ls hP hS hl)
theorem wt_bipush (q : Nat) {n : Int} (v : Int32) (C : ux_C X cc own nL ret fr lo sh) (hd : decode cc pc = .ok (.bipush n, 2)) (hq : pc + 2 = q) (hv : (Int8.ofInt n).toInt32 = v) (k : ux_Wt X nL q lv (.int v :: st) N L) : ux_Wt X nL pc lv st N L := by
  subst hq; exact fun H locs ls hP hS hl => lv_bipush (cx_x C) (cx_b C) hd hv (k H locs ls hP hS hl)
theorem wt_sipush (q : Nat) {n : Int} (v : Int32) (C : ux_C X cc own nL ret fr lo sh) (hd : decode cc pc = .ok (.sipush n, 3)) (hq : pc + 3 = q) (hv : (Int16.ofInt n).toInt32 = v) (k : ux_Wt X nL q lv (.int v :: st) N L) : ux_Wt X nL pc lv st N L := by
  subst hq; exact fun H locs ls hP hS hl => lv_sipush (cx_x C) (cx_b C) hd hv (k H locs ls hP hS hl)
theorem wt_lconst (q : Nat) {n : Fin 2} (v : Int64) (C : ux_C X cc own nL ret fr lo sh) (hd : decode cc pc = .ok (.lconst n, 1)) (hq : pc + 1 = q) (hv : Int64.ofNat (n : Nat) = v) (k : ux_Wt X nL q lv (.long v :: st) N L) : ux_Wt X nL pc lv st N L := by
  subst hq; exact fun H locs ls hP hS hl => lv_lconst (cx_x C) (cx_b C) hd hv (k H locs ls hP hS hl)
theorem wt_ldc (q : Nat) {i : Nat} {v : Int32} (C : ux_C X cc own nL ret fr lo sh) (hc : Cond.constant own i v ∈ lw_gt) (hd : decode cc pc = .ok (.ldc i, 2)) (hq : pc + 2 = q) (k : ux_Wt X nL q lv (.int v :: st) N L) : ux_Wt X nL pc lv st N L := by
  subst hq; exact fun H locs ls hP hS hl => lv_ldc (cx_x C) (cx_b C) (cx_o C) (cx_t C _ hc) hd (k H locs ls hP hS hl)
theorem wt_ldcw (q : Nat) {i : Nat} {v : Int32} (C : ux_C X cc own nL ret fr lo sh) (hc : Cond.constant own i v ∈ lw_gt) (hd : decode cc pc = .ok (.ldc_w i, 3)) (hq : pc + 3 = q) (k : ux_Wt X nL q lv (.int v :: st) N L) : ux_Wt X nL pc lv st N L := by
  subst hq; exact fun H locs ls hP hS hl => lv_ldcw (cx_x C) (cx_b C) (cx_o C) (cx_t C _ hc) hd (k H locs ls hP hS hl)
theorem wt_ldc2 (q : Nat) {i : Nat} {v : Int64} (C : ux_C X cc own nL ret fr lo sh) (hc : Cond.constantLong own i v ∈ lw_gt) (hd : decode cc pc = .ok (.ldc2_w i, 3)) (hq : pc + 3 = q) (k : ux_Wt X nL q lv (.long v :: st) N L) : ux_Wt X nL pc lv st N L := by
  subst hq; exact fun H locs ls hP hS hl => lv_ldc2 (cx_x C) (cx_b C) (cx_o C) (cx_t C _ hc) hd (k H locs ls hP hS hl)
theorem wt_iload_n (q j : Nat) {i : Fin 4} {x : Int32} (C : ux_C X cc own nL ret fr lo sh) (hd : decode cc pc = .ok (.iload_n i, 1)) (hq : pc + 1 = q) (hl : lv[j]? = some ((i : Nat), .int x)) (k : ux_Wt X nL q lv (.int x :: st) N L) : ux_Wt X nL pc lv st N L := by
  subst hq; exact fun H locs ls hP hS hv => lv_iload_n (cx_x C) (cx_b C) hd rfl (lv_at hv j hl) (k H locs ls hP hS hv)
theorem wt_iload (q j : Nat) {i : Nat} {x : Int32} (C : ux_C X cc own nL ret fr lo sh) (hd : decode cc pc = .ok (.iload i, 2)) (hq : pc + 2 = q) (hl : lv[j]? = some (i, .int x)) (k : ux_Wt X nL q lv (.int x :: st) N L) : ux_Wt X nL pc lv st N L := by
  subst hq; exact fun H locs ls hP hS hv => lv_iload (cx_x C) (cx_b C) hd (lv_at hv j hl) (k H locs ls hP hS hv)
theorem wt_lload_n (q j : Nat) {i : Fin 4} {x : Int64} (C : ux_C X cc own nL ret fr lo sh) (hd : decode cc pc = .ok (.lload_n i, 1)) (hq : pc + 1 = q) (hl : lv[j]? = some ((i : Nat), .long x)) (k : ux_Wt X nL q lv (.long x :: st) N L) : ux_Wt X nL pc lv st N L := by
  subst hq; exact fun H locs ls hP hS hv => lv_lload_n (cx_x C) (cx_b C) hd rfl (lv_at hv j hl) (k H locs ls hP hS hv)
theorem wt_lload (q j : Nat) {i : Nat} {x : Int64} (C : ux_C X cc own nL ret fr lo sh) (hd : decode cc pc = .ok (.lload i, 2)) (hq : pc + 2 = q) (hl : lv[j]? = some (i, .long x)) (k : ux_Wt X nL q lv (.long x :: st) N L) : ux_Wt X nL pc lv st N L := by
  subst hq; exact fun H locs ls hP hS hv => lv_lload (cx_x C) (cx_b C) hd (lv_at hv j hl) (k H locs ls hP hS hv)
theorem wt_aload_n (q j : Nat) {i : Fin 4} {x : Nat} (C : ux_C X cc own nL ret fr lo sh) (hd : decode cc pc = .ok (.aload_n i, 1)) (hq : pc + 1 = q) (hl : lv[j]? = some ((i : Nat), .ref x)) (k : ux_Wt X nL q lv (.ref x :: st) N L) : ux_Wt X nL pc lv st N L := by
  subst hq; exact fun H locs ls hP hS hv => lv_aload_n (cx_x C) (cx_b C) hd rfl (lv_at hv j hl) (k H locs ls hP hS hv)
theorem wt_aload (q j : Nat) {i : Nat} {x : Nat} (C : ux_C X cc own nL ret fr lo sh) (hd : decode cc pc = .ok (.aload i, 2)) (hq : pc + 2 = q) (hl : lv[j]? = some (i, .ref x)) (k : ux_Wt X nL q lv (.ref x :: st) N L) : ux_Wt X nL pc lv st N L := by
  subst hq; exact fun H locs ls hP hS hv => lv_aload (cx_x C) (cx_b C) hd (lv_at hv j hl) (k H locs ls hP hS hv)
abbrev ux_st1 (i : Nat) (v : Value) (lv : List (Nat × Value)) : List (Nat × Value) := (i, v) :: lv.filter (fun q => !(q.1 == i) && !(q.1 + 1 == i && q.2.category == 2))
abbrev ux_st2 (i : Nat) (v : Value) (lv : List (Nat × Value)) : List (Nat × Value) := (i, v) :: lv.filter (fun q => !(q.1 == i) && (!(q.1 == i + 1) && !(q.1 + 1 == i && q.2.category == 2)))
theorem wt_istore_n (q : Nat) (lv' : List (Nat × Value)) {i : Fin 4} {x : Int32} (C : ux_C X cc own nL ret fr lo sh) (hd : decode cc pc = .ok (.istore_n i, 1)) (hq : pc + 1 = q) (hn : (i : Nat) < nL) (hl : ux_st1 (i : Nat) (.int x) lv = lv') (k : ux_Wt X nL q lv' st N L) : ux_Wt X nL pc lv (.int x :: st) N L := by
  subst hq; exact fun H locs ls hP hS hv => lv_istore_n (cx_x C) (cx_b C) hd rfl hv hn hl (fun ls' hv' => k H locs ls' hP hS hv')
theorem wt_istore (q : Nat) (lv' : List (Nat × Value)) {i : Nat} {x : Int32} (C : ux_C X cc own nL ret fr lo sh) (hd : decode cc pc = .ok (.istore i, 2)) (hq : pc + 2 = q) (hn : i < nL) (hl : ux_st1 i (.int x) lv = lv') (k : ux_Wt X nL q lv' st N L) : ux_Wt X nL pc lv (.int x :: st) N L := by
  subst hq; exact fun H locs ls hP hS hv => lv_istore (cx_x C) (cx_b C) hd hv hn hl (fun ls' hv' => k H locs ls' hP hS hv')
theorem wt_lstore (q : Nat) (lv' : List (Nat × Value)) {i : Nat} {x : Int64} (C : ux_C X cc own nL ret fr lo sh) (hd : decode cc pc = .ok (.lstore i, 2)) (hq : pc + 2 = q) (hn : i + 1 < nL) (hl : ux_st2 i (.long x) lv = lv') (k : ux_Wt X nL q lv' st N L) : ux_Wt X nL pc lv (.long x :: st) N L := by
  subst hq; exact fun H locs ls hP hS hv => lv_lstore (cx_x C) (cx_b C) hd hv hn hl (fun ls' hv' => k H locs ls' hP hS hv')
theorem wt_lstore_n (q : Nat) (lv' : List (Nat × Value)) {i : Fin 4} {x : Int64} (C : ux_C X cc own nL ret fr lo sh) (hd : decode cc pc = .ok (.lstore_n i, 1)) (hq : pc + 1 = q) (hn : (i : Nat) + 1 < nL) (hl : ux_st2 (i : Nat) (.long x) lv = lv') (k : ux_Wt X nL q lv' st N L) : ux_Wt X nL pc lv (.long x :: st) N L := by
  subst hq; exact fun H locs ls hP hS hv => lv_lstore_n (cx_x C) (cx_b C) hd rfl hv hn hl (fun ls' hv' => k H locs ls' hP hS hv')
theorem wt_astore_n (q : Nat) (lv' : List (Nat × Value)) {i : Fin 4} {x : Nat} (C : ux_C X cc own nL ret fr lo sh) (hd : decode cc pc = .ok (.astore_n i, 1)) (hq : pc + 1 = q) (hn : (i : Nat) < nL) (hl : ux_st1 (i : Nat) (.ref x) lv = lv') (k : ux_Wt X nL q lv' st N L) : ux_Wt X nL pc lv (.ref x :: st) N L := by
  subst hq; exact fun H locs ls hP hS hv => lv_astore_n (cx_x C) (cx_b C) hd rfl hv hn hl (fun ls' hv' => k H locs ls' hP hS hv')
theorem wt_astore (q : Nat) (lv' : List (Nat × Value)) {i : Nat} {x : Nat} (C : ux_C X cc own nL ret fr lo sh) (hd : decode cc pc = .ok (.astore i, 2)) (hq : pc + 2 = q) (hn : i < nL) (hl : ux_st1 i (.ref x) lv = lv') (k : ux_Wt X nL q lv' st N L) : ux_Wt X nL pc lv (.ref x :: st) N L := by
  subst hq; exact fun H locs ls hP hS hv => lv_astore (cx_x C) (cx_b C) hd hv hn hl (fun ls' hv' => k H locs ls' hP hS hv')
theorem wt_iinc (q j : Nat) (lv' : List (Nat × Value)) {i : Nat} {n : Int} {x : Int32} (v : Int32) (C : ux_C X cc own nL ret fr lo sh) (hd : decode cc pc = .ok (.iinc i n, 3)) (hq : pc + 3 = q) (hk : lv[j]? = some (i, .int x)) (hv : x + Int32.ofInt n = v) (hn : i < nL) (hl : ux_st1 i (.int v) lv = lv') (k : ux_Wt X nL q lv' st N L) : ux_Wt X nL pc lv st N L := by
  subst hq; exact fun H locs ls hP hS hl' => lv_iinc (cx_x C) (cx_b C) hd hl' hk hv hn hl (fun ls' hv' => k H locs ls' hP hS hv')
theorem wt_iadd (q : Nat) {x y : Int32} (C : ux_C X cc own nL ret fr lo sh) (hd : decode cc pc = .ok (.iadd, 1)) (hq : pc + 1 = q) (k : ux_Wt X nL q lv (.int (x + y) :: st) N L) : ux_Wt X nL pc lv (.int y :: .int x :: st) N L := by
  subst hq; exact fun H locs ls hP hS hl => lv_iadd (cx_x C) (cx_b C) hd (k H locs ls hP hS hl)
theorem wt_isub (q : Nat) {x y : Int32} (C : ux_C X cc own nL ret fr lo sh) (hd : decode cc pc = .ok (.isub, 1)) (hq : pc + 1 = q) (k : ux_Wt X nL q lv (.int (x - y) :: st) N L) : ux_Wt X nL pc lv (.int y :: .int x :: st) N L := by
  subst hq; exact fun H locs ls hP hS hl => lv_isub (cx_x C) (cx_b C) hd (k H locs ls hP hS hl)
theorem wt_imul (q : Nat) {x y : Int32} (C : ux_C X cc own nL ret fr lo sh) (hd : decode cc pc = .ok (.imul, 1)) (hq : pc + 1 = q) (k : ux_Wt X nL q lv (.int (x * y) :: st) N L) : ux_Wt X nL pc lv (.int y :: .int x :: st) N L := by
  subst hq; exact fun H locs ls hP hS hl => lv_imul (cx_x C) (cx_b C) hd (k H locs ls hP hS hl)
theorem wt_iand (q : Nat) {x y : Int32} (C : ux_C X cc own nL ret fr lo sh) (hd : decode cc pc = .ok (.iand, 1)) (hq : pc + 1 = q) (k : ux_Wt X nL q lv (.int (x &&& y) :: st) N L) : ux_Wt X nL pc lv (.int y :: .int x :: st) N L := by
  subst hq; exact fun H locs ls hP hS hl => lv_iand (cx_x C) (cx_b C) hd (k H locs ls hP hS hl)
theorem wt_ior (q : Nat) {x y : Int32} (C : ux_C X cc own nL ret fr lo sh) (hd : decode cc pc = .ok (.ior, 1)) (hq : pc + 1 = q) (k : ux_Wt X nL q lv (.int (x ||| y) :: st) N L) : ux_Wt X nL pc lv (.int y :: .int x :: st) N L := by
  subst hq; exact fun H locs ls hP hS hl => lv_ior (cx_x C) (cx_b C) hd (k H locs ls hP hS hl)
theorem wt_ixor (q : Nat) {x y : Int32} (C : ux_C X cc own nL ret fr lo sh) (hd : decode cc pc = .ok (.ixor, 1)) (hq : pc + 1 = q) (k : ux_Wt X nL q lv (.int (x ^^^ y) :: st) N L) : ux_Wt X nL pc lv (.int y :: .int x :: st) N L := by
  subst hq; exact fun H locs ls hP hS hl => lv_ixor (cx_x C) (cx_b C) hd (k H locs ls hP hS hl)
theorem wt_ishl (q : Nat) {x y : Int32} (C : ux_C X cc own nL ret fr lo sh) (hd : decode cc pc = .ok (.ishl, 1)) (hq : pc + 1 = q) (k : ux_Wt X nL q lv (.int (x <<< (y &&& 31)) :: st) N L) : ux_Wt X nL pc lv (.int y :: .int x :: st) N L := by
  subst hq; exact fun H locs ls hP hS hl => lv_ishl (cx_x C) (cx_b C) hd (k H locs ls hP hS hl)
theorem wt_ishr (q : Nat) {x y : Int32} (C : ux_C X cc own nL ret fr lo sh) (hd : decode cc pc = .ok (.ishr, 1)) (hq : pc + 1 = q) (k : ux_Wt X nL q lv (.int (x >>> (y &&& 31)) :: st) N L) : ux_Wt X nL pc lv (.int y :: .int x :: st) N L := by
  subst hq; exact fun H locs ls hP hS hl => lv_ishr (cx_x C) (cx_b C) hd (k H locs ls hP hS hl)
theorem wt_idiv (q : Nat) {x y : Int32} (C : ux_C X cc own nL ret fr lo sh) (hd : decode cc pc = .ok (.idiv, 1)) (hq : pc + 1 = q) (hne : ¬ y = 0) (k : ux_Wt X nL q lv (.int (x / y) :: st) N L) : ux_Wt X nL pc lv (.int y :: .int x :: st) N L := by
  subst hq; exact fun H locs ls hP hS hl => lv_idiv (cx_x C) (cx_b C) hd hne (k H locs ls hP hS hl)
theorem wt_irem (q : Nat) {x y : Int32} (C : ux_C X cc own nL ret fr lo sh) (hd : decode cc pc = .ok (.irem, 1)) (hq : pc + 1 = q) (hne : ¬ y = 0) (k : ux_Wt X nL q lv (.int (x - x / y * y) :: st) N L) : ux_Wt X nL pc lv (.int y :: .int x :: st) N L := by
  subst hq; exact fun H locs ls hP hS hl => lv_irem (cx_x C) (cx_b C) hd hne (k H locs ls hP hS hl)
theorem wt_lsub (q : Nat) {x y : Int64} (C : ux_C X cc own nL ret fr lo sh) (hd : decode cc pc = .ok (.lsub, 1)) (hq : pc + 1 = q) (k : ux_Wt X nL q lv (.long (x - y) :: st) N L) : ux_Wt X nL pc lv (.long y :: .long x :: st) N L := by
  subst hq; exact fun H locs ls hP hS hl => lv_lsub (cx_x C) (cx_b C) hd (k H locs ls hP hS hl)
theorem wt_land (q : Nat) {x y : Int64} (C : ux_C X cc own nL ret fr lo sh) (hd : decode cc pc = .ok (.land, 1)) (hq : pc + 1 = q) (k : ux_Wt X nL q lv (.long (x &&& y) :: st) N L) : ux_Wt X nL pc lv (.long y :: .long x :: st) N L := by
  subst hq; exact fun H locs ls hP hS hl => lv_land (cx_x C) (cx_b C) hd (k H locs ls hP hS hl)
theorem wt_lor (q : Nat) {x y : Int64} (C : ux_C X cc own nL ret fr lo sh) (hd : decode cc pc = .ok (.lor, 1)) (hq : pc + 1 = q) (k : ux_Wt X nL q lv (.long (x ||| y) :: st) N L) : ux_Wt X nL pc lv (.long y :: .long x :: st) N L := by
  subst hq; exact fun H locs ls hP hS hl => lv_lor (cx_x C) (cx_b C) hd (k H locs ls hP hS hl)
theorem wt_ladd (q : Nat) {x y : Int64} (C : ux_C X cc own nL ret fr lo sh) (hd : decode cc pc = .ok (.ladd, 1)) (hq : pc + 1 = q) (k : ux_Wt X nL q lv (.long (x + y) :: st) N L) : ux_Wt X nL pc lv (.long y :: .long x :: st) N L := by
  subst hq; exact fun H locs ls hP hS hl => lv_ladd (cx_x C) (cx_b C) hd (k H locs ls hP hS hl)
theorem wt_ineg (q : Nat) {x : Int32} (C : ux_C X cc own nL ret fr lo sh) (hd : decode cc pc = .ok (.ineg, 1)) (hq : pc + 1 = q) (k : ux_Wt X nL q lv (.int (-x) :: st) N L) : ux_Wt X nL pc lv (.int x :: st) N L := by
  subst hq; exact fun H locs ls hP hS hl => lv_ineg (cx_x C) (cx_b C) hd (k H locs ls hP hS hl)
theorem wt_lneg (q : Nat) {x : Int64} (C : ux_C X cc own nL ret fr lo sh) (hd : decode cc pc = .ok (.lneg, 1)) (hq : pc + 1 = q) (k : ux_Wt X nL q lv (.long (-x) :: st) N L) : ux_Wt X nL pc lv (.long x :: st) N L := by
  subst hq; exact fun H locs ls hP hS hl => lv_lneg (cx_x C) (cx_b C) hd (k H locs ls hP hS hl)
theorem wt_i2l (q : Nat) {x : Int32} (C : ux_C X cc own nL ret fr lo sh) (hd : decode cc pc = .ok (.i2l, 1)) (hq : pc + 1 = q) (k : ux_Wt X nL q lv (.long (x.toInt64) :: st) N L) : ux_Wt X nL pc lv (.int x :: st) N L := by
  subst hq; exact fun H locs ls hP hS hl => lv_i2l (cx_x C) (cx_b C) hd rfl (k H locs ls hP hS hl)
theorem wt_l2i (q : Nat) {x : Int64} (C : ux_C X cc own nL ret fr lo sh) (hd : decode cc pc = .ok (.l2i, 1)) (hq : pc + 1 = q) (k : ux_Wt X nL q lv (.int (x.toInt32) :: st) N L) : ux_Wt X nL pc lv (.long x :: st) N L := by
  subst hq; exact fun H locs ls hP hS hl => lv_l2i (cx_x C) (cx_b C) hd rfl (k H locs ls hP hS hl)
theorem wt_i2c (q : Nat) {x : Int32} (C : ux_C X cc own nL ret fr lo sh) (hd : decode cc pc = .ok (.i2c, 1)) (hq : pc + 1 = q) (k : ux_Wt X nL q lv (.int ((x.toUInt32 % 65536).toInt32) :: st) N L) : ux_Wt X nL pc lv (.int x :: st) N L := by
  subst hq; exact fun H locs ls hP hS hl => lv_i2c (cx_x C) (cx_b C) hd rfl (k H locs ls hP hS hl)
theorem wt_iushr (q : Nat) {x y : Int32} (C : ux_C X cc own nL ret fr lo sh) (hd : decode cc pc = .ok (.iushr, 1)) (hq : pc + 1 = q) (k : ux_Wt X nL q lv (.int ((x.toUInt32 >>> (y.toUInt32 &&& Int32.toUInt32 31)).toInt32) :: st) N L) : ux_Wt X nL pc lv (.int y :: .int x :: st) N L := by
  subst hq; exact fun H locs ls hP hS hl => lv_iushr (cx_x C) (cx_b C) hd rfl (k H locs ls hP hS hl)
theorem wt_lushr (q : Nat) {x : Int64} {y : Int32} (C : ux_C X cc own nL ret fr lo sh) (hd : decode cc pc = .ok (.lushr, 1)) (hq : pc + 1 = q) (k : ux_Wt X nL q lv (.long ((x.toUInt64 >>> (y.toInt64.toUInt64 &&& Int64.toUInt64 63)).toInt64) :: st) N L) : ux_Wt X nL pc lv (.int y :: .long x :: st) N L := by
  subst hq; exact fun H locs ls hP hS hl => lv_lushr (cx_x C) (cx_b C) hd rfl (k H locs ls hP hS hl)
theorem wt_lshl (q : Nat) {x : Int64} {y : Int32} (C : ux_C X cc own nL ret fr lo sh) (hd : decode cc pc = .ok (.lshl, 1)) (hq : pc + 1 = q) (k : ux_Wt X nL q lv (.long (x <<< (y.toInt64 &&& 63)) :: st) N L) : ux_Wt X nL pc lv (.int y :: .long x :: st) N L := by
  subst hq; exact fun H locs ls hP hS hl => lv_lshl (cx_x C) (cx_b C) hd rfl (k H locs ls hP hS hl)
theorem wt_lshr (q : Nat) {x : Int64} {y : Int32} (C : ux_C X cc own nL ret fr lo sh) (hd : decode cc pc = .ok (.lshr, 1)) (hq : pc + 1 = q) (k : ux_Wt X nL q lv (.long (x >>> (y.toInt64 &&& 63)) :: st) N L) : ux_Wt X nL pc lv (.int y :: .long x :: st) N L := by
  subst hq; exact fun H locs ls hP hS hl => lv_lshr (cx_x C) (cx_b C) hd rfl (k H locs ls hP hS hl)
theorem wt_lcmp (q : Nat) {x y : Int64} (C : ux_C X cc own nL ret fr lo sh) (hd : decode cc pc = .ok (.lcmp, 1)) (hq : pc + 1 = q) (k : ux_Wt X nL q lv (.int (lg_cmp x y) :: st) N L) : ux_Wt X nL pc lv (.long y :: .long x :: st) N L := by
  subst hq; exact fun H locs ls hP hS hl => W.lcmp (cx_x C) (cx_b C) hd (k H locs ls hP hS hl)
theorem wt_dup (q : Nat) {a : Value} (C : ux_C X cc own nL ret fr lo sh) (hd : decode cc pc = .ok (.dup, 1)) (hq : pc + 1 = q) (ha : a.category = 1) (k : ux_Wt X nL q lv (a :: a :: st) N L) : ux_Wt X nL pc lv (a :: st) N L := by
  subst hq; exact fun H locs ls hP hS hl => lv_dup (cx_x C) (cx_b C) hd ha (k H locs ls hP hS hl)
theorem wt_pop (q : Nat) {a : Value} (C : ux_C X cc own nL ret fr lo sh) (hd : decode cc pc = .ok (.pop, 1)) (hq : pc + 1 = q) (ha : a.category = 1) (k : ux_Wt X nL q lv st N L) : ux_Wt X nL pc lv (a :: st) N L := by
  subst hq; exact fun H locs ls hP hS hl => lv_pop (cx_x C) (cx_b C) hd ha (k H locs ls hP hS hl)
theorem wt_dup2 (q : Nat) {a b : Value} (C : ux_C X cc own nL ret fr lo sh) (hd : decode cc pc = .ok (.dup2, 1)) (hq : pc + 1 = q) (ha : a.category = 1) (hb : b.category = 1) (k : ux_Wt X nL q lv (a :: b :: a :: b :: st) N L) : ux_Wt X nL pc lv (a :: b :: st) N L := by
  subst hq; exact fun H locs ls hP hS hl => lv_dup2_11 (cx_x C) (cx_b C) hd ha hb (k H locs ls hP hS hl)
theorem wt_if_eq (q tgt : Nat) {off : Int} {x : Int32} (C : ux_C X cc own nL ret fr lo sh) (hd : decode cc pc = .ok (.ifCond .eq off, 3)) (hq : pc + 3 = q) (ht : (pc : Int) + off = (tgt : Int)) (kt : x = 0 → ux_Wt X nL tgt lv st N L) (kf : ¬ x = 0 → ux_Wt X nL q lv st N L) : ux_Wt X nL pc lv (.int x :: st) N L := by
  subst hq; exact fun H locs ls hP hS hl => lv_if_eq (cx_x C) (cx_b C) hd ht (fun c => kt c H locs ls hP hS hl) (fun c => kf c H locs ls hP hS hl)
theorem wt_icmp_eq (q tgt : Nat) {off : Int} {x y : Int32} (C : ux_C X cc own nL ret fr lo sh) (hd : decode cc pc = .ok (.if_icmp .eq off, 3)) (hq : pc + 3 = q) (ht : (pc : Int) + off = (tgt : Int)) (kt : x = y → ux_Wt X nL tgt lv st N L) (kf : ¬ x = y → ux_Wt X nL q lv st N L) : ux_Wt X nL pc lv (.int y :: .int x :: st) N L := by
  subst hq; exact fun H locs ls hP hS hl => lv_icmp_eq (cx_x C) (cx_b C) hd ht (fun c => kt c H locs ls hP hS hl) (fun c => kf c H locs ls hP hS hl)
theorem wt_if_ne (q tgt : Nat) {off : Int} {x : Int32} (C : ux_C X cc own nL ret fr lo sh) (hd : decode cc pc = .ok (.ifCond .ne off, 3)) (hq : pc + 3 = q) (ht : (pc : Int) + off = (tgt : Int)) (kt : ¬ x = 0 → ux_Wt X nL tgt lv st N L) (kf : x = 0 → ux_Wt X nL q lv st N L) : ux_Wt X nL pc lv (.int x :: st) N L := by
  subst hq; exact fun H locs ls hP hS hl => lv_if_ne (cx_x C) (cx_b C) hd ht (fun c => kt c H locs ls hP hS hl) (fun c => kf c H locs ls hP hS hl)
theorem wt_icmp_ne (q tgt : Nat) {off : Int} {x y : Int32} (C : ux_C X cc own nL ret fr lo sh) (hd : decode cc pc = .ok (.if_icmp .ne off, 3)) (hq : pc + 3 = q) (ht : (pc : Int) + off = (tgt : Int)) (kt : ¬ x = y → ux_Wt X nL tgt lv st N L) (kf : x = y → ux_Wt X nL q lv st N L) : ux_Wt X nL pc lv (.int y :: .int x :: st) N L := by
  subst hq; exact fun H locs ls hP hS hl => lv_icmp_ne (cx_x C) (cx_b C) hd ht (fun c => kt c H locs ls hP hS hl) (fun c => kf c H locs ls hP hS hl)
theorem wt_if_lt (q tgt : Nat) {off : Int} {x : Int32} (C : ux_C X cc own nL ret fr lo sh) (hd : decode cc pc = .ok (.ifCond .lt off, 3)) (hq : pc + 3 = q) (ht : (pc : Int) + off = (tgt : Int)) (kt : x < 0 → ux_Wt X nL tgt lv st N L) (kf : ¬ x < 0 → ux_Wt X nL q lv st N L) : ux_Wt X nL pc lv (.int x :: st) N L := by
  subst hq; exact fun H locs ls hP hS hl => lv_if_lt (cx_x C) (cx_b C) hd ht (fun c => kt c H locs ls hP hS hl) (fun c => kf c H locs ls hP hS hl)
theorem wt_icmp_lt (q tgt : Nat) {off : Int} {x y : Int32} (C : ux_C X cc own nL ret fr lo sh) (hd : decode cc pc = .ok (.if_icmp .lt off, 3)) (hq : pc + 3 = q) (ht : (pc : Int) + off = (tgt : Int)) (kt : x < y → ux_Wt X nL tgt lv st N L) (kf : ¬ x < y → ux_Wt X nL q lv st N L) : ux_Wt X nL pc lv (.int y :: .int x :: st) N L := by
  subst hq; exact fun H locs ls hP hS hl => lv_icmp_lt (cx_x C) (cx_b C) hd ht (fun c => kt c H locs ls hP hS hl) (fun c => kf c H locs ls hP hS hl)
theorem wt_if_ge (q tgt : Nat) {off : Int} {x : Int32} (C : ux_C X cc own nL ret fr lo sh) (hd : decode cc pc = .ok (.ifCond .ge off, 3)) (hq : pc + 3 = q) (ht : (pc : Int) + off = (tgt : Int)) (kt : 0 ≤ x → ux_Wt X nL tgt lv st N L) (kf : ¬ 0 ≤ x → ux_Wt X nL q lv st N L) : ux_Wt X nL pc lv (.int x :: st) N L := by
  subst hq; exact fun H locs ls hP hS hl => lv_if_ge (cx_x C) (cx_b C) hd ht (fun c => kt c H locs ls hP hS hl) (fun c => kf c H locs ls hP hS hl)
theorem wt_icmp_ge (q tgt : Nat) {off : Int} {x y : Int32} (C : ux_C X cc own nL ret fr lo sh) (hd : decode cc pc = .ok (.if_icmp .ge off, 3)) (hq : pc + 3 = q) (ht : (pc : Int) + off = (tgt : Int)) (kt : y ≤ x → ux_Wt X nL tgt lv st N L) (kf : ¬ y ≤ x → ux_Wt X nL q lv st N L) : ux_Wt X nL pc lv (.int y :: .int x :: st) N L := by
  subst hq; exact fun H locs ls hP hS hl => lv_icmp_ge (cx_x C) (cx_b C) hd ht (fun c => kt c H locs ls hP hS hl) (fun c => kf c H locs ls hP hS hl)
theorem wt_if_gt (q tgt : Nat) {off : Int} {x : Int32} (C : ux_C X cc own nL ret fr lo sh) (hd : decode cc pc = .ok (.ifCond .gt off, 3)) (hq : pc + 3 = q) (ht : (pc : Int) + off = (tgt : Int)) (kt : 0 < x → ux_Wt X nL tgt lv st N L) (kf : ¬ 0 < x → ux_Wt X nL q lv st N L) : ux_Wt X nL pc lv (.int x :: st) N L := by
  subst hq; exact fun H locs ls hP hS hl => lv_if_gt (cx_x C) (cx_b C) hd ht (fun c => kt c H locs ls hP hS hl) (fun c => kf c H locs ls hP hS hl)
theorem wt_icmp_gt (q tgt : Nat) {off : Int} {x y : Int32} (C : ux_C X cc own nL ret fr lo sh) (hd : decode cc pc = .ok (.if_icmp .gt off, 3)) (hq : pc + 3 = q) (ht : (pc : Int) + off = (tgt : Int)) (kt : y < x → ux_Wt X nL tgt lv st N L) (kf : ¬ y < x → ux_Wt X nL q lv st N L) : ux_Wt X nL pc lv (.int y :: .int x :: st) N L := by
  subst hq; exact fun H locs ls hP hS hl => lv_icmp_gt (cx_x C) (cx_b C) hd ht (fun c => kt c H locs ls hP hS hl) (fun c => kf c H locs ls hP hS hl)
theorem wt_if_le (q tgt : Nat) {off : Int} {x : Int32} (C : ux_C X cc own nL ret fr lo sh) (hd : decode cc pc = .ok (.ifCond .le off, 3)) (hq : pc + 3 = q) (ht : (pc : Int) + off = (tgt : Int)) (kt : x ≤ 0 → ux_Wt X nL tgt lv st N L) (kf : ¬ x ≤ 0 → ux_Wt X nL q lv st N L) : ux_Wt X nL pc lv (.int x :: st) N L := by
  subst hq; exact fun H locs ls hP hS hl => lv_if_le (cx_x C) (cx_b C) hd ht (fun c => kt c H locs ls hP hS hl) (fun c => kf c H locs ls hP hS hl)
theorem wt_icmp_le (q tgt : Nat) {off : Int} {x y : Int32} (C : ux_C X cc own nL ret fr lo sh) (hd : decode cc pc = .ok (.if_icmp .le off, 3)) (hq : pc + 3 = q) (ht : (pc : Int) + off = (tgt : Int)) (kt : x ≤ y → ux_Wt X nL tgt lv st N L) (kf : ¬ x ≤ y → ux_Wt X nL q lv st N L) : ux_Wt X nL pc lv (.int y :: .int x :: st) N L := by
  subst hq; exact fun H locs ls hP hS hl => lv_icmp_le (cx_x C) (cx_b C) hd ht (fun c => kt c H locs ls hP hS hl) (fun c => kf c H locs ls hP hS hl)
theorem wt_goto (tgt : Nat) {off : Int} (C : ux_C X cc own nL ret fr lo sh) (hd : decode cc pc = .ok (.goto off, 3)) (ht : (pc : Int) + off = (tgt : Int)) (k : ux_Wt X nL tgt lv st N L) : ux_Wt X nL pc lv st N L :=
  fun H locs ls hP hS hl => lv_goto (cx_x C) (cx_b C) hd ht (k H locs ls hP hS hl)
theorem wt_tin (tgt : Nat) (v : Int32) {dflt a b off : Int} {offs : Array Int} {len : Nat} {x : Int32} (C : ux_C X cc own nL ret fr lo sh) (hd : decode cc pc = .ok (.tableswitch dflt a b offs, len)) (hx : x = v) (h1 : ¬ v.toInt < a) (h2 : ¬ b < v.toInt) (ho : offs[(v.toInt - a).toNat]? = some off) (ht : (pc : Int) + off = (tgt : Int)) (k : ux_Wt X nL tgt lv st N L) : ux_Wt X nL pc lv (.int x :: st) N L := by
  subst hx; exact fun H locs ls hP hS hl => lv_tableIn (cx_x C) (cx_b C) hd h1 h2 ho ht (k H locs ls hP hS hl)
theorem wt_tout (tgt : Nat) {dflt a b : Int} {offs : Array Int} {len : Nat} {x : Int32} (C : ux_C X cc own nL ret fr lo sh) (hd : decode cc pc = .ok (.tableswitch dflt a b offs, len)) (h : x.toInt < a ∨ b < x.toInt) (ht : (pc : Int) + dflt = (tgt : Int)) (k : ux_Wt X nL tgt lv st N L) : ux_Wt X nL pc lv (.int x :: st) N L :=
  fun H locs ls hP hS hl => lv_tableOut (cx_x C) (cx_b C) hd h ht (k H locs ls hP hS hl)
theorem wt_lsw (tgt : Nat) {dflt off : Int} {ps : Array (Int × Int)} {len : Nat} {x : Int32} (C : ux_C X cc own nL ret fr lo sh) (hd : decode cc pc = .ok (.lookupswitch dflt ps, len)) (hp : (ps.toList.zip (ps.toList.drop 1)).all (fun (a, next) => a.1 < next.1) = true) (ho : Op.lookupswitch.offset ps.toList dflt x.toInt = off) (ht : (pc : Int) + off = (tgt : Int)) (k : ux_Wt X nL tgt lv st N L) : ux_Wt X nL pc lv (.int x :: st) N L :=
  fun H locs ls hP hS hl => lv_lookup (cx_x C) (cx_b C) hd hp ho ht (k H locs ls hP hS hl)
theorem wt_getI (q : Nat) {ci k idx h n0 : Nat} {fks : List (Option Nat)} (C : ux_C X cc own nL ret fr lo sh) (hl : ux_FL own idx ci k) (hs : sh[h]? = some (0, ci, n0, fks)) (hk : fks[k]? = some none) (hd : decode cc pc = .ok (.getfield idx, 3)) (hq : pc + 3 = q) (kk : ux_Wt X nL q lv (.int (N h k) :: st) N L) : ux_Wt X nL pc lv (.ref (ux_ad X h) :: st) N L := by
  subst hq
  obtain ⟨CN, T, n, h1, h2, h3, h4⟩ := hl
  exact fun H locs ls hP hS hv => va_get (cx_x C) (cx_b C) (cx_t C) h2 (cx_o C) (cx_K C) hP h (ux_at (cx_s C hs)) h1 k h3 (cx_t C _ h4) (fun _ h9 => h9) (by show (fks.mapIdx _)[k]? = _; rw [List.getElem?_mapIdx, hk]; rfl) hd (kk H locs ls hP hS hv)
theorem wt_getR (q : Nat) {ci k idx h n0 j : Nat} {fks : List (Option Nat)} (C : ux_C X cc own nL ret fr lo sh) (hl : ux_FL own idx ci k) (hs : sh[h]? = some (0, ci, n0, fks)) (hk : fks[k]? = some (some j)) (hd : decode cc pc = .ok (.getfield idx, 3)) (hq : pc + 3 = q) (kk : ux_Wt X nL q lv (.ref (ux_ad X j) :: st) N L) : ux_Wt X nL pc lv (.ref (ux_ad X h) :: st) N L := by
  subst hq
  obtain ⟨CN, T, n, h1, h2, h3, h4⟩ := hl
  exact fun H locs ls hP hS hv => va_get (cx_x C) (cx_b C) (cx_t C) h2 (cx_o C) (cx_K C) hP h (ux_at (cx_s C hs)) h1 k h3 (cx_t C _ h4) (fun _ h9 => h9) (by show (fks.mapIdx _)[k]? = _; rw [List.getElem?_mapIdx, hk]; rfl) hd (kk H locs ls hP hS hv)
theorem wt_putI (q : Nat) {ci k idx h n0 : Nat} {ty : FieldType} {fks : List (Option Nat)} {v : Int32} (C : ux_C X cc own nL ret fr lo sh) (hl : ux_FP own idx ci k ty) (hs : sh[h]? = some (0, ci, n0, fks)) (hk : fks[k]? = some none) (hn : narrow ty (.int v) = .int v) (hf : fits ty (.int v) = true) (hd : decode cc pc = .ok (.putfield idx, 3)) (hq : pc + 3 = q) (kk : ux_Wt X nL q lv st (ux_u N h k v) L) : ux_Wt X nL pc lv (.int v :: .ref (ux_ad X h) :: st) N L := by
  subst hq
  obtain ⟨CN, T, n, h1, h2, h3, h4, ty0, h5, h6, h7, h8⟩ := hl
  refine fun H locs ls hP hS hv => va_put (cx_x C) (cx_b C) (cx_t C) h2 ty0 h5 h6 (cx_o C) (cx_K C) hP (ux_D (cx_ok C) N L) hS h (ux_at (cx_s C hs)) h1 k h3 (cx_t C _ h4) (fun _ h9 => h9) h7 h8 hn hf ?_ hd (fun H1 locs1 hP1 _ hS1 => kk H1 locs1 ls ?_ hS1 hv)
  · show k < (fks.mapIdx _).length
    rw [List.length_mapIdx]; exact (List.getElem?_eq_some_iff.mp hk).1
  · rw [← ux_set (N := N) (L := L) (N' := ux_u N h k v) (L' := L) (cx_s C hs) (e := .inr (ci, (fks.mapIdx (ux_v (gad (xG X)) (N h))).set k (.int v))) ?_ (fun j hj => if_neg hj) (fun j _ => rfl)]
    · exact hP1
    · rw [ux_fset hk]; show Sum.inr (ci, fks.mapIdx (ux_v _ (ux_u N h k v h))) = _; rw [ux_u, if_pos rfl]
theorem wt_iald (q j : Nat) {h n : Nat} {r : List (Option Nat)} {i : Int32} (C : ux_C X cc own nL ret fr lo sh) (hs : sh[h]? = some (1, 0, n, r)) (hj : i.toNatClampNeg = j) (hi : ux_in i n = true) (hd : decode cc pc = .ok (.iaload, 1)) (hq : pc + 1 = q) (kk : ux_Wt X nL q lv (.int (N h j) :: st) N L) : ux_Wt X nL pc lv (.int i :: .ref (ux_ad X h) :: st) N L := by
  subst hq; subst hj
  exact fun H locs ls hP hS hv => va_iald (cx_x C) (cx_b C) (cx_K C) hP h 0 (ux_at (cx_s C hs)) rfl (ux_in_p hi) hd (kk H locs ls hP hS hv)
theorem wt_iast (q j : Nat) {h n : Nat} {r : List (Option Nat)} {i x : Int32} (C : ux_C X cc own nL ret fr lo sh) (hs : sh[h]? = some (1, 0, n, r)) (hj : i.toNatClampNeg = j) (hi : ux_in i n = true) (hd : decode cc pc = .ok (.iastore, 1)) (hq : pc + 1 = q) (kk : ux_Wt X nL q lv st (ux_u N h j x) L) : ux_Wt X nL pc lv (.int x :: .int i :: .ref (ux_ad X h) :: st) N L := by
  subst hq; subst hj
  refine fun H locs ls hP hS hv => va_iast (cx_x C) (cx_b C) (cx_K C) hP (ux_D (cx_ok C) N L) hS h 0 (ux_at (cx_s C hs)) rfl (ux_in_p hi) hd (fun H1 locs1 hP1 _ hS1 => kk H1 locs1 ls ?_ hS1 hv)
  rw [← ux_set (N := N) (L := L) (N' := ux_u N h i.toNatClampNeg x) (L' := L) (cx_s C hs) (e := .inl (gcy (xG X) 0, n, .inl (upd (N h) i.toNatClampNeg x))) ?_ (fun j hj => if_neg hj) (fun j _ => rfl)]
  · exact hP1
  · show Sum.inl (gcy (xG X) 0, n, Sum.inl (ux_u N h i.toNatClampNeg x h)) = _; rw [ux_u, if_pos rfl]
theorem wt_zald (q j : Nat) {h n : Nat} {r : List (Option Nat)} {i : Int32} (C : ux_C X cc own nL ret fr lo sh) (hs : sh[h]? = some (1, 1, n, r)) (hj : i.toNatClampNeg = j) (hi : ux_in i n = true) (hd : decode cc pc = .ok (.baload, 1)) (hq : pc + 1 = q) (kk : ux_Wt X nL q lv (.int (N h j) :: st) N L) : ux_Wt X nL pc lv (.int i :: .ref (ux_ad X h) :: st) N L := by
  subst hq; subst hj
  exact fun H locs ls hP hS hv => va_zald (cx_x C) (cx_b C) (cx_K C) hP h 1 (ux_at (cx_s C hs)) rfl (ux_in_p hi) hd (kk H locs ls hP hS hv)
theorem wt_zast (q j : Nat) {h n : Nat} {r : List (Option Nat)} {i x : Int32} (C : ux_C X cc own nL ret fr lo sh) (hs : sh[h]? = some (1, 1, n, r)) (hj : i.toNatClampNeg = j) (hi : ux_in i n = true) (hd : decode cc pc = .ok (.bastore, 1)) (hq : pc + 1 = q) (kk : ux_Wt X nL q lv st (ux_u N h j (vp_nar .boolean x)) L) : ux_Wt X nL pc lv (.int x :: .int i :: .ref (ux_ad X h) :: st) N L := by
  subst hq; subst hj
  refine fun H locs ls hP hS hv => va_zast (cx_x C) (cx_b C) (cx_K C) hP (ux_D (cx_ok C) N L) hS h 1 (ux_at (cx_s C hs)) rfl (ux_in_p hi) hd (fun H1 locs1 hP1 _ hS1 => kk H1 locs1 ls ?_ hS1 hv)
  rw [← ux_set (N := N) (L := L) (N' := ux_u N h i.toNatClampNeg (vp_nar .boolean x)) (L' := L) (cx_s C hs) (e := .inl (gcy (xG X) 1, n, .inl (upd (N h) i.toNatClampNeg (vp_nar .boolean x)))) ?_ (fun j hj => if_neg hj) (fun j _ => rfl)]
  · exact hP1
  · show Sum.inl (gcy (xG X) 1, n, Sum.inl (ux_u N h i.toNatClampNeg (vp_nar .boolean x) h)) = _; rw [ux_u, if_pos rfl]
theorem wt_cald (q j : Nat) {h n : Nat} {r : List (Option Nat)} {i : Int32} (C : ux_C X cc own nL ret fr lo sh) (hs : sh[h]? = some (1, 2, n, r)) (hj : i.toNatClampNeg = j) (hi : ux_in i n = true) (hd : decode cc pc = .ok (.caload, 1)) (hq : pc + 1 = q) (kk : ux_Wt X nL q lv (.int (N h j) :: st) N L) : ux_Wt X nL pc lv (.int i :: .ref (ux_ad X h) :: st) N L := by
  subst hq; subst hj
  exact fun H locs ls hP hS hv => va_cald (cx_x C) (cx_b C) (cx_K C) hP h 2 (ux_at (cx_s C hs)) rfl (ux_in_p hi) hd (kk H locs ls hP hS hv)
theorem wt_cast (q j : Nat) {h n : Nat} {r : List (Option Nat)} {i x : Int32} (C : ux_C X cc own nL ret fr lo sh) (hs : sh[h]? = some (1, 2, n, r)) (hj : i.toNatClampNeg = j) (hi : ux_in i n = true) (hd : decode cc pc = .ok (.castore, 1)) (hq : pc + 1 = q) (kk : ux_Wt X nL q lv st (ux_u N h j (vp_nar .char x)) L) : ux_Wt X nL pc lv (.int x :: .int i :: .ref (ux_ad X h) :: st) N L := by
  subst hq; subst hj
  refine fun H locs ls hP hS hv => va_cast (cx_x C) (cx_b C) (cx_K C) hP (ux_D (cx_ok C) N L) hS h 2 (ux_at (cx_s C hs)) rfl (ux_in_p hi) hd (fun H1 locs1 hP1 _ hS1 => kk H1 locs1 ls ?_ hS1 hv)
  rw [← ux_set (N := N) (L := L) (N' := ux_u N h i.toNatClampNeg (vp_nar .char x)) (L' := L) (cx_s C hs) (e := .inl (gcy (xG X) 2, n, .inl (upd (N h) i.toNatClampNeg (vp_nar .char x)))) ?_ (fun j hj => if_neg hj) (fun j _ => rfl)]
  · exact hP1
  · show Sum.inl (gcy (xG X) 2, n, Sum.inl (ux_u N h i.toNatClampNeg (vp_nar .char x) h)) = _; rw [ux_u, if_pos rfl]
theorem wt_lald (q j : Nat) {h n : Nat} {r : List (Option Nat)} {i : Int32} (C : ux_C X cc own nL ret fr lo sh) (hs : sh[h]? = some (2, 3, n, r)) (hj : i.toNatClampNeg = j) (hi : ux_in i n = true) (hd : decode cc pc = .ok (.laload, 1)) (hq : pc + 1 = q) (kk : ux_Wt X nL q lv (.long (L h j) :: st) N L) : ux_Wt X nL pc lv (.int i :: .ref (ux_ad X h) :: st) N L := by
  subst hq; subst hj
  exact fun H locs ls hP hS hv => va_lald (cx_x C) (cx_b C) (cx_K C) hP h 3 (ux_at (cx_s C hs)) rfl (ux_in_p hi) hd (kk H locs ls hP hS hv)
theorem wt_last (q j : Nat) {h n : Nat} {r : List (Option Nat)} {i : Int32} {x : Int64} (C : ux_C X cc own nL ret fr lo sh) (hs : sh[h]? = some (2, 3, n, r)) (hj : i.toNatClampNeg = j) (hi : ux_in i n = true) (hd : decode cc pc = .ok (.lastore, 1)) (hq : pc + 1 = q) (kk : ux_Wt X nL q lv st N (ux_w L h j x)) : ux_Wt X nL pc lv (.long x :: .int i :: .ref (ux_ad X h) :: st) N L := by
  subst hq; subst hj
  refine fun H locs ls hP hS hv => va_last (cx_x C) (cx_b C) (cx_K C) hP (ux_D (cx_ok C) N L) hS h 3 (ux_at (cx_s C hs)) rfl (ux_in_p hi) hd (fun H1 locs1 hP1 _ hS1 => kk H1 locs1 ls ?_ hS1 hv)
  rw [← ux_set (N := N) (L := L) (N' := N) (L' := ux_w L h i.toNatClampNeg x) (cx_s C hs) (e := .inl (gcy (xG X) 3, n, .inr (.inl (vp_updL (L h) i.toNatClampNeg x)))) ?_ (fun j _ => rfl) (fun j hj => if_neg hj)]
  · exact hP1
  · show Sum.inl (gcy (xG X) 3, n, Sum.inr (Sum.inl (ux_w L h i.toNatClampNeg x h))) = _; rw [ux_w, if_pos rfl]
theorem wt_aald (q j b w : Nat) {h n t : Nat} {CN : String} {cs : List (Option Nat)} {i : Int32} (C : ux_C X cc own nL ret fr lo sh) (hs : sh[h]? = some (3, t, n, cs)) (ht : (ux_tys (xG X))[t]? = some (gcy (xG X) t, .object CN)) (hcs : ∀ j, j < n → cs.getD j none = some (b + w * j)) (hj : i.toNatClampNeg = j) (hi : ux_in i n = true) (hd : decode cc pc = .ok (.aaload, 1)) (hq : pc + 1 = q) (kk : ux_Wt X nL q lv (.ref (ux_ad X (b + w * j)) :: st) N L) : ux_Wt X nL pc lv (.int i :: .ref (ux_ad X h) :: st) N L := by
  subst hq; subst hj
  have hin := ux_in_p hi
  have hlt : i.toNatClampNeg < n := Nat.not_le.mp fun z => hin (Or.inr z)
  refine fun H locs ls hP hS hv => va_aldq (cx_x C) (cx_b C) (cx_K C) hP h t (ux_at (cx_s C hs)) ht hin hd ?_
  show ux_Wx X H locs (F0 (xm X) (pc + 1) ls (va_rf ((cs.getD i.toNatClampNeg none).map (gad (xG X))) :: st))
  rw [hcs _ hlt]
  exact kk H locs ls hP hS hv
theorem wt_alenI (q : Nat) {h n : Nat} {r : List (Option Nat)} {v : Int32} (C : ux_C X cc own nL ret fr lo sh) (hs : sh[h]? = some (1, 0, n, r)) (hv : Int32.ofNat n = v) (hd : decode cc pc = .ok (.arraylength, 1)) (hq : pc + 1 = q) (kk : ux_Wt X nL q lv (.int v :: st) N L) : ux_Wt X nL pc lv (.ref (ux_ad X h) :: st) N L := by
  subst hq
  exact fun H locs ls hP hS hl => va_alen (x := (n, .inl (N h))) (cx_x C) (cx_b C) (cx_K C) hP h 0 (ux_at (cx_s C hs)) rfl hv hd (kk H locs ls hP hS hl)
theorem wt_copyI (q sp' dp' n' : Nat) {idx h0 h1 n0 n1 : Nat} {r0 r1 : List (Option Nat)} {sp dp n : Int32} (C : ux_C X cc own nL ret fr lo sh) (hw : ux_LA own idx) (hs0 : sh[h0]? = some (1, 0, n0, r0)) (hs1 : sh[h1]? = some (1, 0, n1, r1)) (g1 : ¬ sp < 0) (g2 : ¬ dp < 0) (g3 : ¬ n < 0) (e1 : sp.toNatClampNeg = sp') (e2 : dp.toNatClampNeg = dp') (e3 : n.toNatClampNeg = n') (g4 : sp' + n' ≤ n0) (g5 : dp' + n' ≤ n1) (hfr : 1 ≤ fr) (hlo : (st.map fun v => v.category).sum + (nativeFrameWords "java/lang/System" "arraycopy" 5 + 11) ≤ lo) (hd : decode cc pc = .ok (.invokestatic idx, 3)) (hq : pc + 3 = q) (kk : ux_Wt X nL q lv st (ux_cpN N h0 h1 sp' dp' n') L) : ux_Wt X nL pc lv (.int n :: .int dp :: .ref (ux_ad X h1) :: .int sp :: .ref (ux_ad X h0) :: st) N L := by
  subst hq; subst e1; subst e2; subst e3
  obtain ⟨w1, w2, w3, w4⟩ := hw
  refine fun H locs ls hP hS hv => va_copyi (ty := .int) (cx_x C) (cx_b C) ((cx_m C).trans hv.1.symm) (cx_o C) (cx_t C _ w1) (cx_t C _ w2) (cx_t C _ w3) (cx_t C _ w4) (cx_K C) hP (ux_D (cx_ok C) N L) hS h0 h1 0 0 (ux_at (cx_s C hs0)) (ux_at (cx_s C hs1)) rfl rfl rfl g1 g2 g3 g4 g5 (fun _ _ => rfl) (Nat.le_trans hfr (cx_fr C)) (Nat.le_trans hlo (cx_lo C)) hd (fun H1 locs1 hP1 _ hS1 => kk H1 locs1 ls ?_ hS1 hv)
  rw [← ux_set (N := N) (L := L) (N' := ux_cpN N h0 h1 sp.toNatClampNeg dp.toNatClampNeg n.toNatClampNeg) (L' := L) (cx_s C hs1) (e := .inl (gcy (xG X) 0, n1, .inl (va_cpy (N h0) (N h1) sp.toNatClampNeg dp.toNatClampNeg n.toNatClampNeg))) ?_ (fun j hj => if_neg hj) (fun j _ => rfl)]
  · exact hP1
  · show Sum.inl (gcy (xG X) 0, n1, Sum.inl (ux_cpN N h0 h1 _ _ _ h1)) = _; rw [ux_cpN, if_pos rfl]
theorem wt_copyL (q sp' dp' n' : Nat) {idx h0 h1 n0 n1 : Nat} {r0 r1 : List (Option Nat)} {sp dp n : Int32} (C : ux_C X cc own nL ret fr lo sh) (hw : ux_LA own idx) (hs0 : sh[h0]? = some (2, 3, n0, r0)) (hs1 : sh[h1]? = some (2, 3, n1, r1)) (g1 : ¬ sp < 0) (g2 : ¬ dp < 0) (g3 : ¬ n < 0) (e1 : sp.toNatClampNeg = sp') (e2 : dp.toNatClampNeg = dp') (e3 : n.toNatClampNeg = n') (g4 : sp' + n' ≤ n0) (g5 : dp' + n' ≤ n1) (hfr : 1 ≤ fr) (hlo : (st.map fun v => v.category).sum + (nativeFrameWords "java/lang/System" "arraycopy" 5 + 11) ≤ lo) (hd : decode cc pc = .ok (.invokestatic idx, 3)) (hq : pc + 3 = q) (kk : ux_Wt X nL q lv st N (ux_cpL L h0 h1 sp' dp' n')) : ux_Wt X nL pc lv (.int n :: .int dp :: .ref (ux_ad X h1) :: .int sp :: .ref (ux_ad X h0) :: st) N L := by
  subst hq; subst e1; subst e2; subst e3
  obtain ⟨w1, w2, w3, w4⟩ := hw
  refine fun H locs ls hP hS hv => va_copyl (ty := .long) (cx_x C) (cx_b C) ((cx_m C).trans hv.1.symm) (cx_o C) (cx_t C _ w1) (cx_t C _ w2) (cx_t C _ w3) (cx_t C _ w4) (cx_K C) hP (ux_D (cx_ok C) N L) hS h0 h1 3 3 (ux_at (cx_s C hs0)) (ux_at (cx_s C hs1)) rfl rfl rfl g1 g2 g3 g4 g5 (fun _ _ => rfl) (Nat.le_trans hfr (cx_fr C)) (Nat.le_trans hlo (cx_lo C)) hd (fun H1 locs1 hP1 _ hS1 => kk H1 locs1 ls ?_ hS1 hv)
  rw [← ux_set (N := N) (L := L) (N' := N) (L' := ux_cpL L h0 h1 sp.toNatClampNeg dp.toNatClampNeg n.toNatClampNeg) (cx_s C hs1) (e := .inl (gcy (xG X) 3, n1, .inr (.inl (va_cpy (L h0) (L h1) sp.toNatClampNeg dp.toNatClampNeg n.toNatClampNeg)))) ?_ (fun j _ => rfl) (fun j hj => if_neg hj)]
  · exact hP1
  · show Sum.inl (gcy (xG X) 3, n1, Sum.inr (Sum.inl (ux_cpL L h0 h1 _ _ _ h1))) = _; rw [ux_cpL, if_pos rfl]
def ux_LM (own : String) (idx : Nat) (y : MethodName) (cb : ByteArray) : Prop := Cond.methodLink own idx y ∈ lw_gt ∧ Cond.static y ∈ lw_gt ∧ Cond.initialized "java/lang/Math" ∈ lw_gt ∧ Cond.code y cb 2 (some .int) ∈ lw_gt
theorem wt_mmax (q : Nat) {idx : Nat} {x y : Int32} (C : ux_C X cc own nL ret fr lo sh) (hw : ux_LM own idx Lib.Math.max.name Lib.Math.max.code) (hfr : 1 ≤ fr) (hlo : (st.map fun v => v.category).sum + 13 ≤ lo) (hd : decode cc pc = .ok (.invokestatic idx, 3)) (hq : pc + 3 = q) (kk : ux_Wt X nL q lv (.int (if x < y then y else x) :: st) N L) : ux_Wt X nL pc lv (.int y :: .int x :: st) N L := by
  subst hq
  exact fun H locs ls hP hS hv => va_mmax (cx_x C) (cx_b C) ((cx_m C).trans hv.1.symm) (cx_o C) (cx_t C _ hw.1) (cx_t C _ hw.2.1) (cx_t C _ hw.2.2.1) (cx_t C _ hw.2.2.2) (Nat.le_trans hfr (cx_fr C)) (Nat.le_trans hlo (cx_lo C)) (Nat.zero_le _) (Nat.zero_le _) hd (kk H locs ls hP hS hv)
theorem wt_mmin (q : Nat) {idx : Nat} {x y : Int32} (C : ux_C X cc own nL ret fr lo sh) (hw : ux_LM own idx Lib.Math.min.name Lib.Math.min.code) (hfr : 1 ≤ fr) (hlo : (st.map fun v => v.category).sum + 13 ≤ lo) (hd : decode cc pc = .ok (.invokestatic idx, 3)) (hq : pc + 3 = q) (kk : ux_Wt X nL q lv (.int (if y < x then y else x) :: st) N L) : ux_Wt X nL pc lv (.int y :: .int x :: st) N L := by
  subst hq
  exact fun H locs ls hP hS hv => va_mmin (cx_x C) (cx_b C) ((cx_m C).trans hv.1.symm) (cx_o C) (cx_t C _ hw.1) (cx_t C _ hw.2.1) (cx_t C _ hw.2.2.1) (cx_t C _ hw.2.2.2) (Nat.le_trans hfr (cx_fr C)) (Nat.le_trans hlo (cx_lo C)) (Nat.zero_le _) (Nat.zero_le _) hd (kk H locs ls hP hS hv)
/-! the static tables: table k lies at a fixed place -/
theorem wt_getsL (q : Nat) {idx : Nat} (C : ux_C X cc own nL ret fr lo sh) (hl : Cond.fieldLink own idx "MeterDesk$Family" "LACKING" "[J" ∈ lw_gt) (hd : decode cc pc = .ok (.getstatic idx, 3)) (hq : pc + 3 = q) (kk : ux_Wt X nL q lv (.ref ((xG X).2.2.2.2 0) :: st) N L) : ux_Wt X nL pc lv st N L := by
  subst hq
  exact fun H locs ls hP hS hv => va_gets (cx_x C) (cx_b C) (cx_Z C).1.1 hS (cx_o C) (cx_t C _ hl) (fun _ h9 => h9) hd (kk H locs ls hP hS hv)
theorem wt_getsS (q : Nat) {idx : Nat} (C : ux_C X cc own nL ret fr lo sh) (hl : Cond.fieldLink own idx "MeterDesk$Family" "SIZED" "[J" ∈ lw_gt) (hd : decode cc pc = .ok (.getstatic idx, 3)) (hq : pc + 3 = q) (kk : ux_Wt X nL q lv (.ref ((xG X).2.2.2.2 1) :: st) N L) : ux_Wt X nL pc lv st N L := by
  subst hq
  exact fun H locs ls hP hS hv => va_gets (cx_x C) (cx_b C) (cx_Z C).2.1.1 hS (cx_o C) (cx_t C _ hl) (fun _ h9 => h9) hd (kk H locs ls hP hS hv)
theorem wt_tldL (q j : Nat) {i : Int32} (C : ux_C X cc own nL ret fr lo sh) (hj : i.toNatClampNeg = j) (hi : ux_in i 6 = true) (hd : decode cc pc = .ok (.laload, 1)) (hq : pc + 1 = q) (kk : ux_Wt X nL q lv (.long (tb_lack.getD j 0) :: st) N L) : ux_Wt X nL pc lv (.int i :: .ref ((xG X).2.2.2.2 0) :: st) N L := by
  subst hq; subst hj
  exact fun H locs ls hP hS hv => va_tl (cx_x C) (cx_b C) (cx_Z C).1.2 hS (ux_in_p hi) rfl hd (kk H locs ls hP hS hv)
theorem wt_tldS (q j : Nat) {i : Int32} (C : ux_C X cc own nL ret fr lo sh) (hj : i.toNatClampNeg = j) (hi : ux_in i 7 = true) (hd : decode cc pc = .ok (.laload, 1)) (hq : pc + 1 = q) (kk : ux_Wt X nL q lv (.long (tb_sized.getD j 0) :: st) N L) : ux_Wt X nL pc lv (.int i :: .ref ((xG X).2.2.2.2 1) :: st) N L := by
  subst hq; subst hj
  exact fun H locs ls hP hS hv => va_tl (cx_x C) (cx_b C) (cx_Z C).2.1.2 hS (ux_in_p hi) rfl hd (kk H locs ls hP hS hv)
end UXC
/-! contracts: from the world N, L with the arguments As a method answers r and leaves the world N', L' -/
abbrev ux_rm (fr lo : Nat) : Room := { frames := fr, cells := 0, slots := 0, locals := lo }
def ux_Pre (G : ux_G) (As : List Value) (N : ux_N) (L : ux_L) : Array Value → State → Prop := va_Pc As (fun U => va_P G.2.1 vwCl (ux_wl G N L) U.heap ∧ va_K G.2.1 vwCl (ux_tys G) U ∧ ux_Z (ux_A G) G.2.2.2.2 U)
def ux_Qci (G : ux_G) (r : Int32) (N : ux_N) (L : ux_L) : Array Value → State → Outcome → State → Prop := va_Qi (fun (r' : Int32) (_ : Unit) => r' = r) (fun _ t => va_P G.2.1 vwCl (ux_wl G N L) t.heap) (ux_A G)
def ux_Qcv (G : ux_G) (N : ux_N) (L : ux_L) : Array Value → State → Outcome → State → Prop := va_Qv (fun (_ : Unit) => True) (fun _ t => va_P G.2.1 vwCl (ux_wl G N L) t.heap) (ux_A G)
def ux_Mi (l : Launch) (G : ux_G) (y : MethodName) (cc : ByteArray) (nL : Nat) (ret : Option FieldType) (fr lo : Nat) (As : List Value) (N : ux_N) (L : ux_L) (r : Int32) (N' : ux_N) (L' : ux_L) : Prop :=
  Met l y (.code y cc nL ret :: lw_gt) (ux_rm fr lo) (ux_Pre G As N L) (ux_Qci G r N' L') 0 0 (ux_A G)
def ux_Mv (l : Launch) (G : ux_G) (y : MethodName) (cc : ByteArray) (nL : Nat) (fr lo : Nat) (As : List Value) (N : ux_N) (L : ux_L) (N' : ux_N) (L' : ux_L) : Prop :=
  Met l y (.code y cc nL none :: lw_gt) (ux_rm fr lo) (ux_Pre G As N L) (ux_Qcv G N' L') 0 0 (ux_A G)
def ux_Qi (X : ux_X) (r : Int32) (N : ux_N) (L : ux_L) : Prop := xQ X = MQ (xb X) (ux_Qci (xG X) r N L) (xa X) (xs X) 0 0 (ux_A (xG X))
def ux_Qv (X : ux_X) (N : ux_N) (L : ux_L) : Prop := xQ X = MQ (xb X) (ux_Qcv (xG X) N L) (xa X) (xs X) 0 0 (ux_A (xG X))
theorem ux_Pre.blind {G : ux_G} {As : List Value} {N : ux_N} {L : ux_L} : FrameBlind (ux_Pre G As N L) := by
  intro a U g mk h
  obtain ⟨h0, h1, h2, h3⟩ := h
  exact ⟨h0, h1, va_K.moved (u := U) (U := U.calling g mk a) (Vm.Alike.refl U.vm) h2, ux_Z.same (u := U) rfl rfl h3⟩
theorem ux_ofi {l : Launch} {G : ux_G} {y : MethodName} {cc : ByteArray} {nL : Nat} {ret : Option FieldType} {fr lo : Nat} {As : List Value} {N N' : ux_N} {L L' : ux_L} {r : Int32} (sh : List ux_Sh) (hok : ux_ok G sh) (hy : plainName y.cls = true) (hn : (lg_sl As).length ≤ nL)
    (body : ∀ X : ux_X, xG X = G → xl X = l → ux_C X cc y.cls nL ret fr lo sh → ux_Qi X r N' L' → ux_Wt X nL 0 (lv_args 0 As) [] N L) : ux_Mi l G y cc nL ret fr lo As N L r N' L' := by
  refine Met.ofW (cc := cc) (maxL := nL) (ret := ret) hy rfl ?_
  intro p e s m args below meth c s₁ B hml hv
  obtain ⟨rfl, hP, hK, hZ⟩ := hv
  have hts := atoms_spec (ws := Cond.code y cc nL ret :: lw_gt) B.pre
  have K := body (p, l, e, (headSpec (Cond.code y cc nL ret :: lw_gt) (ux_rm fr lo)).room, s, m, As.toArray, below, meth, c, G, MQ below (ux_Qci G r N' L') As.toArray s 0 0 (ux_A G)) rfl rfl
    ⟨⟨B.exec, B.bytes⟩, B.returns, hml, findClass_of_methodNamed B.named, fun w hw => hts w (List.mem_cons_of_mem _ hw), B.notSynchronized, ⟨Nat.le_refl _, Nat.le_refl _⟩, hok, hK, hZ⟩ rfl
  rw [lg_entry_eq]
  exact K s.heap [] _ hP va_S.rf (lv_entry As hn)
theorem ux_ofv {l : Launch} {G : ux_G} {y : MethodName} {cc : ByteArray} {nL : Nat} {fr lo : Nat} {As : List Value} {N N' : ux_N} {L L' : ux_L} (sh : List ux_Sh) (hok : ux_ok G sh) (hy : plainName y.cls = true) (hn : (lg_sl As).length ≤ nL)
    (body : ∀ X : ux_X, xG X = G → xl X = l → ux_C X cc y.cls nL none fr lo sh → ux_Qv X N' L' → ux_Wt X nL 0 (lv_args 0 As) [] N L) : ux_Mv l G y cc nL fr lo As N L N' L' := by
  refine Met.ofW (cc := cc) (maxL := nL) (ret := none) hy rfl ?_
  intro p e s m args below meth c s₁ B hml hv
  obtain ⟨rfl, hP, hK, hZ⟩ := hv
  have hts := atoms_spec (ws := Cond.code y cc nL none :: lw_gt) B.pre
  have K := body (p, l, e, (headSpec (Cond.code y cc nL none :: lw_gt) (ux_rm fr lo)).room, s, m, As.toArray, below, meth, c, G, MQ below (ux_Qcv G N' L') As.toArray s 0 0 (ux_A G)) rfl rfl
    ⟨⟨B.exec, B.bytes⟩, B.returns, hml, findClass_of_methodNamed B.named, fun w hw => hts w (List.mem_cons_of_mem _ hw), B.notSynchronized, ⟨Nat.le_refl _, Nat.le_refl _⟩, hok, hK, hZ⟩ rfl
  rw [lg_entry_eq]
  exact K s.heap [] _ hP va_S.rf (lv_entry As hn)
/-- what a call of a method of an object, by entry idx of own's pool, needs of the tables -/
def ux_LV (own : String) (idx ci : Nat) (y : MethodName) (cc : ByteArray) (maxL : Nat) (ret : Option FieldType) (n : Nat) : Prop :=
  (∃ T k, vwCl[ci]? = some (y.cls, T, k)) ∧ Cond.methodLink own idx y ∈ lw_gt ∧ Cond.instanceMethod y ∈ lw_gt ∧ Cond.selects y.cls y y ∈ lw_gt ∧ Cond.initialized y.cls ∈ lw_gt ∧ Cond.code y cc maxL ret ∈ lw_gt ∧ (y.cls ≠ "java/lang/invoke/MethodHandle" ∧ y.cls ≠ "java/lang/invoke/VarHandle" ∧ (parseMethodDescriptor y.desc).map (fun d => d.parameters.length) = some n)
def ux_LS (own : String) (idx : Nat) (y : MethodName) (cc : ByteArray) (maxL : Nat) (ret : Option FieldType) (n : Nat) : Prop :=
  Cond.methodLink own idx y ∈ lw_gt ∧ Cond.static y ∈ lw_gt ∧ Cond.initialized y.cls ∈ lw_gt ∧ Cond.code y cc maxL ret ∈ lw_gt ∧ (y.cls ≠ "java/lang/invoke/MethodHandle" ∧ y.cls ≠ "java/lang/invoke/VarHandle" ∧ (parseMethodDescriptor y.desc).map (fun d => d.parameters.length) = some n)
def ux_LSN (own : String) (idx : Nat) (host : String) (y : MethodName) (cc : ByteArray) (maxL : Nat) (ret : Option FieldType) (n : Nat) : Prop :=
  (own, idx, y, host) ∈ tb_nest ∧ Cond.static y ∈ lw_gt ∧ Cond.initialized y.cls ∈ lw_gt ∧ Cond.code y cc maxL ret ∈ lw_gt ∧ (y.cls ≠ "java/lang/invoke/MethodHandle" ∧ y.cls ≠ "java/lang/invoke/VarHandle" ∧ (parseMethodDescriptor y.desc).map (fun d => d.parameters.length) = some n)
section UXK
variable {X : ux_X} {cc : ByteArray} {own : String} {nL : Nat} {ret : Option FieldType} {fr lo : Nat} {sh : List ux_Sh} {pc : Nat} {lv : List (Nat × Value)} {st rest As : List Value} {N N' : ux_N} {L L' : ux_L}
  {idx ci n h n0 maxL fr' lo' : Nat} {fks : List (Option Nat)} {y : MethodName} {cb : ByteArray} {rt : Option FieldType} {r : Int32}
theorem wt_pre {H : Heap} {locs : List Loc} (C : ux_C X cc own nL ret fr lo sh) (hP : va_P (xG X).2.1 vwCl (ux_wl (xG X) N L) H) (hS : va_S (ux_A (xG X)) (xs X).heap H locs) (U : State) (hU : U.heap = H) (hW : (xs X).WarmedH U.vm) : ux_Pre (xG X) As N L As.toArray U :=
  ⟨rfl, by rw [hU]; exact hP, va_K.moved hW.alike (cx_K C), ux_Z.call hW hS hU (cx_Z C)⟩
theorem wt_cb (C : ux_C X cc own nL ret fr lo sh) (m1 : Cond.methodLink own idx y ∈ lw_gt) (m4 : Cond.initialized y.cls ∈ lw_gt) (m5 : Cond.code y cb maxL rt ∈ lw_gt) (m6 : y.cls ≠ "java/lang/invoke/MethodHandle" ∧ y.cls ≠ "java/lang/invoke/VarHandle" ∧ (parseMethodDescriptor y.desc).map (fun d => d.parameters.length) = some n) (hR : fr' + 1 ≤ fr ∧ 8 + (maxL + 11) + lo' ≤ lo) : CallB (xR X) (xs X) (xa X) own idx y cb maxL rt (.code y cb maxL rt :: lw_gt) (ux_rm fr' lo') 0 0 n :=
  callB_of n (cx_t C) (gt_good m5) rfl rfl rfl (cx_t C _ m4) (cx_t C _ m1) m6 ⟨Nat.le_trans hR.1 (cx_fr C), Nat.le_trans hR.2 (cx_lo C)⟩
theorem wt_callVi (q : Nat) (rest : List Value) (C : ux_C X cc own nL ret fr lo sh) (kl : ux_LV own idx ci y cb maxL rt n) (hs : sh[h]? = some (0, ci, n0, fks)) (hM : ux_Mi (xl X) (xG X) y cb maxL rt fr' lo' (.ref (ux_ad X h) :: As) N L r N' L') (hn : As.length = n) (hst : st = As.reverse ++ .ref (ux_ad X h) :: rest) (hR : fr' + 1 ≤ fr ∧ 8 + (maxL + 11) + lo' ≤ lo) (hr : (rest.map fun v => v.category).sum ≤ 8) (hd : decode cc pc = .ok (.invokevirtual idx, 3)) (hq : pc + 3 = q) (kk : ux_Wt X nL q lv (.int r :: rest) N' L') : ux_Wt X nL pc lv st N L := by
  subst hq
  obtain ⟨⟨T, k, h1⟩, m1, m2, m3, m4, m5, m6⟩ := kl
  refine fun H locs ls hP hS hv => va_calli (va_runV (As := As) (rest := rest) ⟨cx_x C, cx_b C, cx_m C, cx_o C, cx_t C⟩ hM ⟨wt_cb C m1 m4 m5 m6 hR, cx_t C _ m2, cx_t C _ m3⟩ ⟨ux_Pre.blind, va_recv (cx_K C) hP h1 (ux_at (cx_s C hs)), fun U hU hW => wt_pre C hP hS U hU hW⟩ rfl hn hv.1 hst (lv_room hr) hd ⟨Nat.zero_le _, Nat.zero_le _⟩) hS (fun _ _ z => z) (fun _ z => z) (fun r' u t H1 locs1 ht hvm hw hB hz1 hk1 hS1 => ?_)
  cases hw
  exact kk H1 locs1 ls (by rw [← ht]; exact hB) hS1 hv
theorem wt_callVv (q : Nat) (rest : List Value) (C : ux_C X cc own nL ret fr lo sh) (kl : ux_LV own idx ci y cb maxL none n) (hs : sh[h]? = some (0, ci, n0, fks)) (hM : ux_Mv (xl X) (xG X) y cb maxL fr' lo' (.ref (ux_ad X h) :: As) N L N' L') (hn : As.length = n) (hst : st = As.reverse ++ .ref (ux_ad X h) :: rest) (hR : fr' + 1 ≤ fr ∧ 8 + (maxL + 11) + lo' ≤ lo) (hr : (rest.map fun v => v.category).sum ≤ 8) (hd : decode cc pc = .ok (.invokevirtual idx, 3)) (hq : pc + 3 = q) (kk : ux_Wt X nL q lv rest N' L') : ux_Wt X nL pc lv st N L := by
  subst hq
  obtain ⟨⟨T, k, h1⟩, m1, m2, m3, m4, m5, m6⟩ := kl
  refine fun H locs ls hP hS hv => va_callv (va_runV (As := As) (rest := rest) ⟨cx_x C, cx_b C, cx_m C, cx_o C, cx_t C⟩ hM ⟨wt_cb C m1 m4 m5 m6 hR, cx_t C _ m2, cx_t C _ m3⟩ ⟨ux_Pre.blind, va_recv (cx_K C) hP h1 (ux_at (cx_s C hs)), fun U hU hW => wt_pre C hP hS U hU hW⟩ rfl hn hv.1 hst (lv_room hr) hd ⟨Nat.zero_le _, Nat.zero_le _⟩) hS (fun _ _ z => z) (fun _ z => z) (fun u t H1 locs1 ht hvm hw hB hz1 hk1 hS1 => ?_)
  exact kk H1 locs1 ls (by rw [← ht]; exact hB) hS1 hv
theorem wt_callSi (q : Nat) (rest : List Value) (C : ux_C X cc own nL ret fr lo sh) (kl : ux_LS own idx y cb maxL rt n) (hM : ux_Mi (xl X) (xG X) y cb maxL rt fr' lo' As N L r N' L') (hn : As.length = n) (hst : st = As.reverse ++ rest) (hR : fr' + 1 ≤ fr ∧ 8 + (maxL + 11) + lo' ≤ lo) (hr : (rest.map fun v => v.category).sum ≤ 8) (hd : decode cc pc = .ok (.invokestatic idx, 3)) (hq : pc + 3 = q) (kk : ux_Wt X nL q lv (.int r :: rest) N' L') : ux_Wt X nL pc lv st N L := by
  subst hq
  obtain ⟨m1, m2, m4, m5, m6⟩ := kl
  refine fun H locs ls hP hS hv => va_calli (va_runS (As := As) (rest := rest) ⟨cx_x C, cx_b C, cx_m C, cx_o C, cx_t C⟩ hM ⟨wt_cb C m1 m4 m5 m6 hR, cx_t C _ m2⟩ ⟨ux_Pre.blind, fun U hU hW => wt_pre C hP hS U hU hW⟩ rfl hn hv.1 hst (lv_room hr) hd ⟨Nat.zero_le _, Nat.zero_le _⟩) hS (fun _ _ z => z) (fun _ z => z) (fun r' u t H1 locs1 ht hvm hw hB hz1 hk1 hS1 => ?_)
  cases hw
  exact kk H1 locs1 ls (by rw [← ht]; exact hB) hS1 hv
theorem wt_callSNi (q : Nat) (rest : List Value) {host : String} (C : ux_C X cc own nL ret fr lo sh) (kl : ux_LSN own idx host y cb maxL rt n) (hM : ux_Mi (xl X) (xG X) y cb maxL rt fr' lo' As N L r N' L') (hn : As.length = n) (hst : st = As.reverse ++ rest) (hR : fr' + 1 ≤ fr ∧ 8 + (maxL + 11) + lo' ≤ lo) (hr : (rest.map fun v => v.category).sum ≤ 8) (hd : decode cc pc = .ok (.invokestatic idx, 3)) (hq : pc + 3 = q) (kk : ux_Wt X nL q lv (.int r :: rest) N' L') : ux_Wt X nL pc lv st N L := by
  subst hq
  obtain ⟨m1, m2, m4, m5, m6⟩ := kl
  have hN : va_Nw (.methodLinkNest own idx y host) (xs X) := (cx_Z C).2.2.2.2.2 _ m1
  refine fun H locs ls hP hS hv => va_calli (va_runSN (As := As) (rest := rest) ⟨cx_x C, cx_b C, cx_m C, cx_o C, cx_t C⟩ hM ⟨va_cnB n (cx_t C) (gt_good m5) rfl rfl rfl hN (cx_t C _ m4) m6 ⟨Nat.le_trans hR.1 (cx_fr C), Nat.le_trans hR.2 (cx_lo C)⟩, cx_t C _ m2, trivial⟩ ⟨ux_Pre.blind, fun U hU hW => wt_pre C hP hS U hU hW⟩ rfl hn hv.1 hst (lv_room hr) hd ⟨Nat.zero_le _, Nat.zero_le _⟩) hS (fun _ _ z => z) (fun _ z => z) (fun r' u t H1 locs1 ht hvm hw hB hz1 hk1 hS1 => ?_)
  cases hw
  exact kk H1 locs1 ls (by rw [← ht]; exact hB) hS1 hv
theorem wt_iret {v : Int32} (C : ux_C X cc own nL (some .int) fr lo sh) (hq : ux_Qi X v N L) (hd : decode cc pc = .ok (.ireturn, 1)) : ux_Wt X nL pc lv [.int v] N L := by
  intro H locs ls hP hS hv
  show W _ _ _ _ _ _ _ _ _ _ _ _ _ _ (xQ X) _
  rw [hq]
  exact W.iret (cx_x C) (cx_b C) (cx_r C) (fun t ht hW => ⟨⟨v, (), rfl, rfl, by show va_P _ _ _ _; rw [ht]; exact hP⟩, hS.F ht⟩) hS.2.2 hd (cx_l C)
theorem wt_zret {v : Int32} {ty : FieldType} (C : ux_C X cc own nL (some ty) fr lo sh) (hn : narrow ty (.int v) = .int v) (hq : ux_Qi X v N L) (hd : decode cc pc = .ok (.ireturn, 1)) : ux_Wt X nL pc lv [.int v] N L := by
  intro H locs ls hP hS hv
  show W _ _ _ _ _ _ _ _ _ _ _ _ _ _ (xQ X) _
  rw [hq]
  exact W.zret (cx_x C) (cx_b C) (cx_r C) hn (fun t ht hW => ⟨⟨v, (), rfl, rfl, by show va_P _ _ _ _; rw [ht]; exact hP⟩, hS.F ht⟩) hS.2.2 hd (cx_l C)
theorem wt_vret (C : ux_C X cc own nL none fr lo sh) (hq : ux_Qv X N L) (hd : decode cc pc = .ok (.return_, 1)) : ux_Wt X nL pc lv [] N L := by
  intro H locs ls hP hS hv
  show W _ _ _ _ _ _ _ _ _ _ _ _ _ _ (xQ X) _
  rw [hq]
  exact W.vret (cx_x C) (cx_b C) (cx_r C) (fun t ht hW => ⟨⟨(), rfl, trivial, by show va_P _ _ _ _; rw [ht]; exact hP⟩, hS.F ht⟩) hS.2.2 hd (cx_l C)
end UXK
