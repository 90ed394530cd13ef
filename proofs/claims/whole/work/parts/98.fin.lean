/-! makers: from the new cells to the world of a shape -/
theorem ux_Z.narrow {A B : Nat → Prop} {sa : Nat → Nat} {U : State} (h : ux_Z A sa U) (hAB : ∀ q, B q → A q) : ux_Z B sa U := by
  obtain ⟨⟨a1, a2⟩, ⟨a3, a4⟩, ⟨a5, a6⟩, a7, a8, a9⟩ := h
  refine ⟨⟨a1.narrow hAB, a2.narrow hAB⟩, ⟨a3.narrow hAB, a4.narrow hAB⟩, ⟨a5.narrow hAB, ?_⟩, a7.narrow hAB, a8, a9⟩
  rcases a6 with a6 | ⟨t, a6⟩
  · exact Or.inl (a6.narrow hAB)
  · exact Or.inr ⟨t, a6.narrow hAB⟩
def mk_o (pos : Nat → Nat) (x : Option Nat) : Option (Option Nat) := x.map (fun j => some (pos j))
def mk_cv (pos : Nat → Nat) (q : ux_Sh) (f : Nat → Int32) (g : Nat → Int64) : mk_E := (q.1, q.2.1, q.2.2.1, q.2.2.2.map (mk_o pos), f, g)
theorem mk_cvE {cy : Nat → ClassId} {ad ad' pos : Nat → Nat} (h : ∀ j, ad' j = ad (pos j)) (q : ux_Sh) (f : Nat → Int32) (g : Nat → Int64) : mk_e cy ad (mk_cv pos q f g) = ux_E cy ad' f g q := by
  obtain ⟨k, ci, n, cs⟩ := q
  match k with
  | 0 =>
    show (Sum.inr (ci, (cs.map (mk_o pos)).mapIdx (mk_v ad f)) : va_E) = Sum.inr (ci, cs.mapIdx (ux_v ad' f))
    refine congrArg (fun z => (Sum.inr (ci, z) : va_E)) ?_
    apply List.ext_getElem?
    intro i
    rw [List.getElem?_mapIdx, List.getElem?_mapIdx, List.getElem?_map]
    cases cs[i]? with
    | none => rfl
    | some o => cases o with
      | none => rfl
      | some j => show some (Value.ref (ad (pos j))) = some (Value.ref (ad' j)); rw [h j]
  | 1 => rfl
  | 2 => rfl
  | k + 3 =>
    have e : mk_q ad (cs.map (mk_o pos)) = fun i => (cs.getD i none).map ad' := by
      funext i
      unfold mk_q
      rw [List.getD_eq_getElem?_getD, List.getD_eq_getElem?_getD, List.getElem?_map]
      cases cs[i]? with
      | none => rfl
      | some o => cases o with
        | none => rfl
        | some j => show some (ad (pos j)) = some (ad' j); rw [h j]
    show (Sum.inl (cy ci, n, Sum.inr (Sum.inr (Sum.inr (Sum.inr (mk_q ad (cs.map (mk_o pos))))))) : va_E) = Sum.inl (cy ci, n, Sum.inr (Sum.inr (Sum.inr (Sum.inr (fun i => (cs.getD i none).map ad')))))
    rw [e]
def mk_K (G : ux_G) (sh : List ux_Sh) (pos : Nat → Nat) : ux_G := (sh, G.2.1, G.2.2.1, (fun k => gad G (pos k)), G.2.2.2.2)
theorem mk_to {G : ux_G} {sh : List ux_Sh} {pos : Nat → Nat} {t : Nat} {V : Nat → mk_E} {N : ux_N} {L : ux_L} {H : Heap} (h4 : ∀ k q, sh[k]? = some q → pos k < t ∧ V (pos k) = mk_cv pos q (N k) (L k)) (hP : va_P G.2.1 vwCl (mk_wl G t V) H) : va_P G.2.1 vwCl (ux_wl (mk_K G sh pos) N L) H := by
  intro k x hx
  have hk := (ux_at_inv hx).1
  obtain ⟨q, hq⟩ : ∃ q, sh[k]? = some q := ⟨_, List.getElem?_eq_getElem hk⟩
  rw [ux_at (G := mk_K G sh pos) hq] at hx
  cases hx
  obtain ⟨g1, g2⟩ := h4 k q hq
  have this := hP (pos k) _ (mk_at g1)
  have e := mk_cvE (cy := gcy G) (ad := gad G) (ad' := fun k => gad G (pos k)) (pos := pos) (fun _ => rfl) q (N k) (L k)
  rw [g2, e] at this
  exact this
theorem mk_Kok {G : ux_G} {sh : List ux_Sh} {pos : Nat → Nat} (hg : mk_g G) (hp : ∀ i j, i < sh.length → j < sh.length → pos i = pos j → i = j) : ux_ok (mk_K G sh pos) sh := by
  refine ⟨rfl, fun i j h1 h2 e => hp i j h1 h2 ?_⟩
  have e' : gad G (pos i) = gad G (pos j) := e
  rw [hg (pos i), hg (pos j)] at e'
  omega
theorem mk_KA {G : ux_G} {sh : List ux_Sh} {pos : Nat → Nat} (hg : mk_g G) : ∀ q, ux_A (mk_K G sh pos) q → mk_A G q := by
  intro q hq
  obtain ⟨k, -, e⟩ := hq
  show gad G 0 ≤ q
  have e' : q = gad G (pos k) := e
  rw [e', hg (pos k)]
  omega
def mk_Qf (G K : ux_G) (N : ux_N) (L : ux_L) : Array Value → State → Outcome → State → Prop := va_Qv (fun (_ : Unit) => True) (fun _ u => va_P K.2.1 vwCl (ux_wl K N L) u.heap) (mk_A G)
def mk_MF (l : Launch) (G K : ux_G) (y : MethodName) (cc : ByteArray) (nL fr lo mc ms : Nat) (As : List Value) (t : Nat) (V : Nat → mk_E) (N : ux_N) (L : ux_L) : Prop :=
  Met l y (.code y cc nL none :: lw_gt) (mk_rm fr lo mc ms) (mk_Pre G As t V) (mk_Qf G K N L) mc ms (mk_A G)
def mk_QF (X : ux_X) (K : ux_G) (mc ms : Nat) (N : ux_N) (L : ux_L) : Prop := xQ X = MQ (xb X) (mk_Qf (xG X) K N L) (xa X) (xs X) mc ms (mk_A (xG X))
theorem mk_ofF {l : Launch} {G K : ux_G} {y : MethodName} {cc : ByteArray} {nL fr lo mc ms : Nat} {As : List Value} {t : Nat} {V : Nat → mk_E} {N : ux_N} {L : ux_L} (hg : mk_g G) (hy : plainName y.cls = true) (hy1 : y.name = "<init>") (hn : (lg_sl As).length ≤ nL)
    (body : ∀ X : ux_X, xG X = G → xl X = l → mk_C X cc y.cls nL fr lo mc ms → mk_QF X K mc ms N L → mk_Wt X nL 0 (lv_args 0 As) [] t V 0 0) : mk_MF l G K y cc nL fr lo mc ms As t V N L := by
  refine Met.ofW (cc := cc) (maxL := nL) (ret := none) hy rfl ?_
  intro p e s m args below meth c s₁ B hml hv
  obtain ⟨rfl, hz, hP, hK, hZ, hO⟩ := hv
  have hts := atoms_spec (ws := Cond.code y cc nL none :: lw_gt) B.pre
  have hnm : meth.name = "<init>" := (name_of_methodNamed B.named B.method).1.trans hy1
  have K := body (p, l, e, (headSpec (Cond.code y cc nL none :: lw_gt) (mk_rm fr lo mc ms)).room, s, m, As.toArray, below, meth, c, G, MQ below (mk_Qf G K N L) As.toArray s mc ms (mk_A G)) rfl rfl
    ⟨⟨B.exec, B.bytes⟩, B.returns, hml, findClass_of_methodNamed B.named, fun w hw => hts w (List.mem_cons_of_mem _ hw), ⟨B.notSynchronized, hnm⟩, ⟨Nat.le_refl _, Nat.le_refl _, Nat.le_refl _, Nat.le_refl _⟩, ⟨hg, (by rw [hz]; exact Nat.le_add_right _ _)⟩, hK, hZ, hO⟩ rfl
  rw [lg_entry_eq]
  exact K s.heap [] _ hz hP va_S.rf (lv_entry As hn)
def mk_Ut (X : ux_X) (K : ux_G) (nL pc : Nat) (lv : List (Nat × Value)) (st : List Value) (N : ux_N) (L : ux_L) (k n : Nat) : Prop :=
  ∀ (H : Heap) (locs : List Loc) (ls : Array Slot), va_P K.2.1 vwCl (ux_wl K N L) H → va_S (mk_A (xG X)) (xs X).heap H locs → lv_has ls nL lv → W (xp X) (xl X) (xe X) (xR X) (xs X) (xm X) (xa X) (xb X) (xme X) (xc X) H locs k n (xQ X) (F0 (xm X) pc ls st)
section MKU
variable {X : ux_X} {cc : ByteArray} {own : String} {nL fr lo mc ms : Nat} {pc : Nat} {lv : List (Nat × Value)} {st : List Value} {c n : Nat} {sh : List ux_Sh} {pos : Nat → Nat} {N N' : ux_N} {L L' : ux_L}
theorem mu_of {t : Nat} {V : Nat → mk_E} (h4 : ∀ k q, sh[k]? = some q → pos k < t ∧ V (pos k) = mk_cv pos q (N k) (L k)) (k : mk_Ut X (mk_K (xG X) sh pos) nL pc lv st N L c n) : mk_Wt X nL pc lv st t V c n := fun H locs ls _ hP hS hl => k H locs ls (mk_to (G := xG X) (sh := sh) (pos := pos) h4 hP) hS hl
theorem mu_iconst (q : Nat) {z : Int} (v : Int32) (C : mk_C X cc own nL fr lo mc ms) (hd : decode cc pc = .ok (.iconst z, 1)) (hq : pc + 1 = q) (hv : Int32.ofInt z = v) (k : mk_Ut X (mk_K (xG X) sh pos) nL q lv (.int v :: st) N L c n) : mk_Ut X (mk_K (xG X) sh pos) nL pc lv st N L c n := by
  subst hq; exact fun H locs ls hP hS hl => lv_iconst (mc_x C) (mc_b C) hd hv (k H locs ls hP hS hl)
theorem mu_aload_n (q j : Nat) {i : Fin 4} {x : Nat} (C : mk_C X cc own nL fr lo mc ms) (hd : decode cc pc = .ok (.aload_n i, 1)) (hq : pc + 1 = q) (hl : lv[j]? = some ((i : Nat), .ref x)) (k : mk_Ut X (mk_K (xG X) sh pos) nL q lv (.ref x :: st) N L c n) : mk_Ut X (mk_K (xG X) sh pos) nL pc lv st N L c n := by
  subst hq; exact fun H locs ls hP hS hv => lv_aload_n (mc_x C) (mc_b C) hd rfl (lv_at hv j hl) (k H locs ls hP hS hv)
theorem mu_getR (q : Nat) {ci k0 idx h j n0 : Nat} {fks : List (Option Nat)} (C : mk_C X cc own nL fr lo mc ms) (hl : ux_FL own idx ci k0) (hs : sh[h]? = some (0, ci, n0, fks)) (hk : fks[k0]? = some (some j)) (hd : decode cc pc = .ok (.getfield idx, 3)) (hq : pc + 3 = q) (k : mk_Ut X (mk_K (xG X) sh pos) nL q lv (.ref (gad (xG X) (pos j)) :: st) N L c n) : mk_Ut X (mk_K (xG X) sh pos) nL pc lv (.ref (gad (xG X) (pos h)) :: st) N L c n := by
  subst hq
  obtain ⟨CN, T, n0, h1, h2, h3, h4⟩ := hl
  refine fun H locs ls hP hS hv => va_get (mc_x C) (mc_b C) (mc_t C) h2 (mc_o C) (mc_K C) hP h (ux_at (G := mk_K (xG X) sh pos) hs) h1 k0 h3 (mc_t C _ h4) (fun _ h9 => h9) (by rw [List.getElem?_mapIdx, hk]; rfl) hd (k H locs ls hP hS hv)
theorem mu_pre {As : List Value} {H : Heap} {locs : List Loc} (C : mk_C X cc own nL fr lo mc ms) (hP : va_P (xG X).2.1 vwCl (ux_wl (mk_K (xG X) sh pos) N L) H) (hS : va_S (mk_A (xG X)) (xs X).heap H locs) (U : State) (hU : U.heap = H) (hW : (xs X).WarmedH U.vm) : ux_Pre (mk_K (xG X) sh pos) As N L As.toArray U :=
  ⟨rfl, (by rw [hU]; exact hP), va_K.moved hW.alike (mc_K C), ux_Z.narrow (ux_Z.call hW hS hU (mc_Z C)) (mk_KA (mc_g C).1)⟩
theorem mu_callVv (q : Nat) (rest As : List Value) {idx ci h n0 n1 maxL fr' lo' : Nat} {fks : List (Option Nat)} {y : MethodName} {cb : ByteArray} (C : mk_C X cc own nL fr lo mc ms) (kl : ux_LV own idx ci y cb maxL none n1) (hs : sh[h]? = some (0, ci, n0, fks)) (hM : ux_Mv (xl X) (mk_K (xG X) sh pos) y cb maxL fr' lo' (.ref (gad (xG X) (pos h)) :: As) N L N' L') (hn : As.length = n1) (hst : st = As.reverse ++ .ref (gad (xG X) (pos h)) :: rest) (hR : fr' + 1 ≤ fr ∧ 8 + (maxL + 11) + lo' ≤ lo) (hf : c ≤ mc ∧ n ≤ ms) (hr : (rest.map fun v => v.category).sum ≤ 8) (hd : decode cc pc = .ok (.invokevirtual idx, 3)) (hq : pc + 3 = q) (k : mk_Ut X (mk_K (xG X) sh pos) nL q lv rest N' L' c n) : mk_Ut X (mk_K (xG X) sh pos) nL pc lv st N L c n := by
  subst hq
  obtain ⟨⟨T, kk, h1⟩, m1, m2, m3, m4, m5, m6⟩ := kl
  have hRR : fr' + 1 ≤ (xR X).frames ∧ 8 + (maxL + 11) + lo' ≤ (xR X).locals := ⟨Nat.le_trans hR.1 (mc_R C).1, Nat.le_trans hR.2 (mc_R C).2.1⟩
  refine fun H locs ls hP hS hv => va_callv (va_runV (As := As) (rest := rest) ⟨mc_x C, mc_b C, mc_m C, mc_o C, mc_t C⟩ hM ⟨callB_of n1 (mc_t C) (gt_good m5) rfl rfl rfl (mc_t C _ m4) (mc_t C _ m1) m6 hRR, mc_t C _ m2, mc_t C _ m3⟩ ⟨ux_Pre.blind, va_recv (mc_K C) hP h1 (ux_at (G := mk_K (xG X) sh pos) hs), fun U hU hW => mu_pre C hP hS U hU hW⟩ rfl hn hv.1 hst (lv_room hr) hd ⟨Nat.le_trans hf.1 (mc_R C).2.2.1, Nat.le_trans hf.2 (mc_R C).2.2.2⟩) hS (fun q _ z => mk_KA (mc_g C).1 q z) (fun q z => mk_KA (mc_g C).1 q z) (fun u t H1 locs1 ht hvm hw hB hz1 hk1 hS1 => ?_)
  exact k H1 locs1 ls (by rw [← ht]; exact hB) hS1 hv
theorem mu_callVip (q q2 : Nat) (As : List Value) {idx ci h n0 n1 maxL fr' lo' : Nat} {fks : List (Option Nat)} {y : MethodName} {cb : ByteArray} {rt : Option FieldType} {r : Int32} (C : mk_C X cc own nL fr lo mc ms) (kl : ux_LV own idx ci y cb maxL rt n1) (hs : sh[h]? = some (0, ci, n0, fks)) (hM : ux_Mi (xl X) (mk_K (xG X) sh pos) y cb maxL rt fr' lo' (.ref (gad (xG X) (pos h)) :: As) N L r N' L') (hn : As.length = n1) (hst : st = As.reverse ++ [.ref (gad (xG X) (pos h))]) (hR : fr' + 1 ≤ fr ∧ 8 + (maxL + 11) + lo' ≤ lo) (hf : c ≤ mc ∧ n ≤ ms) (hd : decode cc pc = .ok (.invokevirtual idx, 3)) (hq : pc + 3 = q) (hd2 : decode cc q = .ok (.pop, 1)) (hq2 : q + 1 = q2) (k : mk_Ut X (mk_K (xG X) sh pos) nL q2 lv [] N' L' c n) : mk_Ut X (mk_K (xG X) sh pos) nL pc lv st N L c n := by
  subst hq; subst hq2
  obtain ⟨⟨T, kk, h1⟩, m1, m2, m3, m4, m5, m6⟩ := kl
  have hRR : fr' + 1 ≤ (xR X).frames ∧ 8 + (maxL + 11) + lo' ≤ (xR X).locals := ⟨Nat.le_trans hR.1 (mc_R C).1, Nat.le_trans hR.2 (mc_R C).2.1⟩
  refine fun H locs ls hP hS hv => va_calli (va_runV (As := As) (rest := []) ⟨mc_x C, mc_b C, mc_m C, mc_o C, mc_t C⟩ hM ⟨callB_of n1 (mc_t C) (gt_good m5) rfl rfl rfl (mc_t C _ m4) (mc_t C _ m1) m6 hRR, mc_t C _ m2, mc_t C _ m3⟩ ⟨ux_Pre.blind, va_recv (mc_K C) hP h1 (ux_at (G := mk_K (xG X) sh pos) hs), fun U hU hW => mu_pre C hP hS U hU hW⟩ rfl hn hv.1 hst (lv_room (show (0 : Nat) ≤ 8 by decide)) hd ⟨Nat.le_trans hf.1 (mc_R C).2.2.1, Nat.le_trans hf.2 (mc_R C).2.2.2⟩) hS (fun q _ z => mk_KA (mc_g C).1 q z) (fun q z => mk_KA (mc_g C).1 q z) (fun r' u t H1 locs1 ht hvm hw hB hz1 hk1 hS1 => ?_)
  exact lv_pop (mc_x C) (mc_b C) hd2 rfl (k H1 locs1 ls (by rw [← ht]; exact hB) hS1 hv)
theorem mu_ret (C : mk_C X cc own nL fr lo mc ms) (hq : mk_QF X (mk_K (xG X) sh pos) c n N L) (hd : decode cc pc = .ok (.return_, 1)) : mk_Ut X (mk_K (xG X) sh pos) nL pc lv [] N L c n := by
  intro H locs ls hP hS hv
  show W _ _ _ _ _ _ _ _ _ _ _ _ _ _ (xQ X) _
  rw [hq]
  exact W.vret (mc_x C) (mc_b C) (mc_r C) (fun u hu hW => ⟨⟨(), rfl, trivial, by show va_P _ _ _ _; rw [hu]; exact hP⟩, hS.F hu⟩) hS.2.2 hd (mc_l C).1
end MKU
