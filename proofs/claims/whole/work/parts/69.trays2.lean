section TRB
variable {Nc Nm : ux_N}
theorem tr_take (h : trA Nc Nm) (x y : Int32) : trQ Nc Nm (fX11_take x y Nc) (fX12_take x y Nm) := by
  rcases i32_cases x with hx | ⟨n, hn, rfl⟩
  · refine trQ_same h (-2) ?_ ?_
    · unfold fX11_take; rw [tc_isTrayN hx]; rfl
    · unfold fX12_take; rw [tm_isTrayN hx]; rfl
  · by_cases q : n < 3
    · rcases tk_cases y with ⟨k1, k2, k3⟩ | ⟨k1, k2, _⟩
      · have hC : fX11_take (nI n) y Nc = (fX9_pop (111 + 3 * n) y Nc).bind (fun o8 => some (o8.1, o8.2)) := by
          unfold fX11_take
          rw [tc_isTray hn, if_pos q, Option.bind_some, if_neg (by decide), k1, Option.bind_some, if_neg (by decide), pb_in q (by decide), if_pos rfl, nI_clamp (by omega)]
        rw [hC]
        rcases h n q with ⟨a, b, c⟩ | ⟨a, z, b, c, d, e⟩
        · refine trQ_same h (-11) ?_ ?_
          · unfold fX9_pop; rw [if_pos a]; rfl
          · unfold fX12_take
            rw [tm_isTray hn, if_pos q, Option.bind_some, if_neg (by decide), k2, Option.bind_some, if_neg (by decide), pb_in q (by decide), if_pos rfl, nI_clamp (by omega), c, if_neg (by decide), if_pos rfl, if_neg m1_ge0]
            rfl
        · by_cases z0 : z = 0
          · subst z0
            refine trQ_same h (-12) ?_ ?_
            · unfold fX9_pop; rw [a, if_neg (by decide), c, if_neg (by decide)]; rfl
            · unfold fX12_take
              rw [tm_isTray hn, if_pos q, Option.bind_some, if_neg (by decide), k2, Option.bind_some, if_neg (by decide), pb_in q (by decide), if_pos rfl, nI_clamp (by omega), d, if_neg (by decide), if_pos rfl, if_pos (ge0 (by decide))]
              rfl
          · obtain ⟨e1, e2, e3⟩ := e (z - 1) (by omega)
            have ix : (((8 : Int32) * nI n) + nI z) - (1 : Int32) = nI (8 * n + (z - 1)) := by
              rw [li_8, pk_mul, nI_add, li_1, pk_sub (by omega)]
              congr 1
              omega
            have iz : nI z - (1 : Int32) = nI (z - 1) := by rw [li_1, pk_sub (by omega)]
            have hM : fX12_take (nI n) y Nm = if Nm 9 (8 * n + (z - 1)) = y then (if y = (1 : Int32) then some (Nm 10 (8 * n + (z - 1)) + (50000 : Int32), ux_u Nm 8 n (nI (z - 1))) else some (Nm 10 (8 * n + (z - 1)), ux_u Nm 8 n (nI (z - 1)))) else some ((-13 : Int32), Nm) := by
              unfold fX12_take
              rw [tm_isTray hn, if_pos q, Option.bind_some, if_neg (by decide), k2, Option.bind_some, if_neg (by decide), pb_in q (by decide), if_pos rfl, nI_clamp (by omega), d, if_pos (show (1 : Int32) ≤ nI z from (nI_leI (a := 1) (by decide) (by omega)).mpr (by omega)), if_pos rfl, ix, pb_in (by omega) (by decide), if_pos rfl, nI_clamp (by omega), if_pos rfl, if_pos rfl, if_pos rfl, iz, uu_ne _ _ _ (by decide : (10 : Nat) ≠ 8)]
              rfl
            have hP : fX9_pop (111 + 3 * n) y Nc = if Nm 9 (8 * n + (z - 1)) = y then (if y = (1 : Int32) then some (Nm 10 (8 * n + (z - 1)) + (50000 : Int32), ux_u Nc (111 + 3 * n) 1 (nI (z - 1))) else some (Nm 10 (8 * n + (z - 1)), ux_u Nc (111 + 3 * n) 1 (nI (z - 1)))) else some ((-13 : Int32), Nc) := by
              unfold fX9_pop
              rw [a, if_neg (by decide), c, if_pos ((pb_0lt (by omega)).mpr (by omega)), iz, pb_in (by omega) (by decide), if_pos rfl, nI_clamp (by omega), e1]
              rw [show ux_u Nc (111 + 3 * n) 1 (nI (z - 1)) (111 + 3 * n) 1 = nI (z - 1) from by rw [uu_same, if_pos rfl], pb_in (by omega) (by decide), if_pos rfl, if_pos rfl, nI_clamp (by omega), uu_ne _ _ _ (by omega : 111 + 3 * n + 2 ≠ 111 + 3 * n), e2]
              rfl
            rw [hM, hP]
            have new : trA (ux_u Nc (111 + 3 * n) 1 (nI (z - 1))) (ux_u Nm 8 n (nI (z - 1))) := fun t ht => by
              by_cases et : t = n
              · subst et
                refine Or.inr ⟨?_, z - 1, by omega, ?_, ?_, fun k hk => ?_⟩
                · rw [uu_same, if_neg (by decide)]; exact a
                · rw [uu_same, if_pos rfl]
                · rw [uu_same, if_pos rfl]
                · rw [uu_ne _ _ _ (by omega), uu_ne _ _ _ (by omega), uu_ne _ _ _ (by omega), uu_ne _ _ _ (by omega)]
                  exact e k (by omega)
              · refine trI_fr (h t ht) (fun a h1 h2 => uu_ne _ _ _ (by omega)) ?_ (fun k hk => ?_) (fun k hk => ?_)
                · rw [uu_same, if_neg et]
                · rw [uu_ne _ _ _ (by decide)]
                · rw [uu_ne _ _ _ (by decide)]
            by_cases q1 : Nm 9 (8 * n + (z - 1)) = y
            · rw [if_pos q1, if_pos q1]
              by_cases q2 : y = (1 : Int32)
              · rw [if_pos q2, if_pos q2]
                exact ⟨_, _, _, rfl, rfl, new, fun a ha => uu_ne _ _ _ (by omega), fun a h8 _ _ => uu_ne _ _ _ h8⟩
              · rw [if_neg q2, if_neg q2]
                exact ⟨_, _, _, rfl, rfl, new, fun a ha => uu_ne _ _ _ (by omega), fun a h8 _ _ => uu_ne _ _ _ h8⟩
            · rw [if_neg q1, if_neg q1]
              exact trQ_same h (-13) rfl rfl
      · refine trQ_same h (-3) ?_ ?_
        · unfold fX11_take
          rw [tc_isTray hn, if_pos q, Option.bind_some, if_neg (by decide), k1, Option.bind_some, if_pos rfl]
        · unfold fX12_take
          rw [tm_isTray hn, if_pos q, Option.bind_some, if_neg (by decide), k2, Option.bind_some, if_pos rfl]
    · refine trQ_same h (-2) ?_ ?_
      · unfold fX11_take; rw [tc_isTray hn, if_neg q]; rfl
      · unfold fX12_take; rw [tm_isTray hn, if_neg q]; rfl
end TRB
