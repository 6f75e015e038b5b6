set_option maxRecDepth 100000 in
set_option maxHeartbeats 4000000 in
theorem c_X4_weigh (l : Launch) (hl : l.stackTraces = false) (Γ : Gm) (M : Hp) (a : Nat → Nat) (u : HV) (hR : MRep Γ a u M) (x : Int32) (hi : RInv (u.2.1 1)) : Ct l Γ yX4_weigh cX4_weigh 4 (some .int) 1 0 0 [.ref (a 0), .int x] M (Rd (some (.int (rSum u x (cN (u.2.1 1 0))))) M) := by
  refine Ct.of hl (by decide) (Nat.le_of_ble_eq_true rfl) rfl ?_
  intro κ e1 e2 hnL hRm X F hlt
  subst e1 e2
  obtain ⟨B, hB24, eB⟩ := hi.1
  refine g_iconst (v := 0) X dX4_weigh_0 (by decide) ?_
  refine g_istore_n (L' := [(2, .int 0), (0, .ref (a 0)), (1, .int x)]) X dX4_weigh_1 rfl (by rw [hnL]; decide) rfl ?_
  refine g_iconst (v := 0) X dX4_weigh_2 (by decide) ?_
  refine g_istore_n (L' := [(3, .int 0), (2, .int 0), (0, .ref (a 0)), (1, .int x)]) X dX4_weigh_3 rfl (by rw [hnL]; decide) rfl ?_
  have lp : ∀ n i : Nat, B - i < n → i ≤ B → G κ M 0 0 [(2, .int (rSum u x i)), (3, .int (nI i)), (1, .int x), (0, .ref (a 0))] 4 [] := by
    intro n
    induction n with
    | zero => intro i h1 _; exact absurd h1 (Nat.not_lt_zero _)
    | succ n ih =>
      intro i hi1 hi2
      refine g_iload_n X dX4_weigh_4 rfl 1 rfl ?_
      refine g_aload_n X dX4_weigh_5 rfl 3 rfl ?_
      refine g_get X dX4_weigh_6 (ci := 4) (k := 1) (v := .ref (a 1)) rfl k1090 (by decide) rfl (MRep.obj hR) rfl ?_
      refine g_iconst (v := 0) X dX4_weigh_9 (by decide) ?_
      refine g_iald (b := 0) X dX4_weigh_10 (MRep.row hR 1 (by decide) (by decide)) (by omega) (by decide) ?_
      refine g_icmp_ge (tgt := 42) X dX4_weigh_11 (by decide) (fun c1 => ?_) (fun c1 => ?_)
      · have heq9 : i = B := eq_of_ge (N := B) ⟨eB.symm, by omega⟩ (by omega) c1
        subst heq9
        refine g_iload_n X dX4_weigh_42 rfl 0 rfl ?_
        exact g_iret X F dX4_weigh_43 (by omega) (by omega) ⟨by rw [eB, cN_nI (by omega)], rfl⟩
      · have hlt9 : i < B := lt_of_nge (N := B) ⟨eB.symm, by omega⟩ (by omega) c1
        refine g_iload_n X dX4_weigh_14 rfl 0 rfl ?_
        refine g_iload_n X dX4_weigh_15 rfl 2 rfl ?_
        refine g_iload_n X dX4_weigh_16 rfl 1 rfl ?_
        refine g_ishr X dX4_weigh_17 ?_
        refine g_iconst (v := 1) X dX4_weigh_18 (by decide) ?_
        refine g_iand X dX4_weigh_19 ?_
        refine g_iconst (v := 1) X dX4_weigh_20 (by decide) ?_
        refine g_icmp_ne (tgt := 33) X dX4_weigh_21 (by decide) (fun c2 => ?_) (fun c2 => ?_)
        · refine g_iconst (v := 0) X dX4_weigh_33 (by decide) ?_
          refine g_iadd X dX4_weigh_34 ?_
          refine g_istore_n (L' := [(2, .int ((rSum u x i) + 0)), (3, .int (nI i)), (1, .int x), (0, .ref (a 0))]) X dX4_weigh_35 rfl (by rw [hnL]; decide) rfl ?_
          refine g_iinc (k := 1) (v := (nI (i + 1))) (L' := [(3, .int (nI (i + 1))), (2, .int ((rSum u x i) + 0)), (1, .int x), (0, .ref (a 0))]) X dX4_weigh_36 rfl (nI_1 _) (by rw [hnL]; decide) rfl ?_
          refine g_goto (tgt := 4) X dX4_weigh_39 (by decide) ?_
          refine g_locs [1, 0, 2, 3] (L' := [(2, .int (rSum u x (i + 1))), (3, .int (nI (i + 1))), (1, .int x), (0, .ref (a 0))]) (by rw [show rSum u x (i + 1) = (rSum u x i) + 0 from by first | exact if_pos c2 | exact if_neg c2]; rfl) ?_
          exact ih (i + 1) (by omega) (by omega)
        · refine g_aload_n X dX4_weigh_24 rfl 3 rfl ?_
          refine g_iload_n X dX4_weigh_25 rfl 1 rfl ?_
          refine g_iconst (v := 1) X dX4_weigh_26 (by decide) ?_
          refine g_callV_rd (As := [.int (nI i), .int 1]) (ci := 4) (v := some (.int (u.2.1 1 (5 + 2 * i + 1)))) X dX4_weigh_27 (c_X4_ofMember κ.l hl κ.Γ M a u hR i 1 (by omega) (by omega)) k1208 k1210 kp20 k5 k1211 rfl (MRep.obj hR) ⟨rfl, by decide, by decide, (show (parseMethodDescriptor yX4_ofMember.desc).map (fun d => d.parameters.length) = some 2 by decide +kernel)⟩ rfl (Nat.le_of_ble_eq_true rfl) (by rw [hRm]; decide) (by rw [hRm]; exact ⟨Nat.le_of_ble_eq_true rfl, Nat.le_of_ble_eq_true rfl⟩) ?_
          refine g_goto (tgt := 34) X dX4_weigh_30 (by decide) ?_
          refine g_iadd X dX4_weigh_34 ?_
          refine g_istore_n (L' := [(2, .int ((rSum u x i) + (u.2.1 1 (5 + 2 * i + 1)))), (3, .int (nI i)), (1, .int x), (0, .ref (a 0))]) X dX4_weigh_35 rfl (by rw [hnL]; decide) rfl ?_
          refine g_iinc (k := 1) (v := (nI (i + 1))) (L' := [(3, .int (nI (i + 1))), (2, .int ((rSum u x i) + (u.2.1 1 (5 + 2 * i + 1)))), (1, .int x), (0, .ref (a 0))]) X dX4_weigh_36 rfl (nI_1 _) (by rw [hnL]; decide) rfl ?_
          refine g_goto (tgt := 4) X dX4_weigh_39 (by decide) ?_
          refine g_locs [1, 0, 2, 3] (L' := [(2, .int (rSum u x (i + 1))), (3, .int (nI (i + 1))), (1, .int x), (0, .ref (a 0))]) (by rw [show rSum u x (i + 1) = (rSum u x i) + (u.2.1 1 (5 + 2 * i + 1)) from by first | exact if_pos c2 | exact if_neg c2]; rfl) ?_
          exact ih (i + 1) (by omega) (by omega)
  refine g_locs [1, 0, 3, 2] (L' := [(2, .int (rSum u x 0)), (3, .int (nI 0)), (1, .int x), (0, .ref (a 0))]) rfl ?_
  exact lp (B + 1) 0 (by omega) (by omega)
