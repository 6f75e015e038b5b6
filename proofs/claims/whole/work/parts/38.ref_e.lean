def rWard (r : HV) (x : Int32) : Nat → Int32
  | 0 => 0
  | n + 1 => if (shr (r.2.1 1 2) (nI n) &&& 1 = 1) ∧ rM r n 0 = x then rWard r x n + rM r n 1 else rWard r x n + 0
def rCnt (r : HV) (x : Int32) : Nat → Int32
  | 0 => 0
  | n + 1 => if rB r n 0 = x then rCnt r x n + 1 else rCnt r x n + 0
set_option maxRecDepth 100000 in
set_option maxHeartbeats 4000000 in
theorem c_X4_inWard (l : Launch) (hl : l.stackTraces = false) (Γ : Gm) (M : Hp) (a : Nat → Nat) (u : HV) (hR : MRep Γ a u M) (x : Int32) (hi : RInv (u.2.1 1)) : Ct l Γ yX4_inWard cX4_inWard 4 (some .int) 1 0 0 [.ref (a 0), .int x] M (Rd (some (.int (rWard u x (cN (u.2.1 1 0))))) M) := by
  refine Ct.of hl (by decide) (Nat.le_of_ble_eq_true rfl) rfl ?_
  intro κ e1 e2 hnL hRm X F hlt
  subst e1 e2
  obtain ⟨B, hB24, eB⟩ := hi.1
  refine g_iconst (v := 0) X dX4_inWard_0 (by decide) ?_
  refine g_istore_n (L' := [(2, .int 0), (0, .ref (a 0)), (1, .int x)]) X dX4_inWard_1 rfl (by rw [hnL]; decide) rfl ?_
  refine g_iconst (v := 0) X dX4_inWard_2 (by decide) ?_
  refine g_istore_n (L' := [(3, .int 0), (2, .int 0), (0, .ref (a 0)), (1, .int x)]) X dX4_inWard_3 rfl (by rw [hnL]; decide) rfl ?_
  have lp : ∀ n i : Nat, B - i < n → i ≤ B → G κ M 0 0 [(2, .int (rWard u x i)), (3, .int (nI i)), (1, .int x), (0, .ref (a 0))] 4 [] := by
    intro n
    induction n with
    | zero => intro i h1 _; exact absurd h1 (Nat.not_lt_zero _)
    | succ n ih =>
      intro i hi1 hi2
      refine g_iload_n X dX4_inWard_4 rfl 1 rfl ?_
      refine g_aload_n X dX4_inWard_5 rfl 3 rfl ?_
      refine g_get X dX4_inWard_6 (ci := 4) (k := 1) (v := .ref (a 1)) rfl k1090 (by decide) rfl (MRep.obj hR) rfl ?_
      refine g_iconst (v := 0) X dX4_inWard_9 (by decide) ?_
      refine g_iald (b := 0) X dX4_inWard_10 (MRep.row hR 1 (by decide) (by decide)) (by omega) (by decide) ?_
      refine g_icmp_ge (tgt := 51) X dX4_inWard_11 (by decide) (fun c1 => ?_) (fun c1 => ?_)
      · have heq9 : i = B := eq_of_ge (N := B) ⟨eB.symm, by omega⟩ (by omega) c1
        subst heq9
        refine g_iload_n X dX4_inWard_51 rfl 0 rfl ?_
        exact g_iret X F dX4_inWard_52 (by omega) (by omega) ⟨by rw [eB, cN_nI (by omega)], rfl⟩
      · have hlt9 : i < B := lt_of_nge (N := B) ⟨eB.symm, by omega⟩ (by omega) c1
        refine g_iload_n X dX4_inWard_14 rfl 0 rfl ?_
        refine g_aload_n X dX4_inWard_15 rfl 3 rfl ?_
        refine g_iload_n X dX4_inWard_16 rfl 1 rfl ?_
        refine g_callV_rd (As := [.int (nI i)]) (ci := 4) (v := some (.int (bI (shr (u.2.1 1 2) (nI i) &&& 1 = 1)))) X dX4_inWard_17 (c_X4_present κ.l hl κ.Γ M a u hR (nI i)) k1187 k1189 kp19 k5 k1190 rfl (MRep.obj hR) ⟨rfl, by decide, by decide, (show (parseMethodDescriptor yX4_present.desc).map (fun d => d.parameters.length) = some 1 by decide +kernel)⟩ rfl (Nat.le_of_ble_eq_true rfl) (by rw [hRm]; decide) (by rw [hRm]; exact ⟨Nat.le_of_ble_eq_true rfl, Nat.le_of_ble_eq_true rfl⟩) ?_
        refine g_ifb_eq (tgt := 42) X dX4_inWard_20 (by decide) (fun c2 => ?_) (fun c2 => ?_)
        · refine g_iconst (v := 0) X dX4_inWard_42 (by decide) ?_
          refine g_iadd X dX4_inWard_43 ?_
          refine g_istore_n (L' := [(2, .int ((rWard u x i) + 0)), (3, .int (nI i)), (1, .int x), (0, .ref (a 0))]) X dX4_inWard_44 rfl (by rw [hnL]; decide) rfl ?_
          refine g_iinc (k := 1) (v := (nI (i + 1))) (L' := [(3, .int (nI (i + 1))), (2, .int ((rWard u x i) + 0)), (1, .int x), (0, .ref (a 0))]) X dX4_inWard_45 rfl (nI_1 _) (by rw [hnL]; decide) rfl ?_
          refine g_goto (tgt := 4) X dX4_inWard_48 (by decide) ?_
          refine g_locs [1, 0, 2, 3] (L' := [(2, .int (rWard u x (i + 1))), (3, .int (nI (i + 1))), (1, .int x), (0, .ref (a 0))]) (by rw [show rWard u x (i + 1) = (rWard u x i) + 0 from if_neg (fun z => c2 z.1)]; rfl) ?_
          exact ih (i + 1) (by omega) (by omega)
        · refine g_aload_n X dX4_inWard_23 rfl 3 rfl ?_
          refine g_iload_n X dX4_inWard_24 rfl 1 rfl ?_
          refine g_iconst (v := 0) X dX4_inWard_25 (by decide) ?_
          refine g_callV_rd (As := [.int (nI i), .int 0]) (ci := 4) (v := some (.int (u.2.1 1 (5 + 2 * i + 0)))) X dX4_inWard_26 (c_X4_ofMember κ.l hl κ.Γ M a u hR i 0 (by omega) (by omega)) k1208 k1210 kp20 k5 k1211 rfl (MRep.obj hR) ⟨rfl, by decide, by decide, (show (parseMethodDescriptor yX4_ofMember.desc).map (fun d => d.parameters.length) = some 2 by decide +kernel)⟩ rfl (Nat.le_of_ble_eq_true rfl) (by rw [hRm]; decide) (by rw [hRm]; exact ⟨Nat.le_of_ble_eq_true rfl, Nat.le_of_ble_eq_true rfl⟩) ?_
          refine g_iload_n X dX4_inWard_29 rfl 2 rfl ?_
          refine g_icmp_ne (tgt := 42) X dX4_inWard_30 (by decide) (fun c3 => ?_) (fun c3 => ?_)
          · refine g_iconst (v := 0) X dX4_inWard_42 (by decide) ?_
            refine g_iadd X dX4_inWard_43 ?_
            refine g_istore_n (L' := [(2, .int ((rWard u x i) + 0)), (3, .int (nI i)), (1, .int x), (0, .ref (a 0))]) X dX4_inWard_44 rfl (by rw [hnL]; decide) rfl ?_
            refine g_iinc (k := 1) (v := (nI (i + 1))) (L' := [(3, .int (nI (i + 1))), (2, .int ((rWard u x i) + 0)), (1, .int x), (0, .ref (a 0))]) X dX4_inWard_45 rfl (nI_1 _) (by rw [hnL]; decide) rfl ?_
            refine g_goto (tgt := 4) X dX4_inWard_48 (by decide) ?_
            refine g_locs [1, 0, 2, 3] (L' := [(2, .int (rWard u x (i + 1))), (3, .int (nI (i + 1))), (1, .int x), (0, .ref (a 0))]) (by rw [show rWard u x (i + 1) = (rWard u x i) + 0 from by first | exact if_pos ⟨c2, c3⟩ | exact if_neg (fun z => c3 z.2)]; rfl) ?_
            exact ih (i + 1) (by omega) (by omega)
          · refine g_aload_n X dX4_inWard_33 rfl 3 rfl ?_
            refine g_iload_n X dX4_inWard_34 rfl 1 rfl ?_
            refine g_iconst (v := 1) X dX4_inWard_35 (by decide) ?_
            refine g_callV_rd (As := [.int (nI i), .int 1]) (ci := 4) (v := some (.int (u.2.1 1 (5 + 2 * i + 1)))) X dX4_inWard_36 (c_X4_ofMember κ.l hl κ.Γ M a u hR i 1 (by omega) (by omega)) k1208 k1210 kp20 k5 k1211 rfl (MRep.obj hR) ⟨rfl, by decide, by decide, (show (parseMethodDescriptor yX4_ofMember.desc).map (fun d => d.parameters.length) = some 2 by decide +kernel)⟩ rfl (Nat.le_of_ble_eq_true rfl) (by rw [hRm]; decide) (by rw [hRm]; exact ⟨Nat.le_of_ble_eq_true rfl, Nat.le_of_ble_eq_true rfl⟩) ?_
            refine g_goto (tgt := 43) X dX4_inWard_39 (by decide) ?_
            refine g_iadd X dX4_inWard_43 ?_
            refine g_istore_n (L' := [(2, .int ((rWard u x i) + (u.2.1 1 (5 + 2 * i + 1)))), (3, .int (nI i)), (1, .int x), (0, .ref (a 0))]) X dX4_inWard_44 rfl (by rw [hnL]; decide) rfl ?_
            refine g_iinc (k := 1) (v := (nI (i + 1))) (L' := [(3, .int (nI (i + 1))), (2, .int ((rWard u x i) + (u.2.1 1 (5 + 2 * i + 1)))), (1, .int x), (0, .ref (a 0))]) X dX4_inWard_45 rfl (nI_1 _) (by rw [hnL]; decide) rfl ?_
            refine g_goto (tgt := 4) X dX4_inWard_48 (by decide) ?_
            refine g_locs [1, 0, 2, 3] (L' := [(2, .int (rWard u x (i + 1))), (3, .int (nI (i + 1))), (1, .int x), (0, .ref (a 0))]) (by rw [show rWard u x (i + 1) = (rWard u x i) + (u.2.1 1 (5 + 2 * i + 1)) from by first | exact if_pos ⟨c2, c3⟩ | exact if_neg (fun z => c3 z.2)]; rfl) ?_
            exact ih (i + 1) (by omega) (by omega)
  refine g_locs [1, 0, 3, 2] (L' := [(2, .int (rWard u x 0)), (3, .int (nI 0)), (1, .int x), (0, .ref (a 0))]) rfl ?_
  exact lp (B + 1) 0 (by omega) (by omega)
set_option maxRecDepth 100000 in
set_option maxHeartbeats 4000000 in
theorem c_X4_countState (l : Launch) (hl : l.stackTraces = false) (Γ : Gm) (M : Hp) (a : Nat → Nat) (u : HV) (hR : MRep Γ a u M) (x : Int32) (hi : RInv (u.2.1 1)) : Ct l Γ yX4_countState cX4_countState 4 (some .int) 1 0 0 [.ref (a 0), .int x] M (Rd (some (.int (rCnt u x (cN (u.2.1 1 1))))) M) := by
  refine Ct.of hl (by decide) (Nat.le_of_ble_eq_true rfl) rfl ?_
  intro κ e1 e2 hnL hRm X F hlt
  subst e1 e2
  obtain ⟨B, hB8, eB⟩ := hi.2.1
  refine g_iconst (v := 0) X dX4_countState_0 (by decide) ?_
  refine g_istore_n (L' := [(2, .int 0), (0, .ref (a 0)), (1, .int x)]) X dX4_countState_1 rfl (by rw [hnL]; decide) rfl ?_
  refine g_iconst (v := 0) X dX4_countState_2 (by decide) ?_
  refine g_istore_n (L' := [(3, .int 0), (2, .int 0), (0, .ref (a 0)), (1, .int x)]) X dX4_countState_3 rfl (by rw [hnL]; decide) rfl ?_
  have lp : ∀ n i : Nat, B - i < n → i ≤ B → G κ M 0 0 [(2, .int (rCnt u x i)), (3, .int (nI i)), (1, .int x), (0, .ref (a 0))] 4 [] := by
    intro n
    induction n with
    | zero => intro i h1 _; exact absurd h1 (Nat.not_lt_zero _)
    | succ n ih =>
      intro i hi1 hi2
      refine g_iload_n X dX4_countState_4 rfl 1 rfl ?_
      refine g_aload_n X dX4_countState_5 rfl 3 rfl ?_
      refine g_get X dX4_countState_6 (ci := 4) (k := 1) (v := .ref (a 1)) rfl k1090 (by decide) rfl (MRep.obj hR) rfl ?_
      refine g_iconst (v := 1) X dX4_countState_9 (by decide) ?_
      refine g_iald (b := 1) X dX4_countState_10 (MRep.row hR 1 (by decide) (by decide)) (by omega) (by decide) ?_
      refine g_icmp_ge (tgt := 38) X dX4_countState_11 (by decide) (fun c1 => ?_) (fun c1 => ?_)
      · have heq9 : i = B := eq_of_ge (N := B) ⟨eB.symm, by omega⟩ (by omega) c1
        subst heq9
        refine g_iload_n X dX4_countState_38 rfl 0 rfl ?_
        exact g_iret X F dX4_countState_39 (by omega) (by omega) ⟨by rw [eB, cN_nI (by omega)], rfl⟩
      · have hlt9 : i < B := lt_of_nge (N := B) ⟨eB.symm, by omega⟩ (by omega) c1
        refine g_iload_n X dX4_countState_14 rfl 0 rfl ?_
        refine g_aload_n X dX4_countState_15 rfl 3 rfl ?_
        refine g_iload_n X dX4_countState_16 rfl 1 rfl ?_
        refine g_iconst (v := 0) X dX4_countState_17 (by decide) ?_
        refine g_callV_rd (As := [.int (nI i), .int 0]) (ci := 4) (v := some (.int (u.2.1 1 (53 + 16 * i + 0)))) X dX4_countState_18 (c_X4_of κ.l hl κ.Γ M a u hR i 0 (by omega) (by omega)) k1263 k1265 kp25 k5 k1266 rfl (MRep.obj hR) ⟨rfl, by decide, by decide, (show (parseMethodDescriptor yX4_of.desc).map (fun d => d.parameters.length) = some 2 by decide +kernel)⟩ rfl (Nat.le_of_ble_eq_true rfl) (by rw [hRm]; decide) (by rw [hRm]; exact ⟨Nat.le_of_ble_eq_true rfl, Nat.le_of_ble_eq_true rfl⟩) ?_
        refine g_iload_n X dX4_countState_21 rfl 2 rfl ?_
        refine g_icmp_ne (tgt := 29) X dX4_countState_22 (by decide) (fun c2 => ?_) (fun c2 => ?_)
        · refine g_iconst (v := 0) X dX4_countState_29 (by decide) ?_
          refine g_iadd X dX4_countState_30 ?_
          refine g_istore_n (L' := [(2, .int ((rCnt u x i) + 0)), (3, .int (nI i)), (1, .int x), (0, .ref (a 0))]) X dX4_countState_31 rfl (by rw [hnL]; decide) rfl ?_
          refine g_iinc (k := 1) (v := (nI (i + 1))) (L' := [(3, .int (nI (i + 1))), (2, .int ((rCnt u x i) + 0)), (1, .int x), (0, .ref (a 0))]) X dX4_countState_32 rfl (nI_1 _) (by rw [hnL]; decide) rfl ?_
          refine g_goto (tgt := 4) X dX4_countState_35 (by decide) ?_
          refine g_locs [1, 0, 2, 3] (L' := [(2, .int (rCnt u x (i + 1))), (3, .int (nI (i + 1))), (1, .int x), (0, .ref (a 0))]) (by rw [show rCnt u x (i + 1) = (rCnt u x i) + 0 from by first | exact if_pos c2 | exact if_neg c2]; rfl) ?_
          exact ih (i + 1) (by omega) (by omega)
        · refine g_iconst (v := 1) X dX4_countState_25 (by decide) ?_
          refine g_goto (tgt := 30) X dX4_countState_26 (by decide) ?_
          refine g_iadd X dX4_countState_30 ?_
          refine g_istore_n (L' := [(2, .int ((rCnt u x i) + 1)), (3, .int (nI i)), (1, .int x), (0, .ref (a 0))]) X dX4_countState_31 rfl (by rw [hnL]; decide) rfl ?_
          refine g_iinc (k := 1) (v := (nI (i + 1))) (L' := [(3, .int (nI (i + 1))), (2, .int ((rCnt u x i) + 1)), (1, .int x), (0, .ref (a 0))]) X dX4_countState_32 rfl (nI_1 _) (by rw [hnL]; decide) rfl ?_
          refine g_goto (tgt := 4) X dX4_countState_35 (by decide) ?_
          refine g_locs [1, 0, 2, 3] (L' := [(2, .int (rCnt u x (i + 1))), (3, .int (nI (i + 1))), (1, .int x), (0, .ref (a 0))]) (by rw [show rCnt u x (i + 1) = (rCnt u x i) + 1 from by first | exact if_pos c2 | exact if_neg c2]; rfl) ?_
          exact ih (i + 1) (by omega) (by omega)
  refine g_locs [1, 0, 3, 2] (L' := [(2, .int (rCnt u x 0)), (3, .int (nI 0)), (1, .int x), (0, .ref (a 0))]) rfl ?_
  exact lp (B + 1) 0 (by omega) (by omega)
