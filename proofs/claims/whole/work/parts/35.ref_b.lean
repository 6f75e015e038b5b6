set_option maxRecDepth 100000 in
set_option maxHeartbeats 4000000 in
theorem c_X4_isMember (l : Launch) (hl : l.stackTraces = false) (Γ : Gm) (M : Hp) (a : Nat → Nat) (u : HV) (hR : MRep Γ a u M) (x : Int32) : Ct l Γ yX4_isMember cX4_isMember 2 (some .boolean) 1 0 0 [.ref (a 0), .int (x)] M (Rd (some (.int (bI (btw x 0 (u.2.1 1 0 - 1))))) M) := by
  refine Ct.of hl (by decide) (Nat.le_of_ble_eq_true rfl) rfl ?_
  intro κ e1 e2 hnL hRm X F hlt
  subst e1 e2
  refine g_iload_n X dX4_isMember_0 rfl 1 rfl ?_
  refine g_iconst (v := 0) X dX4_isMember_1 (by decide) ?_
  refine g_aload_n X dX4_isMember_2 rfl 0 rfl ?_
  refine g_get X dX4_isMember_3 (ci := 4) (k := 1) (v := .ref (a 1)) rfl k1090 (by decide) rfl (MRep.obj hR) rfl ?_
  refine g_iconst (v := 0) X dX4_isMember_6 (by decide) ?_
  refine g_iald (b := 0) X dX4_isMember_7 (MRep.row hR 1 (by decide) (by decide)) (by omega) (by decide) ?_
  refine g_iconst (v := 1) X dX4_isMember_8 (by decide) ?_
  refine g_isub X dX4_isMember_9 ?_
  refine g_callS_rd (As := [.int x, .int 0, .int ((u.2.1 1 0) - 1)]) (v := some (.int (bI (btw x 0 ((u.2.1 1 0) - 1))))) X dX4_isMember_10 (c_X4_isBetween κ.l hl κ.Γ M x 0 ((u.2.1 1 0) - 1)) k1161 k1162 k5 k1163 ⟨by decide, by decide, (show (parseMethodDescriptor yX4_isBetween.desc).map (fun d => d.parameters.length) = some 3 by decide +kernel)⟩ rfl (Nat.le_of_ble_eq_true rfl) (by rw [hRm]; decide) (by rw [hRm]; exact ⟨Nat.le_of_ble_eq_true rfl, Nat.le_of_ble_eq_true rfl⟩) ?_
  exact g_zret X F dX4_isMember_13 (by omega) (by omega) (bI_nar _) ⟨rfl, rfl⟩
set_option maxRecDepth 100000 in
set_option maxHeartbeats 4000000 in
theorem c_X4_isBill (l : Launch) (hl : l.stackTraces = false) (Γ : Gm) (M : Hp) (a : Nat → Nat) (u : HV) (hR : MRep Γ a u M) (x : Int32) : Ct l Γ yX4_isBill cX4_isBill 2 (some .boolean) 1 0 0 [.ref (a 0), .int (x)] M (Rd (some (.int (bI (btw x 0 (u.2.1 1 1 - 1))))) M) := by
  refine Ct.of hl (by decide) (Nat.le_of_ble_eq_true rfl) rfl ?_
  intro κ e1 e2 hnL hRm X F hlt
  subst e1 e2
  refine g_iload_n X dX4_isBill_0 rfl 1 rfl ?_
  refine g_iconst (v := 0) X dX4_isBill_1 (by decide) ?_
  refine g_aload_n X dX4_isBill_2 rfl 0 rfl ?_
  refine g_get X dX4_isBill_3 (ci := 4) (k := 1) (v := .ref (a 1)) rfl k1090 (by decide) rfl (MRep.obj hR) rfl ?_
  refine g_iconst (v := 1) X dX4_isBill_6 (by decide) ?_
  refine g_iald (b := 1) X dX4_isBill_7 (MRep.row hR 1 (by decide) (by decide)) (by omega) (by decide) ?_
  refine g_iconst (v := 1) X dX4_isBill_8 (by decide) ?_
  refine g_isub X dX4_isBill_9 ?_
  refine g_callS_rd (As := [.int x, .int 0, .int ((u.2.1 1 1) - 1)]) (v := some (.int (bI (btw x 0 ((u.2.1 1 1) - 1))))) X dX4_isBill_10 (c_X4_isBetween κ.l hl κ.Γ M x 0 ((u.2.1 1 1) - 1)) k1161 k1162 k5 k1163 ⟨by decide, by decide, (show (parseMethodDescriptor yX4_isBetween.desc).map (fun d => d.parameters.length) = some 3 by decide +kernel)⟩ rfl (Nat.le_of_ble_eq_true rfl) (by rw [hRm]; decide) (by rw [hRm]; exact ⟨Nat.le_of_ble_eq_true rfl, Nat.le_of_ble_eq_true rfl⟩) ?_
  exact g_zret X F dX4_isBill_13 (by omega) (by omega) (bI_nar _) ⟨rfl, rfl⟩
set_option maxRecDepth 100000 in
set_option maxHeartbeats 4000000 in
theorem c_X4_ofMember (l : Launch) (hl : l.stackTraces = false) (Γ : Gm) (M : Hp) (a : Nat → Nat) (u : HV) (hR : MRep Γ a u M) (m9 : Nat) (k9 : Nat) (hm : m9 < 24) (hk : k9 < 2) : Ct l Γ yX4_ofMember cX4_ofMember 3 (some .int) 0 0 0 [.ref (a 0), .int (nI m9), .int (nI k9)] M (Rd (some (.int (u.2.1 1 (5 + 2 * m9 + k9)))) M) := by
  refine Ct.of hl (by decide) (Nat.le_of_ble_eq_true rfl) rfl ?_
  intro κ e1 e2 hnL hRm X F hlt
  subst e1 e2
  refine g_aload_n X dX4_ofMember_0 rfl 0 rfl ?_
  refine g_get X dX4_ofMember_1 (ci := 4) (k := 1) (v := .ref (a 1)) rfl k1090 (by decide) rfl (MRep.obj hR) rfl ?_
  refine g_iconst (v := 5) X dX4_ofMember_4 (by decide) ?_
  refine g_iconst (v := 2) X dX4_ofMember_5 (by decide) ?_
  refine g_iload_n X dX4_ofMember_6 rfl 1 rfl ?_
  refine g_imul X dX4_ofMember_7 ?_
  refine g_lit (nI (2 * m9)) (nI_mulJ 2 m9) ?_
  refine g_iadd X dX4_ofMember_8 ?_
  refine g_lit (nI (5 + (2 * m9))) (nI_addJ 5 (2 * m9)) ?_
  refine g_iload_n X dX4_ofMember_9 rfl 2 rfl ?_
  refine g_iadd X dX4_ofMember_10 ?_
  refine g_lit (nI ((5 + (2 * m9)) + k9)) (nI_addJ (5 + (2 * m9)) k9) ?_
  refine g_iald (b := ((5 + (2 * m9)) + k9)) X dX4_ofMember_11 (MRep.row hR 1 (by decide) (by decide)) (by omega) (by decide) ?_
  exact g_iret X F dX4_ofMember_12 (by omega) (by omega) ⟨rfl, rfl⟩
set_option maxRecDepth 100000 in
set_option maxHeartbeats 4000000 in
theorem c_X4_of (l : Launch) (hl : l.stackTraces = false) (Γ : Gm) (M : Hp) (a : Nat → Nat) (u : HV) (hR : MRep Γ a u M) (b9 : Nat) (k9 : Nat) (hb : b9 < 8) (hk : k9 < 16) : Ct l Γ yX4_of cX4_of 3 (some .int) 0 0 0 [.ref (a 0), .int (nI b9), .int (nI k9)] M (Rd (some (.int (u.2.1 1 (53 + 16 * b9 + k9)))) M) := by
  refine Ct.of hl (by decide) (Nat.le_of_ble_eq_true rfl) rfl ?_
  intro κ e1 e2 hnL hRm X F hlt
  subst e1 e2
  refine g_aload_n X dX4_of_0 rfl 0 rfl ?_
  refine g_get X dX4_of_1 (ci := 4) (k := 1) (v := .ref (a 1)) rfl k1090 (by decide) rfl (MRep.obj hR) rfl ?_
  refine g_bipush (v := 53) X dX4_of_4 (by decide) ?_
  refine g_bipush (v := 16) X dX4_of_6 (by decide) ?_
  refine g_iload_n X dX4_of_8 rfl 1 rfl ?_
  refine g_imul X dX4_of_9 ?_
  refine g_lit (nI (16 * b9)) (nI_mulJ 16 b9) ?_
  refine g_iadd X dX4_of_10 ?_
  refine g_lit (nI (53 + (16 * b9))) (nI_addJ 53 (16 * b9)) ?_
  refine g_iload_n X dX4_of_11 rfl 2 rfl ?_
  refine g_iadd X dX4_of_12 ?_
  refine g_lit (nI ((53 + (16 * b9)) + k9)) (nI_addJ (53 + (16 * b9)) k9) ?_
  refine g_iald (b := ((53 + (16 * b9)) + k9)) X dX4_of_13 (MRep.row hR 1 (by decide) (by decide)) (by omega) (by decide) ?_
  exact g_iret X F dX4_of_14 (by omega) (by omega) ⟨rfl, rfl⟩
