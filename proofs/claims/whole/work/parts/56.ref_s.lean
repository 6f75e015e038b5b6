def mUnd (u : HV) : HV := cpR (hsc (u0 u) 1 (u.1 1 - 1)) (5 + cN (u.1 1 - 1)) 1
noncomputable def mUndo (u : HV) : Res × HV := mG (u.1 1 = 0) 1 zI u (rI (u.1 1 - 1), mUnd u)
set_option maxRecDepth 100000 in
set_option maxHeartbeats 4000000 in
theorem c_X4_undo (l : Launch) (hl : l.stackTraces = false) (Γ : Gm) (M : Hp) (a : Nat → Nat) (u : HV) (hR : MRep Γ a u M) (hk : KInv u) : Ct l Γ yX4_undo cX4_undo 1 (some .int) 1 0 0 [.ref (a 0)] M (MMu Γ a (mUndo u) M) := by
  refine Ct.of hl (by decide) (Nat.le_of_ble_eq_true rfl) rfl ?_
  intro κ e1 e2 hnL hRm X F hlt
  subst e1 e2
  refine g_aload_n X dX4_undo_0 rfl 0 rfl ?_
  refine g_iconst (v := 1) X dX4_undo_1 (by decide) ?_
  refine g_aload_n X dX4_undo_2 rfl 0 rfl ?_
  refine g_get X dX4_undo_3 (ci := 4) (k := 5) (v := .int (u.1 1)) rfl k1094 (by decide) rfl (MRep.obj hR) rfl ?_
  refine g_if_ne (tgt := 13) X dX4_undo_6 (by decide) (fun c1 => ?_) (fun c1 => ?_)
  · refine g_iconst (v := 0) X dX4_undo_13 (by decide) ?_
    refine g_callV (As := [.int 1, .int 0]) (ci := 4) X dX4_undo_14 (c_X4_fails0 κ.l hl κ.Γ M a u hR 1) k1164 k1166 kp15 k5 k1167 rfl (MRep.obj hR) ⟨rfl, by decide, by decide, (show (parseMethodDescriptor yX4_fails.desc).map (fun d => d.parameters.length) = some 2 by decide +kernel)⟩ rfl (Nat.le_of_ble_eq_true rfl) (by rw [hRm]; decide) (by rw [hRm]; exact ⟨Nat.le_of_ble_eq_true rfl, Nat.le_of_ble_eq_true rfl⟩) (fun v2 M2 h2 => ?_) (fun _ _ h9 => by cases h9.1)
    obtain ⟨e2, hR2, hF2⟩ := h2
    have e2 : (Sum.inl v2 : Res) = rI 0 := e2
    cases e2
    refine g_if_eq (tgt := 22) X dX4_undo_17 (by decide) (fun c3 => ?_) (fun c3 => absurd c3 (by decide))
    obtain ⟨K, hK8, eK⟩ := hk
    have hK0 : ¬ K = 0 := fun z => c1 (by show u.1 1 = 0; rw [eK, z]; rfl)
    obtain ⟨Q, rfl⟩ : ∃ Q, K = Q + 1 := ⟨K - 1, by omega⟩
    refine g_aload_n X dX4_undo_22 rfl 0 rfl ?_
    refine g_dup X dX4_undo_23 rfl ?_
    refine g_get X dX4_undo_24 (ci := 4) (k := 5) (v := .int (u.1 1)) rfl k1094 (by decide) rfl (MRep.obj hR2) rfl ?_
    refine g_iconst (v := 1) X dX4_undo_27 (by decide) ?_
    refine g_isub X dX4_undo_28 ?_
    refine g_lit (nI Q) (by show u.1 1 - 1 = _; rw [eK, nI_pred]) ?_
    refine g_put X dX4_undo_29 (ci := 4) (k := 5) (ty := .int) rfl k1094 (by decide) rfl rfl (by decide +kernel) rfl rfl (Nat.le_of_ble_eq_true rfl) (MRep.obj hR2) ?_
    refine g_gen (P := fun M9 => MRep κ.Γ a (hsc (hsc u 0 0) 1 (nI Q)) M9 ∧ Fr a 15 M M9) ⟨MRep.sc hR2 1 _ rfl, Fr.tr hF2 (Fr.up (by decide))⟩ (fun M4 ⟨hR5, hF6⟩ => ?_)
    refine g_aload_n X dX4_undo_32 rfl 0 rfl ?_
    refine g_get X dX4_undo_33 (ci := 4) (k := 4) (v := .ref (a 4)) rfl k1093 (by decide) rfl (MRep.obj hR5) rfl ?_
    refine g_aload_n X dX4_undo_36 rfl 0 rfl ?_
    refine g_get X dX4_undo_37 (ci := 4) (k := 5) (v := .int (nI Q)) rfl k1094 (by decide) rfl (MRep.obj hR5) rfl ?_
    refine g_aaload (t0 := 3) (v := .ref (a (5 + Q))) X dX4_undo_40 (MRep.hist hR5) rfl rfl (vp_in_nI (by omega) (by decide)) (by rw [cN_nI (by omega), if_pos (by omega)]; rfl) ?_
    refine g_aload_n X dX4_undo_41 rfl 0 rfl ?_
    refine g_get X dX4_undo_42 (ci := 4) (k := 1) (v := .ref (a 1)) rfl k1090 (by decide) rfl (MRep.obj hR5) rfl ?_
    refine g_callS (As := [.ref (a (5 + Q)), .ref (a 1)]) X dX4_undo_45 (c_X4_copyRow κ.l hl κ.Γ M4 a (hsc (hsc u 0 0) 1 (nI Q)) hR5 (5 + Q) 1 (by omega) (by omega) (by omega)) k1176 k1177 k5 k1178 ⟨by decide, by decide, (show (parseMethodDescriptor yX4_copyRow.desc).map (fun d => d.parameters.length) = some 2 by decide +kernel)⟩ rfl (Nat.le_of_ble_eq_true rfl) (by rw [hRm]; decide) (by rw [hRm]; exact ⟨Nat.le_of_ble_eq_true rfl, Nat.le_of_ble_eq_true rfl⟩) (fun v7 M7 h7 => ?_) (fun _ _ h9 => by cases h9.1)
    obtain ⟨e7, hR7, hF7⟩ := h7
    have e7 : (Sum.inl v7 : Res) = .inl none := e7
    cases e7
    have hR7 : MRep κ.Γ a (cpR (hsc (hsc u 0 0) 1 (nI Q)) (5 + Q) 1) M7 := hR7
    have hF7 := Fr.tr hF6 hF7
    refine g_aload_n X dX4_undo_48 rfl 0 rfl ?_
    refine g_get X dX4_undo_49 (ci := 4) (k := 5) (v := .int ((cpR (hsc (hsc u 0 0) 1 (nI Q)) (5 + Q) 1).1 1)) rfl k1094 (by decide) rfl (MRep.obj hR7) rfl ?_
    exact g_iret X F dX4_undo_52 (by omega) (by omega) (by unfold mUndo; exact (MMu.n (by first | exact c1 | exact fun q => q c1 | exact fun q => c1 q | exact Classical.not_not.mp c1) ⟨by rw [eK, nI_pred]; rfl, by (try unfold mUnd); rw [eK, nI_pred, cN_nI (by omega)]; exact hR7, hF7⟩))
  · refine g_iconst (v := 1) X dX4_undo_9 (by decide) ?_
    refine g_goto (tgt := 14) X dX4_undo_10 (by decide) ?_
    refine g_callV (As := [.int 1, .int 1]) (ci := 4) X dX4_undo_14 (c_X4_fails1 κ.l hl κ.Γ M a u hR 1) k1164 k1166 kp15 k5 k1167 rfl (MRep.obj hR) ⟨rfl, by decide, by decide, (show (parseMethodDescriptor yX4_fails.desc).map (fun d => d.parameters.length) = some 2 by decide +kernel)⟩ rfl (Nat.le_of_ble_eq_true rfl) (by rw [hRm]; decide) (by rw [hRm]; exact ⟨Nat.le_of_ble_eq_true rfl, Nat.le_of_ble_eq_true rfl⟩) (fun v8 M8 h8 => ?_) (fun _ _ h9 => by cases h9.1)
    obtain ⟨e8, hR8, hF8⟩ := h8
    have e8 : (Sum.inl v8 : Res) = rI 1 := e8
    cases e8
    refine g_if_eq (tgt := 22) X dX4_undo_17 (by decide) (fun c9 => absurd c9 (by decide)) (fun c9 => ?_)
    refine g_iconst (v := 0) X dX4_undo_20 (by decide) ?_
    exact g_iret X F dX4_undo_21 (by omega) (by omega) (by unfold mUndo; exact (MMu.y (by first | exact c1 | exact fun q => q c1 | exact fun q => c1 q | exact Classical.not_not.mp c1) ⟨rfl, hR8, hF8⟩))
noncomputable def mSave (u : HV) : Res × HV := (rI ((cpR (hsc (u0 u) 2 1) 1 2).2.1 1 1), cpR (hsc (u0 u) 2 1) 1 2)
set_option maxRecDepth 100000 in
set_option maxHeartbeats 4000000 in
theorem c_X4_save (l : Launch) (hl : l.stackTraces = false) (Γ : Gm) (M : Hp) (a : Nat → Nat) (u : HV) (hR : MRep Γ a u M) : Ct l Γ yX4_save cX4_save 1 (some .int) 1 0 0 [.ref (a 0)] M (MMu Γ a (mSave u) M) := by
  refine Ct.of hl (by decide) (Nat.le_of_ble_eq_true rfl) rfl ?_
  intro κ e1 e2 hnL hRm X F hlt
  subst e1 e2
  refine g_aload_n X dX4_save_0 rfl 0 rfl ?_
  refine g_iconst (v := 0) X dX4_save_1 (by decide) ?_
  refine g_put X dX4_save_2 (ci := 4) (k := 0) (ty := .int) rfl k1089 (by decide) rfl rfl (by decide +kernel) rfl rfl (Nat.le_of_ble_eq_true rfl) (MRep.obj hR) ?_
  refine g_gen (P := fun M9 => MRep κ.Γ a (hsc u 0 0) M9 ∧ Fr a 15 M M9) ⟨MRep.sc hR 0 _ rfl, (Fr.up (by decide))⟩ (fun M1 ⟨hR2, hF3⟩ => ?_)
  refine g_aload_n X dX4_save_5 rfl 0 rfl ?_
  refine g_iconst (v := 1) X dX4_save_6 (by decide) ?_
  refine g_put X dX4_save_7 (ci := 4) (k := 6) (ty := .boolean) rfl k1095 (by decide) rfl rfl (by decide +kernel) rfl rfl (Nat.le_of_ble_eq_true rfl) (MRep.obj hR2) ?_
  refine g_gen (P := fun M9 => MRep κ.Γ a (hsc (hsc u 0 0) 2 1) M9 ∧ Fr a 15 M M9) ⟨MRep.sc hR2 2 _ rfl, Fr.tr hF3 (Fr.up (by decide))⟩ (fun M4 ⟨hR5, hF6⟩ => ?_)
  refine g_aload_n X dX4_save_10 rfl 0 rfl ?_
  refine g_get X dX4_save_11 (ci := 4) (k := 1) (v := .ref (a 1)) rfl k1090 (by decide) rfl (MRep.obj hR5) rfl ?_
  refine g_aload_n X dX4_save_14 rfl 0 rfl ?_
  refine g_get X dX4_save_15 (ci := 4) (k := 2) (v := .ref (a 2)) rfl k1091 (by decide) rfl (MRep.obj hR5) rfl ?_
  refine g_callS (As := [.ref (a 1), .ref (a 2)]) X dX4_save_18 (c_X4_copyRow κ.l hl κ.Γ M4 a (hsc (hsc u 0 0) 2 1) hR5 1 2 (by omega) (by omega) (by omega)) k1176 k1177 k5 k1178 ⟨by decide, by decide, (show (parseMethodDescriptor yX4_copyRow.desc).map (fun d => d.parameters.length) = some 2 by decide +kernel)⟩ rfl (Nat.le_of_ble_eq_true rfl) (by rw [hRm]; decide) (by rw [hRm]; exact ⟨Nat.le_of_ble_eq_true rfl, Nat.le_of_ble_eq_true rfl⟩) (fun v7 M7 h7 => ?_) (fun _ _ h9 => by cases h9.1)
  obtain ⟨e7, hR7, hF7⟩ := h7
  have e7 : (Sum.inl v7 : Res) = .inl none := e7
  cases e7
  have hR7 : MRep κ.Γ a (cpR (hsc (hsc u 0 0) 2 1) 1 2) M7 := hR7
  have hF7 := Fr.tr hF6 hF7
  refine g_aload_n X dX4_save_21 rfl 0 rfl ?_
  refine g_get X dX4_save_22 (ci := 4) (k := 1) (v := .ref (a 1)) rfl k1090 (by decide) rfl (MRep.obj hR7) rfl ?_
  refine g_iconst (v := 1) X dX4_save_25 (by decide) ?_
  refine g_iald (b := 1) X dX4_save_26 (MRep.row hR7 1 (by decide) (by decide)) (by omega) (by decide) ?_
  exact g_iret X F dX4_save_27 (by omega) (by omega) (by unfold mSave; exact ⟨rfl, hR7, hF7⟩)
noncomputable def mRestore (u : HV) : Res × HV := mG (u.1 2 = 0) 1 zI u (rI ((cpR (u0 u) 2 1).2.1 1 1), hsc (cpR (u0 u) 2 1) 1 0)
set_option maxRecDepth 100000 in
set_option maxHeartbeats 4000000 in
theorem c_X4_restore (l : Launch) (hl : l.stackTraces = false) (Γ : Gm) (M : Hp) (a : Nat → Nat) (u : HV) (hR : MRep Γ a u M) : Ct l Γ yX4_restore cX4_restore 1 (some .int) 1 0 0 [.ref (a 0)] M (MMu Γ a (mRestore u) M) := by
  refine Ct.of hl (by decide) (Nat.le_of_ble_eq_true rfl) rfl ?_
  intro κ e1 e2 hnL hRm X F hlt
  subst e1 e2
  refine g_aload_n X dX4_restore_0 rfl 0 rfl ?_
  refine g_iconst (v := 1) X dX4_restore_1 (by decide) ?_
  refine g_aload_n X dX4_restore_2 rfl 0 rfl ?_
  refine g_get X dX4_restore_3 (ci := 4) (k := 6) (v := .int (u.1 2)) rfl k1095 (by decide) rfl (MRep.obj hR) rfl ?_
  refine g_if_ne (tgt := 13) X dX4_restore_6 (by decide) (fun c1 => ?_) (fun c1 => ?_)
  · refine g_iconst (v := 0) X dX4_restore_13 (by decide) ?_
    refine g_callV (As := [.int 1, .int 0]) (ci := 4) X dX4_restore_14 (c_X4_fails0 κ.l hl κ.Γ M a u hR 1) k1164 k1166 kp15 k5 k1167 rfl (MRep.obj hR) ⟨rfl, by decide, by decide, (show (parseMethodDescriptor yX4_fails.desc).map (fun d => d.parameters.length) = some 2 by decide +kernel)⟩ rfl (Nat.le_of_ble_eq_true rfl) (by rw [hRm]; decide) (by rw [hRm]; exact ⟨Nat.le_of_ble_eq_true rfl, Nat.le_of_ble_eq_true rfl⟩) (fun v2 M2 h2 => ?_) (fun _ _ h9 => by cases h9.1)
    obtain ⟨e2, hR2, hF2⟩ := h2
    have e2 : (Sum.inl v2 : Res) = rI 0 := e2
    cases e2
    refine g_if_eq (tgt := 22) X dX4_restore_17 (by decide) (fun c3 => ?_) (fun c3 => absurd c3 (by decide))
    refine g_aload_n X dX4_restore_22 rfl 0 rfl ?_
    refine g_get X dX4_restore_23 (ci := 4) (k := 2) (v := .ref (a 2)) rfl k1091 (by decide) rfl (MRep.obj hR2) rfl ?_
    refine g_aload_n X dX4_restore_26 rfl 0 rfl ?_
    refine g_get X dX4_restore_27 (ci := 4) (k := 1) (v := .ref (a 1)) rfl k1090 (by decide) rfl (MRep.obj hR2) rfl ?_
    refine g_callS (As := [.ref (a 2), .ref (a 1)]) X dX4_restore_30 (c_X4_copyRow κ.l hl κ.Γ M2 a (hsc u 0 0) hR2 2 1 (by omega) (by omega) (by omega)) k1176 k1177 k5 k1178 ⟨by decide, by decide, (show (parseMethodDescriptor yX4_copyRow.desc).map (fun d => d.parameters.length) = some 2 by decide +kernel)⟩ rfl (Nat.le_of_ble_eq_true rfl) (by rw [hRm]; decide) (by rw [hRm]; exact ⟨Nat.le_of_ble_eq_true rfl, Nat.le_of_ble_eq_true rfl⟩) (fun v4 M4 h4 => ?_) (fun _ _ h9 => by cases h9.1)
    obtain ⟨e4, hR4, hF4⟩ := h4
    have e4 : (Sum.inl v4 : Res) = .inl none := e4
    cases e4
    have hR4 : MRep κ.Γ a (cpR (hsc u 0 0) 2 1) M4 := hR4
    have hF4 := Fr.tr hF2 hF4
    refine g_aload_n X dX4_restore_33 rfl 0 rfl ?_
    refine g_iconst (v := 0) X dX4_restore_34 (by decide) ?_
    refine g_put X dX4_restore_35 (ci := 4) (k := 5) (ty := .int) rfl k1094 (by decide) rfl rfl (by decide +kernel) rfl rfl (Nat.le_of_ble_eq_true rfl) (MRep.obj hR4) ?_
    refine g_gen (P := fun M9 => MRep κ.Γ a (hsc (cpR (hsc u 0 0) 2 1) 1 0) M9 ∧ Fr a 15 M M9) ⟨MRep.sc hR4 1 _ rfl, Fr.tr hF4 (Fr.up (by decide))⟩ (fun M5 ⟨hR6, hF7⟩ => ?_)
    refine g_aload_n X dX4_restore_38 rfl 0 rfl ?_
    refine g_get X dX4_restore_39 (ci := 4) (k := 1) (v := .ref (a 1)) rfl k1090 (by decide) rfl (MRep.obj hR6) rfl ?_
    refine g_iconst (v := 1) X dX4_restore_42 (by decide) ?_
    refine g_iald (b := 1) X dX4_restore_43 (MRep.row hR6 1 (by decide) (by decide)) (by omega) (by decide) ?_
    exact g_iret X F dX4_restore_44 (by omega) (by omega) (by unfold mRestore; exact (MMu.n (by first | exact c1 | exact fun q => q c1 | exact fun q => c1 q | exact Classical.not_not.mp c1) ⟨rfl, hR6, hF7⟩))
  · refine g_iconst (v := 1) X dX4_restore_9 (by decide) ?_
    refine g_goto (tgt := 14) X dX4_restore_10 (by decide) ?_
    refine g_callV (As := [.int 1, .int 1]) (ci := 4) X dX4_restore_14 (c_X4_fails1 κ.l hl κ.Γ M a u hR 1) k1164 k1166 kp15 k5 k1167 rfl (MRep.obj hR) ⟨rfl, by decide, by decide, (show (parseMethodDescriptor yX4_fails.desc).map (fun d => d.parameters.length) = some 2 by decide +kernel)⟩ rfl (Nat.le_of_ble_eq_true rfl) (by rw [hRm]; decide) (by rw [hRm]; exact ⟨Nat.le_of_ble_eq_true rfl, Nat.le_of_ble_eq_true rfl⟩) (fun v8 M8 h8 => ?_) (fun _ _ h9 => by cases h9.1)
    obtain ⟨e8, hR8, hF8⟩ := h8
    have e8 : (Sum.inl v8 : Res) = rI 1 := e8
    cases e8
    refine g_if_eq (tgt := 22) X dX4_restore_17 (by decide) (fun c9 => absurd c9 (by decide)) (fun c9 => ?_)
    refine g_iconst (v := 0) X dX4_restore_20 (by decide) ?_
    exact g_iret X F dX4_restore_21 (by omega) (by omega) (by unfold mRestore; exact (MMu.y (by first | exact c1 | exact fun q => q c1 | exact fun q => c1 q | exact Classical.not_not.mp c1) ⟨rfl, hR8, hF8⟩))
set_option maxRecDepth 100000 in
set_option maxHeartbeats 4000000 in
theorem c_X4_thrown (l : Launch) (hl : l.stackTraces = false) (Γ : Gm) (M : Hp) (a : Nat → Nat) (u : HV) (hR : MRep Γ a u M) : Ct l Γ yX4_thrown cX4_thrown 1 (some .int) 0 0 0 [.ref (a 0)] M (Rd (some (.int (u.1 0))) M) := by
  refine Ct.of hl (by decide) (Nat.le_of_ble_eq_true rfl) rfl ?_
  intro κ e1 e2 hnL hRm X F hlt
  subst e1 e2
  refine g_aload_n X dX4_thrown_0 rfl 0 rfl ?_
  refine g_get X dX4_thrown_1 (ci := 4) (k := 0) (v := .int (u.1 0)) rfl k1089 (by decide) rfl (MRep.obj hR) rfl ?_
  exact g_iret X F dX4_thrown_4 (by omega) (by omega) ⟨rfl, rfl⟩
