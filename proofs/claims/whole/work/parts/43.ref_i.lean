theorem RInv.putU {u : HV} {b k : Nat} {v : Int32} (h : RInv (u.2.1 1)) (hk : k < 16) (h7 : k ≠ 7) : RInv ((rPut u b k v).2.1 1) := RInv.put h hk h7
theorem RInv.chg {u : HV} (h : RInv (u.2.1 1)) : RInv ((mChg u).2.1 1) := by
  rw [mChg_now]
  exact h
set_option maxRecDepth 100000 in
set_option maxHeartbeats 4000000 in
theorem c_X4_put (l : Launch) (hl : l.stackTraces = false) (Γ : Gm) (M : Hp) (a : Nat → Nat) (u : HV) (hR : MRep Γ a u M) (b9 : Nat) (k9 : Nat) (v : Int32) (hb : b9 < 8) (hk : k9 < 16) : Ct l Γ yX4_put cX4_put 4 none 0 0 0 [.ref (a 0), .int (nI b9), .int (nI k9), .int (v)] M (MMu Γ a (.inl none, rPut u b9 k9 v) M) := by
  refine Ct.of hl (by decide) (Nat.le_of_ble_eq_true rfl) rfl ?_
  intro κ e1 e2 hnL hRm X F hlt
  subst e1 e2
  refine g_aload_n X dX4_put_0 rfl 0 rfl ?_
  refine g_get X dX4_put_1 (ci := 4) (k := 1) (v := .ref (a 1)) rfl k1090 (by decide) rfl (MRep.obj hR) rfl ?_
  refine g_bipush (v := 53) X dX4_put_4 (by decide) ?_
  refine g_bipush (v := 16) X dX4_put_6 (by decide) ?_
  refine g_iload_n X dX4_put_8 rfl 1 rfl ?_
  refine g_imul X dX4_put_9 ?_
  refine g_lit (nI (16 * b9)) (nI_mulJ 16 b9) ?_
  refine g_iadd X dX4_put_10 ?_
  refine g_lit (nI (53 + (16 * b9))) (nI_addJ 53 (16 * b9)) ?_
  refine g_iload_n X dX4_put_11 rfl 2 rfl ?_
  refine g_iadd X dX4_put_12 ?_
  refine g_lit (nI ((53 + (16 * b9)) + k9)) (nI_addJ (53 + (16 * b9)) k9) ?_
  refine g_iload_n X dX4_put_13 rfl 3 rfl ?_
  refine g_iast (b := ((53 + (16 * b9)) + k9)) X dX4_put_14 (MRep.row hR 1 (by decide) (by decide)) (by omega) (by decide) ?_
  refine g_gen (P := fun M9 => MRep κ.Γ a (hset u 1 ((53 + (16 * b9)) + k9) v) M9 ∧ Fr a 15 M M9) ⟨MRep.ar hR 1 (by decide) (by decide) _ rfl rfl, (Fr.up (by decide))⟩ (fun M1 ⟨hR2, hF3⟩ => ?_)
  exact g_vret X F dX4_put_15 (by omega) (by omega) ⟨rfl, hR2, hF3⟩
set_option maxRecDepth 100000 in
set_option maxHeartbeats 4000000 in
theorem c_X4_finish (l : Launch) (hl : l.stackTraces = false) (Γ : Gm) (M : Hp) (a : Nat → Nat) (u : HV) (hR : MRep Γ a u M) (b9 : Nat) (x : Int32) (hb : b9 < 8) : Ct l Γ yX4_finish cX4_finish 3 none 1 0 0 [.ref (a 0), .int (nI b9), .int (x)] M (MMu Γ a (.inl none, mFin u b9 x) M) := by
  refine Ct.of hl (by decide) (Nat.le_of_ble_eq_true rfl) rfl ?_
  intro κ e1 e2 hnL hRm X F hlt
  subst e1 e2
  refine g_aload_n X dX4_finish_0 rfl 0 rfl ?_
  refine g_iload_n X dX4_finish_1 rfl 1 rfl ?_
  refine g_iconst (v := 0) X dX4_finish_2 (by decide) ?_
  refine g_iload_n X dX4_finish_3 rfl 2 rfl ?_
  refine g_callV (As := [.int (nI b9), .int 0, .int x]) (ci := 4) X dX4_finish_4 (c_X4_put κ.l hl κ.Γ M a u hR b9 0 x (by omega) (by omega)) k1255 k1257 kp23 k5 k1258 rfl (MRep.obj hR) ⟨rfl, by decide, by decide, (show (parseMethodDescriptor yX4_put.desc).map (fun d => d.parameters.length) = some 3 by decide +kernel)⟩ rfl (Nat.le_of_ble_eq_true rfl) (by rw [hRm]; decide) (by rw [hRm]; exact ⟨Nat.le_of_ble_eq_true rfl, Nat.le_of_ble_eq_true rfl⟩) (fun v1 M1 h1 => ?_) (fun _ _ h9 => by cases h9.1)
  obtain ⟨e1, hR1, hF1⟩ := h1
  have e1 : (Sum.inl v1 : Res) = .inl none := e1
  cases e1
  have hR1 : MRep κ.Γ a (rPut u b9 0 x) M1 := hR1
  refine g_aload_n X dX4_finish_7 rfl 0 rfl ?_
  refine g_iload_n X dX4_finish_8 rfl 1 rfl ?_
  refine g_bipush (v := 7) X dX4_finish_9 (by decide) ?_
  refine g_iconst (v := 0) X dX4_finish_11 (by decide) ?_
  refine g_callV (As := [.int (nI b9), .int 7, .int 0]) (ci := 4) X dX4_finish_12 (c_X4_put κ.l hl κ.Γ M1 a (rPut u b9 0 x) hR1 b9 7 0 (by omega) (by omega)) k1255 k1257 kp23 k5 k1258 rfl (MRep.obj hR1) ⟨rfl, by decide, by decide, (show (parseMethodDescriptor yX4_put.desc).map (fun d => d.parameters.length) = some 3 by decide +kernel)⟩ rfl (Nat.le_of_ble_eq_true rfl) (by rw [hRm]; decide) (by rw [hRm]; exact ⟨Nat.le_of_ble_eq_true rfl, Nat.le_of_ble_eq_true rfl⟩) (fun v2 M2 h2 => ?_) (fun _ _ h9 => by cases h9.1)
  obtain ⟨e2, hR2, hF2⟩ := h2
  have e2 : (Sum.inl v2 : Res) = .inl none := e2
  cases e2
  have hR2 : MRep κ.Γ a (rPut (rPut u b9 0 x) b9 7 0) M2 := hR2
  have hF2 := Fr.tr hF1 hF2
  refine g_aload_n X dX4_finish_15 rfl 0 rfl ?_
  refine g_iload_n X dX4_finish_16 rfl 1 rfl ?_
  refine g_iconst (v := 5) X dX4_finish_17 (by decide) ?_
  refine g_iconst (v := 0) X dX4_finish_18 (by decide) ?_
  refine g_callV (As := [.int (nI b9), .int 5, .int 0]) (ci := 4) X dX4_finish_19 (c_X4_put κ.l hl κ.Γ M2 a (rPut (rPut u b9 0 x) b9 7 0) hR2 b9 5 0 (by omega) (by omega)) k1255 k1257 kp23 k5 k1258 rfl (MRep.obj hR2) ⟨rfl, by decide, by decide, (show (parseMethodDescriptor yX4_put.desc).map (fun d => d.parameters.length) = some 3 by decide +kernel)⟩ rfl (Nat.le_of_ble_eq_true rfl) (by rw [hRm]; decide) (by rw [hRm]; exact ⟨Nat.le_of_ble_eq_true rfl, Nat.le_of_ble_eq_true rfl⟩) (fun v3 M3 h3 => ?_) (fun _ _ h9 => by cases h9.1)
  obtain ⟨e3, hR3, hF3⟩ := h3
  have e3 : (Sum.inl v3 : Res) = .inl none := e3
  cases e3
  have hR3 : MRep κ.Γ a (rPut (rPut (rPut u b9 0 x) b9 7 0) b9 5 0) M3 := hR3
  have hF3 := Fr.tr hF2 hF3
  refine g_aload_n X dX4_finish_22 rfl 0 rfl ?_
  refine g_iload_n X dX4_finish_23 rfl 1 rfl ?_
  refine g_bipush (v := 6) X dX4_finish_24 (by decide) ?_
  refine g_iconst (v := 0) X dX4_finish_26 (by decide) ?_
  refine g_callV (As := [.int (nI b9), .int 6, .int 0]) (ci := 4) X dX4_finish_27 (c_X4_put κ.l hl κ.Γ M3 a (rPut (rPut (rPut u b9 0 x) b9 7 0) b9 5 0) hR3 b9 6 0 (by omega) (by omega)) k1255 k1257 kp23 k5 k1258 rfl (MRep.obj hR3) ⟨rfl, by decide, by decide, (show (parseMethodDescriptor yX4_put.desc).map (fun d => d.parameters.length) = some 3 by decide +kernel)⟩ rfl (Nat.le_of_ble_eq_true rfl) (by rw [hRm]; decide) (by rw [hRm]; exact ⟨Nat.le_of_ble_eq_true rfl, Nat.le_of_ble_eq_true rfl⟩) (fun v4 M4 h4 => ?_) (fun _ _ h9 => by cases h9.1)
  obtain ⟨e4, hR4, hF4⟩ := h4
  have e4 : (Sum.inl v4 : Res) = .inl none := e4
  cases e4
  have hR4 : MRep κ.Γ a (rPut (rPut (rPut (rPut u b9 0 x) b9 7 0) b9 5 0) b9 6 0) M4 := hR4
  have hF4 := Fr.tr hF3 hF4
  exact g_vret X F dX4_finish_30 (by omega) (by omega) ⟨rfl, hR4, hF4⟩
set_option maxRecDepth 100000 in
set_option maxHeartbeats 4000000 in
theorem c_X4_toggleClause (l : Launch) (hl : l.stackTraces = false) (Γ : Gm) (M : Hp) (a : Nat → Nat) (u : HV) (hR : MRep Γ a u M) (b9 : Nat) (x : Int32) (hb : b9 < 8) : Ct l Γ yX4_toggleClause cX4_toggleClause 4 none 1 0 0 [.ref (a 0), .int (nI b9), .int (x)] M (MMu Γ a (.inl none, mTog u b9 x) M) := by
  refine Ct.of hl (by decide) (Nat.le_of_ble_eq_true rfl) rfl ?_
  intro κ e1 e2 hnL hRm X F hlt
  subst e1 e2
  refine g_iload_n X dX4_toggleClause_0 rfl 2 rfl ?_
  refine g_bipush (v := 32) X dX4_toggleClause_1 (by decide) ?_
  refine g_icmp_ge (tgt := 10) X dX4_toggleClause_3 (by decide) (fun c1 => ?_) (fun c1 => ?_)
  · refine g_iconst (v := 2) X dX4_toggleClause_10 (by decide) ?_
    refine g_istore_n (L' := [(3, .int 2), (0, .ref (a 0)), (1, .int (nI b9)), (2, .int x)]) X dX4_toggleClause_11 rfl (by rw [hnL]; decide) rfl ?_
    refine g_aload_n X dX4_toggleClause_12 rfl 1 rfl ?_
    refine g_iload_n X dX4_toggleClause_13 rfl 2 rfl ?_
    refine g_iload_n X dX4_toggleClause_14 rfl 0 rfl ?_
    refine g_aload_n X dX4_toggleClause_15 rfl 1 rfl ?_
    refine g_iload_n X dX4_toggleClause_16 rfl 2 rfl ?_
    refine g_iload_n X dX4_toggleClause_17 rfl 0 rfl ?_
    refine g_callV_rd (As := [.int (nI b9), .int 2]) (ci := 4) (v := some (.int (u.2.1 1 (53 + 16 * b9 + 2)))) X dX4_toggleClause_18 (c_X4_of κ.l hl κ.Γ M a u hR b9 2 (by omega) (by omega)) k1263 k1265 kp25 k5 k1266 rfl (MRep.obj hR) ⟨rfl, by decide, by decide, (show (parseMethodDescriptor yX4_of.desc).map (fun d => d.parameters.length) = some 2 by decide +kernel)⟩ rfl (Nat.le_of_ble_eq_true rfl) (by rw [hRm]; decide) (by rw [hRm]; exact ⟨Nat.le_of_ble_eq_true rfl, Nat.le_of_ble_eq_true rfl⟩) ?_
    refine g_iconst (v := 1) X dX4_toggleClause_21 (by decide) ?_
    refine g_iload_n X dX4_toggleClause_22 rfl 3 rfl ?_
    refine g_bipush (v := 32) X dX4_toggleClause_23 (by decide) ?_
    refine g_irem X dX4_toggleClause_25 (by decide) ?_
    refine g_ishl X dX4_toggleClause_26 ?_
    refine g_ixor X dX4_toggleClause_27 ?_
    refine g_callV (As := [.int (nI b9), .int 2, .int ((u.2.1 1 (53 + 16 * b9 + 2)) ^^^ (shl 1 (irm x 32)))]) (ci := 4) X dX4_toggleClause_28 (c_X4_put κ.l hl κ.Γ M a u hR b9 2 ((u.2.1 1 (53 + 16 * b9 + 2)) ^^^ (shl 1 (irm x 32))) (by omega) (by omega)) k1255 k1257 kp23 k5 k1258 rfl (MRep.obj hR) ⟨rfl, by decide, by decide, (show (parseMethodDescriptor yX4_put.desc).map (fun d => d.parameters.length) = some 3 by decide +kernel)⟩ rfl (Nat.le_of_ble_eq_true rfl) (by rw [hRm]; decide) (by rw [hRm]; exact ⟨Nat.le_of_ble_eq_true rfl, Nat.le_of_ble_eq_true rfl⟩) (fun v2 M2 h2 => ?_) (fun _ _ h9 => by cases h9.1)
    obtain ⟨e2, hR2, hF2⟩ := h2
    have e2 : (Sum.inl v2 : Res) = .inl none := e2
    cases e2
    have hR2 : MRep κ.Γ a (rPut u b9 2 ((u.2.1 1 (53 + 16 * b9 + 2)) ^^^ (shl 1 (irm x 32)))) M2 := hR2
    exact g_vret X F dX4_toggleClause_31 (by omega) (by omega) ⟨rfl, by (show MRep κ.Γ a (mTog u b9 x) _); unfold mTog; rw [if_pos c1]; exact hR2, hF2⟩
  · refine g_iconst (v := 1) X dX4_toggleClause_6 (by decide) ?_
    refine g_goto (tgt := 11) X dX4_toggleClause_7 (by decide) ?_
    refine g_istore_n (L' := [(3, .int 1), (0, .ref (a 0)), (1, .int (nI b9)), (2, .int x)]) X dX4_toggleClause_11 rfl (by rw [hnL]; decide) rfl ?_
    refine g_aload_n X dX4_toggleClause_12 rfl 1 rfl ?_
    refine g_iload_n X dX4_toggleClause_13 rfl 2 rfl ?_
    refine g_iload_n X dX4_toggleClause_14 rfl 0 rfl ?_
    refine g_aload_n X dX4_toggleClause_15 rfl 1 rfl ?_
    refine g_iload_n X dX4_toggleClause_16 rfl 2 rfl ?_
    refine g_iload_n X dX4_toggleClause_17 rfl 0 rfl ?_
    refine g_callV_rd (As := [.int (nI b9), .int 1]) (ci := 4) (v := some (.int (u.2.1 1 (53 + 16 * b9 + 1)))) X dX4_toggleClause_18 (c_X4_of κ.l hl κ.Γ M a u hR b9 1 (by omega) (by omega)) k1263 k1265 kp25 k5 k1266 rfl (MRep.obj hR) ⟨rfl, by decide, by decide, (show (parseMethodDescriptor yX4_of.desc).map (fun d => d.parameters.length) = some 2 by decide +kernel)⟩ rfl (Nat.le_of_ble_eq_true rfl) (by rw [hRm]; decide) (by rw [hRm]; exact ⟨Nat.le_of_ble_eq_true rfl, Nat.le_of_ble_eq_true rfl⟩) ?_
    refine g_iconst (v := 1) X dX4_toggleClause_21 (by decide) ?_
    refine g_iload_n X dX4_toggleClause_22 rfl 3 rfl ?_
    refine g_bipush (v := 32) X dX4_toggleClause_23 (by decide) ?_
    refine g_irem X dX4_toggleClause_25 (by decide) ?_
    refine g_ishl X dX4_toggleClause_26 ?_
    refine g_ixor X dX4_toggleClause_27 ?_
    refine g_callV (As := [.int (nI b9), .int 1, .int ((u.2.1 1 (53 + 16 * b9 + 1)) ^^^ (shl 1 (irm x 32)))]) (ci := 4) X dX4_toggleClause_28 (c_X4_put κ.l hl κ.Γ M a u hR b9 1 ((u.2.1 1 (53 + 16 * b9 + 1)) ^^^ (shl 1 (irm x 32))) (by omega) (by omega)) k1255 k1257 kp23 k5 k1258 rfl (MRep.obj hR) ⟨rfl, by decide, by decide, (show (parseMethodDescriptor yX4_put.desc).map (fun d => d.parameters.length) = some 3 by decide +kernel)⟩ rfl (Nat.le_of_ble_eq_true rfl) (by rw [hRm]; decide) (by rw [hRm]; exact ⟨Nat.le_of_ble_eq_true rfl, Nat.le_of_ble_eq_true rfl⟩) (fun v3 M3 h3 => ?_) (fun _ _ h9 => by cases h9.1)
    obtain ⟨e3, hR3, hF3⟩ := h3
    have e3 : (Sum.inl v3 : Res) = .inl none := e3
    cases e3
    have hR3 : MRep κ.Γ a (rPut u b9 1 ((u.2.1 1 (53 + 16 * b9 + 1)) ^^^ (shl 1 (irm x 32)))) M3 := hR3
    exact g_vret X F dX4_toggleClause_31 (by omega) (by omega) ⟨rfl, by (show MRep κ.Γ a (mTog u b9 x) _); unfold mTog; rw [if_neg c1]; exact hR3, hF3⟩
set_option maxRecDepth 100000 in
set_option maxHeartbeats 4000000 in
theorem c_X4_hasClause (l : Launch) (hl : l.stackTraces = false) (Γ : Gm) (M : Hp) (a : Nat → Nat) (u : HV) (hR : MRep Γ a u M) (b9 : Nat) (x : Int32) (hb : b9 < 8) : Ct l Γ yX4_hasClause cX4_hasClause 3 (some .boolean) 1 0 0 [.ref (a 0), .int (nI b9), .int (x)] M (Rd (some (.int (bI (rHas u b9 x)))) M) := by
  refine Ct.of hl (by decide) (Nat.le_of_ble_eq_true rfl) rfl ?_
  intro κ e1 e2 hnL hRm X F hlt
  subst e1 e2
  refine g_aload_n X dX4_hasClause_0 rfl 0 rfl ?_
  refine g_iload_n X dX4_hasClause_1 rfl 1 rfl ?_
  refine g_iload_n X dX4_hasClause_2 rfl 2 rfl ?_
  refine g_bipush (v := 32) X dX4_hasClause_3 (by decide) ?_
  refine g_icmp_ge (tgt := 12) X dX4_hasClause_5 (by decide) (fun c1 => ?_) (fun c1 => ?_)
  · refine g_iconst (v := 2) X dX4_hasClause_12 (by decide) ?_
    refine g_callV_rd (As := [.int (nI b9), .int 2]) (ci := 4) (v := some (.int (u.2.1 1 (53 + 16 * b9 + 2)))) X dX4_hasClause_13 (c_X4_of κ.l hl κ.Γ M a u hR b9 2 (by omega) (by omega)) k1263 k1265 kp25 k5 k1266 rfl (MRep.obj hR) ⟨rfl, by decide, by decide, (show (parseMethodDescriptor yX4_of.desc).map (fun d => d.parameters.length) = some 2 by decide +kernel)⟩ rfl (Nat.le_of_ble_eq_true rfl) (by rw [hRm]; decide) (by rw [hRm]; exact ⟨Nat.le_of_ble_eq_true rfl, Nat.le_of_ble_eq_true rfl⟩) ?_
    refine g_iload_n X dX4_hasClause_16 rfl 2 rfl ?_
    refine g_bipush (v := 32) X dX4_hasClause_17 (by decide) ?_
    refine g_irem X dX4_hasClause_19 (by decide) ?_
    refine g_iushr X dX4_hasClause_20 ?_
    refine g_iconst (v := 1) X dX4_hasClause_21 (by decide) ?_
    refine g_iand X dX4_hasClause_22 ?_
    refine g_iconst (v := 1) X dX4_hasClause_23 (by decide) ?_
    refine g_icmp_ne (tgt := 31) X dX4_hasClause_24 (by decide) (fun c2 => ?_) (fun c2 => ?_)
    · refine g_iconst (v := 0) X dX4_hasClause_31 (by decide) ?_
      exact g_zret X F dX4_hasClause_32 (by omega) (by omega) rfl ⟨by rw [bI_f (by unfold rHas; first | (rw [if_pos c1]; exact c2) | (rw [if_neg c1]; exact c2))], rfl⟩
    · refine g_iconst (v := 1) X dX4_hasClause_27 (by decide) ?_
      refine g_goto (tgt := 32) X dX4_hasClause_28 (by decide) ?_
      exact g_zret X F dX4_hasClause_32 (by omega) (by omega) rfl ⟨by rw [bI_t (by unfold rHas; first | (rw [if_pos c1]; exact c2) | (rw [if_neg c1]; exact c2))], rfl⟩
  · refine g_iconst (v := 1) X dX4_hasClause_8 (by decide) ?_
    refine g_goto (tgt := 13) X dX4_hasClause_9 (by decide) ?_
    refine g_callV_rd (As := [.int (nI b9), .int 1]) (ci := 4) (v := some (.int (u.2.1 1 (53 + 16 * b9 + 1)))) X dX4_hasClause_13 (c_X4_of κ.l hl κ.Γ M a u hR b9 1 (by omega) (by omega)) k1263 k1265 kp25 k5 k1266 rfl (MRep.obj hR) ⟨rfl, by decide, by decide, (show (parseMethodDescriptor yX4_of.desc).map (fun d => d.parameters.length) = some 2 by decide +kernel)⟩ rfl (Nat.le_of_ble_eq_true rfl) (by rw [hRm]; decide) (by rw [hRm]; exact ⟨Nat.le_of_ble_eq_true rfl, Nat.le_of_ble_eq_true rfl⟩) ?_
    refine g_iload_n X dX4_hasClause_16 rfl 2 rfl ?_
    refine g_bipush (v := 32) X dX4_hasClause_17 (by decide) ?_
    refine g_irem X dX4_hasClause_19 (by decide) ?_
    refine g_iushr X dX4_hasClause_20 ?_
    refine g_iconst (v := 1) X dX4_hasClause_21 (by decide) ?_
    refine g_iand X dX4_hasClause_22 ?_
    refine g_iconst (v := 1) X dX4_hasClause_23 (by decide) ?_
    refine g_icmp_ne (tgt := 31) X dX4_hasClause_24 (by decide) (fun c3 => ?_) (fun c3 => ?_)
    · refine g_iconst (v := 0) X dX4_hasClause_31 (by decide) ?_
      exact g_zret X F dX4_hasClause_32 (by omega) (by omega) rfl ⟨by rw [bI_f (by unfold rHas; first | (rw [if_pos c1]; exact c3) | (rw [if_neg c1]; exact c3))], rfl⟩
    · refine g_iconst (v := 1) X dX4_hasClause_27 (by decide) ?_
      refine g_goto (tgt := 32) X dX4_hasClause_28 (by decide) ?_
      exact g_zret X F dX4_hasClause_32 (by omega) (by omega) rfl ⟨by rw [bI_t (by unfold rHas; first | (rw [if_pos c1]; exact c3) | (rw [if_neg c1]; exact c3))], rfl⟩
set_option maxRecDepth 100000 in
set_option maxHeartbeats 4000000 in
theorem c_X4_isAhead (l : Launch) (hl : l.stackTraces = false) (Γ : Gm) (M : Hp) (a : Nat → Nat) (u : HV) (hR : MRep Γ a u M) (x9 : Nat) (y9 : Nat) (hx : x9 < 8) (hy : y9 < 8) : Ct l Γ yX4_isAhead cX4_isAhead 5 (some .boolean) 2 0 0 [.ref (a 0), .int (nI x9), .int (nI y9)] M (Rd (some (.int (bI (rAhd u x9 y9)))) M) := by
  refine Ct.of hl (by decide) (Nat.le_of_ble_eq_true rfl) rfl ?_
  intro κ e1 e2 hnL hRm X F hlt
  subst e1 e2
  refine g_aload_n X dX4_isAhead_0 rfl 0 rfl ?_
  refine g_iload_n X dX4_isAhead_1 rfl 1 rfl ?_
  refine g_iconst (v := 3) X dX4_isAhead_2 (by decide) ?_
  refine g_callV_rd (As := [.int (nI x9), .int 3]) (ci := 4) (v := some (.int (u.2.1 1 (53 + 16 * x9 + 3)))) X dX4_isAhead_3 (c_X4_of κ.l hl κ.Γ M a u hR x9 3 (by omega) (by omega)) k1263 k1265 kp25 k5 k1266 rfl (MRep.obj hR) ⟨rfl, by decide, by decide, (show (parseMethodDescriptor yX4_of.desc).map (fun d => d.parameters.length) = some 2 by decide +kernel)⟩ rfl (Nat.le_of_ble_eq_true rfl) (by rw [hRm]; decide) (by rw [hRm]; exact ⟨Nat.le_of_ble_eq_true rfl, Nat.le_of_ble_eq_true rfl⟩) ?_
  refine g_aload_n X dX4_isAhead_6 rfl 0 rfl ?_
  refine g_iload_n X dX4_isAhead_7 rfl 2 rfl ?_
  refine g_iconst (v := 3) X dX4_isAhead_8 (by decide) ?_
  refine g_callV_rd (As := [.int (nI y9), .int 3]) (ci := 4) (v := some (.int (u.2.1 1 (53 + 16 * y9 + 3)))) X dX4_isAhead_9 (c_X4_of κ.l hl κ.Γ M a u hR y9 3 (by omega) (by omega)) k1263 k1265 kp25 k5 k1266 rfl (MRep.obj hR) ⟨rfl, by decide, by decide, (show (parseMethodDescriptor yX4_of.desc).map (fun d => d.parameters.length) = some 2 by decide +kernel)⟩ rfl (Nat.le_of_ble_eq_true rfl) (by rw [hRm]; decide) (by rw [hRm]; exact ⟨Nat.le_of_ble_eq_true rfl, Nat.le_of_ble_eq_true rfl⟩) ?_
  refine g_isub X dX4_isAhead_12 ?_
  refine g_istore_n (L' := [(3, .int ((u.2.1 1 (53 + 16 * x9 + 3)) - (u.2.1 1 (53 + 16 * y9 + 3)))), (0, .ref (a 0)), (1, .int (nI x9)), (2, .int (nI y9))]) X dX4_isAhead_13 rfl (by rw [hnL]; decide) rfl ?_
  refine g_aload_n X dX4_isAhead_14 rfl 1 rfl ?_
  refine g_iload_n X dX4_isAhead_15 rfl 3 rfl ?_
  refine g_callV_rd (As := [.int (nI y9)]) (ci := 4) (v := some (.int (u.2.1 1 (53 + 16 * y9 + 4) / 60))) X dX4_isAhead_16 (c_X4_rusted κ.l hl κ.Γ M a u hR y9 (by omega)) k1321 k1323 kp30 k5 k1324 rfl (MRep.obj hR) ⟨rfl, by decide, by decide, (show (parseMethodDescriptor yX4_rusted.desc).map (fun d => d.parameters.length) = some 1 by decide +kernel)⟩ rfl (Nat.le_of_ble_eq_true rfl) (by rw [hRm]; decide) (by rw [hRm]; exact ⟨Nat.le_of_ble_eq_true rfl, Nat.le_of_ble_eq_true rfl⟩) ?_
  refine g_aload_n X dX4_isAhead_19 rfl 1 rfl ?_
  refine g_iload_n X dX4_isAhead_20 rfl 2 rfl ?_
  refine g_callV_rd (As := [.int (nI x9)]) (ci := 4) (v := some (.int (u.2.1 1 (53 + 16 * x9 + 4) / 60))) X dX4_isAhead_21 (c_X4_rusted κ.l hl κ.Γ M a u hR x9 (by omega)) k1321 k1323 kp30 k5 k1324 rfl (MRep.obj hR) ⟨rfl, by decide, by decide, (show (parseMethodDescriptor yX4_rusted.desc).map (fun d => d.parameters.length) = some 1 by decide +kernel)⟩ rfl (Nat.le_of_ble_eq_true rfl) (by rw [hRm]; decide) (by rw [hRm]; exact ⟨Nat.le_of_ble_eq_true rfl, Nat.le_of_ble_eq_true rfl⟩) ?_
  refine g_isub X dX4_isAhead_24 ?_
  refine g_istore (L' := [(4, .int ((u.2.1 1 (53 + 16 * y9 + 4) / 60) - (u.2.1 1 (53 + 16 * x9 + 4) / 60))), (3, .int ((u.2.1 1 (53 + 16 * x9 + 3)) - (u.2.1 1 (53 + 16 * y9 + 3)))), (0, .ref (a 0)), (1, .int (nI x9)), (2, .int (nI y9))]) X dX4_isAhead_25 (by rw [hnL]; decide) rfl ?_
  refine g_iload_n X dX4_isAhead_27 rfl 1 rfl ?_
  refine g_if_eq (tgt := 43) X dX4_isAhead_28 (by decide) (fun c1 => ?_) (fun c1 => ?_)
  · refine g_iload X dX4_isAhead_43 0 rfl ?_
    refine g_if_eq (tgt := 61) X dX4_isAhead_45 (by decide) (fun c2 => ?_) (fun c2 => ?_)
    · refine g_iload_n X dX4_isAhead_61 rfl 3 rfl ?_
      refine g_iload_n X dX4_isAhead_62 rfl 4 rfl ?_
      refine g_icmp_ge (tgt := 70) X dX4_isAhead_63 (by decide) (fun c3 => ?_) (fun c3 => ?_)
      · refine g_iconst (v := 0) X dX4_isAhead_70 (by decide) ?_
        exact g_zret X F dX4_isAhead_71 (by omega) (by omega) rfl ⟨by rw [bI_f (by unfold rAhd rMore rLess; first | (rw [if_pos c1, if_neg c2]; exact c3) | (rw [if_pos c1, if_neg c2]; exact fun q => q c3) | (rw [if_pos c1, if_neg c2]; exact Int32.not_lt.mpr c3) | (rw [if_pos c1, if_neg c2]; exact Int32.not_le.mp c3) | (rw [if_pos c1, if_pos c2]; exact c3) | (rw [if_pos c1, if_pos c2]; exact fun q => q c3) | (rw [if_pos c1, if_pos c2]; exact Int32.not_lt.mpr c3) | (rw [if_pos c1, if_pos c2]; exact Int32.not_le.mp c3))], rfl⟩
      · refine g_iconst (v := 1) X dX4_isAhead_66 (by decide) ?_
        refine g_goto (tgt := 71) X dX4_isAhead_67 (by decide) ?_
        exact g_zret X F dX4_isAhead_71 (by omega) (by omega) rfl ⟨by rw [bI_t (by unfold rAhd rMore rLess; first | (rw [if_pos c1, if_neg c2]; exact c3) | (rw [if_pos c1, if_neg c2]; exact fun q => q c3) | (rw [if_pos c1, if_neg c2]; exact Int32.not_lt.mpr c3) | (rw [if_pos c1, if_neg c2]; exact Int32.not_le.mp c3) | (rw [if_pos c1, if_pos c2]; exact c3) | (rw [if_pos c1, if_pos c2]; exact fun q => q c3) | (rw [if_pos c1, if_pos c2]; exact Int32.not_lt.mpr c3) | (rw [if_pos c1, if_pos c2]; exact Int32.not_le.mp c3))], rfl⟩
    · refine g_iload X dX4_isAhead_48 0 rfl ?_
      refine g_if_le (tgt := 57) X dX4_isAhead_50 (by decide) (fun c4 => ?_) (fun c4 => ?_)
      · refine g_iconst (v := 0) X dX4_isAhead_57 (by decide) ?_
        refine g_goto (tgt := 71) X dX4_isAhead_58 (by decide) ?_
        exact g_zret X F dX4_isAhead_71 (by omega) (by omega) rfl ⟨by rw [bI_f (by unfold rAhd rMore rLess; first | (rw [if_pos c1, if_neg c2]; exact c4) | (rw [if_pos c1, if_neg c2]; exact fun q => q c4) | (rw [if_pos c1, if_neg c2]; exact Int32.not_lt.mpr c4) | (rw [if_pos c1, if_neg c2]; exact Int32.not_le.mp c4) | (rw [if_pos c1, if_pos c2]; exact c4) | (rw [if_pos c1, if_pos c2]; exact fun q => q c4) | (rw [if_pos c1, if_pos c2]; exact Int32.not_lt.mpr c4) | (rw [if_pos c1, if_pos c2]; exact Int32.not_le.mp c4))], rfl⟩
      · refine g_iconst (v := 1) X dX4_isAhead_53 (by decide) ?_
        refine g_goto (tgt := 71) X dX4_isAhead_54 (by decide) ?_
        exact g_zret X F dX4_isAhead_71 (by omega) (by omega) rfl ⟨by rw [bI_t (by unfold rAhd rMore rLess; first | (rw [if_pos c1, if_neg c2]; exact c4) | (rw [if_pos c1, if_neg c2]; exact fun q => q c4) | (rw [if_pos c1, if_neg c2]; exact Int32.not_lt.mpr c4) | (rw [if_pos c1, if_neg c2]; exact Int32.not_le.mp c4) | (rw [if_pos c1, if_pos c2]; exact c4) | (rw [if_pos c1, if_pos c2]; exact fun q => q c4) | (rw [if_pos c1, if_pos c2]; exact Int32.not_lt.mpr c4) | (rw [if_pos c1, if_pos c2]; exact Int32.not_le.mp c4))], rfl⟩
  · refine g_iload_n X dX4_isAhead_31 rfl 1 rfl ?_
    refine g_if_le (tgt := 39) X dX4_isAhead_32 (by decide) (fun c5 => ?_) (fun c5 => ?_)
    · refine g_iconst (v := 0) X dX4_isAhead_39 (by decide) ?_
      refine g_goto (tgt := 71) X dX4_isAhead_40 (by decide) ?_
      exact g_zret X F dX4_isAhead_71 (by omega) (by omega) rfl ⟨by rw [bI_f (by unfold rAhd rMore rLess; first | (rw [if_neg c1]; exact c5) | (rw [if_neg c1]; exact fun q => q c5) | (rw [if_neg c1]; exact Int32.not_lt.mpr c5) | (rw [if_neg c1]; exact Int32.not_le.mp c5))], rfl⟩
    · refine g_iconst (v := 1) X dX4_isAhead_35 (by decide) ?_
      refine g_goto (tgt := 71) X dX4_isAhead_36 (by decide) ?_
      exact g_zret X F dX4_isAhead_71 (by omega) (by omega) rfl ⟨by rw [bI_t (by unfold rAhd rMore rLess; first | (rw [if_neg c1]; exact c5) | (rw [if_neg c1]; exact fun q => q c5) | (rw [if_neg c1]; exact Int32.not_lt.mpr c5) | (rw [if_neg c1]; exact Int32.not_le.mp c5))], rfl⟩
set_option maxRecDepth 100000 in
set_option maxHeartbeats 4000000 in
theorem c_X4_change (l : Launch) (hl : l.stackTraces = false) (Γ : Gm) (M : Hp) (a : Nat → Nat) (u : HV) (hR : MRep Γ a u M) (hk : KInv u) : Ct l Γ yX4_change cX4_change 1 none 2 0 0 [.ref (a 0)] M (MMu Γ a (.inl none, mChg u) M) := by
  refine Ct.of hl (by decide) (Nat.le_of_ble_eq_true rfl) rfl ?_
  intro κ e1 e2 hnL hRm X F hlt
  subst e1 e2
  obtain ⟨K, hK8, eK⟩ := hk
  refine g_aload_n X dX4_change_0 rfl 0 rfl ?_
  refine g_get X dX4_change_1 (ci := 4) (k := 7) (v := .int (u.1 3)) rfl k1096 (by decide) rfl (MRep.obj hR) rfl ?_
  refine g_if_ne (tgt := 15) X dX4_change_4 (by decide) (fun c1 => ?_) (fun c1 => ?_)
  · exact g_vret X F dX4_change_15 (by omega) (by omega) ⟨rfl, by (show MRep κ.Γ a (mChg u) _); unfold mChg; rw [if_neg c1]; exact hR, Fr.rf⟩
  · refine g_aload_n X dX4_change_7 rfl 0 rfl ?_
    refine g_aload_n X dX4_change_8 rfl 0 rfl ?_
    refine g_get X dX4_change_9 (ci := 4) (k := 1) (v := .ref (a 1)) rfl k1090 (by decide) rfl (MRep.obj hR) rfl ?_
    refine g_callV (As := [.ref (a 1)]) (ci := 4) X dX4_change_12 (c_X4_remember κ.l hl κ.Γ M a u hR 1 K (Or.inl rfl) hK8 eK) k1172 k1174 kp17 k5 k1175 rfl (MRep.obj hR) ⟨rfl, by decide, by decide, (show (parseMethodDescriptor yX4_remember.desc).map (fun d => d.parameters.length) = some 1 by decide +kernel)⟩ rfl (Nat.le_of_ble_eq_true rfl) (by rw [hRm]; decide) (by rw [hRm]; exact ⟨Nat.le_of_ble_eq_true rfl, Nat.le_of_ble_eq_true rfl⟩) (fun v2 M2 h2 => ?_) (fun _ _ h9 => by cases h9.1)
    obtain ⟨e2, hR2, hF2⟩ := h2
    have e2 : (Sum.inl v2 : Res) = .inl none := e2
    cases e2
    exact g_vret X F dX4_change_15 (by omega) (by omega) ⟨rfl, by (show MRep κ.Γ a (mChg u) _); unfold mChg; rw [if_pos c1, eK, cN_nI (by omega)]; exact hR2, hF2⟩
