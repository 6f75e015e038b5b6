def cpR (u : HV) (i j : Nat) : HV := har u j (cpN (u.2.1 i) (u.2.1 j) 181)
def mSh (u : HV) : Nat → HV
  | 0 => hsc u 1 7
  | n + 1 => cpR (mSh u n) (5 + (n + 1)) (5 + n)
def mRem (u : HV) (i K : Nat) : HV := if K = 8 then hsc (cpR (mSh u 7) i 12) 1 8 else hsc (cpR u i (5 + K)) 1 (nI (K + 1))
set_option maxRecDepth 100000 in
set_option maxHeartbeats 4000000 in
theorem c_X4_remember (l : Launch) (hl : l.stackTraces = false) (Γ : Gm) (M : Hp) (a : Nat → Nat) (u : HV) (hR : MRep Γ a u M) (i K : Nat) (hi : i = 1 ∨ i = 3) (hK : K ≤ 8) (eK : u.1 1 = nI K) : Ct l Γ yX4_remember cX4_remember 3 none 1 0 0 [.ref (a 0), .ref (a i)] M (MMu Γ a (.inl none, mRem u i K) M) := by
  refine Ct.of hl (by decide) (Nat.le_of_ble_eq_true rfl) rfl ?_
  intro κ e1 e2 hnL hRm X F hlt
  subst e1 e2
  refine g_aload_n X dX4_remember_0 rfl 0 rfl ?_
  refine g_get X dX4_remember_1 (ci := 4) (k := 5) (v := .int (u.1 1)) rfl k1094 (by decide) rfl (MRep.obj hR) rfl ?_
  refine g_bipush (v := 8) X dX4_remember_4 (by decide) ?_
  refine g_icmp_ne (tgt := 52) X dX4_remember_6 (by decide) (fun c1 => ?_) (fun c1 => ?_)
  · have hK7 : K < 8 := by have h9 : ¬ K = 8 := fun z => c1 (by rw [eK, z]; rfl); omega
    refine g_aload_n X dX4_remember_52 rfl 1 rfl ?_
    refine g_aload_n X dX4_remember_53 rfl 0 rfl ?_
    refine g_get X dX4_remember_54 (ci := 4) (k := 4) (v := .ref (a 4)) rfl k1093 (by decide) rfl (MRep.obj hR) rfl ?_
    refine g_aload_n X dX4_remember_57 rfl 0 rfl ?_
    refine g_get X dX4_remember_58 (ci := 4) (k := 5) (v := .int (u.1 1)) rfl k1094 (by decide) rfl (MRep.obj hR) rfl ?_
    refine g_lit (nI K) eK ?_
    refine g_aaload (t0 := 3) (v := .ref (a (5 + K))) X dX4_remember_61 (MRep.hist hR) rfl rfl (vp_in_nI (by omega) (by decide)) (by rw [cN_nI (by omega), if_pos (by omega)]; rfl) ?_
    refine g_callS (As := [.ref (a i), .ref (a (5 + K))]) X dX4_remember_62 (c_X4_copyRow κ.l hl κ.Γ M a u hR i (5 + K) (by omega) (by omega) (by omega)) k1176 k1177 k5 k1178 ⟨by decide, by decide, (show (parseMethodDescriptor yX4_copyRow.desc).map (fun d => d.parameters.length) = some 2 by decide +kernel)⟩ rfl (Nat.le_of_ble_eq_true rfl) (by rw [hRm]; decide) (by rw [hRm]; exact ⟨Nat.le_of_ble_eq_true rfl, Nat.le_of_ble_eq_true rfl⟩) (fun v2 M2 h2 => ?_) (fun _ _ h9 => by cases h9.1)
    obtain ⟨e2, hR2, hF2⟩ := h2
    have e2 : (Sum.inl v2 : Res) = .inl none := e2
    cases e2
    have hR2 : MRep κ.Γ a (cpR u i (5 + K)) M2 := hR2
    refine g_aload_n X dX4_remember_65 rfl 0 rfl ?_
    refine g_dup X dX4_remember_66 rfl ?_
    refine g_get X dX4_remember_67 (ci := 4) (k := 5) (v := .int (u.1 1)) rfl k1094 (by decide) rfl (MRep.obj hR2) rfl ?_
    refine g_lit (nI K) eK ?_
    refine g_iconst (v := 1) X dX4_remember_70 (by decide) ?_
    refine g_iadd X dX4_remember_71 ?_
    refine g_lit (nI (K + 1)) (nI_addJ K 1) ?_
    refine g_put X dX4_remember_72 (ci := 4) (k := 5) (ty := .int) rfl k1094 (by decide) rfl rfl (by decide +kernel) rfl rfl (Nat.le_of_ble_eq_true rfl) (MRep.obj hR2) ?_
    refine g_gen (P := fun M9 => MRep κ.Γ a (hsc (cpR u i (5 + K)) 1 (nI (K + 1))) M9 ∧ Fr a 15 M M9) ⟨MRep.sc hR2 1 _ rfl, Fr.tr hF2 (Fr.up (by decide))⟩ (fun M3 ⟨hR4, hF5⟩ => ?_)
    exact g_vret X F dX4_remember_75 (by omega) (by omega) ⟨rfl, by (show MRep κ.Γ a (mRem u i K) _); unfold mRem; rw [if_neg (by omega)]; exact hR4, hF5⟩
  · have hK8 : K = 8 := by have h9 := (nI_leJ (a := 8) (b := K) (by decide) (by omega)).mp (by rw [← eK, c1]; exact Int32.le_refl _); omega
    refine g_aload_n X dX4_remember_9 rfl 0 rfl ?_
    refine g_dup X dX4_remember_10 rfl ?_
    refine g_get X dX4_remember_11 (ci := 4) (k := 5) (v := .int (u.1 1)) rfl k1094 (by decide) rfl (MRep.obj hR) rfl ?_
    refine g_iconst (v := 1) X dX4_remember_14 (by decide) ?_
    refine g_isub X dX4_remember_15 ?_
    refine g_lit 7 (by rw [c1]; decide) ?_
    refine g_put X dX4_remember_16 (ci := 4) (k := 5) (ty := .int) rfl k1094 (by decide) rfl rfl (by decide +kernel) rfl rfl (Nat.le_of_ble_eq_true rfl) (MRep.obj hR) ?_
    refine g_gen (P := fun M9 => MRep κ.Γ a (hsc u 1 7) M9 ∧ Fr a 15 M M9) ⟨MRep.sc hR 1 _ rfl, (Fr.up (by decide))⟩ (fun M6 ⟨hR7, hF8⟩ => ?_)
    have hR9 : MRep κ.Γ a (mSh u 0) M6 := hR7
    refine g_iconst (v := 0) X dX4_remember_19 (by decide) ?_
    refine g_istore_n (L' := [(2, .int 0), (0, .ref (a 0)), (1, .ref (a i))]) X dX4_remember_20 rfl (by rw [hnL]; decide) rfl ?_
    refine g_iload_n X dX4_remember_21 rfl 0 rfl ?_
    refine g_aload_n X dX4_remember_22 rfl 1 rfl ?_
    refine g_get X dX4_remember_23 (ci := 4) (k := 5) (v := .int 7) rfl k1094 (by decide) rfl (MRep.obj hR9) rfl ?_
    refine g_icmp_ge (tgt := 52) X dX4_remember_26 (by decide) (fun c10 => absurd c10 (by decide)) (fun c10 => ?_)
    refine g_aload_n X dX4_remember_29 rfl 1 rfl ?_
    refine g_get X dX4_remember_30 (ci := 4) (k := 4) (v := .ref (a 4)) rfl k1093 (by decide) rfl (MRep.obj hR9) rfl ?_
    refine g_iload_n X dX4_remember_33 rfl 0 rfl ?_
    refine g_iconst (v := 1) X dX4_remember_34 (by decide) ?_
    refine g_iadd X dX4_remember_35 ?_
    refine g_lit (y := 1) (by decide) ?_
    refine g_aaload (t0 := 3) (v := .ref (a (5 + 1))) X dX4_remember_36 (MRep.hist hR9) rfl rfl (vin_lit (by decide +kernel)) rfl ?_
    refine g_aload_n X dX4_remember_37 rfl 1 rfl ?_
    refine g_get X dX4_remember_38 (ci := 4) (k := 4) (v := .ref (a 4)) rfl k1093 (by decide) rfl (MRep.obj hR9) rfl ?_
    refine g_iload_n X dX4_remember_41 rfl 0 rfl ?_
    refine g_aaload (t0 := 3) (v := .ref (a (5 + 0))) X dX4_remember_42 (MRep.hist hR9) rfl rfl (vin_lit (by decide +kernel)) rfl ?_
    refine g_callS (As := [.ref (a (5 + 1)), .ref (a (5 + 0))]) X dX4_remember_43 (c_X4_copyRow κ.l hl κ.Γ M6 a (mSh u 0) hR9 (5 + 1) (5 + 0) (by omega) (by omega) (by omega)) k1176 k1177 k5 k1178 ⟨by decide, by decide, (show (parseMethodDescriptor yX4_copyRow.desc).map (fun d => d.parameters.length) = some 2 by decide +kernel)⟩ rfl (Nat.le_of_ble_eq_true rfl) (by rw [hRm]; decide) (by rw [hRm]; exact ⟨Nat.le_of_ble_eq_true rfl, Nat.le_of_ble_eq_true rfl⟩) (fun v11 M11 h11 => ?_) (fun _ _ h9 => by cases h9.1)
    obtain ⟨e11, hR11, hF11⟩ := h11
    have e11 : (Sum.inl v11 : Res) = .inl none := e11
    cases e11
    have hR11 : MRep κ.Γ a (cpR (mSh u 0) (5 + 1) (5 + 0)) M11 := hR11
    have hF11 := Fr.tr hF8 hF11
    have hR12 : MRep κ.Γ a (mSh u 1) M11 := hR11
    refine g_iinc (k := 0) (v := 1) (L' := [(2, .int 1), (0, .ref (a 0)), (1, .ref (a i))]) X dX4_remember_46 rfl (by decide) (by rw [hnL]; decide) rfl ?_
    refine g_goto (tgt := 21) X dX4_remember_49 (by decide) ?_
    refine g_iload_n X dX4_remember_21 rfl 0 rfl ?_
    refine g_aload_n X dX4_remember_22 rfl 1 rfl ?_
    refine g_get X dX4_remember_23 (ci := 4) (k := 5) (v := .int 7) rfl k1094 (by decide) rfl (MRep.obj hR12) rfl ?_
    refine g_icmp_ge (tgt := 52) X dX4_remember_26 (by decide) (fun c13 => absurd c13 (by decide)) (fun c13 => ?_)
    refine g_aload_n X dX4_remember_29 rfl 1 rfl ?_
    refine g_get X dX4_remember_30 (ci := 4) (k := 4) (v := .ref (a 4)) rfl k1093 (by decide) rfl (MRep.obj hR12) rfl ?_
    refine g_iload_n X dX4_remember_33 rfl 0 rfl ?_
    refine g_iconst (v := 1) X dX4_remember_34 (by decide) ?_
    refine g_iadd X dX4_remember_35 ?_
    refine g_lit (y := 2) (by decide) ?_
    refine g_aaload (t0 := 3) (v := .ref (a (5 + 2))) X dX4_remember_36 (MRep.hist hR12) rfl rfl (vin_lit (by decide +kernel)) rfl ?_
    refine g_aload_n X dX4_remember_37 rfl 1 rfl ?_
    refine g_get X dX4_remember_38 (ci := 4) (k := 4) (v := .ref (a 4)) rfl k1093 (by decide) rfl (MRep.obj hR12) rfl ?_
    refine g_iload_n X dX4_remember_41 rfl 0 rfl ?_
    refine g_aaload (t0 := 3) (v := .ref (a (5 + 1))) X dX4_remember_42 (MRep.hist hR12) rfl rfl (vin_lit (by decide +kernel)) rfl ?_
    refine g_callS (As := [.ref (a (5 + 2)), .ref (a (5 + 1))]) X dX4_remember_43 (c_X4_copyRow κ.l hl κ.Γ M11 a (mSh u 1) hR12 (5 + 2) (5 + 1) (by omega) (by omega) (by omega)) k1176 k1177 k5 k1178 ⟨by decide, by decide, (show (parseMethodDescriptor yX4_copyRow.desc).map (fun d => d.parameters.length) = some 2 by decide +kernel)⟩ rfl (Nat.le_of_ble_eq_true rfl) (by rw [hRm]; decide) (by rw [hRm]; exact ⟨Nat.le_of_ble_eq_true rfl, Nat.le_of_ble_eq_true rfl⟩) (fun v14 M14 h14 => ?_) (fun _ _ h9 => by cases h9.1)
    obtain ⟨e14, hR14, hF14⟩ := h14
    have e14 : (Sum.inl v14 : Res) = .inl none := e14
    cases e14
    have hR14 : MRep κ.Γ a (cpR (mSh u 1) (5 + 2) (5 + 1)) M14 := hR14
    have hF14 := Fr.tr hF11 hF14
    have hR15 : MRep κ.Γ a (mSh u 2) M14 := hR14
    refine g_iinc (k := 0) (v := 2) (L' := [(2, .int 2), (0, .ref (a 0)), (1, .ref (a i))]) X dX4_remember_46 rfl (by decide) (by rw [hnL]; decide) rfl ?_
    refine g_goto (tgt := 21) X dX4_remember_49 (by decide) ?_
    refine g_iload_n X dX4_remember_21 rfl 0 rfl ?_
    refine g_aload_n X dX4_remember_22 rfl 1 rfl ?_
    refine g_get X dX4_remember_23 (ci := 4) (k := 5) (v := .int 7) rfl k1094 (by decide) rfl (MRep.obj hR15) rfl ?_
    refine g_icmp_ge (tgt := 52) X dX4_remember_26 (by decide) (fun c16 => absurd c16 (by decide)) (fun c16 => ?_)
    refine g_aload_n X dX4_remember_29 rfl 1 rfl ?_
    refine g_get X dX4_remember_30 (ci := 4) (k := 4) (v := .ref (a 4)) rfl k1093 (by decide) rfl (MRep.obj hR15) rfl ?_
    refine g_iload_n X dX4_remember_33 rfl 0 rfl ?_
    refine g_iconst (v := 1) X dX4_remember_34 (by decide) ?_
    refine g_iadd X dX4_remember_35 ?_
    refine g_lit (y := 3) (by decide) ?_
    refine g_aaload (t0 := 3) (v := .ref (a (5 + 3))) X dX4_remember_36 (MRep.hist hR15) rfl rfl (vin_lit (by decide +kernel)) rfl ?_
    refine g_aload_n X dX4_remember_37 rfl 1 rfl ?_
    refine g_get X dX4_remember_38 (ci := 4) (k := 4) (v := .ref (a 4)) rfl k1093 (by decide) rfl (MRep.obj hR15) rfl ?_
    refine g_iload_n X dX4_remember_41 rfl 0 rfl ?_
    refine g_aaload (t0 := 3) (v := .ref (a (5 + 2))) X dX4_remember_42 (MRep.hist hR15) rfl rfl (vin_lit (by decide +kernel)) rfl ?_
    refine g_callS (As := [.ref (a (5 + 3)), .ref (a (5 + 2))]) X dX4_remember_43 (c_X4_copyRow κ.l hl κ.Γ M14 a (mSh u 2) hR15 (5 + 3) (5 + 2) (by omega) (by omega) (by omega)) k1176 k1177 k5 k1178 ⟨by decide, by decide, (show (parseMethodDescriptor yX4_copyRow.desc).map (fun d => d.parameters.length) = some 2 by decide +kernel)⟩ rfl (Nat.le_of_ble_eq_true rfl) (by rw [hRm]; decide) (by rw [hRm]; exact ⟨Nat.le_of_ble_eq_true rfl, Nat.le_of_ble_eq_true rfl⟩) (fun v17 M17 h17 => ?_) (fun _ _ h9 => by cases h9.1)
    obtain ⟨e17, hR17, hF17⟩ := h17
    have e17 : (Sum.inl v17 : Res) = .inl none := e17
    cases e17
    have hR17 : MRep κ.Γ a (cpR (mSh u 2) (5 + 3) (5 + 2)) M17 := hR17
    have hF17 := Fr.tr hF14 hF17
    have hR18 : MRep κ.Γ a (mSh u 3) M17 := hR17
    refine g_iinc (k := 0) (v := 3) (L' := [(2, .int 3), (0, .ref (a 0)), (1, .ref (a i))]) X dX4_remember_46 rfl (by decide) (by rw [hnL]; decide) rfl ?_
    refine g_goto (tgt := 21) X dX4_remember_49 (by decide) ?_
    refine g_iload_n X dX4_remember_21 rfl 0 rfl ?_
    refine g_aload_n X dX4_remember_22 rfl 1 rfl ?_
    refine g_get X dX4_remember_23 (ci := 4) (k := 5) (v := .int 7) rfl k1094 (by decide) rfl (MRep.obj hR18) rfl ?_
    refine g_icmp_ge (tgt := 52) X dX4_remember_26 (by decide) (fun c19 => absurd c19 (by decide)) (fun c19 => ?_)
    refine g_aload_n X dX4_remember_29 rfl 1 rfl ?_
    refine g_get X dX4_remember_30 (ci := 4) (k := 4) (v := .ref (a 4)) rfl k1093 (by decide) rfl (MRep.obj hR18) rfl ?_
    refine g_iload_n X dX4_remember_33 rfl 0 rfl ?_
    refine g_iconst (v := 1) X dX4_remember_34 (by decide) ?_
    refine g_iadd X dX4_remember_35 ?_
    refine g_lit (y := 4) (by decide) ?_
    refine g_aaload (t0 := 3) (v := .ref (a (5 + 4))) X dX4_remember_36 (MRep.hist hR18) rfl rfl (vin_lit (by decide +kernel)) rfl ?_
    refine g_aload_n X dX4_remember_37 rfl 1 rfl ?_
    refine g_get X dX4_remember_38 (ci := 4) (k := 4) (v := .ref (a 4)) rfl k1093 (by decide) rfl (MRep.obj hR18) rfl ?_
    refine g_iload_n X dX4_remember_41 rfl 0 rfl ?_
    refine g_aaload (t0 := 3) (v := .ref (a (5 + 3))) X dX4_remember_42 (MRep.hist hR18) rfl rfl (vin_lit (by decide +kernel)) rfl ?_
    refine g_callS (As := [.ref (a (5 + 4)), .ref (a (5 + 3))]) X dX4_remember_43 (c_X4_copyRow κ.l hl κ.Γ M17 a (mSh u 3) hR18 (5 + 4) (5 + 3) (by omega) (by omega) (by omega)) k1176 k1177 k5 k1178 ⟨by decide, by decide, (show (parseMethodDescriptor yX4_copyRow.desc).map (fun d => d.parameters.length) = some 2 by decide +kernel)⟩ rfl (Nat.le_of_ble_eq_true rfl) (by rw [hRm]; decide) (by rw [hRm]; exact ⟨Nat.le_of_ble_eq_true rfl, Nat.le_of_ble_eq_true rfl⟩) (fun v20 M20 h20 => ?_) (fun _ _ h9 => by cases h9.1)
    obtain ⟨e20, hR20, hF20⟩ := h20
    have e20 : (Sum.inl v20 : Res) = .inl none := e20
    cases e20
    have hR20 : MRep κ.Γ a (cpR (mSh u 3) (5 + 4) (5 + 3)) M20 := hR20
    have hF20 := Fr.tr hF17 hF20
    have hR21 : MRep κ.Γ a (mSh u 4) M20 := hR20
    refine g_iinc (k := 0) (v := 4) (L' := [(2, .int 4), (0, .ref (a 0)), (1, .ref (a i))]) X dX4_remember_46 rfl (by decide) (by rw [hnL]; decide) rfl ?_
    refine g_goto (tgt := 21) X dX4_remember_49 (by decide) ?_
    refine g_iload_n X dX4_remember_21 rfl 0 rfl ?_
    refine g_aload_n X dX4_remember_22 rfl 1 rfl ?_
    refine g_get X dX4_remember_23 (ci := 4) (k := 5) (v := .int 7) rfl k1094 (by decide) rfl (MRep.obj hR21) rfl ?_
    refine g_icmp_ge (tgt := 52) X dX4_remember_26 (by decide) (fun c22 => absurd c22 (by decide)) (fun c22 => ?_)
    refine g_aload_n X dX4_remember_29 rfl 1 rfl ?_
    refine g_get X dX4_remember_30 (ci := 4) (k := 4) (v := .ref (a 4)) rfl k1093 (by decide) rfl (MRep.obj hR21) rfl ?_
    refine g_iload_n X dX4_remember_33 rfl 0 rfl ?_
    refine g_iconst (v := 1) X dX4_remember_34 (by decide) ?_
    refine g_iadd X dX4_remember_35 ?_
    refine g_lit (y := 5) (by decide) ?_
    refine g_aaload (t0 := 3) (v := .ref (a (5 + 5))) X dX4_remember_36 (MRep.hist hR21) rfl rfl (vin_lit (by decide +kernel)) rfl ?_
    refine g_aload_n X dX4_remember_37 rfl 1 rfl ?_
    refine g_get X dX4_remember_38 (ci := 4) (k := 4) (v := .ref (a 4)) rfl k1093 (by decide) rfl (MRep.obj hR21) rfl ?_
    refine g_iload_n X dX4_remember_41 rfl 0 rfl ?_
    refine g_aaload (t0 := 3) (v := .ref (a (5 + 4))) X dX4_remember_42 (MRep.hist hR21) rfl rfl (vin_lit (by decide +kernel)) rfl ?_
    refine g_callS (As := [.ref (a (5 + 5)), .ref (a (5 + 4))]) X dX4_remember_43 (c_X4_copyRow κ.l hl κ.Γ M20 a (mSh u 4) hR21 (5 + 5) (5 + 4) (by omega) (by omega) (by omega)) k1176 k1177 k5 k1178 ⟨by decide, by decide, (show (parseMethodDescriptor yX4_copyRow.desc).map (fun d => d.parameters.length) = some 2 by decide +kernel)⟩ rfl (Nat.le_of_ble_eq_true rfl) (by rw [hRm]; decide) (by rw [hRm]; exact ⟨Nat.le_of_ble_eq_true rfl, Nat.le_of_ble_eq_true rfl⟩) (fun v23 M23 h23 => ?_) (fun _ _ h9 => by cases h9.1)
    obtain ⟨e23, hR23, hF23⟩ := h23
    have e23 : (Sum.inl v23 : Res) = .inl none := e23
    cases e23
    have hR23 : MRep κ.Γ a (cpR (mSh u 4) (5 + 5) (5 + 4)) M23 := hR23
    have hF23 := Fr.tr hF20 hF23
    have hR24 : MRep κ.Γ a (mSh u 5) M23 := hR23
    refine g_iinc (k := 0) (v := 5) (L' := [(2, .int 5), (0, .ref (a 0)), (1, .ref (a i))]) X dX4_remember_46 rfl (by decide) (by rw [hnL]; decide) rfl ?_
    refine g_goto (tgt := 21) X dX4_remember_49 (by decide) ?_
    refine g_iload_n X dX4_remember_21 rfl 0 rfl ?_
    refine g_aload_n X dX4_remember_22 rfl 1 rfl ?_
    refine g_get X dX4_remember_23 (ci := 4) (k := 5) (v := .int 7) rfl k1094 (by decide) rfl (MRep.obj hR24) rfl ?_
    refine g_icmp_ge (tgt := 52) X dX4_remember_26 (by decide) (fun c25 => absurd c25 (by decide)) (fun c25 => ?_)
    refine g_aload_n X dX4_remember_29 rfl 1 rfl ?_
    refine g_get X dX4_remember_30 (ci := 4) (k := 4) (v := .ref (a 4)) rfl k1093 (by decide) rfl (MRep.obj hR24) rfl ?_
    refine g_iload_n X dX4_remember_33 rfl 0 rfl ?_
    refine g_iconst (v := 1) X dX4_remember_34 (by decide) ?_
    refine g_iadd X dX4_remember_35 ?_
    refine g_lit (y := 6) (by decide) ?_
    refine g_aaload (t0 := 3) (v := .ref (a (5 + 6))) X dX4_remember_36 (MRep.hist hR24) rfl rfl (vin_lit (by decide +kernel)) rfl ?_
    refine g_aload_n X dX4_remember_37 rfl 1 rfl ?_
    refine g_get X dX4_remember_38 (ci := 4) (k := 4) (v := .ref (a 4)) rfl k1093 (by decide) rfl (MRep.obj hR24) rfl ?_
    refine g_iload_n X dX4_remember_41 rfl 0 rfl ?_
    refine g_aaload (t0 := 3) (v := .ref (a (5 + 5))) X dX4_remember_42 (MRep.hist hR24) rfl rfl (vin_lit (by decide +kernel)) rfl ?_
    refine g_callS (As := [.ref (a (5 + 6)), .ref (a (5 + 5))]) X dX4_remember_43 (c_X4_copyRow κ.l hl κ.Γ M23 a (mSh u 5) hR24 (5 + 6) (5 + 5) (by omega) (by omega) (by omega)) k1176 k1177 k5 k1178 ⟨by decide, by decide, (show (parseMethodDescriptor yX4_copyRow.desc).map (fun d => d.parameters.length) = some 2 by decide +kernel)⟩ rfl (Nat.le_of_ble_eq_true rfl) (by rw [hRm]; decide) (by rw [hRm]; exact ⟨Nat.le_of_ble_eq_true rfl, Nat.le_of_ble_eq_true rfl⟩) (fun v26 M26 h26 => ?_) (fun _ _ h9 => by cases h9.1)
    obtain ⟨e26, hR26, hF26⟩ := h26
    have e26 : (Sum.inl v26 : Res) = .inl none := e26
    cases e26
    have hR26 : MRep κ.Γ a (cpR (mSh u 5) (5 + 6) (5 + 5)) M26 := hR26
    have hF26 := Fr.tr hF23 hF26
    have hR27 : MRep κ.Γ a (mSh u 6) M26 := hR26
    refine g_iinc (k := 0) (v := 6) (L' := [(2, .int 6), (0, .ref (a 0)), (1, .ref (a i))]) X dX4_remember_46 rfl (by decide) (by rw [hnL]; decide) rfl ?_
    refine g_goto (tgt := 21) X dX4_remember_49 (by decide) ?_
    refine g_iload_n X dX4_remember_21 rfl 0 rfl ?_
    refine g_aload_n X dX4_remember_22 rfl 1 rfl ?_
    refine g_get X dX4_remember_23 (ci := 4) (k := 5) (v := .int 7) rfl k1094 (by decide) rfl (MRep.obj hR27) rfl ?_
    refine g_icmp_ge (tgt := 52) X dX4_remember_26 (by decide) (fun c28 => absurd c28 (by decide)) (fun c28 => ?_)
    refine g_aload_n X dX4_remember_29 rfl 1 rfl ?_
    refine g_get X dX4_remember_30 (ci := 4) (k := 4) (v := .ref (a 4)) rfl k1093 (by decide) rfl (MRep.obj hR27) rfl ?_
    refine g_iload_n X dX4_remember_33 rfl 0 rfl ?_
    refine g_iconst (v := 1) X dX4_remember_34 (by decide) ?_
    refine g_iadd X dX4_remember_35 ?_
    refine g_lit (y := 7) (by decide) ?_
    refine g_aaload (t0 := 3) (v := .ref (a (5 + 7))) X dX4_remember_36 (MRep.hist hR27) rfl rfl (vin_lit (by decide +kernel)) rfl ?_
    refine g_aload_n X dX4_remember_37 rfl 1 rfl ?_
    refine g_get X dX4_remember_38 (ci := 4) (k := 4) (v := .ref (a 4)) rfl k1093 (by decide) rfl (MRep.obj hR27) rfl ?_
    refine g_iload_n X dX4_remember_41 rfl 0 rfl ?_
    refine g_aaload (t0 := 3) (v := .ref (a (5 + 6))) X dX4_remember_42 (MRep.hist hR27) rfl rfl (vin_lit (by decide +kernel)) rfl ?_
    refine g_callS (As := [.ref (a (5 + 7)), .ref (a (5 + 6))]) X dX4_remember_43 (c_X4_copyRow κ.l hl κ.Γ M26 a (mSh u 6) hR27 (5 + 7) (5 + 6) (by omega) (by omega) (by omega)) k1176 k1177 k5 k1178 ⟨by decide, by decide, (show (parseMethodDescriptor yX4_copyRow.desc).map (fun d => d.parameters.length) = some 2 by decide +kernel)⟩ rfl (Nat.le_of_ble_eq_true rfl) (by rw [hRm]; decide) (by rw [hRm]; exact ⟨Nat.le_of_ble_eq_true rfl, Nat.le_of_ble_eq_true rfl⟩) (fun v29 M29 h29 => ?_) (fun _ _ h9 => by cases h9.1)
    obtain ⟨e29, hR29, hF29⟩ := h29
    have e29 : (Sum.inl v29 : Res) = .inl none := e29
    cases e29
    have hR29 : MRep κ.Γ a (cpR (mSh u 6) (5 + 7) (5 + 6)) M29 := hR29
    have hF29 := Fr.tr hF26 hF29
    have hR30 : MRep κ.Γ a (mSh u 7) M29 := hR29
    refine g_iinc (k := 0) (v := 7) (L' := [(2, .int 7), (0, .ref (a 0)), (1, .ref (a i))]) X dX4_remember_46 rfl (by decide) (by rw [hnL]; decide) rfl ?_
    refine g_goto (tgt := 21) X dX4_remember_49 (by decide) ?_
    refine g_iload_n X dX4_remember_21 rfl 0 rfl ?_
    refine g_aload_n X dX4_remember_22 rfl 1 rfl ?_
    refine g_get X dX4_remember_23 (ci := 4) (k := 5) (v := .int 7) rfl k1094 (by decide) rfl (MRep.obj hR30) rfl ?_
    refine g_icmp_ge (tgt := 52) X dX4_remember_26 (by decide) (fun c31 => ?_) (fun c31 => absurd c31 (by decide))
    refine g_aload_n X dX4_remember_52 rfl 2 rfl ?_
    refine g_aload_n X dX4_remember_53 rfl 1 rfl ?_
    refine g_get X dX4_remember_54 (ci := 4) (k := 4) (v := .ref (a 4)) rfl k1093 (by decide) rfl (MRep.obj hR30) rfl ?_
    refine g_aload_n X dX4_remember_57 rfl 1 rfl ?_
    refine g_get X dX4_remember_58 (ci := 4) (k := 5) (v := .int 7) rfl k1094 (by decide) rfl (MRep.obj hR30) rfl ?_
    refine g_aaload (t0 := 3) (v := .ref (a (5 + 7))) X dX4_remember_61 (MRep.hist hR30) rfl rfl (vin_lit (by decide +kernel)) rfl ?_
    refine g_callS (As := [.ref (a i), .ref (a (5 + 7))]) X dX4_remember_62 (c_X4_copyRow κ.l hl κ.Γ M29 a (mSh u 7) hR30 i (5 + 7) (by omega) (by omega) (by omega)) k1176 k1177 k5 k1178 ⟨by decide, by decide, (show (parseMethodDescriptor yX4_copyRow.desc).map (fun d => d.parameters.length) = some 2 by decide +kernel)⟩ rfl (Nat.le_of_ble_eq_true rfl) (by rw [hRm]; decide) (by rw [hRm]; exact ⟨Nat.le_of_ble_eq_true rfl, Nat.le_of_ble_eq_true rfl⟩) (fun v32 M32 h32 => ?_) (fun _ _ h9 => by cases h9.1)
    obtain ⟨e32, hR32, hF32⟩ := h32
    have e32 : (Sum.inl v32 : Res) = .inl none := e32
    cases e32
    have hR32 : MRep κ.Γ a (cpR (mSh u 7) i (5 + 7)) M32 := hR32
    have hF32 := Fr.tr hF29 hF32
    refine g_aload_n X dX4_remember_65 rfl 1 rfl ?_
    refine g_dup X dX4_remember_66 rfl ?_
    refine g_get X dX4_remember_67 (ci := 4) (k := 5) (v := .int 7) rfl k1094 (by decide) rfl (MRep.obj hR32) rfl ?_
    refine g_iconst (v := 1) X dX4_remember_70 (by decide) ?_
    refine g_iadd X dX4_remember_71 ?_
    refine g_lit (y := 8) (by decide) ?_
    refine g_put X dX4_remember_72 (ci := 4) (k := 5) (ty := .int) rfl k1094 (by decide) rfl rfl (by decide +kernel) rfl rfl (Nat.le_of_ble_eq_true rfl) (MRep.obj hR32) ?_
    refine g_gen (P := fun M9 => MRep κ.Γ a (hsc (cpR (mSh u 7) i (5 + 7)) 1 8) M9 ∧ Fr a 15 M M9) ⟨MRep.sc hR32 1 _ rfl, Fr.tr hF32 (Fr.up (by decide))⟩ (fun M33 ⟨hR34, hF35⟩ => ?_)
    exact g_vret X F dX4_remember_75 (by omega) (by omega) ⟨rfl, by (show MRep κ.Γ a (mRem u i K) _); unfold mRem; rw [if_pos hK8]; exact hR34, hF35⟩
