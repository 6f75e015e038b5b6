def cpR (u : HV) (i j : Nat) : HV := har u j (cpN (u.2.1 i) (u.2.1 j) 181)
def mSh (u : HV) : Nat → HV
  | 0 => hsc u 1 7
  | n + 1 => cpR (mSh u n) (5 + (n + 1)) (5 + n)
def mRem (u : HV) (i K : Nat) : HV := if K = 8 then hsc (cpR (mSh u 7) i 12) 1 8 else hsc (cpR u i (5 + K)) 1 (nI (K + 1))
set_option maxRecDepth 100000 in
set_option maxHeartbeats 4000000 in
theorem c_X4_remember (l : Launch) (hl : l.stackTraces = false) (Γ : Gm) (M : Hp) (a : Nat → Nat) (u : HV) (hR : MRep Γ a u M) (i K : Nat) (hi : i = 1 ∨ i = 3) (hK : K ≤ 8) (eK : u.1 1 = nI K) : Ct l Γ yX4_remember cX4_remember 3 none 1 0 0 [.ref (a 0), .ref (a i)] M (MMu Γ a (.inl none, mRem u i K) M) := by
  refine Ct.of hl (by decide) (Nat.le_of_ble_eq_true rfl) rfl ?_
  intro κ e1 e2 hnL hRm X F hlt
  subst e1 e2
  refine g_aload_n X dX4_remember_0 rfl 0 rfl ?_
  refine g_get X dX4_remember_1 (ci := 4) (k := 5) (v := .int (u.1 1)) rfl k1094 (by decide) rfl (MRep.obj hR) rfl ?_
  refine g_bipush (v := 8) X dX4_remember_4 (by decide) ?_
  refine g_icmp_ne (tgt := 52) X dX4_remember_6 (by decide) (fun c1 => ?_) (fun c1 => ?_)
  · have hK7 : K < 8 := by have h9 : ¬ K = 8 := fun z => c1 (by rw [eK, z]; rfl); omega
    refine g_aload_n X dX4_remember_52 rfl 1 rfl ?_
    refine g_aload_n X dX4_remember_53 rfl 0 rfl ?_
    refine g_get X dX4_remember_54 (ci := 4) (k := 4) (v := .ref (a 4)) rfl k1093 (by decide) rfl (MRep.obj hR) rfl ?_
    refine g_aload_n X dX4_remember_57 rfl 0 rfl ?_
    refine g_get X dX4_remember_58 (ci := 4) (k := 5) (v := .int (u.1 1)) rfl k1094 (by decide) rfl (MRep.obj hR) rfl ?_
    refine g_lit (nI K) eK ?_
    refine g_aaload (t0 := 3) (v := .ref (a (5 + K))) X dX4_remember_61 (MRep.hist hR) rfl rfl (vp_in_nI (by omega) (by decide)) (by rw [cN_nI (by omega), if_pos (by omega)]; rfl) ?_
    refine g_callS (As := [.ref (a i), .ref (a (5 + K))]) X dX4_remember_62 (c_X4_copyRow κ.l hl κ.Γ M a u hR i (5 + K) (by omega) (by omega) (by omega)) k1176 k1177 k5 k1178 ⟨by decide, by decide, (show (parseMethodDescriptor yX4_copyRow.desc).map (fun d => d.parameters.length) = some 2 by decide +kernel)⟩ rfl (Nat.le_of_ble_eq_true rfl) (by rw [hRm]; decide) (by rw [hRm]; exact ⟨Nat.le_of_ble_eq_true rfl, Nat.le_of_ble_eq_true rfl⟩) (fun v1 M1 h1 => ?_) (fun _ _ h9 => by cases h9.1)
    obtain ⟨e1, hR1, hF1⟩ := h1
    have e1 : (Sum.inl v1 : Res) = .inl none := e1
    cases e1
    have hR1 : MRep κ.Γ a (cpR u i (5 + K)) M1 := hR1
    refine g_aload_n X dX4_remember_65 rfl 0 rfl ?_
    refine g_dup X dX4_remember_66 rfl ?_
    refine g_get X dX4_remember_67 (ci := 4) (k := 5) (v := .int (u.1 1)) rfl k1094 (by decide) rfl (MRep.obj hR1) rfl ?_
    refine g_lit (nI K) eK ?_
    refine g_iconst (v := 1) X dX4_remember_70 (by decide) ?_
    refine g_iadd X dX4_remember_71 ?_
    refine g_lit (nI (K + 1)) (nI_addJ K 1) ?_
    refine g_put X dX4_remember_72 (ci := 4) (k := 5) (ty := .int) rfl k1094 (by decide) rfl rfl (by decide +kernel) rfl rfl (Nat.le_of_ble_eq_true rfl) (MRep.obj hR1) ?_
    refine g_gen (P := fun M9 => MRep κ.Γ a (hsc (cpR u i (5 + K)) 1 (nI (K + 1))) M9 ∧ Fr a 15 M M9) ⟨MRep.sc hR1 1 _ rfl, Fr.tr hF1 (Fr.up (by decide))⟩ (fun M3 ⟨hR4, hF5⟩ => ?_)
    exact g_vret X F dX4_remember_75 (by omega) (by omega) ⟨rfl, by (show MRep κ.Γ a (mRem u i K) _); unfold mRem; rw [if_neg (by omega)]; exact hR4, hF5⟩
  · have hK8 : K = 8 := by have h9 := (nI_leJ (a := 8) (b := K) (by decide) (by omega)).mp (by rw [← eK, c1]; exact Int32.le_refl _); omega
    refine g_aload_n X dX4_remember_9 rfl 0 rfl ?_
    refine g_dup X dX4_remember_10 rfl ?_
    refine g_get X dX4_remember_11 (ci := 4) (k := 5) (v := .int (u.1 1)) rfl k1094 (by decide) rfl (MRep.obj hR) rfl ?_
    refine g_iconst (v := 1) X dX4_remember_14 (by decide) ?_
    refine g_isub X dX4_remember_15 ?_
    refine g_lit 7 (by rw [c1]; decide) ?_
    refine g_put X dX4_remember_16 (ci := 4) (k := 5) (ty := .int) rfl k1094 (by decide) rfl rfl (by decide +kernel) rfl rfl (Nat.le_of_ble_eq_true rfl) (MRep.obj hR) ?_
    refine g_gen (P := fun M9 => MRep κ.Γ a (hsc u 1 7) M9 ∧ Fr a 15 M M9) ⟨MRep.sc hR 1 _ rfl, (Fr.up (by decide))⟩ (fun M6 ⟨hR7, hF8⟩ => ?_)
    have hR9 : MRep κ.Γ a (mSh u 0) M6 := hR7
    refine g_iconst (v := 0) X dX4_remember_19 (by decide) ?_
    refine g_istore_n (L' := [(2, .int 0), (0, .ref (a 0)), (1, .ref (a i))]) X dX4_remember_20 rfl (by rw [hnL]; decide) rfl ?_
    refine g_iload_n X dX4_remember_21 rfl 0 rfl ?_
    refine g_aload_n X dX4_remember_22 rfl 1 rfl ?_
    refine g_get X dX4_remember_23 (ci := 4) (k := 5) (v := .int 7) rfl k1094 (by decide) rfl (MRep.obj hR9) rfl ?_
    refine g_icmp_ge (tgt := 52) X dX4_remember_26 (by decide) (fun c10 => absurd c10 (by decide)) (fun c10 => ?_)
    refine g_aload_n X dX4_remember_29 rfl 1 rfl ?_
    refine g_get X dX4_remember_30 (ci := 4) (k := 4) (v := .ref (a 4)) rfl k1093 (by decide) rfl (MRep.obj hR9) rfl ?_
    refine g_iload_n X dX4_remember_33 rfl 0 rfl ?_
    refine g_iconst (v := 1) X dX4_remember_34 (by decide) ?_
    refine g_iadd X dX4_remember_35 ?_
    refine g_lit (y := 1) (by decide) ?_
    refine g_aaload (t0 := 3) (v := .ref (a (5 + 1))) X dX4_remember_36 (MRep.hist hR9) rfl rfl (vin_lit (by decide +kernel)) rfl ?_
    refine g_aload_n X dX4_remember_37 rfl 1 rfl ?_
    refine g_get X dX4_remember_38 (ci := 4) (k := 4) (v := .ref (a 4)) rfl k1093 (by decide) rfl (MRep.obj hR9) rfl ?_
    refine g_iload_n X dX4_remember_41 rfl 0 rfl ?_
    refine g_aaload (t0 := 3) (v := .ref (a (5 + 0))) X dX4_remember_42 (MRep.hist hR9) rfl rfl (vin_lit (by decide +kernel)) rfl ?_
    refine g_callS (As := [.ref (a (5 + 1)), .ref (a (5 + 0))]) X dX4_remember_43 (c_X4_copyRow κ.l hl κ.Γ M6 a (mSh u 0) hR9 (5 + 1) (5 + 0) (by omega) (by omega) (by omega)) k1176 k1177 k5 k1178 ⟨by decide, by decide, (show (parseMethodDescriptor yX4_copyRow.desc).map (fun d => d.parameters.length) = some 2 by decide +kernel)⟩ rfl (Nat.le_of_ble_eq_true rfl) (by rw [hRm]; decide) (by rw [hRm]; exact ⟨Nat.le_of_ble_eq_true rfl, Nat.le_of_ble_eq_true rfl⟩) (fun v10 M10 h10 => ?_) (fun _ _ h9 => by cases h9.1)
    obtain ⟨e10, hR10, hF10⟩ := h10
    have e10 : (Sum.inl v10 : Res) = .inl none := e10
    cases e10
    have hR10 : MRep κ.Γ a (cpR (mSh u 0) (5 + 1) (5 + 0)) M10 := hR10
    have hF10 := Fr.tr hF8 hF10
    have hR12 : MRep κ.Γ a (mSh u 1) M10 := hR10
    refine g_iinc (k := 0) (v := 1) (L' := [(2, .int 1), (0, .ref (a 0)), (1, .ref (a i))]) X dX4_remember_46 rfl (by decide) (by rw [hnL]; decide) rfl ?_
    refine g_goto (tgt := 21) X dX4_remember_49 (by decide) ?_
    refine g_iload_n X dX4_remember_21 rfl 0 rfl ?_
    refine g_aload_n X dX4_remember_22 rfl 1 rfl ?_
    refine g_get X dX4_remember_23 (ci := 4) (k := 5) (v := .int 7) rfl k1094 (by decide) rfl (MRep.obj hR12) rfl ?_
    refine g_icmp_ge (tgt := 52) X dX4_remember_26 (by decide) (fun c13 => absurd c13 (by decide)) (fun c13 => ?_)
    refine g_aload_n X dX4_remember_29 rfl 1 rfl ?_
    refine g_get X dX4_remember_30 (ci := 4) (k := 4) (v := .ref (a 4)) rfl k1093 (by decide) rfl (MRep.obj hR12) rfl ?_
    refine g_iload_n X dX4_remember_33 rfl 0 rfl ?_
    refine g_iconst (v := 1) X dX4_remember_34 (by decide) ?_
    refine g_iadd X dX4_remember_35 ?_
    refine g_lit (y := 2) (by decide) ?_
    refine g_aaload (t0 := 3) (v := .ref (a (5 + 2))) X dX4_remember_36 (MRep.hist hR12) rfl rfl (vin_lit (by decide +kernel)) rfl ?_
    refine g_aload_n X dX4_remember_37 rfl 1 rfl ?_
    refine g_get X dX4_remember_38 (ci := 4) (k := 4) (v := .ref (a 4)) rfl k1093 (by decide) rfl (MRep.obj hR12) rfl ?_
    refine g_iload_n X dX4_remember_41 rfl 0 rfl ?_
    refine g_aaload (t0 := 3) (v := .ref (a (5 + 1))) X dX4_remember_42 (MRep.hist hR12) rfl rfl (vin_lit (by decide +kernel)) rfl ?_
    refine g_callS (As := [.ref (a (5 + 2)), .ref (a (5 + 1))]) X dX4_remember_43 (c_X4_copyRow κ.l hl κ.Γ M10 a (mSh u 1) hR12 (5 + 2) (5 + 1) (by omega) (by omega) (by omega)) k1176 k1177 k5 k1178 ⟨by decide, by decide, (show (parseMethodDescriptor yX4_copyRow.desc).map (fun d => d.parameters.length) = some 2 by decide +kernel)⟩ rfl (Nat.le_of_ble_eq_true rfl) (by rw [hRm]; decide) (by rw [hRm]; exact ⟨Nat.le_of_ble_eq_true rfl, Nat.le_of_ble_eq_true rfl⟩) (fun v13 M13 h13 => ?_) (fun _ _ h9 => by cases h9.1)
    obtain ⟨e13, hR13, hF13⟩ := h13
    have e13 : (Sum.inl v13 : Res) = .inl none := e13
    cases e13
    have hR13 : MRep κ.Γ a (cpR (mSh u 1) (5 + 2) (5 + 1)) M13 := hR13
    have hF13 := Fr.tr hF10 hF13
    have hR15 : MRep κ.Γ a (mSh u 2) M13 := hR13
    refine g_iinc (k := 0) (v := 2) (L' := [(2, .int 2), (0, .ref (a 0)), (1, .ref (a i))]) X dX4_remember_46 rfl (by decide) (by rw [hnL]; decide) rfl ?_
    refine g_goto (tgt := 21) X dX4_remember_49 (by decide) ?_
    refine g_iload_n X dX4_remember_21 rfl 0 rfl ?_
    refine g_aload_n X dX4_remember_22 rfl 1 rfl ?_
    refine g_get X dX4_remember_23 (ci := 4) (k := 5) (v := .int 7) rfl k1094 (by decide) rfl (MRep.obj hR15) rfl ?_
    refine g_icmp_ge (tgt := 52) X dX4_remember_26 (by decide) (fun c16 => absurd c16 (by decide)) (fun c16 => ?_)
    refine g_aload_n X dX4_remember_29 rfl 1 rfl ?_
    refine g_get X dX4_remember_30 (ci := 4) (k := 4) (v := .ref (a 4)) rfl k1093 (by decide) rfl (MRep.obj hR15) rfl ?_
    refine g_iload_n X dX4_remember_33 rfl 0 rfl ?_
    refine g_iconst (v := 1) X dX4_remember_34 (by decide) ?_
    refine g_iadd X dX4_remember_35 ?_
    refine g_lit (y := 3) (by decide) ?_
    refine g_aaload (t0 := 3) (v := .ref (a (5 + 3))) X dX4_remember_36 (MRep.hist hR15) rfl rfl (vin_lit (by decide +kernel)) rfl ?_
    refine g_aload_n X dX4_remember_37 rfl 1 rfl ?_
    refine g_get X dX4_remember_38 (ci := 4) (k := 4) (v := .ref (a 4)) rfl k1093 (by decide) rfl (MRep.obj hR15) rfl ?_
    refine g_iload_n X dX4_remember_41 rfl 0 rfl ?_
    refine g_aaload (t0 := 3) (v := .ref (a (5 + 2))) X dX4_remember_42 (MRep.hist hR15) rfl rfl (vin_lit (by decide +kernel)) rfl ?_
    refine g_callS (As := [.ref (a (5 + 3)), .ref (a (5 + 2))]) X dX4_remember_43 (c_X4_copyRow κ.l hl κ.Γ M13 a (mSh u 2) hR15 (5 + 3) (5 + 2) (by omega) (by omega) (by omega)) k1176 k1177 k5 k1178 ⟨by decide, by decide, (show (parseMethodDescriptor yX4_copyRow.desc).map (fun d => d.parameters.length) = some 2 by decide +kernel)⟩ rfl (Nat.le_of_ble_eq_true rfl) (by rw [hRm]; decide) (by rw [hRm]; exact ⟨Nat.le_of_ble_eq_true rfl, Nat.le_of_ble_eq_true rfl⟩) (fun v16 M16 h16 => ?_) (fun _ _ h9 => by cases h9.1)
    obtain ⟨e16, hR16, hF16⟩ := h16
    have e16 : (Sum.inl v16 : Res) = .inl none := e16
    cases e16
    have hR16 : MRep κ.Γ a (cpR (mSh u 2) (5 + 3) (5 + 2)) M16 := hR16
    have hF16 := Fr.tr hF13 hF16
    have hR18 : MRep κ.Γ a (mSh u 3) M16 := hR16
    refine g_iinc (k := 0) (v := 3) (L' := [(2, .int 3), (0, .ref (a 0)), (1, .ref (a i))]) X dX4_remember_46 rfl (by decide) (by rw [hnL]; decide) rfl ?_
    refine g_goto (tgt := 21) X dX4_remember_49 (by decide) ?_
    refine g_iload_n X dX4_remember_21 rfl 0 rfl ?_
    refine g_aload_n X dX4_remember_22 rfl 1 rfl ?_
    refine g_get X dX4_remember_23 (ci := 4) (k := 5) (v := .int 7) rfl k1094 (by decide) rfl (MRep.obj hR18) rfl ?_
    refine g_icmp_ge (tgt := 52) X dX4_remember_26 (by decide) (fun c19 => absurd c19 (by decide)) (fun c19 => ?_)
    refine g_aload_n X dX4_remember_29 rfl 1 rfl ?_
    refine g_get X dX4_remember_30 (ci := 4) (k := 4) (v := .ref (a 4)) rfl k1093 (by decide) rfl (MRep.obj hR18) rfl ?_
    refine g_iload_n X dX4_remember_33 rfl 0 rfl ?_
    refine g_iconst (v := 1) X dX4_remember_34 (by decide) ?_
    refine g_iadd X dX4_remember_35 ?_
    refine g_lit (y := 4) (by decide) ?_
    refine g_aaload (t0 := 3) (v := .ref (a (5 + 4))) X dX4_remember_36 (MRep.hist hR18) rfl rfl (vin_lit (by decide +kernel)) rfl ?_
    refine g_aload_n X dX4_remember_37 rfl 1 rfl ?_
    refine g_get X dX4_remember_38 (ci := 4) (k := 4) (v := .ref (a 4)) rfl k1093 (by decide) rfl (MRep.obj hR18) rfl ?_
    refine g_iload_n X dX4_remember_41 rfl 0 rfl ?_
    refine g_aaload (t0 := 3) (v := .ref (a (5 + 3))) X dX4_remember_42 (MRep.hist hR18) rfl rfl (vin_lit (by decide +kernel)) rfl ?_
    refine g_callS (As := [.ref (a (5 + 4)), .ref (a (5 + 3))]) X dX4_remember_43 (c_X4_copyRow κ.l hl κ.Γ M16 a (mSh u 3) hR18 (5 + 4) (5 + 3) (by omega) (by omega) (by omega)) k1176 k1177 k5 k1178 ⟨by decide, by decide, (show (parseMethodDescriptor yX4_copyRow.desc).map (fun d => d.parameters.length) = some 2 by decide +kernel)⟩ rfl (Nat.le_of_ble_eq_true rfl) (by rw [hRm]; decide) (by rw [hRm]; exact ⟨Nat.le_of_ble_eq_true rfl, Nat.le_of_ble_eq_true rfl⟩) (fun v19 M19 h19 => ?_) (fun _ _ h9 => by cases h9.1)
    obtain ⟨e19, hR19, hF19⟩ := h19
    have e19 : (Sum.inl v19 : Res) = .inl none := e19
    cases e19
    have hR19 : MRep κ.Γ a (cpR (mSh u 3) (5 + 4) (5 + 3)) M19 := hR19
    have hF19 := Fr.tr hF16 hF19
    have hR21 : MRep κ.Γ a (mSh u 4) M19 := hR19
    refine g_iinc (k := 0) (v := 4) (L' := [(2, .int 4), (0, .ref (a 0)), (1, .ref (a i))]) X dX4_remember_46 rfl (by decide) (by rw [hnL]; decide) rfl ?_
    refine g_goto (tgt := 21) X dX4_remember_49 (by decide) ?_
    refine g_iload_n X dX4_remember_21 rfl 0 rfl ?_
    refine g_aload_n X dX4_remember_22 rfl 1 rfl ?_
    refine g_get X dX4_remember_23 (ci := 4) (k := 5) (v := .int 7) rfl k1094 (by decide) rfl (MRep.obj hR21) rfl ?_
    refine g_icmp_ge (tgt := 52) X dX4_remember_26 (by decide) (fun c22 => absurd c22 (by decide)) (fun c22 => ?_)
    refine g_aload_n X dX4_remember_29 rfl 1 rfl ?_
    refine g_get X dX4_remember_30 (ci := 4) (k := 4) (v := .ref (a 4)) rfl k1093 (by decide) rfl (MRep.obj hR21) rfl ?_
    refine g_iload_n X dX4_remember_33 rfl 0 rfl ?_
    refine g_iconst (v := 1) X dX4_remember_34 (by decide) ?_
    refine g_iadd X dX4_remember_35 ?_
    refine g_lit (y := 5) (by decide) ?_
    refine g_aaload (t0 := 3) (v := .ref (a (5 + 5))) X dX4_remember_36 (MRep.hist hR21) rfl rfl (vin_lit (by decide +kernel)) rfl ?_
    refine g_aload_n X dX4_remember_37 rfl 1 rfl ?_
    refine g_get X dX4_remember_38 (ci := 4) (k := 4) (v := .ref (a 4)) rfl k1093 (by decide) rfl (MRep.obj hR21) rfl ?_
    refine g_iload_n X dX4_remember_41 rfl 0 rfl ?_
    refine g_aaload (t0 := 3) (v := .ref (a (5 + 4))) X dX4_remember_42 (MRep.hist hR21) rfl rfl (vin_lit (by decide +kernel)) rfl ?_
    refine g_callS (As := [.ref (a (5 + 5)), .ref (a (5 + 4))]) X dX4_remember_43 (c_X4_copyRow κ.l hl κ.Γ M19 a (mSh u 4) hR21 (5 + 5) (5 + 4) (by omega) (by omega) (by omega)) k1176 k1177 k5 k1178 ⟨by decide, by decide, (show (parseMethodDescriptor yX4_copyRow.desc).map (fun d => d.parameters.length) = some 2 by decide +kernel)⟩ rfl (Nat.le_of_ble_eq_true rfl) (by rw [hRm]; decide) (by rw [hRm]; exact ⟨Nat.le_of_ble_eq_true rfl, Nat.le_of_ble_eq_true rfl⟩) (fun v22 M22 h22 => ?_) (fun _ _ h9 => by cases h9.1)
    obtain ⟨e22, hR22, hF22⟩ := h22
    have e22 : (Sum.inl v22 : Res) = .inl none := e22
    cases e22
    have hR22 : MRep κ.Γ a (cpR (mSh u 4) (5 + 5) (5 + 4)) M22 := hR22
    have hF22 := Fr.tr hF19 hF22
    have hR24 : MRep κ.Γ a (mSh u 5) M22 := hR22
    refine g_iinc (k := 0) (v := 5) (L' := [(2, .int 5), (0, .ref (a 0)), (1, .ref (a i))]) X dX4_remember_46 rfl (by decide) (by rw [hnL]; decide) rfl ?_
    refine g_goto (tgt := 21) X dX4_remember_49 (by decide) ?_
    refine g_iload_n X dX4_remember_21 rfl 0 rfl ?_
    refine g_aload_n X dX4_remember_22 rfl 1 rfl ?_
    refine g_get X dX4_remember_23 (ci := 4) (k := 5) (v := .int 7) rfl k1094 (by decide) rfl (MRep.obj hR24) rfl ?_
    refine g_icmp_ge (tgt := 52) X dX4_remember_26 (by decide) (fun c25 => absurd c25 (by decide)) (fun c25 => ?_)
    refine g_aload_n X dX4_remember_29 rfl 1 rfl ?_
    refine g_get X dX4_remember_30 (ci := 4) (k := 4) (v := .ref (a 4)) rfl k1093 (by decide) rfl (MRep.obj hR24) rfl ?_
    refine g_iload_n X dX4_remember_33 rfl 0 rfl ?_
    refine g_iconst (v := 1) X dX4_remember_34 (by decide) ?_
    refine g_iadd X dX4_remember_35 ?_
    refine g_lit (y := 6) (by decide) ?_
    refine g_aaload (t0 := 3) (v := .ref (a (5 + 6))) X dX4_remember_36 (MRep.hist hR24) rfl rfl (vin_lit (by decide +kernel)) rfl ?_
    refine g_aload_n X dX4_remember_37 rfl 1 rfl ?_
    refine g_get X dX4_remember_38 (ci := 4) (k := 4) (v := .ref (a 4)) rfl k1093 (by decide) rfl (MRep.obj hR24) rfl ?_
    refine g_iload_n X dX4_remember_41 rfl 0 rfl ?_
    refine g_aaload (t0 := 3) (v := .ref (a (5 + 5))) X dX4_remember_42 (MRep.hist hR24) rfl rfl (vin_lit (by decide +kernel)) rfl ?_
    refine g_callS (As := [.ref (a (5 + 6)), .ref (a (5 + 5))]) X dX4_remember_43 (c_X4_copyRow κ.l hl κ.Γ M22 a (mSh u 5) hR24 (5 + 6) (5 + 5) (by omega) (by omega) (by omega)) k1176 k1177 k5 k1178 ⟨by decide, by decide, (show (parseMethodDescriptor yX4_copyRow.desc).map (fun d => d.parameters.length) = some 2 by decide +kernel)⟩ rfl (Nat.le_of_ble_eq_true rfl) (by rw [hRm]; decide) (by rw [hRm]; exact ⟨Nat.le_of_ble_eq_true rfl, Nat.le_of_ble_eq_true rfl⟩) (fun v25 M25 h25 => ?_) (fun _ _ h9 => by cases h9.1)
    obtain ⟨e25, hR25, hF25⟩ := h25
    have e25 : (Sum.inl v25 : Res) = .inl none := e25
    cases e25
    have hR25 : MRep κ.Γ a (cpR (mSh u 5) (5 + 6) (5 + 5)) M25 := hR25
    have hF25 := Fr.tr hF22 hF25
    have hR27 : MRep κ.Γ a (mSh u 6) M25 := hR25
    refine g_iinc (k := 0) (v := 6) (L' := [(2, .int 6), (0, .ref (a 0)), (1, .ref (a i))]) X dX4_remember_46 rfl (by decide) (by rw [hnL]; decide) rfl ?_
    refine g_goto (tgt := 21) X dX4_remember_49 (by decide) ?_
    refine g_iload_n X dX4_remember_21 rfl 0 rfl ?_
    refine g_aload_n X dX4_remember_22 rfl 1 rfl ?_
    refine g_get X dX4_remember_23 (ci := 4) (k := 5) (v := .int 7) rfl k1094 (by decide) rfl (MRep.obj hR27) rfl ?_
    refine g_icmp_ge (tgt := 52) X dX4_remember_26 (by decide) (fun c28 => absurd c28 (by decide)) (fun c28 => ?_)
    refine g_aload_n X dX4_remember_29 rfl 1 rfl ?_
    refine g_get X dX4_remember_30 (ci := 4) (k := 4) (v := .ref (a 4)) rfl k1093 (by decide) rfl (MRep.obj hR27) rfl ?_
    refine g_iload_n X dX4_remember_33 rfl 0 rfl ?_
    refine g_iconst (v := 1) X dX4_remember_34 (by decide) ?_
    refine g_iadd X dX4_remember_35 ?_
    refine g_lit (y := 7) (by decide) ?_
    refine g_aaload (t0 := 3) (v := .ref (a (5 + 7))) X dX4_remember_36 (MRep.hist hR27) rfl rfl (vin_lit (by decide +kernel)) rfl ?_
    refine g_aload_n X dX4_remember_37 rfl 1 rfl ?_
    refine g_get X dX4_remember_38 (ci := 4) (k := 4) (v := .ref (a 4)) rfl k1093 (by decide) rfl (MRep.obj hR27) rfl ?_
    refine g_iload_n X dX4_remember_41 rfl 0 rfl ?_
    refine g_aaload (t0 := 3) (v := .ref (a (5 + 6))) X dX4_remember_42 (MRep.hist hR27) rfl rfl (vin_lit (by decide +kernel)) rfl ?_
    refine g_callS (As := [.ref (a (5 + 7)), .ref (a (5 + 6))]) X dX4_remember_43 (c_X4_copyRow κ.l hl κ.Γ M25 a (mSh u 6) hR27 (5 + 7) (5 + 6) (by omega) (by omega) (by omega)) k1176 k1177 k5 k1178 ⟨by decide, by decide, (show (parseMethodDescriptor yX4_copyRow.desc).map (fun d => d.parameters.length) = some 2 by decide +kernel)⟩ rfl (Nat.le_of_ble_eq_true rfl) (by rw [hRm]; decide) (by rw [hRm]; exact ⟨Nat.le_of_ble_eq_true rfl, Nat.le_of_ble_eq_true rfl⟩) (fun v28 M28 h28 => ?_) (fun _ _ h9 => by cases h9.1)
    obtain ⟨e28, hR28, hF28⟩ := h28
    have e28 : (Sum.inl v28 : Res) = .inl none := e28
    cases e28
    have hR28 : MRep κ.Γ a (cpR (mSh u 6) (5 + 7) (5 + 6)) M28 := hR28
    have hF28 := Fr.tr hF25 hF28
    have hR30 : MRep κ.Γ a (mSh u 7) M28 := hR28
    refine g_iinc (k := 0) (v := 7) (L' := [(2, .int 7), (0, .ref (a 0)), (1, .ref (a i))]) X dX4_remember_46 rfl (by decide) (by rw [hnL]; decide) rfl ?_
    refine g_goto (tgt := 21) X dX4_remember_49 (by decide) ?_
    refine g_iload_n X dX4_remember_21 rfl 0 rfl ?_
    refine g_aload_n X dX4_remember_22 rfl 1 rfl ?_
    refine g_get X dX4_remember_23 (ci := 4) (k := 5) (v := .int 7) rfl k1094 (by decide) rfl (MRep.obj hR30) rfl ?_
    refine g_icmp_ge (tgt := 52) X dX4_remember_26 (by decide) (fun c31 => ?_) (fun c31 => absurd c31 (by decide))
    refine g_aload_n X dX4_remember_52 rfl 2 rfl ?_
    refine g_aload_n X dX4_remember_53 rfl 1 rfl ?_
    refine g_get X dX4_remember_54 (ci := 4) (k := 4) (v := .ref (a 4)) rfl k1093 (by decide) rfl (MRep.obj hR30) rfl ?_
    refine g_aload_n X dX4_remember_57 rfl 1 rfl ?_
    refine g_get X dX4_remember_58 (ci := 4) (k := 5) (v := .int 7) rfl k1094 (by decide) rfl (MRep.obj hR30) rfl ?_
    refine g_aaload (t0 := 3) (v := .ref (a (5 + 7))) X dX4_remember_61 (MRep.hist hR30) rfl rfl (vin_lit (by decide +kernel)) rfl ?_
    refine g_callS (As := [.ref (a i), .ref (a (5 + 7))]) X dX4_remember_62 (c_X4_copyRow κ.l hl κ.Γ M28 a (mSh u 7) hR30 i (5 + 7) (by omega) (by omega) (by omega)) k1176 k1177 k5 k1178 ⟨by decide, by decide, (show (parseMethodDescriptor yX4_copyRow.desc).map (fun d => d.parameters.length) = some 2 by decide +kernel)⟩ rfl (Nat.le_of_ble_eq_true rfl) (by rw [hRm]; decide) (by rw [hRm]; exact ⟨Nat.le_of_ble_eq_true rfl, Nat.le_of_ble_eq_true rfl⟩) (fun v31 M31 h31 => ?_) (fun _ _ h9 => by cases h9.1)
    obtain ⟨e31, hR31, hF31⟩ := h31
    have e31 : (Sum.inl v31 : Res) = .inl none := e31
    cases e31
    have hR31 : MRep κ.Γ a (cpR (mSh u 7) i (5 + 7)) M31 := hR31
    have hF31 := Fr.tr hF28 hF31
    refine g_aload_n X dX4_remember_65 rfl 1 rfl ?_
    refine g_dup X dX4_remember_66 rfl ?_
    refine g_get X dX4_remember_67 (ci := 4) (k := 5) (v := .int 7) rfl k1094 (by decide) rfl (MRep.obj hR31) rfl ?_
    refine g_iconst (v := 1) X dX4_remember_70 (by decide) ?_
    refine g_iadd X dX4_remember_71 ?_
    refine g_lit (y := 8) (by decide) ?_
    refine g_put X dX4_remember_72 (ci := 4) (k := 5) (ty := .int) rfl k1094 (by decide) rfl rfl (by decide +kernel) rfl rfl (Nat.le_of_ble_eq_true rfl) (MRep.obj hR31) ?_
    refine g_gen (P := fun M9 => MRep κ.Γ a (hsc (cpR (mSh u 7) i (5 + 7)) 1 8) M9 ∧ Fr a 15 M M9) ⟨MRep.sc hR31 1 _ rfl, Fr.tr hF31 (Fr.up (by decide))⟩ (fun M33 ⟨hR34, hF35⟩ => ?_)
    exact g_vret X F dX4_remember_75 (by omega) (by omega) ⟨rfl, by (show MRep κ.Γ a (mRem u i K) _); unfold mRem; rw [if_pos hK8]; exact hR34, hF35⟩
