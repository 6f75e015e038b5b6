noncomputable def mDescribeBill (u : HV) (b : Int32) : Res × HV := mG (¬ isBl u b) 1 zI u (rI ((mD u b).1 4), mD u b)
set_option maxRecDepth 100000 in
set_option maxHeartbeats 4000000 in
theorem c_X4_describeBill (l : Launch) (hl : l.stackTraces = false) (Γ : Gm) (M : Hp) (a : Nat → Nat) (u : HV) (hR : MRep Γ a u M) (b : Int32) (hi : RInv (u.2.1 1)) (hd : ∀ b : Nat, b < 8 → DOK u b) : Ct l Γ yX4_describeBill cX4_describeBill 4 (some .int) 5 0 0 [.ref (a 0), .int b] M (MMu Γ a (mDescribeBill u b) M) := by
  refine Ct.of hl (by decide) (Nat.le_of_ble_eq_true rfl) rfl ?_
  intro κ e1 e2 hnL hRm X F hlt
  subst e1 e2
  refine g_aload_n X dX4_describeBill_0 rfl 0 rfl ?_
  refine g_iconst (v := 1) X dX4_describeBill_1 (by decide) ?_
  refine g_aload_n X dX4_describeBill_2 rfl 0 rfl ?_
  refine g_iload_n X dX4_describeBill_3 rfl 1 rfl ?_
  refine g_callV_rd (As := [.int b]) (ci := 4) (v := some (.int (bI (btw b 0 (u.2.1 1 1 - 1))))) X dX4_describeBill_4 (c_X4_isBill κ.l hl κ.Γ M a u hR b) k1275 k1277 kp26 k5 k1278 rfl (MRep.obj hR) ⟨rfl, by decide, by decide, (show (parseMethodDescriptor yX4_isBill.desc).map (fun d => d.parameters.length) = some 1 by decide +kernel)⟩ rfl (Nat.le_of_ble_eq_true rfl) (by rw [hRm]; decide) (by rw [hRm]; exact ⟨Nat.le_of_ble_eq_true rfl, Nat.le_of_ble_eq_true rfl⟩) ?_
  refine g_ifb_ne (tgt := 14) X dX4_describeBill_7 (by decide) (fun c1 => ?_) (fun c1 => ?_)
  · refine g_iconst (v := 0) X dX4_describeBill_14 (by decide) ?_
    refine g_callV (As := [.int 1, .int 0]) (ci := 4) X dX4_describeBill_15 (c_X4_fails0 κ.l hl κ.Γ M a u hR 1) k1164 k1166 kp15 k5 k1167 rfl (MRep.obj hR) ⟨rfl, by decide, by decide, (show (parseMethodDescriptor yX4_fails.desc).map (fun d => d.parameters.length) = some 2 by decide +kernel)⟩ rfl (Nat.le_of_ble_eq_true rfl) (by rw [hRm]; decide) (by rw [hRm]; exact ⟨Nat.le_of_ble_eq_true rfl, Nat.le_of_ble_eq_true rfl⟩) (fun v2 M2 h2 => ?_) (fun _ _ h9 => by cases h9.1)
    obtain ⟨e2, hR2, hF2⟩ := h2
    have e2 : (Sum.inl v2 : Res) = rI 0 := e2
    cases e2
    obtain ⟨b9, hb9, hcb9, rfl⟩ := RInv.bil hi c1
    refine g_if_eq (tgt := 23) X dX4_describeBill_18 (by decide) (fun c3 => ?_) (fun c3 => absurd c3 (by decide))
    obtain ⟨⟨RD, hRD, eRD⟩, ⟨RU, hRU, eRU⟩, ⟨CC, hCC, eCC⟩, ⟨WF, hWF, eWF⟩, ⟨WA, hWA, eWA⟩⟩ := hd b9 hb9
    refine g_aload_n X dX4_describeBill_23 rfl 0 rfl ?_
    refine g_iload_n X dX4_describeBill_24 rfl 1 rfl ?_
    refine g_iconst (v := 0) X dX4_describeBill_25 (by decide) ?_
    refine g_callV_rd (As := [.int (nI b9), .int 0]) (ci := 4) (v := some (.int (u.2.1 1 (53 + 16 * b9 + 0)))) X dX4_describeBill_26 (c_X4_of κ.l hl κ.Γ M2 a (hsc u 0 0) hR2 b9 0 (by omega) (by omega)) k1263 k1265 kp25 k5 k1266 rfl (MRep.obj hR2) ⟨rfl, by decide, by decide, (show (parseMethodDescriptor yX4_of.desc).map (fun d => d.parameters.length) = some 2 by decide +kernel)⟩ rfl (Nat.le_of_ble_eq_true rfl) (by rw [hRm]; decide) (by rw [hRm]; exact ⟨Nat.le_of_ble_eq_true rfl, Nat.le_of_ble_eq_true rfl⟩) ?_
    refine g_istore_n (L' := [(2, .int (u.2.1 1 (53 + 16 * b9 + 0))), (0, .ref (a 0)), (1, .int (nI b9))]) X dX4_describeBill_29 rfl (by rw [hnL]; decide) rfl ?_
    refine g_aload_n X dX4_describeBill_30 rfl 1 rfl ?_
    refine g_iconst (v := 0) X dX4_describeBill_31 (by decide) ?_
    refine g_put X dX4_describeBill_32 (ci := 4) (k := 9) (ty := .int) rfl k1098 (by decide) rfl rfl (by decide +kernel) rfl rfl (Nat.le_of_ble_eq_true rfl) (MRep.obj hR2) ?_
    refine g_gen (P := fun M9 => MRep κ.Γ a (hsc (hsc u 0 0) 4 0) M9 ∧ Fr a 15 M M9) ⟨MRep.sc hR2 4 _ rfl, Fr.tr hF2 (Fr.up (by decide))⟩ (fun M4 ⟨hR5, hF6⟩ => ?_)
    refine g_aload_n X dX4_describeBill_35 rfl 1 rfl ?_
    refine g_iload_n X dX4_describeBill_36 rfl 2 rfl ?_
    refine g_callV (As := [.int (nI b9)]) (ci := 4) X dX4_describeBill_37 (c_X4_writeNumber1 κ.l hl κ.Γ M4 a (hsc (hsc u 0 0) 4 0) hR5 b9 (by omega) ⟨0, by omega, rfl⟩) k1456 k1458 kp38 k5 k1459 rfl (MRep.obj hR5) ⟨rfl, by decide, by decide, (show (parseMethodDescriptor yX4_writeNumber.desc).map (fun d => d.parameters.length) = some 1 by decide +kernel)⟩ rfl (Nat.le_of_ble_eq_true rfl) (by rw [hRm]; decide) (by rw [hRm]; exact ⟨Nat.le_of_ble_eq_true rfl, Nat.le_of_ble_eq_true rfl⟩) (fun v7 M7 h7 => ?_) (fun _ _ h9 => by cases h9.1)
    obtain ⟨e7, hR7, hF7⟩ := h7
    have e7 : (Sum.inl v7 : Res) = .inl none := e7
    cases e7
    have hR7 : MRep κ.Γ a (mNum 1 (hsc (hsc u 0 0) 4 0) (nI b9)) M7 := hR7
    have hF7 := Fr.tr hF6 hF7
    have hR8 : MRep κ.Γ a (mD1 u (nI b9)) M7 := hR7
    have w1 : WB 1 (mD1 u (nI b9)) := WB.num (j := 0) 1 ⟨0, by omega, rfl⟩
    refine g_aload_n X dX4_describeBill_40 rfl 1 rfl ?_
    refine g_iload_n X dX4_describeBill_41 rfl 0 rfl ?_
    refine g_if_ne (tgt := 50) X dX4_describeBill_42 (by decide) (fun c9 => ?_) (fun c9 => ?_)
    · refine g_iload_n X dX4_describeBill_50 rfl 0 rfl ?_
      refine g_iconst (v := 1) X dX4_describeBill_51 (by decide) ?_
      refine g_icmp_ne (tgt := 60) X dX4_describeBill_52 (by decide) (fun c10 => ?_) (fun c10 => ?_)
      · refine g_bipush (v := 102) X dX4_describeBill_60 (by decide) ?_
        refine g_lit (sgn (rB u b9 0)) (show sgn (rB u b9 0) = 102 from (if_neg c9).trans (if_neg c10)).symm ?_
        refine g_aload_n X dX4_describeBill_62 rfl 1 rfl ?_
        refine g_iload_n X dX4_describeBill_63 rfl 2 rfl ?_
        refine g_iconst (v := 3) X dX4_describeBill_64 (by decide) ?_
        refine g_callV_rd (As := [.int (nI b9), .int 3]) (ci := 4) (v := some (.int ((mD1 u (nI b9)).2.1 1 (53 + 16 * b9 + 3)))) X dX4_describeBill_65 (c_X4_of κ.l hl κ.Γ M7 a (mD1 u (nI b9)) hR8 b9 3 (by omega) (by omega)) k1263 k1265 kp25 k5 k1266 rfl (MRep.obj hR8) ⟨rfl, by decide, by decide, (show (parseMethodDescriptor yX4_of.desc).map (fun d => d.parameters.length) = some 2 by decide +kernel)⟩ rfl (Nat.le_of_ble_eq_true rfl) (by rw [hRm]; decide) (by rw [hRm]; exact ⟨Nat.le_of_ble_eq_true rfl, Nat.le_of_ble_eq_true rfl⟩) ?_
        refine g_lit (nI RD) (by rw [mD1_1]; exact eRD) ?_
        refine g_callV (As := [.int (sgn (rB u b9 0)), .int (nI RD)]) (ci := 4) X dX4_describeBill_68 (c_X4_writeBehind1 κ.l hl κ.Γ M7 a (mD1 u (nI b9)) hR8 (sgn (rB u b9 0)) RD hRD (w1.mono (by omega)) (sgn_nar _)) k1464 k1466 kp40 k5 k1467 rfl (MRep.obj hR8) ⟨rfl, by decide, by decide, (show (parseMethodDescriptor yX4_writeBehind.desc).map (fun d => d.parameters.length) = some 2 by decide +kernel)⟩ rfl (Nat.le_of_ble_eq_true rfl) (by rw [hRm]; decide) (by rw [hRm]; exact ⟨Nat.le_of_ble_eq_true rfl, Nat.le_of_ble_eq_true rfl⟩) (fun v11 M11 h11 => ?_) (fun _ _ h9 => by cases h9.1)
        obtain ⟨e11, hR11, hF11⟩ := h11
        have e11 : (Sum.inl v11 : Res) = .inl none := e11
        cases e11
        have hR11 : MRep κ.Γ a (mBeh 1 (mD1 u (nI b9)) (sgn (rB u b9 0)) (nI RD)) M11 := hR11
        have hF11 := Fr.tr hF7 hF11
        have hR12 : MRep κ.Γ a (mD2 u (nI b9)) M11 := by unfold mD2; rw [hcb9, eRD]; exact hR11
        have w2 : WB 3 (mD2 u (nI b9)) := WB.num (j := 2) 1 w1.wr
        refine g_iconst (v := 0) X dX4_describeBill_71 (by decide) ?_
        refine g_istore_n (L' := [(3, .int 0), (2, .int (u.2.1 1 (53 + 16 * b9 + 0))), (0, .ref (a 0)), (1, .int (nI b9))]) X dX4_describeBill_72 rfl (by rw [hnL]; decide) rfl ?_
        have lp : ∀ (q i : Nat) (M9 : Hp), RU - i < q → i ≤ RU → MRep κ.Γ a (mStar (mD2 u (nI b9)) i) M9 → Fr a 15 M M9 → G κ M9 0 0 [(3, .int (nI i)), (2, .int (u.2.1 1 (53 + 16 * b9 + 0))), (1, .int (nI b9)), (0, .ref (a 0))] 73 [] := by
          intro q
          induction q with
          | zero => intro i _ h1; exact absurd h1 (Nat.not_lt_zero _)
          | succ q ih =>
            intro i M9 hi1 hi2 hR9 hF9
            refine g_iload_n X dX4_describeBill_73 rfl 0 rfl ?_
            refine g_aload_n X dX4_describeBill_74 rfl 3 rfl ?_
            refine g_iload_n X dX4_describeBill_75 rfl 2 rfl ?_
            refine g_callV_rd (As := [.int (nI b9)]) (ci := 4) (v := some (.int ((mStar (mD2 u (nI b9)) i).2.1 1 (53 + 16 * b9 + 4) / 60))) X dX4_describeBill_76 (c_X4_rusted κ.l hl κ.Γ M9 a (mStar (mD2 u (nI b9)) i) hR9 b9 (by omega)) k1321 k1323 kp30 k5 k1324 rfl (MRep.obj hR9) ⟨rfl, by decide, by decide, (show (parseMethodDescriptor yX4_rusted.desc).map (fun d => d.parameters.length) = some 1 by decide +kernel)⟩ rfl (Nat.le_of_ble_eq_true rfl) (by rw [hRm]; decide) (by rw [hRm]; exact ⟨Nat.le_of_ble_eq_true rfl, Nat.le_of_ble_eq_true rfl⟩) ?_
            refine g_lit (nI RU) (by rw [mS_1]; exact eRU) ?_
            refine g_icmp_ge (tgt := 94) X dX4_describeBill_79 (by decide) (fun c13 => ?_) (fun c13 => ?_)
            · have heq9 : i = RU := by have h9 := nI_leS (by omega) (by omega) c13; omega
              subst heq9
              have hR14 : MRep κ.Γ a (mD3 u (nI b9)) M9 := by unfold mD3; rw [hcb9, eRU, cN_nI (by omega)]; exact hR9
              have w3 : WB 6 (mD3 u (nI b9)) := (WB.star w2 _).mono (by rw [hcb9, eRU, cN_nI (by omega)]; omega)
              refine g_aload_n X dX4_describeBill_94 rfl 3 rfl ?_
              refine g_bipush (v := 58) X dX4_describeBill_95 (by decide) ?_
              refine g_aload_n X dX4_describeBill_97 rfl 3 rfl ?_
              refine g_iload_n X dX4_describeBill_98 rfl 2 rfl ?_
              refine g_callV_rd (As := [.int (nI b9)]) (ci := 4) (v := some (.int (jbc ((mD3 u (nI b9)).2.1 1 (53 + 16 * b9 + 1)) + jbc ((mD3 u (nI b9)).2.1 1 (53 + 16 * b9 + 2))))) X dX4_describeBill_99 (c_X4_countClauses κ.l hl κ.Γ M9 a (mD3 u (nI b9)) hR14 b9 (by omega)) k1296 k1298 kp27 k5 k1299 rfl (MRep.obj hR14) ⟨rfl, by decide, by decide, (show (parseMethodDescriptor yX4_countClauses.desc).map (fun d => d.parameters.length) = some 1 by decide +kernel)⟩ rfl (Nat.le_of_ble_eq_true rfl) (by rw [hRm]; decide) (by rw [hRm]; exact ⟨Nat.le_of_ble_eq_true rfl, Nat.le_of_ble_eq_true rfl⟩) ?_
              refine g_lit (nI CC) (by rw [mD3_1]; exact eCC) ?_
              refine g_callV (As := [.int 58, .int (nI CC)]) (ci := 4) X dX4_describeBill_102 (c_X4_writeBehind2 κ.l hl κ.Γ M9 a (mD3 u (nI b9)) hR14 58 CC hCC (w3.mono (by omega)) rfl) k1464 k1466 kp40 k5 k1467 rfl (MRep.obj hR14) ⟨rfl, by decide, by decide, (show (parseMethodDescriptor yX4_writeBehind.desc).map (fun d => d.parameters.length) = some 2 by decide +kernel)⟩ rfl (Nat.le_of_ble_eq_true rfl) (by rw [hRm]; decide) (by rw [hRm]; exact ⟨Nat.le_of_ble_eq_true rfl, Nat.le_of_ble_eq_true rfl⟩) (fun v15 M15 h15 => ?_) (fun _ _ h9 => by cases h9.1)
              obtain ⟨e15, hR15, hF15⟩ := h15
              have e15 : (Sum.inl v15 : Res) = .inl none := e15
              cases e15
              have hR15 : MRep κ.Γ a (mBeh 2 (mD3 u (nI b9)) 58 (nI CC)) M15 := hR15
              have hF15 := Fr.tr hF9 hF15
              have hR16 : MRep κ.Γ a (mD4 u (nI b9)) M15 := by unfold mD4; rw [hcb9, eCC]; exact hR15
              have w4 : WB 9 (mD4 u (nI b9)) := WB.num (j := 7) 2 w3.wr
              refine g_iload_n X dX4_describeBill_105 rfl 1 rfl ?_
              refine g_if_ne (tgt := 142) X dX4_describeBill_106 (by decide) (fun _ => ?_) (fun q => absurd q c9)
              have hR17 : MRep κ.Γ a (mD u (nI b9)) M15 := by unfold mD; rw [hcb9, if_neg c9]; exact hR16
              refine g_aload_n X dX4_describeBill_142 rfl 3 rfl ?_
              refine g_get X dX4_describeBill_143 (ci := 4) (k := 9) (v := .int ((mD u (nI b9)).1 4)) rfl k1098 (by decide) rfl (MRep.obj hR17) rfl ?_
              exact g_iret X F dX4_describeBill_146 (by omega) (by omega) (by unfold mDescribeBill; (try rw [hcb9]); exact (MMu.n (by first | exact c1 | exact fun q => q c1 | exact fun q => c1 q | exact Classical.not_not.mp c1) ⟨rfl, hR17, hF15⟩))
            · have hlt9 : i < RU := nI_ltS (by omega) (by omega) c13
              refine g_aload_n X dX4_describeBill_82 rfl 3 rfl ?_
              refine g_bipush (v := 42) X dX4_describeBill_83 (by decide) ?_
              refine g_callV (As := [.int 42]) (ci := 4) X dX4_describeBill_85 (c_X4_write κ.l hl κ.Γ M9 a (mStar (mD2 u (nI b9)) i) hR9 42 ((WB.star w2 i).mono (by omega)) rfl) k1460 k1462 kp39 k5 k1463 rfl (MRep.obj hR9) ⟨rfl, by decide, by decide, (show (parseMethodDescriptor yX4_write.desc).map (fun d => d.parameters.length) = some 1 by decide +kernel)⟩ rfl (Nat.le_of_ble_eq_true rfl) (by rw [hRm]; decide) (by rw [hRm]; exact ⟨Nat.le_of_ble_eq_true rfl, Nat.le_of_ble_eq_true rfl⟩) (fun v18 M18 h18 => ?_) (fun _ _ h9 => by cases h9.1)
              obtain ⟨e18, hR18, hF18⟩ := h18
              have e18 : (Sum.inl v18 : Res) = .inl none := e18
              cases e18
              have hR18 : MRep κ.Γ a (mWr (mStar (mD2 u (nI b9)) i) 42) M18 := hR18
              have hF18 := Fr.tr hF9 hF18
              have hR19 : MRep κ.Γ a (mStar (mD2 u (nI b9)) (i + 1)) M18 := hR18
              refine g_iinc (k := 0) (v := (nI (i + 1))) (L' := [(3, .int (nI (i + 1))), (2, .int (u.2.1 1 (53 + 16 * b9 + 0))), (1, .int (nI b9)), (0, .ref (a 0))]) X dX4_describeBill_88 rfl (nI_1 _) (by rw [hnL]; decide) rfl ?_
              refine g_goto (tgt := 73) X dX4_describeBill_91 (by decide) ?_
              refine g_locs [0, 1, 2, 3] (L' := [(3, .int (nI (i + 1))), (2, .int (u.2.1 1 (53 + 16 * b9 + 0))), (1, .int (nI b9)), (0, .ref (a 0))]) rfl ?_
              exact ih (i + 1) M18 (by omega) (by omega) hR19 hF18
        refine g_locs [0, 1, 3, 2] (L' := [(3, .int (nI 0)), (2, .int (u.2.1 1 (53 + 16 * b9 + 0))), (1, .int (nI b9)), (0, .ref (a 0))]) rfl ?_
        exact lp (RU + 1) 0 M11 (by omega) (by omega) hR12 hF11
      · refine g_bipush (v := 112) X dX4_describeBill_55 (by decide) ?_
        refine g_goto (tgt := 62) X dX4_describeBill_57 (by decide) ?_
        refine g_lit (sgn (rB u b9 0)) (show sgn (rB u b9 0) = 112 from (if_neg c9).trans (if_pos c10)).symm ?_
        refine g_aload_n X dX4_describeBill_62 rfl 1 rfl ?_
        refine g_iload_n X dX4_describeBill_63 rfl 2 rfl ?_
        refine g_iconst (v := 3) X dX4_describeBill_64 (by decide) ?_
        refine g_callV_rd (As := [.int (nI b9), .int 3]) (ci := 4) (v := some (.int ((mD1 u (nI b9)).2.1 1 (53 + 16 * b9 + 3)))) X dX4_describeBill_65 (c_X4_of κ.l hl κ.Γ M7 a (mD1 u (nI b9)) hR8 b9 3 (by omega) (by omega)) k1263 k1265 kp25 k5 k1266 rfl (MRep.obj hR8) ⟨rfl, by decide, by decide, (show (parseMethodDescriptor yX4_of.desc).map (fun d => d.parameters.length) = some 2 by decide +kernel)⟩ rfl (Nat.le_of_ble_eq_true rfl) (by rw [hRm]; decide) (by rw [hRm]; exact ⟨Nat.le_of_ble_eq_true rfl, Nat.le_of_ble_eq_true rfl⟩) ?_
        refine g_lit (nI RD) (by rw [mD1_1]; exact eRD) ?_
        refine g_callV (As := [.int (sgn (rB u b9 0)), .int (nI RD)]) (ci := 4) X dX4_describeBill_68 (c_X4_writeBehind1 κ.l hl κ.Γ M7 a (mD1 u (nI b9)) hR8 (sgn (rB u b9 0)) RD hRD (w1.mono (by omega)) (sgn_nar _)) k1464 k1466 kp40 k5 k1467 rfl (MRep.obj hR8) ⟨rfl, by decide, by decide, (show (parseMethodDescriptor yX4_writeBehind.desc).map (fun d => d.parameters.length) = some 2 by decide +kernel)⟩ rfl (Nat.le_of_ble_eq_true rfl) (by rw [hRm]; decide) (by rw [hRm]; exact ⟨Nat.le_of_ble_eq_true rfl, Nat.le_of_ble_eq_true rfl⟩) (fun v20 M20 h20 => ?_) (fun _ _ h9 => by cases h9.1)
        obtain ⟨e20, hR20, hF20⟩ := h20
        have e20 : (Sum.inl v20 : Res) = .inl none := e20
        cases e20
        have hR20 : MRep κ.Γ a (mBeh 1 (mD1 u (nI b9)) (sgn (rB u b9 0)) (nI RD)) M20 := hR20
        have hF20 := Fr.tr hF7 hF20
        have hR21 : MRep κ.Γ a (mD2 u (nI b9)) M20 := by unfold mD2; rw [hcb9, eRD]; exact hR20
        have w2 : WB 3 (mD2 u (nI b9)) := WB.num (j := 2) 1 w1.wr
        refine g_iconst (v := 0) X dX4_describeBill_71 (by decide) ?_
        refine g_istore_n (L' := [(3, .int 0), (2, .int (u.2.1 1 (53 + 16 * b9 + 0))), (0, .ref (a 0)), (1, .int (nI b9))]) X dX4_describeBill_72 rfl (by rw [hnL]; decide) rfl ?_
        have lp : ∀ (q i : Nat) (M9 : Hp), RU - i < q → i ≤ RU → MRep κ.Γ a (mStar (mD2 u (nI b9)) i) M9 → Fr a 15 M M9 → G κ M9 0 0 [(3, .int (nI i)), (2, .int (u.2.1 1 (53 + 16 * b9 + 0))), (1, .int (nI b9)), (0, .ref (a 0))] 73 [] := by
          intro q
          induction q with
          | zero => intro i _ h1; exact absurd h1 (Nat.not_lt_zero _)
          | succ q ih =>
            intro i M9 hi1 hi2 hR9 hF9
            refine g_iload_n X dX4_describeBill_73 rfl 0 rfl ?_
            refine g_aload_n X dX4_describeBill_74 rfl 3 rfl ?_
            refine g_iload_n X dX4_describeBill_75 rfl 2 rfl ?_
            refine g_callV_rd (As := [.int (nI b9)]) (ci := 4) (v := some (.int ((mStar (mD2 u (nI b9)) i).2.1 1 (53 + 16 * b9 + 4) / 60))) X dX4_describeBill_76 (c_X4_rusted κ.l hl κ.Γ M9 a (mStar (mD2 u (nI b9)) i) hR9 b9 (by omega)) k1321 k1323 kp30 k5 k1324 rfl (MRep.obj hR9) ⟨rfl, by decide, by decide, (show (parseMethodDescriptor yX4_rusted.desc).map (fun d => d.parameters.length) = some 1 by decide +kernel)⟩ rfl (Nat.le_of_ble_eq_true rfl) (by rw [hRm]; decide) (by rw [hRm]; exact ⟨Nat.le_of_ble_eq_true rfl, Nat.le_of_ble_eq_true rfl⟩) ?_
            refine g_lit (nI RU) (by rw [mS_1]; exact eRU) ?_
            refine g_icmp_ge (tgt := 94) X dX4_describeBill_79 (by decide) (fun c22 => ?_) (fun c22 => ?_)
            · have heq9 : i = RU := by have h9 := nI_leS (by omega) (by omega) c22; omega
              subst heq9
              have hR23 : MRep κ.Γ a (mD3 u (nI b9)) M9 := by unfold mD3; rw [hcb9, eRU, cN_nI (by omega)]; exact hR9
              have w3 : WB 6 (mD3 u (nI b9)) := (WB.star w2 _).mono (by rw [hcb9, eRU, cN_nI (by omega)]; omega)
              refine g_aload_n X dX4_describeBill_94 rfl 3 rfl ?_
              refine g_bipush (v := 58) X dX4_describeBill_95 (by decide) ?_
              refine g_aload_n X dX4_describeBill_97 rfl 3 rfl ?_
              refine g_iload_n X dX4_describeBill_98 rfl 2 rfl ?_
              refine g_callV_rd (As := [.int (nI b9)]) (ci := 4) (v := some (.int (jbc ((mD3 u (nI b9)).2.1 1 (53 + 16 * b9 + 1)) + jbc ((mD3 u (nI b9)).2.1 1 (53 + 16 * b9 + 2))))) X dX4_describeBill_99 (c_X4_countClauses κ.l hl κ.Γ M9 a (mD3 u (nI b9)) hR23 b9 (by omega)) k1296 k1298 kp27 k5 k1299 rfl (MRep.obj hR23) ⟨rfl, by decide, by decide, (show (parseMethodDescriptor yX4_countClauses.desc).map (fun d => d.parameters.length) = some 1 by decide +kernel)⟩ rfl (Nat.le_of_ble_eq_true rfl) (by rw [hRm]; decide) (by rw [hRm]; exact ⟨Nat.le_of_ble_eq_true rfl, Nat.le_of_ble_eq_true rfl⟩) ?_
              refine g_lit (nI CC) (by rw [mD3_1]; exact eCC) ?_
              refine g_callV (As := [.int 58, .int (nI CC)]) (ci := 4) X dX4_describeBill_102 (c_X4_writeBehind2 κ.l hl κ.Γ M9 a (mD3 u (nI b9)) hR23 58 CC hCC (w3.mono (by omega)) rfl) k1464 k1466 kp40 k5 k1467 rfl (MRep.obj hR23) ⟨rfl, by decide, by decide, (show (parseMethodDescriptor yX4_writeBehind.desc).map (fun d => d.parameters.length) = some 2 by decide +kernel)⟩ rfl (Nat.le_of_ble_eq_true rfl) (by rw [hRm]; decide) (by rw [hRm]; exact ⟨Nat.le_of_ble_eq_true rfl, Nat.le_of_ble_eq_true rfl⟩) (fun v24 M24 h24 => ?_) (fun _ _ h9 => by cases h9.1)
              obtain ⟨e24, hR24, hF24⟩ := h24
              have e24 : (Sum.inl v24 : Res) = .inl none := e24
              cases e24
              have hR24 : MRep κ.Γ a (mBeh 2 (mD3 u (nI b9)) 58 (nI CC)) M24 := hR24
              have hF24 := Fr.tr hF9 hF24
              have hR25 : MRep κ.Γ a (mD4 u (nI b9)) M24 := by unfold mD4; rw [hcb9, eCC]; exact hR24
              have w4 : WB 9 (mD4 u (nI b9)) := WB.num (j := 7) 2 w3.wr
              refine g_iload_n X dX4_describeBill_105 rfl 1 rfl ?_
              refine g_if_ne (tgt := 142) X dX4_describeBill_106 (by decide) (fun _ => ?_) (fun q => absurd q c9)
              have hR26 : MRep κ.Γ a (mD u (nI b9)) M24 := by unfold mD; rw [hcb9, if_neg c9]; exact hR25
              refine g_aload_n X dX4_describeBill_142 rfl 3 rfl ?_
              refine g_get X dX4_describeBill_143 (ci := 4) (k := 9) (v := .int ((mD u (nI b9)).1 4)) rfl k1098 (by decide) rfl (MRep.obj hR26) rfl ?_
              exact g_iret X F dX4_describeBill_146 (by omega) (by omega) (by unfold mDescribeBill; (try rw [hcb9]); exact (MMu.n (by first | exact c1 | exact fun q => q c1 | exact fun q => c1 q | exact Classical.not_not.mp c1) ⟨rfl, hR26, hF24⟩))
            · have hlt9 : i < RU := nI_ltS (by omega) (by omega) c22
              refine g_aload_n X dX4_describeBill_82 rfl 3 rfl ?_
              refine g_bipush (v := 42) X dX4_describeBill_83 (by decide) ?_
              refine g_callV (As := [.int 42]) (ci := 4) X dX4_describeBill_85 (c_X4_write κ.l hl κ.Γ M9 a (mStar (mD2 u (nI b9)) i) hR9 42 ((WB.star w2 i).mono (by omega)) rfl) k1460 k1462 kp39 k5 k1463 rfl (MRep.obj hR9) ⟨rfl, by decide, by decide, (show (parseMethodDescriptor yX4_write.desc).map (fun d => d.parameters.length) = some 1 by decide +kernel)⟩ rfl (Nat.le_of_ble_eq_true rfl) (by rw [hRm]; decide) (by rw [hRm]; exact ⟨Nat.le_of_ble_eq_true rfl, Nat.le_of_ble_eq_true rfl⟩) (fun v27 M27 h27 => ?_) (fun _ _ h9 => by cases h9.1)
              obtain ⟨e27, hR27, hF27⟩ := h27
              have e27 : (Sum.inl v27 : Res) = .inl none := e27
              cases e27
              have hR27 : MRep κ.Γ a (mWr (mStar (mD2 u (nI b9)) i) 42) M27 := hR27
              have hF27 := Fr.tr hF9 hF27
              have hR28 : MRep κ.Γ a (mStar (mD2 u (nI b9)) (i + 1)) M27 := hR27
              refine g_iinc (k := 0) (v := (nI (i + 1))) (L' := [(3, .int (nI (i + 1))), (2, .int (u.2.1 1 (53 + 16 * b9 + 0))), (1, .int (nI b9)), (0, .ref (a 0))]) X dX4_describeBill_88 rfl (nI_1 _) (by rw [hnL]; decide) rfl ?_
              refine g_goto (tgt := 73) X dX4_describeBill_91 (by decide) ?_
              refine g_locs [0, 1, 2, 3] (L' := [(3, .int (nI (i + 1))), (2, .int (u.2.1 1 (53 + 16 * b9 + 0))), (1, .int (nI b9)), (0, .ref (a 0))]) rfl ?_
              exact ih (i + 1) M27 (by omega) (by omega) hR28 hF27
        refine g_locs [0, 1, 3, 2] (L' := [(3, .int (nI 0)), (2, .int (u.2.1 1 (53 + 16 * b9 + 0))), (1, .int (nI b9)), (0, .ref (a 0))]) rfl ?_
        exact lp (RU + 1) 0 M20 (by omega) (by omega) hR21 hF20
    · refine g_bipush (v := 111) X dX4_describeBill_45 (by decide) ?_
      refine g_goto (tgt := 62) X dX4_describeBill_47 (by decide) ?_
      refine g_lit (sgn (rB u b9 0)) (show sgn (rB u b9 0) = 111 from if_pos c9).symm ?_
      refine g_aload_n X dX4_describeBill_62 rfl 1 rfl ?_
      refine g_iload_n X dX4_describeBill_63 rfl 2 rfl ?_
      refine g_iconst (v := 3) X dX4_describeBill_64 (by decide) ?_
      refine g_callV_rd (As := [.int (nI b9), .int 3]) (ci := 4) (v := some (.int ((mD1 u (nI b9)).2.1 1 (53 + 16 * b9 + 3)))) X dX4_describeBill_65 (c_X4_of κ.l hl κ.Γ M7 a (mD1 u (nI b9)) hR8 b9 3 (by omega) (by omega)) k1263 k1265 kp25 k5 k1266 rfl (MRep.obj hR8) ⟨rfl, by decide, by decide, (show (parseMethodDescriptor yX4_of.desc).map (fun d => d.parameters.length) = some 2 by decide +kernel)⟩ rfl (Nat.le_of_ble_eq_true rfl) (by rw [hRm]; decide) (by rw [hRm]; exact ⟨Nat.le_of_ble_eq_true rfl, Nat.le_of_ble_eq_true rfl⟩) ?_
      refine g_lit (nI RD) (by rw [mD1_1]; exact eRD) ?_
      refine g_callV (As := [.int (sgn (rB u b9 0)), .int (nI RD)]) (ci := 4) X dX4_describeBill_68 (c_X4_writeBehind1 κ.l hl κ.Γ M7 a (mD1 u (nI b9)) hR8 (sgn (rB u b9 0)) RD hRD (w1.mono (by omega)) (sgn_nar _)) k1464 k1466 kp40 k5 k1467 rfl (MRep.obj hR8) ⟨rfl, by decide, by decide, (show (parseMethodDescriptor yX4_writeBehind.desc).map (fun d => d.parameters.length) = some 2 by decide +kernel)⟩ rfl (Nat.le_of_ble_eq_true rfl) (by rw [hRm]; decide) (by rw [hRm]; exact ⟨Nat.le_of_ble_eq_true rfl, Nat.le_of_ble_eq_true rfl⟩) (fun v29 M29 h29 => ?_) (fun _ _ h9 => by cases h9.1)
      obtain ⟨e29, hR29, hF29⟩ := h29
      have e29 : (Sum.inl v29 : Res) = .inl none := e29
      cases e29
      have hR29 : MRep κ.Γ a (mBeh 1 (mD1 u (nI b9)) (sgn (rB u b9 0)) (nI RD)) M29 := hR29
      have hF29 := Fr.tr hF7 hF29
      have hR30 : MRep κ.Γ a (mD2 u (nI b9)) M29 := by unfold mD2; rw [hcb9, eRD]; exact hR29
      have w2 : WB 3 (mD2 u (nI b9)) := WB.num (j := 2) 1 w1.wr
      refine g_iconst (v := 0) X dX4_describeBill_71 (by decide) ?_
      refine g_istore_n (L' := [(3, .int 0), (2, .int (u.2.1 1 (53 + 16 * b9 + 0))), (0, .ref (a 0)), (1, .int (nI b9))]) X dX4_describeBill_72 rfl (by rw [hnL]; decide) rfl ?_
      have lp : ∀ (q i : Nat) (M9 : Hp), RU - i < q → i ≤ RU → MRep κ.Γ a (mStar (mD2 u (nI b9)) i) M9 → Fr a 15 M M9 → G κ M9 0 0 [(3, .int (nI i)), (2, .int (u.2.1 1 (53 + 16 * b9 + 0))), (1, .int (nI b9)), (0, .ref (a 0))] 73 [] := by
        intro q
        induction q with
        | zero => intro i _ h1; exact absurd h1 (Nat.not_lt_zero _)
        | succ q ih =>
          intro i M9 hi1 hi2 hR9 hF9
          refine g_iload_n X dX4_describeBill_73 rfl 0 rfl ?_
          refine g_aload_n X dX4_describeBill_74 rfl 3 rfl ?_
          refine g_iload_n X dX4_describeBill_75 rfl 2 rfl ?_
          refine g_callV_rd (As := [.int (nI b9)]) (ci := 4) (v := some (.int ((mStar (mD2 u (nI b9)) i).2.1 1 (53 + 16 * b9 + 4) / 60))) X dX4_describeBill_76 (c_X4_rusted κ.l hl κ.Γ M9 a (mStar (mD2 u (nI b9)) i) hR9 b9 (by omega)) k1321 k1323 kp30 k5 k1324 rfl (MRep.obj hR9) ⟨rfl, by decide, by decide, (show (parseMethodDescriptor yX4_rusted.desc).map (fun d => d.parameters.length) = some 1 by decide +kernel)⟩ rfl (Nat.le_of_ble_eq_true rfl) (by rw [hRm]; decide) (by rw [hRm]; exact ⟨Nat.le_of_ble_eq_true rfl, Nat.le_of_ble_eq_true rfl⟩) ?_
          refine g_lit (nI RU) (by rw [mS_1]; exact eRU) ?_
          refine g_icmp_ge (tgt := 94) X dX4_describeBill_79 (by decide) (fun c31 => ?_) (fun c31 => ?_)
          · have heq9 : i = RU := by have h9 := nI_leS (by omega) (by omega) c31; omega
            subst heq9
            have hR32 : MRep κ.Γ a (mD3 u (nI b9)) M9 := by unfold mD3; rw [hcb9, eRU, cN_nI (by omega)]; exact hR9
            have w3 : WB 6 (mD3 u (nI b9)) := (WB.star w2 _).mono (by rw [hcb9, eRU, cN_nI (by omega)]; omega)
            refine g_aload_n X dX4_describeBill_94 rfl 3 rfl ?_
            refine g_bipush (v := 58) X dX4_describeBill_95 (by decide) ?_
            refine g_aload_n X dX4_describeBill_97 rfl 3 rfl ?_
            refine g_iload_n X dX4_describeBill_98 rfl 2 rfl ?_
            refine g_callV_rd (As := [.int (nI b9)]) (ci := 4) (v := some (.int (jbc ((mD3 u (nI b9)).2.1 1 (53 + 16 * b9 + 1)) + jbc ((mD3 u (nI b9)).2.1 1 (53 + 16 * b9 + 2))))) X dX4_describeBill_99 (c_X4_countClauses κ.l hl κ.Γ M9 a (mD3 u (nI b9)) hR32 b9 (by omega)) k1296 k1298 kp27 k5 k1299 rfl (MRep.obj hR32) ⟨rfl, by decide, by decide, (show (parseMethodDescriptor yX4_countClauses.desc).map (fun d => d.parameters.length) = some 1 by decide +kernel)⟩ rfl (Nat.le_of_ble_eq_true rfl) (by rw [hRm]; decide) (by rw [hRm]; exact ⟨Nat.le_of_ble_eq_true rfl, Nat.le_of_ble_eq_true rfl⟩) ?_
            refine g_lit (nI CC) (by rw [mD3_1]; exact eCC) ?_
            refine g_callV (As := [.int 58, .int (nI CC)]) (ci := 4) X dX4_describeBill_102 (c_X4_writeBehind2 κ.l hl κ.Γ M9 a (mD3 u (nI b9)) hR32 58 CC hCC (w3.mono (by omega)) rfl) k1464 k1466 kp40 k5 k1467 rfl (MRep.obj hR32) ⟨rfl, by decide, by decide, (show (parseMethodDescriptor yX4_writeBehind.desc).map (fun d => d.parameters.length) = some 2 by decide +kernel)⟩ rfl (Nat.le_of_ble_eq_true rfl) (by rw [hRm]; decide) (by rw [hRm]; exact ⟨Nat.le_of_ble_eq_true rfl, Nat.le_of_ble_eq_true rfl⟩) (fun v33 M33 h33 => ?_) (fun _ _ h9 => by cases h9.1)
            obtain ⟨e33, hR33, hF33⟩ := h33
            have e33 : (Sum.inl v33 : Res) = .inl none := e33
            cases e33
            have hR33 : MRep κ.Γ a (mBeh 2 (mD3 u (nI b9)) 58 (nI CC)) M33 := hR33
            have hF33 := Fr.tr hF9 hF33
            have hR34 : MRep κ.Γ a (mD4 u (nI b9)) M33 := by unfold mD4; rw [hcb9, eCC]; exact hR33
            have w4 : WB 9 (mD4 u (nI b9)) := WB.num (j := 7) 2 w3.wr
            refine g_iload_n X dX4_describeBill_105 rfl 1 rfl ?_
            refine g_if_ne (tgt := 142) X dX4_describeBill_106 (by decide) (fun q => absurd c9 q) (fun _ => ?_)
            refine g_aload_n X dX4_describeBill_109 rfl 3 rfl ?_
            refine g_bipush (v := 43) X dX4_describeBill_110 (by decide) ?_
            refine g_aload_n X dX4_describeBill_112 rfl 3 rfl ?_
            refine g_aload_n X dX4_describeBill_113 rfl 3 rfl ?_
            refine g_iload_n X dX4_describeBill_114 rfl 2 rfl ?_
            refine g_iconst (v := 5) X dX4_describeBill_115 (by decide) ?_
            refine g_callV_rd (As := [.int (nI b9), .int 5]) (ci := 4) (v := some (.int ((mD4 u (nI b9)).2.1 1 (53 + 16 * b9 + 5)))) X dX4_describeBill_116 (c_X4_of κ.l hl κ.Γ M33 a (mD4 u (nI b9)) hR34 b9 5 (by omega) (by omega)) k1263 k1265 kp25 k5 k1266 rfl (MRep.obj hR34) ⟨rfl, by decide, by decide, (show (parseMethodDescriptor yX4_of.desc).map (fun d => d.parameters.length) = some 2 by decide +kernel)⟩ rfl (Nat.le_of_ble_eq_true rfl) (by rw [hRm]; decide) (by rw [hRm]; exact ⟨Nat.le_of_ble_eq_true rfl, Nat.le_of_ble_eq_true rfl⟩) ?_
            refine g_callV_rd (As := [.int ((mD4 u (nI b9)).2.1 1 (53 + 16 * b9 + 5))]) (ci := 4) (v := some (.int (rSum (mD4 u (nI b9)) ((mD4 u (nI b9)).2.1 1 (53 + 16 * b9 + 5)) (cN ((mD4 u (nI b9)).2.1 1 0))))) X dX4_describeBill_119 (c_X4_weigh κ.l hl κ.Γ M33 a (mD4 u (nI b9)) hR34 ((mD4 u (nI b9)).2.1 1 (53 + 16 * b9 + 5)) (by rw [mD4_1]; exact hi)) k1333 k1335 kp32 k5 k1336 rfl (MRep.obj hR34) ⟨rfl, by decide, by decide, (show (parseMethodDescriptor yX4_weigh.desc).map (fun d => d.parameters.length) = some 1 by decide +kernel)⟩ rfl (Nat.le_of_ble_eq_true rfl) (by rw [hRm]; decide) (by rw [hRm]; exact ⟨Nat.le_of_ble_eq_true rfl, Nat.le_of_ble_eq_true rfl⟩) ?_
            refine g_lit (nI WF) (by show rWt (mD4 u (nI b9)) ((mD4 u (nI b9)).2.1 1 _) = _; rw [rWt_cong (q := u) mD4_1, mD4_1]; exact eWF) ?_
            refine g_callV (As := [.int 43, .int (nI WF)]) (ci := 4) X dX4_describeBill_122 (c_X4_writeBehind3 κ.l hl κ.Γ M33 a (mD4 u (nI b9)) hR34 43 WF hWF (w4.mono (by omega)) rfl) k1464 k1466 kp40 k5 k1467 rfl (MRep.obj hR34) ⟨rfl, by decide, by decide, (show (parseMethodDescriptor yX4_writeBehind.desc).map (fun d => d.parameters.length) = some 2 by decide +kernel)⟩ rfl (Nat.le_of_ble_eq_true rfl) (by rw [hRm]; decide) (by rw [hRm]; exact ⟨Nat.le_of_ble_eq_true rfl, Nat.le_of_ble_eq_true rfl⟩) (fun v35 M35 h35 => ?_) (fun _ _ h9 => by cases h9.1)
            obtain ⟨e35, hR35, hF35⟩ := h35
            have e35 : (Sum.inl v35 : Res) = .inl none := e35
            cases e35
            have hR35 : MRep κ.Γ a (mBeh 3 (mD4 u (nI b9)) 43 (nI WF)) M35 := hR35
            have hF35 := Fr.tr hF33 hF35
            have hR36 : MRep κ.Γ a (mD5 u (nI b9)) M35 := by unfold mD5; rw [hcb9, eWF]; exact hR35
            have w5 : WB 13 (mD5 u (nI b9)) := WB.num (j := 10) 3 w4.wr
            refine g_aload_n X dX4_describeBill_125 rfl 3 rfl ?_
            refine g_bipush (v := 45) X dX4_describeBill_126 (by decide) ?_
            refine g_aload_n X dX4_describeBill_128 rfl 3 rfl ?_
            refine g_aload_n X dX4_describeBill_129 rfl 3 rfl ?_
            refine g_iload_n X dX4_describeBill_130 rfl 2 rfl ?_
            refine g_bipush (v := 6) X dX4_describeBill_131 (by decide) ?_
            refine g_callV_rd (As := [.int (nI b9), .int 6]) (ci := 4) (v := some (.int ((mD5 u (nI b9)).2.1 1 (53 + 16 * b9 + 6)))) X dX4_describeBill_133 (c_X4_of κ.l hl κ.Γ M35 a (mD5 u (nI b9)) hR36 b9 6 (by omega) (by omega)) k1263 k1265 kp25 k5 k1266 rfl (MRep.obj hR36) ⟨rfl, by decide, by decide, (show (parseMethodDescriptor yX4_of.desc).map (fun d => d.parameters.length) = some 2 by decide +kernel)⟩ rfl (Nat.le_of_ble_eq_true rfl) (by rw [hRm]; decide) (by rw [hRm]; exact ⟨Nat.le_of_ble_eq_true rfl, Nat.le_of_ble_eq_true rfl⟩) ?_
            refine g_callV_rd (As := [.int ((mD5 u (nI b9)).2.1 1 (53 + 16 * b9 + 6))]) (ci := 4) (v := some (.int (rSum (mD5 u (nI b9)) ((mD5 u (nI b9)).2.1 1 (53 + 16 * b9 + 6)) (cN ((mD5 u (nI b9)).2.1 1 0))))) X dX4_describeBill_136 (c_X4_weigh κ.l hl κ.Γ M35 a (mD5 u (nI b9)) hR36 ((mD5 u (nI b9)).2.1 1 (53 + 16 * b9 + 6)) (by rw [mD5_1]; exact hi)) k1333 k1335 kp32 k5 k1336 rfl (MRep.obj hR36) ⟨rfl, by decide, by decide, (show (parseMethodDescriptor yX4_weigh.desc).map (fun d => d.parameters.length) = some 1 by decide +kernel)⟩ rfl (Nat.le_of_ble_eq_true rfl) (by rw [hRm]; decide) (by rw [hRm]; exact ⟨Nat.le_of_ble_eq_true rfl, Nat.le_of_ble_eq_true rfl⟩) ?_
            refine g_lit (nI WA) (by show rWt (mD5 u (nI b9)) ((mD5 u (nI b9)).2.1 1 _) = _; rw [rWt_cong (q := u) mD5_1, mD5_1]; exact eWA) ?_
            refine g_callV (As := [.int 45, .int (nI WA)]) (ci := 4) X dX4_describeBill_139 (c_X4_writeBehind3 κ.l hl κ.Γ M35 a (mD5 u (nI b9)) hR36 45 WA hWA (w5.mono (by omega)) rfl) k1464 k1466 kp40 k5 k1467 rfl (MRep.obj hR36) ⟨rfl, by decide, by decide, (show (parseMethodDescriptor yX4_writeBehind.desc).map (fun d => d.parameters.length) = some 2 by decide +kernel)⟩ rfl (Nat.le_of_ble_eq_true rfl) (by rw [hRm]; decide) (by rw [hRm]; exact ⟨Nat.le_of_ble_eq_true rfl, Nat.le_of_ble_eq_true rfl⟩) (fun v37 M37 h37 => ?_) (fun _ _ h9 => by cases h9.1)
            obtain ⟨e37, hR37, hF37⟩ := h37
            have e37 : (Sum.inl v37 : Res) = .inl none := e37
            cases e37
            have hR37 : MRep κ.Γ a (mBeh 3 (mD5 u (nI b9)) 45 (nI WA)) M37 := hR37
            have hF37 := Fr.tr hF35 hF37
            have hR38 : MRep κ.Γ a (mD6 u (nI b9)) M37 := by unfold mD6; rw [hcb9, eWA]; exact hR37
            have hR39 : MRep κ.Γ a (mD u (nI b9)) M37 := by unfold mD; rw [hcb9, if_pos c9]; exact hR38
            refine g_aload_n X dX4_describeBill_142 rfl 3 rfl ?_
            refine g_get X dX4_describeBill_143 (ci := 4) (k := 9) (v := .int ((mD u (nI b9)).1 4)) rfl k1098 (by decide) rfl (MRep.obj hR39) rfl ?_
            exact g_iret X F dX4_describeBill_146 (by omega) (by omega) (by unfold mDescribeBill; (try rw [hcb9]); exact (MMu.n (by first | exact c1 | exact fun q => q c1 | exact fun q => c1 q | exact Classical.not_not.mp c1) ⟨rfl, hR39, hF37⟩))
          · have hlt9 : i < RU := nI_ltS (by omega) (by omega) c31
            refine g_aload_n X dX4_describeBill_82 rfl 3 rfl ?_
            refine g_bipush (v := 42) X dX4_describeBill_83 (by decide) ?_
            refine g_callV (As := [.int 42]) (ci := 4) X dX4_describeBill_85 (c_X4_write κ.l hl κ.Γ M9 a (mStar (mD2 u (nI b9)) i) hR9 42 ((WB.star w2 i).mono (by omega)) rfl) k1460 k1462 kp39 k5 k1463 rfl (MRep.obj hR9) ⟨rfl, by decide, by decide, (show (parseMethodDescriptor yX4_write.desc).map (fun d => d.parameters.length) = some 1 by decide +kernel)⟩ rfl (Nat.le_of_ble_eq_true rfl) (by rw [hRm]; decide) (by rw [hRm]; exact ⟨Nat.le_of_ble_eq_true rfl, Nat.le_of_ble_eq_true rfl⟩) (fun v40 M40 h40 => ?_) (fun _ _ h9 => by cases h9.1)
            obtain ⟨e40, hR40, hF40⟩ := h40
            have e40 : (Sum.inl v40 : Res) = .inl none := e40
            cases e40
            have hR40 : MRep κ.Γ a (mWr (mStar (mD2 u (nI b9)) i) 42) M40 := hR40
            have hF40 := Fr.tr hF9 hF40
            have hR41 : MRep κ.Γ a (mStar (mD2 u (nI b9)) (i + 1)) M40 := hR40
            refine g_iinc (k := 0) (v := (nI (i + 1))) (L' := [(3, .int (nI (i + 1))), (2, .int (u.2.1 1 (53 + 16 * b9 + 0))), (1, .int (nI b9)), (0, .ref (a 0))]) X dX4_describeBill_88 rfl (nI_1 _) (by rw [hnL]; decide) rfl ?_
            refine g_goto (tgt := 73) X dX4_describeBill_91 (by decide) ?_
            refine g_locs [0, 1, 2, 3] (L' := [(3, .int (nI (i + 1))), (2, .int (u.2.1 1 (53 + 16 * b9 + 0))), (1, .int (nI b9)), (0, .ref (a 0))]) rfl ?_
            exact ih (i + 1) M40 (by omega) (by omega) hR41 hF40
      refine g_locs [0, 1, 3, 2] (L' := [(3, .int (nI 0)), (2, .int (u.2.1 1 (53 + 16 * b9 + 0))), (1, .int (nI b9)), (0, .ref (a 0))]) rfl ?_
      exact lp (RU + 1) 0 M29 (by omega) (by omega) hR30 hF29
  · refine g_iconst (v := 1) X dX4_describeBill_10 (by decide) ?_
    refine g_goto (tgt := 15) X dX4_describeBill_11 (by decide) ?_
    refine g_callV (As := [.int 1, .int 1]) (ci := 4) X dX4_describeBill_15 (c_X4_fails1 κ.l hl κ.Γ M a u hR 1) k1164 k1166 kp15 k5 k1167 rfl (MRep.obj hR) ⟨rfl, by decide, by decide, (show (parseMethodDescriptor yX4_fails.desc).map (fun d => d.parameters.length) = some 2 by decide +kernel)⟩ rfl (Nat.le_of_ble_eq_true rfl) (by rw [hRm]; decide) (by rw [hRm]; exact ⟨Nat.le_of_ble_eq_true rfl, Nat.le_of_ble_eq_true rfl⟩) (fun v42 M42 h42 => ?_) (fun _ _ h9 => by cases h9.1)
    obtain ⟨e42, hR42, hF42⟩ := h42
    have e42 : (Sum.inl v42 : Res) = rI 1 := e42
    cases e42
    refine g_if_eq (tgt := 23) X dX4_describeBill_18 (by decide) (fun c43 => absurd c43 (by decide)) (fun c43 => ?_)
    refine g_iconst (v := 0) X dX4_describeBill_21 (by decide) ?_
    exact g_iret X F dX4_describeBill_22 (by omega) (by omega) (by unfold mDescribeBill; exact (MMu.y (by first | exact c1 | exact fun q => q c1 | exact fun q => c1 q | exact Classical.not_not.mp c1) ⟨rfl, hR42, hF42⟩))
