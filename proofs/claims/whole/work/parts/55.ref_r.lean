set_option maxRecDepth 100000 in
set_option maxHeartbeats 4000000 in
theorem c_X4_run (l : Launch) (hl : l.stackTraces = false) (Γ : Gm) (M : Hp) (a : Nat → Nat) (u : HV) (hR : MRep Γ a u M) (hx : XInv 200 u) (hi : RI u) (hk : KInv u) : Ct l Γ yX4_run cX4_run 4 (some .int) 7 0 0 [.ref (a 0)] M (MMu Γ a (mRun u) M) := by
  refine Ct.of hl (by decide) (Nat.le_of_ble_eq_true rfl) rfl ?_
  intro κ e1 e2 hnL hRm X F hlt
  subst e1 e2
  obtain ⟨K, hK8, eK⟩ := hk
  refine g_aload_n X dX4_run_0 rfl 0 rfl ?_
  refine g_callV (As := []) (ci := 4) X dX4_run_1 (c_X4_countCommands κ.l hl κ.Γ M a u hR hx) k1480 k1482 kp41 k5 k1483 rfl (MRep.obj hR) ⟨rfl, by decide, by decide, (show (parseMethodDescriptor yX4_countCommands.desc).map (fun d => d.parameters.length) = some 0 by decide +kernel)⟩ rfl (Nat.le_of_ble_eq_true rfl) (by rw [hRm]; decide) (by rw [hRm]; exact ⟨Nat.le_of_ble_eq_true rfl, Nat.le_of_ble_eq_true rfl⟩) (fun v1 M1 h1 => ?_) (fun _ _ h9 => by cases h9.1)
  obtain ⟨e1, hR1, hF1⟩ := h1
  have e1 : (Sum.inl v1 : Res) = .inl (some (.int ((mCC u).1))) := e1
  cases e1
  have hR1 : MRep κ.Γ a ((mCC u).2) M1 := hR1
  obtain ⟨m, hm1, hm2, em⟩ := mCC_n (u := u)
  have ty := Ty.cc (u := u)
  have hx1 : XInv 60 (mCC u).2 := XInv.cnt (by decide) (by decide) 63 1 (hx.beg.cmd (by decide) (by decide))
  refine g_lit (nI m) em ?_
  refine g_istore_n (L' := [(1, .int (nI m)), (0, .ref (a 0))]) X dX4_run_4 rfl (by rw [hnL]; decide) rfl ?_
  refine g_aload_n X dX4_run_5 rfl 1 rfl ?_
  refine g_get X dX4_run_6 (ci := 4) (k := 18) (v := .int (((mCC u).2).1 12)) rfl k1107 (by decide) rfl (MRep.obj hR1) rfl ?_
  refine g_if_eq (tgt := 32) X dX4_run_9 (by decide) (fun c2 => ?_) (fun c2 => ?_)
  · have hw12 : (mCC u).2.1 12 = 0 := c2
    refine g_aload_n X dX4_run_32 rfl 1 rfl ?_
    refine g_get X dX4_run_33 (ci := 4) (k := 1) (v := .ref (a 1)) rfl k1090 (by decide) rfl (MRep.obj hR1) rfl ?_
    refine g_aload_n X dX4_run_36 rfl 1 rfl ?_
    refine g_get X dX4_run_37 (ci := 4) (k := 3) (v := .ref (a 3)) rfl k1092 (by decide) rfl (MRep.obj hR1) rfl ?_
    refine g_callS (As := [.ref (a 1), .ref (a 3)]) X dX4_run_40 (c_X4_copyRow κ.l hl κ.Γ M1 a ((mCC u).2) hR1 1 3 (by omega) (by omega) (by omega)) k1176 k1177 k5 k1178 ⟨by decide, by decide, (show (parseMethodDescriptor yX4_copyRow.desc).map (fun d => d.parameters.length) = some 2 by decide +kernel)⟩ rfl (Nat.le_of_ble_eq_true rfl) (by rw [hRm]; decide) (by rw [hRm]; exact ⟨Nat.le_of_ble_eq_true rfl, Nat.le_of_ble_eq_true rfl⟩) (fun v3 M3 h3 => ?_) (fun _ _ h9 => by cases h9.1)
    obtain ⟨e3, hR3, hF3⟩ := h3
    have e3 : (Sum.inl v3 : Res) = .inl none := e3
    cases e3
    have hR3 : MRep κ.Γ a (cpR ((mCC u).2) 1 3) M3 := hR3
    have hF3 := Fr.tr hF1 hF3
    refine g_aload_n X dX4_run_43 rfl 1 rfl ?_
    refine g_iconst (v := 1) X dX4_run_44 (by decide) ?_
    refine g_put X dX4_run_45 (ci := 4) (k := 7) (ty := .boolean) rfl k1096 (by decide) rfl rfl (by decide +kernel) rfl rfl (Nat.le_of_ble_eq_true rfl) (MRep.obj hR3) ?_
    refine g_gen (P := fun M9 => MRep κ.Γ a (hsc (cpR ((mCC u).2) 1 3) 3 1) M9 ∧ Fr a 15 M M9) ⟨MRep.sc hR3 3 _ rfl, Fr.tr hF3 (Fr.up (by decide))⟩ (fun M4 ⟨hR5, hF6⟩ => ?_)
    refine g_iconst (v := 1) X dX4_run_48 (by decide) ?_
    refine g_istore_n (L' := [(2, .int 1), (1, .int (nI m)), (0, .ref (a 0))]) X dX4_run_49 rfl (by rw [hnL]; decide) rfl ?_
    refine g_aload_n X dX4_run_50 rfl 2 rfl ?_
    refine g_iconst (v := 0) X dX4_run_51 (by decide) ?_
    refine g_put X dX4_run_52 (ci := 4) (k := 12) (ty := .int) rfl k1101 (by decide) rfl rfl (by decide +kernel) rfl rfl (Nat.le_of_ble_eq_true rfl) (MRep.obj hR5) ?_
    refine g_gen (P := fun M9 => MRep κ.Γ a (hsc (hsc (cpR ((mCC u).2) 1 3) 3 1) 6 0) M9 ∧ Fr a 15 M M9) ⟨MRep.sc hR5 6 _ rfl, Fr.tr hF6 (Fr.up (by decide))⟩ (fun M7 ⟨hR8, hF9⟩ => ?_)
    refine g_iconst (v := 0) X dX4_run_55 (by decide) ?_
    refine g_istore_n (L' := [(3, .int 0), (2, .int 1), (1, .int (nI m)), (0, .ref (a 0))]) X dX4_run_56 rfl (by rw [hnL]; decide) rfl ?_
    have hwi0 : WI 60 K (rBeg (mCC u).2) := ⟨⟨hx1.1, ⟨0, by decide, rfl⟩, hx1.2.2.1, hx1.2.2.2⟩, by (show RInv ((cpR (mCC u).2 1 3).2.1 1); rw [cpR_n (by decide), ty.2]; exact hi), rfl, by (show (mCC u).2.1 1 = nI K; rw [ty.1 1 (by decide) (by decide) (by decide) (by decide) (by decide) (by decide)]; exact eK)⟩
    have hML : mLp m 0 (rBeg (mCC u).2) = mLp (cN (mCC u).1) 0 (rBeg (mCC u).2) := by rw [em, cN_nI (by omega)]
    have lp : ∀ (n j : Nat) (M9 : Hp) (v : HV), m - j < n → j ≤ m → WI (60 + j) K v → mLp (m - j) j v = mLp m 0 (rBeg (mCC u).2) → MRep κ.Γ a v M9 → Fr a 15 M M9 → G κ M9 0 0 [(3, .int (nI j)), (2, .int 1), (1, .int (nI m)), (0, .ref (a 0))] 57 [] := by
      intro n
      induction n with
      | zero => intro j _ _ h1; exact absurd h1 (Nat.not_lt_zero _)
      | succ n ih =>
        intro j M9 v hn hj hwi hX hR9 hF9
        refine g_iload_n X dX4_run_57 rfl 0 rfl ?_
        refine g_iload_n X dX4_run_58 rfl 2 rfl ?_
        refine g_icmp_ge (tgt := 119) X dX4_run_59 (by decide) (fun c10 => ?_) (fun c10 => ?_)
        · have hje : j = m := eq_of_ge (N := m) ⟨rfl, by omega⟩ hj c10
          subst hje
          have hX0 : (1, v) = mLp j 0 (rBeg (mCC u).2) := by rw [Nat.sub_self] at hX; exact hX
          refine g_aload_n X dX4_run_119 rfl 3 rfl ?_
          refine g_iconst (v := 0) X dX4_run_120 (by decide) ?_
          refine g_put X dX4_run_121 (ci := 4) (k := 7) (ty := .boolean) rfl k1096 (by decide) rfl rfl (by decide +kernel) rfl rfl (Nat.le_of_ble_eq_true rfl) (MRep.obj hR9) ?_
          refine g_gen (P := fun M9 => MRep κ.Γ a (hsc v 3 0) M9 ∧ Fr a 15 M M9) ⟨MRep.sc hR9 3 _ rfl, Fr.tr hF9 (Fr.up (by decide))⟩ (fun M11 ⟨hR12, hF13⟩ => ?_)
          refine g_aload_n X dX4_run_124 rfl 3 rfl ?_
          refine g_iconst (v := 0) X dX4_run_125 (by decide) ?_
          refine g_put X dX4_run_126 (ci := 4) (k := 11) (ty := .int) rfl k1100 (by decide) rfl rfl (by decide +kernel) rfl rfl (Nat.le_of_ble_eq_true rfl) (MRep.obj hR12) ?_
          refine g_gen (P := fun M9 => MRep κ.Γ a (hsc (hsc v 3 0) 5 0) M9 ∧ Fr a 15 M M9) ⟨MRep.sc hR12 5 _ rfl, Fr.tr hF13 (Fr.up (by decide))⟩ (fun M14 ⟨hR15, hF16⟩ => ?_)
          refine g_aload_n X dX4_run_129 rfl 3 rfl ?_
          refine g_iload_n X dX4_run_130 rfl 1 rfl ?_
          refine g_if_eq (tgt := 138) X dX4_run_131 (by decide) (fun c17 => absurd c17 (by decide)) (fun c17 => ?_)
          refine g_iconst (v := 0) X dX4_run_134 (by decide) ?_
          refine g_goto (tgt := 139) X dX4_run_135 (by decide) ?_
          refine g_put X dX4_run_139 (ci := 4) (k := 0) (ty := .int) rfl k1089 (by decide) rfl rfl (by decide +kernel) rfl rfl (Nat.le_of_ble_eq_true rfl) (MRep.obj hR15) ?_
          refine g_gen (P := fun M9 => MRep κ.Γ a (hsc (hsc (hsc v 3 0) 5 0) 0 0) M9 ∧ Fr a 15 M M9) ⟨MRep.sc hR15 0 _ rfl, Fr.tr hF16 (Fr.up (by decide))⟩ (fun M18 ⟨hR19, hF20⟩ => ?_)
          refine g_iload_n X dX4_run_142 rfl 1 rfl ?_
          refine g_if_ne (tgt := 159) X dX4_run_143 (by decide) (fun c21 => ?_) (fun c21 => absurd c21 (by decide))
          refine g_aload_n X dX4_run_159 rfl 3 rfl ?_
          refine g_aload_n X dX4_run_160 rfl 3 rfl ?_
          refine g_get X dX4_run_161 (ci := 4) (k := 3) (v := .ref (a 3)) rfl k1092 (by decide) rfl (MRep.obj hR19) rfl ?_
          refine g_callV (As := [.ref (a 3)]) (ci := 4) X dX4_run_164 (c_X4_remember κ.l hl κ.Γ M18 a (hsc (hsc (hsc v 3 0) 5 0) 0 0) hR19 3 K (Or.inr rfl) hK8 hwi.2.2.2) k1172 k1174 kp17 k5 k1175 rfl (MRep.obj hR19) ⟨rfl, by decide, by decide, (show (parseMethodDescriptor yX4_remember.desc).map (fun d => d.parameters.length) = some 1 by decide +kernel)⟩ rfl (Nat.le_of_ble_eq_true rfl) (by rw [hRm]; decide) (by rw [hRm]; exact ⟨Nat.le_of_ble_eq_true rfl, Nat.le_of_ble_eq_true rfl⟩) (fun v22 M22 h22 => ?_) (fun _ _ h9 => by cases h9.1)
          obtain ⟨e22, hR22, hF22⟩ := h22
          have e22 : (Sum.inl v22 : Res) = .inl none := e22
          cases e22
          have hF22 := Fr.tr hF20 hF22
          refine g_iload_n X dX4_run_167 rfl 2 rfl ?_
          exact g_iret X F dX4_run_168 (by omega) (by omega) (by unfold mRun; rw [if_pos hw12, ← hML, ← hX0, eK, cN_nI (by omega)]; exact ⟨by rw [em]; rfl, hR22, hF22⟩)
        · have hjl : j < m := lt_of_nge (N := m) ⟨rfl, by omega⟩ hj c10
          obtain ⟨k, hjk⟩ : ∃ k, m - j = k + 1 := ⟨m - j - 1, by omega⟩
          have hwi1 := hwi.rd (by omega) (by omega)
          refine g_iload_n X dX4_run_62 rfl 1 rfl ?_
          refine g_if_eq (tgt := 119) X dX4_run_63 (by decide) (fun c23 => absurd c23 (by decide)) (fun c23 => ?_)
          refine g_aload_n X dX4_run_66 rfl 3 rfl ?_
          refine g_callV (As := []) (ci := 4) X dX4_run_67 (c_X4_readCommand κ.l hl κ.Γ M9 a v hR9 (hwi.1.mono (by omega))) k1484 k1486 kp42 k5 k1487 rfl (MRep.obj hR9) ⟨rfl, by decide, by decide, (show (parseMethodDescriptor yX4_readCommand.desc).map (fun d => d.parameters.length) = some 0 by decide +kernel)⟩ rfl (Nat.le_of_ble_eq_true rfl) (by rw [hRm]; decide) (by rw [hRm]; exact ⟨Nat.le_of_ble_eq_true rfl, Nat.le_of_ble_eq_true rfl⟩) (fun v24 M24 h24 => ?_) (fun _ _ h9 => by cases h9.1)
          obtain ⟨e24, hR24, hF24⟩ := h24
          have e24 : (Sum.inl v24 : Res) = .inl none := e24
          cases e24
          have hR24 : MRep κ.Γ a (mCmd v) M24 := hR24
          have hF24 := Fr.tr hF9 hF24
          refine g_aload_n X dX4_run_70 rfl 3 rfl ?_
          refine g_dup X dX4_run_71 rfl ?_
          refine g_get X dX4_run_72 (ci := 4) (k := 12) (v := .int ((mCmd v).1 6)) rfl k1101 (by decide) rfl (MRep.obj hR24) rfl ?_
          refine g_iconst (v := 1) X dX4_run_75 (by decide) ?_
          refine g_iadd X dX4_run_76 ?_
          refine g_put X dX4_run_77 (ci := 4) (k := 12) (ty := .int) rfl k1101 (by decide) rfl rfl (by decide +kernel) rfl rfl (Nat.le_of_ble_eq_true rfl) (MRep.obj hR24) ?_
          refine g_gen (P := fun M9 => MRep κ.Γ a (hsc (mCmd v) 6 (((mCmd v).1 6) + 1)) M9 ∧ Fr a 15 M M9) ⟨MRep.sc hR24 6 _ rfl, Fr.tr hF24 (Fr.up (by decide))⟩ (fun M25 ⟨hR26, hF27⟩ => ?_)
          have hR28 : MRep κ.Γ a (sRd v) M25 := hR26
          refine g_aload_n X dX4_run_80 rfl 3 rfl ?_
          refine g_callV (As := []) (ci := 4) X dX4_run_81 (c_X4_runCommand κ.l hl κ.Γ M25 a (sRd v) hR28 hwi1.2.1 (hwi1.k hK8)) k1530 k1532 kp50 k5 k1533 rfl (MRep.obj hR28) ⟨rfl, by decide, by decide, (show (parseMethodDescriptor yX4_runCommand.desc).map (fun d => d.parameters.length) = some 0 by decide +kernel)⟩ rfl (Nat.le_of_ble_eq_true rfl) (by rw [hRm]; decide) (by rw [hRm]; exact ⟨Nat.le_of_ble_eq_true rfl, Nat.le_of_ble_eq_true rfl⟩) (fun v29 M29 h29 => ?_) (fun _ _ h9 => by cases h9.1)
          obtain ⟨e29, hR29, hF29⟩ := h29
          have e29 : (Sum.inl v29 : Res) = .inl none := e29
          cases e29
          have hR29 : MRep κ.Γ a (mRunC (sRd v)) M29 := hR29
          have hF29 := Fr.tr hF27 hF29
          have hR30 : MRep κ.Γ a (sSt v) M29 := hR29
          have hwi2 : WI (60 + (j + 1)) K (sSt v) := hwi.st (by omega) (by omega)
          refine g_aload_n X dX4_run_84 rfl 3 rfl ?_
          refine g_get X dX4_run_85 (ci := 4) (k := 0) (v := .int ((sSt v).1 0)) rfl k1089 (by decide) rfl (MRep.obj hR30) rfl ?_
          refine g_if_ne (tgt := 95) X dX4_run_88 (by decide) (fun c31 => ?_) (fun c31 => ?_)
          · have hth : ¬ (sSt v).1 0 = 0 := c31
            refine g_iconst (v := 0) X dX4_run_95 (by decide) ?_
            refine g_istore_n (L' := [(2, .int 0), (3, .int (nI j)), (1, .int (nI m)), (0, .ref (a 0))]) X dX4_run_96 rfl (by rw [hnL]; decide) rfl ?_
            refine g_aload_n X dX4_run_97 rfl 3 rfl ?_
            refine g_iload_n X dX4_run_98 rfl 0 rfl ?_
            refine g_if_eq (tgt := 109) X dX4_run_99 (by decide) (fun c32 => ?_) (fun c32 => absurd c32 (by decide))
            refine g_iload_n X dX4_run_109 rfl 1 rfl ?_
            refine g_put X dX4_run_110 (ci := 4) (k := 14) (ty := .int) rfl k1103 (by decide) rfl rfl (by decide +kernel) rfl rfl (Nat.le_of_ble_eq_true rfl) (MRep.obj hR30) ?_
            refine g_gen (P := fun M9 => MRep κ.Γ a (hsc (sSt v) 8 (nI j)) M9 ∧ Fr a 15 M M9) ⟨MRep.sc hR30 8 _ rfl, Fr.tr hF29 (Fr.up (by decide))⟩ (fun M33 ⟨hR34, hF35⟩ => ?_)
            have hX0 : (0, hsc (sSt v) 8 (nI j)) = mLp m 0 (rBeg (mCC u).2) := by rw [hjk] at hX; rw [← hX]; exact (if_neg hth).symm
            refine g_iinc (k := 1) (v := (nI (j + 1))) (L' := [(3, .int (nI (j + 1))), (2, .int 0), (1, .int (nI m)), (0, .ref (a 0))]) X dX4_run_113 rfl (nI_1 _) (by rw [hnL]; decide) rfl ?_
            refine g_goto (tgt := 57) X dX4_run_116 (by decide) ?_
            refine g_iload_n X dX4_run_57 rfl 0 rfl ?_
            refine g_iload_n X dX4_run_58 rfl 2 rfl ?_
            refine g_icmp_ge (tgt := 119) X dX4_run_59 (by decide) (fun c36 => ?_) (fun c36 => ?_)
            · refine g_aload_n X dX4_run_119 rfl 3 rfl ?_
              refine g_iconst (v := 0) X dX4_run_120 (by decide) ?_
              refine g_put X dX4_run_121 (ci := 4) (k := 7) (ty := .boolean) rfl k1096 (by decide) rfl rfl (by decide +kernel) rfl rfl (Nat.le_of_ble_eq_true rfl) (MRep.obj hR34) ?_
              refine g_gen (P := fun M9 => MRep κ.Γ a (hsc (hsc (sSt v) 8 (nI j)) 3 0) M9 ∧ Fr a 15 M M9) ⟨MRep.sc hR34 3 _ rfl, Fr.tr hF35 (Fr.up (by decide))⟩ (fun M37 ⟨hR38, hF39⟩ => ?_)
              refine g_aload_n X dX4_run_124 rfl 3 rfl ?_
              refine g_iconst (v := 0) X dX4_run_125 (by decide) ?_
              refine g_put X dX4_run_126 (ci := 4) (k := 11) (ty := .int) rfl k1100 (by decide) rfl rfl (by decide +kernel) rfl rfl (Nat.le_of_ble_eq_true rfl) (MRep.obj hR38) ?_
              refine g_gen (P := fun M9 => MRep κ.Γ a (hsc (hsc (hsc (sSt v) 8 (nI j)) 3 0) 5 0) M9 ∧ Fr a 15 M M9) ⟨MRep.sc hR38 5 _ rfl, Fr.tr hF39 (Fr.up (by decide))⟩ (fun M40 ⟨hR41, hF42⟩ => ?_)
              refine g_aload_n X dX4_run_129 rfl 3 rfl ?_
              refine g_iload_n X dX4_run_130 rfl 1 rfl ?_
              refine g_if_eq (tgt := 138) X dX4_run_131 (by decide) (fun c43 => ?_) (fun c43 => absurd c43 (by decide))
              refine g_iconst (v := 2) X dX4_run_138 (by decide) ?_
              refine g_put X dX4_run_139 (ci := 4) (k := 0) (ty := .int) rfl k1089 (by decide) rfl rfl (by decide +kernel) rfl rfl (Nat.le_of_ble_eq_true rfl) (MRep.obj hR41) ?_
              refine g_gen (P := fun M9 => MRep κ.Γ a (hsc (hsc (hsc (hsc (sSt v) 8 (nI j)) 3 0) 5 0) 0 2) M9 ∧ Fr a 15 M M9) ⟨MRep.sc hR41 0 _ rfl, Fr.tr hF42 (Fr.up (by decide))⟩ (fun M44 ⟨hR45, hF46⟩ => ?_)
              refine g_iload_n X dX4_run_142 rfl 1 rfl ?_
              refine g_if_ne (tgt := 159) X dX4_run_143 (by decide) (fun c47 => absurd c47 (by decide)) (fun c47 => ?_)
              refine g_aload_n X dX4_run_146 rfl 3 rfl ?_
              refine g_get X dX4_run_147 (ci := 4) (k := 3) (v := .ref (a 3)) rfl k1092 (by decide) rfl (MRep.obj hR45) rfl ?_
              refine g_aload_n X dX4_run_150 rfl 3 rfl ?_
              refine g_get X dX4_run_151 (ci := 4) (k := 1) (v := .ref (a 1)) rfl k1090 (by decide) rfl (MRep.obj hR45) rfl ?_
              refine g_callS (As := [.ref (a 3), .ref (a 1)]) X dX4_run_154 (c_X4_copyRow κ.l hl κ.Γ M44 a (hsc (hsc (hsc (hsc (sSt v) 8 (nI j)) 3 0) 5 0) 0 2) hR45 3 1 (by omega) (by omega) (by omega)) k1176 k1177 k5 k1178 ⟨by decide, by decide, (show (parseMethodDescriptor yX4_copyRow.desc).map (fun d => d.parameters.length) = some 2 by decide +kernel)⟩ rfl (Nat.le_of_ble_eq_true rfl) (by rw [hRm]; decide) (by rw [hRm]; exact ⟨Nat.le_of_ble_eq_true rfl, Nat.le_of_ble_eq_true rfl⟩) (fun v48 M48 h48 => ?_) (fun _ _ h9 => by cases h9.1)
              obtain ⟨e48, hR48, hF48⟩ := h48
              have e48 : (Sum.inl v48 : Res) = .inl none := e48
              cases e48
              have hR48 : MRep κ.Γ a (cpR (hsc (hsc (hsc (hsc (sSt v) 8 (nI j)) 3 0) 5 0) 0 2) 3 1) M48 := hR48
              have hF48 := Fr.tr hF46 hF48
              refine g_iconst (v := 0) X dX4_run_157 (by decide) ?_
              exact g_iret X F dX4_run_158 (by omega) (by omega) (by unfold mRun; rw [if_pos hw12, ← hML, ← hX0]; exact ⟨rfl, hR48, hF48⟩)
            · refine g_iload_n X dX4_run_62 rfl 1 rfl ?_
              refine g_if_eq (tgt := 119) X dX4_run_63 (by decide) (fun c49 => ?_) (fun c49 => absurd c49 (by decide))
              refine g_aload_n X dX4_run_119 rfl 3 rfl ?_
              refine g_iconst (v := 0) X dX4_run_120 (by decide) ?_
              refine g_put X dX4_run_121 (ci := 4) (k := 7) (ty := .boolean) rfl k1096 (by decide) rfl rfl (by decide +kernel) rfl rfl (Nat.le_of_ble_eq_true rfl) (MRep.obj hR34) ?_
              refine g_gen (P := fun M9 => MRep κ.Γ a (hsc (hsc (sSt v) 8 (nI j)) 3 0) M9 ∧ Fr a 15 M M9) ⟨MRep.sc hR34 3 _ rfl, Fr.tr hF35 (Fr.up (by decide))⟩ (fun M50 ⟨hR51, hF52⟩ => ?_)
              refine g_aload_n X dX4_run_124 rfl 3 rfl ?_
              refine g_iconst (v := 0) X dX4_run_125 (by decide) ?_
              refine g_put X dX4_run_126 (ci := 4) (k := 11) (ty := .int) rfl k1100 (by decide) rfl rfl (by decide +kernel) rfl rfl (Nat.le_of_ble_eq_true rfl) (MRep.obj hR51) ?_
              refine g_gen (P := fun M9 => MRep κ.Γ a (hsc (hsc (hsc (sSt v) 8 (nI j)) 3 0) 5 0) M9 ∧ Fr a 15 M M9) ⟨MRep.sc hR51 5 _ rfl, Fr.tr hF52 (Fr.up (by decide))⟩ (fun M53 ⟨hR54, hF55⟩ => ?_)
              refine g_aload_n X dX4_run_129 rfl 3 rfl ?_
              refine g_iload_n X dX4_run_130 rfl 1 rfl ?_
              refine g_if_eq (tgt := 138) X dX4_run_131 (by decide) (fun c56 => ?_) (fun c56 => absurd c56 (by decide))
              refine g_iconst (v := 2) X dX4_run_138 (by decide) ?_
              refine g_put X dX4_run_139 (ci := 4) (k := 0) (ty := .int) rfl k1089 (by decide) rfl rfl (by decide +kernel) rfl rfl (Nat.le_of_ble_eq_true rfl) (MRep.obj hR54) ?_
              refine g_gen (P := fun M9 => MRep κ.Γ a (hsc (hsc (hsc (hsc (sSt v) 8 (nI j)) 3 0) 5 0) 0 2) M9 ∧ Fr a 15 M M9) ⟨MRep.sc hR54 0 _ rfl, Fr.tr hF55 (Fr.up (by decide))⟩ (fun M57 ⟨hR58, hF59⟩ => ?_)
              refine g_iload_n X dX4_run_142 rfl 1 rfl ?_
              refine g_if_ne (tgt := 159) X dX4_run_143 (by decide) (fun c60 => absurd c60 (by decide)) (fun c60 => ?_)
              refine g_aload_n X dX4_run_146 rfl 3 rfl ?_
              refine g_get X dX4_run_147 (ci := 4) (k := 3) (v := .ref (a 3)) rfl k1092 (by decide) rfl (MRep.obj hR58) rfl ?_
              refine g_aload_n X dX4_run_150 rfl 3 rfl ?_
              refine g_get X dX4_run_151 (ci := 4) (k := 1) (v := .ref (a 1)) rfl k1090 (by decide) rfl (MRep.obj hR58) rfl ?_
              refine g_callS (As := [.ref (a 3), .ref (a 1)]) X dX4_run_154 (c_X4_copyRow κ.l hl κ.Γ M57 a (hsc (hsc (hsc (hsc (sSt v) 8 (nI j)) 3 0) 5 0) 0 2) hR58 3 1 (by omega) (by omega) (by omega)) k1176 k1177 k5 k1178 ⟨by decide, by decide, (show (parseMethodDescriptor yX4_copyRow.desc).map (fun d => d.parameters.length) = some 2 by decide +kernel)⟩ rfl (Nat.le_of_ble_eq_true rfl) (by rw [hRm]; decide) (by rw [hRm]; exact ⟨Nat.le_of_ble_eq_true rfl, Nat.le_of_ble_eq_true rfl⟩) (fun v61 M61 h61 => ?_) (fun _ _ h9 => by cases h9.1)
              obtain ⟨e61, hR61, hF61⟩ := h61
              have e61 : (Sum.inl v61 : Res) = .inl none := e61
              cases e61
              have hR61 : MRep κ.Γ a (cpR (hsc (hsc (hsc (hsc (sSt v) 8 (nI j)) 3 0) 5 0) 0 2) 3 1) M61 := hR61
              have hF61 := Fr.tr hF59 hF61
              refine g_iconst (v := 0) X dX4_run_157 (by decide) ?_
              exact g_iret X F dX4_run_158 (by omega) (by omega) (by unfold mRun; rw [if_pos hw12, ← hML, ← hX0]; exact ⟨rfl, hR61, hF61⟩)
          · have hth : (sSt v).1 0 = 0 := c31
            refine g_iconst (v := 1) X dX4_run_91 (by decide) ?_
            refine g_goto (tgt := 96) X dX4_run_92 (by decide) ?_
            refine g_istore_n (L' := [(2, .int 1), (3, .int (nI j)), (1, .int (nI m)), (0, .ref (a 0))]) X dX4_run_96 rfl (by rw [hnL]; decide) rfl ?_
            refine g_aload_n X dX4_run_97 rfl 3 rfl ?_
            refine g_iload_n X dX4_run_98 rfl 0 rfl ?_
            refine g_if_eq (tgt := 109) X dX4_run_99 (by decide) (fun c62 => absurd c62 (by decide)) (fun c62 => ?_)
            refine g_aload_n X dX4_run_102 rfl 3 rfl ?_
            refine g_get X dX4_run_103 (ci := 4) (k := 14) (v := .int ((sSt v).1 8)) rfl k1103 (by decide) rfl (MRep.obj hR30) rfl ?_
            refine g_goto (tgt := 110) X dX4_run_106 (by decide) ?_
            refine g_put X dX4_run_110 (ci := 4) (k := 14) (ty := .int) rfl k1103 (by decide) rfl rfl (by decide +kernel) rfl rfl (Nat.le_of_ble_eq_true rfl) (MRep.obj hR30) ?_
            refine g_gen (P := fun M9 => MRep κ.Γ a (hsc (sSt v) 8 ((sSt v).1 8)) M9 ∧ Fr a 15 M M9) ⟨MRep.sc hR30 8 _ rfl, Fr.tr hF29 (Fr.up (by decide))⟩ (fun M63 ⟨hR64, hF65⟩ => ?_)
            have hR66 : MRep κ.Γ a (sSt v) M63 := by have h9 := hR64; rw [hsc_id (u := sSt v) rfl] at h9; exact h9
            refine g_iinc (k := 1) (v := (nI (j + 1))) (L' := [(3, .int (nI (j + 1))), (2, .int 1), (1, .int (nI m)), (0, .ref (a 0))]) X dX4_run_113 rfl (nI_1 _) (by rw [hnL]; decide) rfl ?_
            refine g_goto (tgt := 57) X dX4_run_116 (by decide) ?_
            refine g_locs [0, 1, 2, 3] (L' := [(3, .int (nI (j + 1))), (2, .int 1), (1, .int (nI m)), (0, .ref (a 0))]) rfl ?_
            exact ih (j + 1) M63 (sSt v) (by omega) (by omega) hwi2 (by rw [hjk] at hX; rw [← hX, show m - (j + 1) = k from by omega]; exact (if_pos hth).symm) hR66 hF65
    refine g_locs [0, 1, 2, 3] (L' := [(3, .int (nI 0)), (2, .int 1), (1, .int (nI m)), (0, .ref (a 0))]) rfl ?_
    exact lp (m + 1) 0 M7 (rBeg (mCC u).2) (by omega) (by omega) hwi0 rfl hR8 hF9
  · refine g_aload_n X dX4_run_12 rfl 1 rfl ?_
    refine g_aload_n X dX4_run_13 rfl 1 rfl ?_
    refine g_get X dX4_run_14 (ci := 4) (k := 12) (v := .int (((mCC u).2).1 6)) rfl k1101 (by decide) rfl (MRep.obj hR1) rfl ?_
    refine g_put X dX4_run_17 (ci := 4) (k := 13) (ty := .int) rfl k1102 (by decide) rfl rfl (by decide +kernel) rfl rfl (Nat.le_of_ble_eq_true rfl) (MRep.obj hR1) ?_
    refine g_gen (P := fun M9 => MRep κ.Γ a (hsc ((mCC u).2) 7 (((mCC u).2).1 6)) M9 ∧ Fr a 15 M M9) ⟨MRep.sc hR1 7 _ rfl, Fr.tr hF1 (Fr.up (by decide))⟩ (fun M67 ⟨hR68, hF69⟩ => ?_)
    refine g_aload_n X dX4_run_20 rfl 1 rfl ?_
    refine g_iconst (v := 0) X dX4_run_21 (by decide) ?_
    refine g_put X dX4_run_22 (ci := 4) (k := 11) (ty := .int) rfl k1100 (by decide) rfl rfl (by decide +kernel) rfl rfl (Nat.le_of_ble_eq_true rfl) (MRep.obj hR68) ?_
    refine g_gen (P := fun M9 => MRep κ.Γ a (hsc (hsc ((mCC u).2) 7 (((mCC u).2).1 6)) 5 0) M9 ∧ Fr a 15 M M9) ⟨MRep.sc hR68 5 _ rfl, Fr.tr hF69 (Fr.up (by decide))⟩ (fun M70 ⟨hR71, hF72⟩ => ?_)
    refine g_aload_n X dX4_run_25 rfl 1 rfl ?_
    refine g_iconst (v := 1) X dX4_run_26 (by decide) ?_
    refine g_put X dX4_run_27 (ci := 4) (k := 0) (ty := .int) rfl k1089 (by decide) rfl rfl (by decide +kernel) rfl rfl (Nat.le_of_ble_eq_true rfl) (MRep.obj hR71) ?_
    refine g_gen (P := fun M9 => MRep κ.Γ a (hsc (hsc (hsc ((mCC u).2) 7 (((mCC u).2).1 6)) 5 0) 0 1) M9 ∧ Fr a 15 M M9) ⟨MRep.sc hR71 0 _ rfl, Fr.tr hF72 (Fr.up (by decide))⟩ (fun M73 ⟨hR74, hF75⟩ => ?_)
    refine g_iconst (v := 0) X dX4_run_30 (by decide) ?_
    exact g_iret X F dX4_run_31 (by omega) (by omega) (by unfold mRun; rw [if_neg c2]; exact ⟨rfl, hR74, hF75⟩)
