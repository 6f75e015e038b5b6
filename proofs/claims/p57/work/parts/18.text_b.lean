set_option maxRecDepth 100000 in
set_option maxHeartbeats 4000000 in
theorem c_X0_readSign (l : Launch) (hl : l.stackTraces = false) (Γ : Gm) (M : Hp) (a : Nat → Nat) (u : HV) (hR : TRep Γ a u M) (hi : TInv u) (c : Int32) : Ct l Γ yX0_readSign cX0_readSign 2 (some .boolean) 1 0 0 [.ref (a 0), .int c] M (TMu Γ a (some (.int (bI (tNx u = c)))) (tSign u c) M) := by
  refine Ct.of hl (by decide) (Nat.le_of_ble_eq_true rfl) rfl ?_
  intro κ e1 e2 hnL hRm X F hlt
  subst e1 e2
  refine g_aload_n X dX0_readSign_0 rfl 0 rfl ?_
  refine g_callV_rd (As := []) (ci := 0) (v := some (.int (tNx u))) X dX0_readSign_1 (c_X0_nextSign κ.l hl κ.Γ M a u hR hi) k879 k881 kp9 k3 k882 rfl (TRep.obj hR) ⟨rfl, by decide, by decide, (show (parseMethodDescriptor yX0_nextSign.desc).map (fun d => d.parameters.length) = some 0 by decide +kernel)⟩ rfl (Nat.le_of_ble_eq_true rfl) (by rw [hRm]; decide) (by rw [hRm]; exact ⟨Nat.le_of_ble_eq_true rfl, Nat.le_of_ble_eq_true rfl⟩) ?_
  refine g_iload_n X dX0_readSign_4 rfl 1 rfl ?_
  refine g_icmp_eq (tgt := 10) X dX0_readSign_5 (by decide) (fun c1 => ?_) (fun c1 => ?_)
  · refine g_aload_n X dX0_readSign_10 rfl 0 rfl ?_
    refine g_dup X dX0_readSign_11 rfl ?_
    refine g_get X dX0_readSign_12 (ci := 0) (k := 2) (v := .int (u.1 1)) rfl k118 (by decide) rfl (TRep.obj hR) rfl ?_
    refine g_iconst (v := 1) X dX0_readSign_15 (by decide) ?_
    refine g_iadd X dX0_readSign_16 ?_
    refine g_put X dX0_readSign_17 (ci := 0) (k := 2) (ty := .int) rfl k118 (by decide) rfl rfl (by decide +kernel) rfl rfl (Nat.le_of_ble_eq_true rfl) (TRep.obj hR) ?_
    refine g_gen (P := fun M9 => TRep κ.Γ a (hsc u 1 ((u.1 1) + 1)) M9 ∧ Fr a 3 M M9) ⟨TRep.sc hR 1 _ rfl, (Fr.up (by decide))⟩ (fun M2 ⟨hR3, hF4⟩ => ?_)
    refine g_iconst (v := 1) X dX0_readSign_20 (by decide) ?_
    exact g_zret X F dX0_readSign_21 (by omega) (by omega) rfl ⟨by rw [bI_t c1], by rw [tSign_y c1]; exact hR3, hF4⟩
  · refine g_iconst (v := 0) X dX0_readSign_8 (by decide) ?_
    exact g_zret X F dX0_readSign_9 (by omega) (by omega) rfl ⟨by rw [bI_f c1], by rw [tSign_n c1]; exact hR, Fr.rf⟩
set_option maxRecDepth 100000 in
set_option maxHeartbeats 4000000 in
theorem c_X0_readDigit (l : Launch) (hl : l.stackTraces = false) (Γ : Gm) (M : Hp) (a : Nat → Nat) (u : HV) (hR : TRep Γ a u M) (hi : TInv u) : Ct l Γ yX0_readDigit cX0_readDigit 2 (some .int) 1 0 0 [.ref (a 0)] M (TMu Γ a (some (.int (tNx u - 48))) (tAdv u) M) := by
  refine Ct.of hl (by decide) (Nat.le_of_ble_eq_true rfl) rfl ?_
  intro κ e1 e2 hnL hRm X F hlt
  subst e1 e2
  refine g_aload_n X dX0_readDigit_0 rfl 0 rfl ?_
  refine g_callV_rd (As := []) (ci := 0) (v := some (.int (tNx u))) X dX0_readDigit_1 (c_X0_nextSign κ.l hl κ.Γ M a u hR hi) k879 k881 kp9 k3 k882 rfl (TRep.obj hR) ⟨rfl, by decide, by decide, (show (parseMethodDescriptor yX0_nextSign.desc).map (fun d => d.parameters.length) = some 0 by decide +kernel)⟩ rfl (Nat.le_of_ble_eq_true rfl) (by rw [hRm]; decide) (by rw [hRm]; exact ⟨Nat.le_of_ble_eq_true rfl, Nat.le_of_ble_eq_true rfl⟩) ?_
  refine g_bipush (v := 48) X dX0_readDigit_4 (by decide) ?_
  refine g_isub X dX0_readDigit_6 ?_
  refine g_istore_n (L' := [(1, .int ((tNx u) - 48)), (0, .ref (a 0))]) X dX0_readDigit_7 rfl (by rw [hnL]; decide) rfl ?_
  refine g_aload_n X dX0_readDigit_8 rfl 1 rfl ?_
  refine g_dup X dX0_readDigit_9 rfl ?_
  refine g_get X dX0_readDigit_10 (ci := 0) (k := 2) (v := .int (u.1 1)) rfl k118 (by decide) rfl (TRep.obj hR) rfl ?_
  refine g_iconst (v := 1) X dX0_readDigit_13 (by decide) ?_
  refine g_iadd X dX0_readDigit_14 ?_
  refine g_put X dX0_readDigit_15 (ci := 0) (k := 2) (ty := .int) rfl k118 (by decide) rfl rfl (by decide +kernel) rfl rfl (Nat.le_of_ble_eq_true rfl) (TRep.obj hR) ?_
  refine g_gen (P := fun M9 => TRep κ.Γ a (hsc u 1 ((u.1 1) + 1)) M9 ∧ Fr a 3 M M9) ⟨TRep.sc hR 1 _ rfl, (Fr.up (by decide))⟩ (fun M1 ⟨hR2, hF3⟩ => ?_)
  refine g_iload_n X dX0_readDigit_18 rfl 0 rfl ?_
  exact g_iret X F dX0_readDigit_19 (by omega) (by omega) ⟨rfl, hR2, hF3⟩
set_option maxRecDepth 100000 in
set_option maxHeartbeats 4000000 in
theorem c_X0_readPart (l : Launch) (hl : l.stackTraces = false) (Γ : Gm) (M : Hp) (a : Nat → Nat) (u : HV) (hR : TRep Γ a u M) (hi : TInv u) (c : Int32) : Ct l Γ yX0_readPart cX0_readPart 3 (some .boolean) 2 0 0 [.ref (a 0), .int c] M (TMu Γ a (some (.int (bI (tOk u c)))) (tPart u c) M) := by
  refine Ct.of hl (by decide) (Nat.le_of_ble_eq_true rfl) rfl ?_
  intro κ e1 e2 hnL hRm X F hlt
  subst e1 e2
  refine g_iload_n X dX0_readPart_0 rfl 1 rfl ?_
  refine g_bipush (v := 68) X dX0_readPart_1 (by decide) ?_
  refine g_icmp_eq (tgt := 18) X dX0_readPart_3 (by decide) (fun c1 => ?_) (fun c1 => ?_)
  · subst c1
    refine g_aload_n X dX0_readPart_18 rfl 0 rfl ?_
    refine g_callV_rd (As := []) (ci := 0) (v := some (.int (tNx u))) X dX0_readPart_19 (c_X0_nextSign κ.l hl κ.Γ M a u hR hi) k879 k881 kp9 k3 k882 rfl (TRep.obj hR) ⟨rfl, by decide, by decide, (show (parseMethodDescriptor yX0_nextSign.desc).map (fun d => d.parameters.length) = some 0 by decide +kernel)⟩ rfl (Nat.le_of_ble_eq_true rfl) (by rw [hRm]; decide) (by rw [hRm]; exact ⟨Nat.le_of_ble_eq_true rfl, Nat.le_of_ble_eq_true rfl⟩) ?_
    refine g_callS_rd (As := [.int (tNx u)]) (v := some (.int (bI (isDig (tNx u))))) X dX0_readPart_22 (c_X0_isDigit κ.l hl κ.Γ M (tNx u)) k955 k956 k3 k957 ⟨by decide, by decide, (show (parseMethodDescriptor yX0_isDigit.desc).map (fun d => d.parameters.length) = some 1 by decide +kernel)⟩ rfl (Nat.le_of_ble_eq_true rfl) (by rw [hRm]; decide) (by rw [hRm]; exact ⟨Nat.le_of_ble_eq_true rfl, Nat.le_of_ble_eq_true rfl⟩) ?_
    refine g_ifb_ne (tgt := 30) X dX0_readPart_25 (by decide) (fun c2 => ?_) (fun c2 => ?_)
    · refine g_aload_n X dX0_readPart_30 rfl 0 rfl ?_
      refine g_callV (As := []) (ci := 0) X dX0_readPart_31 (c_X0_readDigit κ.l hl κ.Γ M a u hR hi) k958 k960 kp11 k3 k961 rfl (TRep.obj hR) ⟨rfl, by decide, by decide, (show (parseMethodDescriptor yX0_readDigit.desc).map (fun d => d.parameters.length) = some 0 by decide +kernel)⟩ rfl (Nat.le_of_ble_eq_true rfl) (by rw [hRm]; decide) (by rw [hRm]; exact ⟨Nat.le_of_ble_eq_true rfl, Nat.le_of_ble_eq_true rfl⟩) (fun v2 M2 h2 => ?_) (fun _ _ h9 => by cases h9.1)
      obtain ⟨e2, hR2, hF2⟩ := h2
      cases e2
      have hI4 : TInv (tAdv u) := hi.adv (TInv.dig c2)
      refine g_istore_n (L' := [(2, .int (tNx u - 48)), (0, .ref (a 0)), (1, .int 68)]) X dX0_readPart_34 rfl (by rw [hnL]; decide) rfl ?_
      refine g_iload_n X dX0_readPart_35 rfl 2 rfl ?_
      refine g_bipush (v := 78) X dX0_readPart_36 (by decide) ?_
      refine g_icmp_ne (tgt := 61) X dX0_readPart_38 (by decide) (fun c5 => ?_) (fun c5 => absurd c5 (by decide))
      refine g_aload_n X dX0_readPart_61 rfl 1 rfl ?_
      refine g_get X dX0_readPart_62 (ci := 0) (k := 5) (v := .int ((tAdv u).1 3)) rfl k124 (by decide) rfl (TRep.obj hR2) rfl ?_
      refine g_aload_n X dX0_readPart_65 rfl 1 rfl ?_
      refine g_get X dX0_readPart_66 (ci := 0) (k := 4) (v := .ref (a 2)) rfl k122 (by decide) rfl (TRep.obj hR2) rfl ?_
      refine g_alen (t0 := 0) (ty := .int) (v := 3) X dX0_readPart_69 (TRep.nums hR2) rfl (show Int32.ofNat 3 = 3 by decide) ?_
      refine g_icmp_ge (tgt := 93) X dX0_readPart_70 (by decide) (fun c6 => ?_) (fun c6 => ?_)
      · refine g_iconst (v := 1) X dX0_readPart_93 (by decide) ?_
        exact g_zret X F dX0_readPart_94 (by omega) (by omega) rfl ⟨by rw [bI_t (by rw [tOk_d (Or.inl rfl)]; exact c2)], by rw [tPart_d (Or.inl rfl) c2, tNum_1 (fun h => absurd h.1 (by decide))]; (first | rw [tPut_y (Int32.not_le.mp c6)] | rw [tPut_n (Int32.not_lt.mpr c6)]); exact hR2, hF2⟩
      · have vn7 : vp_in ((tAdv u).1 3) 3 := hI4.nr (Int32.not_le.mp c6)
        refine g_aload_n X dX0_readPart_73 rfl 1 rfl ?_
        refine g_get X dX0_readPart_74 (ci := 0) (k := 4) (v := .ref (a 2)) rfl k122 (by decide) rfl (TRep.obj hR2) rfl ?_
        refine g_aload_n X dX0_readPart_77 rfl 1 rfl ?_
        refine g_get X dX0_readPart_78 (ci := 0) (k := 5) (v := .int ((tAdv u).1 3)) rfl k124 (by decide) rfl (TRep.obj hR2) rfl ?_
        refine g_iload_n X dX0_readPart_81 rfl 0 rfl ?_
        refine g_iastore X dX0_readPart_82 (TRep.nums hR2) vn7 ?_
        refine g_gen (P := fun M9 => TRep κ.Γ a (hset (tAdv u) 2 (cN ((tAdv u).1 3)) (tNx u - 48)) M9 ∧ Fr a 3 M M9) ⟨TRep.nm hR2 _, Fr.tr hF2 (Fr.up (by decide))⟩ (fun M8 ⟨hR9, hF10⟩ => ?_)
        refine g_aload_n X dX0_readPart_83 rfl 1 rfl ?_
        refine g_dup X dX0_readPart_84 rfl ?_
        refine g_get X dX0_readPart_85 (ci := 0) (k := 5) (v := .int ((hset (tAdv u) 2 (cN ((tAdv u).1 3)) (tNx u - 48)).1 3)) rfl k124 (by decide) rfl (TRep.obj hR9) rfl ?_
        refine g_iconst (v := 1) X dX0_readPart_88 (by decide) ?_
        refine g_iadd X dX0_readPart_89 ?_
        refine g_put X dX0_readPart_90 (ci := 0) (k := 5) (ty := .int) rfl k124 (by decide) rfl rfl (by decide +kernel) rfl rfl (Nat.le_of_ble_eq_true rfl) (TRep.obj hR9) ?_
        refine g_gen (P := fun M9 => TRep κ.Γ a (hsc (hset (tAdv u) 2 (cN ((tAdv u).1 3)) (tNx u - 48)) 3 (((hset (tAdv u) 2 (cN ((tAdv u).1 3)) (tNx u - 48)).1 3) + 1)) M9 ∧ Fr a 3 M M9) ⟨TRep.sc hR9 3 _ rfl, Fr.tr hF10 (Fr.up (by decide))⟩ (fun M11 ⟨hR12, hF13⟩ => ?_)
        refine g_iconst (v := 1) X dX0_readPart_93 (by decide) ?_
        exact g_zret X F dX0_readPart_94 (by omega) (by omega) rfl ⟨by rw [bI_t (by rw [tOk_d (Or.inl rfl)]; exact c2)], by rw [tPart_d (Or.inl rfl) c2, tNum_1 (fun h => absurd h.1 (by decide))]; (first | rw [tPut_y (Int32.not_le.mp c6)] | rw [tPut_n (Int32.not_lt.mpr c6)]); exact hR12, hF13⟩
    · refine g_iconst (v := 0) X dX0_readPart_28 (by decide) ?_
      exact g_zret X F dX0_readPart_29 (by omega) (by omega) rfl ⟨by rw [bI_f (by rw [tOk_d (Or.inl rfl)]; exact c2)], by rw [tPart_n (Or.inl rfl) c2]; exact hR, Fr.rf⟩
  · refine g_iload_n X dX0_readPart_6 rfl 1 rfl ?_
    refine g_bipush (v := 78) X dX0_readPart_7 (by decide) ?_
    refine g_icmp_eq (tgt := 18) X dX0_readPart_9 (by decide) (fun c14 => ?_) (fun c14 => ?_)
    · subst c14
      refine g_aload_n X dX0_readPart_18 rfl 0 rfl ?_
      refine g_callV_rd (As := []) (ci := 0) (v := some (.int (tNx u))) X dX0_readPart_19 (c_X0_nextSign κ.l hl κ.Γ M a u hR hi) k879 k881 kp9 k3 k882 rfl (TRep.obj hR) ⟨rfl, by decide, by decide, (show (parseMethodDescriptor yX0_nextSign.desc).map (fun d => d.parameters.length) = some 0 by decide +kernel)⟩ rfl (Nat.le_of_ble_eq_true rfl) (by rw [hRm]; decide) (by rw [hRm]; exact ⟨Nat.le_of_ble_eq_true rfl, Nat.le_of_ble_eq_true rfl⟩) ?_
      refine g_callS_rd (As := [.int (tNx u)]) (v := some (.int (bI (isDig (tNx u))))) X dX0_readPart_22 (c_X0_isDigit κ.l hl κ.Γ M (tNx u)) k955 k956 k3 k957 ⟨by decide, by decide, (show (parseMethodDescriptor yX0_isDigit.desc).map (fun d => d.parameters.length) = some 1 by decide +kernel)⟩ rfl (Nat.le_of_ble_eq_true rfl) (by rw [hRm]; decide) (by rw [hRm]; exact ⟨Nat.le_of_ble_eq_true rfl, Nat.le_of_ble_eq_true rfl⟩) ?_
      refine g_ifb_ne (tgt := 30) X dX0_readPart_25 (by decide) (fun c15 => ?_) (fun c15 => ?_)
      · refine g_aload_n X dX0_readPart_30 rfl 0 rfl ?_
        refine g_callV (As := []) (ci := 0) X dX0_readPart_31 (c_X0_readDigit κ.l hl κ.Γ M a u hR hi) k958 k960 kp11 k3 k961 rfl (TRep.obj hR) ⟨rfl, by decide, by decide, (show (parseMethodDescriptor yX0_readDigit.desc).map (fun d => d.parameters.length) = some 0 by decide +kernel)⟩ rfl (Nat.le_of_ble_eq_true rfl) (by rw [hRm]; decide) (by rw [hRm]; exact ⟨Nat.le_of_ble_eq_true rfl, Nat.le_of_ble_eq_true rfl⟩) (fun v15 M15 h15 => ?_) (fun _ _ h9 => by cases h9.1)
        obtain ⟨e15, hR15, hF15⟩ := h15
        cases e15
        have hI17 : TInv (tAdv u) := hi.adv (TInv.dig c15)
        refine g_istore_n (L' := [(2, .int (tNx u - 48)), (0, .ref (a 0)), (1, .int 78)]) X dX0_readPart_34 rfl (by rw [hnL]; decide) rfl ?_
        refine g_iload_n X dX0_readPart_35 rfl 2 rfl ?_
        refine g_bipush (v := 78) X dX0_readPart_36 (by decide) ?_
        refine g_icmp_ne (tgt := 61) X dX0_readPart_38 (by decide) (fun c18 => absurd c18 (by decide)) (fun c18 => ?_)
        refine g_aload_n X dX0_readPart_41 rfl 1 rfl ?_
        refine g_callV_rd (As := []) (ci := 0) (v := some (.int (tNx (tAdv u)))) X dX0_readPart_42 (c_X0_nextSign κ.l hl κ.Γ M15 a (tAdv u) hR15 hI17) k879 k881 kp9 k3 k882 rfl (TRep.obj hR15) ⟨rfl, by decide, by decide, (show (parseMethodDescriptor yX0_nextSign.desc).map (fun d => d.parameters.length) = some 0 by decide +kernel)⟩ rfl (Nat.le_of_ble_eq_true rfl) (by rw [hRm]; decide) (by rw [hRm]; exact ⟨Nat.le_of_ble_eq_true rfl, Nat.le_of_ble_eq_true rfl⟩) ?_
        refine g_callS_rd (As := [.int (tNx (tAdv u))]) (v := some (.int (bI (isDig (tNx (tAdv u)))))) X dX0_readPart_45 (c_X0_isDigit κ.l hl κ.Γ M15 (tNx (tAdv u))) k955 k956 k3 k957 ⟨by decide, by decide, (show (parseMethodDescriptor yX0_isDigit.desc).map (fun d => d.parameters.length) = some 1 by decide +kernel)⟩ rfl (Nat.le_of_ble_eq_true rfl) (by rw [hRm]; decide) (by rw [hRm]; exact ⟨Nat.le_of_ble_eq_true rfl, Nat.le_of_ble_eq_true rfl⟩) ?_
        refine g_ifb_eq (tgt := 61) X dX0_readPart_48 (by decide) (fun c19 => ?_) (fun c19 => ?_)
        · refine g_aload_n X dX0_readPart_61 rfl 1 rfl ?_
          refine g_get X dX0_readPart_62 (ci := 0) (k := 5) (v := .int ((tAdv u).1 3)) rfl k124 (by decide) rfl (TRep.obj hR15) rfl ?_
          refine g_aload_n X dX0_readPart_65 rfl 1 rfl ?_
          refine g_get X dX0_readPart_66 (ci := 0) (k := 4) (v := .ref (a 2)) rfl k122 (by decide) rfl (TRep.obj hR15) rfl ?_
          refine g_alen (t0 := 0) (ty := .int) (v := 3) X dX0_readPart_69 (TRep.nums hR15) rfl (show Int32.ofNat 3 = 3 by decide) ?_
          refine g_icmp_ge (tgt := 93) X dX0_readPart_70 (by decide) (fun c20 => ?_) (fun c20 => ?_)
          · refine g_iconst (v := 1) X dX0_readPart_93 (by decide) ?_
            exact g_zret X F dX0_readPart_94 (by omega) (by omega) rfl ⟨by rw [bI_t (by rw [tOk_d (Or.inr rfl)]; exact c15)], by rw [tPart_d (Or.inr rfl) c15, tNum_1 (fun h => c19 h.2)]; (first | rw [tPut_y (Int32.not_le.mp c20)] | rw [tPut_n (Int32.not_lt.mpr c20)]); exact hR15, hF15⟩
          · have vn21 : vp_in ((tAdv u).1 3) 3 := hI17.nr (Int32.not_le.mp c20)
            refine g_aload_n X dX0_readPart_73 rfl 1 rfl ?_
            refine g_get X dX0_readPart_74 (ci := 0) (k := 4) (v := .ref (a 2)) rfl k122 (by decide) rfl (TRep.obj hR15) rfl ?_
            refine g_aload_n X dX0_readPart_77 rfl 1 rfl ?_
            refine g_get X dX0_readPart_78 (ci := 0) (k := 5) (v := .int ((tAdv u).1 3)) rfl k124 (by decide) rfl (TRep.obj hR15) rfl ?_
            refine g_iload_n X dX0_readPart_81 rfl 0 rfl ?_
            refine g_iastore X dX0_readPart_82 (TRep.nums hR15) vn21 ?_
            refine g_gen (P := fun M9 => TRep κ.Γ a (hset (tAdv u) 2 (cN ((tAdv u).1 3)) (tNx u - 48)) M9 ∧ Fr a 3 M M9) ⟨TRep.nm hR15 _, Fr.tr hF15 (Fr.up (by decide))⟩ (fun M22 ⟨hR23, hF24⟩ => ?_)
            refine g_aload_n X dX0_readPart_83 rfl 1 rfl ?_
            refine g_dup X dX0_readPart_84 rfl ?_
            refine g_get X dX0_readPart_85 (ci := 0) (k := 5) (v := .int ((hset (tAdv u) 2 (cN ((tAdv u).1 3)) (tNx u - 48)).1 3)) rfl k124 (by decide) rfl (TRep.obj hR23) rfl ?_
            refine g_iconst (v := 1) X dX0_readPart_88 (by decide) ?_
            refine g_iadd X dX0_readPart_89 ?_
            refine g_put X dX0_readPart_90 (ci := 0) (k := 5) (ty := .int) rfl k124 (by decide) rfl rfl (by decide +kernel) rfl rfl (Nat.le_of_ble_eq_true rfl) (TRep.obj hR23) ?_
            refine g_gen (P := fun M9 => TRep κ.Γ a (hsc (hset (tAdv u) 2 (cN ((tAdv u).1 3)) (tNx u - 48)) 3 (((hset (tAdv u) 2 (cN ((tAdv u).1 3)) (tNx u - 48)).1 3) + 1)) M9 ∧ Fr a 3 M M9) ⟨TRep.sc hR23 3 _ rfl, Fr.tr hF24 (Fr.up (by decide))⟩ (fun M25 ⟨hR26, hF27⟩ => ?_)
            refine g_iconst (v := 1) X dX0_readPart_93 (by decide) ?_
            exact g_zret X F dX0_readPart_94 (by omega) (by omega) rfl ⟨by rw [bI_t (by rw [tOk_d (Or.inr rfl)]; exact c15)], by rw [tPart_d (Or.inr rfl) c15, tNum_1 (fun h => c19 h.2)]; (first | rw [tPut_y (Int32.not_le.mp c20)] | rw [tPut_n (Int32.not_lt.mpr c20)]); exact hR26, hF27⟩
        · refine g_iload_n X dX0_readPart_51 rfl 0 rfl ?_
          refine g_bipush (v := 10) X dX0_readPart_52 (by decide) ?_
          refine g_imul X dX0_readPart_54 ?_
          refine g_aload_n X dX0_readPart_55 rfl 1 rfl ?_
          refine g_callV (As := []) (ci := 0) X dX0_readPart_56 (c_X0_readDigit κ.l hl κ.Γ M15 a (tAdv u) hR15 hI17) k958 k960 kp11 k3 k961 rfl (TRep.obj hR15) ⟨rfl, by decide, by decide, (show (parseMethodDescriptor yX0_readDigit.desc).map (fun d => d.parameters.length) = some 0 by decide +kernel)⟩ rfl (Nat.le_of_ble_eq_true rfl) (by rw [hRm]; decide) (by rw [hRm]; exact ⟨Nat.le_of_ble_eq_true rfl, Nat.le_of_ble_eq_true rfl⟩) (fun v27 M27 h27 => ?_) (fun _ _ h9 => by cases h9.1)
          obtain ⟨e27, hR27, hF27⟩ := h27
          cases e27
          have hF27 := Fr.tr hF15 hF27
          have hI29 : TInv (tAdv (tAdv u)) := hI17.adv (TInv.dig c19)
          refine g_iadd X dX0_readPart_59 ?_
          refine g_istore_n (L' := [(2, .int (((tNx u - 48) * 10) + (tNx (tAdv u) - 48))), (0, .ref (a 0)), (1, .int 78)]) X dX0_readPart_60 rfl (by rw [hnL]; decide) rfl ?_
          refine g_aload_n X dX0_readPart_61 rfl 1 rfl ?_
          refine g_get X dX0_readPart_62 (ci := 0) (k := 5) (v := .int ((tAdv (tAdv u)).1 3)) rfl k124 (by decide) rfl (TRep.obj hR27) rfl ?_
          refine g_aload_n X dX0_readPart_65 rfl 1 rfl ?_
          refine g_get X dX0_readPart_66 (ci := 0) (k := 4) (v := .ref (a 2)) rfl k122 (by decide) rfl (TRep.obj hR27) rfl ?_
          refine g_alen (t0 := 0) (ty := .int) (v := 3) X dX0_readPart_69 (TRep.nums hR27) rfl (show Int32.ofNat 3 = 3 by decide) ?_
          refine g_icmp_ge (tgt := 93) X dX0_readPart_70 (by decide) (fun c30 => ?_) (fun c30 => ?_)
          · refine g_iconst (v := 1) X dX0_readPart_93 (by decide) ?_
            exact g_zret X F dX0_readPart_94 (by omega) (by omega) rfl ⟨by rw [bI_t (by rw [tOk_d (Or.inr rfl)]; exact c15)], by rw [tPart_d (Or.inr rfl) c15, tNum_2 ⟨rfl, c19⟩]; (first | rw [tPut_y (Int32.not_le.mp c30)] | rw [tPut_n (Int32.not_lt.mpr c30)]); exact hR27, hF27⟩
          · have vn31 : vp_in ((tAdv (tAdv u)).1 3) 3 := hI29.nr (Int32.not_le.mp c30)
            refine g_aload_n X dX0_readPart_73 rfl 1 rfl ?_
            refine g_get X dX0_readPart_74 (ci := 0) (k := 4) (v := .ref (a 2)) rfl k122 (by decide) rfl (TRep.obj hR27) rfl ?_
            refine g_aload_n X dX0_readPart_77 rfl 1 rfl ?_
            refine g_get X dX0_readPart_78 (ci := 0) (k := 5) (v := .int ((tAdv (tAdv u)).1 3)) rfl k124 (by decide) rfl (TRep.obj hR27) rfl ?_
            refine g_iload_n X dX0_readPart_81 rfl 0 rfl ?_
            refine g_iastore X dX0_readPart_82 (TRep.nums hR27) vn31 ?_
            refine g_gen (P := fun M9 => TRep κ.Γ a (hset (tAdv (tAdv u)) 2 (cN ((tAdv (tAdv u)).1 3)) (((tNx u - 48) * 10) + (tNx (tAdv u) - 48))) M9 ∧ Fr a 3 M M9) ⟨TRep.nm hR27 _, Fr.tr hF27 (Fr.up (by decide))⟩ (fun M32 ⟨hR33, hF34⟩ => ?_)
            refine g_aload_n X dX0_readPart_83 rfl 1 rfl ?_
            refine g_dup X dX0_readPart_84 rfl ?_
            refine g_get X dX0_readPart_85 (ci := 0) (k := 5) (v := .int ((hset (tAdv (tAdv u)) 2 (cN ((tAdv (tAdv u)).1 3)) (((tNx u - 48) * 10) + (tNx (tAdv u) - 48))).1 3)) rfl k124 (by decide) rfl (TRep.obj hR33) rfl ?_
            refine g_iconst (v := 1) X dX0_readPart_88 (by decide) ?_
            refine g_iadd X dX0_readPart_89 ?_
            refine g_put X dX0_readPart_90 (ci := 0) (k := 5) (ty := .int) rfl k124 (by decide) rfl rfl (by decide +kernel) rfl rfl (Nat.le_of_ble_eq_true rfl) (TRep.obj hR33) ?_
            refine g_gen (P := fun M9 => TRep κ.Γ a (hsc (hset (tAdv (tAdv u)) 2 (cN ((tAdv (tAdv u)).1 3)) (((tNx u - 48) * 10) + (tNx (tAdv u) - 48))) 3 (((hset (tAdv (tAdv u)) 2 (cN ((tAdv (tAdv u)).1 3)) (((tNx u - 48) * 10) + (tNx (tAdv u) - 48))).1 3) + 1)) M9 ∧ Fr a 3 M M9) ⟨TRep.sc hR33 3 _ rfl, Fr.tr hF34 (Fr.up (by decide))⟩ (fun M35 ⟨hR36, hF37⟩ => ?_)
            refine g_iconst (v := 1) X dX0_readPart_93 (by decide) ?_
            exact g_zret X F dX0_readPart_94 (by omega) (by omega) rfl ⟨by rw [bI_t (by rw [tOk_d (Or.inr rfl)]; exact c15)], by rw [tPart_d (Or.inr rfl) c15, tNum_2 ⟨rfl, c19⟩]; (first | rw [tPut_y (Int32.not_le.mp c30)] | rw [tPut_n (Int32.not_lt.mpr c30)]); exact hR36, hF37⟩
      · refine g_iconst (v := 0) X dX0_readPart_28 (by decide) ?_
        exact g_zret X F dX0_readPart_29 (by omega) (by omega) rfl ⟨by rw [bI_f (by rw [tOk_d (Or.inr rfl)]; exact c15)], by rw [tPart_n (Or.inr rfl) c15]; exact hR, Fr.rf⟩
    · refine g_aload_n X dX0_readPart_12 rfl 0 rfl ?_
      refine g_iload_n X dX0_readPart_13 rfl 1 rfl ?_
      refine g_callV (As := [.int c]) (ci := 0) X dX0_readPart_14 (c_X0_readSign κ.l hl κ.Γ M a u hR hi c) k951 k952 k953 k3 k954 rfl (TRep.obj hR) ⟨rfl, by decide, by decide, (show (parseMethodDescriptor yX0_readSign.desc).map (fun d => d.parameters.length) = some 1 by decide +kernel)⟩ rfl (Nat.le_of_ble_eq_true rfl) (by rw [hRm]; decide) (by rw [hRm]; exact ⟨Nat.le_of_ble_eq_true rfl, Nat.le_of_ble_eq_true rfl⟩) (fun v37 M37 h37 => ?_) (fun _ _ h9 => by cases h9.1)
      obtain ⟨e37, hR37, hF37⟩ := h37
      cases e37
      exact g_zret X F dX0_readPart_17 (by omega) (by omega) (bI_nar _) ⟨by rw [tOk_s c1 c14], by rw [tPart_s c1 c14]; exact hR37, hF37⟩
set_option maxRecDepth 100000 in
set_option maxHeartbeats 4000000 in
theorem c_X0_formOf (l : Launch) (hl : l.stackTraces = false) (Γ : Gm) (M : Hp) (x : Int32) : Ct l Γ yX0_formOf cX0_formOf 1 (some (.object "java/lang/String")) 0 0 0 [.int x] M (Rd (some (.ref (sK Γ (fIx x)))) M) := by
  refine Ct.of hl (by decide) (Nat.le_of_ble_eq_true rfl) rfl ?_
  intro κ e1 e2 hnL hRm X F hlt
  subst e1 e2
  refine g_iload_n X dX0_formOf_0 rfl 0 rfl ?_
  by_cases e1 : x = 109
  · refine g_tabIn (off := 115) (tgt := 116) X dX0_formOf_1 (by rw [e1]; decide) (by rw [e1]; decide) (by rw [e1]; rfl) (by decide) ?_
    refine g_ldcS (i := 0) X dX0_formOf_116 (by decide) rfl rfl ?_
    exact g_aret X F dX0_formOf_118 (by omega) (by omega) ⟨by rw [show fIx x = 0 from by rw [e1]; rfl], rfl⟩
  by_cases e2 : x = 101
  · refine g_tabIn (off := 118) (tgt := 119) X dX0_formOf_1 (by rw [e2]; decide) (by rw [e2]; decide) (by rw [e2]; rfl) (by decide) ?_
    refine g_ldcS (i := 1) X dX0_formOf_119 (by decide) rfl rfl ?_
    exact g_aret X F dX0_formOf_121 (by omega) (by omega) ⟨by rw [show fIx x = 1 from by rw [e2]; rfl], rfl⟩
  by_cases e3 : x = 108
  · refine g_tabIn (off := 121) (tgt := 122) X dX0_formOf_1 (by rw [e3]; decide) (by rw [e3]; decide) (by rw [e3]; rfl) (by decide) ?_
    refine g_ldcS (i := 2) X dX0_formOf_122 (by decide) rfl rfl ?_
    exact g_aret X F dX0_formOf_124 (by omega) (by omega) ⟨by rw [show fIx x = 2 from by rw [e3]; rfl], rfl⟩
  by_cases e4 : x = 113
  · refine g_tabIn (off := 124) (tgt := 125) X dX0_formOf_1 (by rw [e4]; decide) (by rw [e4]; decide) (by rw [e4]; rfl) (by decide) ?_
    refine g_ldcS (i := 3) X dX0_formOf_125 (by decide) rfl rfl ?_
    exact g_aret X F dX0_formOf_127 (by omega) (by omega) ⟨by rw [show fIx x = 3 from by rw [e4]; rfl], rfl⟩
  by_cases e5 : x = 98
  · refine g_tabIn (off := 127) (tgt := 128) X dX0_formOf_1 (by rw [e5]; decide) (by rw [e5]; decide) (by rw [e5]; rfl) (by decide) ?_
    refine g_ldcS (i := 4) X dX0_formOf_128 (by decide) rfl rfl ?_
    exact g_aret X F dX0_formOf_130 (by omega) (by omega) ⟨by rw [show fIx x = 4 from by rw [e5]; rfl], rfl⟩
  by_cases e6 : x = 121
  · refine g_tabIn (off := 130) (tgt := 131) X dX0_formOf_1 (by rw [e6]; decide) (by rw [e6]; decide) (by rw [e6]; rfl) (by decide) ?_
    refine g_ldcS (i := 5) X dX0_formOf_131 (by decide) rfl rfl ?_
    exact g_aret X F dX0_formOf_133 (by omega) (by omega) ⟨by rw [show fIx x = 5 from by rw [e6]; rfl], rfl⟩
  by_cases e7 : x = 110
  · refine g_tabIn (off := 133) (tgt := 134) X dX0_formOf_1 (by rw [e7]; decide) (by rw [e7]; decide) (by rw [e7]; rfl) (by decide) ?_
    refine g_ldcS (i := 6) X dX0_formOf_134 (by decide) rfl rfl ?_
    exact g_aret X F dX0_formOf_136 (by omega) (by omega) ⟨by rw [show fIx x = 6 from by rw [e7]; rfl], rfl⟩
  by_cases e8 : x = 99
  · refine g_tabIn (off := 136) (tgt := 137) X dX0_formOf_1 (by rw [e8]; decide) (by rw [e8]; decide) (by rw [e8]; rfl) (by decide) ?_
    refine g_ldcS (i := 7) X dX0_formOf_137 (by decide) rfl rfl ?_
    exact g_aret X F dX0_formOf_139 (by omega) (by omega) ⟨by rw [show fIx x = 7 from by rw [e8]; rfl], rfl⟩
  by_cases e9 : x = 97
  · refine g_tabIn (off := 139) (tgt := 140) X dX0_formOf_1 (by rw [e9]; decide) (by rw [e9]; decide) (by rw [e9]; rfl) (by decide) ?_
    refine g_ldcS (i := 8) X dX0_formOf_140 (by decide) rfl rfl ?_
    exact g_aret X F dX0_formOf_142 (by omega) (by omega) ⟨by rw [show fIx x = 8 from by rw [e9]; rfl], rfl⟩
  by_cases e10 : x = 115
  · refine g_tabIn (off := 142) (tgt := 143) X dX0_formOf_1 (by rw [e10]; decide) (by rw [e10]; decide) (by rw [e10]; rfl) (by decide) ?_
    refine g_ldcS (i := 9) X dX0_formOf_143 (by decide) rfl rfl ?_
    exact g_aret X F dX0_formOf_145 (by omega) (by omega) ⟨by rw [show fIx x = 9 from by rw [e10]; rfl], rfl⟩
  by_cases e11 : x = 100
  · refine g_tabIn (off := 145) (tgt := 146) X dX0_formOf_1 (by rw [e11]; decide) (by rw [e11]; decide) (by rw [e11]; rfl) (by decide) ?_
    refine g_ldcS (i := 10) X dX0_formOf_146 (by decide) rfl rfl ?_
    exact g_aret X F dX0_formOf_148 (by omega) (by omega) ⟨by rw [show fIx x = 10 from by rw [e11]; rfl], rfl⟩
  by_cases e12 : x = 114
  · refine g_tabIn (off := 148) (tgt := 149) X dX0_formOf_1 (by rw [e12]; decide) (by rw [e12]; decide) (by rw [e12]; rfl) (by decide) ?_
    refine g_ldcS (i := 11) X dX0_formOf_149 (by decide) rfl rfl ?_
    exact g_aret X F dX0_formOf_151 (by omega) (by omega) ⟨by rw [show fIx x = 11 from by rw [e12]; rfl], rfl⟩
  refine g_tabDef (keys := [109, 101, 108, 113, 98, 121, 110, 99, 97, 115, 100, 114]) (tgt := 152) X dX0_formOf_1 (by decide +kernel) (by decide) (nk e1 (nk e2 (nk e3 (nk e4 (nk e5 (nk e6 (nk e7 (nk e8 (nk e9 (nk e10 (nk e11 (nk e12 nk0)))))))))))) (by decide) ?_
  refine g_ldcS (i := 12) X dX0_formOf_152 (by decide) rfl rfl ?_
  exact g_aret X F dX0_formOf_154 (by omega) (by omega) ⟨by rw [show fIx x = 12 from fIx_12 (nk e1 (nk e2 (nk e3 (nk e4 (nk e5 (nk e6 (nk e7 (nk e8 (nk e9 (nk e10 (nk e11 (nk e12 nk0))))))))))))], rfl⟩
set_option maxRecDepth 100000 in
set_option maxHeartbeats 4000000 in
theorem c_X0_readCommand (l : Launch) (hl : l.stackTraces = false) (Γ : Gm) (M : Hp) (a : Nat → Nat) (u : HV) (hR : TRep Γ a u M) (hi : TInv u) : Ct l Γ yX0_readCommand cX0_readCommand 3 (some .boolean) 4 0 0 [.ref (a 0)] M (TMu Γ a (some (.int (bI (okCmd u)))) (tCmd u) M) := by
  refine Ct.of hl (by decide) (Nat.le_of_ble_eq_true rfl) rfl ?_
  intro κ e1 e2 hnL hRm X F hlt
  subst e1 e2
  refine g_aload_n X dX0_readCommand_0 rfl 0 rfl ?_
  refine g_aload_n X dX0_readCommand_1 rfl 0 rfl ?_
  refine g_callV_rd (As := []) (ci := 0) (v := some (.int (tNx u))) X dX0_readCommand_2 (c_X0_nextSign κ.l hl κ.Γ M a u hR hi) k879 k881 kp9 k3 k882 rfl (TRep.obj hR) ⟨rfl, by decide, by decide, (show (parseMethodDescriptor yX0_nextSign.desc).map (fun d => d.parameters.length) = some 0 by decide +kernel)⟩ rfl (Nat.le_of_ble_eq_true rfl) (by rw [hRm]; decide) (by rw [hRm]; exact ⟨Nat.le_of_ble_eq_true rfl, Nat.le_of_ble_eq_true rfl⟩) ?_
  refine g_put X dX0_readCommand_5 (ci := 0) (k := 3) (ty := .char) rfl k120 (by decide) rfl rfl (by decide +kernel) (isCh.nar hi.nx) (isCh.fit hi.nx) (Nat.le_of_ble_eq_true rfl) (TRep.obj hR) ?_
  refine g_gen (P := fun M9 => TRep κ.Γ a (hsc u 2 (tNx u)) M9 ∧ Fr a 3 M M9) ⟨TRep.sc hR 2 _ rfl, (Fr.up (by decide))⟩ (fun M1 ⟨hR2, hF3⟩ => ?_)
  refine g_aload_n X dX0_readCommand_8 rfl 0 rfl ?_
  refine g_iconst (v := 0) X dX0_readCommand_9 (by decide) ?_
  refine g_put X dX0_readCommand_10 (ci := 0) (k := 5) (ty := .int) rfl k124 (by decide) rfl rfl (by decide +kernel) rfl rfl (Nat.le_of_ble_eq_true rfl) (TRep.obj hR2) ?_
  refine g_gen (P := fun M9 => TRep κ.Γ a (hsc (hsc u 2 (tNx u)) 3 0) M9 ∧ Fr a 3 M M9) ⟨TRep.sc hR2 3 _ rfl, Fr.tr hF3 (Fr.up (by decide))⟩ (fun M4 ⟨hR5, hF6⟩ => ?_)
  refine g_aload_n X dX0_readCommand_13 rfl 0 rfl ?_
  refine g_get X dX0_readCommand_14 (ci := 0) (k := 3) (v := .int ((hsc (hsc u 2 (tNx u)) 3 0).1 2)) rfl k120 (by decide) rfl (TRep.obj hR5) rfl ?_
  refine g_callS_rd (As := [.int ((hsc (hsc u 2 (tNx u)) 3 0).1 2)]) (v := some (.ref (sK κ.Γ (fIx ((hsc (hsc u 2 (tNx u)) 3 0).1 2))))) X dX0_readCommand_17 (c_X0_formOf κ.l hl κ.Γ M4 ((hsc (hsc u 2 (tNx u)) 3 0).1 2)) k883 k884 k3 k885 ⟨by decide, by decide, (show (parseMethodDescriptor yX0_formOf.desc).map (fun d => d.parameters.length) = some 1 by decide +kernel)⟩ rfl (Nat.le_of_ble_eq_true rfl) (by rw [hRm]; decide) (by rw [hRm]; exact ⟨Nat.le_of_ble_eq_true rfl, Nat.le_of_ble_eq_true rfl⟩) ?_
  refine g_astore_n (L' := [(1, .ref (sK κ.Γ (fIx (tNx u)))), (0, .ref (a 0))]) X dX0_readCommand_20 rfl (by rw [hnL]; decide) rfl ?_
  refine g_iconst (v := 0) X dX0_readCommand_21 (by decide) ?_
  refine g_istore_n (L' := [(2, .int 0), (1, .ref (sK κ.Γ (fIx (tNx u)))), (0, .ref (a 0))]) X dX0_readCommand_22 rfl (by rw [hnL]; decide) rfl ?_
  have hI0 : TInv (tBeg u) := hi.beg
  have lp : ∀ (n j : Nat) (M9 : Hp) (v : HV), sN (fIx (tNx u)) - j < n → j ≤ sN (fIx (tNx u)) → TRep κ.Γ a v M9 → TInv v → Fr a 3 M M9 → tL ((fParts (tNx u)).drop j) v = tCmd u → (okL ((fParts (tNx u)).drop j) v ↔ okL (fParts (tNx u)) (tBeg u)) → G κ M9 0 0 [(2, .int (nI j)), (1, .ref (sK κ.Γ (fIx (tNx u)))), (0, .ref (a 0))] 23 [] := by
    intro n
    induction n with
    | zero => intro j _ _ h1; exact absurd h1 (Nat.not_lt_zero _)
    | succ n ih =>
      intro j M9 v hn hj hR9 hI9 hF9 hX hY
      refine g_iload_n X dX0_readCommand_23 rfl 0 rfl ?_
      refine g_aload_n X dX0_readCommand_24 rfl 1 rfl ?_
      refine g_callVr_rd (As := []) (v := some (.int (nI (sN (fIx (tNx u)))))) X dX0_readCommand_25 (c_slength κ.l hl κ.Γ M9 (fIx (tNx u)) (fIx_lt _)) k899 k900 k901 k11 k902 (s_recv X (fIx_lt _)) ⟨rfl, by decide, by decide, (show (parseMethodDescriptor yJ0_length_8abf5.desc).map (fun d => d.parameters.length) = some 0 by decide +kernel)⟩ rfl (Nat.le_of_ble_eq_true rfl) (by rw [hRm]; decide) (by rw [hRm]; exact ⟨Nat.le_of_ble_eq_true rfl, Nat.le_of_ble_eq_true rfl⟩) ?_
      refine g_icmp_ge (tgt := 51) X dX0_readCommand_28 (by decide) (fun c7 => ?_) (fun c7 => ?_)
      · have hje : j = sN (fIx (tNx u)) := eq_of_ge (sN_28 _ (fIx_lt _)) hj c7
        subst hje
        rw [show (fParts (tNx u)).drop (sN (fIx (tNx u))) = [] from sB_end _ (fIx_lt _)] at hX hY
        have hX : v = tCmd u := hX
        have hY := hY.mp trivial
        refine g_aload_n X dX0_readCommand_51 rfl 1 rfl ?_
        refine g_callVr_rd (As := []) (v := some (.int (bI (nI (sN (fIx (tNx u))) = 0)))) X dX0_readCommand_52 (c_sisEmpty κ.l hl κ.Γ M9 (fIx (tNx u)) (fIx_lt _)) k962 k963 k964 k11 k965 (s_recv X (fIx_lt _)) ⟨rfl, by decide, by decide, (show (parseMethodDescriptor yJ0_isEmpty_aae02.desc).map (fun d => d.parameters.length) = some 0 by decide +kernel)⟩ rfl (Nat.le_of_ble_eq_true rfl) (by rw [hRm]; decide) (by rw [hRm]; exact ⟨Nat.le_of_ble_eq_true rfl, Nat.le_of_ble_eq_true rfl⟩) ?_
        refine g_ifb_ne (tgt := 62) X dX0_readCommand_55 (by decide) (fun c8 => ?_) (fun c8 => ?_)
        · refine g_iconst (v := 0) X dX0_readCommand_62 (by decide) ?_
          exact g_zret X F dX0_readCommand_63 (by omega) (by omega) rfl ⟨by rw [bI_f (fun h : okCmd u => h.2 ((sN_0 _ (fIx_le _)).mp c8))], by rw [← hX]; exact hR9, hF9⟩
        · refine g_iconst (v := 1) X dX0_readCommand_58 (by decide) ?_
          refine g_goto (tgt := 63) X dX0_readCommand_59 (by decide) ?_
          exact g_zret X F dX0_readCommand_63 (by omega) (by omega) rfl ⟨by rw [bI_t (show okCmd u from ⟨hY, fun h => c8 ((sN_0 _ (fIx_le _)).mpr h)⟩)], by rw [← hX]; exact hR9, hF9⟩
      · have hjl : j < sN (fIx (tNx u)) := lt_of_nge (sN_28 _ (fIx_lt _)) hj c7
        have hdr := sB_drop _ (fIx_lt (tNx u)) j hjl
        have hmem : sB (fIx (tNx u)) j ∈ sByt.getD (fIx (tNx u)) [] := List.mem_of_mem_drop (i := j) (by rw [hdr]; exact List.mem_cons_self ..)
        refine g_aload_n X dX0_readCommand_31 rfl 2 rfl ?_
        refine g_aload_n X dX0_readCommand_32 rfl 1 rfl ?_
        refine g_iload_n X dX0_readCommand_33 rfl 0 rfl ?_
        refine g_callVr_rd (As := [.int (nI j)]) (v := some (.int (sB (fIx (tNx u)) j))) X dX0_readCommand_34 (c_scharAt κ.l hl κ.Γ M9 (fIx (tNx u)) j (fIx_lt _) hjl) k909 k910 k911 k11 k912 (s_recv X (fIx_lt _)) ⟨rfl, by decide, by decide, (show (parseMethodDescriptor yJ0_charAt_5068e.desc).map (fun d => d.parameters.length) = some 1 by decide +kernel)⟩ rfl (Nat.le_of_ble_eq_true rfl) (by rw [hRm]; decide) (by rw [hRm]; exact ⟨Nat.le_of_ble_eq_true rfl, Nat.le_of_ble_eq_true rfl⟩) ?_
        refine g_callV (As := [.int (sB (fIx (tNx u)) j)]) (ci := 0) X dX0_readCommand_37 (c_X0_readPart κ.l hl κ.Γ M9 a v hR9 hI9 (sB (fIx (tNx u)) j)) k947 k949 kp10 k3 k950 rfl (TRep.obj hR9) ⟨rfl, by decide, by decide, (show (parseMethodDescriptor yX0_readPart.desc).map (fun d => d.parameters.length) = some 1 by decide +kernel)⟩ rfl (Nat.le_of_ble_eq_true rfl) (by rw [hRm]; decide) (by rw [hRm]; exact ⟨Nat.le_of_ble_eq_true rfl, Nat.le_of_ble_eq_true rfl⟩) (fun v8 M8 h8 => ?_) (fun _ _ h9 => by cases h9.1)
        obtain ⟨e8, hR8, hF8⟩ := h8
        cases e8
        refine g_ifb_ne (tgt := 45) X dX0_readCommand_40 (by decide) (fun c10 => ?_) (fun c10 => ?_)
        · refine g_iinc (k := 0) (v := (nI (j + 1))) (L' := [(2, .int (nI (j + 1))), (1, .ref (sK κ.Γ (fIx (tNx u)))), (0, .ref (a 0))]) X dX0_readCommand_45 rfl (nI_1 _) (by rw [hnL]; decide) rfl ?_
          refine g_goto (tgt := 23) X dX0_readCommand_48 (by decide) ?_
          refine g_locs [0, 1, 2] (L' := [(2, .int (nI (j + 1))), (1, .ref (sK κ.Γ (fIx (tNx u)))), (0, .ref (a 0))]) rfl ?_
          exact ih (j + 1) M8 (tPart v (sB (fIx (tNx u)) j)) (by omega) (by omega) hR8 (hI9.part (sB_nz _ (fIx_lt _) _ hmem)) (Fr.tr hF9 hF8) (by rw [← hX, hdr, tL_y c10]) (by rw [← hY, hdr]; exact ⟨fun h => ⟨c10, h⟩, fun h => h.2⟩)
        · refine g_iconst (v := 0) X dX0_readCommand_43 (by decide) ?_
          exact g_zret X F dX0_readCommand_44 (by omega) (by omega) rfl ⟨by rw [bI_f (fun h : okCmd u => c10 (by have h2 := hY.mpr h.1; rw [hdr] at h2; exact h2.1))], by rw [← hX, hdr, tL_n c10]; exact hR8, Fr.tr hF9 hF8⟩
  refine g_locs [0, 1, 2] (L' := [(2, .int (nI 0)), (1, .ref (sK κ.Γ (fIx (tNx u)))), (0, .ref (a 0))]) rfl ?_
  exact lp (sN (fIx (tNx u)) + 1) 0 M4 (tBeg u) (by omega) (by omega) hR5 hI0 hF6 rfl Iff.rfl
set_option maxRecDepth 100000 in
set_option maxHeartbeats 4000000 in
theorem c_X0_countCommands (l : Launch) (hl : l.stackTraces = false) (Γ : Gm) (M : Hp) (a : Nat → Nat) (u : HV) (hR : TRep Γ a u M) (hi : TInv u) : Ct l Γ yX0_countCommands cX0_countCommands 2 (some .int) 5 0 0 [.ref (a 0)] M (TMu Γ a (some (.int (tCnt 60 1 (hsc u 1 0)).1)) (tCnt 60 1 (hsc u 1 0)).2 M) := by
  refine Ct.of hl (by decide) (Nat.le_of_ble_eq_true rfl) rfl ?_
  intro κ e1 e2 hnL hRm X F hlt
  subst e1 e2
  refine g_aload_n X dX0_countCommands_0 rfl 0 rfl ?_
  refine g_callV (As := []) (ci := 0) X dX0_countCommands_1 (c_X0_rewind κ.l hl κ.Γ M a u hR hi) k871 k872 k873 k3 k874 rfl (TRep.obj hR) ⟨rfl, by decide, by decide, (show (parseMethodDescriptor yX0_rewind.desc).map (fun d => d.parameters.length) = some 0 by decide +kernel)⟩ rfl (Nat.le_of_ble_eq_true rfl) (by rw [hRm]; decide) (by rw [hRm]; exact ⟨Nat.le_of_ble_eq_true rfl, Nat.le_of_ble_eq_true rfl⟩) (fun v0 M0 h0 => ?_) (fun _ _ h9 => by cases h9.1)
  obtain ⟨e0, hR0, hF0⟩ := h0
  cases e0
  refine g_iconst (v := 1) X dX0_countCommands_4 (by decide) ?_
  refine g_istore_n (L' := [(1, .int 1), (0, .ref (a 0))]) X dX0_countCommands_5 rfl (by rw [hnL]; decide) rfl ?_
  have lp : ∀ (n j : Nat) (M9 : Hp) (v : HV), 61 - j < n → j ≤ 61 → TRep κ.Γ a v M9 → TInv v → Fr a 3 M M9 → tCnt (61 - j) (nI j) v = tCnt 60 1 (hsc u 1 0) → G κ M9 0 0 [(1, .int (nI j)), (0, .ref (a 0))] 6 [] := by
    intro n
    induction n with
    | zero => intro j _ _ h1; exact absurd h1 (Nat.not_lt_zero _)
    | succ n ih =>
      intro j M9 v hn hj hR9 hI9 hF9 hX
      refine g_iload_n X dX0_countCommands_6 rfl 0 rfl ?_
      refine g_bipush (v := 60) X dX0_countCommands_7 (by decide) ?_
      refine g_icmp_gt (tgt := 51) X dX0_countCommands_9 (by decide) (fun c2 => ?_) (fun c2 => ?_)
      · have hje : j = 61 := by have h9 := (nI_ltI (a := 60) (b := j) (by decide) (by omega)).mp c2; omega
        subst hje
        refine g_iconst (v := (-1)) X dX0_countCommands_51 (by decide) ?_
        exact g_iret X F dX0_countCommands_52 (by omega) (by omega) (by rw [← hX, show tCnt (61 - 61) (nI 61) v = (-1, v) from rfl]; exact ⟨rfl, hR9, hF9⟩)
      · have hjl : j ≤ 60 := by have h9 := Int32.not_lt.mp c2; exact (nI_leJ (a := j) (b := 60) (by omega) (by decide)).mp h9
        obtain ⟨k, hk⟩ : ∃ k, 61 - j = k + 1 := ⟨60 - j, by omega⟩
        refine g_aload_n X dX0_countCommands_12 rfl 1 rfl ?_
        refine g_callV (As := []) (ci := 0) X dX0_countCommands_13 (c_X0_readCommand κ.l hl κ.Γ M9 a v hR9 hI9) k875 k876 k877 k3 k878 rfl (TRep.obj hR9) ⟨rfl, by decide, by decide, (show (parseMethodDescriptor yX0_readCommand.desc).map (fun d => d.parameters.length) = some 0 by decide +kernel)⟩ rfl (Nat.le_of_ble_eq_true rfl) (by rw [hRm]; decide) (by rw [hRm]; exact ⟨Nat.le_of_ble_eq_true rfl, Nat.le_of_ble_eq_true rfl⟩) (fun v2 M2 h2 => ?_) (fun _ _ h9 => by cases h9.1)
        obtain ⟨e2, hR2, hF2⟩ := h2
        cases e2
        have hI4 : TInv (tCmd v) := hI9.cmd
        refine g_ifb_ne (tgt := 21) X dX0_countCommands_16 (by decide) (fun c5 => ?_) (fun c5 => ?_)
        · refine g_aload_n X dX0_countCommands_21 rfl 1 rfl ?_
          refine g_get X dX0_countCommands_22 (ci := 0) (k := 2) (v := .int ((tCmd v).1 1)) rfl k118 (by decide) rfl (TRep.obj hR2) rfl ?_
          refine g_aload_n X dX0_countCommands_25 rfl 1 rfl ?_
          refine g_get X dX0_countCommands_26 (ci := 0) (k := 1) (v := .int ((tCmd v).1 0)) rfl k117 (by decide) rfl (TRep.obj hR2) rfl ?_
          refine g_icmp_ne (tgt := 34) X dX0_countCommands_29 (by decide) (fun c6 => ?_) (fun c6 => ?_)
          · refine g_aload_n X dX0_countCommands_34 rfl 1 rfl ?_
            refine g_bipush (v := 59) X dX0_countCommands_35 (by decide) ?_
            refine g_callV (As := [.int 59]) (ci := 0) X dX0_countCommands_37 (c_X0_readSign κ.l hl κ.Γ M2 a (tCmd v) hR2 hI4 59) k951 k952 k953 k3 k954 rfl (TRep.obj hR2) ⟨rfl, by decide, by decide, (show (parseMethodDescriptor yX0_readSign.desc).map (fun d => d.parameters.length) = some 1 by decide +kernel)⟩ rfl (Nat.le_of_ble_eq_true rfl) (by rw [hRm]; decide) (by rw [hRm]; exact ⟨Nat.le_of_ble_eq_true rfl, Nat.le_of_ble_eq_true rfl⟩) (fun v6 M6 h6 => ?_) (fun _ _ h9 => by cases h9.1)
            obtain ⟨e6, hR6, hF6⟩ := h6
            cases e6
            have hF6 := Fr.tr hF2 hF6
            refine g_ifb_ne (tgt := 45) X dX0_countCommands_40 (by decide) (fun c8 => ?_) (fun c8 => ?_)
            · refine g_iinc (k := 0) (v := (nI (j + 1))) (L' := [(1, .int (nI (j + 1))), (0, .ref (a 0))]) X dX0_countCommands_45 rfl (nI_1 _) (by rw [hnL]; decide) rfl ?_
              refine g_goto (tgt := 6) X dX0_countCommands_48 (by decide) ?_
              refine g_locs [0, 1] (L' := [(1, .int (nI (j + 1))), (0, .ref (a 0))]) rfl ?_
              exact ih (j + 1) M6 (tAdv (tCmd v)) (by omega) (by omega) (by rw [← tSign_y c8]; exact hR6) (hI9.cmd.sg c8) (Fr.tr hF9 hF6) (by rw [← hX, hk, tCnt_s c5 c6 c8, show 61 - (j + 1) = k from by omega, nI_1])
            · refine g_iconst (v := (-1)) X dX0_countCommands_43 (by decide) ?_
              exact g_iret X F dX0_countCommands_44 (by omega) (by omega) (by rw [← hX, hk, tCnt_x c5 c6 c8]; exact ⟨rfl, by rw [← tSign_n c8]; exact hR6, Fr.tr hF9 hF6⟩)
          · refine g_iload_n X dX0_countCommands_32 rfl 0 rfl ?_
            exact g_iret X F dX0_countCommands_33 (by omega) (by omega) (by rw [← hX, hk, tCnt_e c5 c6]; exact ⟨rfl, hR2, Fr.tr hF9 hF2⟩)
        · refine g_iconst (v := (-1)) X dX0_countCommands_19 (by decide) ?_
          exact g_iret X F dX0_countCommands_20 (by omega) (by omega) (by rw [← hX, hk, tCnt_n c5]; exact ⟨rfl, hR2, Fr.tr hF9 hF2⟩)
  refine g_locs [0, 1] (L' := [(1, .int (nI 1)), (0, .ref (a 0))]) rfl ?_
  exact lp 61 1 M0 (hsc u 1 0) (by omega) (by omega) hR0 hi.rew hF0 rfl
