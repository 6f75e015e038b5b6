noncomputable def pMemberCount (w : PV) : Res × PV := (rI ((w.1 0).1 0), w)
noncomputable def pWardOf (w : PV) (x : Int32) : Res × PV := pG (hasM (w.1 0) x) eIdx w (rI ((w.1 0).2.1 1 (cN x)), w)
noncomputable def pWeightOf (w : PV) (x : Int32) : Res × PV := pG (hasM (w.1 0) x) eIdx w (rI ((w.1 0).2.1 2 (cN x)), w)
noncomputable def pIsPresent (w : PV) (x : Int32) : Res × PV := pG (hasM (w.1 0) x) eIdx w (rI (bI (inS ((w.1 0).1 1) x)), w)
noncomputable def pPresentMask (w : PV) : Res × PV := (rI ((w.1 0).1 1), w)
noncomputable def pQuorum (w : PV) : Res × PV := (rI ((w.1 0).1 2), w)
noncomputable def pIsQuorate (w : PV) : Res × PV := (rI (bI (hQuor (w.1 0))), w)
noncomputable def pWardWeight (w : PV) (x : Int32) : Res × PV := pG (isW x) eIdx w (rI (hWW (w.1 0) x), w)
noncomputable def pBillCount (w : PV) : Res × PV := (rI ((w.1 0).1 3), w)
noncomputable def pIsOpen (w : PV) (b : Int32) : Res × PV := pG (hasB (w.1 0) b) eIdx w (rI (bI ((w.1 0).2.1 3 (cN b) = 0)), w)
noncomputable def pIsPassed (w : PV) (b : Int32) : Res × PV := pG (hasB (w.1 0) b) eIdx w (rI (bI ((w.1 0).2.1 3 (cN b) = 1)), w)
noncomputable def pReadings (w : PV) (b : Int32) : Res × PV := pG (hasB (w.1 0) b) eIdx w (rI ((w.1 0).2.1 4 (cN b)), w)
noncomputable def pClauses (w : PV) (b : Int32) : Res × PV := pG (hasB (w.1 0) b) eIdx w ((.inl (some (.long ((w.1 0).2.2 (cN b)))) : Res), w)
noncomputable def pClauseCount (w : PV) (b : Int32) : Res × PV := pG (hasB (w.1 0) b) eIdx w (rI (jbl ((w.1 0).2.2 (cN b))), w)
noncomputable def pWeightFor (w : PV) (b : Int32) : Res × PV := pG (hasB (w.1 0) b) eIdx w (rI (hW (w.1 0) ((w.1 0).2.1 6 (cN b))), w)
noncomputable def pWeightForByDigits (w : PV) (b : Int32) : Res × PV := pG (hasB (w.1 0) b) eIdx w (rI (wDig ((w.1 0).2.1 2) ((w.1 0).2.1 6 (cN b)) 3), w)
noncomputable def pWeightAgainst (w : PV) (b : Int32) : Res × PV := pG (hasB (w.1 0) b) eIdx w (rI (hW (w.1 0) ((w.1 0).2.1 7 (cN b))), w)
noncomputable def pPendingCount (w : PV) (b : Int32) : Res × PV := pG (hasB (w.1 0) b) eIdx w (rI ((w.1 0).2.1 8 (cN b)), w)
noncomputable def pDelay (w : PV) (b : Int32) : Res × PV := pG (hasB (w.1 0) b) eIdx w (rI ((w.1 0).2.1 5 (cN b)), w)
noncomputable def pRust (w : PV) (b : Int32) : Res × PV := pG (hasB (w.1 0) b) eIdx w (rI (hRust (w.1 0) (cN b)), w)
noncomputable def pPassedCount (w : PV) : Res × PV := (rI (cntS ((w.1 0).2.1 3) 1 (cN ((w.1 0).1 3))), w)
noncomputable def pFallenCount (w : PV) : Res × PV := (rI (cntS ((w.1 0).2.1 3) 2 (cN ((w.1 0).1 3))), w)
noncomputable def pAcceptedCount (w : PV) : Res × PV := (rI ((w.1 0).1 4), w)
noncomputable def pAmendedClause (w : PV) (b : Int32) (x : Int32) : Res × PV := pG (hasB (w.1 0) b ∧ hasP (w.1 0) b x) (ePend (w.1 0) b) w (rI ((w.1 0).2.1 (12 + cN b) (cN x)), w)
noncomputable def pSupportWeight (w : PV) (b : Int32) (x : Int32) : Res × PV := pG (hasB (w.1 0) b ∧ hasP (w.1 0) b x) (ePend (w.1 0) b) w (rI (hW (w.1 0) ((w.1 0).2.1 (20 + cN b) (cN x))), w)
noncomputable def pRidesUntilFall (w : PV) (b : Int32) (n : Int32) : Res × PV := pG (hasB (w.1 0) b) eIdx w (pG (1 ≤ n ∧ n ≤ 30) eArg w (pG ((w.1 0).2.1 3 (cN b) = 0) eSta w (rI ((180 - (w.1 0).2.1 5 (cN b) + n - 1) / n), w)))
noncomputable def pErrorPosition (w : PV) : Res × PV := pG (¬ w.2.2.2.2 3 = -1) eEle w (rI (w.2.2.2.2 3), w)
noncomputable def pFailedCommand (w : PV) : Res × PV := pG (¬ w.2.2.2.2 4 = -1) eEle w (rI (w.2.2.2.2 4), w)
theorem LInv.at {u : HV} (h : LInv u) {x : Int32} (c : 0 ≤ x ∧ x < u.1 0) : vp_in x 24 := by
  obtain ⟨⟨n, hn, e⟩, -⟩ := h
  refine vin_of c.1 c.2 ?_
  rw [e, nI_toInt (by omega)]
  omega
noncomputable def pLineAt (w : PV) (x : Int32) : Res × PV := pG (0 ≤ x ∧ x < w.2.2.2.1.1 0) eIdx w (rI (w.2.2.2.1.2.1 1 (cN x)), w)
noncomputable def pStrongestWard (w : PV) : Res × PV := (rI (sw3 (w.1 0)), w)
set_option maxRecDepth 100000 in
set_option maxHeartbeats 4000000 in
theorem c_X3_memberCount (l : Launch) (hl : l.stackTraces = false) (Γ : Gm) (M : Hp) (A : Nat → Nat) (w : PV) (hB : BRep Γ A w M) (hI : BInv w) : Ct l Γ yX3_memberCount cX3_memberCount 1 (some .int) 0 3 18 [.ref (A 313)] M (BMu Γ A (pMemberCount w) M) := by
  refine Ct.of hl (by decide) (Nat.le_of_ble_eq_true rfl) rfl ?_
  intro κ e1 e2 hnL hRm X F hlt
  subst e1 e2
  refine g_aload_n X dX3_memberCount_0 rfl 0 rfl ?_
  refine g_get X dX3_memberCount_1 (ci := 3) (k := 0) (v := .ref (hA A 0 0)) rfl k154 (by decide) rfl (BRep.obj hB) rfl ?_
  refine g_getN X dX3_memberCount_4 (ci := 1) (k := 0) (v := .int ((w.1 0).1 0)) rfl k43 (by decide) rfl (HRep.obj (hB.1 0 (by decide))) rfl ?_
  exact g_iret X F dX3_memberCount_7 (Nat.le_of_ble_eq_true rfl) (Nat.le_of_ble_eq_true rfl) (by unfold pMemberCount; exact ⟨rfl, hB, Fr.rf⟩)
set_option maxRecDepth 100000 in
set_option maxHeartbeats 4000000 in
theorem c_X3_wardOf (l : Launch) (hl : l.stackTraces = false) (Γ : Gm) (M : Hp) (A : Nat → Nat) (w : PV) (hB : BRep Γ A w M) (hI : BInv w) (x : Int32) : Ct l Γ yX3_wardOf cX3_wardOf 2 (some .int) 2 3 18 [.ref (A 313), .int x] M (BMu Γ A (pWardOf w x) M) := by
  refine Ct.of hl (by decide) (Nat.le_of_ble_eq_true rfl) rfl ?_
  intro κ e1 e2 hnL hRm X F hlt
  subst e1 e2
  refine g_aload_n X dX3_wardOf_0 rfl 0 rfl ?_
  refine g_iload_n X dX3_wardOf_1 rfl 1 rfl ?_
  refine g_gateV (As := [.int x]) (ci := 3) (ok := hasM (w.1 0) x) (e := eIdx) X dX3_wardOf_2 (c_X3_requireMember κ.l hl κ.Γ M A w hB hI x) k533 k535 kp4 k1 k536 rfl (BRep.obj hB) ⟨rfl, by decide, by decide, (show (parseMethodDescriptor yX3_requireMember.desc).map (fun d => d.parameters.length) = some 1 by decide +kernel)⟩ rfl (Nat.le_of_ble_eq_true rfl) (by rw [hRm]; decide) (by rw [hRm]; exact ⟨Nat.le_of_ble_eq_true rfl, Nat.le_of_ble_eq_true rfl⟩) (fun g1 => ?_) (fun E7 M7 h7 => gx_out X F (Nat.le_of_ble_eq_true rfl) (Nat.le_of_ble_eq_true rfl) (by unfold pWardOf; exact Gate.x h7 hB))
  refine g_aload_n X dX3_wardOf_5 rfl 0 rfl ?_
  refine g_get X dX3_wardOf_6 (ci := 3) (k := 0) (v := .ref (hA A 0 0)) rfl k154 (by decide) rfl (BRep.obj hB) rfl ?_
  refine g_getN X dX3_wardOf_9 (ci := 1) (k := 1) (v := .ref (hA A 0 1)) rfl k45 (by decide) rfl (HRep.obj (hB.1 0 (by decide))) rfl ?_
  refine g_iload_n X dX3_wardOf_12 rfl 1 rfl ?_
  refine g_iaload X dX3_wardOf_13 (HRep.row (hB.1 0 (by decide)) 1 (by decide) (by decide)) ((hI.1 0 (by decide)).m g1) ?_
  exact g_iret X F dX3_wardOf_14 (Nat.le_of_ble_eq_true rfl) (Nat.le_of_ble_eq_true rfl) (by unfold pWardOf; rw [pG_y g1]; exact ⟨rfl, hB, Fr.rf⟩)
set_option maxRecDepth 100000 in
set_option maxHeartbeats 4000000 in
theorem c_X3_weightOf (l : Launch) (hl : l.stackTraces = false) (Γ : Gm) (M : Hp) (A : Nat → Nat) (w : PV) (hB : BRep Γ A w M) (hI : BInv w) (x : Int32) : Ct l Γ yX3_weightOf cX3_weightOf 2 (some .int) 2 3 18 [.ref (A 313), .int x] M (BMu Γ A (pWeightOf w x) M) := by
  refine Ct.of hl (by decide) (Nat.le_of_ble_eq_true rfl) rfl ?_
  intro κ e1 e2 hnL hRm X F hlt
  subst e1 e2
  refine g_aload_n X dX3_weightOf_0 rfl 0 rfl ?_
  refine g_iload_n X dX3_weightOf_1 rfl 1 rfl ?_
  refine g_gateV (As := [.int x]) (ci := 3) (ok := hasM (w.1 0) x) (e := eIdx) X dX3_weightOf_2 (c_X3_requireMember κ.l hl κ.Γ M A w hB hI x) k533 k535 kp4 k1 k536 rfl (BRep.obj hB) ⟨rfl, by decide, by decide, (show (parseMethodDescriptor yX3_requireMember.desc).map (fun d => d.parameters.length) = some 1 by decide +kernel)⟩ rfl (Nat.le_of_ble_eq_true rfl) (by rw [hRm]; decide) (by rw [hRm]; exact ⟨Nat.le_of_ble_eq_true rfl, Nat.le_of_ble_eq_true rfl⟩) (fun g1 => ?_) (fun E7 M7 h7 => gx_out X F (Nat.le_of_ble_eq_true rfl) (Nat.le_of_ble_eq_true rfl) (by unfold pWeightOf; exact Gate.x h7 hB))
  refine g_aload_n X dX3_weightOf_5 rfl 0 rfl ?_
  refine g_get X dX3_weightOf_6 (ci := 3) (k := 0) (v := .ref (hA A 0 0)) rfl k154 (by decide) rfl (BRep.obj hB) rfl ?_
  refine g_getN X dX3_weightOf_9 (ci := 1) (k := 2) (v := .ref (hA A 0 2)) rfl k47 (by decide) rfl (HRep.obj (hB.1 0 (by decide))) rfl ?_
  refine g_iload_n X dX3_weightOf_12 rfl 1 rfl ?_
  refine g_iaload X dX3_weightOf_13 (HRep.row (hB.1 0 (by decide)) 2 (by decide) (by decide)) ((hI.1 0 (by decide)).m g1) ?_
  exact g_iret X F dX3_weightOf_14 (Nat.le_of_ble_eq_true rfl) (Nat.le_of_ble_eq_true rfl) (by unfold pWeightOf; rw [pG_y g1]; exact ⟨rfl, hB, Fr.rf⟩)
set_option maxRecDepth 100000 in
set_option maxHeartbeats 4000000 in
theorem c_X3_isPresent (l : Launch) (hl : l.stackTraces = false) (Γ : Gm) (M : Hp) (A : Nat → Nat) (w : PV) (hB : BRep Γ A w M) (hI : BInv w) (x : Int32) : Ct l Γ yX3_isPresent cX3_isPresent 2 (some .boolean) 2 3 18 [.ref (A 313), .int x] M (BMu Γ A (pIsPresent w x) M) := by
  refine Ct.of hl (by decide) (Nat.le_of_ble_eq_true rfl) rfl ?_
  intro κ e1 e2 hnL hRm X F hlt
  subst e1 e2
  refine g_aload_n X dX3_isPresent_0 rfl 0 rfl ?_
  refine g_iload_n X dX3_isPresent_1 rfl 1 rfl ?_
  refine g_gateV (As := [.int x]) (ci := 3) (ok := hasM (w.1 0) x) (e := eIdx) X dX3_isPresent_2 (c_X3_requireMember κ.l hl κ.Γ M A w hB hI x) k533 k535 kp4 k1 k536 rfl (BRep.obj hB) ⟨rfl, by decide, by decide, (show (parseMethodDescriptor yX3_requireMember.desc).map (fun d => d.parameters.length) = some 1 by decide +kernel)⟩ rfl (Nat.le_of_ble_eq_true rfl) (by rw [hRm]; decide) (by rw [hRm]; exact ⟨Nat.le_of_ble_eq_true rfl, Nat.le_of_ble_eq_true rfl⟩) (fun g1 => ?_) (fun E7 M7 h7 => gx_out X F (Nat.le_of_ble_eq_true rfl) (Nat.le_of_ble_eq_true rfl) (by unfold pIsPresent; exact Gate.x h7 hB))
  refine g_aload_n X dX3_isPresent_5 rfl 0 rfl ?_
  refine g_get X dX3_isPresent_6 (ci := 3) (k := 0) (v := .ref (hA A 0 0)) rfl k154 (by decide) rfl (BRep.obj hB) rfl ?_
  refine g_iload_n X dX3_isPresent_9 rfl 1 rfl ?_
  refine g_callV_rd (As := [.int x]) (ci := 1) (v := some (.int (bI (inS ((w.1 0).1 1) x)))) X dX3_isPresent_10 (c_X1_isIn κ.l hl κ.Γ M (hA A 0) (w.1 0) (hB.1 0 (by decide)) x) k552 k223 k224 k2 k225 rfl (hB.1 0 (by decide)).obj ⟨rfl, by decide, by decide, (show (parseMethodDescriptor yX1_isIn.desc).map (fun d => d.parameters.length) = some 1 by decide +kernel)⟩ rfl (Nat.le_of_ble_eq_true rfl) (by rw [hRm]; decide) (by rw [hRm]; exact ⟨Nat.le_of_ble_eq_true rfl, Nat.le_of_ble_eq_true rfl⟩) ?_
  exact g_zret X F dX3_isPresent_13 (Nat.le_of_ble_eq_true rfl) (Nat.le_of_ble_eq_true rfl) (bI_nar _) (by unfold pIsPresent; rw [pG_y g1]; exact ⟨rfl, hB, Fr.rf⟩)
set_option maxRecDepth 100000 in
set_option maxHeartbeats 4000000 in
theorem c_X3_presentMask (l : Launch) (hl : l.stackTraces = false) (Γ : Gm) (M : Hp) (A : Nat → Nat) (w : PV) (hB : BRep Γ A w M) (hI : BInv w) : Ct l Γ yX3_presentMask cX3_presentMask 1 (some .int) 0 3 18 [.ref (A 313)] M (BMu Γ A (pPresentMask w) M) := by
  refine Ct.of hl (by decide) (Nat.le_of_ble_eq_true rfl) rfl ?_
  intro κ e1 e2 hnL hRm X F hlt
  subst e1 e2
  refine g_aload_n X dX3_presentMask_0 rfl 0 rfl ?_
  refine g_get X dX3_presentMask_1 (ci := 3) (k := 0) (v := .ref (hA A 0 0)) rfl k154 (by decide) rfl (BRep.obj hB) rfl ?_
  refine g_getN X dX3_presentMask_4 (ci := 1) (k := 3) (v := .int ((w.1 0).1 1)) rfl k49 (by decide) rfl (HRep.obj (hB.1 0 (by decide))) rfl ?_
  exact g_iret X F dX3_presentMask_7 (Nat.le_of_ble_eq_true rfl) (Nat.le_of_ble_eq_true rfl) (by unfold pPresentMask; exact ⟨rfl, hB, Fr.rf⟩)
set_option maxRecDepth 100000 in
set_option maxHeartbeats 4000000 in
theorem c_X3_quorum (l : Launch) (hl : l.stackTraces = false) (Γ : Gm) (M : Hp) (A : Nat → Nat) (w : PV) (hB : BRep Γ A w M) (hI : BInv w) : Ct l Γ yX3_quorum cX3_quorum 1 (some .int) 0 3 18 [.ref (A 313)] M (BMu Γ A (pQuorum w) M) := by
  refine Ct.of hl (by decide) (Nat.le_of_ble_eq_true rfl) rfl ?_
  intro κ e1 e2 hnL hRm X F hlt
  subst e1 e2
  refine g_aload_n X dX3_quorum_0 rfl 0 rfl ?_
  refine g_get X dX3_quorum_1 (ci := 3) (k := 0) (v := .ref (hA A 0 0)) rfl k154 (by decide) rfl (BRep.obj hB) rfl ?_
  refine g_getN X dX3_quorum_4 (ci := 1) (k := 4) (v := .int ((w.1 0).1 2)) rfl k51 (by decide) rfl (HRep.obj (hB.1 0 (by decide))) rfl ?_
  exact g_iret X F dX3_quorum_7 (Nat.le_of_ble_eq_true rfl) (Nat.le_of_ble_eq_true rfl) (by unfold pQuorum; exact ⟨rfl, hB, Fr.rf⟩)
set_option maxRecDepth 100000 in
set_option maxHeartbeats 4000000 in
theorem c_X3_isQuorate (l : Launch) (hl : l.stackTraces = false) (Γ : Gm) (M : Hp) (A : Nat → Nat) (w : PV) (hB : BRep Γ A w M) (hI : BInv w) : Ct l Γ yX3_isQuorate cX3_isQuorate 1 (some .boolean) 2 3 18 [.ref (A 313)] M (BMu Γ A (pIsQuorate w) M) := by
  refine Ct.of hl (by decide) (Nat.le_of_ble_eq_true rfl) rfl ?_
  intro κ e1 e2 hnL hRm X F hlt
  subst e1 e2
  refine g_aload_n X dX3_isQuorate_0 rfl 0 rfl ?_
  refine g_get X dX3_isQuorate_1 (ci := 3) (k := 0) (v := .ref (hA A 0 0)) rfl k154 (by decide) rfl (BRep.obj hB) rfl ?_
  refine g_callV_rd (As := []) (ci := 1) (v := some (.int (bI (hQuor (w.1 0))))) X dX3_isQuorate_4 (c_X1_hasQuorum κ.l hl κ.Γ M (hA A 0) (w.1 0) (hB.1 0 (by decide))) k204 k205 k206 k2 k207 rfl (hB.1 0 (by decide)).obj ⟨rfl, by decide, by decide, (show (parseMethodDescriptor yX1_hasQuorum.desc).map (fun d => d.parameters.length) = some 0 by decide +kernel)⟩ rfl (Nat.le_of_ble_eq_true rfl) (by rw [hRm]; decide) (by rw [hRm]; exact ⟨Nat.le_of_ble_eq_true rfl, Nat.le_of_ble_eq_true rfl⟩) ?_
  exact g_zret X F dX3_isQuorate_7 (Nat.le_of_ble_eq_true rfl) (Nat.le_of_ble_eq_true rfl) (bI_nar _) (by unfold pIsQuorate; exact ⟨rfl, hB, Fr.rf⟩)
set_option maxRecDepth 100000 in
set_option maxHeartbeats 4000000 in
theorem c_X3_wardWeight (l : Launch) (hl : l.stackTraces = false) (Γ : Gm) (M : Hp) (A : Nat → Nat) (w : PV) (hB : BRep Γ A w M) (hI : BInv w) (x : Int32) : Ct l Γ yX3_wardWeight cX3_wardWeight 2 (some .int) 2 3 18 [.ref (A 313), .int x] M (BMu Γ A (pWardWeight w x) M) := by
  refine Ct.of hl (by decide) (Nat.le_of_ble_eq_true rfl) rfl ?_
  intro κ e1 e2 hnL hRm X F hlt
  subst e1 e2
  refine g_iload_n X dX3_wardWeight_0 rfl 1 rfl ?_
  refine g_callS_rd (As := [.int x]) (v := some (.int (bI (isW x)))) X dX3_wardWeight_1 (c_X3_isWard κ.l hl κ.Γ M x) k560 k380 k1 k381 ⟨by decide, by decide, (show (parseMethodDescriptor yX3_isWard.desc).map (fun d => d.parameters.length) = some 1 by decide +kernel)⟩ rfl (Nat.le_of_ble_eq_true rfl) (by rw [hRm]; decide) (by rw [hRm]; exact ⟨Nat.le_of_ble_eq_true rfl, Nat.le_of_ble_eq_true rfl⟩) ?_
  refine g_ifb_ne (tgt := 15) X dX3_wardWeight_4 (by decide) (fun c1 => ?_) (fun c1 => ?_)
  · have g2 : isW x := c1
    refine g_aload_n X dX3_wardWeight_15 rfl 0 rfl ?_
    refine g_get X dX3_wardWeight_16 (ci := 3) (k := 0) (v := .ref (hA A 0 0)) rfl k154 (by decide) rfl (BRep.obj hB) rfl ?_
    refine g_iload_n X dX3_wardWeight_19 rfl 1 rfl ?_
    refine g_callV_rd (As := [.int x]) (ci := 1) (v := some (.int (hWW (w.1 0) x))) X dX3_wardWeight_20 (c_X1_weightInWard κ.l hl κ.Γ M (hA A 0) (w.1 0) (hB.1 0 (by decide)) x) k218 k219 k220 k2 k221 rfl (hB.1 0 (by decide)).obj ⟨rfl, by decide, by decide, (show (parseMethodDescriptor yX1_weightInWard.desc).map (fun d => d.parameters.length) = some 1 by decide +kernel)⟩ rfl (Nat.le_of_ble_eq_true rfl) (by rw [hRm]; decide) (by rw [hRm]; exact ⟨Nat.le_of_ble_eq_true rfl, Nat.le_of_ble_eq_true rfl⟩) ?_
    exact g_iret X F dX3_wardWeight_23 (Nat.le_of_ble_eq_true rfl) (Nat.le_of_ble_eq_true rfl) (by unfold pWardWeight; rw [pG_y g2]; exact ⟨rfl, hB, Fr.rf⟩)
  · exact g_throw X F (ik := 111) (ic := 113) (cls := "java/lang/IndexOutOfBoundsException") dX3_wardWeight_7 dX3_wardWeight_10 dX3_wardWeight_11 dX3_wardWeight_14 (by decide +kernel) (by rw [hRm]; decide) (by rw [hRm]; exact Nat.le_of_ble_eq_true rfl) (by rw [hRm]; exact Nat.le_of_ble_eq_true rfl) (by rw [hRm]; exact Nat.le_of_ble_eq_true rfl) (Nat.le_of_ble_eq_true rfl) (Nat.le_of_ble_eq_true rfl) (by unfold pWardWeight; rw [pG_n c1]; exact ⟨rfl, hB, Fr.rf⟩)
set_option maxRecDepth 100000 in
set_option maxHeartbeats 4000000 in
theorem c_X3_billCount (l : Launch) (hl : l.stackTraces = false) (Γ : Gm) (M : Hp) (A : Nat → Nat) (w : PV) (hB : BRep Γ A w M) (hI : BInv w) : Ct l Γ yX3_billCount cX3_billCount 1 (some .int) 0 3 18 [.ref (A 313)] M (BMu Γ A (pBillCount w) M) := by
  refine Ct.of hl (by decide) (Nat.le_of_ble_eq_true rfl) rfl ?_
  intro κ e1 e2 hnL hRm X F hlt
  subst e1 e2
  refine g_aload_n X dX3_billCount_0 rfl 0 rfl ?_
  refine g_get X dX3_billCount_1 (ci := 3) (k := 0) (v := .ref (hA A 0 0)) rfl k154 (by decide) rfl (BRep.obj hB) rfl ?_
  refine g_getN X dX3_billCount_4 (ci := 1) (k := 5) (v := .int ((w.1 0).1 3)) rfl k53 (by decide) rfl (HRep.obj (hB.1 0 (by decide))) rfl ?_
  exact g_iret X F dX3_billCount_7 (Nat.le_of_ble_eq_true rfl) (Nat.le_of_ble_eq_true rfl) (by unfold pBillCount; exact ⟨rfl, hB, Fr.rf⟩)
set_option maxRecDepth 100000 in
set_option maxHeartbeats 4000000 in
theorem c_X3_isOpen (l : Launch) (hl : l.stackTraces = false) (Γ : Gm) (M : Hp) (A : Nat → Nat) (w : PV) (hB : BRep Γ A w M) (hI : BInv w) (b : Int32) : Ct l Γ yX3_isOpen cX3_isOpen 2 (some .boolean) 2 3 18 [.ref (A 313), .int b] M (BMu Γ A (pIsOpen w b) M) := by
  refine Ct.of hl (by decide) (Nat.le_of_ble_eq_true rfl) rfl ?_
  intro κ e1 e2 hnL hRm X F hlt
  subst e1 e2
  refine g_aload_n X dX3_isOpen_0 rfl 0 rfl ?_
  refine g_iload_n X dX3_isOpen_1 rfl 1 rfl ?_
  refine g_gateV (As := [.int b]) (ci := 3) (ok := hasB (w.1 0) b) (e := eIdx) X dX3_isOpen_2 (c_X3_requireBill κ.l hl κ.Γ M A w hB hI b) k588 k590 kp5 k1 k591 rfl (BRep.obj hB) ⟨rfl, by decide, by decide, (show (parseMethodDescriptor yX3_requireBill.desc).map (fun d => d.parameters.length) = some 1 by decide +kernel)⟩ rfl (Nat.le_of_ble_eq_true rfl) (by rw [hRm]; decide) (by rw [hRm]; exact ⟨Nat.le_of_ble_eq_true rfl, Nat.le_of_ble_eq_true rfl⟩) (fun g1 => ?_) (fun E7 M7 h7 => gx_out X F (Nat.le_of_ble_eq_true rfl) (Nat.le_of_ble_eq_true rfl) (by unfold pIsOpen; exact Gate.x h7 hB))
  refine g_aload_n X dX3_isOpen_5 rfl 0 rfl ?_
  refine g_get X dX3_isOpen_6 (ci := 3) (k := 0) (v := .ref (hA A 0 0)) rfl k154 (by decide) rfl (BRep.obj hB) rfl ?_
  refine g_getN X dX3_isOpen_9 (ci := 1) (k := 6) (v := .ref (hA A 0 3)) rfl k55 (by decide) rfl (HRep.obj (hB.1 0 (by decide))) rfl ?_
  refine g_iload_n X dX3_isOpen_12 rfl 1 rfl ?_
  refine g_iaload X dX3_isOpen_13 (HRep.row (hB.1 0 (by decide)) 3 (by decide) (by decide)) ((hI.1 0 (by decide)).b g1) ?_
  refine g_if_ne (tgt := 21) X dX3_isOpen_14 (by decide) (fun c2 => ?_) (fun c2 => ?_)
  · refine g_iconst (v := 0) X dX3_isOpen_21 (by decide) ?_
    exact g_zret X F dX3_isOpen_22 (Nat.le_of_ble_eq_true rfl) (Nat.le_of_ble_eq_true rfl) rfl (by unfold pIsOpen; rw [pG_y g1]; exact ⟨congrArg rI (bI_f c2).symm, hB, Fr.rf⟩)
  · refine g_iconst (v := 1) X dX3_isOpen_17 (by decide) ?_
    refine g_goto (tgt := 22) X dX3_isOpen_18 (by decide) ?_
    exact g_zret X F dX3_isOpen_22 (Nat.le_of_ble_eq_true rfl) (Nat.le_of_ble_eq_true rfl) rfl (by unfold pIsOpen; rw [pG_y g1]; exact ⟨congrArg rI (bI_t c2).symm, hB, Fr.rf⟩)
set_option maxRecDepth 100000 in
set_option maxHeartbeats 4000000 in
theorem c_X3_isPassed (l : Launch) (hl : l.stackTraces = false) (Γ : Gm) (M : Hp) (A : Nat → Nat) (w : PV) (hB : BRep Γ A w M) (hI : BInv w) (b : Int32) : Ct l Γ yX3_isPassed cX3_isPassed 2 (some .boolean) 2 3 18 [.ref (A 313), .int b] M (BMu Γ A (pIsPassed w b) M) := by
  refine Ct.of hl (by decide) (Nat.le_of_ble_eq_true rfl) rfl ?_
  intro κ e1 e2 hnL hRm X F hlt
  subst e1 e2
  refine g_aload_n X dX3_isPassed_0 rfl 0 rfl ?_
  refine g_iload_n X dX3_isPassed_1 rfl 1 rfl ?_
  refine g_gateV (As := [.int b]) (ci := 3) (ok := hasB (w.1 0) b) (e := eIdx) X dX3_isPassed_2 (c_X3_requireBill κ.l hl κ.Γ M A w hB hI b) k588 k590 kp5 k1 k591 rfl (BRep.obj hB) ⟨rfl, by decide, by decide, (show (parseMethodDescriptor yX3_requireBill.desc).map (fun d => d.parameters.length) = some 1 by decide +kernel)⟩ rfl (Nat.le_of_ble_eq_true rfl) (by rw [hRm]; decide) (by rw [hRm]; exact ⟨Nat.le_of_ble_eq_true rfl, Nat.le_of_ble_eq_true rfl⟩) (fun g1 => ?_) (fun E7 M7 h7 => gx_out X F (Nat.le_of_ble_eq_true rfl) (Nat.le_of_ble_eq_true rfl) (by unfold pIsPassed; exact Gate.x h7 hB))
  refine g_aload_n X dX3_isPassed_5 rfl 0 rfl ?_
  refine g_get X dX3_isPassed_6 (ci := 3) (k := 0) (v := .ref (hA A 0 0)) rfl k154 (by decide) rfl (BRep.obj hB) rfl ?_
  refine g_getN X dX3_isPassed_9 (ci := 1) (k := 6) (v := .ref (hA A 0 3)) rfl k55 (by decide) rfl (HRep.obj (hB.1 0 (by decide))) rfl ?_
  refine g_iload_n X dX3_isPassed_12 rfl 1 rfl ?_
  refine g_iaload X dX3_isPassed_13 (HRep.row (hB.1 0 (by decide)) 3 (by decide) (by decide)) ((hI.1 0 (by decide)).b g1) ?_
  refine g_iconst (v := 1) X dX3_isPassed_14 (by decide) ?_
  refine g_icmp_ne (tgt := 22) X dX3_isPassed_15 (by decide) (fun c2 => ?_) (fun c2 => ?_)
  · refine g_iconst (v := 0) X dX3_isPassed_22 (by decide) ?_
    exact g_zret X F dX3_isPassed_23 (Nat.le_of_ble_eq_true rfl) (Nat.le_of_ble_eq_true rfl) rfl (by unfold pIsPassed; rw [pG_y g1]; exact ⟨congrArg rI (bI_f c2).symm, hB, Fr.rf⟩)
  · refine g_iconst (v := 1) X dX3_isPassed_18 (by decide) ?_
    refine g_goto (tgt := 23) X dX3_isPassed_19 (by decide) ?_
    exact g_zret X F dX3_isPassed_23 (Nat.le_of_ble_eq_true rfl) (Nat.le_of_ble_eq_true rfl) rfl (by unfold pIsPassed; rw [pG_y g1]; exact ⟨congrArg rI (bI_t c2).symm, hB, Fr.rf⟩)
set_option maxRecDepth 100000 in
set_option maxHeartbeats 4000000 in
theorem c_X3_readings (l : Launch) (hl : l.stackTraces = false) (Γ : Gm) (M : Hp) (A : Nat → Nat) (w : PV) (hB : BRep Γ A w M) (hI : BInv w) (b : Int32) : Ct l Γ yX3_readings cX3_readings 2 (some .int) 2 3 18 [.ref (A 313), .int b] M (BMu Γ A (pReadings w b) M) := by
  refine Ct.of hl (by decide) (Nat.le_of_ble_eq_true rfl) rfl ?_
  intro κ e1 e2 hnL hRm X F hlt
  subst e1 e2
  refine g_aload_n X dX3_readings_0 rfl 0 rfl ?_
  refine g_iload_n X dX3_readings_1 rfl 1 rfl ?_
  refine g_gateV (As := [.int b]) (ci := 3) (ok := hasB (w.1 0) b) (e := eIdx) X dX3_readings_2 (c_X3_requireBill κ.l hl κ.Γ M A w hB hI b) k588 k590 kp5 k1 k591 rfl (BRep.obj hB) ⟨rfl, by decide, by decide, (show (parseMethodDescriptor yX3_requireBill.desc).map (fun d => d.parameters.length) = some 1 by decide +kernel)⟩ rfl (Nat.le_of_ble_eq_true rfl) (by rw [hRm]; decide) (by rw [hRm]; exact ⟨Nat.le_of_ble_eq_true rfl, Nat.le_of_ble_eq_true rfl⟩) (fun g1 => ?_) (fun E7 M7 h7 => gx_out X F (Nat.le_of_ble_eq_true rfl) (Nat.le_of_ble_eq_true rfl) (by unfold pReadings; exact Gate.x h7 hB))
  refine g_aload_n X dX3_readings_5 rfl 0 rfl ?_
  refine g_get X dX3_readings_6 (ci := 3) (k := 0) (v := .ref (hA A 0 0)) rfl k154 (by decide) rfl (BRep.obj hB) rfl ?_
  refine g_getN X dX3_readings_9 (ci := 1) (k := 7) (v := .ref (hA A 0 4)) rfl k57 (by decide) rfl (HRep.obj (hB.1 0 (by decide))) rfl ?_
  refine g_iload_n X dX3_readings_12 rfl 1 rfl ?_
  refine g_iaload X dX3_readings_13 (HRep.row (hB.1 0 (by decide)) 4 (by decide) (by decide)) ((hI.1 0 (by decide)).b g1) ?_
  exact g_iret X F dX3_readings_14 (Nat.le_of_ble_eq_true rfl) (Nat.le_of_ble_eq_true rfl) (by unfold pReadings; rw [pG_y g1]; exact ⟨rfl, hB, Fr.rf⟩)
set_option maxRecDepth 100000 in
set_option maxHeartbeats 4000000 in
theorem c_X3_clauses (l : Launch) (hl : l.stackTraces = false) (Γ : Gm) (M : Hp) (A : Nat → Nat) (w : PV) (hB : BRep Γ A w M) (hI : BInv w) (b : Int32) : Ct l Γ yX3_clauses cX3_clauses 2 (some .long) 2 3 18 [.ref (A 313), .int b] M (BMu Γ A (pClauses w b) M) := by
  refine Ct.of hl (by decide) (Nat.le_of_ble_eq_true rfl) rfl ?_
  intro κ e1 e2 hnL hRm X F hlt
  subst e1 e2
  refine g_aload_n X dX3_clauses_0 rfl 0 rfl ?_
  refine g_iload_n X dX3_clauses_1 rfl 1 rfl ?_
  refine g_gateV (As := [.int b]) (ci := 3) (ok := hasB (w.1 0) b) (e := eIdx) X dX3_clauses_2 (c_X3_requireBill κ.l hl κ.Γ M A w hB hI b) k588 k590 kp5 k1 k591 rfl (BRep.obj hB) ⟨rfl, by decide, by decide, (show (parseMethodDescriptor yX3_requireBill.desc).map (fun d => d.parameters.length) = some 1 by decide +kernel)⟩ rfl (Nat.le_of_ble_eq_true rfl) (by rw [hRm]; decide) (by rw [hRm]; exact ⟨Nat.le_of_ble_eq_true rfl, Nat.le_of_ble_eq_true rfl⟩) (fun g1 => ?_) (fun E7 M7 h7 => gx_out X F (Nat.le_of_ble_eq_true rfl) (Nat.le_of_ble_eq_true rfl) (by unfold pClauses; exact Gate.x h7 hB))
  refine g_aload_n X dX3_clauses_5 rfl 0 rfl ?_
  refine g_get X dX3_clauses_6 (ci := 3) (k := 0) (v := .ref (hA A 0 0)) rfl k154 (by decide) rfl (BRep.obj hB) rfl ?_
  refine g_getN X dX3_clauses_9 (ci := 1) (k := 8) (v := .ref (hA A 0 9)) rfl k59 (by decide) rfl (HRep.obj (hB.1 0 (by decide))) rfl ?_
  refine g_iload_n X dX3_clauses_12 rfl 1 rfl ?_
  refine g_laload X dX3_clauses_13 (HRep.longs (hB.1 0 (by decide))) ((hI.1 0 (by decide)).b g1) ?_
  exact g_lret X F dX3_clauses_14 (Nat.le_of_ble_eq_true rfl) (Nat.le_of_ble_eq_true rfl) (by unfold pClauses; rw [pG_y g1]; exact ⟨rfl, hB, Fr.rf⟩)
set_option maxRecDepth 100000 in
set_option maxHeartbeats 4000000 in
theorem c_X3_clauseCount (l : Launch) (hl : l.stackTraces = false) (Γ : Gm) (M : Hp) (A : Nat → Nat) (w : PV) (hB : BRep Γ A w M) (hI : BInv w) (b : Int32) : Ct l Γ yX3_clauseCount cX3_clauseCount 2 (some .int) 2 3 18 [.ref (A 313), .int b] M (BMu Γ A (pClauseCount w b) M) := by
  refine Ct.of hl (by decide) (Nat.le_of_ble_eq_true rfl) rfl ?_
  intro κ e1 e2 hnL hRm X F hlt
  subst e1 e2
  refine g_aload_n X dX3_clauseCount_0 rfl 0 rfl ?_
  refine g_iload_n X dX3_clauseCount_1 rfl 1 rfl ?_
  refine g_gateV (As := [.int b]) (ci := 3) (ok := hasB (w.1 0) b) (e := eIdx) X dX3_clauseCount_2 (c_X3_requireBill κ.l hl κ.Γ M A w hB hI b) k588 k590 kp5 k1 k591 rfl (BRep.obj hB) ⟨rfl, by decide, by decide, (show (parseMethodDescriptor yX3_requireBill.desc).map (fun d => d.parameters.length) = some 1 by decide +kernel)⟩ rfl (Nat.le_of_ble_eq_true rfl) (by rw [hRm]; decide) (by rw [hRm]; exact ⟨Nat.le_of_ble_eq_true rfl, Nat.le_of_ble_eq_true rfl⟩) (fun g1 => ?_) (fun E7 M7 h7 => gx_out X F (Nat.le_of_ble_eq_true rfl) (Nat.le_of_ble_eq_true rfl) (by unfold pClauseCount; exact Gate.x h7 hB))
  refine g_aload_n X dX3_clauseCount_5 rfl 0 rfl ?_
  refine g_get X dX3_clauseCount_6 (ci := 3) (k := 0) (v := .ref (hA A 0 0)) rfl k154 (by decide) rfl (BRep.obj hB) rfl ?_
  refine g_getN X dX3_clauseCount_9 (ci := 1) (k := 8) (v := .ref (hA A 0 9)) rfl k59 (by decide) rfl (HRep.obj (hB.1 0 (by decide))) rfl ?_
  refine g_iload_n X dX3_clauseCount_12 rfl 1 rfl ?_
  refine g_laload X dX3_clauseCount_13 (HRep.longs (hB.1 0 (by decide))) ((hI.1 0 (by decide)).b g1) ?_
  refine g_callS_rd (As := [.long ((w.1 0).2.2 (cN b))]) (v := some (.int (jbl ((w.1 0).2.2 (cN b))))) X dX3_clauseCount_14 (c_jbl κ.l hl κ.Γ M ((w.1 0).2.2 (cN b))) k624 k625 k20 k626 ⟨by decide, by decide, (show (parseMethodDescriptor yJ13_bitCount_95d88.desc).map (fun d => d.parameters.length) = some 1 by decide +kernel)⟩ rfl (Nat.le_of_ble_eq_true rfl) (by rw [hRm]; decide) (by rw [hRm]; exact ⟨Nat.le_of_ble_eq_true rfl, Nat.le_of_ble_eq_true rfl⟩) ?_
  exact g_iret X F dX3_clauseCount_17 (Nat.le_of_ble_eq_true rfl) (Nat.le_of_ble_eq_true rfl) (by unfold pClauseCount; rw [pG_y g1]; exact ⟨rfl, hB, Fr.rf⟩)
set_option maxRecDepth 100000 in
set_option maxHeartbeats 4000000 in
theorem c_X3_weightFor (l : Launch) (hl : l.stackTraces = false) (Γ : Gm) (M : Hp) (A : Nat → Nat) (w : PV) (hB : BRep Γ A w M) (hI : BInv w) (b : Int32) : Ct l Γ yX3_weightFor cX3_weightFor 2 (some .int) 2 3 18 [.ref (A 313), .int b] M (BMu Γ A (pWeightFor w b) M) := by
  refine Ct.of hl (by decide) (Nat.le_of_ble_eq_true rfl) rfl ?_
  intro κ e1 e2 hnL hRm X F hlt
  subst e1 e2
  refine g_aload_n X dX3_weightFor_0 rfl 0 rfl ?_
  refine g_iload_n X dX3_weightFor_1 rfl 1 rfl ?_
  refine g_gateV (As := [.int b]) (ci := 3) (ok := hasB (w.1 0) b) (e := eIdx) X dX3_weightFor_2 (c_X3_requireBill κ.l hl κ.Γ M A w hB hI b) k588 k590 kp5 k1 k591 rfl (BRep.obj hB) ⟨rfl, by decide, by decide, (show (parseMethodDescriptor yX3_requireBill.desc).map (fun d => d.parameters.length) = some 1 by decide +kernel)⟩ rfl (Nat.le_of_ble_eq_true rfl) (by rw [hRm]; decide) (by rw [hRm]; exact ⟨Nat.le_of_ble_eq_true rfl, Nat.le_of_ble_eq_true rfl⟩) (fun g1 => ?_) (fun E7 M7 h7 => gx_out X F (Nat.le_of_ble_eq_true rfl) (Nat.le_of_ble_eq_true rfl) (by unfold pWeightFor; exact Gate.x h7 hB))
  refine g_aload_n X dX3_weightFor_5 rfl 0 rfl ?_
  refine g_get X dX3_weightFor_6 (ci := 3) (k := 0) (v := .ref (hA A 0 0)) rfl k154 (by decide) rfl (BRep.obj hB) rfl ?_
  refine g_aload_n X dX3_weightFor_9 rfl 0 rfl ?_
  refine g_get X dX3_weightFor_10 (ci := 3) (k := 0) (v := .ref (hA A 0 0)) rfl k154 (by decide) rfl (BRep.obj hB) rfl ?_
  refine g_getN X dX3_weightFor_13 (ci := 1) (k := 10) (v := .ref (hA A 0 6)) rfl k63 (by decide) rfl (HRep.obj (hB.1 0 (by decide))) rfl ?_
  refine g_iload_n X dX3_weightFor_16 rfl 1 rfl ?_
  refine g_iaload X dX3_weightFor_17 (HRep.row (hB.1 0 (by decide)) 6 (by decide) (by decide)) ((hI.1 0 (by decide)).b g1) ?_
  refine g_callV_rd (As := [.int ((w.1 0).2.1 6 (cN b))]) (ci := 1) (v := some (.int (hW (w.1 0) ((w.1 0).2.1 6 (cN b))))) X dX3_weightFor_18 (c_X1_weightOfSet κ.l hl κ.Γ M (hA A 0) (w.1 0) (hB.1 0 (by decide)) ((w.1 0).2.1 6 (cN b))) k254 k255 k256 k2 k257 rfl (hB.1 0 (by decide)).obj ⟨rfl, by decide, by decide, (show (parseMethodDescriptor yX1_weightOfSet.desc).map (fun d => d.parameters.length) = some 1 by decide +kernel)⟩ rfl (Nat.le_of_ble_eq_true rfl) (by rw [hRm]; decide) (by rw [hRm]; exact ⟨Nat.le_of_ble_eq_true rfl, Nat.le_of_ble_eq_true rfl⟩) ?_
  exact g_iret X F dX3_weightFor_21 (Nat.le_of_ble_eq_true rfl) (Nat.le_of_ble_eq_true rfl) (by unfold pWeightFor; rw [pG_y g1]; exact ⟨rfl, hB, Fr.rf⟩)
set_option maxRecDepth 100000 in
set_option maxHeartbeats 4000000 in
theorem c_X3_weightForByDigits (l : Launch) (hl : l.stackTraces = false) (Γ : Gm) (M : Hp) (A : Nat → Nat) (w : PV) (hB : BRep Γ A w M) (hI : BInv w) (b : Int32) : Ct l Γ yX3_weightForByDigits cX3_weightForByDigits 2 (some .int) 2 3 18 [.ref (A 313), .int b] M (BMu Γ A (pWeightForByDigits w b) M) := by
  refine Ct.of hl (by decide) (Nat.le_of_ble_eq_true rfl) rfl ?_
  intro κ e1 e2 hnL hRm X F hlt
  subst e1 e2
  refine g_aload_n X dX3_weightForByDigits_0 rfl 0 rfl ?_
  refine g_iload_n X dX3_weightForByDigits_1 rfl 1 rfl ?_
  refine g_gateV (As := [.int b]) (ci := 3) (ok := hasB (w.1 0) b) (e := eIdx) X dX3_weightForByDigits_2 (c_X3_requireBill κ.l hl κ.Γ M A w hB hI b) k588 k590 kp5 k1 k591 rfl (BRep.obj hB) ⟨rfl, by decide, by decide, (show (parseMethodDescriptor yX3_requireBill.desc).map (fun d => d.parameters.length) = some 1 by decide +kernel)⟩ rfl (Nat.le_of_ble_eq_true rfl) (by rw [hRm]; decide) (by rw [hRm]; exact ⟨Nat.le_of_ble_eq_true rfl, Nat.le_of_ble_eq_true rfl⟩) (fun g1 => ?_) (fun E7 M7 h7 => gx_out X F (Nat.le_of_ble_eq_true rfl) (Nat.le_of_ble_eq_true rfl) (by unfold pWeightForByDigits; exact Gate.x h7 hB))
  refine g_aload_n X dX3_weightForByDigits_5 rfl 0 rfl ?_
  refine g_get X dX3_weightForByDigits_6 (ci := 3) (k := 0) (v := .ref (hA A 0 0)) rfl k154 (by decide) rfl (BRep.obj hB) rfl ?_
  refine g_aload_n X dX3_weightForByDigits_9 rfl 0 rfl ?_
  refine g_get X dX3_weightForByDigits_10 (ci := 3) (k := 0) (v := .ref (hA A 0 0)) rfl k154 (by decide) rfl (BRep.obj hB) rfl ?_
  refine g_getN X dX3_weightForByDigits_13 (ci := 1) (k := 10) (v := .ref (hA A 0 6)) rfl k63 (by decide) rfl (HRep.obj (hB.1 0 (by decide))) rfl ?_
  refine g_iload_n X dX3_weightForByDigits_16 rfl 1 rfl ?_
  refine g_iaload X dX3_weightForByDigits_17 (HRep.row (hB.1 0 (by decide)) 6 (by decide) (by decide)) ((hI.1 0 (by decide)).b g1) ?_
  refine g_callV_rd (As := [.int ((w.1 0).2.1 6 (cN b))]) (ci := 1) (v := some (.int (wDig ((w.1 0).2.1 2) ((w.1 0).2.1 6 (cN b)) 3))) X dX3_weightForByDigits_18 (c_X1_weightOfSetByDigits κ.l hl κ.Γ M (hA A 0) (w.1 0) (hB.1 0 (by decide)) ((w.1 0).2.1 6 (cN b))) k258 k259 k260 k2 k261 rfl (hB.1 0 (by decide)).obj ⟨rfl, by decide, by decide, (show (parseMethodDescriptor yX1_weightOfSetByDigits.desc).map (fun d => d.parameters.length) = some 1 by decide +kernel)⟩ rfl (Nat.le_of_ble_eq_true rfl) (by rw [hRm]; decide) (by rw [hRm]; exact ⟨Nat.le_of_ble_eq_true rfl, Nat.le_of_ble_eq_true rfl⟩) ?_
  exact g_iret X F dX3_weightForByDigits_21 (Nat.le_of_ble_eq_true rfl) (Nat.le_of_ble_eq_true rfl) (by unfold pWeightForByDigits; rw [pG_y g1]; exact ⟨rfl, hB, Fr.rf⟩)
set_option maxRecDepth 100000 in
set_option maxHeartbeats 4000000 in
theorem c_X3_weightAgainst (l : Launch) (hl : l.stackTraces = false) (Γ : Gm) (M : Hp) (A : Nat → Nat) (w : PV) (hB : BRep Γ A w M) (hI : BInv w) (b : Int32) : Ct l Γ yX3_weightAgainst cX3_weightAgainst 2 (some .int) 2 3 18 [.ref (A 313), .int b] M (BMu Γ A (pWeightAgainst w b) M) := by
  refine Ct.of hl (by decide) (Nat.le_of_ble_eq_true rfl) rfl ?_
  intro κ e1 e2 hnL hRm X F hlt
  subst e1 e2
  refine g_aload_n X dX3_weightAgainst_0 rfl 0 rfl ?_
  refine g_iload_n X dX3_weightAgainst_1 rfl 1 rfl ?_
  refine g_gateV (As := [.int b]) (ci := 3) (ok := hasB (w.1 0) b) (e := eIdx) X dX3_weightAgainst_2 (c_X3_requireBill κ.l hl κ.Γ M A w hB hI b) k588 k590 kp5 k1 k591 rfl (BRep.obj hB) ⟨rfl, by decide, by decide, (show (parseMethodDescriptor yX3_requireBill.desc).map (fun d => d.parameters.length) = some 1 by decide +kernel)⟩ rfl (Nat.le_of_ble_eq_true rfl) (by rw [hRm]; decide) (by rw [hRm]; exact ⟨Nat.le_of_ble_eq_true rfl, Nat.le_of_ble_eq_true rfl⟩) (fun g1 => ?_) (fun E7 M7 h7 => gx_out X F (Nat.le_of_ble_eq_true rfl) (Nat.le_of_ble_eq_true rfl) (by unfold pWeightAgainst; exact Gate.x h7 hB))
  refine g_aload_n X dX3_weightAgainst_5 rfl 0 rfl ?_
  refine g_get X dX3_weightAgainst_6 (ci := 3) (k := 0) (v := .ref (hA A 0 0)) rfl k154 (by decide) rfl (BRep.obj hB) rfl ?_
  refine g_aload_n X dX3_weightAgainst_9 rfl 0 rfl ?_
  refine g_get X dX3_weightAgainst_10 (ci := 3) (k := 0) (v := .ref (hA A 0 0)) rfl k154 (by decide) rfl (BRep.obj hB) rfl ?_
  refine g_getN X dX3_weightAgainst_13 (ci := 1) (k := 11) (v := .ref (hA A 0 7)) rfl k65 (by decide) rfl (HRep.obj (hB.1 0 (by decide))) rfl ?_
  refine g_iload_n X dX3_weightAgainst_16 rfl 1 rfl ?_
  refine g_iaload X dX3_weightAgainst_17 (HRep.row (hB.1 0 (by decide)) 7 (by decide) (by decide)) ((hI.1 0 (by decide)).b g1) ?_
  refine g_callV_rd (As := [.int ((w.1 0).2.1 7 (cN b))]) (ci := 1) (v := some (.int (hW (w.1 0) ((w.1 0).2.1 7 (cN b))))) X dX3_weightAgainst_18 (c_X1_weightOfSet κ.l hl κ.Γ M (hA A 0) (w.1 0) (hB.1 0 (by decide)) ((w.1 0).2.1 7 (cN b))) k254 k255 k256 k2 k257 rfl (hB.1 0 (by decide)).obj ⟨rfl, by decide, by decide, (show (parseMethodDescriptor yX1_weightOfSet.desc).map (fun d => d.parameters.length) = some 1 by decide +kernel)⟩ rfl (Nat.le_of_ble_eq_true rfl) (by rw [hRm]; decide) (by rw [hRm]; exact ⟨Nat.le_of_ble_eq_true rfl, Nat.le_of_ble_eq_true rfl⟩) ?_
  exact g_iret X F dX3_weightAgainst_21 (Nat.le_of_ble_eq_true rfl) (Nat.le_of_ble_eq_true rfl) (by unfold pWeightAgainst; rw [pG_y g1]; exact ⟨rfl, hB, Fr.rf⟩)
set_option maxRecDepth 100000 in
set_option maxHeartbeats 4000000 in
theorem c_X3_pendingCount (l : Launch) (hl : l.stackTraces = false) (Γ : Gm) (M : Hp) (A : Nat → Nat) (w : PV) (hB : BRep Γ A w M) (hI : BInv w) (b : Int32) : Ct l Γ yX3_pendingCount cX3_pendingCount 2 (some .int) 2 3 18 [.ref (A 313), .int b] M (BMu Γ A (pPendingCount w b) M) := by
  refine Ct.of hl (by decide) (Nat.le_of_ble_eq_true rfl) rfl ?_
  intro κ e1 e2 hnL hRm X F hlt
  subst e1 e2
  refine g_aload_n X dX3_pendingCount_0 rfl 0 rfl ?_
  refine g_iload_n X dX3_pendingCount_1 rfl 1 rfl ?_
  refine g_gateV (As := [.int b]) (ci := 3) (ok := hasB (w.1 0) b) (e := eIdx) X dX3_pendingCount_2 (c_X3_requireBill κ.l hl κ.Γ M A w hB hI b) k588 k590 kp5 k1 k591 rfl (BRep.obj hB) ⟨rfl, by decide, by decide, (show (parseMethodDescriptor yX3_requireBill.desc).map (fun d => d.parameters.length) = some 1 by decide +kernel)⟩ rfl (Nat.le_of_ble_eq_true rfl) (by rw [hRm]; decide) (by rw [hRm]; exact ⟨Nat.le_of_ble_eq_true rfl, Nat.le_of_ble_eq_true rfl⟩) (fun g1 => ?_) (fun E7 M7 h7 => gx_out X F (Nat.le_of_ble_eq_true rfl) (Nat.le_of_ble_eq_true rfl) (by unfold pPendingCount; exact Gate.x h7 hB))
  refine g_aload_n X dX3_pendingCount_5 rfl 0 rfl ?_
  refine g_get X dX3_pendingCount_6 (ci := 3) (k := 0) (v := .ref (hA A 0 0)) rfl k154 (by decide) rfl (BRep.obj hB) rfl ?_
  refine g_getN X dX3_pendingCount_9 (ci := 1) (k := 12) (v := .ref (hA A 0 8)) rfl k67 (by decide) rfl (HRep.obj (hB.1 0 (by decide))) rfl ?_
  refine g_iload_n X dX3_pendingCount_12 rfl 1 rfl ?_
  refine g_iaload X dX3_pendingCount_13 (HRep.row (hB.1 0 (by decide)) 8 (by decide) (by decide)) ((hI.1 0 (by decide)).b g1) ?_
  exact g_iret X F dX3_pendingCount_14 (Nat.le_of_ble_eq_true rfl) (Nat.le_of_ble_eq_true rfl) (by unfold pPendingCount; rw [pG_y g1]; exact ⟨rfl, hB, Fr.rf⟩)
set_option maxRecDepth 100000 in
set_option maxHeartbeats 4000000 in
theorem c_X3_delay (l : Launch) (hl : l.stackTraces = false) (Γ : Gm) (M : Hp) (A : Nat → Nat) (w : PV) (hB : BRep Γ A w M) (hI : BInv w) (b : Int32) : Ct l Γ yX3_delay cX3_delay 2 (some .int) 2 3 18 [.ref (A 313), .int b] M (BMu Γ A (pDelay w b) M) := by
  refine Ct.of hl (by decide) (Nat.le_of_ble_eq_true rfl) rfl ?_
  intro κ e1 e2 hnL hRm X F hlt
  subst e1 e2
  refine g_aload_n X dX3_delay_0 rfl 0 rfl ?_
  refine g_iload_n X dX3_delay_1 rfl 1 rfl ?_
  refine g_gateV (As := [.int b]) (ci := 3) (ok := hasB (w.1 0) b) (e := eIdx) X dX3_delay_2 (c_X3_requireBill κ.l hl κ.Γ M A w hB hI b) k588 k590 kp5 k1 k591 rfl (BRep.obj hB) ⟨rfl, by decide, by decide, (show (parseMethodDescriptor yX3_requireBill.desc).map (fun d => d.parameters.length) = some 1 by decide +kernel)⟩ rfl (Nat.le_of_ble_eq_true rfl) (by rw [hRm]; decide) (by rw [hRm]; exact ⟨Nat.le_of_ble_eq_true rfl, Nat.le_of_ble_eq_true rfl⟩) (fun g1 => ?_) (fun E7 M7 h7 => gx_out X F (Nat.le_of_ble_eq_true rfl) (Nat.le_of_ble_eq_true rfl) (by unfold pDelay; exact Gate.x h7 hB))
  refine g_aload_n X dX3_delay_5 rfl 0 rfl ?_
  refine g_get X dX3_delay_6 (ci := 3) (k := 0) (v := .ref (hA A 0 0)) rfl k154 (by decide) rfl (BRep.obj hB) rfl ?_
  refine g_getN X dX3_delay_9 (ci := 1) (k := 9) (v := .ref (hA A 0 5)) rfl k61 (by decide) rfl (HRep.obj (hB.1 0 (by decide))) rfl ?_
  refine g_iload_n X dX3_delay_12 rfl 1 rfl ?_
  refine g_iaload X dX3_delay_13 (HRep.row (hB.1 0 (by decide)) 5 (by decide) (by decide)) ((hI.1 0 (by decide)).b g1) ?_
  exact g_iret X F dX3_delay_14 (Nat.le_of_ble_eq_true rfl) (Nat.le_of_ble_eq_true rfl) (by unfold pDelay; rw [pG_y g1]; exact ⟨rfl, hB, Fr.rf⟩)
set_option maxRecDepth 100000 in
set_option maxHeartbeats 4000000 in
theorem c_X3_rust (l : Launch) (hl : l.stackTraces = false) (Γ : Gm) (M : Hp) (A : Nat → Nat) (w : PV) (hB : BRep Γ A w M) (hI : BInv w) (b : Int32) : Ct l Γ yX3_rust cX3_rust 2 (some .int) 2 3 18 [.ref (A 313), .int b] M (BMu Γ A (pRust w b) M) := by
  refine Ct.of hl (by decide) (Nat.le_of_ble_eq_true rfl) rfl ?_
  intro κ e1 e2 hnL hRm X F hlt
  subst e1 e2
  refine g_aload_n X dX3_rust_0 rfl 0 rfl ?_
  refine g_iload_n X dX3_rust_1 rfl 1 rfl ?_
  refine g_gateV (As := [.int b]) (ci := 3) (ok := hasB (w.1 0) b) (e := eIdx) X dX3_rust_2 (c_X3_requireBill κ.l hl κ.Γ M A w hB hI b) k588 k590 kp5 k1 k591 rfl (BRep.obj hB) ⟨rfl, by decide, by decide, (show (parseMethodDescriptor yX3_requireBill.desc).map (fun d => d.parameters.length) = some 1 by decide +kernel)⟩ rfl (Nat.le_of_ble_eq_true rfl) (by rw [hRm]; decide) (by rw [hRm]; exact ⟨Nat.le_of_ble_eq_true rfl, Nat.le_of_ble_eq_true rfl⟩) (fun g1 => ?_) (fun E7 M7 h7 => gx_out X F (Nat.le_of_ble_eq_true rfl) (Nat.le_of_ble_eq_true rfl) (by unfold pRust; exact Gate.x h7 hB))
  refine g_aload_n X dX3_rust_5 rfl 0 rfl ?_
  refine g_get X dX3_rust_6 (ci := 3) (k := 0) (v := .ref (hA A 0 0)) rfl k154 (by decide) rfl (BRep.obj hB) rfl ?_
  refine g_iload_n X dX3_rust_9 rfl 1 rfl ?_
  refine g_callV_rd (As := [.int b]) (ci := 1) (v := some (.int (hRust (w.1 0) (cN b)))) X dX3_rust_10 (c_X1_rustOf κ.l hl κ.Γ M (hA A 0) (w.1 0) (hB.1 0 (by decide)) b ((hI.1 0 (by decide)).b g1)) k837 k661 k662 k2 k663 rfl (hB.1 0 (by decide)).obj ⟨rfl, by decide, by decide, (show (parseMethodDescriptor yX1_rustOf.desc).map (fun d => d.parameters.length) = some 1 by decide +kernel)⟩ rfl (Nat.le_of_ble_eq_true rfl) (by rw [hRm]; decide) (by rw [hRm]; exact ⟨Nat.le_of_ble_eq_true rfl, Nat.le_of_ble_eq_true rfl⟩) ?_
  exact g_iret X F dX3_rust_13 (Nat.le_of_ble_eq_true rfl) (Nat.le_of_ble_eq_true rfl) (by unfold pRust; rw [pG_y g1]; exact ⟨rfl, hB, Fr.rf⟩)
set_option maxRecDepth 100000 in
set_option maxHeartbeats 4000000 in
theorem c_X3_passedCount (l : Launch) (hl : l.stackTraces = false) (Γ : Gm) (M : Hp) (A : Nat → Nat) (w : PV) (hB : BRep Γ A w M) (hI : BInv w) : Ct l Γ yX3_passedCount cX3_passedCount 1 (some .int) 1 3 18 [.ref (A 313)] M (BMu Γ A (pPassedCount w) M) := by
  refine Ct.of hl (by decide) (Nat.le_of_ble_eq_true rfl) rfl ?_
  intro κ e1 e2 hnL hRm X F hlt
  subst e1 e2
  refine g_aload_n X dX3_passedCount_0 rfl 0 rfl ?_
  refine g_get X dX3_passedCount_1 (ci := 3) (k := 0) (v := .ref (hA A 0 0)) rfl k154 (by decide) rfl (BRep.obj hB) rfl ?_
  refine g_iconst (v := 1) X dX3_passedCount_4 (by decide) ?_
  refine g_callV_rd (As := [.int 1]) (ci := 1) (v := some (.int (cntS ((w.1 0).2.1 3) 1 (cN ((w.1 0).1 3))))) X dX3_passedCount_5 (c_X1_billsWith κ.l hl κ.Γ M (hA A 0) (w.1 0) (hB.1 0 (by decide)) (hI.1 0 (by decide)) 1) k234 k235 k236 k2 k237 rfl (hB.1 0 (by decide)).obj ⟨rfl, by decide, by decide, (show (parseMethodDescriptor yX1_billsWith.desc).map (fun d => d.parameters.length) = some 1 by decide +kernel)⟩ rfl (Nat.le_of_ble_eq_true rfl) (by rw [hRm]; decide) (by rw [hRm]; exact ⟨Nat.le_of_ble_eq_true rfl, Nat.le_of_ble_eq_true rfl⟩) ?_
  exact g_iret X F dX3_passedCount_8 (Nat.le_of_ble_eq_true rfl) (Nat.le_of_ble_eq_true rfl) (by unfold pPassedCount; exact ⟨rfl, hB, Fr.rf⟩)
set_option maxRecDepth 100000 in
set_option maxHeartbeats 4000000 in
theorem c_X3_fallenCount (l : Launch) (hl : l.stackTraces = false) (Γ : Gm) (M : Hp) (A : Nat → Nat) (w : PV) (hB : BRep Γ A w M) (hI : BInv w) : Ct l Γ yX3_fallenCount cX3_fallenCount 1 (some .int) 1 3 18 [.ref (A 313)] M (BMu Γ A (pFallenCount w) M) := by
  refine Ct.of hl (by decide) (Nat.le_of_ble_eq_true rfl) rfl ?_
  intro κ e1 e2 hnL hRm X F hlt
  subst e1 e2
  refine g_aload_n X dX3_fallenCount_0 rfl 0 rfl ?_
  refine g_get X dX3_fallenCount_1 (ci := 3) (k := 0) (v := .ref (hA A 0 0)) rfl k154 (by decide) rfl (BRep.obj hB) rfl ?_
  refine g_iconst (v := 2) X dX3_fallenCount_4 (by decide) ?_
  refine g_callV_rd (As := [.int 2]) (ci := 1) (v := some (.int (cntS ((w.1 0).2.1 3) 2 (cN ((w.1 0).1 3))))) X dX3_fallenCount_5 (c_X1_billsWith κ.l hl κ.Γ M (hA A 0) (w.1 0) (hB.1 0 (by decide)) (hI.1 0 (by decide)) 2) k234 k235 k236 k2 k237 rfl (hB.1 0 (by decide)).obj ⟨rfl, by decide, by decide, (show (parseMethodDescriptor yX1_billsWith.desc).map (fun d => d.parameters.length) = some 1 by decide +kernel)⟩ rfl (Nat.le_of_ble_eq_true rfl) (by rw [hRm]; decide) (by rw [hRm]; exact ⟨Nat.le_of_ble_eq_true rfl, Nat.le_of_ble_eq_true rfl⟩) ?_
  exact g_iret X F dX3_fallenCount_8 (Nat.le_of_ble_eq_true rfl) (Nat.le_of_ble_eq_true rfl) (by unfold pFallenCount; exact ⟨rfl, hB, Fr.rf⟩)
set_option maxRecDepth 100000 in
set_option maxHeartbeats 4000000 in
theorem c_X3_acceptedCount (l : Launch) (hl : l.stackTraces = false) (Γ : Gm) (M : Hp) (A : Nat → Nat) (w : PV) (hB : BRep Γ A w M) (hI : BInv w) : Ct l Γ yX3_acceptedCount cX3_acceptedCount 1 (some .int) 0 3 18 [.ref (A 313)] M (BMu Γ A (pAcceptedCount w) M) := by
  refine Ct.of hl (by decide) (Nat.le_of_ble_eq_true rfl) rfl ?_
  intro κ e1 e2 hnL hRm X F hlt
  subst e1 e2
  refine g_aload_n X dX3_acceptedCount_0 rfl 0 rfl ?_
  refine g_get X dX3_acceptedCount_1 (ci := 3) (k := 0) (v := .ref (hA A 0 0)) rfl k154 (by decide) rfl (BRep.obj hB) rfl ?_
  refine g_getN X dX3_acceptedCount_4 (ci := 1) (k := 15) (v := .int ((w.1 0).1 4)) rfl k73 (by decide) rfl (HRep.obj (hB.1 0 (by decide))) rfl ?_
  exact g_iret X F dX3_acceptedCount_7 (Nat.le_of_ble_eq_true rfl) (Nat.le_of_ble_eq_true rfl) (by unfold pAcceptedCount; exact ⟨rfl, hB, Fr.rf⟩)
set_option maxRecDepth 100000 in
set_option maxHeartbeats 4000000 in
theorem c_X3_amendedClause (l : Launch) (hl : l.stackTraces = false) (Γ : Gm) (M : Hp) (A : Nat → Nat) (w : PV) (hB : BRep Γ A w M) (hI : BInv w) (b : Int32) (x : Int32) : Ct l Γ yX3_amendedClause cX3_amendedClause 3 (some .int) 3 3 18 [.ref (A 313), .int b, .int x] M (BMu Γ A (pAmendedClause w b x) M) := by
  refine Ct.of hl (by decide) (Nat.le_of_ble_eq_true rfl) rfl ?_
  intro κ e1 e2 hnL hRm X F hlt
  subst e1 e2
  refine g_aload_n X dX3_amendedClause_0 rfl 0 rfl ?_
  refine g_iload_n X dX3_amendedClause_1 rfl 1 rfl ?_
  refine g_iload_n X dX3_amendedClause_2 rfl 2 rfl ?_
  refine g_gateV (As := [.int b, .int x]) (ci := 3) (ok := hasB (w.1 0) b ∧ hasP (w.1 0) b x) (e := ePend (w.1 0) b) X dX3_amendedClause_3 (c_X3_requirePending κ.l hl κ.Γ M A w hB hI b x) k796 k798 kp8 k1 k799 rfl (BRep.obj hB) ⟨rfl, by decide, by decide, (show (parseMethodDescriptor yX3_requirePending.desc).map (fun d => d.parameters.length) = some 2 by decide +kernel)⟩ rfl (Nat.le_of_ble_eq_true rfl) (by rw [hRm]; decide) (by rw [hRm]; exact ⟨Nat.le_of_ble_eq_true rfl, Nat.le_of_ble_eq_true rfl⟩) (fun g1 => ?_) (fun E7 M7 h7 => gx_out X F (Nat.le_of_ble_eq_true rfl) (Nat.le_of_ble_eq_true rfl) (by unfold pAmendedClause; exact Gate.x h7 hB))
  have vb := (hI.1 0 (by decide)).b g1.1
  have vp := (hI.1 0 (by decide)).p vb g1.2
  refine g_aload_n X dX3_amendedClause_6 rfl 0 rfl ?_
  refine g_get X dX3_amendedClause_7 (ci := 3) (k := 0) (v := .ref (hA A 0 0)) rfl k154 (by decide) rfl (BRep.obj hB) rfl ?_
  refine g_getN X dX3_amendedClause_10 (ci := 1) (k := 13) (v := .ref (hA A 0 10)) rfl k69 (by decide) rfl (HRep.obj (hB.1 0 (by decide))) rfl ?_
  refine g_iload_n X dX3_amendedClause_13 rfl 1 rfl ?_
  refine g_aaload (t0 := 3) (v := .ref (hA A 0 (12 + cN b))) X dX3_amendedClause_14 (HRep.amd (hB.1 0 (by decide))) rfl rfl vb (rf_if (f := fun b => hA A 0 (12 + b)) (vin_lt vb)) ?_
  refine g_iload_n X dX3_amendedClause_15 rfl 2 rfl ?_
  refine g_iaload X dX3_amendedClause_16 (HRep.row12 (hB.1 0 (by decide)) vb) vp ?_
  exact g_iret X F dX3_amendedClause_17 (Nat.le_of_ble_eq_true rfl) (Nat.le_of_ble_eq_true rfl) (by unfold pAmendedClause; rw [pG_y g1]; exact ⟨rfl, hB, Fr.rf⟩)
set_option maxRecDepth 100000 in
set_option maxHeartbeats 4000000 in
theorem c_X3_supportWeight (l : Launch) (hl : l.stackTraces = false) (Γ : Gm) (M : Hp) (A : Nat → Nat) (w : PV) (hB : BRep Γ A w M) (hI : BInv w) (b : Int32) (x : Int32) : Ct l Γ yX3_supportWeight cX3_supportWeight 3 (some .int) 3 3 18 [.ref (A 313), .int b, .int x] M (BMu Γ A (pSupportWeight w b x) M) := by
  refine Ct.of hl (by decide) (Nat.le_of_ble_eq_true rfl) rfl ?_
  intro κ e1 e2 hnL hRm X F hlt
  subst e1 e2
  refine g_aload_n X dX3_supportWeight_0 rfl 0 rfl ?_
  refine g_iload_n X dX3_supportWeight_1 rfl 1 rfl ?_
  refine g_iload_n X dX3_supportWeight_2 rfl 2 rfl ?_
  refine g_gateV (As := [.int b, .int x]) (ci := 3) (ok := hasB (w.1 0) b ∧ hasP (w.1 0) b x) (e := ePend (w.1 0) b) X dX3_supportWeight_3 (c_X3_requirePending κ.l hl κ.Γ M A w hB hI b x) k796 k798 kp8 k1 k799 rfl (BRep.obj hB) ⟨rfl, by decide, by decide, (show (parseMethodDescriptor yX3_requirePending.desc).map (fun d => d.parameters.length) = some 2 by decide +kernel)⟩ rfl (Nat.le_of_ble_eq_true rfl) (by rw [hRm]; decide) (by rw [hRm]; exact ⟨Nat.le_of_ble_eq_true rfl, Nat.le_of_ble_eq_true rfl⟩) (fun g1 => ?_) (fun E7 M7 h7 => gx_out X F (Nat.le_of_ble_eq_true rfl) (Nat.le_of_ble_eq_true rfl) (by unfold pSupportWeight; exact Gate.x h7 hB))
  have vb := (hI.1 0 (by decide)).b g1.1
  have vp := (hI.1 0 (by decide)).p vb g1.2
  refine g_aload_n X dX3_supportWeight_6 rfl 0 rfl ?_
  refine g_get X dX3_supportWeight_7 (ci := 3) (k := 0) (v := .ref (hA A 0 0)) rfl k154 (by decide) rfl (BRep.obj hB) rfl ?_
  refine g_aload_n X dX3_supportWeight_10 rfl 0 rfl ?_
  refine g_get X dX3_supportWeight_11 (ci := 3) (k := 0) (v := .ref (hA A 0 0)) rfl k154 (by decide) rfl (BRep.obj hB) rfl ?_
  refine g_getN X dX3_supportWeight_14 (ci := 1) (k := 14) (v := .ref (hA A 0 11)) rfl k71 (by decide) rfl (HRep.obj (hB.1 0 (by decide))) rfl ?_
  refine g_iload_n X dX3_supportWeight_17 rfl 1 rfl ?_
  refine g_aaload (t0 := 3) (v := .ref (hA A 0 (20 + cN b))) X dX3_supportWeight_18 (HRep.sup (hB.1 0 (by decide))) rfl rfl vb (rf_if (f := fun b => hA A 0 (20 + b)) (vin_lt vb)) ?_
  refine g_iload_n X dX3_supportWeight_19 rfl 2 rfl ?_
  refine g_iaload X dX3_supportWeight_20 (HRep.row20 (hB.1 0 (by decide)) vb) vp ?_
  refine g_callV_rd (As := [.int ((w.1 0).2.1 (20 + cN b) (cN x))]) (ci := 1) (v := some (.int (hW (w.1 0) ((w.1 0).2.1 (20 + cN b) (cN x))))) X dX3_supportWeight_21 (c_X1_weightOfSet κ.l hl κ.Γ M (hA A 0) (w.1 0) (hB.1 0 (by decide)) ((w.1 0).2.1 (20 + cN b) (cN x))) k254 k255 k256 k2 k257 rfl (hB.1 0 (by decide)).obj ⟨rfl, by decide, by decide, (show (parseMethodDescriptor yX1_weightOfSet.desc).map (fun d => d.parameters.length) = some 1 by decide +kernel)⟩ rfl (Nat.le_of_ble_eq_true rfl) (by rw [hRm]; decide) (by rw [hRm]; exact ⟨Nat.le_of_ble_eq_true rfl, Nat.le_of_ble_eq_true rfl⟩) ?_
  exact g_iret X F dX3_supportWeight_24 (Nat.le_of_ble_eq_true rfl) (Nat.le_of_ble_eq_true rfl) (by unfold pSupportWeight; rw [pG_y g1]; exact ⟨rfl, hB, Fr.rf⟩)
set_option maxRecDepth 100000 in
set_option maxHeartbeats 4000000 in
theorem c_X3_ridesUntilFall (l : Launch) (hl : l.stackTraces = false) (Γ : Gm) (M : Hp) (A : Nat → Nat) (w : PV) (hB : BRep Γ A w M) (hI : BInv w) (b : Int32) (n : Int32) : Ct l Γ yX3_ridesUntilFall cX3_ridesUntilFall 4 (some .int) 2 3 18 [.ref (A 313), .int b, .int n] M (BMu Γ A (pRidesUntilFall w b n) M) := by
  refine Ct.of hl (by decide) (Nat.le_of_ble_eq_true rfl) rfl ?_
  intro κ e1 e2 hnL hRm X F hlt
  subst e1 e2
  refine g_aload_n X dX3_ridesUntilFall_0 rfl 0 rfl ?_
  refine g_iload_n X dX3_ridesUntilFall_1 rfl 1 rfl ?_
  refine g_gateV (As := [.int b]) (ci := 3) (ok := hasB (w.1 0) b) (e := eIdx) X dX3_ridesUntilFall_2 (c_X3_requireBill κ.l hl κ.Γ M A w hB hI b) k588 k590 kp5 k1 k591 rfl (BRep.obj hB) ⟨rfl, by decide, by decide, (show (parseMethodDescriptor yX3_requireBill.desc).map (fun d => d.parameters.length) = some 1 by decide +kernel)⟩ rfl (Nat.le_of_ble_eq_true rfl) (by rw [hRm]; decide) (by rw [hRm]; exact ⟨Nat.le_of_ble_eq_true rfl, Nat.le_of_ble_eq_true rfl⟩) (fun g1 => ?_) (fun E7 M7 h7 => gx_out X F (Nat.le_of_ble_eq_true rfl) (Nat.le_of_ble_eq_true rfl) (by unfold pRidesUntilFall; exact Gate.x h7 hB))
  refine g_iload_n X dX3_ridesUntilFall_5 rfl 2 rfl ?_
  refine g_iconst (v := 1) X dX3_ridesUntilFall_6 (by decide) ?_
  refine g_icmp_lt (tgt := 16) X dX3_ridesUntilFall_7 (by decide) (fun c2 => ?_) (fun c2 => ?_)
  · exact g_throw X F (ik := 229) (ic := 231) (cls := "java/lang/IllegalArgumentException") dX3_ridesUntilFall_16 dX3_ridesUntilFall_19 dX3_ridesUntilFall_20 dX3_ridesUntilFall_23 (by decide +kernel) (by rw [hRm]; decide) (by rw [hRm]; exact Nat.le_of_ble_eq_true rfl) (by rw [hRm]; exact Nat.le_of_ble_eq_true rfl) (by rw [hRm]; exact Nat.le_of_ble_eq_true rfl) (Nat.le_of_ble_eq_true rfl) (Nat.le_of_ble_eq_true rfl) (by unfold pRidesUntilFall; rw [pG_y g1]; rw [pG_n (fun z => by first | exact absurd z.1 (Int32.not_le.mpr c2) | exact absurd z.2 (Int32.not_le.mpr c2) | exact absurd z.2 c2)]; exact ⟨rfl, hB, Fr.rf⟩)
  · refine g_iload_n X dX3_ridesUntilFall_10 rfl 2 rfl ?_
    refine g_bipush (v := 30) X dX3_ridesUntilFall_11 (by decide) ?_
    refine g_icmp_le (tgt := 24) X dX3_ridesUntilFall_13 (by decide) (fun c3 => ?_) (fun c3 => ?_)
    · have g4 : 1 ≤ n ∧ n ≤ 30 := ⟨Int32.not_lt.mp c2, by first | exact c3 | exact Int32.not_lt.mp c3⟩
      refine g_aload_n X dX3_ridesUntilFall_24 rfl 0 rfl ?_
      refine g_get X dX3_ridesUntilFall_25 (ci := 3) (k := 0) (v := .ref (hA A 0 0)) rfl k154 (by decide) rfl (BRep.obj hB) rfl ?_
      refine g_getN X dX3_ridesUntilFall_28 (ci := 1) (k := 6) (v := .ref (hA A 0 3)) rfl k55 (by decide) rfl (HRep.obj (hB.1 0 (by decide))) rfl ?_
      refine g_iload_n X dX3_ridesUntilFall_31 rfl 1 rfl ?_
      refine g_iaload X dX3_ridesUntilFall_32 (HRep.row (hB.1 0 (by decide)) 3 (by decide) (by decide)) ((hI.1 0 (by decide)).b g1) ?_
      refine g_if_eq (tgt := 44) X dX3_ridesUntilFall_33 (by decide) (fun c5 => ?_) (fun c5 => ?_)
      · have g6 : (w.1 0).2.1 3 (cN b) = 0 := c5
        refine g_sipush (v := 180) X dX3_ridesUntilFall_44 (by decide) ?_
        refine g_aload_n X dX3_ridesUntilFall_47 rfl 0 rfl ?_
        refine g_get X dX3_ridesUntilFall_48 (ci := 3) (k := 0) (v := .ref (hA A 0 0)) rfl k154 (by decide) rfl (BRep.obj hB) rfl ?_
        refine g_getN X dX3_ridesUntilFall_51 (ci := 1) (k := 9) (v := .ref (hA A 0 5)) rfl k61 (by decide) rfl (HRep.obj (hB.1 0 (by decide))) rfl ?_
        refine g_iload_n X dX3_ridesUntilFall_54 rfl 1 rfl ?_
        refine g_iaload X dX3_ridesUntilFall_55 (HRep.row (hB.1 0 (by decide)) 5 (by decide) (by decide)) ((hI.1 0 (by decide)).b g1) ?_
        refine g_isub X dX3_ridesUntilFall_56 ?_
        refine g_istore_n (L' := [(3, .int (180 - ((w.1 0).2.1 5 (cN b)))), (0, .ref (A 313)), (1, .int b), (2, .int n)]) X dX3_ridesUntilFall_57 rfl (by rw [hnL]; decide) rfl ?_
        refine g_iload_n X dX3_ridesUntilFall_58 rfl 0 rfl ?_
        refine g_iload_n X dX3_ridesUntilFall_59 rfl 3 rfl ?_
        refine g_iadd X dX3_ridesUntilFall_60 ?_
        refine g_iconst (v := 1) X dX3_ridesUntilFall_61 (by decide) ?_
        refine g_isub X dX3_ridesUntilFall_62 ?_
        refine g_iload_n X dX3_ridesUntilFall_63 rfl 3 rfl ?_
        refine g_idiv X dX3_ridesUntilFall_64 (fun h => by rw [h] at g4; exact absurd g4.1 (by decide)) ?_
        exact g_iret X F dX3_ridesUntilFall_65 (Nat.le_of_ble_eq_true rfl) (Nat.le_of_ble_eq_true rfl) (by unfold pRidesUntilFall; rw [pG_y g1, pG_y g4, pG_y g6]; exact ⟨rfl, hB, Fr.rf⟩)
      · exact g_throw X F (ik := 232) (ic := 234) (cls := "java/lang/IllegalStateException") dX3_ridesUntilFall_36 dX3_ridesUntilFall_39 dX3_ridesUntilFall_40 dX3_ridesUntilFall_43 (by decide +kernel) (by rw [hRm]; decide) (by rw [hRm]; exact Nat.le_of_ble_eq_true rfl) (by rw [hRm]; exact Nat.le_of_ble_eq_true rfl) (by rw [hRm]; exact Nat.le_of_ble_eq_true rfl) (Nat.le_of_ble_eq_true rfl) (Nat.le_of_ble_eq_true rfl) (by unfold pRidesUntilFall; rw [pG_y g1, pG_y g4]; rw [pG_n (fun z => c5 z)]; exact ⟨rfl, hB, Fr.rf⟩)
    · exact g_throw X F (ik := 229) (ic := 231) (cls := "java/lang/IllegalArgumentException") dX3_ridesUntilFall_16 dX3_ridesUntilFall_19 dX3_ridesUntilFall_20 dX3_ridesUntilFall_23 (by decide +kernel) (by rw [hRm]; decide) (by rw [hRm]; exact Nat.le_of_ble_eq_true rfl) (by rw [hRm]; exact Nat.le_of_ble_eq_true rfl) (by rw [hRm]; exact Nat.le_of_ble_eq_true rfl) (Nat.le_of_ble_eq_true rfl) (Nat.le_of_ble_eq_true rfl) (by unfold pRidesUntilFall; rw [pG_y g1]; rw [pG_n (fun z => by first | exact absurd z.1 (Int32.not_le.mpr c3) | exact absurd z.2 (Int32.not_le.mpr c3) | exact absurd z.2 c3)]; exact ⟨rfl, hB, Fr.rf⟩)
set_option maxRecDepth 100000 in
set_option maxHeartbeats 4000000 in
theorem c_X3_failedCommand (l : Launch) (hl : l.stackTraces = false) (Γ : Gm) (M : Hp) (A : Nat → Nat) (w : PV) (hB : BRep Γ A w M) (hI : BInv w) : Ct l Γ yX3_failedCommand cX3_failedCommand 1 (some .int) 0 3 18 [.ref (A 313)] M (BMu Γ A (pFailedCommand w) M) := by
  refine Ct.of hl (by decide) (Nat.le_of_ble_eq_true rfl) rfl ?_
  intro κ e1 e2 hnL hRm X F hlt
  subst e1 e2
  refine g_aload_n X dX3_failedCommand_0 rfl 0 rfl ?_
  refine g_get X dX3_failedCommand_1 (ci := 3) (k := 9) (v := .int (w.2.2.2.2 4)) rfl k163 (by decide) rfl (BRep.obj hB) rfl ?_
  refine g_iconst (v := (-1)) X dX3_failedCommand_4 (by decide) ?_
  refine g_icmp_ne (tgt := 16) X dX3_failedCommand_5 (by decide) (fun c1 => ?_) (fun c1 => ?_)
  · refine g_aload_n X dX3_failedCommand_16 rfl 0 rfl ?_
    refine g_get X dX3_failedCommand_17 (ci := 3) (k := 9) (v := .int (w.2.2.2.2 4)) rfl k163 (by decide) rfl (BRep.obj hB) rfl ?_
    exact g_iret X F dX3_failedCommand_20 (Nat.le_of_ble_eq_true rfl) (Nat.le_of_ble_eq_true rfl) (by unfold pFailedCommand; rw [pG_y c1]; exact ⟨rfl, hB, Fr.rf⟩)
  · exact g_throw X F (ik := 152) (ic := 154) (cls := "java/util/NoSuchElementException") dX3_failedCommand_8 dX3_failedCommand_11 dX3_failedCommand_12 dX3_failedCommand_15 (by decide +kernel) (by rw [hRm]; decide) (by rw [hRm]; exact Nat.le_of_ble_eq_true rfl) (by rw [hRm]; exact Nat.le_of_ble_eq_true rfl) (by rw [hRm]; exact Nat.le_of_ble_eq_true rfl) (Nat.le_of_ble_eq_true rfl) (Nat.le_of_ble_eq_true rfl) (by unfold pFailedCommand; rw [pG_n (fun z => z c1)]; exact ⟨rfl, hB, Fr.rf⟩)
set_option maxRecDepth 100000 in
set_option maxHeartbeats 4000000 in
theorem c_X3_strongestWard (l : Launch) (hl : l.stackTraces = false) (Γ : Gm) (M : Hp) (A : Nat → Nat) (w : PV) (hB : BRep Γ A w M) (hI : BInv w) : Ct l Γ yX3_strongestWard cX3_strongestWard 3 (some .int) 2 3 18 [.ref (A 313)] M (BMu Γ A (pStrongestWard w) M) := by
  refine Ct.of hl (by decide) (Nat.le_of_ble_eq_true rfl) rfl ?_
  intro κ e1 e2 hnL hRm X F hlt
  subst e1 e2
  refine g_iconst (v := 0) X dX3_strongestWard_0 (by decide) ?_
  refine g_istore_n (L' := [(1, .int 0), (0, .ref (A 313))]) X dX3_strongestWard_1 rfl (by rw [hnL]; decide) rfl ?_
  refine g_iconst (v := 1) X dX3_strongestWard_2 (by decide) ?_
  refine g_istore_n (L' := [(2, .int 1), (1, .int 0), (0, .ref (A 313))]) X dX3_strongestWard_3 rfl (by rw [hnL]; decide) rfl ?_
  refine g_iload_n X dX3_strongestWard_4 rfl 0 rfl ?_
  refine g_iconst (v := 4) X dX3_strongestWard_5 (by decide) ?_
  refine g_icmp_ge (tgt := 36) X dX3_strongestWard_6 (by decide) (fun c1 => absurd c1 (by decide)) (fun c1 => ?_)
  refine g_aload_n X dX3_strongestWard_9 rfl 2 rfl ?_
  refine g_get X dX3_strongestWard_10 (ci := 3) (k := 0) (v := .ref (hA A 0 0)) rfl k154 (by decide) rfl (BRep.obj hB) rfl ?_
  refine g_iload_n X dX3_strongestWard_13 rfl 0 rfl ?_
  refine g_callV_rd (As := [.int 1]) (ci := 1) (v := some (.int (hWW (w.1 0) 1))) X dX3_strongestWard_14 (c_X1_weightInWard κ.l hl κ.Γ M (hA A 0) (w.1 0) (hB.1 0 (by decide)) 1) k218 k219 k220 k2 k221 rfl (hB.1 0 (by decide)).obj ⟨rfl, by decide, by decide, (show (parseMethodDescriptor yX1_weightInWard.desc).map (fun d => d.parameters.length) = some 1 by decide +kernel)⟩ rfl (Nat.le_of_ble_eq_true rfl) (by rw [hRm]; decide) (by rw [hRm]; exact ⟨Nat.le_of_ble_eq_true rfl, Nat.le_of_ble_eq_true rfl⟩) ?_
  refine g_aload_n X dX3_strongestWard_17 rfl 2 rfl ?_
  refine g_get X dX3_strongestWard_18 (ci := 3) (k := 0) (v := .ref (hA A 0 0)) rfl k154 (by decide) rfl (BRep.obj hB) rfl ?_
  refine g_iload_n X dX3_strongestWard_21 rfl 1 rfl ?_
  refine g_callV_rd (As := [.int 0]) (ci := 1) (v := some (.int (hWW (w.1 0) 0))) X dX3_strongestWard_22 (c_X1_weightInWard κ.l hl κ.Γ M (hA A 0) (w.1 0) (hB.1 0 (by decide)) 0) k218 k219 k220 k2 k221 rfl (hB.1 0 (by decide)).obj ⟨rfl, by decide, by decide, (show (parseMethodDescriptor yX1_weightInWard.desc).map (fun d => d.parameters.length) = some 1 by decide +kernel)⟩ rfl (Nat.le_of_ble_eq_true rfl) (by rw [hRm]; decide) (by rw [hRm]; exact ⟨Nat.le_of_ble_eq_true rfl, Nat.le_of_ble_eq_true rfl⟩) ?_
  refine g_icmp_le (tgt := 30) X dX3_strongestWard_25 (by decide) (fun c2 => ?_) (fun c2 => ?_)
  · have q3 : sw1 (w.1 0) = 0 := by unfold sw1; exact if_neg (Int32.not_lt.mpr c2)
    refine g_iinc (k := 0) (v := 2) (L' := [(2, .int 2), (1, .int 0), (0, .ref (A 313))]) X dX3_strongestWard_30 rfl (by decide) (by rw [hnL]; decide) rfl ?_
    refine g_goto (tgt := 4) X dX3_strongestWard_33 (by decide) ?_
    refine g_iload_n X dX3_strongestWard_4 rfl 0 rfl ?_
    refine g_iconst (v := 4) X dX3_strongestWard_5 (by decide) ?_
    refine g_icmp_ge (tgt := 36) X dX3_strongestWard_6 (by decide) (fun c4 => absurd c4 (by decide)) (fun c4 => ?_)
    refine g_aload_n X dX3_strongestWard_9 rfl 2 rfl ?_
    refine g_get X dX3_strongestWard_10 (ci := 3) (k := 0) (v := .ref (hA A 0 0)) rfl k154 (by decide) rfl (BRep.obj hB) rfl ?_
    refine g_iload_n X dX3_strongestWard_13 rfl 0 rfl ?_
    refine g_callV_rd (As := [.int 2]) (ci := 1) (v := some (.int (hWW (w.1 0) 2))) X dX3_strongestWard_14 (c_X1_weightInWard κ.l hl κ.Γ M (hA A 0) (w.1 0) (hB.1 0 (by decide)) 2) k218 k219 k220 k2 k221 rfl (hB.1 0 (by decide)).obj ⟨rfl, by decide, by decide, (show (parseMethodDescriptor yX1_weightInWard.desc).map (fun d => d.parameters.length) = some 1 by decide +kernel)⟩ rfl (Nat.le_of_ble_eq_true rfl) (by rw [hRm]; decide) (by rw [hRm]; exact ⟨Nat.le_of_ble_eq_true rfl, Nat.le_of_ble_eq_true rfl⟩) ?_
    refine g_aload_n X dX3_strongestWard_17 rfl 2 rfl ?_
    refine g_get X dX3_strongestWard_18 (ci := 3) (k := 0) (v := .ref (hA A 0 0)) rfl k154 (by decide) rfl (BRep.obj hB) rfl ?_
    refine g_iload_n X dX3_strongestWard_21 rfl 1 rfl ?_
    refine g_callV_rd (As := [.int 0]) (ci := 1) (v := some (.int (hWW (w.1 0) 0))) X dX3_strongestWard_22 (c_X1_weightInWard κ.l hl κ.Γ M (hA A 0) (w.1 0) (hB.1 0 (by decide)) 0) k218 k219 k220 k2 k221 rfl (hB.1 0 (by decide)).obj ⟨rfl, by decide, by decide, (show (parseMethodDescriptor yX1_weightInWard.desc).map (fun d => d.parameters.length) = some 1 by decide +kernel)⟩ rfl (Nat.le_of_ble_eq_true rfl) (by rw [hRm]; decide) (by rw [hRm]; exact ⟨Nat.le_of_ble_eq_true rfl, Nat.le_of_ble_eq_true rfl⟩) ?_
    refine g_icmp_le (tgt := 30) X dX3_strongestWard_25 (by decide) (fun c5 => ?_) (fun c5 => ?_)
    · have q6 : sw2 (w.1 0) = 0 := by unfold sw2; rw [q3]; exact if_neg (Int32.not_lt.mpr c5)
      refine g_iinc (k := 0) (v := 3) (L' := [(2, .int 3), (1, .int 0), (0, .ref (A 313))]) X dX3_strongestWard_30 rfl (by decide) (by rw [hnL]; decide) rfl ?_
      refine g_goto (tgt := 4) X dX3_strongestWard_33 (by decide) ?_
      refine g_iload_n X dX3_strongestWard_4 rfl 0 rfl ?_
      refine g_iconst (v := 4) X dX3_strongestWard_5 (by decide) ?_
      refine g_icmp_ge (tgt := 36) X dX3_strongestWard_6 (by decide) (fun c7 => absurd c7 (by decide)) (fun c7 => ?_)
      refine g_aload_n X dX3_strongestWard_9 rfl 2 rfl ?_
      refine g_get X dX3_strongestWard_10 (ci := 3) (k := 0) (v := .ref (hA A 0 0)) rfl k154 (by decide) rfl (BRep.obj hB) rfl ?_
      refine g_iload_n X dX3_strongestWard_13 rfl 0 rfl ?_
      refine g_callV_rd (As := [.int 3]) (ci := 1) (v := some (.int (hWW (w.1 0) 3))) X dX3_strongestWard_14 (c_X1_weightInWard κ.l hl κ.Γ M (hA A 0) (w.1 0) (hB.1 0 (by decide)) 3) k218 k219 k220 k2 k221 rfl (hB.1 0 (by decide)).obj ⟨rfl, by decide, by decide, (show (parseMethodDescriptor yX1_weightInWard.desc).map (fun d => d.parameters.length) = some 1 by decide +kernel)⟩ rfl (Nat.le_of_ble_eq_true rfl) (by rw [hRm]; decide) (by rw [hRm]; exact ⟨Nat.le_of_ble_eq_true rfl, Nat.le_of_ble_eq_true rfl⟩) ?_
      refine g_aload_n X dX3_strongestWard_17 rfl 2 rfl ?_
      refine g_get X dX3_strongestWard_18 (ci := 3) (k := 0) (v := .ref (hA A 0 0)) rfl k154 (by decide) rfl (BRep.obj hB) rfl ?_
      refine g_iload_n X dX3_strongestWard_21 rfl 1 rfl ?_
      refine g_callV_rd (As := [.int 0]) (ci := 1) (v := some (.int (hWW (w.1 0) 0))) X dX3_strongestWard_22 (c_X1_weightInWard κ.l hl κ.Γ M (hA A 0) (w.1 0) (hB.1 0 (by decide)) 0) k218 k219 k220 k2 k221 rfl (hB.1 0 (by decide)).obj ⟨rfl, by decide, by decide, (show (parseMethodDescriptor yX1_weightInWard.desc).map (fun d => d.parameters.length) = some 1 by decide +kernel)⟩ rfl (Nat.le_of_ble_eq_true rfl) (by rw [hRm]; decide) (by rw [hRm]; exact ⟨Nat.le_of_ble_eq_true rfl, Nat.le_of_ble_eq_true rfl⟩) ?_
      refine g_icmp_le (tgt := 30) X dX3_strongestWard_25 (by decide) (fun c8 => ?_) (fun c8 => ?_)
      · have q9 : sw3 (w.1 0) = 0 := by unfold sw3; rw [q6]; exact if_neg (Int32.not_lt.mpr c8)
        refine g_iinc (k := 0) (v := 4) (L' := [(2, .int 4), (1, .int 0), (0, .ref (A 313))]) X dX3_strongestWard_30 rfl (by decide) (by rw [hnL]; decide) rfl ?_
        refine g_goto (tgt := 4) X dX3_strongestWard_33 (by decide) ?_
        refine g_iload_n X dX3_strongestWard_4 rfl 0 rfl ?_
        refine g_iconst (v := 4) X dX3_strongestWard_5 (by decide) ?_
        refine g_icmp_ge (tgt := 36) X dX3_strongestWard_6 (by decide) (fun c10 => ?_) (fun c10 => absurd c10 (by decide))
        refine g_iload_n X dX3_strongestWard_36 rfl 1 rfl ?_
        exact g_iret X F dX3_strongestWard_37 (Nat.le_of_ble_eq_true rfl) (Nat.le_of_ble_eq_true rfl) (by unfold pStrongestWard; rw [q9]; exact ⟨rfl, hB, Fr.rf⟩)
      · refine g_iload_n X dX3_strongestWard_28 rfl 0 rfl ?_
        refine g_istore_n (L' := [(1, .int 3), (2, .int 3), (0, .ref (A 313))]) X dX3_strongestWard_29 rfl (by rw [hnL]; decide) rfl ?_
        have q11 : sw3 (w.1 0) = 3 := by unfold sw3; rw [q6]; exact if_pos (Int32.not_le.mp c8)
        refine g_iinc (k := 1) (v := 4) (L' := [(2, .int 4), (1, .int 3), (0, .ref (A 313))]) X dX3_strongestWard_30 rfl (by decide) (by rw [hnL]; decide) rfl ?_
        refine g_goto (tgt := 4) X dX3_strongestWard_33 (by decide) ?_
        refine g_iload_n X dX3_strongestWard_4 rfl 0 rfl ?_
        refine g_iconst (v := 4) X dX3_strongestWard_5 (by decide) ?_
        refine g_icmp_ge (tgt := 36) X dX3_strongestWard_6 (by decide) (fun c12 => ?_) (fun c12 => absurd c12 (by decide))
        refine g_iload_n X dX3_strongestWard_36 rfl 1 rfl ?_
        exact g_iret X F dX3_strongestWard_37 (Nat.le_of_ble_eq_true rfl) (Nat.le_of_ble_eq_true rfl) (by unfold pStrongestWard; rw [q11]; exact ⟨rfl, hB, Fr.rf⟩)
    · refine g_iload_n X dX3_strongestWard_28 rfl 0 rfl ?_
      refine g_istore_n (L' := [(1, .int 2), (2, .int 2), (0, .ref (A 313))]) X dX3_strongestWard_29 rfl (by rw [hnL]; decide) rfl ?_
      have q13 : sw2 (w.1 0) = 2 := by unfold sw2; rw [q3]; exact if_pos (Int32.not_le.mp c5)
      refine g_iinc (k := 1) (v := 3) (L' := [(2, .int 3), (1, .int 2), (0, .ref (A 313))]) X dX3_strongestWard_30 rfl (by decide) (by rw [hnL]; decide) rfl ?_
      refine g_goto (tgt := 4) X dX3_strongestWard_33 (by decide) ?_
      refine g_iload_n X dX3_strongestWard_4 rfl 0 rfl ?_
      refine g_iconst (v := 4) X dX3_strongestWard_5 (by decide) ?_
      refine g_icmp_ge (tgt := 36) X dX3_strongestWard_6 (by decide) (fun c14 => absurd c14 (by decide)) (fun c14 => ?_)
      refine g_aload_n X dX3_strongestWard_9 rfl 2 rfl ?_
      refine g_get X dX3_strongestWard_10 (ci := 3) (k := 0) (v := .ref (hA A 0 0)) rfl k154 (by decide) rfl (BRep.obj hB) rfl ?_
      refine g_iload_n X dX3_strongestWard_13 rfl 0 rfl ?_
      refine g_callV_rd (As := [.int 3]) (ci := 1) (v := some (.int (hWW (w.1 0) 3))) X dX3_strongestWard_14 (c_X1_weightInWard κ.l hl κ.Γ M (hA A 0) (w.1 0) (hB.1 0 (by decide)) 3) k218 k219 k220 k2 k221 rfl (hB.1 0 (by decide)).obj ⟨rfl, by decide, by decide, (show (parseMethodDescriptor yX1_weightInWard.desc).map (fun d => d.parameters.length) = some 1 by decide +kernel)⟩ rfl (Nat.le_of_ble_eq_true rfl) (by rw [hRm]; decide) (by rw [hRm]; exact ⟨Nat.le_of_ble_eq_true rfl, Nat.le_of_ble_eq_true rfl⟩) ?_
      refine g_aload_n X dX3_strongestWard_17 rfl 2 rfl ?_
      refine g_get X dX3_strongestWard_18 (ci := 3) (k := 0) (v := .ref (hA A 0 0)) rfl k154 (by decide) rfl (BRep.obj hB) rfl ?_
      refine g_iload_n X dX3_strongestWard_21 rfl 1 rfl ?_
      refine g_callV_rd (As := [.int 2]) (ci := 1) (v := some (.int (hWW (w.1 0) 2))) X dX3_strongestWard_22 (c_X1_weightInWard κ.l hl κ.Γ M (hA A 0) (w.1 0) (hB.1 0 (by decide)) 2) k218 k219 k220 k2 k221 rfl (hB.1 0 (by decide)).obj ⟨rfl, by decide, by decide, (show (parseMethodDescriptor yX1_weightInWard.desc).map (fun d => d.parameters.length) = some 1 by decide +kernel)⟩ rfl (Nat.le_of_ble_eq_true rfl) (by rw [hRm]; decide) (by rw [hRm]; exact ⟨Nat.le_of_ble_eq_true rfl, Nat.le_of_ble_eq_true rfl⟩) ?_
      refine g_icmp_le (tgt := 30) X dX3_strongestWard_25 (by decide) (fun c15 => ?_) (fun c15 => ?_)
      · have q16 : sw3 (w.1 0) = 2 := by unfold sw3; rw [q13]; exact if_neg (Int32.not_lt.mpr c15)
        refine g_iinc (k := 0) (v := 4) (L' := [(2, .int 4), (1, .int 2), (0, .ref (A 313))]) X dX3_strongestWard_30 rfl (by decide) (by rw [hnL]; decide) rfl ?_
        refine g_goto (tgt := 4) X dX3_strongestWard_33 (by decide) ?_
        refine g_iload_n X dX3_strongestWard_4 rfl 0 rfl ?_
        refine g_iconst (v := 4) X dX3_strongestWard_5 (by decide) ?_
        refine g_icmp_ge (tgt := 36) X dX3_strongestWard_6 (by decide) (fun c17 => ?_) (fun c17 => absurd c17 (by decide))
        refine g_iload_n X dX3_strongestWard_36 rfl 1 rfl ?_
        exact g_iret X F dX3_strongestWard_37 (Nat.le_of_ble_eq_true rfl) (Nat.le_of_ble_eq_true rfl) (by unfold pStrongestWard; rw [q16]; exact ⟨rfl, hB, Fr.rf⟩)
      · refine g_iload_n X dX3_strongestWard_28 rfl 0 rfl ?_
        refine g_istore_n (L' := [(1, .int 3), (2, .int 3), (0, .ref (A 313))]) X dX3_strongestWard_29 rfl (by rw [hnL]; decide) rfl ?_
        have q18 : sw3 (w.1 0) = 3 := by unfold sw3; rw [q13]; exact if_pos (Int32.not_le.mp c15)
        refine g_iinc (k := 1) (v := 4) (L' := [(2, .int 4), (1, .int 3), (0, .ref (A 313))]) X dX3_strongestWard_30 rfl (by decide) (by rw [hnL]; decide) rfl ?_
        refine g_goto (tgt := 4) X dX3_strongestWard_33 (by decide) ?_
        refine g_iload_n X dX3_strongestWard_4 rfl 0 rfl ?_
        refine g_iconst (v := 4) X dX3_strongestWard_5 (by decide) ?_
        refine g_icmp_ge (tgt := 36) X dX3_strongestWard_6 (by decide) (fun c19 => ?_) (fun c19 => absurd c19 (by decide))
        refine g_iload_n X dX3_strongestWard_36 rfl 1 rfl ?_
        exact g_iret X F dX3_strongestWard_37 (Nat.le_of_ble_eq_true rfl) (Nat.le_of_ble_eq_true rfl) (by unfold pStrongestWard; rw [q18]; exact ⟨rfl, hB, Fr.rf⟩)
  · refine g_iload_n X dX3_strongestWard_28 rfl 0 rfl ?_
    refine g_istore_n (L' := [(1, .int 1), (2, .int 1), (0, .ref (A 313))]) X dX3_strongestWard_29 rfl (by rw [hnL]; decide) rfl ?_
    have q20 : sw1 (w.1 0) = 1 := by unfold sw1; exact if_pos (Int32.not_le.mp c2)
    refine g_iinc (k := 1) (v := 2) (L' := [(2, .int 2), (1, .int 1), (0, .ref (A 313))]) X dX3_strongestWard_30 rfl (by decide) (by rw [hnL]; decide) rfl ?_
    refine g_goto (tgt := 4) X dX3_strongestWard_33 (by decide) ?_
    refine g_iload_n X dX3_strongestWard_4 rfl 0 rfl ?_
    refine g_iconst (v := 4) X dX3_strongestWard_5 (by decide) ?_
    refine g_icmp_ge (tgt := 36) X dX3_strongestWard_6 (by decide) (fun c21 => absurd c21 (by decide)) (fun c21 => ?_)
    refine g_aload_n X dX3_strongestWard_9 rfl 2 rfl ?_
    refine g_get X dX3_strongestWard_10 (ci := 3) (k := 0) (v := .ref (hA A 0 0)) rfl k154 (by decide) rfl (BRep.obj hB) rfl ?_
    refine g_iload_n X dX3_strongestWard_13 rfl 0 rfl ?_
    refine g_callV_rd (As := [.int 2]) (ci := 1) (v := some (.int (hWW (w.1 0) 2))) X dX3_strongestWard_14 (c_X1_weightInWard κ.l hl κ.Γ M (hA A 0) (w.1 0) (hB.1 0 (by decide)) 2) k218 k219 k220 k2 k221 rfl (hB.1 0 (by decide)).obj ⟨rfl, by decide, by decide, (show (parseMethodDescriptor yX1_weightInWard.desc).map (fun d => d.parameters.length) = some 1 by decide +kernel)⟩ rfl (Nat.le_of_ble_eq_true rfl) (by rw [hRm]; decide) (by rw [hRm]; exact ⟨Nat.le_of_ble_eq_true rfl, Nat.le_of_ble_eq_true rfl⟩) ?_
    refine g_aload_n X dX3_strongestWard_17 rfl 2 rfl ?_
    refine g_get X dX3_strongestWard_18 (ci := 3) (k := 0) (v := .ref (hA A 0 0)) rfl k154 (by decide) rfl (BRep.obj hB) rfl ?_
    refine g_iload_n X dX3_strongestWard_21 rfl 1 rfl ?_
    refine g_callV_rd (As := [.int 1]) (ci := 1) (v := some (.int (hWW (w.1 0) 1))) X dX3_strongestWard_22 (c_X1_weightInWard κ.l hl κ.Γ M (hA A 0) (w.1 0) (hB.1 0 (by decide)) 1) k218 k219 k220 k2 k221 rfl (hB.1 0 (by decide)).obj ⟨rfl, by decide, by decide, (show (parseMethodDescriptor yX1_weightInWard.desc).map (fun d => d.parameters.length) = some 1 by decide +kernel)⟩ rfl (Nat.le_of_ble_eq_true rfl) (by rw [hRm]; decide) (by rw [hRm]; exact ⟨Nat.le_of_ble_eq_true rfl, Nat.le_of_ble_eq_true rfl⟩) ?_
    refine g_icmp_le (tgt := 30) X dX3_strongestWard_25 (by decide) (fun c22 => ?_) (fun c22 => ?_)
    · have q23 : sw2 (w.1 0) = 1 := by unfold sw2; rw [q20]; exact if_neg (Int32.not_lt.mpr c22)
      refine g_iinc (k := 0) (v := 3) (L' := [(2, .int 3), (1, .int 1), (0, .ref (A 313))]) X dX3_strongestWard_30 rfl (by decide) (by rw [hnL]; decide) rfl ?_
      refine g_goto (tgt := 4) X dX3_strongestWard_33 (by decide) ?_
      refine g_iload_n X dX3_strongestWard_4 rfl 0 rfl ?_
      refine g_iconst (v := 4) X dX3_strongestWard_5 (by decide) ?_
      refine g_icmp_ge (tgt := 36) X dX3_strongestWard_6 (by decide) (fun c24 => absurd c24 (by decide)) (fun c24 => ?_)
      refine g_aload_n X dX3_strongestWard_9 rfl 2 rfl ?_
      refine g_get X dX3_strongestWard_10 (ci := 3) (k := 0) (v := .ref (hA A 0 0)) rfl k154 (by decide) rfl (BRep.obj hB) rfl ?_
      refine g_iload_n X dX3_strongestWard_13 rfl 0 rfl ?_
      refine g_callV_rd (As := [.int 3]) (ci := 1) (v := some (.int (hWW (w.1 0) 3))) X dX3_strongestWard_14 (c_X1_weightInWard κ.l hl κ.Γ M (hA A 0) (w.1 0) (hB.1 0 (by decide)) 3) k218 k219 k220 k2 k221 rfl (hB.1 0 (by decide)).obj ⟨rfl, by decide, by decide, (show (parseMethodDescriptor yX1_weightInWard.desc).map (fun d => d.parameters.length) = some 1 by decide +kernel)⟩ rfl (Nat.le_of_ble_eq_true rfl) (by rw [hRm]; decide) (by rw [hRm]; exact ⟨Nat.le_of_ble_eq_true rfl, Nat.le_of_ble_eq_true rfl⟩) ?_
      refine g_aload_n X dX3_strongestWard_17 rfl 2 rfl ?_
      refine g_get X dX3_strongestWard_18 (ci := 3) (k := 0) (v := .ref (hA A 0 0)) rfl k154 (by decide) rfl (BRep.obj hB) rfl ?_
      refine g_iload_n X dX3_strongestWard_21 rfl 1 rfl ?_
      refine g_callV_rd (As := [.int 1]) (ci := 1) (v := some (.int (hWW (w.1 0) 1))) X dX3_strongestWard_22 (c_X1_weightInWard κ.l hl κ.Γ M (hA A 0) (w.1 0) (hB.1 0 (by decide)) 1) k218 k219 k220 k2 k221 rfl (hB.1 0 (by decide)).obj ⟨rfl, by decide, by decide, (show (parseMethodDescriptor yX1_weightInWard.desc).map (fun d => d.parameters.length) = some 1 by decide +kernel)⟩ rfl (Nat.le_of_ble_eq_true rfl) (by rw [hRm]; decide) (by rw [hRm]; exact ⟨Nat.le_of_ble_eq_true rfl, Nat.le_of_ble_eq_true rfl⟩) ?_
      refine g_icmp_le (tgt := 30) X dX3_strongestWard_25 (by decide) (fun c25 => ?_) (fun c25 => ?_)
      · have q26 : sw3 (w.1 0) = 1 := by unfold sw3; rw [q23]; exact if_neg (Int32.not_lt.mpr c25)
        refine g_iinc (k := 0) (v := 4) (L' := [(2, .int 4), (1, .int 1), (0, .ref (A 313))]) X dX3_strongestWard_30 rfl (by decide) (by rw [hnL]; decide) rfl ?_
        refine g_goto (tgt := 4) X dX3_strongestWard_33 (by decide) ?_
        refine g_iload_n X dX3_strongestWard_4 rfl 0 rfl ?_
        refine g_iconst (v := 4) X dX3_strongestWard_5 (by decide) ?_
        refine g_icmp_ge (tgt := 36) X dX3_strongestWard_6 (by decide) (fun c27 => ?_) (fun c27 => absurd c27 (by decide))
        refine g_iload_n X dX3_strongestWard_36 rfl 1 rfl ?_
        exact g_iret X F dX3_strongestWard_37 (Nat.le_of_ble_eq_true rfl) (Nat.le_of_ble_eq_true rfl) (by unfold pStrongestWard; rw [q26]; exact ⟨rfl, hB, Fr.rf⟩)
      · refine g_iload_n X dX3_strongestWard_28 rfl 0 rfl ?_
        refine g_istore_n (L' := [(1, .int 3), (2, .int 3), (0, .ref (A 313))]) X dX3_strongestWard_29 rfl (by rw [hnL]; decide) rfl ?_
        have q28 : sw3 (w.1 0) = 3 := by unfold sw3; rw [q23]; exact if_pos (Int32.not_le.mp c25)
        refine g_iinc (k := 1) (v := 4) (L' := [(2, .int 4), (1, .int 3), (0, .ref (A 313))]) X dX3_strongestWard_30 rfl (by decide) (by rw [hnL]; decide) rfl ?_
        refine g_goto (tgt := 4) X dX3_strongestWard_33 (by decide) ?_
        refine g_iload_n X dX3_strongestWard_4 rfl 0 rfl ?_
        refine g_iconst (v := 4) X dX3_strongestWard_5 (by decide) ?_
        refine g_icmp_ge (tgt := 36) X dX3_strongestWard_6 (by decide) (fun c29 => ?_) (fun c29 => absurd c29 (by decide))
        refine g_iload_n X dX3_strongestWard_36 rfl 1 rfl ?_
        exact g_iret X F dX3_strongestWard_37 (Nat.le_of_ble_eq_true rfl) (Nat.le_of_ble_eq_true rfl) (by unfold pStrongestWard; rw [q28]; exact ⟨rfl, hB, Fr.rf⟩)
    · refine g_iload_n X dX3_strongestWard_28 rfl 0 rfl ?_
      refine g_istore_n (L' := [(1, .int 2), (2, .int 2), (0, .ref (A 313))]) X dX3_strongestWard_29 rfl (by rw [hnL]; decide) rfl ?_
      have q30 : sw2 (w.1 0) = 2 := by unfold sw2; rw [q20]; exact if_pos (Int32.not_le.mp c22)
      refine g_iinc (k := 1) (v := 3) (L' := [(2, .int 3), (1, .int 2), (0, .ref (A 313))]) X dX3_strongestWard_30 rfl (by decide) (by rw [hnL]; decide) rfl ?_
      refine g_goto (tgt := 4) X dX3_strongestWard_33 (by decide) ?_
      refine g_iload_n X dX3_strongestWard_4 rfl 0 rfl ?_
      refine g_iconst (v := 4) X dX3_strongestWard_5 (by decide) ?_
      refine g_icmp_ge (tgt := 36) X dX3_strongestWard_6 (by decide) (fun c31 => absurd c31 (by decide)) (fun c31 => ?_)
      refine g_aload_n X dX3_strongestWard_9 rfl 2 rfl ?_
      refine g_get X dX3_strongestWard_10 (ci := 3) (k := 0) (v := .ref (hA A 0 0)) rfl k154 (by decide) rfl (BRep.obj hB) rfl ?_
      refine g_iload_n X dX3_strongestWard_13 rfl 0 rfl ?_
      refine g_callV_rd (As := [.int 3]) (ci := 1) (v := some (.int (hWW (w.1 0) 3))) X dX3_strongestWard_14 (c_X1_weightInWard κ.l hl κ.Γ M (hA A 0) (w.1 0) (hB.1 0 (by decide)) 3) k218 k219 k220 k2 k221 rfl (hB.1 0 (by decide)).obj ⟨rfl, by decide, by decide, (show (parseMethodDescriptor yX1_weightInWard.desc).map (fun d => d.parameters.length) = some 1 by decide +kernel)⟩ rfl (Nat.le_of_ble_eq_true rfl) (by rw [hRm]; decide) (by rw [hRm]; exact ⟨Nat.le_of_ble_eq_true rfl, Nat.le_of_ble_eq_true rfl⟩) ?_
      refine g_aload_n X dX3_strongestWard_17 rfl 2 rfl ?_
      refine g_get X dX3_strongestWard_18 (ci := 3) (k := 0) (v := .ref (hA A 0 0)) rfl k154 (by decide) rfl (BRep.obj hB) rfl ?_
      refine g_iload_n X dX3_strongestWard_21 rfl 1 rfl ?_
      refine g_callV_rd (As := [.int 2]) (ci := 1) (v := some (.int (hWW (w.1 0) 2))) X dX3_strongestWard_22 (c_X1_weightInWard κ.l hl κ.Γ M (hA A 0) (w.1 0) (hB.1 0 (by decide)) 2) k218 k219 k220 k2 k221 rfl (hB.1 0 (by decide)).obj ⟨rfl, by decide, by decide, (show (parseMethodDescriptor yX1_weightInWard.desc).map (fun d => d.parameters.length) = some 1 by decide +kernel)⟩ rfl (Nat.le_of_ble_eq_true rfl) (by rw [hRm]; decide) (by rw [hRm]; exact ⟨Nat.le_of_ble_eq_true rfl, Nat.le_of_ble_eq_true rfl⟩) ?_
      refine g_icmp_le (tgt := 30) X dX3_strongestWard_25 (by decide) (fun c32 => ?_) (fun c32 => ?_)
      · have q33 : sw3 (w.1 0) = 2 := by unfold sw3; rw [q30]; exact if_neg (Int32.not_lt.mpr c32)
        refine g_iinc (k := 0) (v := 4) (L' := [(2, .int 4), (1, .int 2), (0, .ref (A 313))]) X dX3_strongestWard_30 rfl (by decide) (by rw [hnL]; decide) rfl ?_
        refine g_goto (tgt := 4) X dX3_strongestWard_33 (by decide) ?_
        refine g_iload_n X dX3_strongestWard_4 rfl 0 rfl ?_
        refine g_iconst (v := 4) X dX3_strongestWard_5 (by decide) ?_
        refine g_icmp_ge (tgt := 36) X dX3_strongestWard_6 (by decide) (fun c34 => ?_) (fun c34 => absurd c34 (by decide))
        refine g_iload_n X dX3_strongestWard_36 rfl 1 rfl ?_
        exact g_iret X F dX3_strongestWard_37 (Nat.le_of_ble_eq_true rfl) (Nat.le_of_ble_eq_true rfl) (by unfold pStrongestWard; rw [q33]; exact ⟨rfl, hB, Fr.rf⟩)
      · refine g_iload_n X dX3_strongestWard_28 rfl 0 rfl ?_
        refine g_istore_n (L' := [(1, .int 3), (2, .int 3), (0, .ref (A 313))]) X dX3_strongestWard_29 rfl (by rw [hnL]; decide) rfl ?_
        have q35 : sw3 (w.1 0) = 3 := by unfold sw3; rw [q30]; exact if_pos (Int32.not_le.mp c32)
        refine g_iinc (k := 1) (v := 4) (L' := [(2, .int 4), (1, .int 3), (0, .ref (A 313))]) X dX3_strongestWard_30 rfl (by decide) (by rw [hnL]; decide) rfl ?_
        refine g_goto (tgt := 4) X dX3_strongestWard_33 (by decide) ?_
        refine g_iload_n X dX3_strongestWard_4 rfl 0 rfl ?_
        refine g_iconst (v := 4) X dX3_strongestWard_5 (by decide) ?_
        refine g_icmp_ge (tgt := 36) X dX3_strongestWard_6 (by decide) (fun c36 => ?_) (fun c36 => absurd c36 (by decide))
        refine g_iload_n X dX3_strongestWard_36 rfl 1 rfl ?_
        exact g_iret X F dX3_strongestWard_37 (Nat.le_of_ble_eq_true rfl) (Nat.le_of_ble_eq_true rfl) (by unfold pStrongestWard; rw [q35]; exact ⟨rfl, hB, Fr.rf⟩)
