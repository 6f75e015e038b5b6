/-! what follows where nothing stands against a change -/
theorem ok0_s {c : Prop} [Decidable c] {k f : Int32} (hk : k ∈ ([1, 2, 3, 4, 5] : List Int32)) (h : ok0 (if c then k else f)) : ¬ c ∧ ok0 f := by
  by_cases q : c
  · rw [if_pos q] at h; exact absurd rfl (h k hk)
  · rw [if_neg q] at h; exact ⟨q, h⟩
theorem ok0_z {c : Prop} [Decidable c] {k : Int32} (hk : k ∈ ([1, 2, 3, 4, 5] : List Int32)) (h : ok0 (if c then 0 else k)) : c := by
  by_cases q : c
  · exact q
  · rw [if_neg q] at h; exact absurd rfl (h k hk)
theorem vin_of {x : Int32} {n : Nat} (h0 : 0 ≤ x) {y : Int32} (h1 : x < y) (hy : y.toInt ≤ n) : vp_in x n := vp_in_iff.mpr (by
  have h2 := Int32.le_iff_toInt_le.mp h0
  have h3 := Int32.lt_iff_toInt_lt.mp h1
  have e1 : (0 : Int32).toInt = 0 := rfl
  omega)
theorem fAdmit_ok {u : HV} (hI : HInv u) {a b : Int32} (h : ok0 (fAdmit u a b)) : vp_in (u.1 0) 24 := by
  obtain ⟨-, h⟩ := ok0_s (by decide) h
  obtain ⟨-, h⟩ := ok0_s (by decide) h
  obtain ⟨h, -⟩ := ok0_s (by decide) h
  exact vin_of hI.1.1 (Int32.not_le.mp h) (by decide)
theorem fBring_ok {u : HV} (hI : HInv u) {x f l : Int32} (h : ok0 (fBring u x f l)) : vp_in (u.1 3) 8 := by
  obtain ⟨-, h⟩ := ok0_s (by decide) h
  obtain ⟨-, h⟩ := ok0_s (by decide) h
  obtain ⟨h, -⟩ := ok0_s (by decide) h
  exact vin_of hI.2.1.1 (Int32.not_le.mp h) (by decide)
theorem or_n {p q : Prop} (h : ¬ (¬ p ∨ ¬ q)) : p ∧ q := ⟨Classical.not_not.mp fun z => h (Or.inl z), Classical.not_not.mp fun z => h (Or.inr z)⟩
theorem fVote_ok {u : HV} {b x : Int32} (h : ok0 (fVote u b x)) : hasB u b ∧ hasM u x := or_n (ok0_s (by decide) h).1
theorem fEnd_ok {u : HV} {b : Int32} (h : ok0 (fEnd u b)) : hasB u b := Classical.not_not.mp (ok0_s (by decide) h).1
theorem fMove_ok {u : HV} (hI : HInv u) {b x c : Int32} (h : ok0 (fMove u b x c)) : hasB u b ∧ vp_in (u.2.1 8 (cN b)) 4 := by
  obtain ⟨h1, h⟩ := ok0_s (by decide) h
  obtain ⟨h2, -⟩ := ok0_s (by decide) h
  have hb : hasB u b := Classical.not_not.mp fun z => h1 (Or.inl z)
  have h3 := hI.2.2 _ (vin_lt (hI.b hb))
  exact ⟨hb, vin_of h3.1 (Int32.not_le.mp fun z => h2 (Or.inr z)) (by decide)⟩
theorem fSecond_ok {u : HV} (hI : HInv u) {b p x : Int32} (h : ok0 (fSecond u b p x)) : hasB u b ∧ vp_in p 4 := by
  obtain ⟨h1, h⟩ := ok0_s (by decide) h
  obtain ⟨-, h⟩ := ok0_s (by decide) h
  obtain ⟨h2, -⟩ := ok0_s (by decide) h
  have hb := (or_n h1).1
  exact ⟨hb, hI.p (hI.b hb) (Classical.not_not.mp h2)⟩
theorem fDecide_ok {u : HV} {b : Int32} (h : ok0 (fDecide u b)) : hasB u b := Classical.not_not.mp (ok0_s (by decide) h).1
theorem fHold_ok {u : HV} {x b n : Int32} (h : ok0 (fHold u x b n)) : hasB u b := (or_n (ok0_s (by decide) h).1).2
noncomputable def pCh (f : Int32) (w : PV) (r : Int32) (u' : HV) : Res × PV := pG (ok0 f) (exn f) w (rI r, wH (wRem w (w.1 0)) 0 u')
def sw1 (u : HV) : Int32 := if hWW u 0 < hWW u 1 then 1 else 0
def sw2 (u : HV) : Int32 := if hWW u (sw1 u) < hWW u 2 then 2 else sw1 u
def sw3 (u : HV) : Int32 := if hWW u (sw2 u) < hWW u 3 then 3 else sw2 u
noncomputable def pAddMember (w : PV) (x : Int32) (y : Int32) : Res × PV := pCh (fAdmit (w.1 0) x y) w ((w.1 0).1 0) (aAdmit (w.1 0) x y)
noncomputable def pEnter (w : PV) (x : Int32) : Res × PV := pCh (fComeIn (w.1 0) x) w (jbc ((aComeIn (w.1 0) x).1 1)) (aComeIn (w.1 0) x)
noncomputable def pLeave (w : PV) (x : Int32) : Res × PV := pCh (fGoOut (w.1 0) x) w (jbc ((aGoOut (w.1 0) x).1 1)) (aGoOut (w.1 0) x)
noncomputable def pIntroduce (w : PV) (x : Int32) (f : Int32) (la : Int32) : Res × PV := pCh (fBring (w.1 0) x f la) w ((w.1 0).1 3) (aBring (w.1 0) f la)
noncomputable def pVoteFor (w : PV) (b : Int32) (x : Int32) : Res × PV := pCh (fVote (w.1 0) b x) w (hW (aFor (w.1 0) b x) ((aFor (w.1 0) b x).2.1 6 (cN b))) (aFor (w.1 0) b x)
noncomputable def pVoteAgainst (w : PV) (b : Int32) (x : Int32) : Res × PV := pCh (fVote (w.1 0) b x) w (hW (aAgainst (w.1 0) b x) ((aAgainst (w.1 0) b x).2.1 7 (cN b))) (aAgainst (w.1 0) b x)
noncomputable def pCloseReading (w : PV) (b : Int32) : Res × PV := pCh (fEnd (w.1 0) b) w (bI (sucE (w.1 0) b)) (aEnd (w.1 0) b)
noncomputable def pPropose (w : PV) (b : Int32) (x : Int32) (c : Int32) : Res × PV := pCh (fMove (w.1 0) b x c) w ((w.1 0).2.1 8 (cN b)) (aMove (w.1 0) b x c)
noncomputable def pSupport (w : PV) (b : Int32) (p : Int32) (x : Int32) : Res × PV := pCh (fSecond (w.1 0) b p x) w (hW (aSecond (w.1 0) b p x) ((aSecond (w.1 0) b p x).2.1 (20 + cN b) (cN p))) (aSecond (w.1 0) b p x)
noncomputable def pDecide (w : PV) (b : Int32) : Res × PV := pCh (fDecide (w.1 0) b) w (bI (accD (w.1 0) b)) (aDecide (w.1 0) b)
noncomputable def pRide (w : PV) (x : Int32) (b : Int32) (n : Int32) : Res × PV := pCh (fHold (w.1 0) x b n) w (hRust (aHold (w.1 0) b n) (cN b)) (aHold (w.1 0) b n)
noncomputable def pSetQuorum (w : PV) (n : Int32) : Res × PV := pCh (fQuorum n) w ((w.1 0).1 2) (aQuorum (w.1 0) n)
set_option maxRecDepth 100000 in
set_option maxHeartbeats 4000000 in
theorem c_X3_addMember (l : Launch) (hl : l.stackTraces = false) (Γ : Gm) (M : Hp) (A : Nat → Nat) (w : PV) (hB : BRep Γ A w M) (hI : BInv w) (x : Int32) (y : Int32) : Ct l Γ yX3_addMember cX3_addMember 3 (some .int) 2 3 18 [.ref (A 313), .int x, .int y] M (BMu Γ A (pAddMember w x y) M) := by
  refine Ct.of hl (by decide) (Nat.le_of_ble_eq_true rfl) rfl ?_
  intro κ e1 e2 hnL hRm X F hlt
  subst e1 e2
  refine g_aload_n X dX3_addMember_0 rfl 0 rfl ?_
  refine g_get X dX3_addMember_1 (ci := 3) (k := 0) (v := .ref (hA A 0 0)) rfl k154 (by decide) rfl (BRep.obj hB) rfl ?_
  refine g_iload_n X dX3_addMember_4 rfl 1 rfl ?_
  refine g_iload_n X dX3_addMember_5 rfl 2 rfl ?_
  refine g_callV_rd (As := [.int x, .int y]) (ci := 1) (v := some (.int (fAdmit (w.1 0) x y))) X dX3_addMember_6 (c_X1_faultOfAdmit κ.l hl κ.Γ M (hA A 0) (w.1 0) (hB.1 0 (by decide)) (hI.1 0 (by decide)) x y) k375 k376 k377 k2 k378 rfl (hB.1 0 (by decide)).obj ⟨rfl, by decide, by decide, (show (parseMethodDescriptor yX1_faultOfAdmit.desc).map (fun d => d.parameters.length) = some 2 by decide +kernel)⟩ rfl (Nat.le_of_ble_eq_true rfl) (by rw [hRm]; decide) (by rw [hRm]; exact ⟨Nat.le_of_ble_eq_true rfl, Nat.le_of_ble_eq_true rfl⟩) ?_
  refine g_gateS (As := [.int (fAdmit (w.1 0) x y)]) (ok := ok0 (fAdmit (w.1 0) x y)) (e := exn (fAdmit (w.1 0) x y)) X dX3_addMember_9 (c_X3_refuse κ.l hl κ.Γ M (fAdmit (w.1 0) x y)) k382 k383 k1 k384 ⟨by decide, by decide, (show (parseMethodDescriptor yX3_refuse.desc).map (fun d => d.parameters.length) = some 1 by decide +kernel)⟩ rfl (Nat.le_of_ble_eq_true rfl) (by rw [hRm]; decide) (by rw [hRm]; exact ⟨Nat.le_of_ble_eq_true rfl, Nat.le_of_ble_eq_true rfl⟩) (fun g1 => ?_) (fun E7 M7 h7 => gx_out X F (Nat.le_of_ble_eq_true rfl) (Nat.le_of_ble_eq_true rfl) (by unfold pAddMember pCh; exact Gate.x h7 hB))
  have vp := fAdmit_ok (hI.1 0 (by decide)) g1
  refine g_aload_n X dX3_addMember_12 rfl 0 rfl ?_
  refine g_aload_n X dX3_addMember_13 rfl 0 rfl ?_
  refine g_get X dX3_addMember_14 (ci := 3) (k := 0) (v := .ref (hA A 0 0)) rfl k154 (by decide) rfl (BRep.obj hB) rfl ?_
  refine g_callV (As := [.ref (hA A 0 0)]) (ci := 3) X dX3_addMember_17 (c_X3_remember κ.l hl κ.Γ M A w hB hI 0 (by decide) hI.2.2.2.2) k466 k468 kp3 k1 k469 rfl (BRep.obj hB) ⟨rfl, by decide, by decide, (show (parseMethodDescriptor yX3_remember.desc).map (fun d => d.parameters.length) = some 1 by decide +kernel)⟩ rfl (Nat.le_of_ble_eq_true rfl) (by rw [hRm]; decide) (by rw [hRm]; exact ⟨Nat.le_of_ble_eq_true rfl, Nat.le_of_ble_eq_true rfl⟩) (fun v1 M1 h1 => ?_) (fun _ _ h9 => by cases h9.1)
  obtain ⟨e1, hB1, hFA1⟩ := h1
  have e1 : (Sum.inl v1 : Res) = Sum.inl none := e1
  cases e1
  refine g_aload_n X dX3_addMember_20 rfl 0 rfl ?_
  refine g_get X dX3_addMember_21 (ci := 3) (k := 0) (v := .ref (hA A 0 0)) rfl k154 (by decide) rfl (BRep.obj hB1) rfl ?_
  refine g_iload_n X dX3_addMember_24 rfl 1 rfl ?_
  refine g_iload_n X dX3_addMember_25 rfl 2 rfl ?_
  refine g_callV (As := [.int x, .int y]) (ci := 1) X dX3_addMember_26 (c_X1_admit κ.l hl κ.Γ M1 (hA A 0) (w.1 0) (hB1.1 0 (by decide)) x y vp) k473 k474 k475 k2 k476 rfl (hB1.1 0 (by decide)).obj ⟨rfl, by decide, by decide, (show (parseMethodDescriptor yX1_admit.desc).map (fun d => d.parameters.length) = some 2 by decide +kernel)⟩ rfl (Nat.le_of_ble_eq_true rfl) (by rw [hRm]; decide) (by rw [hRm]; exact ⟨Nat.le_of_ble_eq_true rfl, Nat.le_of_ble_eq_true rfl⟩) (fun v2 M2 h2 => ?_) (fun _ _ h9 => by cases h9.1)
  obtain ⟨e2, hR2, hF2⟩ := h2
  cases e2
  have hB4 : BRep κ.Γ A (wH (wRem w (w.1 0)) 0 (aAdmit (w.1 0) x y)) M2 := BRep.hs hB1 (by decide) hR2 hF2
  have hFA5 : Fr A 315 M M2 := Fr.tr hFA1 (Fr.hA (h := 0) hF2 (by decide))
  exact g_iret X F dX3_addMember_29 (Nat.le_of_ble_eq_true rfl) (Nat.le_of_ble_eq_true rfl) (by unfold pAddMember pCh; rw [pG_y g1]; exact ⟨rfl, hB4, hFA5⟩)
set_option maxRecDepth 100000 in
set_option maxHeartbeats 4000000 in
theorem c_X3_enter (l : Launch) (hl : l.stackTraces = false) (Γ : Gm) (M : Hp) (A : Nat → Nat) (w : PV) (hB : BRep Γ A w M) (hI : BInv w) (x : Int32) : Ct l Γ yX3_enter cX3_enter 2 (some .int) 2 3 18 [.ref (A 313), .int x] M (BMu Γ A (pEnter w x) M) := by
  refine Ct.of hl (by decide) (Nat.le_of_ble_eq_true rfl) rfl ?_
  intro κ e1 e2 hnL hRm X F hlt
  subst e1 e2
  refine g_aload_n X dX3_enter_0 rfl 0 rfl ?_
  refine g_get X dX3_enter_1 (ci := 3) (k := 0) (v := .ref (hA A 0 0)) rfl k154 (by decide) rfl (BRep.obj hB) rfl ?_
  refine g_iload_n X dX3_enter_4 rfl 1 rfl ?_
  refine g_callV_rd (As := [.int x]) (ci := 1) (v := some (.int (fComeIn (w.1 0) x))) X dX3_enter_5 (c_X1_faultOfComeIn κ.l hl κ.Γ M (hA A 0) (w.1 0) (hB.1 0 (by decide)) (hI.1 0 (by decide)) x) k484 k485 k486 k2 k487 rfl (hB.1 0 (by decide)).obj ⟨rfl, by decide, by decide, (show (parseMethodDescriptor yX1_faultOfComeIn.desc).map (fun d => d.parameters.length) = some 1 by decide +kernel)⟩ rfl (Nat.le_of_ble_eq_true rfl) (by rw [hRm]; decide) (by rw [hRm]; exact ⟨Nat.le_of_ble_eq_true rfl, Nat.le_of_ble_eq_true rfl⟩) ?_
  refine g_gateS (As := [.int (fComeIn (w.1 0) x)]) (ok := ok0 (fComeIn (w.1 0) x)) (e := exn (fComeIn (w.1 0) x)) X dX3_enter_8 (c_X3_refuse κ.l hl κ.Γ M (fComeIn (w.1 0) x)) k382 k383 k1 k384 ⟨by decide, by decide, (show (parseMethodDescriptor yX3_refuse.desc).map (fun d => d.parameters.length) = some 1 by decide +kernel)⟩ rfl (Nat.le_of_ble_eq_true rfl) (by rw [hRm]; decide) (by rw [hRm]; exact ⟨Nat.le_of_ble_eq_true rfl, Nat.le_of_ble_eq_true rfl⟩) (fun g1 => ?_) (fun E7 M7 h7 => gx_out X F (Nat.le_of_ble_eq_true rfl) (Nat.le_of_ble_eq_true rfl) (by unfold pEnter pCh; exact Gate.x h7 hB))
  refine g_aload_n X dX3_enter_11 rfl 0 rfl ?_
  refine g_aload_n X dX3_enter_12 rfl 0 rfl ?_
  refine g_get X dX3_enter_13 (ci := 3) (k := 0) (v := .ref (hA A 0 0)) rfl k154 (by decide) rfl (BRep.obj hB) rfl ?_
  refine g_callV (As := [.ref (hA A 0 0)]) (ci := 3) X dX3_enter_16 (c_X3_remember κ.l hl κ.Γ M A w hB hI 0 (by decide) hI.2.2.2.2) k466 k468 kp3 k1 k469 rfl (BRep.obj hB) ⟨rfl, by decide, by decide, (show (parseMethodDescriptor yX3_remember.desc).map (fun d => d.parameters.length) = some 1 by decide +kernel)⟩ rfl (Nat.le_of_ble_eq_true rfl) (by rw [hRm]; decide) (by rw [hRm]; exact ⟨Nat.le_of_ble_eq_true rfl, Nat.le_of_ble_eq_true rfl⟩) (fun v1 M1 h1 => ?_) (fun _ _ h9 => by cases h9.1)
  obtain ⟨e1, hB1, hFA1⟩ := h1
  have e1 : (Sum.inl v1 : Res) = Sum.inl none := e1
  cases e1
  refine g_aload_n X dX3_enter_19 rfl 0 rfl ?_
  refine g_get X dX3_enter_20 (ci := 3) (k := 0) (v := .ref (hA A 0 0)) rfl k154 (by decide) rfl (BRep.obj hB1) rfl ?_
  refine g_iload_n X dX3_enter_23 rfl 1 rfl ?_
  refine g_callV (As := [.int x]) (ci := 1) X dX3_enter_24 (c_X1_comeIn κ.l hl κ.Γ M1 (hA A 0) (w.1 0) (hB1.1 0 (by decide)) x ) k492 k493 k494 k2 k495 rfl (hB1.1 0 (by decide)).obj ⟨rfl, by decide, by decide, (show (parseMethodDescriptor yX1_comeIn.desc).map (fun d => d.parameters.length) = some 1 by decide +kernel)⟩ rfl (Nat.le_of_ble_eq_true rfl) (by rw [hRm]; decide) (by rw [hRm]; exact ⟨Nat.le_of_ble_eq_true rfl, Nat.le_of_ble_eq_true rfl⟩) (fun v2 M2 h2 => ?_) (fun _ _ h9 => by cases h9.1)
  obtain ⟨e2, hR2, hF2⟩ := h2
  cases e2
  have hB4 : BRep κ.Γ A (wH (wRem w (w.1 0)) 0 (aComeIn (w.1 0) x)) M2 := BRep.hs hB1 (by decide) hR2 hF2
  have hFA5 : Fr A 315 M M2 := Fr.tr hFA1 (Fr.hA (h := 0) hF2 (by decide))
  exact g_iret X F dX3_enter_27 (Nat.le_of_ble_eq_true rfl) (Nat.le_of_ble_eq_true rfl) (by unfold pEnter pCh; rw [pG_y g1]; exact ⟨rfl, hB4, hFA5⟩)
set_option maxRecDepth 100000 in
set_option maxHeartbeats 4000000 in
theorem c_X3_leave (l : Launch) (hl : l.stackTraces = false) (Γ : Gm) (M : Hp) (A : Nat → Nat) (w : PV) (hB : BRep Γ A w M) (hI : BInv w) (x : Int32) : Ct l Γ yX3_leave cX3_leave 2 (some .int) 2 3 18 [.ref (A 313), .int x] M (BMu Γ A (pLeave w x) M) := by
  refine Ct.of hl (by decide) (Nat.le_of_ble_eq_true rfl) rfl ?_
  intro κ e1 e2 hnL hRm X F hlt
  subst e1 e2
  refine g_aload_n X dX3_leave_0 rfl 0 rfl ?_
  refine g_get X dX3_leave_1 (ci := 3) (k := 0) (v := .ref (hA A 0 0)) rfl k154 (by decide) rfl (BRep.obj hB) rfl ?_
  refine g_iload_n X dX3_leave_4 rfl 1 rfl ?_
  refine g_callV_rd (As := [.int x]) (ci := 1) (v := some (.int (fGoOut (w.1 0) x))) X dX3_leave_5 (c_X1_faultOfGoOut κ.l hl κ.Γ M (hA A 0) (w.1 0) (hB.1 0 (by decide)) (hI.1 0 (by decide)) x) k503 k504 k505 k2 k506 rfl (hB.1 0 (by decide)).obj ⟨rfl, by decide, by decide, (show (parseMethodDescriptor yX1_faultOfGoOut.desc).map (fun d => d.parameters.length) = some 1 by decide +kernel)⟩ rfl (Nat.le_of_ble_eq_true rfl) (by rw [hRm]; decide) (by rw [hRm]; exact ⟨Nat.le_of_ble_eq_true rfl, Nat.le_of_ble_eq_true rfl⟩) ?_
  refine g_gateS (As := [.int (fGoOut (w.1 0) x)]) (ok := ok0 (fGoOut (w.1 0) x)) (e := exn (fGoOut (w.1 0) x)) X dX3_leave_8 (c_X3_refuse κ.l hl κ.Γ M (fGoOut (w.1 0) x)) k382 k383 k1 k384 ⟨by decide, by decide, (show (parseMethodDescriptor yX3_refuse.desc).map (fun d => d.parameters.length) = some 1 by decide +kernel)⟩ rfl (Nat.le_of_ble_eq_true rfl) (by rw [hRm]; decide) (by rw [hRm]; exact ⟨Nat.le_of_ble_eq_true rfl, Nat.le_of_ble_eq_true rfl⟩) (fun g1 => ?_) (fun E7 M7 h7 => gx_out X F (Nat.le_of_ble_eq_true rfl) (Nat.le_of_ble_eq_true rfl) (by unfold pLeave pCh; exact Gate.x h7 hB))
  refine g_aload_n X dX3_leave_11 rfl 0 rfl ?_
  refine g_aload_n X dX3_leave_12 rfl 0 rfl ?_
  refine g_get X dX3_leave_13 (ci := 3) (k := 0) (v := .ref (hA A 0 0)) rfl k154 (by decide) rfl (BRep.obj hB) rfl ?_
  refine g_callV (As := [.ref (hA A 0 0)]) (ci := 3) X dX3_leave_16 (c_X3_remember κ.l hl κ.Γ M A w hB hI 0 (by decide) hI.2.2.2.2) k466 k468 kp3 k1 k469 rfl (BRep.obj hB) ⟨rfl, by decide, by decide, (show (parseMethodDescriptor yX3_remember.desc).map (fun d => d.parameters.length) = some 1 by decide +kernel)⟩ rfl (Nat.le_of_ble_eq_true rfl) (by rw [hRm]; decide) (by rw [hRm]; exact ⟨Nat.le_of_ble_eq_true rfl, Nat.le_of_ble_eq_true rfl⟩) (fun v1 M1 h1 => ?_) (fun _ _ h9 => by cases h9.1)
  obtain ⟨e1, hB1, hFA1⟩ := h1
  have e1 : (Sum.inl v1 : Res) = Sum.inl none := e1
  cases e1
  refine g_aload_n X dX3_leave_19 rfl 0 rfl ?_
  refine g_get X dX3_leave_20 (ci := 3) (k := 0) (v := .ref (hA A 0 0)) rfl k154 (by decide) rfl (BRep.obj hB1) rfl ?_
  refine g_iload_n X dX3_leave_23 rfl 1 rfl ?_
  refine g_callV (As := [.int x]) (ci := 1) X dX3_leave_24 (c_X1_goOut κ.l hl κ.Γ M1 (hA A 0) (w.1 0) (hB1.1 0 (by decide)) x ) k507 k508 k509 k2 k510 rfl (hB1.1 0 (by decide)).obj ⟨rfl, by decide, by decide, (show (parseMethodDescriptor yX1_goOut.desc).map (fun d => d.parameters.length) = some 1 by decide +kernel)⟩ rfl (Nat.le_of_ble_eq_true rfl) (by rw [hRm]; decide) (by rw [hRm]; exact ⟨Nat.le_of_ble_eq_true rfl, Nat.le_of_ble_eq_true rfl⟩) (fun v2 M2 h2 => ?_) (fun _ _ h9 => by cases h9.1)
  obtain ⟨e2, hR2, hF2⟩ := h2
  cases e2
  have hB4 : BRep κ.Γ A (wH (wRem w (w.1 0)) 0 (aGoOut (w.1 0) x)) M2 := BRep.hs hB1 (by decide) hR2 hF2
  have hFA5 : Fr A 315 M M2 := Fr.tr hFA1 (Fr.hA (h := 0) hF2 (by decide))
  exact g_iret X F dX3_leave_27 (Nat.le_of_ble_eq_true rfl) (Nat.le_of_ble_eq_true rfl) (by unfold pLeave pCh; rw [pG_y g1]; exact ⟨rfl, hB4, hFA5⟩)
set_option maxRecDepth 100000 in
set_option maxHeartbeats 4000000 in
theorem c_X3_introduce (l : Launch) (hl : l.stackTraces = false) (Γ : Gm) (M : Hp) (A : Nat → Nat) (w : PV) (hB : BRep Γ A w M) (hI : BInv w) (x : Int32) (f : Int32) (la : Int32) : Ct l Γ yX3_introduce cX3_introduce 4 (some .int) 2 3 18 [.ref (A 313), .int x, .int f, .int la] M (BMu Γ A (pIntroduce w x f la) M) := by
  refine Ct.of hl (by decide) (Nat.le_of_ble_eq_true rfl) rfl ?_
  intro κ e1 e2 hnL hRm X F hlt
  subst e1 e2
  refine g_aload_n X dX3_introduce_0 rfl 0 rfl ?_
  refine g_get X dX3_introduce_1 (ci := 3) (k := 0) (v := .ref (hA A 0 0)) rfl k154 (by decide) rfl (BRep.obj hB) rfl ?_
  refine g_iload_n X dX3_introduce_4 rfl 1 rfl ?_
  refine g_iload_n X dX3_introduce_5 rfl 2 rfl ?_
  refine g_iload_n X dX3_introduce_6 rfl 3 rfl ?_
  refine g_callV_rd (As := [.int x, .int f, .int la]) (ci := 1) (v := some (.int (fBring (w.1 0) x f la))) X dX3_introduce_7 (c_X1_faultOfBringIn κ.l hl κ.Γ M (hA A 0) (w.1 0) (hB.1 0 (by decide)) (hI.1 0 (by decide)) x f la) k569 k570 k571 k2 k572 rfl (hB.1 0 (by decide)).obj ⟨rfl, by decide, by decide, (show (parseMethodDescriptor yX1_faultOfBringIn.desc).map (fun d => d.parameters.length) = some 3 by decide +kernel)⟩ rfl (Nat.le_of_ble_eq_true rfl) (by rw [hRm]; decide) (by rw [hRm]; exact ⟨Nat.le_of_ble_eq_true rfl, Nat.le_of_ble_eq_true rfl⟩) ?_
  refine g_gateS (As := [.int (fBring (w.1 0) x f la)]) (ok := ok0 (fBring (w.1 0) x f la)) (e := exn (fBring (w.1 0) x f la)) X dX3_introduce_10 (c_X3_refuse κ.l hl κ.Γ M (fBring (w.1 0) x f la)) k382 k383 k1 k384 ⟨by decide, by decide, (show (parseMethodDescriptor yX3_refuse.desc).map (fun d => d.parameters.length) = some 1 by decide +kernel)⟩ rfl (Nat.le_of_ble_eq_true rfl) (by rw [hRm]; decide) (by rw [hRm]; exact ⟨Nat.le_of_ble_eq_true rfl, Nat.le_of_ble_eq_true rfl⟩) (fun g1 => ?_) (fun E7 M7 h7 => gx_out X F (Nat.le_of_ble_eq_true rfl) (Nat.le_of_ble_eq_true rfl) (by unfold pIntroduce pCh; exact Gate.x h7 hB))
  have vp := fBring_ok (hI.1 0 (by decide)) g1
  refine g_aload_n X dX3_introduce_13 rfl 0 rfl ?_
  refine g_aload_n X dX3_introduce_14 rfl 0 rfl ?_
  refine g_get X dX3_introduce_15 (ci := 3) (k := 0) (v := .ref (hA A 0 0)) rfl k154 (by decide) rfl (BRep.obj hB) rfl ?_
  refine g_callV (As := [.ref (hA A 0 0)]) (ci := 3) X dX3_introduce_18 (c_X3_remember κ.l hl κ.Γ M A w hB hI 0 (by decide) hI.2.2.2.2) k466 k468 kp3 k1 k469 rfl (BRep.obj hB) ⟨rfl, by decide, by decide, (show (parseMethodDescriptor yX3_remember.desc).map (fun d => d.parameters.length) = some 1 by decide +kernel)⟩ rfl (Nat.le_of_ble_eq_true rfl) (by rw [hRm]; decide) (by rw [hRm]; exact ⟨Nat.le_of_ble_eq_true rfl, Nat.le_of_ble_eq_true rfl⟩) (fun v1 M1 h1 => ?_) (fun _ _ h9 => by cases h9.1)
  obtain ⟨e1, hB1, hFA1⟩ := h1
  have e1 : (Sum.inl v1 : Res) = Sum.inl none := e1
  cases e1
  refine g_aload_n X dX3_introduce_21 rfl 0 rfl ?_
  refine g_get X dX3_introduce_22 (ci := 3) (k := 0) (v := .ref (hA A 0 0)) rfl k154 (by decide) rfl (BRep.obj hB1) rfl ?_
  refine g_iload_n X dX3_introduce_25 rfl 2 rfl ?_
  refine g_iload_n X dX3_introduce_26 rfl 3 rfl ?_
  refine g_callV (As := [.int f, .int la]) (ci := 1) X dX3_introduce_27 (c_X1_bringIn κ.l hl κ.Γ M1 (hA A 0) (w.1 0) (hB1.1 0 (by decide)) f la vp) k576 k577 k578 k2 k579 rfl (hB1.1 0 (by decide)).obj ⟨rfl, by decide, by decide, (show (parseMethodDescriptor yX1_bringIn.desc).map (fun d => d.parameters.length) = some 2 by decide +kernel)⟩ rfl (Nat.le_of_ble_eq_true rfl) (by rw [hRm]; decide) (by rw [hRm]; exact ⟨Nat.le_of_ble_eq_true rfl, Nat.le_of_ble_eq_true rfl⟩) (fun v2 M2 h2 => ?_) (fun _ _ h9 => by cases h9.1)
  obtain ⟨e2, hR2, hF2⟩ := h2
  cases e2
  have hB4 : BRep κ.Γ A (wH (wRem w (w.1 0)) 0 (aBring (w.1 0) f la)) M2 := BRep.hs hB1 (by decide) hR2 hF2
  have hFA5 : Fr A 315 M M2 := Fr.tr hFA1 (Fr.hA (h := 0) hF2 (by decide))
  exact g_iret X F dX3_introduce_30 (Nat.le_of_ble_eq_true rfl) (Nat.le_of_ble_eq_true rfl) (by unfold pIntroduce pCh; rw [pG_y g1]; exact ⟨rfl, hB4, hFA5⟩)
set_option maxRecDepth 100000 in
set_option maxHeartbeats 4000000 in
theorem c_X3_voteFor (l : Launch) (hl : l.stackTraces = false) (Γ : Gm) (M : Hp) (A : Nat → Nat) (w : PV) (hB : BRep Γ A w M) (hI : BInv w) (b : Int32) (x : Int32) : Ct l Γ yX3_voteFor cX3_voteFor 3 (some .int) 2 3 18 [.ref (A 313), .int b, .int x] M (BMu Γ A (pVoteFor w b x) M) := by
  refine Ct.of hl (by decide) (Nat.le_of_ble_eq_true rfl) rfl ?_
  intro κ e1 e2 hnL hRm X F hlt
  subst e1 e2
  refine g_aload_n X dX3_voteFor_0 rfl 0 rfl ?_
  refine g_get X dX3_voteFor_1 (ci := 3) (k := 0) (v := .ref (hA A 0 0)) rfl k154 (by decide) rfl (BRep.obj hB) rfl ?_
  refine g_iload_n X dX3_voteFor_4 rfl 1 rfl ?_
  refine g_iload_n X dX3_voteFor_5 rfl 2 rfl ?_
  refine g_callV_rd (As := [.int b, .int x]) (ci := 1) (v := some (.int (fVote (w.1 0) b x))) X dX3_voteFor_6 (c_X1_faultOfVote κ.l hl κ.Γ M (hA A 0) (w.1 0) (hB.1 0 (by decide)) (hI.1 0 (by decide)) b x) k671 k672 k673 k2 k674 rfl (hB.1 0 (by decide)).obj ⟨rfl, by decide, by decide, (show (parseMethodDescriptor yX1_faultOfVote.desc).map (fun d => d.parameters.length) = some 2 by decide +kernel)⟩ rfl (Nat.le_of_ble_eq_true rfl) (by rw [hRm]; decide) (by rw [hRm]; exact ⟨Nat.le_of_ble_eq_true rfl, Nat.le_of_ble_eq_true rfl⟩) ?_
  refine g_gateS (As := [.int (fVote (w.1 0) b x)]) (ok := ok0 (fVote (w.1 0) b x)) (e := exn (fVote (w.1 0) b x)) X dX3_voteFor_9 (c_X3_refuse κ.l hl κ.Γ M (fVote (w.1 0) b x)) k382 k383 k1 k384 ⟨by decide, by decide, (show (parseMethodDescriptor yX3_refuse.desc).map (fun d => d.parameters.length) = some 1 by decide +kernel)⟩ rfl (Nat.le_of_ble_eq_true rfl) (by rw [hRm]; decide) (by rw [hRm]; exact ⟨Nat.le_of_ble_eq_true rfl, Nat.le_of_ble_eq_true rfl⟩) (fun g1 => ?_) (fun E7 M7 h7 => gx_out X F (Nat.le_of_ble_eq_true rfl) (Nat.le_of_ble_eq_true rfl) (by unfold pVoteFor pCh; exact Gate.x h7 hB))
  have vb := (hI.1 0 (by decide)).b (fVote_ok g1).1
  refine g_aload_n X dX3_voteFor_12 rfl 0 rfl ?_
  refine g_aload_n X dX3_voteFor_13 rfl 0 rfl ?_
  refine g_get X dX3_voteFor_14 (ci := 3) (k := 0) (v := .ref (hA A 0 0)) rfl k154 (by decide) rfl (BRep.obj hB) rfl ?_
  refine g_callV (As := [.ref (hA A 0 0)]) (ci := 3) X dX3_voteFor_17 (c_X3_remember κ.l hl κ.Γ M A w hB hI 0 (by decide) hI.2.2.2.2) k466 k468 kp3 k1 k469 rfl (BRep.obj hB) ⟨rfl, by decide, by decide, (show (parseMethodDescriptor yX3_remember.desc).map (fun d => d.parameters.length) = some 1 by decide +kernel)⟩ rfl (Nat.le_of_ble_eq_true rfl) (by rw [hRm]; decide) (by rw [hRm]; exact ⟨Nat.le_of_ble_eq_true rfl, Nat.le_of_ble_eq_true rfl⟩) (fun v1 M1 h1 => ?_) (fun _ _ h9 => by cases h9.1)
  obtain ⟨e1, hB1, hFA1⟩ := h1
  have e1 : (Sum.inl v1 : Res) = Sum.inl none := e1
  cases e1
  refine g_aload_n X dX3_voteFor_20 rfl 0 rfl ?_
  refine g_get X dX3_voteFor_21 (ci := 3) (k := 0) (v := .ref (hA A 0 0)) rfl k154 (by decide) rfl (BRep.obj hB1) rfl ?_
  refine g_iload_n X dX3_voteFor_24 rfl 1 rfl ?_
  refine g_iload_n X dX3_voteFor_25 rfl 2 rfl ?_
  refine g_callV (As := [.int b, .int x]) (ci := 1) X dX3_voteFor_26 (c_X1_countFor κ.l hl κ.Γ M1 (hA A 0) (w.1 0) (hB1.1 0 (by decide)) b x vb) k676 k677 k678 k2 k679 rfl (hB1.1 0 (by decide)).obj ⟨rfl, by decide, by decide, (show (parseMethodDescriptor yX1_countFor.desc).map (fun d => d.parameters.length) = some 2 by decide +kernel)⟩ rfl (Nat.le_of_ble_eq_true rfl) (by rw [hRm]; decide) (by rw [hRm]; exact ⟨Nat.le_of_ble_eq_true rfl, Nat.le_of_ble_eq_true rfl⟩) (fun v2 M2 h2 => ?_) (fun _ _ h9 => by cases h9.1)
  obtain ⟨e2, hR2, hF2⟩ := h2
  cases e2
  have hB4 : BRep κ.Γ A (wH (wRem w (w.1 0)) 0 (aFor (w.1 0) b x)) M2 := BRep.hs hB1 (by decide) hR2 hF2
  have hFA5 : Fr A 315 M M2 := Fr.tr hFA1 (Fr.hA (h := 0) hF2 (by decide))
  exact g_iret X F dX3_voteFor_29 (Nat.le_of_ble_eq_true rfl) (Nat.le_of_ble_eq_true rfl) (by unfold pVoteFor pCh; rw [pG_y g1]; exact ⟨rfl, hB4, hFA5⟩)
set_option maxRecDepth 100000 in
set_option maxHeartbeats 4000000 in
theorem c_X3_voteAgainst (l : Launch) (hl : l.stackTraces = false) (Γ : Gm) (M : Hp) (A : Nat → Nat) (w : PV) (hB : BRep Γ A w M) (hI : BInv w) (b : Int32) (x : Int32) : Ct l Γ yX3_voteAgainst cX3_voteAgainst 3 (some .int) 2 3 18 [.ref (A 313), .int b, .int x] M (BMu Γ A (pVoteAgainst w b x) M) := by
  refine Ct.of hl (by decide) (Nat.le_of_ble_eq_true rfl) rfl ?_
  intro κ e1 e2 hnL hRm X F hlt
  subst e1 e2
  refine g_aload_n X dX3_voteAgainst_0 rfl 0 rfl ?_
  refine g_get X dX3_voteAgainst_1 (ci := 3) (k := 0) (v := .ref (hA A 0 0)) rfl k154 (by decide) rfl (BRep.obj hB) rfl ?_
  refine g_iload_n X dX3_voteAgainst_4 rfl 1 rfl ?_
  refine g_iload_n X dX3_voteAgainst_5 rfl 2 rfl ?_
  refine g_callV_rd (As := [.int b, .int x]) (ci := 1) (v := some (.int (fVote (w.1 0) b x))) X dX3_voteAgainst_6 (c_X1_faultOfVote κ.l hl κ.Γ M (hA A 0) (w.1 0) (hB.1 0 (by decide)) (hI.1 0 (by decide)) b x) k671 k672 k673 k2 k674 rfl (hB.1 0 (by decide)).obj ⟨rfl, by decide, by decide, (show (parseMethodDescriptor yX1_faultOfVote.desc).map (fun d => d.parameters.length) = some 2 by decide +kernel)⟩ rfl (Nat.le_of_ble_eq_true rfl) (by rw [hRm]; decide) (by rw [hRm]; exact ⟨Nat.le_of_ble_eq_true rfl, Nat.le_of_ble_eq_true rfl⟩) ?_
  refine g_gateS (As := [.int (fVote (w.1 0) b x)]) (ok := ok0 (fVote (w.1 0) b x)) (e := exn (fVote (w.1 0) b x)) X dX3_voteAgainst_9 (c_X3_refuse κ.l hl κ.Γ M (fVote (w.1 0) b x)) k382 k383 k1 k384 ⟨by decide, by decide, (show (parseMethodDescriptor yX3_refuse.desc).map (fun d => d.parameters.length) = some 1 by decide +kernel)⟩ rfl (Nat.le_of_ble_eq_true rfl) (by rw [hRm]; decide) (by rw [hRm]; exact ⟨Nat.le_of_ble_eq_true rfl, Nat.le_of_ble_eq_true rfl⟩) (fun g1 => ?_) (fun E7 M7 h7 => gx_out X F (Nat.le_of_ble_eq_true rfl) (Nat.le_of_ble_eq_true rfl) (by unfold pVoteAgainst pCh; exact Gate.x h7 hB))
  have vb := (hI.1 0 (by decide)).b (fVote_ok g1).1
  refine g_aload_n X dX3_voteAgainst_12 rfl 0 rfl ?_
  refine g_aload_n X dX3_voteAgainst_13 rfl 0 rfl ?_
  refine g_get X dX3_voteAgainst_14 (ci := 3) (k := 0) (v := .ref (hA A 0 0)) rfl k154 (by decide) rfl (BRep.obj hB) rfl ?_
  refine g_callV (As := [.ref (hA A 0 0)]) (ci := 3) X dX3_voteAgainst_17 (c_X3_remember κ.l hl κ.Γ M A w hB hI 0 (by decide) hI.2.2.2.2) k466 k468 kp3 k1 k469 rfl (BRep.obj hB) ⟨rfl, by decide, by decide, (show (parseMethodDescriptor yX3_remember.desc).map (fun d => d.parameters.length) = some 1 by decide +kernel)⟩ rfl (Nat.le_of_ble_eq_true rfl) (by rw [hRm]; decide) (by rw [hRm]; exact ⟨Nat.le_of_ble_eq_true rfl, Nat.le_of_ble_eq_true rfl⟩) (fun v1 M1 h1 => ?_) (fun _ _ h9 => by cases h9.1)
  obtain ⟨e1, hB1, hFA1⟩ := h1
  have e1 : (Sum.inl v1 : Res) = Sum.inl none := e1
  cases e1
  refine g_aload_n X dX3_voteAgainst_20 rfl 0 rfl ?_
  refine g_get X dX3_voteAgainst_21 (ci := 3) (k := 0) (v := .ref (hA A 0 0)) rfl k154 (by decide) rfl (BRep.obj hB1) rfl ?_
  refine g_iload_n X dX3_voteAgainst_24 rfl 1 rfl ?_
  refine g_iload_n X dX3_voteAgainst_25 rfl 2 rfl ?_
  refine g_callV (As := [.int b, .int x]) (ci := 1) X dX3_voteAgainst_26 (c_X1_countAgainst κ.l hl κ.Γ M1 (hA A 0) (w.1 0) (hB1.1 0 (by decide)) b x vb) k688 k689 k690 k2 k691 rfl (hB1.1 0 (by decide)).obj ⟨rfl, by decide, by decide, (show (parseMethodDescriptor yX1_countAgainst.desc).map (fun d => d.parameters.length) = some 2 by decide +kernel)⟩ rfl (Nat.le_of_ble_eq_true rfl) (by rw [hRm]; decide) (by rw [hRm]; exact ⟨Nat.le_of_ble_eq_true rfl, Nat.le_of_ble_eq_true rfl⟩) (fun v2 M2 h2 => ?_) (fun _ _ h9 => by cases h9.1)
  obtain ⟨e2, hR2, hF2⟩ := h2
  cases e2
  have hB4 : BRep κ.Γ A (wH (wRem w (w.1 0)) 0 (aAgainst (w.1 0) b x)) M2 := BRep.hs hB1 (by decide) hR2 hF2
  have hFA5 : Fr A 315 M M2 := Fr.tr hFA1 (Fr.hA (h := 0) hF2 (by decide))
  exact g_iret X F dX3_voteAgainst_29 (Nat.le_of_ble_eq_true rfl) (Nat.le_of_ble_eq_true rfl) (by unfold pVoteAgainst pCh; rw [pG_y g1]; exact ⟨rfl, hB4, hFA5⟩)
set_option maxRecDepth 100000 in
set_option maxHeartbeats 4000000 in
theorem c_X3_closeReading (l : Launch) (hl : l.stackTraces = false) (Γ : Gm) (M : Hp) (A : Nat → Nat) (w : PV) (hB : BRep Γ A w M) (hI : BInv w) (b : Int32) : Ct l Γ yX3_closeReading cX3_closeReading 2 (some .boolean) 3 3 18 [.ref (A 313), .int b] M (BMu Γ A (pCloseReading w b) M) := by
  refine Ct.of hl (by decide) (Nat.le_of_ble_eq_true rfl) rfl ?_
  intro κ e1 e2 hnL hRm X F hlt
  subst e1 e2
  refine g_aload_n X dX3_closeReading_0 rfl 0 rfl ?_
  refine g_get X dX3_closeReading_1 (ci := 3) (k := 0) (v := .ref (hA A 0 0)) rfl k154 (by decide) rfl (BRep.obj hB) rfl ?_
  refine g_iload_n X dX3_closeReading_4 rfl 1 rfl ?_
  refine g_callV_rd (As := [.int b]) (ci := 1) (v := some (.int (fEnd (w.1 0) b))) X dX3_closeReading_5 (c_X1_faultOfEndReading κ.l hl κ.Γ M (hA A 0) (w.1 0) (hB.1 0 (by decide)) (hI.1 0 (by decide)) b) k720 k721 k722 k2 k723 rfl (hB.1 0 (by decide)).obj ⟨rfl, by decide, by decide, (show (parseMethodDescriptor yX1_faultOfEndReading.desc).map (fun d => d.parameters.length) = some 1 by decide +kernel)⟩ rfl (Nat.le_of_ble_eq_true rfl) (by rw [hRm]; decide) (by rw [hRm]; exact ⟨Nat.le_of_ble_eq_true rfl, Nat.le_of_ble_eq_true rfl⟩) ?_
  refine g_gateS (As := [.int (fEnd (w.1 0) b)]) (ok := ok0 (fEnd (w.1 0) b)) (e := exn (fEnd (w.1 0) b)) X dX3_closeReading_8 (c_X3_refuse κ.l hl κ.Γ M (fEnd (w.1 0) b)) k382 k383 k1 k384 ⟨by decide, by decide, (show (parseMethodDescriptor yX3_refuse.desc).map (fun d => d.parameters.length) = some 1 by decide +kernel)⟩ rfl (Nat.le_of_ble_eq_true rfl) (by rw [hRm]; decide) (by rw [hRm]; exact ⟨Nat.le_of_ble_eq_true rfl, Nat.le_of_ble_eq_true rfl⟩) (fun g1 => ?_) (fun E7 M7 h7 => gx_out X F (Nat.le_of_ble_eq_true rfl) (Nat.le_of_ble_eq_true rfl) (by unfold pCloseReading pCh; exact Gate.x h7 hB))
  have vb := (hI.1 0 (by decide)).b (fEnd_ok g1)
  refine g_aload_n X dX3_closeReading_11 rfl 0 rfl ?_
  refine g_aload_n X dX3_closeReading_12 rfl 0 rfl ?_
  refine g_get X dX3_closeReading_13 (ci := 3) (k := 0) (v := .ref (hA A 0 0)) rfl k154 (by decide) rfl (BRep.obj hB) rfl ?_
  refine g_callV (As := [.ref (hA A 0 0)]) (ci := 3) X dX3_closeReading_16 (c_X3_remember κ.l hl κ.Γ M A w hB hI 0 (by decide) hI.2.2.2.2) k466 k468 kp3 k1 k469 rfl (BRep.obj hB) ⟨rfl, by decide, by decide, (show (parseMethodDescriptor yX3_remember.desc).map (fun d => d.parameters.length) = some 1 by decide +kernel)⟩ rfl (Nat.le_of_ble_eq_true rfl) (by rw [hRm]; decide) (by rw [hRm]; exact ⟨Nat.le_of_ble_eq_true rfl, Nat.le_of_ble_eq_true rfl⟩) (fun v1 M1 h1 => ?_) (fun _ _ h9 => by cases h9.1)
  obtain ⟨e1, hB1, hFA1⟩ := h1
  have e1 : (Sum.inl v1 : Res) = Sum.inl none := e1
  cases e1
  refine g_aload_n X dX3_closeReading_19 rfl 0 rfl ?_
  refine g_get X dX3_closeReading_20 (ci := 3) (k := 0) (v := .ref (hA A 0 0)) rfl k154 (by decide) rfl (BRep.obj hB1) rfl ?_
  refine g_iload_n X dX3_closeReading_23 rfl 1 rfl ?_
  refine g_callV (As := [.int b]) (ci := 1) X dX3_closeReading_24 (c_X1_endReading κ.l hl κ.Γ M1 (hA A 0) (w.1 0) (hB1.1 0 (by decide)) b vb) k725 k726 k727 k2 k728 rfl (hB1.1 0 (by decide)).obj ⟨rfl, by decide, by decide, (show (parseMethodDescriptor yX1_endReading.desc).map (fun d => d.parameters.length) = some 1 by decide +kernel)⟩ rfl (Nat.le_of_ble_eq_true rfl) (by rw [hRm]; decide) (by rw [hRm]; exact ⟨Nat.le_of_ble_eq_true rfl, Nat.le_of_ble_eq_true rfl⟩) (fun v2 M2 h2 => ?_) (fun _ _ h9 => by cases h9.1)
  obtain ⟨e2, hR2, hF2⟩ := h2
  cases e2
  have hB4 : BRep κ.Γ A (wH (wRem w (w.1 0)) 0 (aEnd (w.1 0) b)) M2 := BRep.hs hB1 (by decide) hR2 hF2
  have hFA5 : Fr A 315 M M2 := Fr.tr hFA1 (Fr.hA (h := 0) hF2 (by decide))
  exact g_zret X F dX3_closeReading_27 (Nat.le_of_ble_eq_true rfl) (Nat.le_of_ble_eq_true rfl) (bI_nar _) (by unfold pCloseReading pCh; rw [pG_y g1]; exact ⟨rfl, hB4, hFA5⟩)
set_option maxRecDepth 100000 in
set_option maxHeartbeats 4000000 in
theorem c_X3_propose (l : Launch) (hl : l.stackTraces = false) (Γ : Gm) (M : Hp) (A : Nat → Nat) (w : PV) (hB : BRep Γ A w M) (hI : BInv w) (b : Int32) (x : Int32) (c : Int32) : Ct l Γ yX3_propose cX3_propose 4 (some .int) 2 3 18 [.ref (A 313), .int b, .int x, .int c] M (BMu Γ A (pPropose w b x c) M) := by
  refine Ct.of hl (by decide) (Nat.le_of_ble_eq_true rfl) rfl ?_
  intro κ e1 e2 hnL hRm X F hlt
  subst e1 e2
  refine g_aload_n X dX3_propose_0 rfl 0 rfl ?_
  refine g_get X dX3_propose_1 (ci := 3) (k := 0) (v := .ref (hA A 0 0)) rfl k154 (by decide) rfl (BRep.obj hB) rfl ?_
  refine g_iload_n X dX3_propose_4 rfl 1 rfl ?_
  refine g_iload_n X dX3_propose_5 rfl 2 rfl ?_
  refine g_iload_n X dX3_propose_6 rfl 3 rfl ?_
  refine g_callV_rd (As := [.int b, .int x, .int c]) (ci := 1) (v := some (.int (fMove (w.1 0) b x c))) X dX3_propose_7 (c_X1_faultOfMove κ.l hl κ.Γ M (hA A 0) (w.1 0) (hB.1 0 (by decide)) (hI.1 0 (by decide)) b x c) k740 k741 k742 k2 k743 rfl (hB.1 0 (by decide)).obj ⟨rfl, by decide, by decide, (show (parseMethodDescriptor yX1_faultOfMove.desc).map (fun d => d.parameters.length) = some 3 by decide +kernel)⟩ rfl (Nat.le_of_ble_eq_true rfl) (by rw [hRm]; decide) (by rw [hRm]; exact ⟨Nat.le_of_ble_eq_true rfl, Nat.le_of_ble_eq_true rfl⟩) ?_
  refine g_gateS (As := [.int (fMove (w.1 0) b x c)]) (ok := ok0 (fMove (w.1 0) b x c)) (e := exn (fMove (w.1 0) b x c)) X dX3_propose_10 (c_X3_refuse κ.l hl κ.Γ M (fMove (w.1 0) b x c)) k382 k383 k1 k384 ⟨by decide, by decide, (show (parseMethodDescriptor yX3_refuse.desc).map (fun d => d.parameters.length) = some 1 by decide +kernel)⟩ rfl (Nat.le_of_ble_eq_true rfl) (by rw [hRm]; decide) (by rw [hRm]; exact ⟨Nat.le_of_ble_eq_true rfl, Nat.le_of_ble_eq_true rfl⟩) (fun g1 => ?_) (fun E7 M7 h7 => gx_out X F (Nat.le_of_ble_eq_true rfl) (Nat.le_of_ble_eq_true rfl) (by unfold pPropose pCh; exact Gate.x h7 hB))
  have vb := (hI.1 0 (by decide)).b (fMove_ok (hI.1 0 (by decide)) g1).1
  have vp := (fMove_ok (hI.1 0 (by decide)) g1).2
  refine g_aload_n X dX3_propose_13 rfl 0 rfl ?_
  refine g_aload_n X dX3_propose_14 rfl 0 rfl ?_
  refine g_get X dX3_propose_15 (ci := 3) (k := 0) (v := .ref (hA A 0 0)) rfl k154 (by decide) rfl (BRep.obj hB) rfl ?_
  refine g_callV (As := [.ref (hA A 0 0)]) (ci := 3) X dX3_propose_18 (c_X3_remember κ.l hl κ.Γ M A w hB hI 0 (by decide) hI.2.2.2.2) k466 k468 kp3 k1 k469 rfl (BRep.obj hB) ⟨rfl, by decide, by decide, (show (parseMethodDescriptor yX3_remember.desc).map (fun d => d.parameters.length) = some 1 by decide +kernel)⟩ rfl (Nat.le_of_ble_eq_true rfl) (by rw [hRm]; decide) (by rw [hRm]; exact ⟨Nat.le_of_ble_eq_true rfl, Nat.le_of_ble_eq_true rfl⟩) (fun v1 M1 h1 => ?_) (fun _ _ h9 => by cases h9.1)
  obtain ⟨e1, hB1, hFA1⟩ := h1
  have e1 : (Sum.inl v1 : Res) = Sum.inl none := e1
  cases e1
  refine g_aload_n X dX3_propose_21 rfl 0 rfl ?_
  refine g_get X dX3_propose_22 (ci := 3) (k := 0) (v := .ref (hA A 0 0)) rfl k154 (by decide) rfl (BRep.obj hB1) rfl ?_
  refine g_iload_n X dX3_propose_25 rfl 1 rfl ?_
  refine g_iload_n X dX3_propose_26 rfl 2 rfl ?_
  refine g_iload_n X dX3_propose_27 rfl 3 rfl ?_
  refine g_callV (As := [.int b, .int x, .int c]) (ci := 1) X dX3_propose_28 (c_X1_move κ.l hl κ.Γ M1 (hA A 0) (w.1 0) (hB1.1 0 (by decide)) b x c vb vp) k744 k745 k746 k2 k747 rfl (hB1.1 0 (by decide)).obj ⟨rfl, by decide, by decide, (show (parseMethodDescriptor yX1_move.desc).map (fun d => d.parameters.length) = some 3 by decide +kernel)⟩ rfl (Nat.le_of_ble_eq_true rfl) (by rw [hRm]; decide) (by rw [hRm]; exact ⟨Nat.le_of_ble_eq_true rfl, Nat.le_of_ble_eq_true rfl⟩) (fun v2 M2 h2 => ?_) (fun _ _ h9 => by cases h9.1)
  obtain ⟨e2, hR2, hF2⟩ := h2
  cases e2
  have hB4 : BRep κ.Γ A (wH (wRem w (w.1 0)) 0 (aMove (w.1 0) b x c)) M2 := BRep.hs hB1 (by decide) hR2 hF2
  have hFA5 : Fr A 315 M M2 := Fr.tr hFA1 (Fr.hA (h := 0) hF2 (by decide))
  exact g_iret X F dX3_propose_31 (Nat.le_of_ble_eq_true rfl) (Nat.le_of_ble_eq_true rfl) (by unfold pPropose pCh; rw [pG_y g1]; exact ⟨rfl, hB4, hFA5⟩)
set_option maxRecDepth 100000 in
set_option maxHeartbeats 4000000 in
theorem c_X3_support (l : Launch) (hl : l.stackTraces = false) (Γ : Gm) (M : Hp) (A : Nat → Nat) (w : PV) (hB : BRep Γ A w M) (hI : BInv w) (b : Int32) (p : Int32) (x : Int32) : Ct l Γ yX3_support cX3_support 4 (some .int) 2 3 18 [.ref (A 313), .int b, .int p, .int x] M (BMu Γ A (pSupport w b p x) M) := by
  refine Ct.of hl (by decide) (Nat.le_of_ble_eq_true rfl) rfl ?_
  intro κ e1 e2 hnL hRm X F hlt
  subst e1 e2
  refine g_aload_n X dX3_support_0 rfl 0 rfl ?_
  refine g_get X dX3_support_1 (ci := 3) (k := 0) (v := .ref (hA A 0 0)) rfl k154 (by decide) rfl (BRep.obj hB) rfl ?_
  refine g_iload_n X dX3_support_4 rfl 1 rfl ?_
  refine g_iload_n X dX3_support_5 rfl 2 rfl ?_
  refine g_iload_n X dX3_support_6 rfl 3 rfl ?_
  refine g_callV_rd (As := [.int b, .int p, .int x]) (ci := 1) (v := some (.int (fSecond (w.1 0) b p x))) X dX3_support_7 (c_X1_faultOfSecond κ.l hl κ.Γ M (hA A 0) (w.1 0) (hB.1 0 (by decide)) (hI.1 0 (by decide)) b p x) k755 k756 k757 k2 k758 rfl (hB.1 0 (by decide)).obj ⟨rfl, by decide, by decide, (show (parseMethodDescriptor yX1_faultOfSecond.desc).map (fun d => d.parameters.length) = some 3 by decide +kernel)⟩ rfl (Nat.le_of_ble_eq_true rfl) (by rw [hRm]; decide) (by rw [hRm]; exact ⟨Nat.le_of_ble_eq_true rfl, Nat.le_of_ble_eq_true rfl⟩) ?_
  refine g_gateS (As := [.int (fSecond (w.1 0) b p x)]) (ok := ok0 (fSecond (w.1 0) b p x)) (e := exn (fSecond (w.1 0) b p x)) X dX3_support_10 (c_X3_refuse κ.l hl κ.Γ M (fSecond (w.1 0) b p x)) k382 k383 k1 k384 ⟨by decide, by decide, (show (parseMethodDescriptor yX3_refuse.desc).map (fun d => d.parameters.length) = some 1 by decide +kernel)⟩ rfl (Nat.le_of_ble_eq_true rfl) (by rw [hRm]; decide) (by rw [hRm]; exact ⟨Nat.le_of_ble_eq_true rfl, Nat.le_of_ble_eq_true rfl⟩) (fun g1 => ?_) (fun E7 M7 h7 => gx_out X F (Nat.le_of_ble_eq_true rfl) (Nat.le_of_ble_eq_true rfl) (by unfold pSupport pCh; exact Gate.x h7 hB))
  have vb := (hI.1 0 (by decide)).b (fSecond_ok (hI.1 0 (by decide)) g1).1
  have vp := (fSecond_ok (hI.1 0 (by decide)) g1).2
  refine g_aload_n X dX3_support_13 rfl 0 rfl ?_
  refine g_aload_n X dX3_support_14 rfl 0 rfl ?_
  refine g_get X dX3_support_15 (ci := 3) (k := 0) (v := .ref (hA A 0 0)) rfl k154 (by decide) rfl (BRep.obj hB) rfl ?_
  refine g_callV (As := [.ref (hA A 0 0)]) (ci := 3) X dX3_support_18 (c_X3_remember κ.l hl κ.Γ M A w hB hI 0 (by decide) hI.2.2.2.2) k466 k468 kp3 k1 k469 rfl (BRep.obj hB) ⟨rfl, by decide, by decide, (show (parseMethodDescriptor yX3_remember.desc).map (fun d => d.parameters.length) = some 1 by decide +kernel)⟩ rfl (Nat.le_of_ble_eq_true rfl) (by rw [hRm]; decide) (by rw [hRm]; exact ⟨Nat.le_of_ble_eq_true rfl, Nat.le_of_ble_eq_true rfl⟩) (fun v1 M1 h1 => ?_) (fun _ _ h9 => by cases h9.1)
  obtain ⟨e1, hB1, hFA1⟩ := h1
  have e1 : (Sum.inl v1 : Res) = Sum.inl none := e1
  cases e1
  refine g_aload_n X dX3_support_21 rfl 0 rfl ?_
  refine g_get X dX3_support_22 (ci := 3) (k := 0) (v := .ref (hA A 0 0)) rfl k154 (by decide) rfl (BRep.obj hB1) rfl ?_
  refine g_iload_n X dX3_support_25 rfl 1 rfl ?_
  refine g_iload_n X dX3_support_26 rfl 2 rfl ?_
  refine g_iload_n X dX3_support_27 rfl 3 rfl ?_
  refine g_callV (As := [.int b, .int p, .int x]) (ci := 1) X dX3_support_28 (c_X1_second κ.l hl κ.Γ M1 (hA A 0) (w.1 0) (hB1.1 0 (by decide)) b p x vb vp) k763 k764 k765 k2 k766 rfl (hB1.1 0 (by decide)).obj ⟨rfl, by decide, by decide, (show (parseMethodDescriptor yX1_second.desc).map (fun d => d.parameters.length) = some 3 by decide +kernel)⟩ rfl (Nat.le_of_ble_eq_true rfl) (by rw [hRm]; decide) (by rw [hRm]; exact ⟨Nat.le_of_ble_eq_true rfl, Nat.le_of_ble_eq_true rfl⟩) (fun v2 M2 h2 => ?_) (fun _ _ h9 => by cases h9.1)
  obtain ⟨e2, hR2, hF2⟩ := h2
  cases e2
  have hB4 : BRep κ.Γ A (wH (wRem w (w.1 0)) 0 (aSecond (w.1 0) b p x)) M2 := BRep.hs hB1 (by decide) hR2 hF2
  have hFA5 : Fr A 315 M M2 := Fr.tr hFA1 (Fr.hA (h := 0) hF2 (by decide))
  exact g_iret X F dX3_support_31 (Nat.le_of_ble_eq_true rfl) (Nat.le_of_ble_eq_true rfl) (by unfold pSupport pCh; rw [pG_y g1]; exact ⟨rfl, hB4, hFA5⟩)
set_option maxRecDepth 100000 in
set_option maxHeartbeats 4000000 in
theorem c_X3_decide (l : Launch) (hl : l.stackTraces = false) (Γ : Gm) (M : Hp) (A : Nat → Nat) (w : PV) (hB : BRep Γ A w M) (hI : BInv w) (b : Int32) : Ct l Γ yX3_decide cX3_decide 2 (some .boolean) 3 3 18 [.ref (A 313), .int b] M (BMu Γ A (pDecide w b) M) := by
  refine Ct.of hl (by decide) (Nat.le_of_ble_eq_true rfl) rfl ?_
  intro κ e1 e2 hnL hRm X F hlt
  subst e1 e2
  refine g_aload_n X dX3_decide_0 rfl 0 rfl ?_
  refine g_get X dX3_decide_1 (ci := 3) (k := 0) (v := .ref (hA A 0 0)) rfl k154 (by decide) rfl (BRep.obj hB) rfl ?_
  refine g_iload_n X dX3_decide_4 rfl 1 rfl ?_
  refine g_callV_rd (As := [.int b]) (ci := 1) (v := some (.int (fDecide (w.1 0) b))) X dX3_decide_5 (c_X1_faultOfDecideFirst κ.l hl κ.Γ M (hA A 0) (w.1 0) (hB.1 0 (by decide)) (hI.1 0 (by decide)) b) k774 k775 k776 k2 k777 rfl (hB.1 0 (by decide)).obj ⟨rfl, by decide, by decide, (show (parseMethodDescriptor yX1_faultOfDecideFirst.desc).map (fun d => d.parameters.length) = some 1 by decide +kernel)⟩ rfl (Nat.le_of_ble_eq_true rfl) (by rw [hRm]; decide) (by rw [hRm]; exact ⟨Nat.le_of_ble_eq_true rfl, Nat.le_of_ble_eq_true rfl⟩) ?_
  refine g_gateS (As := [.int (fDecide (w.1 0) b)]) (ok := ok0 (fDecide (w.1 0) b)) (e := exn (fDecide (w.1 0) b)) X dX3_decide_8 (c_X3_refuse κ.l hl κ.Γ M (fDecide (w.1 0) b)) k382 k383 k1 k384 ⟨by decide, by decide, (show (parseMethodDescriptor yX3_refuse.desc).map (fun d => d.parameters.length) = some 1 by decide +kernel)⟩ rfl (Nat.le_of_ble_eq_true rfl) (by rw [hRm]; decide) (by rw [hRm]; exact ⟨Nat.le_of_ble_eq_true rfl, Nat.le_of_ble_eq_true rfl⟩) (fun g1 => ?_) (fun E7 M7 h7 => gx_out X F (Nat.le_of_ble_eq_true rfl) (Nat.le_of_ble_eq_true rfl) (by unfold pDecide pCh; exact Gate.x h7 hB))
  have vb := (hI.1 0 (by decide)).b (fDecide_ok g1)
  refine g_aload_n X dX3_decide_11 rfl 0 rfl ?_
  refine g_aload_n X dX3_decide_12 rfl 0 rfl ?_
  refine g_get X dX3_decide_13 (ci := 3) (k := 0) (v := .ref (hA A 0 0)) rfl k154 (by decide) rfl (BRep.obj hB) rfl ?_
  refine g_callV (As := [.ref (hA A 0 0)]) (ci := 3) X dX3_decide_16 (c_X3_remember κ.l hl κ.Γ M A w hB hI 0 (by decide) hI.2.2.2.2) k466 k468 kp3 k1 k469 rfl (BRep.obj hB) ⟨rfl, by decide, by decide, (show (parseMethodDescriptor yX3_remember.desc).map (fun d => d.parameters.length) = some 1 by decide +kernel)⟩ rfl (Nat.le_of_ble_eq_true rfl) (by rw [hRm]; decide) (by rw [hRm]; exact ⟨Nat.le_of_ble_eq_true rfl, Nat.le_of_ble_eq_true rfl⟩) (fun v1 M1 h1 => ?_) (fun _ _ h9 => by cases h9.1)
  obtain ⟨e1, hB1, hFA1⟩ := h1
  have e1 : (Sum.inl v1 : Res) = Sum.inl none := e1
  cases e1
  refine g_aload_n X dX3_decide_19 rfl 0 rfl ?_
  refine g_get X dX3_decide_20 (ci := 3) (k := 0) (v := .ref (hA A 0 0)) rfl k154 (by decide) rfl (BRep.obj hB1) rfl ?_
  refine g_iload_n X dX3_decide_23 rfl 1 rfl ?_
  refine g_callV (As := [.int b]) (ci := 1) X dX3_decide_24 (c_X1_decideFirst κ.l hl κ.Γ M1 (hA A 0) (w.1 0) (hB1.1 0 (by decide)) b vb) k778 k779 k780 k2 k781 rfl (hB1.1 0 (by decide)).obj ⟨rfl, by decide, by decide, (show (parseMethodDescriptor yX1_decideFirst.desc).map (fun d => d.parameters.length) = some 1 by decide +kernel)⟩ rfl (Nat.le_of_ble_eq_true rfl) (by rw [hRm]; decide) (by rw [hRm]; exact ⟨Nat.le_of_ble_eq_true rfl, Nat.le_of_ble_eq_true rfl⟩) (fun v2 M2 h2 => ?_) (fun _ _ h9 => by cases h9.1)
  obtain ⟨e2, hR2, hF2⟩ := h2
  cases e2
  have hB4 : BRep κ.Γ A (wH (wRem w (w.1 0)) 0 (aDecide (w.1 0) b)) M2 := BRep.hs hB1 (by decide) hR2 hF2
  have hFA5 : Fr A 315 M M2 := Fr.tr hFA1 (Fr.hA (h := 0) hF2 (by decide))
  exact g_zret X F dX3_decide_27 (Nat.le_of_ble_eq_true rfl) (Nat.le_of_ble_eq_true rfl) (bI_nar _) (by unfold pDecide pCh; rw [pG_y g1]; exact ⟨rfl, hB4, hFA5⟩)
set_option maxRecDepth 100000 in
set_option maxHeartbeats 4000000 in
theorem c_X3_ride (l : Launch) (hl : l.stackTraces = false) (Γ : Gm) (M : Hp) (A : Nat → Nat) (w : PV) (hB : BRep Γ A w M) (hI : BInv w) (x : Int32) (b : Int32) (n : Int32) : Ct l Γ yX3_ride cX3_ride 4 (some .int) 2 3 18 [.ref (A 313), .int x, .int b, .int n] M (BMu Γ A (pRide w x b n) M) := by
  refine Ct.of hl (by decide) (Nat.le_of_ble_eq_true rfl) rfl ?_
  intro κ e1 e2 hnL hRm X F hlt
  subst e1 e2
  refine g_aload_n X dX3_ride_0 rfl 0 rfl ?_
  refine g_get X dX3_ride_1 (ci := 3) (k := 0) (v := .ref (hA A 0 0)) rfl k154 (by decide) rfl (BRep.obj hB) rfl ?_
  refine g_iload_n X dX3_ride_4 rfl 1 rfl ?_
  refine g_iload_n X dX3_ride_5 rfl 2 rfl ?_
  refine g_iload_n X dX3_ride_6 rfl 3 rfl ?_
  refine g_callV_rd (As := [.int x, .int b, .int n]) (ci := 1) (v := some (.int (fHold (w.1 0) x b n))) X dX3_ride_7 (c_X1_faultOfHoldUp κ.l hl κ.Γ M (hA A 0) (w.1 0) (hB.1 0 (by decide)) (hI.1 0 (by decide)) x b n) k815 k816 k817 k2 k818 rfl (hB.1 0 (by decide)).obj ⟨rfl, by decide, by decide, (show (parseMethodDescriptor yX1_faultOfHoldUp.desc).map (fun d => d.parameters.length) = some 3 by decide +kernel)⟩ rfl (Nat.le_of_ble_eq_true rfl) (by rw [hRm]; decide) (by rw [hRm]; exact ⟨Nat.le_of_ble_eq_true rfl, Nat.le_of_ble_eq_true rfl⟩) ?_
  refine g_gateS (As := [.int (fHold (w.1 0) x b n)]) (ok := ok0 (fHold (w.1 0) x b n)) (e := exn (fHold (w.1 0) x b n)) X dX3_ride_10 (c_X3_refuse κ.l hl κ.Γ M (fHold (w.1 0) x b n)) k382 k383 k1 k384 ⟨by decide, by decide, (show (parseMethodDescriptor yX3_refuse.desc).map (fun d => d.parameters.length) = some 1 by decide +kernel)⟩ rfl (Nat.le_of_ble_eq_true rfl) (by rw [hRm]; decide) (by rw [hRm]; exact ⟨Nat.le_of_ble_eq_true rfl, Nat.le_of_ble_eq_true rfl⟩) (fun g1 => ?_) (fun E7 M7 h7 => gx_out X F (Nat.le_of_ble_eq_true rfl) (Nat.le_of_ble_eq_true rfl) (by unfold pRide pCh; exact Gate.x h7 hB))
  have vb := (hI.1 0 (by decide)).b (fHold_ok g1)
  refine g_aload_n X dX3_ride_13 rfl 0 rfl ?_
  refine g_aload_n X dX3_ride_14 rfl 0 rfl ?_
  refine g_get X dX3_ride_15 (ci := 3) (k := 0) (v := .ref (hA A 0 0)) rfl k154 (by decide) rfl (BRep.obj hB) rfl ?_
  refine g_callV (As := [.ref (hA A 0 0)]) (ci := 3) X dX3_ride_18 (c_X3_remember κ.l hl κ.Γ M A w hB hI 0 (by decide) hI.2.2.2.2) k466 k468 kp3 k1 k469 rfl (BRep.obj hB) ⟨rfl, by decide, by decide, (show (parseMethodDescriptor yX3_remember.desc).map (fun d => d.parameters.length) = some 1 by decide +kernel)⟩ rfl (Nat.le_of_ble_eq_true rfl) (by rw [hRm]; decide) (by rw [hRm]; exact ⟨Nat.le_of_ble_eq_true rfl, Nat.le_of_ble_eq_true rfl⟩) (fun v1 M1 h1 => ?_) (fun _ _ h9 => by cases h9.1)
  obtain ⟨e1, hB1, hFA1⟩ := h1
  have e1 : (Sum.inl v1 : Res) = Sum.inl none := e1
  cases e1
  refine g_aload_n X dX3_ride_21 rfl 0 rfl ?_
  refine g_get X dX3_ride_22 (ci := 3) (k := 0) (v := .ref (hA A 0 0)) rfl k154 (by decide) rfl (BRep.obj hB1) rfl ?_
  refine g_iload_n X dX3_ride_25 rfl 2 rfl ?_
  refine g_iload_n X dX3_ride_26 rfl 3 rfl ?_
  refine g_callV (As := [.int b, .int n]) (ci := 1) X dX3_ride_27 (c_X1_holdUp κ.l hl κ.Γ M1 (hA A 0) (w.1 0) (hB1.1 0 (by decide)) b n vb) k819 k820 k821 k2 k822 rfl (hB1.1 0 (by decide)).obj ⟨rfl, by decide, by decide, (show (parseMethodDescriptor yX1_holdUp.desc).map (fun d => d.parameters.length) = some 2 by decide +kernel)⟩ rfl (Nat.le_of_ble_eq_true rfl) (by rw [hRm]; decide) (by rw [hRm]; exact ⟨Nat.le_of_ble_eq_true rfl, Nat.le_of_ble_eq_true rfl⟩) (fun v2 M2 h2 => ?_) (fun _ _ h9 => by cases h9.1)
  obtain ⟨e2, hR2, hF2⟩ := h2
  cases e2
  have hB4 : BRep κ.Γ A (wH (wRem w (w.1 0)) 0 (aHold (w.1 0) b n)) M2 := BRep.hs hB1 (by decide) hR2 hF2
  have hFA5 : Fr A 315 M M2 := Fr.tr hFA1 (Fr.hA (h := 0) hF2 (by decide))
  exact g_iret X F dX3_ride_30 (Nat.le_of_ble_eq_true rfl) (Nat.le_of_ble_eq_true rfl) (by unfold pRide pCh; rw [pG_y g1]; exact ⟨rfl, hB4, hFA5⟩)
set_option maxRecDepth 100000 in
set_option maxHeartbeats 4000000 in
theorem c_X3_setQuorum (l : Launch) (hl : l.stackTraces = false) (Γ : Gm) (M : Hp) (A : Nat → Nat) (w : PV) (hB : BRep Γ A w M) (hI : BInv w) (n : Int32) : Ct l Γ yX3_setQuorum cX3_setQuorum 2 (some .int) 2 3 18 [.ref (A 313), .int n] M (BMu Γ A (pSetQuorum w n) M) := by
  refine Ct.of hl (by decide) (Nat.le_of_ble_eq_true rfl) rfl ?_
  intro κ e1 e2 hnL hRm X F hlt
  subst e1 e2
  refine g_aload_n X dX3_setQuorum_0 rfl 0 rfl ?_
  refine g_get X dX3_setQuorum_1 (ci := 3) (k := 0) (v := .ref (hA A 0 0)) rfl k154 (by decide) rfl (BRep.obj hB) rfl ?_
  refine g_iload_n X dX3_setQuorum_4 rfl 1 rfl ?_
  refine g_callV_rd (As := [.int n]) (ci := 1) (v := some (.int (fQuorum n))) X dX3_setQuorum_5 (c_X1_faultOfNewQuorum κ.l hl κ.Γ M (hA A 0) (w.1 0) (hB.1 0 (by decide)) (hI.1 0 (by decide)) n) k518 k519 k520 k2 k521 rfl (hB.1 0 (by decide)).obj ⟨rfl, by decide, by decide, (show (parseMethodDescriptor yX1_faultOfNewQuorum.desc).map (fun d => d.parameters.length) = some 1 by decide +kernel)⟩ rfl (Nat.le_of_ble_eq_true rfl) (by rw [hRm]; decide) (by rw [hRm]; exact ⟨Nat.le_of_ble_eq_true rfl, Nat.le_of_ble_eq_true rfl⟩) ?_
  refine g_gateS (As := [.int (fQuorum n)]) (ok := ok0 (fQuorum n)) (e := exn (fQuorum n)) X dX3_setQuorum_8 (c_X3_refuse κ.l hl κ.Γ M (fQuorum n)) k382 k383 k1 k384 ⟨by decide, by decide, (show (parseMethodDescriptor yX3_refuse.desc).map (fun d => d.parameters.length) = some 1 by decide +kernel)⟩ rfl (Nat.le_of_ble_eq_true rfl) (by rw [hRm]; decide) (by rw [hRm]; exact ⟨Nat.le_of_ble_eq_true rfl, Nat.le_of_ble_eq_true rfl⟩) (fun g1 => ?_) (fun E7 M7 h7 => gx_out X F (Nat.le_of_ble_eq_true rfl) (Nat.le_of_ble_eq_true rfl) (by unfold pSetQuorum pCh; exact Gate.x h7 hB))
  refine g_aload_n X dX3_setQuorum_11 rfl 0 rfl ?_
  refine g_aload_n X dX3_setQuorum_12 rfl 0 rfl ?_
  refine g_get X dX3_setQuorum_13 (ci := 3) (k := 0) (v := .ref (hA A 0 0)) rfl k154 (by decide) rfl (BRep.obj hB) rfl ?_
  refine g_callV (As := [.ref (hA A 0 0)]) (ci := 3) X dX3_setQuorum_16 (c_X3_remember κ.l hl κ.Γ M A w hB hI 0 (by decide) hI.2.2.2.2) k466 k468 kp3 k1 k469 rfl (BRep.obj hB) ⟨rfl, by decide, by decide, (show (parseMethodDescriptor yX3_remember.desc).map (fun d => d.parameters.length) = some 1 by decide +kernel)⟩ rfl (Nat.le_of_ble_eq_true rfl) (by rw [hRm]; decide) (by rw [hRm]; exact ⟨Nat.le_of_ble_eq_true rfl, Nat.le_of_ble_eq_true rfl⟩) (fun v1 M1 h1 => ?_) (fun _ _ h9 => by cases h9.1)
  obtain ⟨e1, hB1, hFA1⟩ := h1
  have e1 : (Sum.inl v1 : Res) = Sum.inl none := e1
  cases e1
  refine g_aload_n X dX3_setQuorum_19 rfl 0 rfl ?_
  refine g_get X dX3_setQuorum_20 (ci := 3) (k := 0) (v := .ref (hA A 0 0)) rfl k154 (by decide) rfl (BRep.obj hB1) rfl ?_
  refine g_iload_n X dX3_setQuorum_23 rfl 1 rfl ?_
  refine g_callV (As := [.int n]) (ci := 1) X dX3_setQuorum_24 (c_X1_newQuorum κ.l hl κ.Γ M1 (hA A 0) (w.1 0) (hB1.1 0 (by decide)) n ) k522 k523 k524 k2 k525 rfl (hB1.1 0 (by decide)).obj ⟨rfl, by decide, by decide, (show (parseMethodDescriptor yX1_newQuorum.desc).map (fun d => d.parameters.length) = some 1 by decide +kernel)⟩ rfl (Nat.le_of_ble_eq_true rfl) (by rw [hRm]; decide) (by rw [hRm]; exact ⟨Nat.le_of_ble_eq_true rfl, Nat.le_of_ble_eq_true rfl⟩) (fun v2 M2 h2 => ?_) (fun _ _ h9 => by cases h9.1)
  obtain ⟨e2, hR2, hF2⟩ := h2
  cases e2
  have hB4 : BRep κ.Γ A (wH (wRem w (w.1 0)) 0 (aQuorum (w.1 0) n)) M2 := BRep.hs hB1 (by decide) hR2 hF2
  have hFA5 : Fr A 315 M M2 := Fr.tr hFA1 (Fr.hA (h := 0) hF2 (by decide))
  exact g_iret X F dX3_setQuorum_27 (Nat.le_of_ble_eq_true rfl) (Nat.le_of_ble_eq_true rfl) (by unfold pSetQuorum pCh; rw [pG_y g1]; exact ⟨rfl, hB4, hFA5⟩)
