set_option maxRecDepth 100000 in
set_option maxHeartbeats 4000000 in
theorem c_L_addMember (l : Launch) (hl : l.stackTraces = false) (Γ : Gm) (M : Hp) (A : Nat → Nat) (w : PV) (hB : BRep Γ A w M) (hI : BInv w) (x : Int32) (y : Int32) (hx : WIn [eIdx, eArg, eSta] isI (pAddMember w x y).1) : CtW l Γ yL_addMember cL_addMember 5 (some .int) [(3, 10, 13, 17), (3, 10, 18, 19), (3, 10, 23, 21)] 3 3 18 [.ref (A 313), .int x, .int y] M (BMu Γ A (rI (wI (-100000000) (pAddMember w x y).1), (pAddMember w x y).2) M) := by
  refine CtW.of hl (by decide) (Nat.le_of_ble_eq_true rfl) rfl ?_
  intro κ e1 e2 hnL hRm X F hlt
  subst e1 e2
  refine g_ldc (v := (-100000000)) X dL_addMember_0 k5015 ?_
  refine g_istore_n (L' := [(3, .int (-100000000)), (0, .ref (A 313)), (1, .int x), (2, .int y)]) X dL_addMember_2 rfl (by rw [hnL]; decide) rfl ?_
  refine g_aload_n X dL_addMember_3 rfl 1 rfl ?_
  refine g_iload_n X dL_addMember_4 rfl 2 rfl ?_
  refine g_iload_n X dL_addMember_5 rfl 3 rfl ?_
  refine g_callV (As := [.int x, .int y]) (ci := 3) X dL_addMember_6 (c_X3_addMember κ.l hl κ.Γ M A w hB hI x y) k5016 k372 k373 k1 k374 rfl (BRep.obj hB) ⟨rfl, by decide, by decide, (show (parseMethodDescriptor yX3_addMember.desc).map (fun d => d.parameters.length) = some 2 by decide +kernel)⟩ rfl (Nat.le_of_ble_eq_true rfl) (by rw [hRm]; decide) (by rw [hRm]; exact ⟨Nat.le_of_ble_eq_true rfl, Nat.le_of_ble_eq_true rfl⟩) (fun v9 M9 h9 => ?_) (fun E9 M9 h9 => ?_)
  · obtain ⟨n9, rfl⟩ := WIn.int hx h9.1
    refine g_istore_n (L' := [(3, .int n9), (0, .ref (A 313)), (1, .int x), (2, .int y)]) X dL_addMember_9 rfl (by rw [hnL]; decide) rfl ?_
    refine g_goto (tgt := 28) X dL_addMember_10 (by decide) ?_
    refine g_iload_n X dL_addMember_28 rfl 0 rfl ?_
    exact g_iret X F dL_addMember_29 (Nat.le_of_ble_eq_true rfl) (Nat.le_of_ble_eq_true rfl) ⟨wI_ok h9.1, h9.2⟩
  · obtain ⟨k9, hk9⟩ := WIn.ex hx h9.1
    rcases hk9 with ⟨rfl, rfl⟩ | ⟨rfl, rfl⟩ | ⟨rfl, rfl⟩ | hk9
    · refine gx_catch (name := eIdx) X [] ⟨3, 10, 13, 17⟩ [⟨3, 10, 18, 19⟩, ⟨3, 10, 23, 21⟩] rfl (fun z9 hz9 => absurd hz9 List.not_mem_nil) rfl (by decide) k5011 k387 (fun q9 => ?_)
      refine g_astore (L' := [(4, .ref q9), (3, .int (-100000000)), (0, .ref (A 313)), (1, .int x), (2, .int y)]) X dL_addMember_13 (by rw [hnL]; decide) rfl ?_
      refine g_ldc (v := (-100000000)) X dL_addMember_15 k5015 ?_
      exact g_iret X F dL_addMember_17 (Nat.le_of_ble_eq_true rfl) (Nat.le_of_ble_eq_true rfl) ⟨wI_ex h9.1, h9.2⟩
    · refine gx_catch (name := eArg) X [⟨3, 10, 13, 17⟩] ⟨3, 10, 18, 19⟩ [⟨3, 10, 23, 21⟩] rfl (List.forall_mem_cons.mpr ⟨⟨by decide, eIdx, k5011, nc_eArg_eIdx⟩, (fun z9 hz9 => absurd hz9 List.not_mem_nil)⟩) rfl (by decide) k5013 k408 (fun q9 => ?_)
      refine g_astore (L' := [(4, .ref q9), (3, .int (-100000000)), (0, .ref (A 313)), (1, .int x), (2, .int y)]) X dL_addMember_18 (by rw [hnL]; decide) rfl ?_
      refine g_ldc (v := (-100000000)) X dL_addMember_20 k5015 ?_
      exact g_iret X F dL_addMember_22 (Nat.le_of_ble_eq_true rfl) (Nat.le_of_ble_eq_true rfl) ⟨wI_ex h9.1, h9.2⟩
    · refine gx_catch (name := eSta) X [⟨3, 10, 13, 17⟩, ⟨3, 10, 18, 19⟩] ⟨3, 10, 23, 21⟩ [] rfl (List.forall_mem_cons.mpr ⟨⟨by decide, eIdx, k5011, nc_eSta_eIdx⟩, (List.forall_mem_cons.mpr ⟨⟨by decide, eArg, k5013, nc_eSta_eArg⟩, (fun z9 hz9 => absurd hz9 List.not_mem_nil)⟩)⟩) rfl (by decide) k5014 k423 (fun q9 => ?_)
      refine g_astore (L' := [(4, .ref q9), (3, .int (-100000000)), (0, .ref (A 313)), (1, .int x), (2, .int y)]) X dL_addMember_23 (by rw [hnL]; decide) rfl ?_
      refine g_ldc (v := (-100000000)) X dL_addMember_25 k5015 ?_
      exact g_iret X F dL_addMember_27 (Nat.le_of_ble_eq_true rfl) (Nat.le_of_ble_eq_true rfl) ⟨wI_ex h9.1, h9.2⟩
    · exact hk9.elim
set_option maxRecDepth 100000 in
set_option maxHeartbeats 4000000 in
theorem c_L_enter (l : Launch) (hl : l.stackTraces = false) (Γ : Gm) (M : Hp) (A : Nat → Nat) (w : PV) (hB : BRep Γ A w M) (hI : BInv w) (x : Int32) (hx : WIn [eIdx, eSta] isI (pEnter w x).1) : CtW l Γ yL_enter cL_enter 4 (some .int) [(3, 9, 12, 17), (3, 9, 16, 21)] 3 3 18 [.ref (A 313), .int x] M (BMu Γ A (rI (wI (-100000000) (pEnter w x).1), (pEnter w x).2) M) := by
  refine CtW.of hl (by decide) (Nat.le_of_ble_eq_true rfl) rfl ?_
  intro κ e1 e2 hnL hRm X F hlt
  subst e1 e2
  refine g_ldc (v := (-100000000)) X dL_enter_0 k5015 ?_
  refine g_istore_n (L' := [(2, .int (-100000000)), (0, .ref (A 313)), (1, .int x)]) X dL_enter_2 rfl (by rw [hnL]; decide) rfl ?_
  refine g_aload_n X dL_enter_3 rfl 1 rfl ?_
  refine g_iload_n X dL_enter_4 rfl 2 rfl ?_
  refine g_callV (As := [.int x]) (ci := 3) X dL_enter_5 (c_X3_enter κ.l hl κ.Γ M A w hB hI x) k5019 k481 k482 k1 k483 rfl (BRep.obj hB) ⟨rfl, by decide, by decide, (show (parseMethodDescriptor yX3_enter.desc).map (fun d => d.parameters.length) = some 1 by decide +kernel)⟩ rfl (Nat.le_of_ble_eq_true rfl) (by rw [hRm]; decide) (by rw [hRm]; exact ⟨Nat.le_of_ble_eq_true rfl, Nat.le_of_ble_eq_true rfl⟩) (fun v9 M9 h9 => ?_) (fun E9 M9 h9 => ?_)
  · obtain ⟨n9, rfl⟩ := WIn.int hx h9.1
    refine g_istore_n (L' := [(2, .int n9), (0, .ref (A 313)), (1, .int x)]) X dL_enter_8 rfl (by rw [hnL]; decide) rfl ?_
    refine g_goto (tgt := 20) X dL_enter_9 (by decide) ?_
    refine g_iload_n X dL_enter_20 rfl 0 rfl ?_
    exact g_iret X F dL_enter_21 (Nat.le_of_ble_eq_true rfl) (Nat.le_of_ble_eq_true rfl) ⟨wI_ok h9.1, h9.2⟩
  · obtain ⟨k9, hk9⟩ := WIn.ex hx h9.1
    rcases hk9 with ⟨rfl, rfl⟩ | ⟨rfl, rfl⟩ | hk9
    · refine gx_catch (name := eIdx) X [] ⟨3, 9, 12, 17⟩ [⟨3, 9, 16, 21⟩] rfl (fun z9 hz9 => absurd hz9 List.not_mem_nil) rfl (by decide) k5011 k387 (fun q9 => ?_)
      refine g_astore_n (L' := [(3, .ref q9), (2, .int (-100000000)), (0, .ref (A 313)), (1, .int x)]) X dL_enter_12 rfl (by rw [hnL]; decide) rfl ?_
      refine g_ldc (v := (-100000000)) X dL_enter_13 k5015 ?_
      exact g_iret X F dL_enter_15 (Nat.le_of_ble_eq_true rfl) (Nat.le_of_ble_eq_true rfl) ⟨wI_ex h9.1, h9.2⟩
    · refine gx_catch (name := eSta) X [⟨3, 9, 12, 17⟩] ⟨3, 9, 16, 21⟩ [] rfl (List.forall_mem_cons.mpr ⟨⟨by decide, eIdx, k5011, nc_eSta_eIdx⟩, (fun z9 hz9 => absurd hz9 List.not_mem_nil)⟩) rfl (by decide) k5014 k423 (fun q9 => ?_)
      refine g_astore_n (L' := [(3, .ref q9), (2, .int (-100000000)), (0, .ref (A 313)), (1, .int x)]) X dL_enter_16 rfl (by rw [hnL]; decide) rfl ?_
      refine g_ldc (v := (-100000000)) X dL_enter_17 k5015 ?_
      exact g_iret X F dL_enter_19 (Nat.le_of_ble_eq_true rfl) (Nat.le_of_ble_eq_true rfl) ⟨wI_ex h9.1, h9.2⟩
    · exact hk9.elim
set_option maxRecDepth 100000 in
set_option maxHeartbeats 4000000 in
theorem c_L_setQuorum (l : Launch) (hl : l.stackTraces = false) (Γ : Gm) (M : Hp) (A : Nat → Nat) (w : PV) (hB : BRep Γ A w M) (hI : BInv w) (n : Int32) (hx : WIn [eArg] isI (pSetQuorum w n).1) : CtW l Γ yL_setQuorum cL_setQuorum 4 (some .int) [(3, 9, 12, 19)] 3 3 18 [.ref (A 313), .int n] M (BMu Γ A (rI (wI (-100000000) (pSetQuorum w n).1), (pSetQuorum w n).2) M) := by
  refine CtW.of hl (by decide) (Nat.le_of_ble_eq_true rfl) rfl ?_
  intro κ e1 e2 hnL hRm X F hlt
  subst e1 e2
  refine g_ldc (v := (-100000000)) X dL_setQuorum_0 k5015 ?_
  refine g_istore_n (L' := [(2, .int (-100000000)), (0, .ref (A 313)), (1, .int n)]) X dL_setQuorum_2 rfl (by rw [hnL]; decide) rfl ?_
  refine g_aload_n X dL_setQuorum_3 rfl 1 rfl ?_
  refine g_iload_n X dL_setQuorum_4 rfl 2 rfl ?_
  refine g_callV (As := [.int n]) (ci := 3) X dL_setQuorum_5 (c_X3_setQuorum κ.l hl κ.Γ M A w hB hI n) k5022 k515 k516 k1 k517 rfl (BRep.obj hB) ⟨rfl, by decide, by decide, (show (parseMethodDescriptor yX3_setQuorum.desc).map (fun d => d.parameters.length) = some 1 by decide +kernel)⟩ rfl (Nat.le_of_ble_eq_true rfl) (by rw [hRm]; decide) (by rw [hRm]; exact ⟨Nat.le_of_ble_eq_true rfl, Nat.le_of_ble_eq_true rfl⟩) (fun v9 M9 h9 => ?_) (fun E9 M9 h9 => ?_)
  · obtain ⟨n9, rfl⟩ := WIn.int hx h9.1
    refine g_istore_n (L' := [(2, .int n9), (0, .ref (A 313)), (1, .int n)]) X dL_setQuorum_8 rfl (by rw [hnL]; decide) rfl ?_
    refine g_goto (tgt := 16) X dL_setQuorum_9 (by decide) ?_
    refine g_iload_n X dL_setQuorum_16 rfl 0 rfl ?_
    exact g_iret X F dL_setQuorum_17 (Nat.le_of_ble_eq_true rfl) (Nat.le_of_ble_eq_true rfl) ⟨wI_ok h9.1, h9.2⟩
  · obtain ⟨k9, hk9⟩ := WIn.ex hx h9.1
    rcases hk9 with ⟨rfl, rfl⟩ | hk9
    · refine gx_catch (name := eArg) X [] ⟨3, 9, 12, 19⟩ [] rfl (fun z9 hz9 => absurd hz9 List.not_mem_nil) rfl (by decide) k5013 k408 (fun q9 => ?_)
      refine g_astore_n (L' := [(3, .ref q9), (2, .int (-100000000)), (0, .ref (A 313)), (1, .int n)]) X dL_setQuorum_12 rfl (by rw [hnL]; decide) rfl ?_
      refine g_ldc (v := (-100000000)) X dL_setQuorum_13 k5015 ?_
      exact g_iret X F dL_setQuorum_15 (Nat.le_of_ble_eq_true rfl) (Nat.le_of_ble_eq_true rfl) ⟨wI_ex h9.1, h9.2⟩
    · exact hk9.elim
set_option maxRecDepth 100000 in
set_option maxHeartbeats 4000000 in
theorem c_L_introduce (l : Launch) (hl : l.stackTraces = false) (Γ : Gm) (M : Hp) (A : Nat → Nat) (w : PV) (hB : BRep Γ A w M) (hI : BInv w) (x : Int32) (f : Int32) (la : Int32) (hx : WIn [eIdx, eArg, eSta, eUns] isI (pIntroduce w x f la).1) : CtW l Γ yL_introduce cL_introduce 6 (some .int) [(4, 13, 16, 17), (4, 13, 21, 19), (4, 13, 26, 21), (4, 13, 31, 37)] 3 3 18 [.ref (A 313), .int x, .int f, .int la] M (BMu Γ A (rI (wI (-100000000) (pIntroduce w x f la).1), (pIntroduce w x f la).2) M) := by
  refine CtW.of hl (by decide) (Nat.le_of_ble_eq_true rfl) rfl ?_
  intro κ e1 e2 hnL hRm X F hlt
  subst e1 e2
  refine g_ldc (v := (-100000000)) X dL_introduce_0 k5015 ?_
  refine g_istore (L' := [(4, .int (-100000000)), (0, .ref (A 313)), (1, .int x), (2, .int f), (3, .int la)]) X dL_introduce_2 (by rw [hnL]; decide) rfl ?_
  refine g_aload_n X dL_introduce_4 rfl 1 rfl ?_
  refine g_iload_n X dL_introduce_5 rfl 2 rfl ?_
  refine g_iload_n X dL_introduce_6 rfl 3 rfl ?_
  refine g_iload_n X dL_introduce_7 rfl 4 rfl ?_
  refine g_callV (As := [.int x, .int f, .int la]) (ci := 3) X dL_introduce_8 (c_X3_introduce κ.l hl κ.Γ M A w hB hI x f la) k5026 k566 k567 k1 k568 rfl (BRep.obj hB) ⟨rfl, by decide, by decide, (show (parseMethodDescriptor yX3_introduce.desc).map (fun d => d.parameters.length) = some 3 by decide +kernel)⟩ rfl (Nat.le_of_ble_eq_true rfl) (by rw [hRm]; decide) (by rw [hRm]; exact ⟨Nat.le_of_ble_eq_true rfl, Nat.le_of_ble_eq_true rfl⟩) (fun v9 M9 h9 => ?_) (fun E9 M9 h9 => ?_)
  · obtain ⟨n9, rfl⟩ := WIn.int hx h9.1
    refine g_istore (L' := [(4, .int n9), (0, .ref (A 313)), (1, .int x), (2, .int f), (3, .int la)]) X dL_introduce_11 (by rw [hnL]; decide) rfl ?_
    refine g_goto (tgt := 36) X dL_introduce_13 (by decide) ?_
    refine g_iload X dL_introduce_36 0 rfl ?_
    exact g_iret X F dL_introduce_38 (Nat.le_of_ble_eq_true rfl) (Nat.le_of_ble_eq_true rfl) ⟨wI_ok h9.1, h9.2⟩
  · obtain ⟨k9, hk9⟩ := WIn.ex hx h9.1
    rcases hk9 with ⟨rfl, rfl⟩ | ⟨rfl, rfl⟩ | ⟨rfl, rfl⟩ | ⟨rfl, rfl⟩ | hk9
    · refine gx_catch (name := eIdx) X [] ⟨4, 13, 16, 17⟩ [⟨4, 13, 21, 19⟩, ⟨4, 13, 26, 21⟩, ⟨4, 13, 31, 37⟩] rfl (fun z9 hz9 => absurd hz9 List.not_mem_nil) rfl (by decide) k5011 k387 (fun q9 => ?_)
      refine g_astore (L' := [(5, .ref q9), (4, .int (-100000000)), (0, .ref (A 313)), (1, .int x), (2, .int f), (3, .int la)]) X dL_introduce_16 (by rw [hnL]; decide) rfl ?_
      refine g_ldc (v := (-100000000)) X dL_introduce_18 k5015 ?_
      exact g_iret X F dL_introduce_20 (Nat.le_of_ble_eq_true rfl) (Nat.le_of_ble_eq_true rfl) ⟨wI_ex h9.1, h9.2⟩
    · refine gx_catch (name := eArg) X [⟨4, 13, 16, 17⟩] ⟨4, 13, 21, 19⟩ [⟨4, 13, 26, 21⟩, ⟨4, 13, 31, 37⟩] rfl (List.forall_mem_cons.mpr ⟨⟨by decide, eIdx, k5011, nc_eArg_eIdx⟩, (fun z9 hz9 => absurd hz9 List.not_mem_nil)⟩) rfl (by decide) k5013 k408 (fun q9 => ?_)
      refine g_astore (L' := [(5, .ref q9), (4, .int (-100000000)), (0, .ref (A 313)), (1, .int x), (2, .int f), (3, .int la)]) X dL_introduce_21 (by rw [hnL]; decide) rfl ?_
      refine g_ldc (v := (-100000000)) X dL_introduce_23 k5015 ?_
      exact g_iret X F dL_introduce_25 (Nat.le_of_ble_eq_true rfl) (Nat.le_of_ble_eq_true rfl) ⟨wI_ex h9.1, h9.2⟩
    · refine gx_catch (name := eSta) X [⟨4, 13, 16, 17⟩, ⟨4, 13, 21, 19⟩] ⟨4, 13, 26, 21⟩ [⟨4, 13, 31, 37⟩] rfl (List.forall_mem_cons.mpr ⟨⟨by decide, eIdx, k5011, nc_eSta_eIdx⟩, (List.forall_mem_cons.mpr ⟨⟨by decide, eArg, k5013, nc_eSta_eArg⟩, (fun z9 hz9 => absurd hz9 List.not_mem_nil)⟩)⟩) rfl (by decide) k5014 k423 (fun q9 => ?_)
      refine g_astore (L' := [(5, .ref q9), (4, .int (-100000000)), (0, .ref (A 313)), (1, .int x), (2, .int f), (3, .int la)]) X dL_introduce_26 (by rw [hnL]; decide) rfl ?_
      refine g_ldc (v := (-100000000)) X dL_introduce_28 k5015 ?_
      exact g_iret X F dL_introduce_30 (Nat.le_of_ble_eq_true rfl) (Nat.le_of_ble_eq_true rfl) ⟨wI_ex h9.1, h9.2⟩
    · refine gx_catch (name := eUns) X [⟨4, 13, 16, 17⟩, ⟨4, 13, 21, 19⟩, ⟨4, 13, 26, 21⟩] ⟨4, 13, 31, 37⟩ [] rfl (List.forall_mem_cons.mpr ⟨⟨by decide, eIdx, k5011, nc_eUns_eIdx⟩, (List.forall_mem_cons.mpr ⟨⟨by decide, eArg, k5013, nc_eUns_eArg⟩, (List.forall_mem_cons.mpr ⟨⟨by decide, eSta, k5014, nc_eUns_eSta⟩, (fun z9 hz9 => absurd hz9 List.not_mem_nil)⟩)⟩)⟩) rfl (by decide) k5025 k453 (fun q9 => ?_)
      refine g_astore (L' := [(5, .ref q9), (4, .int (-100000000)), (0, .ref (A 313)), (1, .int x), (2, .int f), (3, .int la)]) X dL_introduce_31 (by rw [hnL]; decide) rfl ?_
      refine g_ldc (v := (-100000000)) X dL_introduce_33 k5015 ?_
      exact g_iret X F dL_introduce_35 (Nat.le_of_ble_eq_true rfl) (Nat.le_of_ble_eq_true rfl) ⟨wI_ex h9.1, h9.2⟩
    · exact hk9.elim
set_option maxRecDepth 100000 in
set_option maxHeartbeats 4000000 in
theorem c_L_voteFor (l : Launch) (hl : l.stackTraces = false) (Γ : Gm) (M : Hp) (A : Nat → Nat) (w : PV) (hB : BRep Γ A w M) (hI : BInv w) (b : Int32) (x : Int32) (hx : WIn [eIdx, eSta, eUns] isI (pVoteFor w b x).1) : CtW l Γ yL_voteFor cL_voteFor 5 (some .int) [(3, 10, 13, 17), (3, 10, 18, 21), (3, 10, 23, 37)] 3 3 18 [.ref (A 313), .int b, .int x] M (BMu Γ A (rI (wI (-100000000) (pVoteFor w b x).1), (pVoteFor w b x).2) M) := by
  refine CtW.of hl (by decide) (Nat.le_of_ble_eq_true rfl) rfl ?_
  intro κ e1 e2 hnL hRm X F hlt
  subst e1 e2
  refine g_ldc (v := (-100000000)) X dL_voteFor_0 k5015 ?_
  refine g_istore_n (L' := [(3, .int (-100000000)), (0, .ref (A 313)), (1, .int b), (2, .int x)]) X dL_voteFor_2 rfl (by rw [hnL]; decide) rfl ?_
  refine g_aload_n X dL_voteFor_3 rfl 1 rfl ?_
  refine g_iload_n X dL_voteFor_4 rfl 2 rfl ?_
  refine g_iload_n X dL_voteFor_5 rfl 3 rfl ?_
  refine g_callV (As := [.int b, .int x]) (ci := 3) X dL_voteFor_6 (c_X3_voteFor κ.l hl κ.Γ M A w hB hI b x) k5029 k668 k669 k1 k670 rfl (BRep.obj hB) ⟨rfl, by decide, by decide, (show (parseMethodDescriptor yX3_voteFor.desc).map (fun d => d.parameters.length) = some 2 by decide +kernel)⟩ rfl (Nat.le_of_ble_eq_true rfl) (by rw [hRm]; decide) (by rw [hRm]; exact ⟨Nat.le_of_ble_eq_true rfl, Nat.le_of_ble_eq_true rfl⟩) (fun v9 M9 h9 => ?_) (fun E9 M9 h9 => ?_)
  · obtain ⟨n9, rfl⟩ := WIn.int hx h9.1
    refine g_istore_n (L' := [(3, .int n9), (0, .ref (A 313)), (1, .int b), (2, .int x)]) X dL_voteFor_9 rfl (by rw [hnL]; decide) rfl ?_
    refine g_goto (tgt := 28) X dL_voteFor_10 (by decide) ?_
    refine g_iload_n X dL_voteFor_28 rfl 0 rfl ?_
    exact g_iret X F dL_voteFor_29 (Nat.le_of_ble_eq_true rfl) (Nat.le_of_ble_eq_true rfl) ⟨wI_ok h9.1, h9.2⟩
  · obtain ⟨k9, hk9⟩ := WIn.ex hx h9.1
    rcases hk9 with ⟨rfl, rfl⟩ | ⟨rfl, rfl⟩ | ⟨rfl, rfl⟩ | hk9
    · refine gx_catch (name := eIdx) X [] ⟨3, 10, 13, 17⟩ [⟨3, 10, 18, 21⟩, ⟨3, 10, 23, 37⟩] rfl (fun z9 hz9 => absurd hz9 List.not_mem_nil) rfl (by decide) k5011 k387 (fun q9 => ?_)
      refine g_astore (L' := [(4, .ref q9), (3, .int (-100000000)), (0, .ref (A 313)), (1, .int b), (2, .int x)]) X dL_voteFor_13 (by rw [hnL]; decide) rfl ?_
      refine g_ldc (v := (-100000000)) X dL_voteFor_15 k5015 ?_
      exact g_iret X F dL_voteFor_17 (Nat.le_of_ble_eq_true rfl) (Nat.le_of_ble_eq_true rfl) ⟨wI_ex h9.1, h9.2⟩
    · refine gx_catch (name := eSta) X [⟨3, 10, 13, 17⟩] ⟨3, 10, 18, 21⟩ [⟨3, 10, 23, 37⟩] rfl (List.forall_mem_cons.mpr ⟨⟨by decide, eIdx, k5011, nc_eSta_eIdx⟩, (fun z9 hz9 => absurd hz9 List.not_mem_nil)⟩) rfl (by decide) k5014 k423 (fun q9 => ?_)
      refine g_astore (L' := [(4, .ref q9), (3, .int (-100000000)), (0, .ref (A 313)), (1, .int b), (2, .int x)]) X dL_voteFor_18 (by rw [hnL]; decide) rfl ?_
      refine g_ldc (v := (-100000000)) X dL_voteFor_20 k5015 ?_
      exact g_iret X F dL_voteFor_22 (Nat.le_of_ble_eq_true rfl) (Nat.le_of_ble_eq_true rfl) ⟨wI_ex h9.1, h9.2⟩
    · refine gx_catch (name := eUns) X [⟨3, 10, 13, 17⟩, ⟨3, 10, 18, 21⟩] ⟨3, 10, 23, 37⟩ [] rfl (List.forall_mem_cons.mpr ⟨⟨by decide, eIdx, k5011, nc_eUns_eIdx⟩, (List.forall_mem_cons.mpr ⟨⟨by decide, eSta, k5014, nc_eUns_eSta⟩, (fun z9 hz9 => absurd hz9 List.not_mem_nil)⟩)⟩) rfl (by decide) k5025 k453 (fun q9 => ?_)
      refine g_astore (L' := [(4, .ref q9), (3, .int (-100000000)), (0, .ref (A 313)), (1, .int b), (2, .int x)]) X dL_voteFor_23 (by rw [hnL]; decide) rfl ?_
      refine g_ldc (v := (-100000000)) X dL_voteFor_25 k5015 ?_
      exact g_iret X F dL_voteFor_27 (Nat.le_of_ble_eq_true rfl) (Nat.le_of_ble_eq_true rfl) ⟨wI_ex h9.1, h9.2⟩
    · exact hk9.elim
set_option maxRecDepth 100000 in
set_option maxHeartbeats 4000000 in
theorem c_L_propose (l : Launch) (hl : l.stackTraces = false) (Γ : Gm) (M : Hp) (A : Nat → Nat) (w : PV) (hB : BRep Γ A w M) (hI : BInv w) (b : Int32) (x : Int32) (c : Int32) (hx : WIn [eIdx, eSta, eUns] isI (pPropose w b x c).1) : CtW l Γ yL_propose cL_propose 6 (some .int) [(4, 13, 16, 17), (4, 13, 21, 21), (4, 13, 26, 37)] 3 3 18 [.ref (A 313), .int b, .int x, .int c] M (BMu Γ A (rI (wI (-100000000) (pPropose w b x c).1), (pPropose w b x c).2) M) := by
  refine CtW.of hl (by decide) (Nat.le_of_ble_eq_true rfl) rfl ?_
  intro κ e1 e2 hnL hRm X F hlt
  subst e1 e2
  refine g_ldc (v := (-100000000)) X dL_propose_0 k5015 ?_
  refine g_istore (L' := [(4, .int (-100000000)), (0, .ref (A 313)), (1, .int b), (2, .int x), (3, .int c)]) X dL_propose_2 (by rw [hnL]; decide) rfl ?_
  refine g_aload_n X dL_propose_4 rfl 1 rfl ?_
  refine g_iload_n X dL_propose_5 rfl 2 rfl ?_
  refine g_iload_n X dL_propose_6 rfl 3 rfl ?_
  refine g_iload_n X dL_propose_7 rfl 4 rfl ?_
  refine g_callV (As := [.int b, .int x, .int c]) (ci := 3) X dL_propose_8 (c_X3_propose κ.l hl κ.Γ M A w hB hI b x c) k5032 k737 k738 k1 k739 rfl (BRep.obj hB) ⟨rfl, by decide, by decide, (show (parseMethodDescriptor yX3_propose.desc).map (fun d => d.parameters.length) = some 3 by decide +kernel)⟩ rfl (Nat.le_of_ble_eq_true rfl) (by rw [hRm]; decide) (by rw [hRm]; exact ⟨Nat.le_of_ble_eq_true rfl, Nat.le_of_ble_eq_true rfl⟩) (fun v9 M9 h9 => ?_) (fun E9 M9 h9 => ?_)
  · obtain ⟨n9, rfl⟩ := WIn.int hx h9.1
    refine g_istore (L' := [(4, .int n9), (0, .ref (A 313)), (1, .int b), (2, .int x), (3, .int c)]) X dL_propose_11 (by rw [hnL]; decide) rfl ?_
    refine g_goto (tgt := 31) X dL_propose_13 (by decide) ?_
    refine g_iload X dL_propose_31 0 rfl ?_
    exact g_iret X F dL_propose_33 (Nat.le_of_ble_eq_true rfl) (Nat.le_of_ble_eq_true rfl) ⟨wI_ok h9.1, h9.2⟩
  · obtain ⟨k9, hk9⟩ := WIn.ex hx h9.1
    rcases hk9 with ⟨rfl, rfl⟩ | ⟨rfl, rfl⟩ | ⟨rfl, rfl⟩ | hk9
    · refine gx_catch (name := eIdx) X [] ⟨4, 13, 16, 17⟩ [⟨4, 13, 21, 21⟩, ⟨4, 13, 26, 37⟩] rfl (fun z9 hz9 => absurd hz9 List.not_mem_nil) rfl (by decide) k5011 k387 (fun q9 => ?_)
      refine g_astore (L' := [(5, .ref q9), (4, .int (-100000000)), (0, .ref (A 313)), (1, .int b), (2, .int x), (3, .int c)]) X dL_propose_16 (by rw [hnL]; decide) rfl ?_
      refine g_ldc (v := (-100000000)) X dL_propose_18 k5015 ?_
      exact g_iret X F dL_propose_20 (Nat.le_of_ble_eq_true rfl) (Nat.le_of_ble_eq_true rfl) ⟨wI_ex h9.1, h9.2⟩
    · refine gx_catch (name := eSta) X [⟨4, 13, 16, 17⟩] ⟨4, 13, 21, 21⟩ [⟨4, 13, 26, 37⟩] rfl (List.forall_mem_cons.mpr ⟨⟨by decide, eIdx, k5011, nc_eSta_eIdx⟩, (fun z9 hz9 => absurd hz9 List.not_mem_nil)⟩) rfl (by decide) k5014 k423 (fun q9 => ?_)
      refine g_astore (L' := [(5, .ref q9), (4, .int (-100000000)), (0, .ref (A 313)), (1, .int b), (2, .int x), (3, .int c)]) X dL_propose_21 (by rw [hnL]; decide) rfl ?_
      refine g_ldc (v := (-100000000)) X dL_propose_23 k5015 ?_
      exact g_iret X F dL_propose_25 (Nat.le_of_ble_eq_true rfl) (Nat.le_of_ble_eq_true rfl) ⟨wI_ex h9.1, h9.2⟩
    · refine gx_catch (name := eUns) X [⟨4, 13, 16, 17⟩, ⟨4, 13, 21, 21⟩] ⟨4, 13, 26, 37⟩ [] rfl (List.forall_mem_cons.mpr ⟨⟨by decide, eIdx, k5011, nc_eUns_eIdx⟩, (List.forall_mem_cons.mpr ⟨⟨by decide, eSta, k5014, nc_eUns_eSta⟩, (fun z9 hz9 => absurd hz9 List.not_mem_nil)⟩)⟩) rfl (by decide) k5025 k453 (fun q9 => ?_)
      refine g_astore (L' := [(5, .ref q9), (4, .int (-100000000)), (0, .ref (A 313)), (1, .int b), (2, .int x), (3, .int c)]) X dL_propose_26 (by rw [hnL]; decide) rfl ?_
      refine g_ldc (v := (-100000000)) X dL_propose_28 k5015 ?_
      exact g_iret X F dL_propose_30 (Nat.le_of_ble_eq_true rfl) (Nat.le_of_ble_eq_true rfl) ⟨wI_ex h9.1, h9.2⟩
    · exact hk9.elim
set_option maxRecDepth 100000 in
set_option maxHeartbeats 4000000 in
theorem c_L_run (l : Launch) (hl : l.stackTraces = false) (Γ : Gm) (M : Hp) (A : Nat → Nat) (w : PV) (hB : BRep Γ A w M) (hI : BInv w)  (hx : WIn [eArg, eSta] isI (pRun w).1) : CtW l Γ yL_run cL_run 3 (some .int) [(3, 8, 11, 19), (3, 8, 15, 21)] 7 3 18 [.ref (A 313)] M (BMu Γ A (rI (wI (-100000000) (pRun w).1), (pRun w).2) M) := by
  refine CtW.of hl (by decide) (Nat.le_of_ble_eq_true rfl) rfl ?_
  intro κ e1 e2 hnL hRm X F hlt
  subst e1 e2
  refine g_ldc (v := (-100000000)) X dL_run_0 k5015 ?_
  refine g_istore_n (L' := [(1, .int (-100000000)), (0, .ref (A 313))]) X dL_run_2 rfl (by rw [hnL]; decide) rfl ?_
  refine g_aload_n X dL_run_3 rfl 1 rfl ?_
  refine g_callV (As := []) (ci := 3) X dL_run_4 (c_X3_run κ.l hl κ.Γ M A w hB hI ) k5035 k864 k865 k1 k866 rfl (BRep.obj hB) ⟨rfl, by decide, by decide, (show (parseMethodDescriptor yX3_run.desc).map (fun d => d.parameters.length) = some 0 by decide +kernel)⟩ rfl (Nat.le_of_ble_eq_true rfl) (by rw [hRm]; decide) (by rw [hRm]; exact ⟨Nat.le_of_ble_eq_true rfl, Nat.le_of_ble_eq_true rfl⟩) (fun v9 M9 h9 => ?_) (fun E9 M9 h9 => ?_)
  · obtain ⟨n9, rfl⟩ := WIn.int hx h9.1
    refine g_istore_n (L' := [(1, .int n9), (0, .ref (A 313))]) X dL_run_7 rfl (by rw [hnL]; decide) rfl ?_
    refine g_goto (tgt := 19) X dL_run_8 (by decide) ?_
    refine g_iload_n X dL_run_19 rfl 0 rfl ?_
    exact g_iret X F dL_run_20 (Nat.le_of_ble_eq_true rfl) (Nat.le_of_ble_eq_true rfl) ⟨wI_ok h9.1, h9.2⟩
  · obtain ⟨k9, hk9⟩ := WIn.ex hx h9.1
    rcases hk9 with ⟨rfl, rfl⟩ | ⟨rfl, rfl⟩ | hk9
    · refine gx_catch (name := eArg) X [] ⟨3, 8, 11, 19⟩ [⟨3, 8, 15, 21⟩] rfl (fun z9 hz9 => absurd hz9 List.not_mem_nil) rfl (by decide) k5013 k408 (fun q9 => ?_)
      refine g_astore_n (L' := [(2, .ref q9), (1, .int (-100000000)), (0, .ref (A 313))]) X dL_run_11 rfl (by rw [hnL]; decide) rfl ?_
      refine g_ldc (v := (-100000000)) X dL_run_12 k5015 ?_
      exact g_iret X F dL_run_14 (Nat.le_of_ble_eq_true rfl) (Nat.le_of_ble_eq_true rfl) ⟨wI_ex h9.1, h9.2⟩
    · refine gx_catch (name := eSta) X [⟨3, 8, 11, 19⟩] ⟨3, 8, 15, 21⟩ [] rfl (List.forall_mem_cons.mpr ⟨⟨by decide, eArg, k5013, nc_eSta_eArg⟩, (fun z9 hz9 => absurd hz9 List.not_mem_nil)⟩) rfl (by decide) k5014 k423 (fun q9 => ?_)
      refine g_astore_n (L' := [(2, .ref q9), (1, .int (-100000000)), (0, .ref (A 313))]) X dL_run_15 rfl (by rw [hnL]; decide) rfl ?_
      refine g_ldc (v := (-100000000)) X dL_run_16 k5015 ?_
      exact g_iret X F dL_run_18 (Nat.le_of_ble_eq_true rfl) (Nat.le_of_ble_eq_true rfl) ⟨wI_ex h9.1, h9.2⟩
    · exact hk9.elim
set_option maxRecDepth 100000 in
set_option maxHeartbeats 4000000 in
theorem c_L_failedCommand (l : Launch) (hl : l.stackTraces = false) (Γ : Gm) (M : Hp) (A : Nat → Nat) (w : PV) (hB : BRep Γ A w M) (hI : BInv w)  (hx : WIn [eEle] isI (pFailedCommand w).1) : CtW l Γ yL_failedCommand cL_failedCommand 3 (some .int) [(4, 9, 12, 42)] 1 3 18 [.ref (A 313)] M (BMu Γ A (rI (wI (-1000) (pFailedCommand w).1), (pFailedCommand w).2) M) := by
  refine CtW.of hl (by decide) (Nat.le_of_ble_eq_true rfl) rfl ?_
  intro κ e1 e2 hnL hRm X F hlt
  subst e1 e2
  refine g_sipush (v := (-1000)) X dL_failedCommand_0 (by decide) ?_
  refine g_istore_n (L' := [(1, .int (-1000)), (0, .ref (A 313))]) X dL_failedCommand_3 rfl (by rw [hnL]; decide) rfl ?_
  refine g_aload_n X dL_failedCommand_4 rfl 1 rfl ?_
  refine g_callV (As := []) (ci := 3) X dL_failedCommand_5 (c_X3_failedCommand κ.l hl κ.Γ M A w hB hI ) k5039 k996 k997 k1 k998 rfl (BRep.obj hB) ⟨rfl, by decide, by decide, (show (parseMethodDescriptor yX3_failedCommand.desc).map (fun d => d.parameters.length) = some 0 by decide +kernel)⟩ rfl (Nat.le_of_ble_eq_true rfl) (by rw [hRm]; decide) (by rw [hRm]; exact ⟨Nat.le_of_ble_eq_true rfl, Nat.le_of_ble_eq_true rfl⟩) (fun v9 M9 h9 => ?_) (fun E9 M9 h9 => ?_)
  · obtain ⟨n9, rfl⟩ := WIn.int hx h9.1
    refine g_istore_n (L' := [(1, .int n9), (0, .ref (A 313))]) X dL_failedCommand_8 rfl (by rw [hnL]; decide) rfl ?_
    refine g_goto (tgt := 17) X dL_failedCommand_9 (by decide) ?_
    refine g_iload_n X dL_failedCommand_17 rfl 0 rfl ?_
    exact g_iret X F dL_failedCommand_18 (Nat.le_of_ble_eq_true rfl) (Nat.le_of_ble_eq_true rfl) ⟨wI_ok h9.1, h9.2⟩
  · obtain ⟨k9, hk9⟩ := WIn.ex hx h9.1
    rcases hk9 with ⟨rfl, rfl⟩ | hk9
    · refine gx_catch (name := eEle) X [] ⟨4, 9, 12, 42⟩ [] rfl (fun z9 hz9 => absurd hz9 List.not_mem_nil) rfl (by decide) k5038 k438 (fun q9 => ?_)
      refine g_astore_n (L' := [(2, .ref q9), (1, .int (-1000)), (0, .ref (A 313))]) X dL_failedCommand_12 rfl (by rw [hnL]; decide) rfl ?_
      refine g_sipush (v := (-1000)) X dL_failedCommand_13 (by decide) ?_
      exact g_iret X F dL_failedCommand_16 (Nat.le_of_ble_eq_true rfl) (Nat.le_of_ble_eq_true rfl) ⟨wI_ex h9.1, h9.2⟩
    · exact hk9.elim
set_option maxRecDepth 100000 in
set_option maxHeartbeats 4000000 in
theorem c_L_undo (l : Launch) (hl : l.stackTraces = false) (Γ : Gm) (M : Hp) (A : Nat → Nat) (w : PV) (hB : BRep Γ A w M) (hI : BInv w)  (hx : WIn [eSta] isI (pUndo w).1) : CtW l Γ yL_undo cL_undo 3 (some .int) [(3, 8, 11, 21)] 2 3 18 [.ref (A 313)] M (BMu Γ A (rI (wI (-100000000) (pUndo w).1), (pUndo w).2) M) := by
  refine CtW.of hl (by decide) (Nat.le_of_ble_eq_true rfl) rfl ?_
  intro κ e1 e2 hnL hRm X F hlt
  subst e1 e2
  refine g_ldc (v := (-100000000)) X dL_undo_0 k5015 ?_
  refine g_istore_n (L' := [(1, .int (-100000000)), (0, .ref (A 313))]) X dL_undo_2 rfl (by rw [hnL]; decide) rfl ?_
  refine g_aload_n X dL_undo_3 rfl 1 rfl ?_
  refine g_callV (As := []) (ci := 3) X dL_undo_4 (c_X3_undo κ.l hl κ.Γ M A w hB hI ) k5042 k1072 k1073 k1 k1074 rfl (BRep.obj hB) ⟨rfl, by decide, by decide, (show (parseMethodDescriptor yX3_undo.desc).map (fun d => d.parameters.length) = some 0 by decide +kernel)⟩ rfl (Nat.le_of_ble_eq_true rfl) (by rw [hRm]; decide) (by rw [hRm]; exact ⟨Nat.le_of_ble_eq_true rfl, Nat.le_of_ble_eq_true rfl⟩) (fun v9 M9 h9 => ?_) (fun E9 M9 h9 => ?_)
  · obtain ⟨n9, rfl⟩ := WIn.int hx h9.1
    refine g_istore_n (L' := [(1, .int n9), (0, .ref (A 313))]) X dL_undo_7 rfl (by rw [hnL]; decide) rfl ?_
    refine g_goto (tgt := 15) X dL_undo_8 (by decide) ?_
    refine g_iload_n X dL_undo_15 rfl 0 rfl ?_
    exact g_iret X F dL_undo_16 (Nat.le_of_ble_eq_true rfl) (Nat.le_of_ble_eq_true rfl) ⟨wI_ok h9.1, h9.2⟩
  · obtain ⟨k9, hk9⟩ := WIn.ex hx h9.1
    rcases hk9 with ⟨rfl, rfl⟩ | hk9
    · refine gx_catch (name := eSta) X [] ⟨3, 8, 11, 21⟩ [] rfl (fun z9 hz9 => absurd hz9 List.not_mem_nil) rfl (by decide) k5014 k423 (fun q9 => ?_)
      refine g_astore_n (L' := [(2, .ref q9), (1, .int (-100000000)), (0, .ref (A 313))]) X dL_undo_11 rfl (by rw [hnL]; decide) rfl ?_
      refine g_ldc (v := (-100000000)) X dL_undo_12 k5015 ?_
      exact g_iret X F dL_undo_14 (Nat.le_of_ble_eq_true rfl) (Nat.le_of_ble_eq_true rfl) ⟨wI_ex h9.1, h9.2⟩
    · exact hk9.elim
set_option maxRecDepth 100000 in
set_option maxHeartbeats 4000000 in
theorem c_L_restore (l : Launch) (hl : l.stackTraces = false) (Γ : Gm) (M : Hp) (A : Nat → Nat) (w : PV) (hB : BRep Γ A w M) (hI : BInv w)  (hx : WIn [eSta] isI (pRestore w).1) : CtW l Γ yL_restore cL_restore 3 (some .int) [(3, 8, 11, 21)] 2 3 18 [.ref (A 313)] M (BMu Γ A (rI (wI (-100000000) (pRestore w).1), (pRestore w).2) M) := by
  refine CtW.of hl (by decide) (Nat.le_of_ble_eq_true rfl) rfl ?_
  intro κ e1 e2 hnL hRm X F hlt
  subst e1 e2
  refine g_ldc (v := (-100000000)) X dL_restore_0 k5015 ?_
  refine g_istore_n (L' := [(1, .int (-100000000)), (0, .ref (A 313))]) X dL_restore_2 rfl (by rw [hnL]; decide) rfl ?_
  refine g_aload_n X dL_restore_3 rfl 1 rfl ?_
  refine g_callV (As := []) (ci := 3) X dL_restore_4 (c_X3_restore κ.l hl κ.Γ M A w hB hI ) k5045 k1079 k1080 k1 k1081 rfl (BRep.obj hB) ⟨rfl, by decide, by decide, (show (parseMethodDescriptor yX3_restore.desc).map (fun d => d.parameters.length) = some 0 by decide +kernel)⟩ rfl (Nat.le_of_ble_eq_true rfl) (by rw [hRm]; decide) (by rw [hRm]; exact ⟨Nat.le_of_ble_eq_true rfl, Nat.le_of_ble_eq_true rfl⟩) (fun v9 M9 h9 => ?_) (fun E9 M9 h9 => ?_)
  · obtain ⟨n9, rfl⟩ := WIn.int hx h9.1
    refine g_istore_n (L' := [(1, .int n9), (0, .ref (A 313))]) X dL_restore_7 rfl (by rw [hnL]; decide) rfl ?_
    refine g_goto (tgt := 15) X dL_restore_8 (by decide) ?_
    refine g_iload_n X dL_restore_15 rfl 0 rfl ?_
    exact g_iret X F dL_restore_16 (Nat.le_of_ble_eq_true rfl) (Nat.le_of_ble_eq_true rfl) ⟨wI_ok h9.1, h9.2⟩
  · obtain ⟨k9, hk9⟩ := WIn.ex hx h9.1
    rcases hk9 with ⟨rfl, rfl⟩ | hk9
    · refine gx_catch (name := eSta) X [] ⟨3, 8, 11, 21⟩ [] rfl (fun z9 hz9 => absurd hz9 List.not_mem_nil) rfl (by decide) k5014 k423 (fun q9 => ?_)
      refine g_astore_n (L' := [(2, .ref q9), (1, .int (-100000000)), (0, .ref (A 313))]) X dL_restore_11 rfl (by rw [hnL]; decide) rfl ?_
      refine g_ldc (v := (-100000000)) X dL_restore_12 k5015 ?_
      exact g_iret X F dL_restore_14 (Nat.le_of_ble_eq_true rfl) (Nat.le_of_ble_eq_true rfl) ⟨wI_ex h9.1, h9.2⟩
    · exact hk9.elim
set_option maxRecDepth 100000 in
set_option maxHeartbeats 4000000 in
theorem c_L_put (l : Launch) (hl : l.stackTraces = false) (Γ : Gm) (M : Hp) (A : Nat → Nat) (w : PV) (hB : BRep Γ A w M) (hI : BInv w) (c : Int32) (hx : WIn [eSta] isI (pAppend w c).1) : CtW l Γ yL_put cL_put 3 (some .boolean) [(0, 6, 9, 21)] 2 3 18 [.ref (A 313), .int c] M (BMu Γ A (rI (wP (pAppend w c).1), (pAppend w c).2) M) := by
  refine CtW.of hl (by decide) (Nat.le_of_ble_eq_true rfl) rfl ?_
  intro κ e1 e2 hnL hRm X F hlt
  subst e1 e2
  refine g_aload_n X dL_put_0 rfl 0 rfl ?_
  refine g_iload_n X dL_put_1 rfl 1 rfl ?_
  refine g_callV (As := [.int c]) (ci := 3) X dL_put_2 (c_X3_append κ.l hl κ.Γ M A w hB hI c) k5054 k849 k850 k1 k851 rfl (BRep.obj hB) ⟨rfl, by decide, by decide, (show (parseMethodDescriptor yX3_append.desc).map (fun d => d.parameters.length) = some 1 by decide +kernel)⟩ rfl (Nat.le_of_ble_eq_true rfl) (by rw [hRm]; decide) (by rw [hRm]; exact ⟨Nat.le_of_ble_eq_true rfl, Nat.le_of_ble_eq_true rfl⟩) (fun v9 M9 h9 => ?_) (fun E9 M9 h9 => ?_)
  · obtain ⟨n9, rfl⟩ := WIn.int hx h9.1
    refine g_pop X dL_put_5 rfl ?_
    refine g_goto (tgt := 12) X dL_put_6 (by decide) ?_
    refine g_iconst (v := 1) X dL_put_12 (by decide) ?_
    exact g_zret X F dL_put_13 (Nat.le_of_ble_eq_true rfl) (Nat.le_of_ble_eq_true rfl) rfl ⟨wP_ok h9.1, h9.2⟩
  · obtain ⟨k9, hk9⟩ := WIn.ex hx h9.1
    rcases hk9 with ⟨rfl, rfl⟩ | hk9
    · refine gx_catch (name := eSta) X [] ⟨0, 6, 9, 21⟩ [] rfl (fun z9 hz9 => absurd hz9 List.not_mem_nil) rfl (by decide) k5014 k423 (fun q9 => ?_)
      refine g_astore_n (L' := [(2, .ref q9), (0, .ref (A 313)), (1, .int c)]) X dL_put_9 rfl (by rw [hnL]; decide) rfl ?_
      refine g_iconst (v := 0) X dL_put_10 (by decide) ?_
      exact g_zret X F dL_put_11 (Nat.le_of_ble_eq_true rfl) (Nat.le_of_ble_eq_true rfl) rfl ⟨wP_ex h9.1, h9.2⟩
    · exact hk9.elim
set_option maxRecDepth 100000 in
set_option maxHeartbeats 4000000 in
theorem c_L_leave (l : Launch) (hl : l.stackTraces = false) (Γ : Gm) (M : Hp) (A : Nat → Nat) (w : PV) (hB : BRep Γ A w M) (hI : BInv w) (x : Int32) (hx : WIn [eIdx, eSta] isI (pLeave w x).1) : CtW l Γ yL_leave cL_leave 4 (some .int) [(3, 9, 12, 17), (3, 9, 16, 21)] 3 3 18 [.ref (A 313), .int x] M (BMu Γ A (rI (wI (-100000000) (pLeave w x).1), (pLeave w x).2) M) := by
  refine CtW.of hl (by decide) (Nat.le_of_ble_eq_true rfl) rfl ?_
  intro κ e1 e2 hnL hRm X F hlt
  subst e1 e2
  refine g_ldc (v := (-100000000)) X dL_leave_0 k5015 ?_
  refine g_istore_n (L' := [(2, .int (-100000000)), (0, .ref (A 313)), (1, .int x)]) X dL_leave_2 rfl (by rw [hnL]; decide) rfl ?_
  refine g_aload_n X dL_leave_3 rfl 1 rfl ?_
  refine g_iload_n X dL_leave_4 rfl 2 rfl ?_
  refine g_callV (As := [.int x]) (ci := 3) X dL_leave_5 (c_X3_leave κ.l hl κ.Γ M A w hB hI x) k5060 k500 k501 k1 k502 rfl (BRep.obj hB) ⟨rfl, by decide, by decide, (show (parseMethodDescriptor yX3_leave.desc).map (fun d => d.parameters.length) = some 1 by decide +kernel)⟩ rfl (Nat.le_of_ble_eq_true rfl) (by rw [hRm]; decide) (by rw [hRm]; exact ⟨Nat.le_of_ble_eq_true rfl, Nat.le_of_ble_eq_true rfl⟩) (fun v9 M9 h9 => ?_) (fun E9 M9 h9 => ?_)
  · obtain ⟨n9, rfl⟩ := WIn.int hx h9.1
    refine g_istore_n (L' := [(2, .int n9), (0, .ref (A 313)), (1, .int x)]) X dL_leave_8 rfl (by rw [hnL]; decide) rfl ?_
    refine g_goto (tgt := 20) X dL_leave_9 (by decide) ?_
    refine g_iload_n X dL_leave_20 rfl 0 rfl ?_
    exact g_iret X F dL_leave_21 (Nat.le_of_ble_eq_true rfl) (Nat.le_of_ble_eq_true rfl) ⟨wI_ok h9.1, h9.2⟩
  · obtain ⟨k9, hk9⟩ := WIn.ex hx h9.1
    rcases hk9 with ⟨rfl, rfl⟩ | ⟨rfl, rfl⟩ | hk9
    · refine gx_catch (name := eIdx) X [] ⟨3, 9, 12, 17⟩ [⟨3, 9, 16, 21⟩] rfl (fun z9 hz9 => absurd hz9 List.not_mem_nil) rfl (by decide) k5011 k387 (fun q9 => ?_)
      refine g_astore_n (L' := [(3, .ref q9), (2, .int (-100000000)), (0, .ref (A 313)), (1, .int x)]) X dL_leave_12 rfl (by rw [hnL]; decide) rfl ?_
      refine g_ldc (v := (-100000000)) X dL_leave_13 k5015 ?_
      exact g_iret X F dL_leave_15 (Nat.le_of_ble_eq_true rfl) (Nat.le_of_ble_eq_true rfl) ⟨wI_ex h9.1, h9.2⟩
    · refine gx_catch (name := eSta) X [⟨3, 9, 12, 17⟩] ⟨3, 9, 16, 21⟩ [] rfl (List.forall_mem_cons.mpr ⟨⟨by decide, eIdx, k5011, nc_eSta_eIdx⟩, (fun z9 hz9 => absurd hz9 List.not_mem_nil)⟩) rfl (by decide) k5014 k423 (fun q9 => ?_)
      refine g_astore_n (L' := [(3, .ref q9), (2, .int (-100000000)), (0, .ref (A 313)), (1, .int x)]) X dL_leave_16 rfl (by rw [hnL]; decide) rfl ?_
      refine g_ldc (v := (-100000000)) X dL_leave_17 k5015 ?_
      exact g_iret X F dL_leave_19 (Nat.le_of_ble_eq_true rfl) (Nat.le_of_ble_eq_true rfl) ⟨wI_ex h9.1, h9.2⟩
    · exact hk9.elim
set_option maxRecDepth 100000 in
set_option maxHeartbeats 4000000 in
theorem c_L_voteAgainst (l : Launch) (hl : l.stackTraces = false) (Γ : Gm) (M : Hp) (A : Nat → Nat) (w : PV) (hB : BRep Γ A w M) (hI : BInv w) (b : Int32) (x : Int32) (hx : WIn [eIdx, eSta, eUns] isI (pVoteAgainst w b x).1) : CtW l Γ yL_voteAgainst cL_voteAgainst 5 (some .int) [(3, 10, 13, 17), (3, 10, 18, 21), (3, 10, 23, 37)] 3 3 18 [.ref (A 313), .int b, .int x] M (BMu Γ A (rI (wI (-100000000) (pVoteAgainst w b x).1), (pVoteAgainst w b x).2) M) := by
  refine CtW.of hl (by decide) (Nat.le_of_ble_eq_true rfl) rfl ?_
  intro κ e1 e2 hnL hRm X F hlt
  subst e1 e2
  refine g_ldc (v := (-100000000)) X dL_voteAgainst_0 k5015 ?_
  refine g_istore_n (L' := [(3, .int (-100000000)), (0, .ref (A 313)), (1, .int b), (2, .int x)]) X dL_voteAgainst_2 rfl (by rw [hnL]; decide) rfl ?_
  refine g_aload_n X dL_voteAgainst_3 rfl 1 rfl ?_
  refine g_iload_n X dL_voteAgainst_4 rfl 2 rfl ?_
  refine g_iload_n X dL_voteAgainst_5 rfl 3 rfl ?_
  refine g_callV (As := [.int b, .int x]) (ci := 3) X dL_voteAgainst_6 (c_X3_voteAgainst κ.l hl κ.Γ M A w hB hI b x) k5063 k685 k686 k1 k687 rfl (BRep.obj hB) ⟨rfl, by decide, by decide, (show (parseMethodDescriptor yX3_voteAgainst.desc).map (fun d => d.parameters.length) = some 2 by decide +kernel)⟩ rfl (Nat.le_of_ble_eq_true rfl) (by rw [hRm]; decide) (by rw [hRm]; exact ⟨Nat.le_of_ble_eq_true rfl, Nat.le_of_ble_eq_true rfl⟩) (fun v9 M9 h9 => ?_) (fun E9 M9 h9 => ?_)
  · obtain ⟨n9, rfl⟩ := WIn.int hx h9.1
    refine g_istore_n (L' := [(3, .int n9), (0, .ref (A 313)), (1, .int b), (2, .int x)]) X dL_voteAgainst_9 rfl (by rw [hnL]; decide) rfl ?_
    refine g_goto (tgt := 28) X dL_voteAgainst_10 (by decide) ?_
    refine g_iload_n X dL_voteAgainst_28 rfl 0 rfl ?_
    exact g_iret X F dL_voteAgainst_29 (Nat.le_of_ble_eq_true rfl) (Nat.le_of_ble_eq_true rfl) ⟨wI_ok h9.1, h9.2⟩
  · obtain ⟨k9, hk9⟩ := WIn.ex hx h9.1
    rcases hk9 with ⟨rfl, rfl⟩ | ⟨rfl, rfl⟩ | ⟨rfl, rfl⟩ | hk9
    · refine gx_catch (name := eIdx) X [] ⟨3, 10, 13, 17⟩ [⟨3, 10, 18, 21⟩, ⟨3, 10, 23, 37⟩] rfl (fun z9 hz9 => absurd hz9 List.not_mem_nil) rfl (by decide) k5011 k387 (fun q9 => ?_)
      refine g_astore (L' := [(4, .ref q9), (3, .int (-100000000)), (0, .ref (A 313)), (1, .int b), (2, .int x)]) X dL_voteAgainst_13 (by rw [hnL]; decide) rfl ?_
      refine g_ldc (v := (-100000000)) X dL_voteAgainst_15 k5015 ?_
      exact g_iret X F dL_voteAgainst_17 (Nat.le_of_ble_eq_true rfl) (Nat.le_of_ble_eq_true rfl) ⟨wI_ex h9.1, h9.2⟩
    · refine gx_catch (name := eSta) X [⟨3, 10, 13, 17⟩] ⟨3, 10, 18, 21⟩ [⟨3, 10, 23, 37⟩] rfl (List.forall_mem_cons.mpr ⟨⟨by decide, eIdx, k5011, nc_eSta_eIdx⟩, (fun z9 hz9 => absurd hz9 List.not_mem_nil)⟩) rfl (by decide) k5014 k423 (fun q9 => ?_)
      refine g_astore (L' := [(4, .ref q9), (3, .int (-100000000)), (0, .ref (A 313)), (1, .int b), (2, .int x)]) X dL_voteAgainst_18 (by rw [hnL]; decide) rfl ?_
      refine g_ldc (v := (-100000000)) X dL_voteAgainst_20 k5015 ?_
      exact g_iret X F dL_voteAgainst_22 (Nat.le_of_ble_eq_true rfl) (Nat.le_of_ble_eq_true rfl) ⟨wI_ex h9.1, h9.2⟩
    · refine gx_catch (name := eUns) X [⟨3, 10, 13, 17⟩, ⟨3, 10, 18, 21⟩] ⟨3, 10, 23, 37⟩ [] rfl (List.forall_mem_cons.mpr ⟨⟨by decide, eIdx, k5011, nc_eUns_eIdx⟩, (List.forall_mem_cons.mpr ⟨⟨by decide, eSta, k5014, nc_eUns_eSta⟩, (fun z9 hz9 => absurd hz9 List.not_mem_nil)⟩)⟩) rfl (by decide) k5025 k453 (fun q9 => ?_)
      refine g_astore (L' := [(4, .ref q9), (3, .int (-100000000)), (0, .ref (A 313)), (1, .int b), (2, .int x)]) X dL_voteAgainst_23 (by rw [hnL]; decide) rfl ?_
      refine g_ldc (v := (-100000000)) X dL_voteAgainst_25 k5015 ?_
      exact g_iret X F dL_voteAgainst_27 (Nat.le_of_ble_eq_true rfl) (Nat.le_of_ble_eq_true rfl) ⟨wI_ex h9.1, h9.2⟩
    · exact hk9.elim
set_option maxRecDepth 100000 in
set_option maxHeartbeats 4000000 in
theorem c_L_closeReading (l : Launch) (hl : l.stackTraces = false) (Γ : Gm) (M : Hp) (A : Nat → Nat) (w : PV) (hB : BRep Γ A w M) (hI : BInv w) (b : Int32) (hx : WIn [eIdx, eSta, eUns] isZ (pCloseReading w b).1) : CtW l Γ yL_closeReading cL_closeReading 4 (some .int) [(3, 17, 20, 17), (3, 17, 24, 21), (3, 17, 28, 37)] 4 3 18 [.ref (A 313), .int b] M (BMu Γ A (rI (wI (-100000000) (pCloseReading w b).1), (pCloseReading w b).2) M) := by
  refine CtW.of hl (by decide) (Nat.le_of_ble_eq_true rfl) rfl ?_
  intro κ e1 e2 hnL hRm X F hlt
  subst e1 e2
  refine g_ldc (v := (-100000000)) X dL_closeReading_0 k5015 ?_
  refine g_istore_n (L' := [(2, .int (-100000000)), (0, .ref (A 313)), (1, .int b)]) X dL_closeReading_2 rfl (by rw [hnL]; decide) rfl ?_
  refine g_aload_n X dL_closeReading_3 rfl 1 rfl ?_
  refine g_iload_n X dL_closeReading_4 rfl 2 rfl ?_
  refine g_callV (As := [.int b]) (ci := 3) X dL_closeReading_5 (c_X3_closeReading κ.l hl κ.Γ M A w hB hI b) k5066 k717 k718 k1 k719 rfl (BRep.obj hB) ⟨rfl, by decide, by decide, (show (parseMethodDescriptor yX3_closeReading.desc).map (fun d => d.parameters.length) = some 1 by decide +kernel)⟩ rfl (Nat.le_of_ble_eq_true rfl) (by rw [hRm]; decide) (by rw [hRm]; exact ⟨Nat.le_of_ble_eq_true rfl, Nat.le_of_ble_eq_true rfl⟩) (fun v9 M9 h9 => ?_) (fun E9 M9 h9 => ?_)
  · have hz9 := WIn.zo hx h9.1
    rcases hz9 with rfl | rfl
    · refine g_if_eq (tgt := 15) X dL_closeReading_8 (by decide) (fun _ => ?_) (fun z9 => absurd rfl z9)
      refine g_iconst (v := 0) X dL_closeReading_15 (by decide) ?_
      refine g_istore_n (L' := [(2, .int 0), (0, .ref (A 313)), (1, .int b)]) X dL_closeReading_16 rfl (by rw [hnL]; decide) rfl ?_
      refine g_goto (tgt := 32) X dL_closeReading_17 (by decide) ?_
      refine g_iload_n X dL_closeReading_32 rfl 0 rfl ?_
      exact g_iret X F dL_closeReading_33 (Nat.le_of_ble_eq_true rfl) (Nat.le_of_ble_eq_true rfl) ⟨wI_ok h9.1, h9.2⟩
    · refine g_if_eq (tgt := 15) X dL_closeReading_8 (by decide) (fun z9 => absurd z9 (by decide)) (fun _ => ?_)
      refine g_iconst (v := 1) X dL_closeReading_11 (by decide) ?_
      refine g_goto (tgt := 16) X dL_closeReading_12 (by decide) ?_
      refine g_istore_n (L' := [(2, .int 1), (0, .ref (A 313)), (1, .int b)]) X dL_closeReading_16 rfl (by rw [hnL]; decide) rfl ?_
      refine g_goto (tgt := 32) X dL_closeReading_17 (by decide) ?_
      refine g_iload_n X dL_closeReading_32 rfl 0 rfl ?_
      exact g_iret X F dL_closeReading_33 (Nat.le_of_ble_eq_true rfl) (Nat.le_of_ble_eq_true rfl) ⟨wI_ok h9.1, h9.2⟩
  · obtain ⟨k9, hk9⟩ := WIn.ex hx h9.1
    rcases hk9 with ⟨rfl, rfl⟩ | ⟨rfl, rfl⟩ | ⟨rfl, rfl⟩ | hk9
    · refine gx_catch (name := eIdx) X [] ⟨3, 17, 20, 17⟩ [⟨3, 17, 24, 21⟩, ⟨3, 17, 28, 37⟩] rfl (fun z9 hz9 => absurd hz9 List.not_mem_nil) rfl (by decide) k5011 k387 (fun q9 => ?_)
      refine g_astore_n (L' := [(3, .ref q9), (2, .int (-100000000)), (0, .ref (A 313)), (1, .int b)]) X dL_closeReading_20 rfl (by rw [hnL]; decide) rfl ?_
      refine g_ldc (v := (-100000000)) X dL_closeReading_21 k5015 ?_
      exact g_iret X F dL_closeReading_23 (Nat.le_of_ble_eq_true rfl) (Nat.le_of_ble_eq_true rfl) ⟨wI_ex h9.1, h9.2⟩
    · refine gx_catch (name := eSta) X [⟨3, 17, 20, 17⟩] ⟨3, 17, 24, 21⟩ [⟨3, 17, 28, 37⟩] rfl (List.forall_mem_cons.mpr ⟨⟨by decide, eIdx, k5011, nc_eSta_eIdx⟩, (fun z9 hz9 => absurd hz9 List.not_mem_nil)⟩) rfl (by decide) k5014 k423 (fun q9 => ?_)
      refine g_astore_n (L' := [(3, .ref q9), (2, .int (-100000000)), (0, .ref (A 313)), (1, .int b)]) X dL_closeReading_24 rfl (by rw [hnL]; decide) rfl ?_
      refine g_ldc (v := (-100000000)) X dL_closeReading_25 k5015 ?_
      exact g_iret X F dL_closeReading_27 (Nat.le_of_ble_eq_true rfl) (Nat.le_of_ble_eq_true rfl) ⟨wI_ex h9.1, h9.2⟩
    · refine gx_catch (name := eUns) X [⟨3, 17, 20, 17⟩, ⟨3, 17, 24, 21⟩] ⟨3, 17, 28, 37⟩ [] rfl (List.forall_mem_cons.mpr ⟨⟨by decide, eIdx, k5011, nc_eUns_eIdx⟩, (List.forall_mem_cons.mpr ⟨⟨by decide, eSta, k5014, nc_eUns_eSta⟩, (fun z9 hz9 => absurd hz9 List.not_mem_nil)⟩)⟩) rfl (by decide) k5025 k453 (fun q9 => ?_)
      refine g_astore_n (L' := [(3, .ref q9), (2, .int (-100000000)), (0, .ref (A 313)), (1, .int b)]) X dL_closeReading_28 rfl (by rw [hnL]; decide) rfl ?_
      refine g_ldc (v := (-100000000)) X dL_closeReading_29 k5015 ?_
      exact g_iret X F dL_closeReading_31 (Nat.le_of_ble_eq_true rfl) (Nat.le_of_ble_eq_true rfl) ⟨wI_ex h9.1, h9.2⟩
    · exact hk9.elim
set_option maxRecDepth 100000 in
set_option maxHeartbeats 4000000 in
theorem c_L_support (l : Launch) (hl : l.stackTraces = false) (Γ : Gm) (M : Hp) (A : Nat → Nat) (w : PV) (hB : BRep Γ A w M) (hI : BInv w) (b : Int32) (p : Int32) (x : Int32) (hx : WIn [eIdx, eSta, eEle, eUns] isI (pSupport w b p x).1) : CtW l Γ yL_support cL_support 6 (some .int) [(4, 13, 16, 17), (4, 13, 21, 21), (4, 13, 26, 42), (4, 13, 31, 37)] 3 3 18 [.ref (A 313), .int b, .int p, .int x] M (BMu Γ A (rI (wI (-100000000) (pSupport w b p x).1), (pSupport w b p x).2) M) := by
  refine CtW.of hl (by decide) (Nat.le_of_ble_eq_true rfl) rfl ?_
  intro κ e1 e2 hnL hRm X F hlt
  subst e1 e2
  refine g_ldc (v := (-100000000)) X dL_support_0 k5015 ?_
  refine g_istore (L' := [(4, .int (-100000000)), (0, .ref (A 313)), (1, .int b), (2, .int p), (3, .int x)]) X dL_support_2 (by rw [hnL]; decide) rfl ?_
  refine g_aload_n X dL_support_4 rfl 1 rfl ?_
  refine g_iload_n X dL_support_5 rfl 2 rfl ?_
  refine g_iload_n X dL_support_6 rfl 3 rfl ?_
  refine g_iload_n X dL_support_7 rfl 4 rfl ?_
  refine g_callV (As := [.int b, .int p, .int x]) (ci := 3) X dL_support_8 (c_X3_support κ.l hl κ.Γ M A w hB hI b p x) k5069 k752 k753 k1 k754 rfl (BRep.obj hB) ⟨rfl, by decide, by decide, (show (parseMethodDescriptor yX3_support.desc).map (fun d => d.parameters.length) = some 3 by decide +kernel)⟩ rfl (Nat.le_of_ble_eq_true rfl) (by rw [hRm]; decide) (by rw [hRm]; exact ⟨Nat.le_of_ble_eq_true rfl, Nat.le_of_ble_eq_true rfl⟩) (fun v9 M9 h9 => ?_) (fun E9 M9 h9 => ?_)
  · obtain ⟨n9, rfl⟩ := WIn.int hx h9.1
    refine g_istore (L' := [(4, .int n9), (0, .ref (A 313)), (1, .int b), (2, .int p), (3, .int x)]) X dL_support_11 (by rw [hnL]; decide) rfl ?_
    refine g_goto (tgt := 36) X dL_support_13 (by decide) ?_
    refine g_iload X dL_support_36 0 rfl ?_
    exact g_iret X F dL_support_38 (Nat.le_of_ble_eq_true rfl) (Nat.le_of_ble_eq_true rfl) ⟨wI_ok h9.1, h9.2⟩
  · obtain ⟨k9, hk9⟩ := WIn.ex hx h9.1
    rcases hk9 with ⟨rfl, rfl⟩ | ⟨rfl, rfl⟩ | ⟨rfl, rfl⟩ | ⟨rfl, rfl⟩ | hk9
    · refine gx_catch (name := eIdx) X [] ⟨4, 13, 16, 17⟩ [⟨4, 13, 21, 21⟩, ⟨4, 13, 26, 42⟩, ⟨4, 13, 31, 37⟩] rfl (fun z9 hz9 => absurd hz9 List.not_mem_nil) rfl (by decide) k5011 k387 (fun q9 => ?_)
      refine g_astore (L' := [(5, .ref q9), (4, .int (-100000000)), (0, .ref (A 313)), (1, .int b), (2, .int p), (3, .int x)]) X dL_support_16 (by rw [hnL]; decide) rfl ?_
      refine g_ldc (v := (-100000000)) X dL_support_18 k5015 ?_
      exact g_iret X F dL_support_20 (Nat.le_of_ble_eq_true rfl) (Nat.le_of_ble_eq_true rfl) ⟨wI_ex h9.1, h9.2⟩
    · refine gx_catch (name := eSta) X [⟨4, 13, 16, 17⟩] ⟨4, 13, 21, 21⟩ [⟨4, 13, 26, 42⟩, ⟨4, 13, 31, 37⟩] rfl (List.forall_mem_cons.mpr ⟨⟨by decide, eIdx, k5011, nc_eSta_eIdx⟩, (fun z9 hz9 => absurd hz9 List.not_mem_nil)⟩) rfl (by decide) k5014 k423 (fun q9 => ?_)
      refine g_astore (L' := [(5, .ref q9), (4, .int (-100000000)), (0, .ref (A 313)), (1, .int b), (2, .int p), (3, .int x)]) X dL_support_21 (by rw [hnL]; decide) rfl ?_
      refine g_ldc (v := (-100000000)) X dL_support_23 k5015 ?_
      exact g_iret X F dL_support_25 (Nat.le_of_ble_eq_true rfl) (Nat.le_of_ble_eq_true rfl) ⟨wI_ex h9.1, h9.2⟩
    · refine gx_catch (name := eEle) X [⟨4, 13, 16, 17⟩, ⟨4, 13, 21, 21⟩] ⟨4, 13, 26, 42⟩ [⟨4, 13, 31, 37⟩] rfl (List.forall_mem_cons.mpr ⟨⟨by decide, eIdx, k5011, nc_eEle_eIdx⟩, (List.forall_mem_cons.mpr ⟨⟨by decide, eSta, k5014, nc_eEle_eSta⟩, (fun z9 hz9 => absurd hz9 List.not_mem_nil)⟩)⟩) rfl (by decide) k5038 k438 (fun q9 => ?_)
      refine g_astore (L' := [(5, .ref q9), (4, .int (-100000000)), (0, .ref (A 313)), (1, .int b), (2, .int p), (3, .int x)]) X dL_support_26 (by rw [hnL]; decide) rfl ?_
      refine g_ldc (v := (-100000000)) X dL_support_28 k5015 ?_
      exact g_iret X F dL_support_30 (Nat.le_of_ble_eq_true rfl) (Nat.le_of_ble_eq_true rfl) ⟨wI_ex h9.1, h9.2⟩
    · refine gx_catch (name := eUns) X [⟨4, 13, 16, 17⟩, ⟨4, 13, 21, 21⟩, ⟨4, 13, 26, 42⟩] ⟨4, 13, 31, 37⟩ [] rfl (List.forall_mem_cons.mpr ⟨⟨by decide, eIdx, k5011, nc_eUns_eIdx⟩, (List.forall_mem_cons.mpr ⟨⟨by decide, eSta, k5014, nc_eUns_eSta⟩, (List.forall_mem_cons.mpr ⟨⟨by decide, eEle, k5038, nc_eUns_eEle⟩, (fun z9 hz9 => absurd hz9 List.not_mem_nil)⟩)⟩)⟩) rfl (by decide) k5025 k453 (fun q9 => ?_)
      refine g_astore (L' := [(5, .ref q9), (4, .int (-100000000)), (0, .ref (A 313)), (1, .int b), (2, .int p), (3, .int x)]) X dL_support_31 (by rw [hnL]; decide) rfl ?_
      refine g_ldc (v := (-100000000)) X dL_support_33 k5015 ?_
      exact g_iret X F dL_support_35 (Nat.le_of_ble_eq_true rfl) (Nat.le_of_ble_eq_true rfl) ⟨wI_ex h9.1, h9.2⟩
    · exact hk9.elim
set_option maxRecDepth 100000 in
set_option maxHeartbeats 4000000 in
theorem c_L_decide (l : Launch) (hl : l.stackTraces = false) (Γ : Gm) (M : Hp) (A : Nat → Nat) (w : PV) (hB : BRep Γ A w M) (hI : BInv w) (b : Int32) (hx : WIn [eIdx, eSta, eEle, eUns] isZ (pDecide w b).1) : CtW l Γ yL_decide cL_decide 4 (some .int) [(3, 17, 20, 17), (3, 17, 24, 21), (3, 17, 28, 42), (3, 17, 32, 37)] 4 3 18 [.ref (A 313), .int b] M (BMu Γ A (rI (wI (-100000000) (pDecide w b).1), (pDecide w b).2) M) := by
  refine CtW.of hl (by decide) (Nat.le_of_ble_eq_true rfl) rfl ?_
  intro κ e1 e2 hnL hRm X F hlt
  subst e1 e2
  refine g_ldc (v := (-100000000)) X dL_decide_0 k5015 ?_
  refine g_istore_n (L' := [(2, .int (-100000000)), (0, .ref (A 313)), (1, .int b)]) X dL_decide_2 rfl (by rw [hnL]; decide) rfl ?_
  refine g_aload_n X dL_decide_3 rfl 1 rfl ?_
  refine g_iload_n X dL_decide_4 rfl 2 rfl ?_
  refine g_callV (As := [.int b]) (ci := 3) X dL_decide_5 (c_X3_decide κ.l hl κ.Γ M A w hB hI b) k5072 k771 k772 k1 k773 rfl (BRep.obj hB) ⟨rfl, by decide, by decide, (show (parseMethodDescriptor yX3_decide.desc).map (fun d => d.parameters.length) = some 1 by decide +kernel)⟩ rfl (Nat.le_of_ble_eq_true rfl) (by rw [hRm]; decide) (by rw [hRm]; exact ⟨Nat.le_of_ble_eq_true rfl, Nat.le_of_ble_eq_true rfl⟩) (fun v9 M9 h9 => ?_) (fun E9 M9 h9 => ?_)
  · have hz9 := WIn.zo hx h9.1
    rcases hz9 with rfl | rfl
    · refine g_if_eq (tgt := 15) X dL_decide_8 (by decide) (fun _ => ?_) (fun z9 => absurd rfl z9)
      refine g_iconst (v := 0) X dL_decide_15 (by decide) ?_
      refine g_istore_n (L' := [(2, .int 0), (0, .ref (A 313)), (1, .int b)]) X dL_decide_16 rfl (by rw [hnL]; decide) rfl ?_
      refine g_goto (tgt := 36) X dL_decide_17 (by decide) ?_
      refine g_iload_n X dL_decide_36 rfl 0 rfl ?_
      exact g_iret X F dL_decide_37 (Nat.le_of_ble_eq_true rfl) (Nat.le_of_ble_eq_true rfl) ⟨wI_ok h9.1, h9.2⟩
    · refine g_if_eq (tgt := 15) X dL_decide_8 (by decide) (fun z9 => absurd z9 (by decide)) (fun _ => ?_)
      refine g_iconst (v := 1) X dL_decide_11 (by decide) ?_
      refine g_goto (tgt := 16) X dL_decide_12 (by decide) ?_
      refine g_istore_n (L' := [(2, .int 1), (0, .ref (A 313)), (1, .int b)]) X dL_decide_16 rfl (by rw [hnL]; decide) rfl ?_
      refine g_goto (tgt := 36) X dL_decide_17 (by decide) ?_
      refine g_iload_n X dL_decide_36 rfl 0 rfl ?_
      exact g_iret X F dL_decide_37 (Nat.le_of_ble_eq_true rfl) (Nat.le_of_ble_eq_true rfl) ⟨wI_ok h9.1, h9.2⟩
  · obtain ⟨k9, hk9⟩ := WIn.ex hx h9.1
    rcases hk9 with ⟨rfl, rfl⟩ | ⟨rfl, rfl⟩ | ⟨rfl, rfl⟩ | ⟨rfl, rfl⟩ | hk9
    · refine gx_catch (name := eIdx) X [] ⟨3, 17, 20, 17⟩ [⟨3, 17, 24, 21⟩, ⟨3, 17, 28, 42⟩, ⟨3, 17, 32, 37⟩] rfl (fun z9 hz9 => absurd hz9 List.not_mem_nil) rfl (by decide) k5011 k387 (fun q9 => ?_)
      refine g_astore_n (L' := [(3, .ref q9), (2, .int (-100000000)), (0, .ref (A 313)), (1, .int b)]) X dL_decide_20 rfl (by rw [hnL]; decide) rfl ?_
      refine g_ldc (v := (-100000000)) X dL_decide_21 k5015 ?_
      exact g_iret X F dL_decide_23 (Nat.le_of_ble_eq_true rfl) (Nat.le_of_ble_eq_true rfl) ⟨wI_ex h9.1, h9.2⟩
    · refine gx_catch (name := eSta) X [⟨3, 17, 20, 17⟩] ⟨3, 17, 24, 21⟩ [⟨3, 17, 28, 42⟩, ⟨3, 17, 32, 37⟩] rfl (List.forall_mem_cons.mpr ⟨⟨by decide, eIdx, k5011, nc_eSta_eIdx⟩, (fun z9 hz9 => absurd hz9 List.not_mem_nil)⟩) rfl (by decide) k5014 k423 (fun q9 => ?_)
      refine g_astore_n (L' := [(3, .ref q9), (2, .int (-100000000)), (0, .ref (A 313)), (1, .int b)]) X dL_decide_24 rfl (by rw [hnL]; decide) rfl ?_
      refine g_ldc (v := (-100000000)) X dL_decide_25 k5015 ?_
      exact g_iret X F dL_decide_27 (Nat.le_of_ble_eq_true rfl) (Nat.le_of_ble_eq_true rfl) ⟨wI_ex h9.1, h9.2⟩
    · refine gx_catch (name := eEle) X [⟨3, 17, 20, 17⟩, ⟨3, 17, 24, 21⟩] ⟨3, 17, 28, 42⟩ [⟨3, 17, 32, 37⟩] rfl (List.forall_mem_cons.mpr ⟨⟨by decide, eIdx, k5011, nc_eEle_eIdx⟩, (List.forall_mem_cons.mpr ⟨⟨by decide, eSta, k5014, nc_eEle_eSta⟩, (fun z9 hz9 => absurd hz9 List.not_mem_nil)⟩)⟩) rfl (by decide) k5038 k438 (fun q9 => ?_)
      refine g_astore_n (L' := [(3, .ref q9), (2, .int (-100000000)), (0, .ref (A 313)), (1, .int b)]) X dL_decide_28 rfl (by rw [hnL]; decide) rfl ?_
      refine g_ldc (v := (-100000000)) X dL_decide_29 k5015 ?_
      exact g_iret X F dL_decide_31 (Nat.le_of_ble_eq_true rfl) (Nat.le_of_ble_eq_true rfl) ⟨wI_ex h9.1, h9.2⟩
    · refine gx_catch (name := eUns) X [⟨3, 17, 20, 17⟩, ⟨3, 17, 24, 21⟩, ⟨3, 17, 28, 42⟩] ⟨3, 17, 32, 37⟩ [] rfl (List.forall_mem_cons.mpr ⟨⟨by decide, eIdx, k5011, nc_eUns_eIdx⟩, (List.forall_mem_cons.mpr ⟨⟨by decide, eSta, k5014, nc_eUns_eSta⟩, (List.forall_mem_cons.mpr ⟨⟨by decide, eEle, k5038, nc_eUns_eEle⟩, (fun z9 hz9 => absurd hz9 List.not_mem_nil)⟩)⟩)⟩) rfl (by decide) k5025 k453 (fun q9 => ?_)
      refine g_astore_n (L' := [(3, .ref q9), (2, .int (-100000000)), (0, .ref (A 313)), (1, .int b)]) X dL_decide_32 rfl (by rw [hnL]; decide) rfl ?_
      refine g_ldc (v := (-100000000)) X dL_decide_33 k5015 ?_
      exact g_iret X F dL_decide_35 (Nat.le_of_ble_eq_true rfl) (Nat.le_of_ble_eq_true rfl) ⟨wI_ex h9.1, h9.2⟩
    · exact hk9.elim
set_option maxRecDepth 100000 in
set_option maxHeartbeats 4000000 in
theorem c_L_ride (l : Launch) (hl : l.stackTraces = false) (Γ : Gm) (M : Hp) (A : Nat → Nat) (w : PV) (hB : BRep Γ A w M) (hI : BInv w) (x : Int32) (b : Int32) (n : Int32) (hx : WIn [eIdx, eArg, eSta, eUns] isI (pRide w x b n).1) : CtW l Γ yL_ride cL_ride 6 (some .int) [(4, 13, 16, 17), (4, 13, 21, 19), (4, 13, 26, 21), (4, 13, 31, 37)] 3 3 18 [.ref (A 313), .int x, .int b, .int n] M (BMu Γ A (rI (wI (-100000000) (pRide w x b n).1), (pRide w x b n).2) M) := by
  refine CtW.of hl (by decide) (Nat.le_of_ble_eq_true rfl) rfl ?_
  intro κ e1 e2 hnL hRm X F hlt
  subst e1 e2
  refine g_ldc (v := (-100000000)) X dL_ride_0 k5015 ?_
  refine g_istore (L' := [(4, .int (-100000000)), (0, .ref (A 313)), (1, .int x), (2, .int b), (3, .int n)]) X dL_ride_2 (by rw [hnL]; decide) rfl ?_
  refine g_aload_n X dL_ride_4 rfl 1 rfl ?_
  refine g_iload_n X dL_ride_5 rfl 2 rfl ?_
  refine g_iload_n X dL_ride_6 rfl 3 rfl ?_
  refine g_iload_n X dL_ride_7 rfl 4 rfl ?_
  refine g_callV (As := [.int x, .int b, .int n]) (ci := 3) X dL_ride_8 (c_X3_ride κ.l hl κ.Γ M A w hB hI x b n) k5075 k812 k813 k1 k814 rfl (BRep.obj hB) ⟨rfl, by decide, by decide, (show (parseMethodDescriptor yX3_ride.desc).map (fun d => d.parameters.length) = some 3 by decide +kernel)⟩ rfl (Nat.le_of_ble_eq_true rfl) (by rw [hRm]; decide) (by rw [hRm]; exact ⟨Nat.le_of_ble_eq_true rfl, Nat.le_of_ble_eq_true rfl⟩) (fun v9 M9 h9 => ?_) (fun E9 M9 h9 => ?_)
  · obtain ⟨n9, rfl⟩ := WIn.int hx h9.1
    refine g_istore (L' := [(4, .int n9), (0, .ref (A 313)), (1, .int x), (2, .int b), (3, .int n)]) X dL_ride_11 (by rw [hnL]; decide) rfl ?_
    refine g_goto (tgt := 36) X dL_ride_13 (by decide) ?_
    refine g_iload X dL_ride_36 0 rfl ?_
    exact g_iret X F dL_ride_38 (Nat.le_of_ble_eq_true rfl) (Nat.le_of_ble_eq_true rfl) ⟨wI_ok h9.1, h9.2⟩
  · obtain ⟨k9, hk9⟩ := WIn.ex hx h9.1
    rcases hk9 with ⟨rfl, rfl⟩ | ⟨rfl, rfl⟩ | ⟨rfl, rfl⟩ | ⟨rfl, rfl⟩ | hk9
    · refine gx_catch (name := eIdx) X [] ⟨4, 13, 16, 17⟩ [⟨4, 13, 21, 19⟩, ⟨4, 13, 26, 21⟩, ⟨4, 13, 31, 37⟩] rfl (fun z9 hz9 => absurd hz9 List.not_mem_nil) rfl (by decide) k5011 k387 (fun q9 => ?_)
      refine g_astore (L' := [(5, .ref q9), (4, .int (-100000000)), (0, .ref (A 313)), (1, .int x), (2, .int b), (3, .int n)]) X dL_ride_16 (by rw [hnL]; decide) rfl ?_
      refine g_ldc (v := (-100000000)) X dL_ride_18 k5015 ?_
      exact g_iret X F dL_ride_20 (Nat.le_of_ble_eq_true rfl) (Nat.le_of_ble_eq_true rfl) ⟨wI_ex h9.1, h9.2⟩
    · refine gx_catch (name := eArg) X [⟨4, 13, 16, 17⟩] ⟨4, 13, 21, 19⟩ [⟨4, 13, 26, 21⟩, ⟨4, 13, 31, 37⟩] rfl (List.forall_mem_cons.mpr ⟨⟨by decide, eIdx, k5011, nc_eArg_eIdx⟩, (fun z9 hz9 => absurd hz9 List.not_mem_nil)⟩) rfl (by decide) k5013 k408 (fun q9 => ?_)
      refine g_astore (L' := [(5, .ref q9), (4, .int (-100000000)), (0, .ref (A 313)), (1, .int x), (2, .int b), (3, .int n)]) X dL_ride_21 (by rw [hnL]; decide) rfl ?_
      refine g_ldc (v := (-100000000)) X dL_ride_23 k5015 ?_
      exact g_iret X F dL_ride_25 (Nat.le_of_ble_eq_true rfl) (Nat.le_of_ble_eq_true rfl) ⟨wI_ex h9.1, h9.2⟩
    · refine gx_catch (name := eSta) X [⟨4, 13, 16, 17⟩, ⟨4, 13, 21, 19⟩] ⟨4, 13, 26, 21⟩ [⟨4, 13, 31, 37⟩] rfl (List.forall_mem_cons.mpr ⟨⟨by decide, eIdx, k5011, nc_eSta_eIdx⟩, (List.forall_mem_cons.mpr ⟨⟨by decide, eArg, k5013, nc_eSta_eArg⟩, (fun z9 hz9 => absurd hz9 List.not_mem_nil)⟩)⟩) rfl (by decide) k5014 k423 (fun q9 => ?_)
      refine g_astore (L' := [(5, .ref q9), (4, .int (-100000000)), (0, .ref (A 313)), (1, .int x), (2, .int b), (3, .int n)]) X dL_ride_26 (by rw [hnL]; decide) rfl ?_
      refine g_ldc (v := (-100000000)) X dL_ride_28 k5015 ?_
      exact g_iret X F dL_ride_30 (Nat.le_of_ble_eq_true rfl) (Nat.le_of_ble_eq_true rfl) ⟨wI_ex h9.1, h9.2⟩
    · refine gx_catch (name := eUns) X [⟨4, 13, 16, 17⟩, ⟨4, 13, 21, 19⟩, ⟨4, 13, 26, 21⟩] ⟨4, 13, 31, 37⟩ [] rfl (List.forall_mem_cons.mpr ⟨⟨by decide, eIdx, k5011, nc_eUns_eIdx⟩, (List.forall_mem_cons.mpr ⟨⟨by decide, eArg, k5013, nc_eUns_eArg⟩, (List.forall_mem_cons.mpr ⟨⟨by decide, eSta, k5014, nc_eUns_eSta⟩, (fun z9 hz9 => absurd hz9 List.not_mem_nil)⟩)⟩)⟩) rfl (by decide) k5025 k453 (fun q9 => ?_)
      refine g_astore (L' := [(5, .ref q9), (4, .int (-100000000)), (0, .ref (A 313)), (1, .int x), (2, .int b), (3, .int n)]) X dL_ride_31 (by rw [hnL]; decide) rfl ?_
      refine g_ldc (v := (-100000000)) X dL_ride_33 k5015 ?_
      exact g_iret X F dL_ride_35 (Nat.le_of_ble_eq_true rfl) (Nat.le_of_ble_eq_true rfl) ⟨wI_ex h9.1, h9.2⟩
    · exact hk9.elim
set_option maxRecDepth 100000 in
set_option maxHeartbeats 4000000 in
theorem c_L_billAtRank (l : Launch) (hl : l.stackTraces = false) (Γ : Gm) (M : Hp) (A : Nat → Nat) (w : PV) (hB : BRep Γ A w M) (hI : BInv w) (r : Int32) (hx : WIn [eEle] isI (pBillAtRank w r).1) : CtW l Γ yL_billAtRank cL_billAtRank 4 (some .int) [(4, 10, 13, 42)] 4 3 18 [.ref (A 313), .int r] M (BMu Γ A (rI (wI (-1000) (pBillAtRank w r).1), (pBillAtRank w r).2) M) := by
  refine CtW.of hl (by decide) (Nat.le_of_ble_eq_true rfl) rfl ?_
  intro κ e1 e2 hnL hRm X F hlt
  subst e1 e2
  refine g_sipush (v := (-1000)) X dL_billAtRank_0 (by decide) ?_
  refine g_istore_n (L' := [(2, .int (-1000)), (0, .ref (A 313)), (1, .int r)]) X dL_billAtRank_3 rfl (by rw [hnL]; decide) rfl ?_
  refine g_aload_n X dL_billAtRank_4 rfl 1 rfl ?_
  refine g_iload_n X dL_billAtRank_5 rfl 2 rfl ?_
  refine g_callV (As := [.int r]) (ci := 3) X dL_billAtRank_6 (c_X3_billAtRank κ.l hl κ.Γ M A w hB hI r) k5104 k649 k650 k1 k651 rfl (BRep.obj hB) ⟨rfl, by decide, by decide, (show (parseMethodDescriptor yX3_billAtRank.desc).map (fun d => d.parameters.length) = some 1 by decide +kernel)⟩ rfl (Nat.le_of_ble_eq_true rfl) (by rw [hRm]; decide) (by rw [hRm]; exact ⟨Nat.le_of_ble_eq_true rfl, Nat.le_of_ble_eq_true rfl⟩) (fun v9 M9 h9 => ?_) (fun E9 M9 h9 => ?_)
  · obtain ⟨n9, rfl⟩ := WIn.int hx h9.1
    refine g_istore_n (L' := [(2, .int n9), (0, .ref (A 313)), (1, .int r)]) X dL_billAtRank_9 rfl (by rw [hnL]; decide) rfl ?_
    refine g_goto (tgt := 18) X dL_billAtRank_10 (by decide) ?_
    refine g_iload_n X dL_billAtRank_18 rfl 0 rfl ?_
    exact g_iret X F dL_billAtRank_19 (Nat.le_of_ble_eq_true rfl) (Nat.le_of_ble_eq_true rfl) ⟨wI_ok h9.1, h9.2⟩
  · obtain ⟨k9, hk9⟩ := WIn.ex hx h9.1
    rcases hk9 with ⟨rfl, rfl⟩ | hk9
    · refine gx_catch (name := eEle) X [] ⟨4, 10, 13, 42⟩ [] rfl (fun z9 hz9 => absurd hz9 List.not_mem_nil) rfl (by decide) k5038 k438 (fun q9 => ?_)
      refine g_astore_n (L' := [(3, .ref q9), (2, .int (-1000)), (0, .ref (A 313)), (1, .int r)]) X dL_billAtRank_13 rfl (by rw [hnL]; decide) rfl ?_
      refine g_sipush (v := (-1000)) X dL_billAtRank_14 (by decide) ?_
      exact g_iret X F dL_billAtRank_17 (Nat.le_of_ble_eq_true rfl) (Nat.le_of_ble_eq_true rfl) ⟨wI_ex h9.1, h9.2⟩
    · exact hk9.elim
set_option maxRecDepth 100000 in
set_option maxHeartbeats 4000000 in
theorem c_L_shareBits (l : Launch) (hl : l.stackTraces = false) (Γ : Gm) (M : Hp) (A : Nat → Nat) (w : PV) (hB : BRep Γ A w M) (hI : BInv w) (b : Int32) (hw : hasB (w.1 0) b → ¬ shB (w.1 0) b = 0 → ShF (w.1 0) b) (hx : WIn [eIdx, eAri] isI (pShareBits w b).1) : CtW l Γ yL_shareBits cL_shareBits 4 (some .int) [(4, 10, 13, 17), (4, 10, 18, 81)] 3 3 18 [.ref (A 313), .int b] M (BMu Γ A (rI (wI (-1000) (pShareBits w b).1), (pShareBits w b).2) M) := by
  refine CtW.of hl (by decide) (Nat.le_of_ble_eq_true rfl) rfl ?_
  intro κ e1 e2 hnL hRm X F hlt
  subst e1 e2
  refine g_sipush (v := (-1000)) X dL_shareBits_0 (by decide) ?_
  refine g_istore_n (L' := [(2, .int (-1000)), (0, .ref (A 313)), (1, .int b)]) X dL_shareBits_3 rfl (by rw [hnL]; decide) rfl ?_
  refine g_aload_n X dL_shareBits_4 rfl 1 rfl ?_
  refine g_iload_n X dL_shareBits_5 rfl 2 rfl ?_
  refine g_callV (As := [.int b]) (ci := 3) X dL_shareBits_6 (c_X3_shareBits κ.l hl κ.Γ M A w hB hI b hw) k5118 k1060 k1061 k1 k1062 rfl (BRep.obj hB) ⟨rfl, by decide, by decide, (show (parseMethodDescriptor yX3_shareBits.desc).map (fun d => d.parameters.length) = some 1 by decide +kernel)⟩ rfl (Nat.le_of_ble_eq_true rfl) (by rw [hRm]; decide) (by rw [hRm]; exact ⟨Nat.le_of_ble_eq_true rfl, Nat.le_of_ble_eq_true rfl⟩) (fun v9 M9 h9 => ?_) (fun E9 M9 h9 => ?_)
  · obtain ⟨n9, rfl⟩ := WIn.int hx h9.1
    refine g_istore_n (L' := [(2, .int n9), (0, .ref (A 313)), (1, .int b)]) X dL_shareBits_9 rfl (by rw [hnL]; decide) rfl ?_
    refine g_goto (tgt := 23) X dL_shareBits_10 (by decide) ?_
    refine g_iload_n X dL_shareBits_23 rfl 0 rfl ?_
    exact g_iret X F dL_shareBits_24 (Nat.le_of_ble_eq_true rfl) (Nat.le_of_ble_eq_true rfl) ⟨wI_ok h9.1, h9.2⟩
  · obtain ⟨k9, hk9⟩ := WIn.ex hx h9.1
    rcases hk9 with ⟨rfl, rfl⟩ | ⟨rfl, rfl⟩ | hk9
    · refine gx_catch (name := eIdx) X [] ⟨4, 10, 13, 17⟩ [⟨4, 10, 18, 81⟩] rfl (fun z9 hz9 => absurd hz9 List.not_mem_nil) rfl (by decide) k5011 k387 (fun q9 => ?_)
      refine g_astore_n (L' := [(3, .ref q9), (2, .int (-1000)), (0, .ref (A 313)), (1, .int b)]) X dL_shareBits_13 rfl (by rw [hnL]; decide) rfl ?_
      refine g_sipush (v := (-1000)) X dL_shareBits_14 (by decide) ?_
      exact g_iret X F dL_shareBits_17 (Nat.le_of_ble_eq_true rfl) (Nat.le_of_ble_eq_true rfl) ⟨wI_ex h9.1, h9.2⟩
    · refine gx_catch (name := eAri) X [⟨4, 10, 13, 17⟩] ⟨4, 10, 18, 81⟩ [] rfl (List.forall_mem_cons.mpr ⟨⟨by decide, eIdx, k5011, nc_eAri_eIdx⟩, (fun z9 hz9 => absurd hz9 List.not_mem_nil)⟩) rfl (by decide) k5117 k1041 (fun q9 => ?_)
      refine g_astore_n (L' := [(3, .ref q9), (2, .int (-1000)), (0, .ref (A 313)), (1, .int b)]) X dL_shareBits_18 rfl (by rw [hnL]; decide) rfl ?_
      refine g_sipush (v := (-1000)) X dL_shareBits_19 (by decide) ?_
      exact g_iret X F dL_shareBits_22 (Nat.le_of_ble_eq_true rfl) (Nat.le_of_ble_eq_true rfl) ⟨wI_ex h9.1, h9.2⟩
    · exact hk9.elim
set_option maxRecDepth 100000 in
set_option maxHeartbeats 4000000 in
theorem c_L_amendedClause (l : Launch) (hl : l.stackTraces = false) (Γ : Gm) (M : Hp) (A : Nat → Nat) (w : PV) (hB : BRep Γ A w M) (hI : BInv w) (b : Int32) (x : Int32) (hx : WIn [eIdx, eEle] isI (pAmendedClause w b x).1) : CtW l Γ yL_amendedClause cL_amendedClause 5 (some .int) [(4, 11, 14, 17), (4, 11, 20, 42)] 4 3 18 [.ref (A 313), .int b, .int x] M (BMu Γ A (rI (wI (-1000) (pAmendedClause w b x).1), (pAmendedClause w b x).2) M) := by
  refine CtW.of hl (by decide) (Nat.le_of_ble_eq_true rfl) rfl ?_
  intro κ e1 e2 hnL hRm X F hlt
  subst e1 e2
  refine g_sipush (v := (-1000)) X dL_amendedClause_0 (by decide) ?_
  refine g_istore_n (L' := [(3, .int (-1000)), (0, .ref (A 313)), (1, .int b), (2, .int x)]) X dL_amendedClause_3 rfl (by rw [hnL]; decide) rfl ?_
  refine g_aload_n X dL_amendedClause_4 rfl 1 rfl ?_
  refine g_iload_n X dL_amendedClause_5 rfl 2 rfl ?_
  refine g_iload_n X dL_amendedClause_6 rfl 3 rfl ?_
  refine g_callV (As := [.int b, .int x]) (ci := 3) X dL_amendedClause_7 (c_X3_amendedClause κ.l hl κ.Γ M A w hB hI b x) k5097 k793 k794 k1 k795 rfl (BRep.obj hB) ⟨rfl, by decide, by decide, (show (parseMethodDescriptor yX3_amendedClause.desc).map (fun d => d.parameters.length) = some 2 by decide +kernel)⟩ rfl (Nat.le_of_ble_eq_true rfl) (by rw [hRm]; decide) (by rw [hRm]; exact ⟨Nat.le_of_ble_eq_true rfl, Nat.le_of_ble_eq_true rfl⟩) (fun v9 M9 h9 => ?_) (fun E9 M9 h9 => ?_)
  · obtain ⟨n9, rfl⟩ := WIn.int hx h9.1
    refine g_istore_n (L' := [(3, .int n9), (0, .ref (A 313)), (1, .int b), (2, .int x)]) X dL_amendedClause_10 rfl (by rw [hnL]; decide) rfl ?_
    refine g_goto (tgt := 26) X dL_amendedClause_11 (by decide) ?_
    refine g_iload_n X dL_amendedClause_26 rfl 0 rfl ?_
    exact g_iret X F dL_amendedClause_27 (Nat.le_of_ble_eq_true rfl) (Nat.le_of_ble_eq_true rfl) ⟨wI_ok h9.1, h9.2⟩
  · obtain ⟨k9, hk9⟩ := WIn.ex hx h9.1
    rcases hk9 with ⟨rfl, rfl⟩ | ⟨rfl, rfl⟩ | hk9
    · refine gx_catch (name := eIdx) X [] ⟨4, 11, 14, 17⟩ [⟨4, 11, 20, 42⟩] rfl (fun z9 hz9 => absurd hz9 List.not_mem_nil) rfl (by decide) k5011 k387 (fun q9 => ?_)
      refine g_astore (L' := [(4, .ref q9), (3, .int (-1000)), (0, .ref (A 313)), (1, .int b), (2, .int x)]) X dL_amendedClause_14 (by rw [hnL]; decide) rfl ?_
      refine g_sipush (v := (-1000)) X dL_amendedClause_16 (by decide) ?_
      exact g_iret X F dL_amendedClause_19 (Nat.le_of_ble_eq_true rfl) (Nat.le_of_ble_eq_true rfl) ⟨wI_ex h9.1, h9.2⟩
    · refine gx_catch (name := eEle) X [⟨4, 11, 14, 17⟩] ⟨4, 11, 20, 42⟩ [] rfl (List.forall_mem_cons.mpr ⟨⟨by decide, eIdx, k5011, nc_eEle_eIdx⟩, (fun z9 hz9 => absurd hz9 List.not_mem_nil)⟩) rfl (by decide) k5038 k438 (fun q9 => ?_)
      refine g_astore (L' := [(4, .ref q9), (3, .int (-1000)), (0, .ref (A 313)), (1, .int b), (2, .int x)]) X dL_amendedClause_20 (by rw [hnL]; decide) rfl ?_
      refine g_sipush (v := (-1000)) X dL_amendedClause_22 (by decide) ?_
      exact g_iret X F dL_amendedClause_25 (Nat.le_of_ble_eq_true rfl) (Nat.le_of_ble_eq_true rfl) ⟨wI_ex h9.1, h9.2⟩
    · exact hk9.elim
set_option maxRecDepth 100000 in
set_option maxHeartbeats 4000000 in
theorem c_L_meanWeight (l : Launch) (hl : l.stackTraces = false) (Γ : Gm) (M : Hp) (A : Nat → Nat) (w : PV) (hB : BRep Γ A w M) (hI : BInv w) (hm : ¬ (w.1 0).1 0 = 0 → MwOK (w.1 0)) (hx : WIn [eAri] isD (pMeanWeight w).1) : CtW l Γ yL_meanWeight cL_meanWeight 4 (some .double) [(4, 9, 12, 81)] 2 3 18 [.ref (A 313)] M (BMu Γ A (rD (wD 13830554455654793216 (pMeanWeight w).1), (pMeanWeight w).2) M) := by
  refine CtW.of hl (by decide) (Nat.le_of_ble_eq_true rfl) rfl ?_
  intro κ e1 e2 hnL hRm X F hlt
  subst e1 e2
  refine g_ldc2d (v := 13830554455654793216) X dL_meanWeight_0 k5137 ?_
  refine g_dstore_n (L' := [(1, .double 13830554455654793216), (0, .ref (A 313))]) X dL_meanWeight_3 rfl (by rw [hnL]; decide) rfl ?_
  refine g_aload_n X dL_meanWeight_4 rfl 1 rfl ?_
  refine g_callV (As := []) (ci := 3) X dL_meanWeight_5 (c_X3_meanWeight κ.l hl κ.Γ M A w hB hI hm) k5138 k1044 k1045 k1 k1046 rfl (BRep.obj hB) ⟨rfl, by decide, by decide, (show (parseMethodDescriptor yX3_meanWeight.desc).map (fun d => d.parameters.length) = some 0 by decide +kernel)⟩ rfl (Nat.le_of_ble_eq_true rfl) (by rw [hRm]; decide) (by rw [hRm]; exact ⟨Nat.le_of_ble_eq_true rfl, Nat.le_of_ble_eq_true rfl⟩) (fun v9 M9 h9 => ?_) (fun E9 M9 h9 => ?_)
  · obtain ⟨n9, rfl⟩ := WIn.dbl hx h9.1
    refine g_dstore_n (L' := [(1, .double n9), (0, .ref (A 313))]) X dL_meanWeight_8 rfl (by rw [hnL]; decide) rfl ?_
    refine g_goto (tgt := 17) X dL_meanWeight_9 (by decide) ?_
    refine g_dload_n X dL_meanWeight_17 rfl 0 rfl ?_
    exact g_dret X F dL_meanWeight_18 (Nat.le_of_ble_eq_true rfl) (Nat.le_of_ble_eq_true rfl) ⟨wD_ok h9.1, h9.2⟩
  · obtain ⟨k9, hk9⟩ := WIn.ex hx h9.1
    rcases hk9 with ⟨rfl, rfl⟩ | hk9
    · refine gx_catch (name := eAri) X [] ⟨4, 9, 12, 81⟩ [] rfl (fun z9 hz9 => absurd hz9 List.not_mem_nil) rfl (by decide) k5117 k1041 (fun q9 => ?_)
      refine g_astore_n (L' := [(3, .ref q9), (1, .double 13830554455654793216), (0, .ref (A 313))]) X dL_meanWeight_12 rfl (by rw [hnL]; decide) rfl ?_
      refine g_ldc2d (v := 13830554455654793216) X dL_meanWeight_13 k5137 ?_
      exact g_dret X F dL_meanWeight_16 (Nat.le_of_ble_eq_true rfl) (Nat.le_of_ble_eq_true rfl) ⟨wD_ex h9.1, h9.2⟩
    · exact hk9.elim
set_option maxRecDepth 100000 in
set_option maxHeartbeats 4000000 in
theorem c_L_ridesUntilFall (l : Launch) (hl : l.stackTraces = false) (Γ : Gm) (M : Hp) (A : Nat → Nat) (w : PV) (hB : BRep Γ A w M) (hI : BInv w) (b : Int32) (n : Int32) (hx : WIn [eIdx, eArg, eSta] isI (pRidesUntilFall w b n).1) : CtW l Γ yL_ridesUntilFall cL_ridesUntilFall 5 (some .int) [(4, 11, 14, 17), (4, 11, 20, 19), (4, 11, 26, 21)] 3 3 18 [.ref (A 313), .int b, .int n] M (BMu Γ A (rI (wI (-1000) (pRidesUntilFall w b n).1), (pRidesUntilFall w b n).2) M) := by
  refine CtW.of hl (by decide) (Nat.le_of_ble_eq_true rfl) rfl ?_
  intro κ e1 e2 hnL hRm X F hlt
  subst e1 e2
  refine g_sipush (v := (-1000)) X dL_ridesUntilFall_0 (by decide) ?_
  refine g_istore_n (L' := [(3, .int (-1000)), (0, .ref (A 313)), (1, .int b), (2, .int n)]) X dL_ridesUntilFall_3 rfl (by rw [hnL]; decide) rfl ?_
  refine g_aload_n X dL_ridesUntilFall_4 rfl 1 rfl ?_
  refine g_iload_n X dL_ridesUntilFall_5 rfl 2 rfl ?_
  refine g_iload_n X dL_ridesUntilFall_6 rfl 3 rfl ?_
  refine g_callV (As := [.int b, .int n]) (ci := 3) X dL_ridesUntilFall_7 (c_X3_ridesUntilFall κ.l hl κ.Γ M A w hB hI b n) k5145 k842 k843 k1 k844 rfl (BRep.obj hB) ⟨rfl, by decide, by decide, (show (parseMethodDescriptor yX3_ridesUntilFall.desc).map (fun d => d.parameters.length) = some 2 by decide +kernel)⟩ rfl (Nat.le_of_ble_eq_true rfl) (by rw [hRm]; decide) (by rw [hRm]; exact ⟨Nat.le_of_ble_eq_true rfl, Nat.le_of_ble_eq_true rfl⟩) (fun v9 M9 h9 => ?_) (fun E9 M9 h9 => ?_)
  · obtain ⟨n9, rfl⟩ := WIn.int hx h9.1
    refine g_istore_n (L' := [(3, .int n9), (0, .ref (A 313)), (1, .int b), (2, .int n)]) X dL_ridesUntilFall_10 rfl (by rw [hnL]; decide) rfl ?_
    refine g_goto (tgt := 32) X dL_ridesUntilFall_11 (by decide) ?_
    refine g_iload_n X dL_ridesUntilFall_32 rfl 0 rfl ?_
    exact g_iret X F dL_ridesUntilFall_33 (Nat.le_of_ble_eq_true rfl) (Nat.le_of_ble_eq_true rfl) ⟨wI_ok h9.1, h9.2⟩
  · obtain ⟨k9, hk9⟩ := WIn.ex hx h9.1
    rcases hk9 with ⟨rfl, rfl⟩ | ⟨rfl, rfl⟩ | ⟨rfl, rfl⟩ | hk9
    · refine gx_catch (name := eIdx) X [] ⟨4, 11, 14, 17⟩ [⟨4, 11, 20, 19⟩, ⟨4, 11, 26, 21⟩] rfl (fun z9 hz9 => absurd hz9 List.not_mem_nil) rfl (by decide) k5011 k387 (fun q9 => ?_)
      refine g_astore (L' := [(4, .ref q9), (3, .int (-1000)), (0, .ref (A 313)), (1, .int b), (2, .int n)]) X dL_ridesUntilFall_14 (by rw [hnL]; decide) rfl ?_
      refine g_sipush (v := (-1000)) X dL_ridesUntilFall_16 (by decide) ?_
      exact g_iret X F dL_ridesUntilFall_19 (Nat.le_of_ble_eq_true rfl) (Nat.le_of_ble_eq_true rfl) ⟨wI_ex h9.1, h9.2⟩
    · refine gx_catch (name := eArg) X [⟨4, 11, 14, 17⟩] ⟨4, 11, 20, 19⟩ [⟨4, 11, 26, 21⟩] rfl (List.forall_mem_cons.mpr ⟨⟨by decide, eIdx, k5011, nc_eArg_eIdx⟩, (fun z9 hz9 => absurd hz9 List.not_mem_nil)⟩) rfl (by decide) k5013 k408 (fun q9 => ?_)
      refine g_astore (L' := [(4, .ref q9), (3, .int (-1000)), (0, .ref (A 313)), (1, .int b), (2, .int n)]) X dL_ridesUntilFall_20 (by rw [hnL]; decide) rfl ?_
      refine g_sipush (v := (-1000)) X dL_ridesUntilFall_22 (by decide) ?_
      exact g_iret X F dL_ridesUntilFall_25 (Nat.le_of_ble_eq_true rfl) (Nat.le_of_ble_eq_true rfl) ⟨wI_ex h9.1, h9.2⟩
    · refine gx_catch (name := eSta) X [⟨4, 11, 14, 17⟩, ⟨4, 11, 20, 19⟩] ⟨4, 11, 26, 21⟩ [] rfl (List.forall_mem_cons.mpr ⟨⟨by decide, eIdx, k5011, nc_eSta_eIdx⟩, (List.forall_mem_cons.mpr ⟨⟨by decide, eArg, k5013, nc_eSta_eArg⟩, (fun z9 hz9 => absurd hz9 List.not_mem_nil)⟩)⟩) rfl (by decide) k5014 k423 (fun q9 => ?_)
      refine g_astore (L' := [(4, .ref q9), (3, .int (-1000)), (0, .ref (A 313)), (1, .int b), (2, .int n)]) X dL_ridesUntilFall_26 (by rw [hnL]; decide) rfl ?_
      refine g_sipush (v := (-1000)) X dL_ridesUntilFall_28 (by decide) ?_
      exact g_iret X F dL_ridesUntilFall_31 (Nat.le_of_ble_eq_true rfl) (Nat.le_of_ble_eq_true rfl) ⟨wI_ex h9.1, h9.2⟩
    · exact hk9.elim
