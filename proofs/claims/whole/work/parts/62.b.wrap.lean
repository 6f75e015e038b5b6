set_option maxRecDepth 100000 in
set_option maxHeartbeats 4000000 in
theorem c_L_addMember (l : Launch) (hl : l.stackTraces = false) (Γ : Gm) (M : Hp) (A : Nat → Nat) (w : PV) (hB : BRep Γ A w M) (hI : BInv w) (x : Int32) (y : Int32) (o : Nat) (fo : Nat → Int64) (ho : M o = some (.inl (Γ.2.1 1, 1, .inr (.inl fo)))) (hoA : ∀ i, i < 315 → o ≠ A i) (hx : WIn [eIdx, eArg, eSta] isI (pAddMember w x y).1) : CtW l Γ yL_addMember cL_addMember 5 (some .int) [(0, 10, 13, 13), (0, 10, 17, 15), (0, 10, 21, 17)] 8 3 18 [.ref (A 313), .int x, .int y, .ref o] M (WMu Γ A o [eIdx, eArg, eSta] cvI (pAddMember w x y) M) := by
  refine CtW.of hl (by decide) (Nat.le_of_ble_eq_true rfl) rfl ?_
  intro κ e1 e2 hnL hRm X F hlt
  subst e1 e2
  refine g_aload_n X dL_addMember_0 rfl 3 rfl ?_
  refine g_iconst (v := 0) X dL_addMember_1 (by decide) ?_
  refine g_aload_n X dL_addMember_2 rfl 0 rfl ?_
  refine g_iload_n X dL_addMember_3 rfl 1 rfl ?_
  refine g_iload_n X dL_addMember_4 rfl 2 rfl ?_
  refine g_callV (As := [.int x, .int y]) (ci := 3) X dL_addMember_5 (c_X3_addMember κ.l hl κ.Γ M A w hB hI x y) k371 k372 k373 k1 k374 rfl (BRep.obj hB) ⟨rfl, by decide, by decide, (show (parseMethodDescriptor yX3_addMember.desc).map (fun d => d.parameters.length) = some 2 by decide +kernel)⟩ rfl (Nat.le_of_ble_eq_true rfl) (by rw [hRm]; decide) (by rw [hRm]; exact ⟨Nat.le_of_ble_eq_true rfl, Nat.le_of_ble_eq_true rfl⟩) (fun v9 M9 h9 => ?_) (fun E9 M9 h9 => ?_)
  · obtain ⟨n9, rfl⟩ := WIn.int hx h9.1
    have ho9 : M9 o = some (.inl (κ.Γ.2.1 1, 1, .inr (.inl fo))) := (h9.2.2 o hoA).trans ho
    refine g_i2l X dL_addMember_8 ?_
    refine g_lastore X dL_addMember_9 ho9 vin01 ?_
    refine g_goto (tgt := 25) X dL_addMember_10 (by decide) ?_
    refine g_iconst (v := 0) X dL_addMember_25 (by decide) ?_
    exact g_iret X F dL_addMember_26 (Nat.le_of_ble_eq_true rfl) (Nat.le_of_ble_eq_true rfl) (WMu.ok h9 hoA rfl)
  · obtain ⟨k9, hk9⟩ := WIn.ex hx h9.1
    rcases hk9 with ⟨rfl, rfl⟩ | ⟨rfl, rfl⟩ | ⟨rfl, rfl⟩ | hk9
    · refine gx_catch (name := eIdx) X [] ⟨0, 10, 13, 13⟩ [⟨0, 10, 17, 15⟩, ⟨0, 10, 21, 17⟩] rfl (fun z9 hz9 => absurd hz9 List.not_mem_nil) rfl (by decide) k289 k387 (fun q9 => ?_)
      refine g_astore (L' := [(4, .ref q9), (0, .ref (A 313)), (1, .int x), (2, .int y), (3, .ref o)]) X dL_addMember_13 (by rw [hnL]; decide) rfl ?_
      refine g_iconst (v := 1) X dL_addMember_15 (by decide) ?_
      exact g_iret X F dL_addMember_16 (Nat.le_of_ble_eq_true rfl) (Nat.le_of_ble_eq_true rfl) (WMu.exc h9 hoA ho (WEx.hd rfl))
    · refine gx_catch (name := eArg) X [⟨0, 10, 13, 13⟩] ⟨0, 10, 17, 15⟩ [⟨0, 10, 21, 17⟩] rfl (List.forall_mem_cons.mpr ⟨⟨by decide, eIdx, k289, nc_eArg_eIdx⟩, (fun z9 hz9 => absurd hz9 List.not_mem_nil)⟩) rfl (by decide) k369 k408 (fun q9 => ?_)
      refine g_astore (L' := [(4, .ref q9), (0, .ref (A 313)), (1, .int x), (2, .int y), (3, .ref o)]) X dL_addMember_17 (by rw [hnL]; decide) rfl ?_
      refine g_iconst (v := 2) X dL_addMember_19 (by decide) ?_
      exact g_iret X F dL_addMember_20 (Nat.le_of_ble_eq_true rfl) (Nat.le_of_ble_eq_true rfl) (WMu.exc h9 hoA ho (WEx.tl (WEx.hd rfl)))
    · refine gx_catch (name := eSta) X [⟨0, 10, 13, 13⟩, ⟨0, 10, 17, 15⟩] ⟨0, 10, 21, 17⟩ [] rfl (List.forall_mem_cons.mpr ⟨⟨by decide, eIdx, k289, nc_eSta_eIdx⟩, (List.forall_mem_cons.mpr ⟨⟨by decide, eArg, k369, nc_eSta_eArg⟩, (fun z9 hz9 => absurd hz9 List.not_mem_nil)⟩)⟩) rfl (by decide) k370 k423 (fun q9 => ?_)
      refine g_astore (L' := [(4, .ref q9), (0, .ref (A 313)), (1, .int x), (2, .int y), (3, .ref o)]) X dL_addMember_21 (by rw [hnL]; decide) rfl ?_
      refine g_iconst (v := 3) X dL_addMember_23 (by decide) ?_
      exact g_iret X F dL_addMember_24 (Nat.le_of_ble_eq_true rfl) (Nat.le_of_ble_eq_true rfl) (WMu.exc h9 hoA ho (WEx.tl (WEx.tl (WEx.hd rfl))))
    · exact hk9.elim
set_option maxRecDepth 100000 in
set_option maxHeartbeats 4000000 in
theorem c_L_enter (l : Launch) (hl : l.stackTraces = false) (Γ : Gm) (M : Hp) (A : Nat → Nat) (w : PV) (hB : BRep Γ A w M) (hI : BInv w) (x : Int32) (o : Nat) (fo : Nat → Int64) (ho : M o = some (.inl (Γ.2.1 1, 1, .inr (.inl fo)))) (hoA : ∀ i, i < 315 → o ≠ A i) (hx : WIn [eIdx, eSta] isI (pEnter w x).1) : CtW l Γ yL_enter cL_enter 4 (some .int) [(0, 9, 12, 13), (0, 9, 15, 17)] 8 3 18 [.ref (A 313), .int x, .ref o] M (WMu Γ A o [eIdx, eSta] cvI (pEnter w x) M) := by
  refine CtW.of hl (by decide) (Nat.le_of_ble_eq_true rfl) rfl ?_
  intro κ e1 e2 hnL hRm X F hlt
  subst e1 e2
  refine g_aload_n X dL_enter_0 rfl 2 rfl ?_
  refine g_iconst (v := 0) X dL_enter_1 (by decide) ?_
  refine g_aload_n X dL_enter_2 rfl 0 rfl ?_
  refine g_iload_n X dL_enter_3 rfl 1 rfl ?_
  refine g_callV (As := [.int x]) (ci := 3) X dL_enter_4 (c_X3_enter κ.l hl κ.Γ M A w hB hI x) k480 k481 k482 k1 k483 rfl (BRep.obj hB) ⟨rfl, by decide, by decide, (show (parseMethodDescriptor yX3_enter.desc).map (fun d => d.parameters.length) = some 1 by decide +kernel)⟩ rfl (Nat.le_of_ble_eq_true rfl) (by rw [hRm]; decide) (by rw [hRm]; exact ⟨Nat.le_of_ble_eq_true rfl, Nat.le_of_ble_eq_true rfl⟩) (fun v9 M9 h9 => ?_) (fun E9 M9 h9 => ?_)
  · obtain ⟨n9, rfl⟩ := WIn.int hx h9.1
    have ho9 : M9 o = some (.inl (κ.Γ.2.1 1, 1, .inr (.inl fo))) := (h9.2.2 o hoA).trans ho
    refine g_i2l X dL_enter_7 ?_
    refine g_lastore X dL_enter_8 ho9 vin01 ?_
    refine g_goto (tgt := 18) X dL_enter_9 (by decide) ?_
    refine g_iconst (v := 0) X dL_enter_18 (by decide) ?_
    exact g_iret X F dL_enter_19 (Nat.le_of_ble_eq_true rfl) (Nat.le_of_ble_eq_true rfl) (WMu.ok h9 hoA rfl)
  · obtain ⟨k9, hk9⟩ := WIn.ex hx h9.1
    rcases hk9 with ⟨rfl, rfl⟩ | ⟨rfl, rfl⟩ | hk9
    · refine gx_catch (name := eIdx) X [] ⟨0, 9, 12, 13⟩ [⟨0, 9, 15, 17⟩] rfl (fun z9 hz9 => absurd hz9 List.not_mem_nil) rfl (by decide) k289 k387 (fun q9 => ?_)
      refine g_astore_n (L' := [(3, .ref q9), (0, .ref (A 313)), (1, .int x), (2, .ref o)]) X dL_enter_12 rfl (by rw [hnL]; decide) rfl ?_
      refine g_iconst (v := 1) X dL_enter_13 (by decide) ?_
      exact g_iret X F dL_enter_14 (Nat.le_of_ble_eq_true rfl) (Nat.le_of_ble_eq_true rfl) (WMu.exc h9 hoA ho (WEx.hd rfl))
    · refine gx_catch (name := eSta) X [⟨0, 9, 12, 13⟩] ⟨0, 9, 15, 17⟩ [] rfl (List.forall_mem_cons.mpr ⟨⟨by decide, eIdx, k289, nc_eSta_eIdx⟩, (fun z9 hz9 => absurd hz9 List.not_mem_nil)⟩) rfl (by decide) k370 k423 (fun q9 => ?_)
      refine g_astore_n (L' := [(3, .ref q9), (0, .ref (A 313)), (1, .int x), (2, .ref o)]) X dL_enter_15 rfl (by rw [hnL]; decide) rfl ?_
      refine g_iconst (v := 2) X dL_enter_16 (by decide) ?_
      exact g_iret X F dL_enter_17 (Nat.le_of_ble_eq_true rfl) (Nat.le_of_ble_eq_true rfl) (WMu.exc h9 hoA ho (WEx.tl (WEx.hd rfl)))
    · exact hk9.elim
set_option maxRecDepth 100000 in
set_option maxHeartbeats 4000000 in
theorem c_L_leave (l : Launch) (hl : l.stackTraces = false) (Γ : Gm) (M : Hp) (A : Nat → Nat) (w : PV) (hB : BRep Γ A w M) (hI : BInv w) (x : Int32) (o : Nat) (fo : Nat → Int64) (ho : M o = some (.inl (Γ.2.1 1, 1, .inr (.inl fo)))) (hoA : ∀ i, i < 315 → o ≠ A i) (hx : WIn [eIdx, eSta] isI (pLeave w x).1) : CtW l Γ yL_leave cL_leave 4 (some .int) [(0, 9, 12, 13), (0, 9, 15, 17)] 8 3 18 [.ref (A 313), .int x, .ref o] M (WMu Γ A o [eIdx, eSta] cvI (pLeave w x) M) := by
  refine CtW.of hl (by decide) (Nat.le_of_ble_eq_true rfl) rfl ?_
  intro κ e1 e2 hnL hRm X F hlt
  subst e1 e2
  refine g_aload_n X dL_leave_0 rfl 2 rfl ?_
  refine g_iconst (v := 0) X dL_leave_1 (by decide) ?_
  refine g_aload_n X dL_leave_2 rfl 0 rfl ?_
  refine g_iload_n X dL_leave_3 rfl 1 rfl ?_
  refine g_callV (As := [.int x]) (ci := 3) X dL_leave_4 (c_X3_leave κ.l hl κ.Γ M A w hB hI x) k499 k500 k501 k1 k502 rfl (BRep.obj hB) ⟨rfl, by decide, by decide, (show (parseMethodDescriptor yX3_leave.desc).map (fun d => d.parameters.length) = some 1 by decide +kernel)⟩ rfl (Nat.le_of_ble_eq_true rfl) (by rw [hRm]; decide) (by rw [hRm]; exact ⟨Nat.le_of_ble_eq_true rfl, Nat.le_of_ble_eq_true rfl⟩) (fun v9 M9 h9 => ?_) (fun E9 M9 h9 => ?_)
  · obtain ⟨n9, rfl⟩ := WIn.int hx h9.1
    have ho9 : M9 o = some (.inl (κ.Γ.2.1 1, 1, .inr (.inl fo))) := (h9.2.2 o hoA).trans ho
    refine g_i2l X dL_leave_7 ?_
    refine g_lastore X dL_leave_8 ho9 vin01 ?_
    refine g_goto (tgt := 18) X dL_leave_9 (by decide) ?_
    refine g_iconst (v := 0) X dL_leave_18 (by decide) ?_
    exact g_iret X F dL_leave_19 (Nat.le_of_ble_eq_true rfl) (Nat.le_of_ble_eq_true rfl) (WMu.ok h9 hoA rfl)
  · obtain ⟨k9, hk9⟩ := WIn.ex hx h9.1
    rcases hk9 with ⟨rfl, rfl⟩ | ⟨rfl, rfl⟩ | hk9
    · refine gx_catch (name := eIdx) X [] ⟨0, 9, 12, 13⟩ [⟨0, 9, 15, 17⟩] rfl (fun z9 hz9 => absurd hz9 List.not_mem_nil) rfl (by decide) k289 k387 (fun q9 => ?_)
      refine g_astore_n (L' := [(3, .ref q9), (0, .ref (A 313)), (1, .int x), (2, .ref o)]) X dL_leave_12 rfl (by rw [hnL]; decide) rfl ?_
      refine g_iconst (v := 1) X dL_leave_13 (by decide) ?_
      exact g_iret X F dL_leave_14 (Nat.le_of_ble_eq_true rfl) (Nat.le_of_ble_eq_true rfl) (WMu.exc h9 hoA ho (WEx.hd rfl))
    · refine gx_catch (name := eSta) X [⟨0, 9, 12, 13⟩] ⟨0, 9, 15, 17⟩ [] rfl (List.forall_mem_cons.mpr ⟨⟨by decide, eIdx, k289, nc_eSta_eIdx⟩, (fun z9 hz9 => absurd hz9 List.not_mem_nil)⟩) rfl (by decide) k370 k423 (fun q9 => ?_)
      refine g_astore_n (L' := [(3, .ref q9), (0, .ref (A 313)), (1, .int x), (2, .ref o)]) X dL_leave_15 rfl (by rw [hnL]; decide) rfl ?_
      refine g_iconst (v := 2) X dL_leave_16 (by decide) ?_
      exact g_iret X F dL_leave_17 (Nat.le_of_ble_eq_true rfl) (Nat.le_of_ble_eq_true rfl) (WMu.exc h9 hoA ho (WEx.tl (WEx.hd rfl)))
    · exact hk9.elim
set_option maxRecDepth 100000 in
set_option maxHeartbeats 4000000 in
theorem c_L_setQuorum (l : Launch) (hl : l.stackTraces = false) (Γ : Gm) (M : Hp) (A : Nat → Nat) (w : PV) (hB : BRep Γ A w M) (hI : BInv w) (n : Int32) (o : Nat) (fo : Nat → Int64) (ho : M o = some (.inl (Γ.2.1 1, 1, .inr (.inl fo)))) (hoA : ∀ i, i < 315 → o ≠ A i) (hx : WIn [eArg] isI (pSetQuorum w n).1) : CtW l Γ yL_setQuorum cL_setQuorum 4 (some .int) [(0, 9, 12, 15)] 8 3 18 [.ref (A 313), .int n, .ref o] M (WMu Γ A o [eArg] cvI (pSetQuorum w n) M) := by
  refine CtW.of hl (by decide) (Nat.le_of_ble_eq_true rfl) rfl ?_
  intro κ e1 e2 hnL hRm X F hlt
  subst e1 e2
  refine g_aload_n X dL_setQuorum_0 rfl 2 rfl ?_
  refine g_iconst (v := 0) X dL_setQuorum_1 (by decide) ?_
  refine g_aload_n X dL_setQuorum_2 rfl 0 rfl ?_
  refine g_iload_n X dL_setQuorum_3 rfl 1 rfl ?_
  refine g_callV (As := [.int n]) (ci := 3) X dL_setQuorum_4 (c_X3_setQuorum κ.l hl κ.Γ M A w hB hI n) k514 k515 k516 k1 k517 rfl (BRep.obj hB) ⟨rfl, by decide, by decide, (show (parseMethodDescriptor yX3_setQuorum.desc).map (fun d => d.parameters.length) = some 1 by decide +kernel)⟩ rfl (Nat.le_of_ble_eq_true rfl) (by rw [hRm]; decide) (by rw [hRm]; exact ⟨Nat.le_of_ble_eq_true rfl, Nat.le_of_ble_eq_true rfl⟩) (fun v9 M9 h9 => ?_) (fun E9 M9 h9 => ?_)
  · obtain ⟨n9, rfl⟩ := WIn.int hx h9.1
    have ho9 : M9 o = some (.inl (κ.Γ.2.1 1, 1, .inr (.inl fo))) := (h9.2.2 o hoA).trans ho
    refine g_i2l X dL_setQuorum_7 ?_
    refine g_lastore X dL_setQuorum_8 ho9 vin01 ?_
    refine g_goto (tgt := 15) X dL_setQuorum_9 (by decide) ?_
    refine g_iconst (v := 0) X dL_setQuorum_15 (by decide) ?_
    exact g_iret X F dL_setQuorum_16 (Nat.le_of_ble_eq_true rfl) (Nat.le_of_ble_eq_true rfl) (WMu.ok h9 hoA rfl)
  · obtain ⟨k9, hk9⟩ := WIn.ex hx h9.1
    rcases hk9 with ⟨rfl, rfl⟩ | hk9
    · refine gx_catch (name := eArg) X [] ⟨0, 9, 12, 15⟩ [] rfl (fun z9 hz9 => absurd hz9 List.not_mem_nil) rfl (by decide) k369 k408 (fun q9 => ?_)
      refine g_astore_n (L' := [(3, .ref q9), (0, .ref (A 313)), (1, .int n), (2, .ref o)]) X dL_setQuorum_12 rfl (by rw [hnL]; decide) rfl ?_
      refine g_iconst (v := 1) X dL_setQuorum_13 (by decide) ?_
      exact g_iret X F dL_setQuorum_14 (Nat.le_of_ble_eq_true rfl) (Nat.le_of_ble_eq_true rfl) (WMu.exc h9 hoA ho (WEx.hd rfl))
    · exact hk9.elim
set_option maxRecDepth 100000 in
set_option maxHeartbeats 4000000 in
theorem c_L_wardOf (l : Launch) (hl : l.stackTraces = false) (Γ : Gm) (M : Hp) (A : Nat → Nat) (w : PV) (hB : BRep Γ A w M) (hI : BInv w) (x : Int32) (o : Nat) (fo : Nat → Int64) (ho : M o = some (.inl (Γ.2.1 1, 1, .inr (.inl fo)))) (hoA : ∀ i, i < 315 → o ≠ A i) (hx : WIn [eIdx] isI (pWardOf w x).1) : CtW l Γ yL_wardOf cL_wardOf 4 (some .int) [(0, 9, 12, 13)] 8 3 18 [.ref (A 313), .int x, .ref o] M (WMu Γ A o [eIdx] cvI (pWardOf w x) M) := by
  refine CtW.of hl (by decide) (Nat.le_of_ble_eq_true rfl) rfl ?_
  intro κ e1 e2 hnL hRm X F hlt
  subst e1 e2
  refine g_aload_n X dL_wardOf_0 rfl 2 rfl ?_
  refine g_iconst (v := 0) X dL_wardOf_1 (by decide) ?_
  refine g_aload_n X dL_wardOf_2 rfl 0 rfl ?_
  refine g_iload_n X dL_wardOf_3 rfl 1 rfl ?_
  refine g_callV (As := [.int x]) (ci := 3) X dL_wardOf_4 (c_X3_wardOf κ.l hl κ.Γ M A w hB hI x) k529 k530 k531 k1 k532 rfl (BRep.obj hB) ⟨rfl, by decide, by decide, (show (parseMethodDescriptor yX3_wardOf.desc).map (fun d => d.parameters.length) = some 1 by decide +kernel)⟩ rfl (Nat.le_of_ble_eq_true rfl) (by rw [hRm]; decide) (by rw [hRm]; exact ⟨Nat.le_of_ble_eq_true rfl, Nat.le_of_ble_eq_true rfl⟩) (fun v9 M9 h9 => ?_) (fun E9 M9 h9 => ?_)
  · obtain ⟨n9, rfl⟩ := WIn.int hx h9.1
    have ho9 : M9 o = some (.inl (κ.Γ.2.1 1, 1, .inr (.inl fo))) := (h9.2.2 o hoA).trans ho
    refine g_i2l X dL_wardOf_7 ?_
    refine g_lastore X dL_wardOf_8 ho9 vin01 ?_
    refine g_goto (tgt := 15) X dL_wardOf_9 (by decide) ?_
    refine g_iconst (v := 0) X dL_wardOf_15 (by decide) ?_
    exact g_iret X F dL_wardOf_16 (Nat.le_of_ble_eq_true rfl) (Nat.le_of_ble_eq_true rfl) (WMu.ok h9 hoA rfl)
  · obtain ⟨k9, hk9⟩ := WIn.ex hx h9.1
    rcases hk9 with ⟨rfl, rfl⟩ | hk9
    · refine gx_catch (name := eIdx) X [] ⟨0, 9, 12, 13⟩ [] rfl (fun z9 hz9 => absurd hz9 List.not_mem_nil) rfl (by decide) k289 k387 (fun q9 => ?_)
      refine g_astore_n (L' := [(3, .ref q9), (0, .ref (A 313)), (1, .int x), (2, .ref o)]) X dL_wardOf_12 rfl (by rw [hnL]; decide) rfl ?_
      refine g_iconst (v := 1) X dL_wardOf_13 (by decide) ?_
      exact g_iret X F dL_wardOf_14 (Nat.le_of_ble_eq_true rfl) (Nat.le_of_ble_eq_true rfl) (WMu.exc h9 hoA ho (WEx.hd rfl))
    · exact hk9.elim
set_option maxRecDepth 100000 in
set_option maxHeartbeats 4000000 in
theorem c_L_weightOf (l : Launch) (hl : l.stackTraces = false) (Γ : Gm) (M : Hp) (A : Nat → Nat) (w : PV) (hB : BRep Γ A w M) (hI : BInv w) (x : Int32) (o : Nat) (fo : Nat → Int64) (ho : M o = some (.inl (Γ.2.1 1, 1, .inr (.inl fo)))) (hoA : ∀ i, i < 315 → o ≠ A i) (hx : WIn [eIdx] isI (pWeightOf w x).1) : CtW l Γ yL_weightOf cL_weightOf 4 (some .int) [(0, 9, 12, 13)] 8 3 18 [.ref (A 313), .int x, .ref o] M (WMu Γ A o [eIdx] cvI (pWeightOf w x) M) := by
  refine CtW.of hl (by decide) (Nat.le_of_ble_eq_true rfl) rfl ?_
  intro κ e1 e2 hnL hRm X F hlt
  subst e1 e2
  refine g_aload_n X dL_weightOf_0 rfl 2 rfl ?_
  refine g_iconst (v := 0) X dL_weightOf_1 (by decide) ?_
  refine g_aload_n X dL_weightOf_2 rfl 0 rfl ?_
  refine g_iload_n X dL_weightOf_3 rfl 1 rfl ?_
  refine g_callV (As := [.int x]) (ci := 3) X dL_weightOf_4 (c_X3_weightOf κ.l hl κ.Γ M A w hB hI x) k541 k542 k543 k1 k544 rfl (BRep.obj hB) ⟨rfl, by decide, by decide, (show (parseMethodDescriptor yX3_weightOf.desc).map (fun d => d.parameters.length) = some 1 by decide +kernel)⟩ rfl (Nat.le_of_ble_eq_true rfl) (by rw [hRm]; decide) (by rw [hRm]; exact ⟨Nat.le_of_ble_eq_true rfl, Nat.le_of_ble_eq_true rfl⟩) (fun v9 M9 h9 => ?_) (fun E9 M9 h9 => ?_)
  · obtain ⟨n9, rfl⟩ := WIn.int hx h9.1
    have ho9 : M9 o = some (.inl (κ.Γ.2.1 1, 1, .inr (.inl fo))) := (h9.2.2 o hoA).trans ho
    refine g_i2l X dL_weightOf_7 ?_
    refine g_lastore X dL_weightOf_8 ho9 vin01 ?_
    refine g_goto (tgt := 15) X dL_weightOf_9 (by decide) ?_
    refine g_iconst (v := 0) X dL_weightOf_15 (by decide) ?_
    exact g_iret X F dL_weightOf_16 (Nat.le_of_ble_eq_true rfl) (Nat.le_of_ble_eq_true rfl) (WMu.ok h9 hoA rfl)
  · obtain ⟨k9, hk9⟩ := WIn.ex hx h9.1
    rcases hk9 with ⟨rfl, rfl⟩ | hk9
    · refine gx_catch (name := eIdx) X [] ⟨0, 9, 12, 13⟩ [] rfl (fun z9 hz9 => absurd hz9 List.not_mem_nil) rfl (by decide) k289 k387 (fun q9 => ?_)
      refine g_astore_n (L' := [(3, .ref q9), (0, .ref (A 313)), (1, .int x), (2, .ref o)]) X dL_weightOf_12 rfl (by rw [hnL]; decide) rfl ?_
      refine g_iconst (v := 1) X dL_weightOf_13 (by decide) ?_
      exact g_iret X F dL_weightOf_14 (Nat.le_of_ble_eq_true rfl) (Nat.le_of_ble_eq_true rfl) (WMu.exc h9 hoA ho (WEx.hd rfl))
    · exact hk9.elim
set_option maxRecDepth 100000 in
set_option maxHeartbeats 4000000 in
theorem c_L_isPresent (l : Launch) (hl : l.stackTraces = false) (Γ : Gm) (M : Hp) (A : Nat → Nat) (w : PV) (hB : BRep Γ A w M) (hI : BInv w) (x : Int32) (o : Nat) (fo : Nat → Int64) (ho : M o = some (.inl (Γ.2.1 1, 1, .inr (.inl fo)))) (hoA : ∀ i, i < 315 → o ≠ A i) (hx : WIn [eIdx] isI (pIsPresent w x).1) : CtW l Γ yL_isPresent cL_isPresent 4 (some .int) [(0, 16, 19, 13)] 8 3 18 [.ref (A 313), .int x, .ref o] M (WMu Γ A o [eIdx] cvB (pIsPresent w x) M) := by
  refine CtW.of hl (by decide) (Nat.le_of_ble_eq_true rfl) rfl ?_
  intro κ e1 e2 hnL hRm X F hlt
  subst e1 e2
  refine g_aload_n X dL_isPresent_0 rfl 2 rfl ?_
  refine g_iconst (v := 0) X dL_isPresent_1 (by decide) ?_
  refine g_aload_n X dL_isPresent_2 rfl 0 rfl ?_
  refine g_iload_n X dL_isPresent_3 rfl 1 rfl ?_
  refine g_callV (As := [.int x]) (ci := 3) X dL_isPresent_4 (c_X3_isPresent κ.l hl κ.Γ M A w hB hI x) k548 k549 k550 k1 k551 rfl (BRep.obj hB) ⟨rfl, by decide, by decide, (show (parseMethodDescriptor yX3_isPresent.desc).map (fun d => d.parameters.length) = some 1 by decide +kernel)⟩ rfl (Nat.le_of_ble_eq_true rfl) (by rw [hRm]; decide) (by rw [hRm]; exact ⟨Nat.le_of_ble_eq_true rfl, Nat.le_of_ble_eq_true rfl⟩) (fun v9 M9 h9 => ?_) (fun E9 M9 h9 => ?_)
  · obtain ⟨n9, rfl⟩ := WIn.int hx h9.1
    have ho9 : M9 o = some (.inl (κ.Γ.2.1 1, 1, .inr (.inl fo))) := (h9.2.2 o hoA).trans ho
    refine g_if_eq (tgt := 14) X dL_isPresent_7 (by decide) (fun z9 => ?_) (fun z9 => ?_)
    · refine g_lconst (v := 0) X dL_isPresent_14 rfl ?_
      refine g_lastore X dL_isPresent_15 ho9 vin01 ?_
      refine g_goto (tgt := 22) X dL_isPresent_16 (by decide) ?_
      refine g_iconst (v := 0) X dL_isPresent_22 (by decide) ?_
      exact g_iret X F dL_isPresent_23 (Nat.le_of_ble_eq_true rfl) (Nat.le_of_ble_eq_true rfl) (WMu.ok h9 hoA (by show (0 : Int64) = if n9 = 0 then 0 else 1; rw [if_pos z9]))
    · refine g_lconst (v := 1) X dL_isPresent_10 rfl ?_
      refine g_goto (tgt := 15) X dL_isPresent_11 (by decide) ?_
      refine g_lastore X dL_isPresent_15 ho9 vin01 ?_
      refine g_goto (tgt := 22) X dL_isPresent_16 (by decide) ?_
      refine g_iconst (v := 0) X dL_isPresent_22 (by decide) ?_
      exact g_iret X F dL_isPresent_23 (Nat.le_of_ble_eq_true rfl) (Nat.le_of_ble_eq_true rfl) (WMu.ok h9 hoA (by show (1 : Int64) = if n9 = 0 then 0 else 1; rw [if_neg z9]))
  · obtain ⟨k9, hk9⟩ := WIn.ex hx h9.1
    rcases hk9 with ⟨rfl, rfl⟩ | hk9
    · refine gx_catch (name := eIdx) X [] ⟨0, 16, 19, 13⟩ [] rfl (fun z9 hz9 => absurd hz9 List.not_mem_nil) rfl (by decide) k289 k387 (fun q9 => ?_)
      refine g_astore_n (L' := [(3, .ref q9), (0, .ref (A 313)), (1, .int x), (2, .ref o)]) X dL_isPresent_19 rfl (by rw [hnL]; decide) rfl ?_
      refine g_iconst (v := 1) X dL_isPresent_20 (by decide) ?_
      exact g_iret X F dL_isPresent_21 (Nat.le_of_ble_eq_true rfl) (Nat.le_of_ble_eq_true rfl) (WMu.exc h9 hoA ho (WEx.hd rfl))
    · exact hk9.elim
set_option maxRecDepth 100000 in
set_option maxHeartbeats 4000000 in
theorem c_L_wardWeight (l : Launch) (hl : l.stackTraces = false) (Γ : Gm) (M : Hp) (A : Nat → Nat) (w : PV) (hB : BRep Γ A w M) (hI : BInv w) (x : Int32) (o : Nat) (fo : Nat → Int64) (ho : M o = some (.inl (Γ.2.1 1, 1, .inr (.inl fo)))) (hoA : ∀ i, i < 315 → o ≠ A i) (hx : WIn [eIdx] isI (pWardWeight w x).1) : CtW l Γ yL_wardWeight cL_wardWeight 4 (some .int) [(0, 9, 12, 13)] 8 3 18 [.ref (A 313), .int x, .ref o] M (WMu Γ A o [eIdx] cvI (pWardWeight w x) M) := by
  refine CtW.of hl (by decide) (Nat.le_of_ble_eq_true rfl) rfl ?_
  intro κ e1 e2 hnL hRm X F hlt
  subst e1 e2
  refine g_aload_n X dL_wardWeight_0 rfl 2 rfl ?_
  refine g_iconst (v := 0) X dL_wardWeight_1 (by decide) ?_
  refine g_aload_n X dL_wardWeight_2 rfl 0 rfl ?_
  refine g_iload_n X dL_wardWeight_3 rfl 1 rfl ?_
  refine g_callV (As := [.int x]) (ci := 3) X dL_wardWeight_4 (c_X3_wardWeight κ.l hl κ.Γ M A w hB hI x) k556 k557 k558 k1 k559 rfl (BRep.obj hB) ⟨rfl, by decide, by decide, (show (parseMethodDescriptor yX3_wardWeight.desc).map (fun d => d.parameters.length) = some 1 by decide +kernel)⟩ rfl (Nat.le_of_ble_eq_true rfl) (by rw [hRm]; decide) (by rw [hRm]; exact ⟨Nat.le_of_ble_eq_true rfl, Nat.le_of_ble_eq_true rfl⟩) (fun v9 M9 h9 => ?_) (fun E9 M9 h9 => ?_)
  · obtain ⟨n9, rfl⟩ := WIn.int hx h9.1
    have ho9 : M9 o = some (.inl (κ.Γ.2.1 1, 1, .inr (.inl fo))) := (h9.2.2 o hoA).trans ho
    refine g_i2l X dL_wardWeight_7 ?_
    refine g_lastore X dL_wardWeight_8 ho9 vin01 ?_
    refine g_goto (tgt := 15) X dL_wardWeight_9 (by decide) ?_
    refine g_iconst (v := 0) X dL_wardWeight_15 (by decide) ?_
    exact g_iret X F dL_wardWeight_16 (Nat.le_of_ble_eq_true rfl) (Nat.le_of_ble_eq_true rfl) (WMu.ok h9 hoA rfl)
  · obtain ⟨k9, hk9⟩ := WIn.ex hx h9.1
    rcases hk9 with ⟨rfl, rfl⟩ | hk9
    · refine gx_catch (name := eIdx) X [] ⟨0, 9, 12, 13⟩ [] rfl (fun z9 hz9 => absurd hz9 List.not_mem_nil) rfl (by decide) k289 k387 (fun q9 => ?_)
      refine g_astore_n (L' := [(3, .ref q9), (0, .ref (A 313)), (1, .int x), (2, .ref o)]) X dL_wardWeight_12 rfl (by rw [hnL]; decide) rfl ?_
      refine g_iconst (v := 1) X dL_wardWeight_13 (by decide) ?_
      exact g_iret X F dL_wardWeight_14 (Nat.le_of_ble_eq_true rfl) (Nat.le_of_ble_eq_true rfl) (WMu.exc h9 hoA ho (WEx.hd rfl))
    · exact hk9.elim
set_option maxRecDepth 100000 in
set_option maxHeartbeats 4000000 in
theorem c_L_introduce (l : Launch) (hl : l.stackTraces = false) (Γ : Gm) (M : Hp) (A : Nat → Nat) (w : PV) (hB : BRep Γ A w M) (hI : BInv w) (x : Int32) (f : Int32) (la : Int32) (o : Nat) (fo : Nat → Int64) (ho : M o = some (.inl (Γ.2.1 1, 1, .inr (.inl fo)))) (hoA : ∀ i, i < 315 → o ≠ A i) (hx : WIn [eIdx, eArg, eSta, eUns] isI (pIntroduce w x f la).1) : CtW l Γ yL_introduce cL_introduce 6 (some .int) [(0, 12, 15, 13), (0, 12, 19, 15), (0, 12, 23, 17), (0, 12, 27, 46)] 8 3 18 [.ref (A 313), .int x, .int f, .int la, .ref o] M (WMu Γ A o [eIdx, eArg, eSta, eUns] cvI (pIntroduce w x f la) M) := by
  refine CtW.of hl (by decide) (Nat.le_of_ble_eq_true rfl) rfl ?_
  intro κ e1 e2 hnL hRm X F hlt
  subst e1 e2
  refine g_aload X dL_introduce_0 4 rfl ?_
  refine g_iconst (v := 0) X dL_introduce_2 (by decide) ?_
  refine g_aload_n X dL_introduce_3 rfl 0 rfl ?_
  refine g_iload_n X dL_introduce_4 rfl 1 rfl ?_
  refine g_iload_n X dL_introduce_5 rfl 2 rfl ?_
  refine g_iload_n X dL_introduce_6 rfl 3 rfl ?_
  refine g_callV (As := [.int x, .int f, .int la]) (ci := 3) X dL_introduce_7 (c_X3_introduce κ.l hl κ.Γ M A w hB hI x f la) k565 k566 k567 k1 k568 rfl (BRep.obj hB) ⟨rfl, by decide, by decide, (show (parseMethodDescriptor yX3_introduce.desc).map (fun d => d.parameters.length) = some 3 by decide +kernel)⟩ rfl (Nat.le_of_ble_eq_true rfl) (by rw [hRm]; decide) (by rw [hRm]; exact ⟨Nat.le_of_ble_eq_true rfl, Nat.le_of_ble_eq_true rfl⟩) (fun v9 M9 h9 => ?_) (fun E9 M9 h9 => ?_)
  · obtain ⟨n9, rfl⟩ := WIn.int hx h9.1
    have ho9 : M9 o = some (.inl (κ.Γ.2.1 1, 1, .inr (.inl fo))) := (h9.2.2 o hoA).trans ho
    refine g_i2l X dL_introduce_10 ?_
    refine g_lastore X dL_introduce_11 ho9 vin01 ?_
    refine g_goto (tgt := 31) X dL_introduce_12 (by decide) ?_
    refine g_iconst (v := 0) X dL_introduce_31 (by decide) ?_
    exact g_iret X F dL_introduce_32 (Nat.le_of_ble_eq_true rfl) (Nat.le_of_ble_eq_true rfl) (WMu.ok h9 hoA rfl)
  · obtain ⟨k9, hk9⟩ := WIn.ex hx h9.1
    rcases hk9 with ⟨rfl, rfl⟩ | ⟨rfl, rfl⟩ | ⟨rfl, rfl⟩ | ⟨rfl, rfl⟩ | hk9
    · refine gx_catch (name := eIdx) X [] ⟨0, 12, 15, 13⟩ [⟨0, 12, 19, 15⟩, ⟨0, 12, 23, 17⟩, ⟨0, 12, 27, 46⟩] rfl (fun z9 hz9 => absurd hz9 List.not_mem_nil) rfl (by decide) k289 k387 (fun q9 => ?_)
      refine g_astore (L' := [(5, .ref q9), (0, .ref (A 313)), (1, .int x), (2, .int f), (3, .int la), (4, .ref o)]) X dL_introduce_15 (by rw [hnL]; decide) rfl ?_
      refine g_iconst (v := 1) X dL_introduce_17 (by decide) ?_
      exact g_iret X F dL_introduce_18 (Nat.le_of_ble_eq_true rfl) (Nat.le_of_ble_eq_true rfl) (WMu.exc h9 hoA ho (WEx.hd rfl))
    · refine gx_catch (name := eArg) X [⟨0, 12, 15, 13⟩] ⟨0, 12, 19, 15⟩ [⟨0, 12, 23, 17⟩, ⟨0, 12, 27, 46⟩] rfl (List.forall_mem_cons.mpr ⟨⟨by decide, eIdx, k289, nc_eArg_eIdx⟩, (fun z9 hz9 => absurd hz9 List.not_mem_nil)⟩) rfl (by decide) k369 k408 (fun q9 => ?_)
      refine g_astore (L' := [(5, .ref q9), (0, .ref (A 313)), (1, .int x), (2, .int f), (3, .int la), (4, .ref o)]) X dL_introduce_19 (by rw [hnL]; decide) rfl ?_
      refine g_iconst (v := 2) X dL_introduce_21 (by decide) ?_
      exact g_iret X F dL_introduce_22 (Nat.le_of_ble_eq_true rfl) (Nat.le_of_ble_eq_true rfl) (WMu.exc h9 hoA ho (WEx.tl (WEx.hd rfl)))
    · refine gx_catch (name := eSta) X [⟨0, 12, 15, 13⟩, ⟨0, 12, 19, 15⟩] ⟨0, 12, 23, 17⟩ [⟨0, 12, 27, 46⟩] rfl (List.forall_mem_cons.mpr ⟨⟨by decide, eIdx, k289, nc_eSta_eIdx⟩, (List.forall_mem_cons.mpr ⟨⟨by decide, eArg, k369, nc_eSta_eArg⟩, (fun z9 hz9 => absurd hz9 List.not_mem_nil)⟩)⟩) rfl (by decide) k370 k423 (fun q9 => ?_)
      refine g_astore (L' := [(5, .ref q9), (0, .ref (A 313)), (1, .int x), (2, .int f), (3, .int la), (4, .ref o)]) X dL_introduce_23 (by rw [hnL]; decide) rfl ?_
      refine g_iconst (v := 3) X dL_introduce_25 (by decide) ?_
      exact g_iret X F dL_introduce_26 (Nat.le_of_ble_eq_true rfl) (Nat.le_of_ble_eq_true rfl) (WMu.exc h9 hoA ho (WEx.tl (WEx.tl (WEx.hd rfl))))
    · refine gx_catch (name := eUns) X [⟨0, 12, 15, 13⟩, ⟨0, 12, 19, 15⟩, ⟨0, 12, 23, 17⟩] ⟨0, 12, 27, 46⟩ [] rfl (List.forall_mem_cons.mpr ⟨⟨by decide, eIdx, k289, nc_eUns_eIdx⟩, (List.forall_mem_cons.mpr ⟨⟨by decide, eArg, k369, nc_eUns_eArg⟩, (List.forall_mem_cons.mpr ⟨⟨by decide, eSta, k370, nc_eUns_eSta⟩, (fun z9 hz9 => absurd hz9 List.not_mem_nil)⟩)⟩)⟩) rfl (by decide) k564 k453 (fun q9 => ?_)
      refine g_astore (L' := [(5, .ref q9), (0, .ref (A 313)), (1, .int x), (2, .int f), (3, .int la), (4, .ref o)]) X dL_introduce_27 (by rw [hnL]; decide) rfl ?_
      refine g_iconst (v := 4) X dL_introduce_29 (by decide) ?_
      exact g_iret X F dL_introduce_30 (Nat.le_of_ble_eq_true rfl) (Nat.le_of_ble_eq_true rfl) (WMu.exc h9 hoA ho (WEx.tl (WEx.tl (WEx.tl (WEx.hd rfl)))))
    · exact hk9.elim
set_option maxRecDepth 100000 in
set_option maxHeartbeats 4000000 in
theorem c_L_isOpen (l : Launch) (hl : l.stackTraces = false) (Γ : Gm) (M : Hp) (A : Nat → Nat) (w : PV) (hB : BRep Γ A w M) (hI : BInv w) (b : Int32) (o : Nat) (fo : Nat → Int64) (ho : M o = some (.inl (Γ.2.1 1, 1, .inr (.inl fo)))) (hoA : ∀ i, i < 315 → o ≠ A i) (hx : WIn [eIdx] isI (pIsOpen w b).1) : CtW l Γ yL_isOpen cL_isOpen 4 (some .int) [(0, 16, 19, 13)] 8 3 18 [.ref (A 313), .int b, .ref o] M (WMu Γ A o [eIdx] cvB (pIsOpen w b) M) := by
  refine CtW.of hl (by decide) (Nat.le_of_ble_eq_true rfl) rfl ?_
  intro κ e1 e2 hnL hRm X F hlt
  subst e1 e2
  refine g_aload_n X dL_isOpen_0 rfl 2 rfl ?_
  refine g_iconst (v := 0) X dL_isOpen_1 (by decide) ?_
  refine g_aload_n X dL_isOpen_2 rfl 0 rfl ?_
  refine g_iload_n X dL_isOpen_3 rfl 1 rfl ?_
  refine g_callV (As := [.int b]) (ci := 3) X dL_isOpen_4 (c_X3_isOpen κ.l hl κ.Γ M A w hB hI b) k584 k585 k586 k1 k587 rfl (BRep.obj hB) ⟨rfl, by decide, by decide, (show (parseMethodDescriptor yX3_isOpen.desc).map (fun d => d.parameters.length) = some 1 by decide +kernel)⟩ rfl (Nat.le_of_ble_eq_true rfl) (by rw [hRm]; decide) (by rw [hRm]; exact ⟨Nat.le_of_ble_eq_true rfl, Nat.le_of_ble_eq_true rfl⟩) (fun v9 M9 h9 => ?_) (fun E9 M9 h9 => ?_)
  · obtain ⟨n9, rfl⟩ := WIn.int hx h9.1
    have ho9 : M9 o = some (.inl (κ.Γ.2.1 1, 1, .inr (.inl fo))) := (h9.2.2 o hoA).trans ho
    refine g_if_eq (tgt := 14) X dL_isOpen_7 (by decide) (fun z9 => ?_) (fun z9 => ?_)
    · refine g_lconst (v := 0) X dL_isOpen_14 rfl ?_
      refine g_lastore X dL_isOpen_15 ho9 vin01 ?_
      refine g_goto (tgt := 22) X dL_isOpen_16 (by decide) ?_
      refine g_iconst (v := 0) X dL_isOpen_22 (by decide) ?_
      exact g_iret X F dL_isOpen_23 (Nat.le_of_ble_eq_true rfl) (Nat.le_of_ble_eq_true rfl) (WMu.ok h9 hoA (by show (0 : Int64) = if n9 = 0 then 0 else 1; rw [if_pos z9]))
    · refine g_lconst (v := 1) X dL_isOpen_10 rfl ?_
      refine g_goto (tgt := 15) X dL_isOpen_11 (by decide) ?_
      refine g_lastore X dL_isOpen_15 ho9 vin01 ?_
      refine g_goto (tgt := 22) X dL_isOpen_16 (by decide) ?_
      refine g_iconst (v := 0) X dL_isOpen_22 (by decide) ?_
      exact g_iret X F dL_isOpen_23 (Nat.le_of_ble_eq_true rfl) (Nat.le_of_ble_eq_true rfl) (WMu.ok h9 hoA (by show (1 : Int64) = if n9 = 0 then 0 else 1; rw [if_neg z9]))
  · obtain ⟨k9, hk9⟩ := WIn.ex hx h9.1
    rcases hk9 with ⟨rfl, rfl⟩ | hk9
    · refine gx_catch (name := eIdx) X [] ⟨0, 16, 19, 13⟩ [] rfl (fun z9 hz9 => absurd hz9 List.not_mem_nil) rfl (by decide) k289 k387 (fun q9 => ?_)
      refine g_astore_n (L' := [(3, .ref q9), (0, .ref (A 313)), (1, .int b), (2, .ref o)]) X dL_isOpen_19 rfl (by rw [hnL]; decide) rfl ?_
      refine g_iconst (v := 1) X dL_isOpen_20 (by decide) ?_
      exact g_iret X F dL_isOpen_21 (Nat.le_of_ble_eq_true rfl) (Nat.le_of_ble_eq_true rfl) (WMu.exc h9 hoA ho (WEx.hd rfl))
    · exact hk9.elim
set_option maxRecDepth 100000 in
set_option maxHeartbeats 4000000 in
theorem c_L_isPassed (l : Launch) (hl : l.stackTraces = false) (Γ : Gm) (M : Hp) (A : Nat → Nat) (w : PV) (hB : BRep Γ A w M) (hI : BInv w) (b : Int32) (o : Nat) (fo : Nat → Int64) (ho : M o = some (.inl (Γ.2.1 1, 1, .inr (.inl fo)))) (hoA : ∀ i, i < 315 → o ≠ A i) (hx : WIn [eIdx] isI (pIsPassed w b).1) : CtW l Γ yL_isPassed cL_isPassed 4 (some .int) [(0, 16, 19, 13)] 8 3 18 [.ref (A 313), .int b, .ref o] M (WMu Γ A o [eIdx] cvB (pIsPassed w b) M) := by
  refine CtW.of hl (by decide) (Nat.le_of_ble_eq_true rfl) rfl ?_
  intro κ e1 e2 hnL hRm X F hlt
  subst e1 e2
  refine g_aload_n X dL_isPassed_0 rfl 2 rfl ?_
  refine g_iconst (v := 0) X dL_isPassed_1 (by decide) ?_
  refine g_aload_n X dL_isPassed_2 rfl 0 rfl ?_
  refine g_iload_n X dL_isPassed_3 rfl 1 rfl ?_
  refine g_callV (As := [.int b]) (ci := 3) X dL_isPassed_4 (c_X3_isPassed κ.l hl κ.Γ M A w hB hI b) k599 k600 k601 k1 k602 rfl (BRep.obj hB) ⟨rfl, by decide, by decide, (show (parseMethodDescriptor yX3_isPassed.desc).map (fun d => d.parameters.length) = some 1 by decide +kernel)⟩ rfl (Nat.le_of_ble_eq_true rfl) (by rw [hRm]; decide) (by rw [hRm]; exact ⟨Nat.le_of_ble_eq_true rfl, Nat.le_of_ble_eq_true rfl⟩) (fun v9 M9 h9 => ?_) (fun E9 M9 h9 => ?_)
  · obtain ⟨n9, rfl⟩ := WIn.int hx h9.1
    have ho9 : M9 o = some (.inl (κ.Γ.2.1 1, 1, .inr (.inl fo))) := (h9.2.2 o hoA).trans ho
    refine g_if_eq (tgt := 14) X dL_isPassed_7 (by decide) (fun z9 => ?_) (fun z9 => ?_)
    · refine g_lconst (v := 0) X dL_isPassed_14 rfl ?_
      refine g_lastore X dL_isPassed_15 ho9 vin01 ?_
      refine g_goto (tgt := 22) X dL_isPassed_16 (by decide) ?_
      refine g_iconst (v := 0) X dL_isPassed_22 (by decide) ?_
      exact g_iret X F dL_isPassed_23 (Nat.le_of_ble_eq_true rfl) (Nat.le_of_ble_eq_true rfl) (WMu.ok h9 hoA (by show (0 : Int64) = if n9 = 0 then 0 else 1; rw [if_pos z9]))
    · refine g_lconst (v := 1) X dL_isPassed_10 rfl ?_
      refine g_goto (tgt := 15) X dL_isPassed_11 (by decide) ?_
      refine g_lastore X dL_isPassed_15 ho9 vin01 ?_
      refine g_goto (tgt := 22) X dL_isPassed_16 (by decide) ?_
      refine g_iconst (v := 0) X dL_isPassed_22 (by decide) ?_
      exact g_iret X F dL_isPassed_23 (Nat.le_of_ble_eq_true rfl) (Nat.le_of_ble_eq_true rfl) (WMu.ok h9 hoA (by show (1 : Int64) = if n9 = 0 then 0 else 1; rw [if_neg z9]))
  · obtain ⟨k9, hk9⟩ := WIn.ex hx h9.1
    rcases hk9 with ⟨rfl, rfl⟩ | hk9
    · refine gx_catch (name := eIdx) X [] ⟨0, 16, 19, 13⟩ [] rfl (fun z9 hz9 => absurd hz9 List.not_mem_nil) rfl (by decide) k289 k387 (fun q9 => ?_)
      refine g_astore_n (L' := [(3, .ref q9), (0, .ref (A 313)), (1, .int b), (2, .ref o)]) X dL_isPassed_19 rfl (by rw [hnL]; decide) rfl ?_
      refine g_iconst (v := 1) X dL_isPassed_20 (by decide) ?_
      exact g_iret X F dL_isPassed_21 (Nat.le_of_ble_eq_true rfl) (Nat.le_of_ble_eq_true rfl) (WMu.exc h9 hoA ho (WEx.hd rfl))
    · exact hk9.elim
set_option maxRecDepth 100000 in
set_option maxHeartbeats 4000000 in
theorem c_L_readings (l : Launch) (hl : l.stackTraces = false) (Γ : Gm) (M : Hp) (A : Nat → Nat) (w : PV) (hB : BRep Γ A w M) (hI : BInv w) (b : Int32) (o : Nat) (fo : Nat → Int64) (ho : M o = some (.inl (Γ.2.1 1, 1, .inr (.inl fo)))) (hoA : ∀ i, i < 315 → o ≠ A i) (hx : WIn [eIdx] isI (pReadings w b).1) : CtW l Γ yL_readings cL_readings 4 (some .int) [(0, 9, 12, 13)] 8 3 18 [.ref (A 313), .int b, .ref o] M (WMu Γ A o [eIdx] cvI (pReadings w b) M) := by
  refine CtW.of hl (by decide) (Nat.le_of_ble_eq_true rfl) rfl ?_
  intro κ e1 e2 hnL hRm X F hlt
  subst e1 e2
  refine g_aload_n X dL_readings_0 rfl 2 rfl ?_
  refine g_iconst (v := 0) X dL_readings_1 (by decide) ?_
  refine g_aload_n X dL_readings_2 rfl 0 rfl ?_
  refine g_iload_n X dL_readings_3 rfl 1 rfl ?_
  refine g_callV (As := [.int b]) (ci := 3) X dL_readings_4 (c_X3_readings κ.l hl κ.Γ M A w hB hI b) k606 k607 k608 k1 k609 rfl (BRep.obj hB) ⟨rfl, by decide, by decide, (show (parseMethodDescriptor yX3_readings.desc).map (fun d => d.parameters.length) = some 1 by decide +kernel)⟩ rfl (Nat.le_of_ble_eq_true rfl) (by rw [hRm]; decide) (by rw [hRm]; exact ⟨Nat.le_of_ble_eq_true rfl, Nat.le_of_ble_eq_true rfl⟩) (fun v9 M9 h9 => ?_) (fun E9 M9 h9 => ?_)
  · obtain ⟨n9, rfl⟩ := WIn.int hx h9.1
    have ho9 : M9 o = some (.inl (κ.Γ.2.1 1, 1, .inr (.inl fo))) := (h9.2.2 o hoA).trans ho
    refine g_i2l X dL_readings_7 ?_
    refine g_lastore X dL_readings_8 ho9 vin01 ?_
    refine g_goto (tgt := 15) X dL_readings_9 (by decide) ?_
    refine g_iconst (v := 0) X dL_readings_15 (by decide) ?_
    exact g_iret X F dL_readings_16 (Nat.le_of_ble_eq_true rfl) (Nat.le_of_ble_eq_true rfl) (WMu.ok h9 hoA rfl)
  · obtain ⟨k9, hk9⟩ := WIn.ex hx h9.1
    rcases hk9 with ⟨rfl, rfl⟩ | hk9
    · refine gx_catch (name := eIdx) X [] ⟨0, 9, 12, 13⟩ [] rfl (fun z9 hz9 => absurd hz9 List.not_mem_nil) rfl (by decide) k289 k387 (fun q9 => ?_)
      refine g_astore_n (L' := [(3, .ref q9), (0, .ref (A 313)), (1, .int b), (2, .ref o)]) X dL_readings_12 rfl (by rw [hnL]; decide) rfl ?_
      refine g_iconst (v := 1) X dL_readings_13 (by decide) ?_
      exact g_iret X F dL_readings_14 (Nat.le_of_ble_eq_true rfl) (Nat.le_of_ble_eq_true rfl) (WMu.exc h9 hoA ho (WEx.hd rfl))
    · exact hk9.elim
set_option maxRecDepth 100000 in
set_option maxHeartbeats 4000000 in
theorem c_L_clauses (l : Launch) (hl : l.stackTraces = false) (Γ : Gm) (M : Hp) (A : Nat → Nat) (w : PV) (hB : BRep Γ A w M) (hI : BInv w) (b : Int32) (o : Nat) (fo : Nat → Int64) (ho : M o = some (.inl (Γ.2.1 1, 1, .inr (.inl fo)))) (hoA : ∀ i, i < 315 → o ≠ A i) (hx : WIn [eIdx] isL (pClauses w b).1) : CtW l Γ yL_clauses cL_clauses 4 (some .int) [(0, 8, 11, 13)] 8 3 18 [.ref (A 313), .int b, .ref o] M (WMu Γ A o [eIdx] cvI (pClauses w b) M) := by
  refine CtW.of hl (by decide) (Nat.le_of_ble_eq_true rfl) rfl ?_
  intro κ e1 e2 hnL hRm X F hlt
  subst e1 e2
  refine g_aload_n X dL_clauses_0 rfl 2 rfl ?_
  refine g_iconst (v := 0) X dL_clauses_1 (by decide) ?_
  refine g_aload_n X dL_clauses_2 rfl 0 rfl ?_
  refine g_iload_n X dL_clauses_3 rfl 1 rfl ?_
  refine g_callV (As := [.int b]) (ci := 3) X dL_clauses_4 (c_X3_clauses κ.l hl κ.Γ M A w hB hI b) k613 k614 k615 k1 k616 rfl (BRep.obj hB) ⟨rfl, by decide, by decide, (show (parseMethodDescriptor yX3_clauses.desc).map (fun d => d.parameters.length) = some 1 by decide +kernel)⟩ rfl (Nat.le_of_ble_eq_true rfl) (by rw [hRm]; decide) (by rw [hRm]; exact ⟨Nat.le_of_ble_eq_true rfl, Nat.le_of_ble_eq_true rfl⟩) (fun v9 M9 h9 => ?_) (fun E9 M9 h9 => ?_)
  · obtain ⟨n9, rfl⟩ := WIn.long hx h9.1
    have ho9 : M9 o = some (.inl (κ.Γ.2.1 1, 1, .inr (.inl fo))) := (h9.2.2 o hoA).trans ho
    refine g_lastore X dL_clauses_7 ho9 vin01 ?_
    refine g_goto (tgt := 14) X dL_clauses_8 (by decide) ?_
    refine g_iconst (v := 0) X dL_clauses_14 (by decide) ?_
    exact g_iret X F dL_clauses_15 (Nat.le_of_ble_eq_true rfl) (Nat.le_of_ble_eq_true rfl) (WMu.ok h9 hoA rfl)
  · obtain ⟨k9, hk9⟩ := WIn.ex hx h9.1
    rcases hk9 with ⟨rfl, rfl⟩ | hk9
    · refine gx_catch (name := eIdx) X [] ⟨0, 8, 11, 13⟩ [] rfl (fun z9 hz9 => absurd hz9 List.not_mem_nil) rfl (by decide) k289 k387 (fun q9 => ?_)
      refine g_astore_n (L' := [(3, .ref q9), (0, .ref (A 313)), (1, .int b), (2, .ref o)]) X dL_clauses_11 rfl (by rw [hnL]; decide) rfl ?_
      refine g_iconst (v := 1) X dL_clauses_12 (by decide) ?_
      exact g_iret X F dL_clauses_13 (Nat.le_of_ble_eq_true rfl) (Nat.le_of_ble_eq_true rfl) (WMu.exc h9 hoA ho (WEx.hd rfl))
    · exact hk9.elim
set_option maxRecDepth 100000 in
set_option maxHeartbeats 4000000 in
theorem c_L_clauseCount (l : Launch) (hl : l.stackTraces = false) (Γ : Gm) (M : Hp) (A : Nat → Nat) (w : PV) (hB : BRep Γ A w M) (hI : BInv w) (b : Int32) (o : Nat) (fo : Nat → Int64) (ho : M o = some (.inl (Γ.2.1 1, 1, .inr (.inl fo)))) (hoA : ∀ i, i < 315 → o ≠ A i) (hx : WIn [eIdx] isI (pClauseCount w b).1) : CtW l Γ yL_clauseCount cL_clauseCount 4 (some .int) [(0, 9, 12, 13)] 8 3 18 [.ref (A 313), .int b, .ref o] M (WMu Γ A o [eIdx] cvI (pClauseCount w b) M) := by
  refine CtW.of hl (by decide) (Nat.le_of_ble_eq_true rfl) rfl ?_
  intro κ e1 e2 hnL hRm X F hlt
  subst e1 e2
  refine g_aload_n X dL_clauseCount_0 rfl 2 rfl ?_
  refine g_iconst (v := 0) X dL_clauseCount_1 (by decide) ?_
  refine g_aload_n X dL_clauseCount_2 rfl 0 rfl ?_
  refine g_iload_n X dL_clauseCount_3 rfl 1 rfl ?_
  refine g_callV (As := [.int b]) (ci := 3) X dL_clauseCount_4 (c_X3_clauseCount κ.l hl κ.Γ M A w hB hI b) k620 k621 k622 k1 k623 rfl (BRep.obj hB) ⟨rfl, by decide, by decide, (show (parseMethodDescriptor yX3_clauseCount.desc).map (fun d => d.parameters.length) = some 1 by decide +kernel)⟩ rfl (Nat.le_of_ble_eq_true rfl) (by rw [hRm]; decide) (by rw [hRm]; exact ⟨Nat.le_of_ble_eq_true rfl, Nat.le_of_ble_eq_true rfl⟩) (fun v9 M9 h9 => ?_) (fun E9 M9 h9 => ?_)
  · obtain ⟨n9, rfl⟩ := WIn.int hx h9.1
    have ho9 : M9 o = some (.inl (κ.Γ.2.1 1, 1, .inr (.inl fo))) := (h9.2.2 o hoA).trans ho
    refine g_i2l X dL_clauseCount_7 ?_
    refine g_lastore X dL_clauseCount_8 ho9 vin01 ?_
    refine g_goto (tgt := 15) X dL_clauseCount_9 (by decide) ?_
    refine g_iconst (v := 0) X dL_clauseCount_15 (by decide) ?_
    exact g_iret X F dL_clauseCount_16 (Nat.le_of_ble_eq_true rfl) (Nat.le_of_ble_eq_true rfl) (WMu.ok h9 hoA rfl)
  · obtain ⟨k9, hk9⟩ := WIn.ex hx h9.1
    rcases hk9 with ⟨rfl, rfl⟩ | hk9
    · refine gx_catch (name := eIdx) X [] ⟨0, 9, 12, 13⟩ [] rfl (fun z9 hz9 => absurd hz9 List.not_mem_nil) rfl (by decide) k289 k387 (fun q9 => ?_)
      refine g_astore_n (L' := [(3, .ref q9), (0, .ref (A 313)), (1, .int b), (2, .ref o)]) X dL_clauseCount_12 rfl (by rw [hnL]; decide) rfl ?_
      refine g_iconst (v := 1) X dL_clauseCount_13 (by decide) ?_
      exact g_iret X F dL_clauseCount_14 (Nat.le_of_ble_eq_true rfl) (Nat.le_of_ble_eq_true rfl) (WMu.exc h9 hoA ho (WEx.hd rfl))
    · exact hk9.elim
set_option maxRecDepth 100000 in
set_option maxHeartbeats 4000000 in
theorem c_L_longestRun (l : Launch) (hl : l.stackTraces = false) (Γ : Gm) (M : Hp) (A : Nat → Nat) (w : PV) (hB : BRep Γ A w M) (hI : BInv w) (b : Int32) (o : Nat) (fo : Nat → Int64) (ho : M o = some (.inl (Γ.2.1 1, 1, .inr (.inl fo)))) (hoA : ∀ i, i < 315 → o ≠ A i) (hx : WIn [eIdx] isI (pLongestRun w b).1) : CtW l Γ yL_longestRun cL_longestRun 4 (some .int) [(0, 9, 12, 13)] 8 3 18 [.ref (A 313), .int b, .ref o] M (WMu Γ A o [eIdx] cvI (pLongestRun w b) M) := by
  refine CtW.of hl (by decide) (Nat.le_of_ble_eq_true rfl) rfl ?_
  intro κ e1 e2 hnL hRm X F hlt
  subst e1 e2
  refine g_aload_n X dL_longestRun_0 rfl 2 rfl ?_
  refine g_iconst (v := 0) X dL_longestRun_1 (by decide) ?_
  refine g_aload_n X dL_longestRun_2 rfl 0 rfl ?_
  refine g_iload_n X dL_longestRun_3 rfl 1 rfl ?_
  refine g_callV (As := [.int b]) (ci := 3) X dL_longestRun_4 (c_X3_longestRun κ.l hl κ.Γ M A w hB hI b) k633 k634 k635 k1 k636 rfl (BRep.obj hB) ⟨rfl, by decide, by decide, (show (parseMethodDescriptor yX3_longestRun.desc).map (fun d => d.parameters.length) = some 1 by decide +kernel)⟩ rfl (Nat.le_of_ble_eq_true rfl) (by rw [hRm]; decide) (by rw [hRm]; exact ⟨Nat.le_of_ble_eq_true rfl, Nat.le_of_ble_eq_true rfl⟩) (fun v9 M9 h9 => ?_) (fun E9 M9 h9 => ?_)
  · obtain ⟨n9, rfl⟩ := WIn.int hx h9.1
    have ho9 : M9 o = some (.inl (κ.Γ.2.1 1, 1, .inr (.inl fo))) := (h9.2.2 o hoA).trans ho
    refine g_i2l X dL_longestRun_7 ?_
    refine g_lastore X dL_longestRun_8 ho9 vin01 ?_
    refine g_goto (tgt := 15) X dL_longestRun_9 (by decide) ?_
    refine g_iconst (v := 0) X dL_longestRun_15 (by decide) ?_
    exact g_iret X F dL_longestRun_16 (Nat.le_of_ble_eq_true rfl) (Nat.le_of_ble_eq_true rfl) (WMu.ok h9 hoA rfl)
  · obtain ⟨k9, hk9⟩ := WIn.ex hx h9.1
    rcases hk9 with ⟨rfl, rfl⟩ | hk9
    · refine gx_catch (name := eIdx) X [] ⟨0, 9, 12, 13⟩ [] rfl (fun z9 hz9 => absurd hz9 List.not_mem_nil) rfl (by decide) k289 k387 (fun q9 => ?_)
      refine g_astore_n (L' := [(3, .ref q9), (0, .ref (A 313)), (1, .int b), (2, .ref o)]) X dL_longestRun_12 rfl (by rw [hnL]; decide) rfl ?_
      refine g_iconst (v := 1) X dL_longestRun_13 (by decide) ?_
      exact g_iret X F dL_longestRun_14 (Nat.le_of_ble_eq_true rfl) (Nat.le_of_ble_eq_true rfl) (WMu.exc h9 hoA ho (WEx.hd rfl))
    · exact hk9.elim
set_option maxRecDepth 100000 in
set_option maxHeartbeats 4000000 in
theorem c_L_longestRunByShift (l : Launch) (hl : l.stackTraces = false) (Γ : Gm) (M : Hp) (A : Nat → Nat) (w : PV) (hB : BRep Γ A w M) (hI : BInv w) (b : Int32) (o : Nat) (fo : Nat → Int64) (ho : M o = some (.inl (Γ.2.1 1, 1, .inr (.inl fo)))) (hoA : ∀ i, i < 315 → o ≠ A i) (hx : WIn [eIdx] isI (pLongestRunByShift w b).1) : CtW l Γ yL_longestRunByShift cL_longestRunByShift 4 (some .int) [(0, 9, 12, 13)] 8 3 18 [.ref (A 313), .int b, .ref o] M (WMu Γ A o [eIdx] cvI (pLongestRunByShift w b) M) := by
  refine CtW.of hl (by decide) (Nat.le_of_ble_eq_true rfl) rfl ?_
  intro κ e1 e2 hnL hRm X F hlt
  subst e1 e2
  refine g_aload_n X dL_longestRunByShift_0 rfl 2 rfl ?_
  refine g_iconst (v := 0) X dL_longestRunByShift_1 (by decide) ?_
  refine g_aload_n X dL_longestRunByShift_2 rfl 0 rfl ?_
  refine g_iload_n X dL_longestRunByShift_3 rfl 1 rfl ?_
  refine g_callV (As := [.int b]) (ci := 3) X dL_longestRunByShift_4 (c_X3_longestRunByShift κ.l hl κ.Γ M A w hB hI b) k640 k641 k642 k1 k643 rfl (BRep.obj hB) ⟨rfl, by decide, by decide, (show (parseMethodDescriptor yX3_longestRunByShift.desc).map (fun d => d.parameters.length) = some 1 by decide +kernel)⟩ rfl (Nat.le_of_ble_eq_true rfl) (by rw [hRm]; decide) (by rw [hRm]; exact ⟨Nat.le_of_ble_eq_true rfl, Nat.le_of_ble_eq_true rfl⟩) (fun v9 M9 h9 => ?_) (fun E9 M9 h9 => ?_)
  · obtain ⟨n9, rfl⟩ := WIn.int hx h9.1
    have ho9 : M9 o = some (.inl (κ.Γ.2.1 1, 1, .inr (.inl fo))) := (h9.2.2 o hoA).trans ho
    refine g_i2l X dL_longestRunByShift_7 ?_
    refine g_lastore X dL_longestRunByShift_8 ho9 vin01 ?_
    refine g_goto (tgt := 15) X dL_longestRunByShift_9 (by decide) ?_
    refine g_iconst (v := 0) X dL_longestRunByShift_15 (by decide) ?_
    exact g_iret X F dL_longestRunByShift_16 (Nat.le_of_ble_eq_true rfl) (Nat.le_of_ble_eq_true rfl) (WMu.ok h9 hoA rfl)
  · obtain ⟨k9, hk9⟩ := WIn.ex hx h9.1
    rcases hk9 with ⟨rfl, rfl⟩ | hk9
    · refine gx_catch (name := eIdx) X [] ⟨0, 9, 12, 13⟩ [] rfl (fun z9 hz9 => absurd hz9 List.not_mem_nil) rfl (by decide) k289 k387 (fun q9 => ?_)
      refine g_astore_n (L' := [(3, .ref q9), (0, .ref (A 313)), (1, .int b), (2, .ref o)]) X dL_longestRunByShift_12 rfl (by rw [hnL]; decide) rfl ?_
      refine g_iconst (v := 1) X dL_longestRunByShift_13 (by decide) ?_
      exact g_iret X F dL_longestRunByShift_14 (Nat.le_of_ble_eq_true rfl) (Nat.le_of_ble_eq_true rfl) (WMu.exc h9 hoA ho (WEx.hd rfl))
    · exact hk9.elim
set_option maxRecDepth 100000 in
set_option maxHeartbeats 4000000 in
theorem c_L_billAtRank (l : Launch) (hl : l.stackTraces = false) (Γ : Gm) (M : Hp) (A : Nat → Nat) (w : PV) (hB : BRep Γ A w M) (hI : BInv w) (r : Int32) (o : Nat) (fo : Nat → Int64) (ho : M o = some (.inl (Γ.2.1 1, 1, .inr (.inl fo)))) (hoA : ∀ i, i < 315 → o ≠ A i) (hx : WIn [eEle] isI (pBillAtRank w r).1) : CtW l Γ yL_billAtRank cL_billAtRank 4 (some .int) [(0, 9, 12, 73)] 8 3 18 [.ref (A 313), .int r, .ref o] M (WMu Γ A o [eEle] cvI (pBillAtRank w r) M) := by
  refine CtW.of hl (by decide) (Nat.le_of_ble_eq_true rfl) rfl ?_
  intro κ e1 e2 hnL hRm X F hlt
  subst e1 e2
  refine g_aload_n X dL_billAtRank_0 rfl 2 rfl ?_
  refine g_iconst (v := 0) X dL_billAtRank_1 (by decide) ?_
  refine g_aload_n X dL_billAtRank_2 rfl 0 rfl ?_
  refine g_iload_n X dL_billAtRank_3 rfl 1 rfl ?_
  refine g_callV (As := [.int r]) (ci := 3) X dL_billAtRank_4 (c_X3_billAtRank κ.l hl κ.Γ M A w hB hI r) k648 k649 k650 k1 k651 rfl (BRep.obj hB) ⟨rfl, by decide, by decide, (show (parseMethodDescriptor yX3_billAtRank.desc).map (fun d => d.parameters.length) = some 1 by decide +kernel)⟩ rfl (Nat.le_of_ble_eq_true rfl) (by rw [hRm]; decide) (by rw [hRm]; exact ⟨Nat.le_of_ble_eq_true rfl, Nat.le_of_ble_eq_true rfl⟩) (fun v9 M9 h9 => ?_) (fun E9 M9 h9 => ?_)
  · obtain ⟨n9, rfl⟩ := WIn.int hx h9.1
    have ho9 : M9 o = some (.inl (κ.Γ.2.1 1, 1, .inr (.inl fo))) := (h9.2.2 o hoA).trans ho
    refine g_i2l X dL_billAtRank_7 ?_
    refine g_lastore X dL_billAtRank_8 ho9 vin01 ?_
    refine g_goto (tgt := 15) X dL_billAtRank_9 (by decide) ?_
    refine g_iconst (v := 0) X dL_billAtRank_15 (by decide) ?_
    exact g_iret X F dL_billAtRank_16 (Nat.le_of_ble_eq_true rfl) (Nat.le_of_ble_eq_true rfl) (WMu.ok h9 hoA rfl)
  · obtain ⟨k9, hk9⟩ := WIn.ex hx h9.1
    rcases hk9 with ⟨rfl, rfl⟩ | hk9
    · refine gx_catch (name := eEle) X [] ⟨0, 9, 12, 73⟩ [] rfl (fun z9 hz9 => absurd hz9 List.not_mem_nil) rfl (by decide) k647 k438 (fun q9 => ?_)
      refine g_astore_n (L' := [(3, .ref q9), (0, .ref (A 313)), (1, .int r), (2, .ref o)]) X dL_billAtRank_12 rfl (by rw [hnL]; decide) rfl ?_
      refine g_iconst (v := 1) X dL_billAtRank_13 (by decide) ?_
      exact g_iret X F dL_billAtRank_14 (Nat.le_of_ble_eq_true rfl) (Nat.le_of_ble_eq_true rfl) (WMu.exc h9 hoA ho (WEx.hd rfl))
    · exact hk9.elim
set_option maxRecDepth 100000 in
set_option maxHeartbeats 4000000 in
theorem c_L_voteFor (l : Launch) (hl : l.stackTraces = false) (Γ : Gm) (M : Hp) (A : Nat → Nat) (w : PV) (hB : BRep Γ A w M) (hI : BInv w) (b : Int32) (x : Int32) (o : Nat) (fo : Nat → Int64) (ho : M o = some (.inl (Γ.2.1 1, 1, .inr (.inl fo)))) (hoA : ∀ i, i < 315 → o ≠ A i) (hx : WIn [eIdx, eSta, eUns] isI (pVoteFor w b x).1) : CtW l Γ yL_voteFor cL_voteFor 5 (some .int) [(0, 10, 13, 13), (0, 10, 17, 17), (0, 10, 21, 46)] 8 3 18 [.ref (A 313), .int b, .int x, .ref o] M (WMu Γ A o [eIdx, eSta, eUns] cvI (pVoteFor w b x) M) := by
  refine CtW.of hl (by decide) (Nat.le_of_ble_eq_true rfl) rfl ?_
  intro κ e1 e2 hnL hRm X F hlt
  subst e1 e2
  refine g_aload_n X dL_voteFor_0 rfl 3 rfl ?_
  refine g_iconst (v := 0) X dL_voteFor_1 (by decide) ?_
  refine g_aload_n X dL_voteFor_2 rfl 0 rfl ?_
  refine g_iload_n X dL_voteFor_3 rfl 1 rfl ?_
  refine g_iload_n X dL_voteFor_4 rfl 2 rfl ?_
  refine g_callV (As := [.int b, .int x]) (ci := 3) X dL_voteFor_5 (c_X3_voteFor κ.l hl κ.Γ M A w hB hI b x) k667 k668 k669 k1 k670 rfl (BRep.obj hB) ⟨rfl, by decide, by decide, (show (parseMethodDescriptor yX3_voteFor.desc).map (fun d => d.parameters.length) = some 2 by decide +kernel)⟩ rfl (Nat.le_of_ble_eq_true rfl) (by rw [hRm]; decide) (by rw [hRm]; exact ⟨Nat.le_of_ble_eq_true rfl, Nat.le_of_ble_eq_true rfl⟩) (fun v9 M9 h9 => ?_) (fun E9 M9 h9 => ?_)
  · obtain ⟨n9, rfl⟩ := WIn.int hx h9.1
    have ho9 : M9 o = some (.inl (κ.Γ.2.1 1, 1, .inr (.inl fo))) := (h9.2.2 o hoA).trans ho
    refine g_i2l X dL_voteFor_8 ?_
    refine g_lastore X dL_voteFor_9 ho9 vin01 ?_
    refine g_goto (tgt := 25) X dL_voteFor_10 (by decide) ?_
    refine g_iconst (v := 0) X dL_voteFor_25 (by decide) ?_
    exact g_iret X F dL_voteFor_26 (Nat.le_of_ble_eq_true rfl) (Nat.le_of_ble_eq_true rfl) (WMu.ok h9 hoA rfl)
  · obtain ⟨k9, hk9⟩ := WIn.ex hx h9.1
    rcases hk9 with ⟨rfl, rfl⟩ | ⟨rfl, rfl⟩ | ⟨rfl, rfl⟩ | hk9
    · refine gx_catch (name := eIdx) X [] ⟨0, 10, 13, 13⟩ [⟨0, 10, 17, 17⟩, ⟨0, 10, 21, 46⟩] rfl (fun z9 hz9 => absurd hz9 List.not_mem_nil) rfl (by decide) k289 k387 (fun q9 => ?_)
      refine g_astore (L' := [(4, .ref q9), (0, .ref (A 313)), (1, .int b), (2, .int x), (3, .ref o)]) X dL_voteFor_13 (by rw [hnL]; decide) rfl ?_
      refine g_iconst (v := 1) X dL_voteFor_15 (by decide) ?_
      exact g_iret X F dL_voteFor_16 (Nat.le_of_ble_eq_true rfl) (Nat.le_of_ble_eq_true rfl) (WMu.exc h9 hoA ho (WEx.hd rfl))
    · refine gx_catch (name := eSta) X [⟨0, 10, 13, 13⟩] ⟨0, 10, 17, 17⟩ [⟨0, 10, 21, 46⟩] rfl (List.forall_mem_cons.mpr ⟨⟨by decide, eIdx, k289, nc_eSta_eIdx⟩, (fun z9 hz9 => absurd hz9 List.not_mem_nil)⟩) rfl (by decide) k370 k423 (fun q9 => ?_)
      refine g_astore (L' := [(4, .ref q9), (0, .ref (A 313)), (1, .int b), (2, .int x), (3, .ref o)]) X dL_voteFor_17 (by rw [hnL]; decide) rfl ?_
      refine g_iconst (v := 2) X dL_voteFor_19 (by decide) ?_
      exact g_iret X F dL_voteFor_20 (Nat.le_of_ble_eq_true rfl) (Nat.le_of_ble_eq_true rfl) (WMu.exc h9 hoA ho (WEx.tl (WEx.hd rfl)))
    · refine gx_catch (name := eUns) X [⟨0, 10, 13, 13⟩, ⟨0, 10, 17, 17⟩] ⟨0, 10, 21, 46⟩ [] rfl (List.forall_mem_cons.mpr ⟨⟨by decide, eIdx, k289, nc_eUns_eIdx⟩, (List.forall_mem_cons.mpr ⟨⟨by decide, eSta, k370, nc_eUns_eSta⟩, (fun z9 hz9 => absurd hz9 List.not_mem_nil)⟩)⟩) rfl (by decide) k564 k453 (fun q9 => ?_)
      refine g_astore (L' := [(4, .ref q9), (0, .ref (A 313)), (1, .int b), (2, .int x), (3, .ref o)]) X dL_voteFor_21 (by rw [hnL]; decide) rfl ?_
      refine g_iconst (v := 3) X dL_voteFor_23 (by decide) ?_
      exact g_iret X F dL_voteFor_24 (Nat.le_of_ble_eq_true rfl) (Nat.le_of_ble_eq_true rfl) (WMu.exc h9 hoA ho (WEx.tl (WEx.tl (WEx.hd rfl))))
    · exact hk9.elim
set_option maxRecDepth 100000 in
set_option maxHeartbeats 4000000 in
theorem c_L_voteAgainst (l : Launch) (hl : l.stackTraces = false) (Γ : Gm) (M : Hp) (A : Nat → Nat) (w : PV) (hB : BRep Γ A w M) (hI : BInv w) (b : Int32) (x : Int32) (o : Nat) (fo : Nat → Int64) (ho : M o = some (.inl (Γ.2.1 1, 1, .inr (.inl fo)))) (hoA : ∀ i, i < 315 → o ≠ A i) (hx : WIn [eIdx, eSta, eUns] isI (pVoteAgainst w b x).1) : CtW l Γ yL_voteAgainst cL_voteAgainst 5 (some .int) [(0, 10, 13, 13), (0, 10, 17, 17), (0, 10, 21, 46)] 8 3 18 [.ref (A 313), .int b, .int x, .ref o] M (WMu Γ A o [eIdx, eSta, eUns] cvI (pVoteAgainst w b x) M) := by
  refine CtW.of hl (by decide) (Nat.le_of_ble_eq_true rfl) rfl ?_
  intro κ e1 e2 hnL hRm X F hlt
  subst e1 e2
  refine g_aload_n X dL_voteAgainst_0 rfl 3 rfl ?_
  refine g_iconst (v := 0) X dL_voteAgainst_1 (by decide) ?_
  refine g_aload_n X dL_voteAgainst_2 rfl 0 rfl ?_
  refine g_iload_n X dL_voteAgainst_3 rfl 1 rfl ?_
  refine g_iload_n X dL_voteAgainst_4 rfl 2 rfl ?_
  refine g_callV (As := [.int b, .int x]) (ci := 3) X dL_voteAgainst_5 (c_X3_voteAgainst κ.l hl κ.Γ M A w hB hI b x) k684 k685 k686 k1 k687 rfl (BRep.obj hB) ⟨rfl, by decide, by decide, (show (parseMethodDescriptor yX3_voteAgainst.desc).map (fun d => d.parameters.length) = some 2 by decide +kernel)⟩ rfl (Nat.le_of_ble_eq_true rfl) (by rw [hRm]; decide) (by rw [hRm]; exact ⟨Nat.le_of_ble_eq_true rfl, Nat.le_of_ble_eq_true rfl⟩) (fun v9 M9 h9 => ?_) (fun E9 M9 h9 => ?_)
  · obtain ⟨n9, rfl⟩ := WIn.int hx h9.1
    have ho9 : M9 o = some (.inl (κ.Γ.2.1 1, 1, .inr (.inl fo))) := (h9.2.2 o hoA).trans ho
    refine g_i2l X dL_voteAgainst_8 ?_
    refine g_lastore X dL_voteAgainst_9 ho9 vin01 ?_
    refine g_goto (tgt := 25) X dL_voteAgainst_10 (by decide) ?_
    refine g_iconst (v := 0) X dL_voteAgainst_25 (by decide) ?_
    exact g_iret X F dL_voteAgainst_26 (Nat.le_of_ble_eq_true rfl) (Nat.le_of_ble_eq_true rfl) (WMu.ok h9 hoA rfl)
  · obtain ⟨k9, hk9⟩ := WIn.ex hx h9.1
    rcases hk9 with ⟨rfl, rfl⟩ | ⟨rfl, rfl⟩ | ⟨rfl, rfl⟩ | hk9
    · refine gx_catch (name := eIdx) X [] ⟨0, 10, 13, 13⟩ [⟨0, 10, 17, 17⟩, ⟨0, 10, 21, 46⟩] rfl (fun z9 hz9 => absurd hz9 List.not_mem_nil) rfl (by decide) k289 k387 (fun q9 => ?_)
      refine g_astore (L' := [(4, .ref q9), (0, .ref (A 313)), (1, .int b), (2, .int x), (3, .ref o)]) X dL_voteAgainst_13 (by rw [hnL]; decide) rfl ?_
      refine g_iconst (v := 1) X dL_voteAgainst_15 (by decide) ?_
      exact g_iret X F dL_voteAgainst_16 (Nat.le_of_ble_eq_true rfl) (Nat.le_of_ble_eq_true rfl) (WMu.exc h9 hoA ho (WEx.hd rfl))
    · refine gx_catch (name := eSta) X [⟨0, 10, 13, 13⟩] ⟨0, 10, 17, 17⟩ [⟨0, 10, 21, 46⟩] rfl (List.forall_mem_cons.mpr ⟨⟨by decide, eIdx, k289, nc_eSta_eIdx⟩, (fun z9 hz9 => absurd hz9 List.not_mem_nil)⟩) rfl (by decide) k370 k423 (fun q9 => ?_)
      refine g_astore (L' := [(4, .ref q9), (0, .ref (A 313)), (1, .int b), (2, .int x), (3, .ref o)]) X dL_voteAgainst_17 (by rw [hnL]; decide) rfl ?_
      refine g_iconst (v := 2) X dL_voteAgainst_19 (by decide) ?_
      exact g_iret X F dL_voteAgainst_20 (Nat.le_of_ble_eq_true rfl) (Nat.le_of_ble_eq_true rfl) (WMu.exc h9 hoA ho (WEx.tl (WEx.hd rfl)))
    · refine gx_catch (name := eUns) X [⟨0, 10, 13, 13⟩, ⟨0, 10, 17, 17⟩] ⟨0, 10, 21, 46⟩ [] rfl (List.forall_mem_cons.mpr ⟨⟨by decide, eIdx, k289, nc_eUns_eIdx⟩, (List.forall_mem_cons.mpr ⟨⟨by decide, eSta, k370, nc_eUns_eSta⟩, (fun z9 hz9 => absurd hz9 List.not_mem_nil)⟩)⟩) rfl (by decide) k564 k453 (fun q9 => ?_)
      refine g_astore (L' := [(4, .ref q9), (0, .ref (A 313)), (1, .int b), (2, .int x), (3, .ref o)]) X dL_voteAgainst_21 (by rw [hnL]; decide) rfl ?_
      refine g_iconst (v := 3) X dL_voteAgainst_23 (by decide) ?_
      exact g_iret X F dL_voteAgainst_24 (Nat.le_of_ble_eq_true rfl) (Nat.le_of_ble_eq_true rfl) (WMu.exc h9 hoA ho (WEx.tl (WEx.tl (WEx.hd rfl))))
    · exact hk9.elim
set_option maxRecDepth 100000 in
set_option maxHeartbeats 4000000 in
theorem c_L_weightFor (l : Launch) (hl : l.stackTraces = false) (Γ : Gm) (M : Hp) (A : Nat → Nat) (w : PV) (hB : BRep Γ A w M) (hI : BInv w) (b : Int32) (o : Nat) (fo : Nat → Int64) (ho : M o = some (.inl (Γ.2.1 1, 1, .inr (.inl fo)))) (hoA : ∀ i, i < 315 → o ≠ A i) (hx : WIn [eIdx] isI (pWeightFor w b).1) : CtW l Γ yL_weightFor cL_weightFor 4 (some .int) [(0, 9, 12, 13)] 8 3 18 [.ref (A 313), .int b, .ref o] M (WMu Γ A o [eIdx] cvI (pWeightFor w b) M) := by
  refine CtW.of hl (by decide) (Nat.le_of_ble_eq_true rfl) rfl ?_
  intro κ e1 e2 hnL hRm X F hlt
  subst e1 e2
  refine g_aload_n X dL_weightFor_0 rfl 2 rfl ?_
  refine g_iconst (v := 0) X dL_weightFor_1 (by decide) ?_
  refine g_aload_n X dL_weightFor_2 rfl 0 rfl ?_
  refine g_iload_n X dL_weightFor_3 rfl 1 rfl ?_
  refine g_callV (As := [.int b]) (ci := 3) X dL_weightFor_4 (c_X3_weightFor κ.l hl κ.Γ M A w hB hI b) k695 k696 k697 k1 k698 rfl (BRep.obj hB) ⟨rfl, by decide, by decide, (show (parseMethodDescriptor yX3_weightFor.desc).map (fun d => d.parameters.length) = some 1 by decide +kernel)⟩ rfl (Nat.le_of_ble_eq_true rfl) (by rw [hRm]; decide) (by rw [hRm]; exact ⟨Nat.le_of_ble_eq_true rfl, Nat.le_of_ble_eq_true rfl⟩) (fun v9 M9 h9 => ?_) (fun E9 M9 h9 => ?_)
  · obtain ⟨n9, rfl⟩ := WIn.int hx h9.1
    have ho9 : M9 o = some (.inl (κ.Γ.2.1 1, 1, .inr (.inl fo))) := (h9.2.2 o hoA).trans ho
    refine g_i2l X dL_weightFor_7 ?_
    refine g_lastore X dL_weightFor_8 ho9 vin01 ?_
    refine g_goto (tgt := 15) X dL_weightFor_9 (by decide) ?_
    refine g_iconst (v := 0) X dL_weightFor_15 (by decide) ?_
    exact g_iret X F dL_weightFor_16 (Nat.le_of_ble_eq_true rfl) (Nat.le_of_ble_eq_true rfl) (WMu.ok h9 hoA rfl)
  · obtain ⟨k9, hk9⟩ := WIn.ex hx h9.1
    rcases hk9 with ⟨rfl, rfl⟩ | hk9
    · refine gx_catch (name := eIdx) X [] ⟨0, 9, 12, 13⟩ [] rfl (fun z9 hz9 => absurd hz9 List.not_mem_nil) rfl (by decide) k289 k387 (fun q9 => ?_)
      refine g_astore_n (L' := [(3, .ref q9), (0, .ref (A 313)), (1, .int b), (2, .ref o)]) X dL_weightFor_12 rfl (by rw [hnL]; decide) rfl ?_
      refine g_iconst (v := 1) X dL_weightFor_13 (by decide) ?_
      exact g_iret X F dL_weightFor_14 (Nat.le_of_ble_eq_true rfl) (Nat.le_of_ble_eq_true rfl) (WMu.exc h9 hoA ho (WEx.hd rfl))
    · exact hk9.elim
set_option maxRecDepth 100000 in
set_option maxHeartbeats 4000000 in
theorem c_L_weightForByDigits (l : Launch) (hl : l.stackTraces = false) (Γ : Gm) (M : Hp) (A : Nat → Nat) (w : PV) (hB : BRep Γ A w M) (hI : BInv w) (b : Int32) (o : Nat) (fo : Nat → Int64) (ho : M o = some (.inl (Γ.2.1 1, 1, .inr (.inl fo)))) (hoA : ∀ i, i < 315 → o ≠ A i) (hx : WIn [eIdx] isI (pWeightForByDigits w b).1) : CtW l Γ yL_weightForByDigits cL_weightForByDigits 4 (some .int) [(0, 9, 12, 13)] 8 3 18 [.ref (A 313), .int b, .ref o] M (WMu Γ A o [eIdx] cvI (pWeightForByDigits w b) M) := by
  refine CtW.of hl (by decide) (Nat.le_of_ble_eq_true rfl) rfl ?_
  intro κ e1 e2 hnL hRm X F hlt
  subst e1 e2
  refine g_aload_n X dL_weightForByDigits_0 rfl 2 rfl ?_
  refine g_iconst (v := 0) X dL_weightForByDigits_1 (by decide) ?_
  refine g_aload_n X dL_weightForByDigits_2 rfl 0 rfl ?_
  refine g_iload_n X dL_weightForByDigits_3 rfl 1 rfl ?_
  refine g_callV (As := [.int b]) (ci := 3) X dL_weightForByDigits_4 (c_X3_weightForByDigits κ.l hl κ.Γ M A w hB hI b) k702 k703 k704 k1 k705 rfl (BRep.obj hB) ⟨rfl, by decide, by decide, (show (parseMethodDescriptor yX3_weightForByDigits.desc).map (fun d => d.parameters.length) = some 1 by decide +kernel)⟩ rfl (Nat.le_of_ble_eq_true rfl) (by rw [hRm]; decide) (by rw [hRm]; exact ⟨Nat.le_of_ble_eq_true rfl, Nat.le_of_ble_eq_true rfl⟩) (fun v9 M9 h9 => ?_) (fun E9 M9 h9 => ?_)
  · obtain ⟨n9, rfl⟩ := WIn.int hx h9.1
    have ho9 : M9 o = some (.inl (κ.Γ.2.1 1, 1, .inr (.inl fo))) := (h9.2.2 o hoA).trans ho
    refine g_i2l X dL_weightForByDigits_7 ?_
    refine g_lastore X dL_weightForByDigits_8 ho9 vin01 ?_
    refine g_goto (tgt := 15) X dL_weightForByDigits_9 (by decide) ?_
    refine g_iconst (v := 0) X dL_weightForByDigits_15 (by decide) ?_
    exact g_iret X F dL_weightForByDigits_16 (Nat.le_of_ble_eq_true rfl) (Nat.le_of_ble_eq_true rfl) (WMu.ok h9 hoA rfl)
  · obtain ⟨k9, hk9⟩ := WIn.ex hx h9.1
    rcases hk9 with ⟨rfl, rfl⟩ | hk9
    · refine gx_catch (name := eIdx) X [] ⟨0, 9, 12, 13⟩ [] rfl (fun z9 hz9 => absurd hz9 List.not_mem_nil) rfl (by decide) k289 k387 (fun q9 => ?_)
      refine g_astore_n (L' := [(3, .ref q9), (0, .ref (A 313)), (1, .int b), (2, .ref o)]) X dL_weightForByDigits_12 rfl (by rw [hnL]; decide) rfl ?_
      refine g_iconst (v := 1) X dL_weightForByDigits_13 (by decide) ?_
      exact g_iret X F dL_weightForByDigits_14 (Nat.le_of_ble_eq_true rfl) (Nat.le_of_ble_eq_true rfl) (WMu.exc h9 hoA ho (WEx.hd rfl))
    · exact hk9.elim
set_option maxRecDepth 100000 in
set_option maxHeartbeats 4000000 in
theorem c_L_weightAgainst (l : Launch) (hl : l.stackTraces = false) (Γ : Gm) (M : Hp) (A : Nat → Nat) (w : PV) (hB : BRep Γ A w M) (hI : BInv w) (b : Int32) (o : Nat) (fo : Nat → Int64) (ho : M o = some (.inl (Γ.2.1 1, 1, .inr (.inl fo)))) (hoA : ∀ i, i < 315 → o ≠ A i) (hx : WIn [eIdx] isI (pWeightAgainst w b).1) : CtW l Γ yL_weightAgainst cL_weightAgainst 4 (some .int) [(0, 9, 12, 13)] 8 3 18 [.ref (A 313), .int b, .ref o] M (WMu Γ A o [eIdx] cvI (pWeightAgainst w b) M) := by
  refine CtW.of hl (by decide) (Nat.le_of_ble_eq_true rfl) rfl ?_
  intro κ e1 e2 hnL hRm X F hlt
  subst e1 e2
  refine g_aload_n X dL_weightAgainst_0 rfl 2 rfl ?_
  refine g_iconst (v := 0) X dL_weightAgainst_1 (by decide) ?_
  refine g_aload_n X dL_weightAgainst_2 rfl 0 rfl ?_
  refine g_iload_n X dL_weightAgainst_3 rfl 1 rfl ?_
  refine g_callV (As := [.int b]) (ci := 3) X dL_weightAgainst_4 (c_X3_weightAgainst κ.l hl κ.Γ M A w hB hI b) k709 k710 k711 k1 k712 rfl (BRep.obj hB) ⟨rfl, by decide, by decide, (show (parseMethodDescriptor yX3_weightAgainst.desc).map (fun d => d.parameters.length) = some 1 by decide +kernel)⟩ rfl (Nat.le_of_ble_eq_true rfl) (by rw [hRm]; decide) (by rw [hRm]; exact ⟨Nat.le_of_ble_eq_true rfl, Nat.le_of_ble_eq_true rfl⟩) (fun v9 M9 h9 => ?_) (fun E9 M9 h9 => ?_)
  · obtain ⟨n9, rfl⟩ := WIn.int hx h9.1
    have ho9 : M9 o = some (.inl (κ.Γ.2.1 1, 1, .inr (.inl fo))) := (h9.2.2 o hoA).trans ho
    refine g_i2l X dL_weightAgainst_7 ?_
    refine g_lastore X dL_weightAgainst_8 ho9 vin01 ?_
    refine g_goto (tgt := 15) X dL_weightAgainst_9 (by decide) ?_
    refine g_iconst (v := 0) X dL_weightAgainst_15 (by decide) ?_
    exact g_iret X F dL_weightAgainst_16 (Nat.le_of_ble_eq_true rfl) (Nat.le_of_ble_eq_true rfl) (WMu.ok h9 hoA rfl)
  · obtain ⟨k9, hk9⟩ := WIn.ex hx h9.1
    rcases hk9 with ⟨rfl, rfl⟩ | hk9
    · refine gx_catch (name := eIdx) X [] ⟨0, 9, 12, 13⟩ [] rfl (fun z9 hz9 => absurd hz9 List.not_mem_nil) rfl (by decide) k289 k387 (fun q9 => ?_)
      refine g_astore_n (L' := [(3, .ref q9), (0, .ref (A 313)), (1, .int b), (2, .ref o)]) X dL_weightAgainst_12 rfl (by rw [hnL]; decide) rfl ?_
      refine g_iconst (v := 1) X dL_weightAgainst_13 (by decide) ?_
      exact g_iret X F dL_weightAgainst_14 (Nat.le_of_ble_eq_true rfl) (Nat.le_of_ble_eq_true rfl) (WMu.exc h9 hoA ho (WEx.hd rfl))
    · exact hk9.elim
