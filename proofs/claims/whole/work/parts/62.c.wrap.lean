set_option maxRecDepth 100000 in
set_option maxHeartbeats 4000000 in
theorem c_L_closeReading (l : Launch) (hl : l.stackTraces = false) (Γ : Gm) (M : Hp) (A : Nat → Nat) (w : PV) (hB : BRep Γ A w M) (hI : BInv w) (b : Int32) (o : Nat) (fo : Nat → Int64) (ho : M o = some (.inl (Γ.2.1 1, 1, .inr (.inl fo)))) (hoA : ∀ i, i < 315 → o ≠ A i) (hx : WIn [eIdx, eSta, eUns] isI (pCloseReading w b).1) : CtW l Γ yL_closeReading cL_closeReading 4 (some .int) [(0, 16, 19, 13), (0, 16, 22, 17), (0, 16, 25, 46)] 8 3 18 [.ref (A 313), .int b, .ref o] M (WMu Γ A o [eIdx, eSta, eUns] cvB (pCloseReading w b) M) := by
  refine CtW.of hl (by decide) (Nat.le_of_ble_eq_true rfl) rfl ?_
  intro κ e1 e2 hnL hRm X F hlt
  subst e1 e2
  refine g_aload_n X dL_closeReading_0 rfl 2 rfl ?_
  refine g_iconst (v := 0) X dL_closeReading_1 (by decide) ?_
  refine g_aload_n X dL_closeReading_2 rfl 0 rfl ?_
  refine g_iload_n X dL_closeReading_3 rfl 1 rfl ?_
  refine g_callV (As := [.int b]) (ci := 3) X dL_closeReading_4 (c_X3_closeReading κ.l hl κ.Γ M A w hB hI b) k716 k717 k718 k1 k719 rfl (BRep.obj hB) ⟨rfl, by decide, by decide, (show (parseMethodDescriptor yX3_closeReading.desc).map (fun d => d.parameters.length) = some 1 by decide +kernel)⟩ rfl (Nat.le_of_ble_eq_true rfl) (by rw [hRm]; decide) (by rw [hRm]; exact ⟨Nat.le_of_ble_eq_true rfl, Nat.le_of_ble_eq_true rfl⟩) (fun v9 M9 h9 => ?_) (fun E9 M9 h9 => ?_)
  · obtain ⟨n9, rfl⟩ := WIn.int hx h9.1
    have ho9 : M9 o = some (.inl (κ.Γ.2.1 1, 1, .inr (.inl fo))) := (h9.2.2 o hoA).trans ho
    refine g_if_eq (tgt := 14) X dL_closeReading_7 (by decide) (fun z9 => ?_) (fun z9 => ?_)
    · refine g_lconst (v := 0) X dL_closeReading_14 rfl ?_
      refine g_lastore X dL_closeReading_15 ho9 vin01 ?_
      refine g_goto (tgt := 28) X dL_closeReading_16 (by decide) ?_
      refine g_iconst (v := 0) X dL_closeReading_28 (by decide) ?_
      exact g_iret X F dL_closeReading_29 (Nat.le_of_ble_eq_true rfl) (Nat.le_of_ble_eq_true rfl) (WMu.ok h9 hoA (by show (0 : Int64) = if n9 = 0 then 0 else 1; rw [if_pos z9]))
    · refine g_lconst (v := 1) X dL_closeReading_10 rfl ?_
      refine g_goto (tgt := 15) X dL_closeReading_11 (by decide) ?_
      refine g_lastore X dL_closeReading_15 ho9 vin01 ?_
      refine g_goto (tgt := 28) X dL_closeReading_16 (by decide) ?_
      refine g_iconst (v := 0) X dL_closeReading_28 (by decide) ?_
      exact g_iret X F dL_closeReading_29 (Nat.le_of_ble_eq_true rfl) (Nat.le_of_ble_eq_true rfl) (WMu.ok h9 hoA (by show (1 : Int64) = if n9 = 0 then 0 else 1; rw [if_neg z9]))
  · obtain ⟨k9, hk9⟩ := WIn.ex hx h9.1
    rcases hk9 with ⟨rfl, rfl⟩ | ⟨rfl, rfl⟩ | ⟨rfl, rfl⟩ | hk9
    · refine gx_catch (name := eIdx) X [] ⟨0, 16, 19, 13⟩ [⟨0, 16, 22, 17⟩, ⟨0, 16, 25, 46⟩] rfl (fun z9 hz9 => absurd hz9 List.not_mem_nil) rfl (by decide) k289 k387 (fun q9 => ?_)
      refine g_astore_n (L' := [(3, .ref q9), (0, .ref (A 313)), (1, .int b), (2, .ref o)]) X dL_closeReading_19 rfl (by rw [hnL]; decide) rfl ?_
      refine g_iconst (v := 1) X dL_closeReading_20 (by decide) ?_
      exact g_iret X F dL_closeReading_21 (Nat.le_of_ble_eq_true rfl) (Nat.le_of_ble_eq_true rfl) (WMu.exc h9 hoA ho (WEx.hd rfl))
    · refine gx_catch (name := eSta) X [⟨0, 16, 19, 13⟩] ⟨0, 16, 22, 17⟩ [⟨0, 16, 25, 46⟩] rfl (List.forall_mem_cons.mpr ⟨⟨by decide, eIdx, k289, nc_eSta_eIdx⟩, (fun z9 hz9 => absurd hz9 List.not_mem_nil)⟩) rfl (by decide) k370 k423 (fun q9 => ?_)
      refine g_astore_n (L' := [(3, .ref q9), (0, .ref (A 313)), (1, .int b), (2, .ref o)]) X dL_closeReading_22 rfl (by rw [hnL]; decide) rfl ?_
      refine g_iconst (v := 2) X dL_closeReading_23 (by decide) ?_
      exact g_iret X F dL_closeReading_24 (Nat.le_of_ble_eq_true rfl) (Nat.le_of_ble_eq_true rfl) (WMu.exc h9 hoA ho (WEx.tl (WEx.hd rfl)))
    · refine gx_catch (name := eUns) X [⟨0, 16, 19, 13⟩, ⟨0, 16, 22, 17⟩] ⟨0, 16, 25, 46⟩ [] rfl (List.forall_mem_cons.mpr ⟨⟨by decide, eIdx, k289, nc_eUns_eIdx⟩, (List.forall_mem_cons.mpr ⟨⟨by decide, eSta, k370, nc_eUns_eSta⟩, (fun z9 hz9 => absurd hz9 List.not_mem_nil)⟩)⟩) rfl (by decide) k564 k453 (fun q9 => ?_)
      refine g_astore_n (L' := [(3, .ref q9), (0, .ref (A 313)), (1, .int b), (2, .ref o)]) X dL_closeReading_25 rfl (by rw [hnL]; decide) rfl ?_
      refine g_iconst (v := 3) X dL_closeReading_26 (by decide) ?_
      exact g_iret X F dL_closeReading_27 (Nat.le_of_ble_eq_true rfl) (Nat.le_of_ble_eq_true rfl) (WMu.exc h9 hoA ho (WEx.tl (WEx.tl (WEx.hd rfl))))
    · exact hk9.elim
set_option maxRecDepth 100000 in
set_option maxHeartbeats 4000000 in
theorem c_L_propose (l : Launch) (hl : l.stackTraces = false) (Γ : Gm) (M : Hp) (A : Nat → Nat) (w : PV) (hB : BRep Γ A w M) (hI : BInv w) (b : Int32) (x : Int32) (c : Int32) (o : Nat) (fo : Nat → Int64) (ho : M o = some (.inl (Γ.2.1 1, 1, .inr (.inl fo)))) (hoA : ∀ i, i < 315 → o ≠ A i) (hx : WIn [eIdx, eSta, eUns] isI (pPropose w b x c).1) : CtW l Γ yL_propose cL_propose 6 (some .int) [(0, 12, 15, 13), (0, 12, 19, 17), (0, 12, 23, 46)] 8 3 18 [.ref (A 313), .int b, .int x, .int c, .ref o] M (WMu Γ A o [eIdx, eSta, eUns] cvI (pPropose w b x c) M) := by
  refine CtW.of hl (by decide) (Nat.le_of_ble_eq_true rfl) rfl ?_
  intro κ e1 e2 hnL hRm X F hlt
  subst e1 e2
  refine g_aload X dL_propose_0 4 rfl ?_
  refine g_iconst (v := 0) X dL_propose_2 (by decide) ?_
  refine g_aload_n X dL_propose_3 rfl 0 rfl ?_
  refine g_iload_n X dL_propose_4 rfl 1 rfl ?_
  refine g_iload_n X dL_propose_5 rfl 2 rfl ?_
  refine g_iload_n X dL_propose_6 rfl 3 rfl ?_
  refine g_callV (As := [.int b, .int x, .int c]) (ci := 3) X dL_propose_7 (c_X3_propose κ.l hl κ.Γ M A w hB hI b x c) k736 k737 k738 k1 k739 rfl (BRep.obj hB) ⟨rfl, by decide, by decide, (show (parseMethodDescriptor yX3_propose.desc).map (fun d => d.parameters.length) = some 3 by decide +kernel)⟩ rfl (Nat.le_of_ble_eq_true rfl) (by rw [hRm]; decide) (by rw [hRm]; exact ⟨Nat.le_of_ble_eq_true rfl, Nat.le_of_ble_eq_true rfl⟩) (fun v9 M9 h9 => ?_) (fun E9 M9 h9 => ?_)
  · obtain ⟨n9, rfl⟩ := WIn.int hx h9.1
    have ho9 : M9 o = some (.inl (κ.Γ.2.1 1, 1, .inr (.inl fo))) := (h9.2.2 o hoA).trans ho
    refine g_i2l X dL_propose_10 ?_
    refine g_lastore X dL_propose_11 ho9 vin01 ?_
    refine g_goto (tgt := 27) X dL_propose_12 (by decide) ?_
    refine g_iconst (v := 0) X dL_propose_27 (by decide) ?_
    exact g_iret X F dL_propose_28 (Nat.le_of_ble_eq_true rfl) (Nat.le_of_ble_eq_true rfl) (WMu.ok h9 hoA rfl)
  · obtain ⟨k9, hk9⟩ := WIn.ex hx h9.1
    rcases hk9 with ⟨rfl, rfl⟩ | ⟨rfl, rfl⟩ | ⟨rfl, rfl⟩ | hk9
    · refine gx_catch (name := eIdx) X [] ⟨0, 12, 15, 13⟩ [⟨0, 12, 19, 17⟩, ⟨0, 12, 23, 46⟩] rfl (fun z9 hz9 => absurd hz9 List.not_mem_nil) rfl (by decide) k289 k387 (fun q9 => ?_)
      refine g_astore (L' := [(5, .ref q9), (0, .ref (A 313)), (1, .int b), (2, .int x), (3, .int c), (4, .ref o)]) X dL_propose_15 (by rw [hnL]; decide) rfl ?_
      refine g_iconst (v := 1) X dL_propose_17 (by decide) ?_
      exact g_iret X F dL_propose_18 (Nat.le_of_ble_eq_true rfl) (Nat.le_of_ble_eq_true rfl) (WMu.exc h9 hoA ho (WEx.hd rfl))
    · refine gx_catch (name := eSta) X [⟨0, 12, 15, 13⟩] ⟨0, 12, 19, 17⟩ [⟨0, 12, 23, 46⟩] rfl (List.forall_mem_cons.mpr ⟨⟨by decide, eIdx, k289, nc_eSta_eIdx⟩, (fun z9 hz9 => absurd hz9 List.not_mem_nil)⟩) rfl (by decide) k370 k423 (fun q9 => ?_)
      refine g_astore (L' := [(5, .ref q9), (0, .ref (A 313)), (1, .int b), (2, .int x), (3, .int c), (4, .ref o)]) X dL_propose_19 (by rw [hnL]; decide) rfl ?_
      refine g_iconst (v := 2) X dL_propose_21 (by decide) ?_
      exact g_iret X F dL_propose_22 (Nat.le_of_ble_eq_true rfl) (Nat.le_of_ble_eq_true rfl) (WMu.exc h9 hoA ho (WEx.tl (WEx.hd rfl)))
    · refine gx_catch (name := eUns) X [⟨0, 12, 15, 13⟩, ⟨0, 12, 19, 17⟩] ⟨0, 12, 23, 46⟩ [] rfl (List.forall_mem_cons.mpr ⟨⟨by decide, eIdx, k289, nc_eUns_eIdx⟩, (List.forall_mem_cons.mpr ⟨⟨by decide, eSta, k370, nc_eUns_eSta⟩, (fun z9 hz9 => absurd hz9 List.not_mem_nil)⟩)⟩) rfl (by decide) k564 k453 (fun q9 => ?_)
      refine g_astore (L' := [(5, .ref q9), (0, .ref (A 313)), (1, .int b), (2, .int x), (3, .int c), (4, .ref o)]) X dL_propose_23 (by rw [hnL]; decide) rfl ?_
      refine g_iconst (v := 3) X dL_propose_25 (by decide) ?_
      exact g_iret X F dL_propose_26 (Nat.le_of_ble_eq_true rfl) (Nat.le_of_ble_eq_true rfl) (WMu.exc h9 hoA ho (WEx.tl (WEx.tl (WEx.hd rfl))))
    · exact hk9.elim
set_option maxRecDepth 100000 in
set_option maxHeartbeats 4000000 in
theorem c_L_support (l : Launch) (hl : l.stackTraces = false) (Γ : Gm) (M : Hp) (A : Nat → Nat) (w : PV) (hB : BRep Γ A w M) (hI : BInv w) (b : Int32) (p : Int32) (x : Int32) (o : Nat) (fo : Nat → Int64) (ho : M o = some (.inl (Γ.2.1 1, 1, .inr (.inl fo)))) (hoA : ∀ i, i < 315 → o ≠ A i) (hx : WIn [eIdx, eSta, eEle, eUns] isI (pSupport w b p x).1) : CtW l Γ yL_support cL_support 6 (some .int) [(0, 12, 15, 13), (0, 12, 19, 17), (0, 12, 23, 73), (0, 12, 27, 46)] 8 3 18 [.ref (A 313), .int b, .int p, .int x, .ref o] M (WMu Γ A o [eIdx, eSta, eEle, eUns] cvI (pSupport w b p x) M) := by
  refine CtW.of hl (by decide) (Nat.le_of_ble_eq_true rfl) rfl ?_
  intro κ e1 e2 hnL hRm X F hlt
  subst e1 e2
  refine g_aload X dL_support_0 4 rfl ?_
  refine g_iconst (v := 0) X dL_support_2 (by decide) ?_
  refine g_aload_n X dL_support_3 rfl 0 rfl ?_
  refine g_iload_n X dL_support_4 rfl 1 rfl ?_
  refine g_iload_n X dL_support_5 rfl 2 rfl ?_
  refine g_iload_n X dL_support_6 rfl 3 rfl ?_
  refine g_callV (As := [.int b, .int p, .int x]) (ci := 3) X dL_support_7 (c_X3_support κ.l hl κ.Γ M A w hB hI b p x) k751 k752 k753 k1 k754 rfl (BRep.obj hB) ⟨rfl, by decide, by decide, (show (parseMethodDescriptor yX3_support.desc).map (fun d => d.parameters.length) = some 3 by decide +kernel)⟩ rfl (Nat.le_of_ble_eq_true rfl) (by rw [hRm]; decide) (by rw [hRm]; exact ⟨Nat.le_of_ble_eq_true rfl, Nat.le_of_ble_eq_true rfl⟩) (fun v9 M9 h9 => ?_) (fun E9 M9 h9 => ?_)
  · obtain ⟨n9, rfl⟩ := WIn.int hx h9.1
    have ho9 : M9 o = some (.inl (κ.Γ.2.1 1, 1, .inr (.inl fo))) := (h9.2.2 o hoA).trans ho
    refine g_i2l X dL_support_10 ?_
    refine g_lastore X dL_support_11 ho9 vin01 ?_
    refine g_goto (tgt := 31) X dL_support_12 (by decide) ?_
    refine g_iconst (v := 0) X dL_support_31 (by decide) ?_
    exact g_iret X F dL_support_32 (Nat.le_of_ble_eq_true rfl) (Nat.le_of_ble_eq_true rfl) (WMu.ok h9 hoA rfl)
  · obtain ⟨k9, hk9⟩ := WIn.ex hx h9.1
    rcases hk9 with ⟨rfl, rfl⟩ | ⟨rfl, rfl⟩ | ⟨rfl, rfl⟩ | ⟨rfl, rfl⟩ | hk9
    · refine gx_catch (name := eIdx) X [] ⟨0, 12, 15, 13⟩ [⟨0, 12, 19, 17⟩, ⟨0, 12, 23, 73⟩, ⟨0, 12, 27, 46⟩] rfl (fun z9 hz9 => absurd hz9 List.not_mem_nil) rfl (by decide) k289 k387 (fun q9 => ?_)
      refine g_astore (L' := [(5, .ref q9), (0, .ref (A 313)), (1, .int b), (2, .int p), (3, .int x), (4, .ref o)]) X dL_support_15 (by rw [hnL]; decide) rfl ?_
      refine g_iconst (v := 1) X dL_support_17 (by decide) ?_
      exact g_iret X F dL_support_18 (Nat.le_of_ble_eq_true rfl) (Nat.le_of_ble_eq_true rfl) (WMu.exc h9 hoA ho (WEx.hd rfl))
    · refine gx_catch (name := eSta) X [⟨0, 12, 15, 13⟩] ⟨0, 12, 19, 17⟩ [⟨0, 12, 23, 73⟩, ⟨0, 12, 27, 46⟩] rfl (List.forall_mem_cons.mpr ⟨⟨by decide, eIdx, k289, nc_eSta_eIdx⟩, (fun z9 hz9 => absurd hz9 List.not_mem_nil)⟩) rfl (by decide) k370 k423 (fun q9 => ?_)
      refine g_astore (L' := [(5, .ref q9), (0, .ref (A 313)), (1, .int b), (2, .int p), (3, .int x), (4, .ref o)]) X dL_support_19 (by rw [hnL]; decide) rfl ?_
      refine g_iconst (v := 2) X dL_support_21 (by decide) ?_
      exact g_iret X F dL_support_22 (Nat.le_of_ble_eq_true rfl) (Nat.le_of_ble_eq_true rfl) (WMu.exc h9 hoA ho (WEx.tl (WEx.hd rfl)))
    · refine gx_catch (name := eEle) X [⟨0, 12, 15, 13⟩, ⟨0, 12, 19, 17⟩] ⟨0, 12, 23, 73⟩ [⟨0, 12, 27, 46⟩] rfl (List.forall_mem_cons.mpr ⟨⟨by decide, eIdx, k289, nc_eEle_eIdx⟩, (List.forall_mem_cons.mpr ⟨⟨by decide, eSta, k370, nc_eEle_eSta⟩, (fun z9 hz9 => absurd hz9 List.not_mem_nil)⟩)⟩) rfl (by decide) k647 k438 (fun q9 => ?_)
      refine g_astore (L' := [(5, .ref q9), (0, .ref (A 313)), (1, .int b), (2, .int p), (3, .int x), (4, .ref o)]) X dL_support_23 (by rw [hnL]; decide) rfl ?_
      refine g_iconst (v := 3) X dL_support_25 (by decide) ?_
      exact g_iret X F dL_support_26 (Nat.le_of_ble_eq_true rfl) (Nat.le_of_ble_eq_true rfl) (WMu.exc h9 hoA ho (WEx.tl (WEx.tl (WEx.hd rfl))))
    · refine gx_catch (name := eUns) X [⟨0, 12, 15, 13⟩, ⟨0, 12, 19, 17⟩, ⟨0, 12, 23, 73⟩] ⟨0, 12, 27, 46⟩ [] rfl (List.forall_mem_cons.mpr ⟨⟨by decide, eIdx, k289, nc_eUns_eIdx⟩, (List.forall_mem_cons.mpr ⟨⟨by decide, eSta, k370, nc_eUns_eSta⟩, (List.forall_mem_cons.mpr ⟨⟨by decide, eEle, k647, nc_eUns_eEle⟩, (fun z9 hz9 => absurd hz9 List.not_mem_nil)⟩)⟩)⟩) rfl (by decide) k564 k453 (fun q9 => ?_)
      refine g_astore (L' := [(5, .ref q9), (0, .ref (A 313)), (1, .int b), (2, .int p), (3, .int x), (4, .ref o)]) X dL_support_27 (by rw [hnL]; decide) rfl ?_
      refine g_iconst (v := 4) X dL_support_29 (by decide) ?_
      exact g_iret X F dL_support_30 (Nat.le_of_ble_eq_true rfl) (Nat.le_of_ble_eq_true rfl) (WMu.exc h9 hoA ho (WEx.tl (WEx.tl (WEx.tl (WEx.hd rfl)))))
    · exact hk9.elim
set_option maxRecDepth 100000 in
set_option maxHeartbeats 4000000 in
theorem c_L_decide (l : Launch) (hl : l.stackTraces = false) (Γ : Gm) (M : Hp) (A : Nat → Nat) (w : PV) (hB : BRep Γ A w M) (hI : BInv w) (b : Int32) (o : Nat) (fo : Nat → Int64) (ho : M o = some (.inl (Γ.2.1 1, 1, .inr (.inl fo)))) (hoA : ∀ i, i < 315 → o ≠ A i) (hx : WIn [eIdx, eSta, eEle, eUns] isI (pDecide w b).1) : CtW l Γ yL_decide cL_decide 4 (some .int) [(0, 16, 19, 13), (0, 16, 22, 17), (0, 16, 25, 73), (0, 16, 28, 46)] 8 3 18 [.ref (A 313), .int b, .ref o] M (WMu Γ A o [eIdx, eSta, eEle, eUns] cvB (pDecide w b) M) := by
  refine CtW.of hl (by decide) (Nat.le_of_ble_eq_true rfl) rfl ?_
  intro κ e1 e2 hnL hRm X F hlt
  subst e1 e2
  refine g_aload_n X dL_decide_0 rfl 2 rfl ?_
  refine g_iconst (v := 0) X dL_decide_1 (by decide) ?_
  refine g_aload_n X dL_decide_2 rfl 0 rfl ?_
  refine g_iload_n X dL_decide_3 rfl 1 rfl ?_
  refine g_callV (As := [.int b]) (ci := 3) X dL_decide_4 (c_X3_decide κ.l hl κ.Γ M A w hB hI b) k770 k771 k772 k1 k773 rfl (BRep.obj hB) ⟨rfl, by decide, by decide, (show (parseMethodDescriptor yX3_decide.desc).map (fun d => d.parameters.length) = some 1 by decide +kernel)⟩ rfl (Nat.le_of_ble_eq_true rfl) (by rw [hRm]; decide) (by rw [hRm]; exact ⟨Nat.le_of_ble_eq_true rfl, Nat.le_of_ble_eq_true rfl⟩) (fun v9 M9 h9 => ?_) (fun E9 M9 h9 => ?_)
  · obtain ⟨n9, rfl⟩ := WIn.int hx h9.1
    have ho9 : M9 o = some (.inl (κ.Γ.2.1 1, 1, .inr (.inl fo))) := (h9.2.2 o hoA).trans ho
    refine g_if_eq (tgt := 14) X dL_decide_7 (by decide) (fun z9 => ?_) (fun z9 => ?_)
    · refine g_lconst (v := 0) X dL_decide_14 rfl ?_
      refine g_lastore X dL_decide_15 ho9 vin01 ?_
      refine g_goto (tgt := 31) X dL_decide_16 (by decide) ?_
      refine g_iconst (v := 0) X dL_decide_31 (by decide) ?_
      exact g_iret X F dL_decide_32 (Nat.le_of_ble_eq_true rfl) (Nat.le_of_ble_eq_true rfl) (WMu.ok h9 hoA (by show (0 : Int64) = if n9 = 0 then 0 else 1; rw [if_pos z9]))
    · refine g_lconst (v := 1) X dL_decide_10 rfl ?_
      refine g_goto (tgt := 15) X dL_decide_11 (by decide) ?_
      refine g_lastore X dL_decide_15 ho9 vin01 ?_
      refine g_goto (tgt := 31) X dL_decide_16 (by decide) ?_
      refine g_iconst (v := 0) X dL_decide_31 (by decide) ?_
      exact g_iret X F dL_decide_32 (Nat.le_of_ble_eq_true rfl) (Nat.le_of_ble_eq_true rfl) (WMu.ok h9 hoA (by show (1 : Int64) = if n9 = 0 then 0 else 1; rw [if_neg z9]))
  · obtain ⟨k9, hk9⟩ := WIn.ex hx h9.1
    rcases hk9 with ⟨rfl, rfl⟩ | ⟨rfl, rfl⟩ | ⟨rfl, rfl⟩ | ⟨rfl, rfl⟩ | hk9
    · refine gx_catch (name := eIdx) X [] ⟨0, 16, 19, 13⟩ [⟨0, 16, 22, 17⟩, ⟨0, 16, 25, 73⟩, ⟨0, 16, 28, 46⟩] rfl (fun z9 hz9 => absurd hz9 List.not_mem_nil) rfl (by decide) k289 k387 (fun q9 => ?_)
      refine g_astore_n (L' := [(3, .ref q9), (0, .ref (A 313)), (1, .int b), (2, .ref o)]) X dL_decide_19 rfl (by rw [hnL]; decide) rfl ?_
      refine g_iconst (v := 1) X dL_decide_20 (by decide) ?_
      exact g_iret X F dL_decide_21 (Nat.le_of_ble_eq_true rfl) (Nat.le_of_ble_eq_true rfl) (WMu.exc h9 hoA ho (WEx.hd rfl))
    · refine gx_catch (name := eSta) X [⟨0, 16, 19, 13⟩] ⟨0, 16, 22, 17⟩ [⟨0, 16, 25, 73⟩, ⟨0, 16, 28, 46⟩] rfl (List.forall_mem_cons.mpr ⟨⟨by decide, eIdx, k289, nc_eSta_eIdx⟩, (fun z9 hz9 => absurd hz9 List.not_mem_nil)⟩) rfl (by decide) k370 k423 (fun q9 => ?_)
      refine g_astore_n (L' := [(3, .ref q9), (0, .ref (A 313)), (1, .int b), (2, .ref o)]) X dL_decide_22 rfl (by rw [hnL]; decide) rfl ?_
      refine g_iconst (v := 2) X dL_decide_23 (by decide) ?_
      exact g_iret X F dL_decide_24 (Nat.le_of_ble_eq_true rfl) (Nat.le_of_ble_eq_true rfl) (WMu.exc h9 hoA ho (WEx.tl (WEx.hd rfl)))
    · refine gx_catch (name := eEle) X [⟨0, 16, 19, 13⟩, ⟨0, 16, 22, 17⟩] ⟨0, 16, 25, 73⟩ [⟨0, 16, 28, 46⟩] rfl (List.forall_mem_cons.mpr ⟨⟨by decide, eIdx, k289, nc_eEle_eIdx⟩, (List.forall_mem_cons.mpr ⟨⟨by decide, eSta, k370, nc_eEle_eSta⟩, (fun z9 hz9 => absurd hz9 List.not_mem_nil)⟩)⟩) rfl (by decide) k647 k438 (fun q9 => ?_)
      refine g_astore_n (L' := [(3, .ref q9), (0, .ref (A 313)), (1, .int b), (2, .ref o)]) X dL_decide_25 rfl (by rw [hnL]; decide) rfl ?_
      refine g_iconst (v := 3) X dL_decide_26 (by decide) ?_
      exact g_iret X F dL_decide_27 (Nat.le_of_ble_eq_true rfl) (Nat.le_of_ble_eq_true rfl) (WMu.exc h9 hoA ho (WEx.tl (WEx.tl (WEx.hd rfl))))
    · refine gx_catch (name := eUns) X [⟨0, 16, 19, 13⟩, ⟨0, 16, 22, 17⟩, ⟨0, 16, 25, 73⟩] ⟨0, 16, 28, 46⟩ [] rfl (List.forall_mem_cons.mpr ⟨⟨by decide, eIdx, k289, nc_eUns_eIdx⟩, (List.forall_mem_cons.mpr ⟨⟨by decide, eSta, k370, nc_eUns_eSta⟩, (List.forall_mem_cons.mpr ⟨⟨by decide, eEle, k647, nc_eUns_eEle⟩, (fun z9 hz9 => absurd hz9 List.not_mem_nil)⟩)⟩)⟩) rfl (by decide) k564 k453 (fun q9 => ?_)
      refine g_astore_n (L' := [(3, .ref q9), (0, .ref (A 313)), (1, .int b), (2, .ref o)]) X dL_decide_28 rfl (by rw [hnL]; decide) rfl ?_
      refine g_iconst (v := 4) X dL_decide_29 (by decide) ?_
      exact g_iret X F dL_decide_30 (Nat.le_of_ble_eq_true rfl) (Nat.le_of_ble_eq_true rfl) (WMu.exc h9 hoA ho (WEx.tl (WEx.tl (WEx.tl (WEx.hd rfl)))))
    · exact hk9.elim
set_option maxRecDepth 100000 in
set_option maxHeartbeats 4000000 in
theorem c_L_pendingCount (l : Launch) (hl : l.stackTraces = false) (Γ : Gm) (M : Hp) (A : Nat → Nat) (w : PV) (hB : BRep Γ A w M) (hI : BInv w) (b : Int32) (o : Nat) (fo : Nat → Int64) (ho : M o = some (.inl (Γ.2.1 1, 1, .inr (.inl fo)))) (hoA : ∀ i, i < 315 → o ≠ A i) (hx : WIn [eIdx] isI (pPendingCount w b).1) : CtW l Γ yL_pendingCount cL_pendingCount 4 (some .int) [(0, 9, 12, 13)] 8 3 18 [.ref (A 313), .int b, .ref o] M (WMu Γ A o [eIdx] cvI (pPendingCount w b) M) := by
  refine CtW.of hl (by decide) (Nat.le_of_ble_eq_true rfl) rfl ?_
  intro κ e1 e2 hnL hRm X F hlt
  subst e1 e2
  refine g_aload_n X dL_pendingCount_0 rfl 2 rfl ?_
  refine g_iconst (v := 0) X dL_pendingCount_1 (by decide) ?_
  refine g_aload_n X dL_pendingCount_2 rfl 0 rfl ?_
  refine g_iload_n X dL_pendingCount_3 rfl 1 rfl ?_
  refine g_callV (As := [.int b]) (ci := 3) X dL_pendingCount_4 (c_X3_pendingCount κ.l hl κ.Γ M A w hB hI b) k785 k786 k787 k1 k788 rfl (BRep.obj hB) ⟨rfl, by decide, by decide, (show (parseMethodDescriptor yX3_pendingCount.desc).map (fun d => d.parameters.length) = some 1 by decide +kernel)⟩ rfl (Nat.le_of_ble_eq_true rfl) (by rw [hRm]; decide) (by rw [hRm]; exact ⟨Nat.le_of_ble_eq_true rfl, Nat.le_of_ble_eq_true rfl⟩) (fun v9 M9 h9 => ?_) (fun E9 M9 h9 => ?_)
  · obtain ⟨n9, rfl⟩ := WIn.int hx h9.1
    have ho9 : M9 o = some (.inl (κ.Γ.2.1 1, 1, .inr (.inl fo))) := (h9.2.2 o hoA).trans ho
    refine g_i2l X dL_pendingCount_7 ?_
    refine g_lastore X dL_pendingCount_8 ho9 vin01 ?_
    refine g_goto (tgt := 15) X dL_pendingCount_9 (by decide) ?_
    refine g_iconst (v := 0) X dL_pendingCount_15 (by decide) ?_
    exact g_iret X F dL_pendingCount_16 (Nat.le_of_ble_eq_true rfl) (Nat.le_of_ble_eq_true rfl) (WMu.ok h9 hoA rfl)
  · obtain ⟨k9, hk9⟩ := WIn.ex hx h9.1
    rcases hk9 with ⟨rfl, rfl⟩ | hk9
    · refine gx_catch (name := eIdx) X [] ⟨0, 9, 12, 13⟩ [] rfl (fun z9 hz9 => absurd hz9 List.not_mem_nil) rfl (by decide) k289 k387 (fun q9 => ?_)
      refine g_astore_n (L' := [(3, .ref q9), (0, .ref (A 313)), (1, .int b), (2, .ref o)]) X dL_pendingCount_12 rfl (by rw [hnL]; decide) rfl ?_
      refine g_iconst (v := 1) X dL_pendingCount_13 (by decide) ?_
      exact g_iret X F dL_pendingCount_14 (Nat.le_of_ble_eq_true rfl) (Nat.le_of_ble_eq_true rfl) (WMu.exc h9 hoA ho (WEx.hd rfl))
    · exact hk9.elim
set_option maxRecDepth 100000 in
set_option maxHeartbeats 4000000 in
theorem c_L_amendedClause (l : Launch) (hl : l.stackTraces = false) (Γ : Gm) (M : Hp) (A : Nat → Nat) (w : PV) (hB : BRep Γ A w M) (hI : BInv w) (b : Int32) (x : Int32) (o : Nat) (fo : Nat → Int64) (ho : M o = some (.inl (Γ.2.1 1, 1, .inr (.inl fo)))) (hoA : ∀ i, i < 315 → o ≠ A i) (hx : WIn [eIdx, eEle] isI (pAmendedClause w b x).1) : CtW l Γ yL_amendedClause cL_amendedClause 5 (some .int) [(0, 10, 13, 13), (0, 10, 17, 73)] 8 3 18 [.ref (A 313), .int b, .int x, .ref o] M (WMu Γ A o [eIdx, eEle] cvI (pAmendedClause w b x) M) := by
  refine CtW.of hl (by decide) (Nat.le_of_ble_eq_true rfl) rfl ?_
  intro κ e1 e2 hnL hRm X F hlt
  subst e1 e2
  refine g_aload_n X dL_amendedClause_0 rfl 3 rfl ?_
  refine g_iconst (v := 0) X dL_amendedClause_1 (by decide) ?_
  refine g_aload_n X dL_amendedClause_2 rfl 0 rfl ?_
  refine g_iload_n X dL_amendedClause_3 rfl 1 rfl ?_
  refine g_iload_n X dL_amendedClause_4 rfl 2 rfl ?_
  refine g_callV (As := [.int b, .int x]) (ci := 3) X dL_amendedClause_5 (c_X3_amendedClause κ.l hl κ.Γ M A w hB hI b x) k792 k793 k794 k1 k795 rfl (BRep.obj hB) ⟨rfl, by decide, by decide, (show (parseMethodDescriptor yX3_amendedClause.desc).map (fun d => d.parameters.length) = some 2 by decide +kernel)⟩ rfl (Nat.le_of_ble_eq_true rfl) (by rw [hRm]; decide) (by rw [hRm]; exact ⟨Nat.le_of_ble_eq_true rfl, Nat.le_of_ble_eq_true rfl⟩) (fun v9 M9 h9 => ?_) (fun E9 M9 h9 => ?_)
  · obtain ⟨n9, rfl⟩ := WIn.int hx h9.1
    have ho9 : M9 o = some (.inl (κ.Γ.2.1 1, 1, .inr (.inl fo))) := (h9.2.2 o hoA).trans ho
    refine g_i2l X dL_amendedClause_8 ?_
    refine g_lastore X dL_amendedClause_9 ho9 vin01 ?_
    refine g_goto (tgt := 21) X dL_amendedClause_10 (by decide) ?_
    refine g_iconst (v := 0) X dL_amendedClause_21 (by decide) ?_
    exact g_iret X F dL_amendedClause_22 (Nat.le_of_ble_eq_true rfl) (Nat.le_of_ble_eq_true rfl) (WMu.ok h9 hoA rfl)
  · obtain ⟨k9, hk9⟩ := WIn.ex hx h9.1
    rcases hk9 with ⟨rfl, rfl⟩ | ⟨rfl, rfl⟩ | hk9
    · refine gx_catch (name := eIdx) X [] ⟨0, 10, 13, 13⟩ [⟨0, 10, 17, 73⟩] rfl (fun z9 hz9 => absurd hz9 List.not_mem_nil) rfl (by decide) k289 k387 (fun q9 => ?_)
      refine g_astore (L' := [(4, .ref q9), (0, .ref (A 313)), (1, .int b), (2, .int x), (3, .ref o)]) X dL_amendedClause_13 (by rw [hnL]; decide) rfl ?_
      refine g_iconst (v := 1) X dL_amendedClause_15 (by decide) ?_
      exact g_iret X F dL_amendedClause_16 (Nat.le_of_ble_eq_true rfl) (Nat.le_of_ble_eq_true rfl) (WMu.exc h9 hoA ho (WEx.hd rfl))
    · refine gx_catch (name := eEle) X [⟨0, 10, 13, 13⟩] ⟨0, 10, 17, 73⟩ [] rfl (List.forall_mem_cons.mpr ⟨⟨by decide, eIdx, k289, nc_eEle_eIdx⟩, (fun z9 hz9 => absurd hz9 List.not_mem_nil)⟩) rfl (by decide) k647 k438 (fun q9 => ?_)
      refine g_astore (L' := [(4, .ref q9), (0, .ref (A 313)), (1, .int b), (2, .int x), (3, .ref o)]) X dL_amendedClause_17 (by rw [hnL]; decide) rfl ?_
      refine g_iconst (v := 2) X dL_amendedClause_19 (by decide) ?_
      exact g_iret X F dL_amendedClause_20 (Nat.le_of_ble_eq_true rfl) (Nat.le_of_ble_eq_true rfl) (WMu.exc h9 hoA ho (WEx.tl (WEx.hd rfl)))
    · exact hk9.elim
set_option maxRecDepth 100000 in
set_option maxHeartbeats 4000000 in
theorem c_L_supportWeight (l : Launch) (hl : l.stackTraces = false) (Γ : Gm) (M : Hp) (A : Nat → Nat) (w : PV) (hB : BRep Γ A w M) (hI : BInv w) (b : Int32) (x : Int32) (o : Nat) (fo : Nat → Int64) (ho : M o = some (.inl (Γ.2.1 1, 1, .inr (.inl fo)))) (hoA : ∀ i, i < 315 → o ≠ A i) (hx : WIn [eIdx, eEle] isI (pSupportWeight w b x).1) : CtW l Γ yL_supportWeight cL_supportWeight 5 (some .int) [(0, 10, 13, 13), (0, 10, 17, 73)] 8 3 18 [.ref (A 313), .int b, .int x, .ref o] M (WMu Γ A o [eIdx, eEle] cvI (pSupportWeight w b x) M) := by
  refine CtW.of hl (by decide) (Nat.le_of_ble_eq_true rfl) rfl ?_
  intro κ e1 e2 hnL hRm X F hlt
  subst e1 e2
  refine g_aload_n X dL_supportWeight_0 rfl 3 rfl ?_
  refine g_iconst (v := 0) X dL_supportWeight_1 (by decide) ?_
  refine g_aload_n X dL_supportWeight_2 rfl 0 rfl ?_
  refine g_iload_n X dL_supportWeight_3 rfl 1 rfl ?_
  refine g_iload_n X dL_supportWeight_4 rfl 2 rfl ?_
  refine g_callV (As := [.int b, .int x]) (ci := 3) X dL_supportWeight_5 (c_X3_supportWeight κ.l hl κ.Γ M A w hB hI b x) k804 k805 k806 k1 k807 rfl (BRep.obj hB) ⟨rfl, by decide, by decide, (show (parseMethodDescriptor yX3_supportWeight.desc).map (fun d => d.parameters.length) = some 2 by decide +kernel)⟩ rfl (Nat.le_of_ble_eq_true rfl) (by rw [hRm]; decide) (by rw [hRm]; exact ⟨Nat.le_of_ble_eq_true rfl, Nat.le_of_ble_eq_true rfl⟩) (fun v9 M9 h9 => ?_) (fun E9 M9 h9 => ?_)
  · obtain ⟨n9, rfl⟩ := WIn.int hx h9.1
    have ho9 : M9 o = some (.inl (κ.Γ.2.1 1, 1, .inr (.inl fo))) := (h9.2.2 o hoA).trans ho
    refine g_i2l X dL_supportWeight_8 ?_
    refine g_lastore X dL_supportWeight_9 ho9 vin01 ?_
    refine g_goto (tgt := 21) X dL_supportWeight_10 (by decide) ?_
    refine g_iconst (v := 0) X dL_supportWeight_21 (by decide) ?_
    exact g_iret X F dL_supportWeight_22 (Nat.le_of_ble_eq_true rfl) (Nat.le_of_ble_eq_true rfl) (WMu.ok h9 hoA rfl)
  · obtain ⟨k9, hk9⟩ := WIn.ex hx h9.1
    rcases hk9 with ⟨rfl, rfl⟩ | ⟨rfl, rfl⟩ | hk9
    · refine gx_catch (name := eIdx) X [] ⟨0, 10, 13, 13⟩ [⟨0, 10, 17, 73⟩] rfl (fun z9 hz9 => absurd hz9 List.not_mem_nil) rfl (by decide) k289 k387 (fun q9 => ?_)
      refine g_astore (L' := [(4, .ref q9), (0, .ref (A 313)), (1, .int b), (2, .int x), (3, .ref o)]) X dL_supportWeight_13 (by rw [hnL]; decide) rfl ?_
      refine g_iconst (v := 1) X dL_supportWeight_15 (by decide) ?_
      exact g_iret X F dL_supportWeight_16 (Nat.le_of_ble_eq_true rfl) (Nat.le_of_ble_eq_true rfl) (WMu.exc h9 hoA ho (WEx.hd rfl))
    · refine gx_catch (name := eEle) X [⟨0, 10, 13, 13⟩] ⟨0, 10, 17, 73⟩ [] rfl (List.forall_mem_cons.mpr ⟨⟨by decide, eIdx, k289, nc_eEle_eIdx⟩, (fun z9 hz9 => absurd hz9 List.not_mem_nil)⟩) rfl (by decide) k647 k438 (fun q9 => ?_)
      refine g_astore (L' := [(4, .ref q9), (0, .ref (A 313)), (1, .int b), (2, .int x), (3, .ref o)]) X dL_supportWeight_17 (by rw [hnL]; decide) rfl ?_
      refine g_iconst (v := 2) X dL_supportWeight_19 (by decide) ?_
      exact g_iret X F dL_supportWeight_20 (Nat.le_of_ble_eq_true rfl) (Nat.le_of_ble_eq_true rfl) (WMu.exc h9 hoA ho (WEx.tl (WEx.hd rfl)))
    · exact hk9.elim
set_option maxRecDepth 100000 in
set_option maxHeartbeats 4000000 in
theorem c_L_ride (l : Launch) (hl : l.stackTraces = false) (Γ : Gm) (M : Hp) (A : Nat → Nat) (w : PV) (hB : BRep Γ A w M) (hI : BInv w) (x : Int32) (b : Int32) (n : Int32) (o : Nat) (fo : Nat → Int64) (ho : M o = some (.inl (Γ.2.1 1, 1, .inr (.inl fo)))) (hoA : ∀ i, i < 315 → o ≠ A i) (hx : WIn [eIdx, eArg, eSta, eUns] isI (pRide w x b n).1) : CtW l Γ yL_ride cL_ride 6 (some .int) [(0, 12, 15, 13), (0, 12, 19, 15), (0, 12, 23, 17), (0, 12, 27, 46)] 8 3 18 [.ref (A 313), .int x, .int b, .int n, .ref o] M (WMu Γ A o [eIdx, eArg, eSta, eUns] cvI (pRide w x b n) M) := by
  refine CtW.of hl (by decide) (Nat.le_of_ble_eq_true rfl) rfl ?_
  intro κ e1 e2 hnL hRm X F hlt
  subst e1 e2
  refine g_aload X dL_ride_0 4 rfl ?_
  refine g_iconst (v := 0) X dL_ride_2 (by decide) ?_
  refine g_aload_n X dL_ride_3 rfl 0 rfl ?_
  refine g_iload_n X dL_ride_4 rfl 1 rfl ?_
  refine g_iload_n X dL_ride_5 rfl 2 rfl ?_
  refine g_iload_n X dL_ride_6 rfl 3 rfl ?_
  refine g_callV (As := [.int x, .int b, .int n]) (ci := 3) X dL_ride_7 (c_X3_ride κ.l hl κ.Γ M A w hB hI x b n) k811 k812 k813 k1 k814 rfl (BRep.obj hB) ⟨rfl, by decide, by decide, (show (parseMethodDescriptor yX3_ride.desc).map (fun d => d.parameters.length) = some 3 by decide +kernel)⟩ rfl (Nat.le_of_ble_eq_true rfl) (by rw [hRm]; decide) (by rw [hRm]; exact ⟨Nat.le_of_ble_eq_true rfl, Nat.le_of_ble_eq_true rfl⟩) (fun v9 M9 h9 => ?_) (fun E9 M9 h9 => ?_)
  · obtain ⟨n9, rfl⟩ := WIn.int hx h9.1
    have ho9 : M9 o = some (.inl (κ.Γ.2.1 1, 1, .inr (.inl fo))) := (h9.2.2 o hoA).trans ho
    refine g_i2l X dL_ride_10 ?_
    refine g_lastore X dL_ride_11 ho9 vin01 ?_
    refine g_goto (tgt := 31) X dL_ride_12 (by decide) ?_
    refine g_iconst (v := 0) X dL_ride_31 (by decide) ?_
    exact g_iret X F dL_ride_32 (Nat.le_of_ble_eq_true rfl) (Nat.le_of_ble_eq_true rfl) (WMu.ok h9 hoA rfl)
  · obtain ⟨k9, hk9⟩ := WIn.ex hx h9.1
    rcases hk9 with ⟨rfl, rfl⟩ | ⟨rfl, rfl⟩ | ⟨rfl, rfl⟩ | ⟨rfl, rfl⟩ | hk9
    · refine gx_catch (name := eIdx) X [] ⟨0, 12, 15, 13⟩ [⟨0, 12, 19, 15⟩, ⟨0, 12, 23, 17⟩, ⟨0, 12, 27, 46⟩] rfl (fun z9 hz9 => absurd hz9 List.not_mem_nil) rfl (by decide) k289 k387 (fun q9 => ?_)
      refine g_astore (L' := [(5, .ref q9), (0, .ref (A 313)), (1, .int x), (2, .int b), (3, .int n), (4, .ref o)]) X dL_ride_15 (by rw [hnL]; decide) rfl ?_
      refine g_iconst (v := 1) X dL_ride_17 (by decide) ?_
      exact g_iret X F dL_ride_18 (Nat.le_of_ble_eq_true rfl) (Nat.le_of_ble_eq_true rfl) (WMu.exc h9 hoA ho (WEx.hd rfl))
    · refine gx_catch (name := eArg) X [⟨0, 12, 15, 13⟩] ⟨0, 12, 19, 15⟩ [⟨0, 12, 23, 17⟩, ⟨0, 12, 27, 46⟩] rfl (List.forall_mem_cons.mpr ⟨⟨by decide, eIdx, k289, nc_eArg_eIdx⟩, (fun z9 hz9 => absurd hz9 List.not_mem_nil)⟩) rfl (by decide) k369 k408 (fun q9 => ?_)
      refine g_astore (L' := [(5, .ref q9), (0, .ref (A 313)), (1, .int x), (2, .int b), (3, .int n), (4, .ref o)]) X dL_ride_19 (by rw [hnL]; decide) rfl ?_
      refine g_iconst (v := 2) X dL_ride_21 (by decide) ?_
      exact g_iret X F dL_ride_22 (Nat.le_of_ble_eq_true rfl) (Nat.le_of_ble_eq_true rfl) (WMu.exc h9 hoA ho (WEx.tl (WEx.hd rfl)))
    · refine gx_catch (name := eSta) X [⟨0, 12, 15, 13⟩, ⟨0, 12, 19, 15⟩] ⟨0, 12, 23, 17⟩ [⟨0, 12, 27, 46⟩] rfl (List.forall_mem_cons.mpr ⟨⟨by decide, eIdx, k289, nc_eSta_eIdx⟩, (List.forall_mem_cons.mpr ⟨⟨by decide, eArg, k369, nc_eSta_eArg⟩, (fun z9 hz9 => absurd hz9 List.not_mem_nil)⟩)⟩) rfl (by decide) k370 k423 (fun q9 => ?_)
      refine g_astore (L' := [(5, .ref q9), (0, .ref (A 313)), (1, .int x), (2, .int b), (3, .int n), (4, .ref o)]) X dL_ride_23 (by rw [hnL]; decide) rfl ?_
      refine g_iconst (v := 3) X dL_ride_25 (by decide) ?_
      exact g_iret X F dL_ride_26 (Nat.le_of_ble_eq_true rfl) (Nat.le_of_ble_eq_true rfl) (WMu.exc h9 hoA ho (WEx.tl (WEx.tl (WEx.hd rfl))))
    · refine gx_catch (name := eUns) X [⟨0, 12, 15, 13⟩, ⟨0, 12, 19, 15⟩, ⟨0, 12, 23, 17⟩] ⟨0, 12, 27, 46⟩ [] rfl (List.forall_mem_cons.mpr ⟨⟨by decide, eIdx, k289, nc_eUns_eIdx⟩, (List.forall_mem_cons.mpr ⟨⟨by decide, eArg, k369, nc_eUns_eArg⟩, (List.forall_mem_cons.mpr ⟨⟨by decide, eSta, k370, nc_eUns_eSta⟩, (fun z9 hz9 => absurd hz9 List.not_mem_nil)⟩)⟩)⟩) rfl (by decide) k564 k453 (fun q9 => ?_)
      refine g_astore (L' := [(5, .ref q9), (0, .ref (A 313)), (1, .int x), (2, .int b), (3, .int n), (4, .ref o)]) X dL_ride_27 (by rw [hnL]; decide) rfl ?_
      refine g_iconst (v := 4) X dL_ride_29 (by decide) ?_
      exact g_iret X F dL_ride_30 (Nat.le_of_ble_eq_true rfl) (Nat.le_of_ble_eq_true rfl) (WMu.exc h9 hoA ho (WEx.tl (WEx.tl (WEx.tl (WEx.hd rfl)))))
    · exact hk9.elim
set_option maxRecDepth 100000 in
set_option maxHeartbeats 4000000 in
theorem c_L_delay (l : Launch) (hl : l.stackTraces = false) (Γ : Gm) (M : Hp) (A : Nat → Nat) (w : PV) (hB : BRep Γ A w M) (hI : BInv w) (b : Int32) (o : Nat) (fo : Nat → Int64) (ho : M o = some (.inl (Γ.2.1 1, 1, .inr (.inl fo)))) (hoA : ∀ i, i < 315 → o ≠ A i) (hx : WIn [eIdx] isI (pDelay w b).1) : CtW l Γ yL_delay cL_delay 4 (some .int) [(0, 9, 12, 13)] 8 3 18 [.ref (A 313), .int b, .ref o] M (WMu Γ A o [eIdx] cvI (pDelay w b) M) := by
  refine CtW.of hl (by decide) (Nat.le_of_ble_eq_true rfl) rfl ?_
  intro κ e1 e2 hnL hRm X F hlt
  subst e1 e2
  refine g_aload_n X dL_delay_0 rfl 2 rfl ?_
  refine g_iconst (v := 0) X dL_delay_1 (by decide) ?_
  refine g_aload_n X dL_delay_2 rfl 0 rfl ?_
  refine g_iload_n X dL_delay_3 rfl 1 rfl ?_
  refine g_callV (As := [.int b]) (ci := 3) X dL_delay_4 (c_X3_delay κ.l hl κ.Γ M A w hB hI b) k826 k827 k828 k1 k829 rfl (BRep.obj hB) ⟨rfl, by decide, by decide, (show (parseMethodDescriptor yX3_delay.desc).map (fun d => d.parameters.length) = some 1 by decide +kernel)⟩ rfl (Nat.le_of_ble_eq_true rfl) (by rw [hRm]; decide) (by rw [hRm]; exact ⟨Nat.le_of_ble_eq_true rfl, Nat.le_of_ble_eq_true rfl⟩) (fun v9 M9 h9 => ?_) (fun E9 M9 h9 => ?_)
  · obtain ⟨n9, rfl⟩ := WIn.int hx h9.1
    have ho9 : M9 o = some (.inl (κ.Γ.2.1 1, 1, .inr (.inl fo))) := (h9.2.2 o hoA).trans ho
    refine g_i2l X dL_delay_7 ?_
    refine g_lastore X dL_delay_8 ho9 vin01 ?_
    refine g_goto (tgt := 15) X dL_delay_9 (by decide) ?_
    refine g_iconst (v := 0) X dL_delay_15 (by decide) ?_
    exact g_iret X F dL_delay_16 (Nat.le_of_ble_eq_true rfl) (Nat.le_of_ble_eq_true rfl) (WMu.ok h9 hoA rfl)
  · obtain ⟨k9, hk9⟩ := WIn.ex hx h9.1
    rcases hk9 with ⟨rfl, rfl⟩ | hk9
    · refine gx_catch (name := eIdx) X [] ⟨0, 9, 12, 13⟩ [] rfl (fun z9 hz9 => absurd hz9 List.not_mem_nil) rfl (by decide) k289 k387 (fun q9 => ?_)
      refine g_astore_n (L' := [(3, .ref q9), (0, .ref (A 313)), (1, .int b), (2, .ref o)]) X dL_delay_12 rfl (by rw [hnL]; decide) rfl ?_
      refine g_iconst (v := 1) X dL_delay_13 (by decide) ?_
      exact g_iret X F dL_delay_14 (Nat.le_of_ble_eq_true rfl) (Nat.le_of_ble_eq_true rfl) (WMu.exc h9 hoA ho (WEx.hd rfl))
    · exact hk9.elim
set_option maxRecDepth 100000 in
set_option maxHeartbeats 4000000 in
theorem c_L_rust (l : Launch) (hl : l.stackTraces = false) (Γ : Gm) (M : Hp) (A : Nat → Nat) (w : PV) (hB : BRep Γ A w M) (hI : BInv w) (b : Int32) (o : Nat) (fo : Nat → Int64) (ho : M o = some (.inl (Γ.2.1 1, 1, .inr (.inl fo)))) (hoA : ∀ i, i < 315 → o ≠ A i) (hx : WIn [eIdx] isI (pRust w b).1) : CtW l Γ yL_rust cL_rust 4 (some .int) [(0, 9, 12, 13)] 8 3 18 [.ref (A 313), .int b, .ref o] M (WMu Γ A o [eIdx] cvI (pRust w b) M) := by
  refine CtW.of hl (by decide) (Nat.le_of_ble_eq_true rfl) rfl ?_
  intro κ e1 e2 hnL hRm X F hlt
  subst e1 e2
  refine g_aload_n X dL_rust_0 rfl 2 rfl ?_
  refine g_iconst (v := 0) X dL_rust_1 (by decide) ?_
  refine g_aload_n X dL_rust_2 rfl 0 rfl ?_
  refine g_iload_n X dL_rust_3 rfl 1 rfl ?_
  refine g_callV (As := [.int b]) (ci := 3) X dL_rust_4 (c_X3_rust κ.l hl κ.Γ M A w hB hI b) k833 k834 k835 k1 k836 rfl (BRep.obj hB) ⟨rfl, by decide, by decide, (show (parseMethodDescriptor yX3_rust.desc).map (fun d => d.parameters.length) = some 1 by decide +kernel)⟩ rfl (Nat.le_of_ble_eq_true rfl) (by rw [hRm]; decide) (by rw [hRm]; exact ⟨Nat.le_of_ble_eq_true rfl, Nat.le_of_ble_eq_true rfl⟩) (fun v9 M9 h9 => ?_) (fun E9 M9 h9 => ?_)
  · obtain ⟨n9, rfl⟩ := WIn.int hx h9.1
    have ho9 : M9 o = some (.inl (κ.Γ.2.1 1, 1, .inr (.inl fo))) := (h9.2.2 o hoA).trans ho
    refine g_i2l X dL_rust_7 ?_
    refine g_lastore X dL_rust_8 ho9 vin01 ?_
    refine g_goto (tgt := 15) X dL_rust_9 (by decide) ?_
    refine g_iconst (v := 0) X dL_rust_15 (by decide) ?_
    exact g_iret X F dL_rust_16 (Nat.le_of_ble_eq_true rfl) (Nat.le_of_ble_eq_true rfl) (WMu.ok h9 hoA rfl)
  · obtain ⟨k9, hk9⟩ := WIn.ex hx h9.1
    rcases hk9 with ⟨rfl, rfl⟩ | hk9
    · refine gx_catch (name := eIdx) X [] ⟨0, 9, 12, 13⟩ [] rfl (fun z9 hz9 => absurd hz9 List.not_mem_nil) rfl (by decide) k289 k387 (fun q9 => ?_)
      refine g_astore_n (L' := [(3, .ref q9), (0, .ref (A 313)), (1, .int b), (2, .ref o)]) X dL_rust_12 rfl (by rw [hnL]; decide) rfl ?_
      refine g_iconst (v := 1) X dL_rust_13 (by decide) ?_
      exact g_iret X F dL_rust_14 (Nat.le_of_ble_eq_true rfl) (Nat.le_of_ble_eq_true rfl) (WMu.exc h9 hoA ho (WEx.hd rfl))
    · exact hk9.elim
set_option maxRecDepth 100000 in
set_option maxHeartbeats 4000000 in
theorem c_L_ridesUntilFall (l : Launch) (hl : l.stackTraces = false) (Γ : Gm) (M : Hp) (A : Nat → Nat) (w : PV) (hB : BRep Γ A w M) (hI : BInv w) (b : Int32) (n : Int32) (o : Nat) (fo : Nat → Int64) (ho : M o = some (.inl (Γ.2.1 1, 1, .inr (.inl fo)))) (hoA : ∀ i, i < 315 → o ≠ A i) (hx : WIn [eIdx, eArg, eSta] isI (pRidesUntilFall w b n).1) : CtW l Γ yL_ridesUntilFall cL_ridesUntilFall 5 (some .int) [(0, 10, 13, 13), (0, 10, 17, 15), (0, 10, 21, 17)] 8 3 18 [.ref (A 313), .int b, .int n, .ref o] M (WMu Γ A o [eIdx, eArg, eSta] cvI (pRidesUntilFall w b n) M) := by
  refine CtW.of hl (by decide) (Nat.le_of_ble_eq_true rfl) rfl ?_
  intro κ e1 e2 hnL hRm X F hlt
  subst e1 e2
  refine g_aload_n X dL_ridesUntilFall_0 rfl 3 rfl ?_
  refine g_iconst (v := 0) X dL_ridesUntilFall_1 (by decide) ?_
  refine g_aload_n X dL_ridesUntilFall_2 rfl 0 rfl ?_
  refine g_iload_n X dL_ridesUntilFall_3 rfl 1 rfl ?_
  refine g_iload_n X dL_ridesUntilFall_4 rfl 2 rfl ?_
  refine g_callV (As := [.int b, .int n]) (ci := 3) X dL_ridesUntilFall_5 (c_X3_ridesUntilFall κ.l hl κ.Γ M A w hB hI b n) k841 k842 k843 k1 k844 rfl (BRep.obj hB) ⟨rfl, by decide, by decide, (show (parseMethodDescriptor yX3_ridesUntilFall.desc).map (fun d => d.parameters.length) = some 2 by decide +kernel)⟩ rfl (Nat.le_of_ble_eq_true rfl) (by rw [hRm]; decide) (by rw [hRm]; exact ⟨Nat.le_of_ble_eq_true rfl, Nat.le_of_ble_eq_true rfl⟩) (fun v9 M9 h9 => ?_) (fun E9 M9 h9 => ?_)
  · obtain ⟨n9, rfl⟩ := WIn.int hx h9.1
    have ho9 : M9 o = some (.inl (κ.Γ.2.1 1, 1, .inr (.inl fo))) := (h9.2.2 o hoA).trans ho
    refine g_i2l X dL_ridesUntilFall_8 ?_
    refine g_lastore X dL_ridesUntilFall_9 ho9 vin01 ?_
    refine g_goto (tgt := 25) X dL_ridesUntilFall_10 (by decide) ?_
    refine g_iconst (v := 0) X dL_ridesUntilFall_25 (by decide) ?_
    exact g_iret X F dL_ridesUntilFall_26 (Nat.le_of_ble_eq_true rfl) (Nat.le_of_ble_eq_true rfl) (WMu.ok h9 hoA rfl)
  · obtain ⟨k9, hk9⟩ := WIn.ex hx h9.1
    rcases hk9 with ⟨rfl, rfl⟩ | ⟨rfl, rfl⟩ | ⟨rfl, rfl⟩ | hk9
    · refine gx_catch (name := eIdx) X [] ⟨0, 10, 13, 13⟩ [⟨0, 10, 17, 15⟩, ⟨0, 10, 21, 17⟩] rfl (fun z9 hz9 => absurd hz9 List.not_mem_nil) rfl (by decide) k289 k387 (fun q9 => ?_)
      refine g_astore (L' := [(4, .ref q9), (0, .ref (A 313)), (1, .int b), (2, .int n), (3, .ref o)]) X dL_ridesUntilFall_13 (by rw [hnL]; decide) rfl ?_
      refine g_iconst (v := 1) X dL_ridesUntilFall_15 (by decide) ?_
      exact g_iret X F dL_ridesUntilFall_16 (Nat.le_of_ble_eq_true rfl) (Nat.le_of_ble_eq_true rfl) (WMu.exc h9 hoA ho (WEx.hd rfl))
    · refine gx_catch (name := eArg) X [⟨0, 10, 13, 13⟩] ⟨0, 10, 17, 15⟩ [⟨0, 10, 21, 17⟩] rfl (List.forall_mem_cons.mpr ⟨⟨by decide, eIdx, k289, nc_eArg_eIdx⟩, (fun z9 hz9 => absurd hz9 List.not_mem_nil)⟩) rfl (by decide) k369 k408 (fun q9 => ?_)
      refine g_astore (L' := [(4, .ref q9), (0, .ref (A 313)), (1, .int b), (2, .int n), (3, .ref o)]) X dL_ridesUntilFall_17 (by rw [hnL]; decide) rfl ?_
      refine g_iconst (v := 2) X dL_ridesUntilFall_19 (by decide) ?_
      exact g_iret X F dL_ridesUntilFall_20 (Nat.le_of_ble_eq_true rfl) (Nat.le_of_ble_eq_true rfl) (WMu.exc h9 hoA ho (WEx.tl (WEx.hd rfl)))
    · refine gx_catch (name := eSta) X [⟨0, 10, 13, 13⟩, ⟨0, 10, 17, 15⟩] ⟨0, 10, 21, 17⟩ [] rfl (List.forall_mem_cons.mpr ⟨⟨by decide, eIdx, k289, nc_eSta_eIdx⟩, (List.forall_mem_cons.mpr ⟨⟨by decide, eArg, k369, nc_eSta_eArg⟩, (fun z9 hz9 => absurd hz9 List.not_mem_nil)⟩)⟩) rfl (by decide) k370 k423 (fun q9 => ?_)
      refine g_astore (L' := [(4, .ref q9), (0, .ref (A 313)), (1, .int b), (2, .int n), (3, .ref o)]) X dL_ridesUntilFall_21 (by rw [hnL]; decide) rfl ?_
      refine g_iconst (v := 3) X dL_ridesUntilFall_23 (by decide) ?_
      exact g_iret X F dL_ridesUntilFall_24 (Nat.le_of_ble_eq_true rfl) (Nat.le_of_ble_eq_true rfl) (WMu.exc h9 hoA ho (WEx.tl (WEx.tl (WEx.hd rfl))))
    · exact hk9.elim
set_option maxRecDepth 100000 in
set_option maxHeartbeats 4000000 in
theorem c_L_append (l : Launch) (hl : l.stackTraces = false) (Γ : Gm) (M : Hp) (A : Nat → Nat) (w : PV) (hB : BRep Γ A w M) (hI : BInv w) (c : Int32) (o : Nat) (fo : Nat → Int64) (ho : M o = some (.inl (Γ.2.1 1, 1, .inr (.inl fo)))) (hoA : ∀ i, i < 315 → o ≠ A i) (hx : WIn [eArg, eSta] isI (pAppend w c).1) : CtW l Γ yL_append cL_append 4 (some .int) [(0, 9, 12, 15), (0, 9, 15, 17)] 8 3 18 [.ref (A 313), .int c, .ref o] M (WMu Γ A o [eArg, eSta] cvI (pAppend w c) M) := by
  refine CtW.of hl (by decide) (Nat.le_of_ble_eq_true rfl) rfl ?_
  intro κ e1 e2 hnL hRm X F hlt
  subst e1 e2
  refine g_aload_n X dL_append_0 rfl 2 rfl ?_
  refine g_iconst (v := 0) X dL_append_1 (by decide) ?_
  refine g_aload_n X dL_append_2 rfl 0 rfl ?_
  refine g_iload_n X dL_append_3 rfl 1 rfl ?_
  refine g_callV (As := [.int c]) (ci := 3) X dL_append_4 (c_X3_append κ.l hl κ.Γ M A w hB hI c) k848 k849 k850 k1 k851 rfl (BRep.obj hB) ⟨rfl, by decide, by decide, (show (parseMethodDescriptor yX3_append.desc).map (fun d => d.parameters.length) = some 1 by decide +kernel)⟩ rfl (Nat.le_of_ble_eq_true rfl) (by rw [hRm]; decide) (by rw [hRm]; exact ⟨Nat.le_of_ble_eq_true rfl, Nat.le_of_ble_eq_true rfl⟩) (fun v9 M9 h9 => ?_) (fun E9 M9 h9 => ?_)
  · obtain ⟨n9, rfl⟩ := WIn.int hx h9.1
    have ho9 : M9 o = some (.inl (κ.Γ.2.1 1, 1, .inr (.inl fo))) := (h9.2.2 o hoA).trans ho
    refine g_i2l X dL_append_7 ?_
    refine g_lastore X dL_append_8 ho9 vin01 ?_
    refine g_goto (tgt := 18) X dL_append_9 (by decide) ?_
    refine g_iconst (v := 0) X dL_append_18 (by decide) ?_
    exact g_iret X F dL_append_19 (Nat.le_of_ble_eq_true rfl) (Nat.le_of_ble_eq_true rfl) (WMu.ok h9 hoA rfl)
  · obtain ⟨k9, hk9⟩ := WIn.ex hx h9.1
    rcases hk9 with ⟨rfl, rfl⟩ | ⟨rfl, rfl⟩ | hk9
    · refine gx_catch (name := eArg) X [] ⟨0, 9, 12, 15⟩ [⟨0, 9, 15, 17⟩] rfl (fun z9 hz9 => absurd hz9 List.not_mem_nil) rfl (by decide) k369 k408 (fun q9 => ?_)
      refine g_astore_n (L' := [(3, .ref q9), (0, .ref (A 313)), (1, .int c), (2, .ref o)]) X dL_append_12 rfl (by rw [hnL]; decide) rfl ?_
      refine g_iconst (v := 1) X dL_append_13 (by decide) ?_
      exact g_iret X F dL_append_14 (Nat.le_of_ble_eq_true rfl) (Nat.le_of_ble_eq_true rfl) (WMu.exc h9 hoA ho (WEx.hd rfl))
    · refine gx_catch (name := eSta) X [⟨0, 9, 12, 15⟩] ⟨0, 9, 15, 17⟩ [] rfl (List.forall_mem_cons.mpr ⟨⟨by decide, eArg, k369, nc_eSta_eArg⟩, (fun z9 hz9 => absurd hz9 List.not_mem_nil)⟩) rfl (by decide) k370 k423 (fun q9 => ?_)
      refine g_astore_n (L' := [(3, .ref q9), (0, .ref (A 313)), (1, .int c), (2, .ref o)]) X dL_append_15 rfl (by rw [hnL]; decide) rfl ?_
      refine g_iconst (v := 2) X dL_append_16 (by decide) ?_
      exact g_iret X F dL_append_17 (Nat.le_of_ble_eq_true rfl) (Nat.le_of_ble_eq_true rfl) (WMu.exc h9 hoA ho (WEx.tl (WEx.hd rfl)))
    · exact hk9.elim
set_option maxRecDepth 100000 in
set_option maxHeartbeats 4000000 in
theorem c_L_run (l : Launch) (hl : l.stackTraces = false) (Γ : Gm) (M : Hp) (A : Nat → Nat) (w : PV) (hB : BRep Γ A w M) (hI : BInv w)  (o : Nat) (fo : Nat → Int64) (ho : M o = some (.inl (Γ.2.1 1, 1, .inr (.inl fo)))) (hoA : ∀ i, i < 315 → o ≠ A i) (hx : WIn [eArg, eSta] isI (pRun w).1) : CtW l Γ yL_run cL_run 3 (some .int) [(0, 8, 11, 15), (0, 8, 14, 17)] 8 3 18 [.ref (A 313), .ref o] M (WMu Γ A o [eArg, eSta] cvI (pRun w) M) := by
  refine CtW.of hl (by decide) (Nat.le_of_ble_eq_true rfl) rfl ?_
  intro κ e1 e2 hnL hRm X F hlt
  subst e1 e2
  refine g_aload_n X dL_run_0 rfl 1 rfl ?_
  refine g_iconst (v := 0) X dL_run_1 (by decide) ?_
  refine g_aload_n X dL_run_2 rfl 0 rfl ?_
  refine g_callV (As := []) (ci := 3) X dL_run_3 (c_X3_run κ.l hl κ.Γ M A w hB hI ) k863 k864 k865 k1 k866 rfl (BRep.obj hB) ⟨rfl, by decide, by decide, (show (parseMethodDescriptor yX3_run.desc).map (fun d => d.parameters.length) = some 0 by decide +kernel)⟩ rfl (Nat.le_of_ble_eq_true rfl) (by rw [hRm]; decide) (by rw [hRm]; exact ⟨Nat.le_of_ble_eq_true rfl, Nat.le_of_ble_eq_true rfl⟩) (fun v9 M9 h9 => ?_) (fun E9 M9 h9 => ?_)
  · obtain ⟨n9, rfl⟩ := WIn.int hx h9.1
    have ho9 : M9 o = some (.inl (κ.Γ.2.1 1, 1, .inr (.inl fo))) := (h9.2.2 o hoA).trans ho
    refine g_i2l X dL_run_6 ?_
    refine g_lastore X dL_run_7 ho9 vin01 ?_
    refine g_goto (tgt := 17) X dL_run_8 (by decide) ?_
    refine g_iconst (v := 0) X dL_run_17 (by decide) ?_
    exact g_iret X F dL_run_18 (Nat.le_of_ble_eq_true rfl) (Nat.le_of_ble_eq_true rfl) (WMu.ok h9 hoA rfl)
  · obtain ⟨k9, hk9⟩ := WIn.ex hx h9.1
    rcases hk9 with ⟨rfl, rfl⟩ | ⟨rfl, rfl⟩ | hk9
    · refine gx_catch (name := eArg) X [] ⟨0, 8, 11, 15⟩ [⟨0, 8, 14, 17⟩] rfl (fun z9 hz9 => absurd hz9 List.not_mem_nil) rfl (by decide) k369 k408 (fun q9 => ?_)
      refine g_astore_n (L' := [(2, .ref q9), (0, .ref (A 313)), (1, .ref o)]) X dL_run_11 rfl (by rw [hnL]; decide) rfl ?_
      refine g_iconst (v := 1) X dL_run_12 (by decide) ?_
      exact g_iret X F dL_run_13 (Nat.le_of_ble_eq_true rfl) (Nat.le_of_ble_eq_true rfl) (WMu.exc h9 hoA ho (WEx.hd rfl))
    · refine gx_catch (name := eSta) X [⟨0, 8, 11, 15⟩] ⟨0, 8, 14, 17⟩ [] rfl (List.forall_mem_cons.mpr ⟨⟨by decide, eArg, k369, nc_eSta_eArg⟩, (fun z9 hz9 => absurd hz9 List.not_mem_nil)⟩) rfl (by decide) k370 k423 (fun q9 => ?_)
      refine g_astore_n (L' := [(2, .ref q9), (0, .ref (A 313)), (1, .ref o)]) X dL_run_14 rfl (by rw [hnL]; decide) rfl ?_
      refine g_iconst (v := 2) X dL_run_15 (by decide) ?_
      exact g_iret X F dL_run_16 (Nat.le_of_ble_eq_true rfl) (Nat.le_of_ble_eq_true rfl) (WMu.exc h9 hoA ho (WEx.tl (WEx.hd rfl)))
    · exact hk9.elim
set_option maxRecDepth 100000 in
set_option maxHeartbeats 4000000 in
theorem c_L_errorPosition (l : Launch) (hl : l.stackTraces = false) (Γ : Gm) (M : Hp) (A : Nat → Nat) (w : PV) (hB : BRep Γ A w M) (hI : BInv w)  (o : Nat) (fo : Nat → Int64) (ho : M o = some (.inl (Γ.2.1 1, 1, .inr (.inl fo)))) (hoA : ∀ i, i < 315 → o ≠ A i) (hx : WIn [eEle] isI (pErrorPosition w).1) : CtW l Γ yL_errorPosition cL_errorPosition 3 (some .int) [(0, 8, 11, 73)] 8 3 18 [.ref (A 313), .ref o] M (WMu Γ A o [eEle] cvI (pErrorPosition w) M) := by
  refine CtW.of hl (by decide) (Nat.le_of_ble_eq_true rfl) rfl ?_
  intro κ e1 e2 hnL hRm X F hlt
  subst e1 e2
  refine g_aload_n X dL_errorPosition_0 rfl 1 rfl ?_
  refine g_iconst (v := 0) X dL_errorPosition_1 (by decide) ?_
  refine g_aload_n X dL_errorPosition_2 rfl 0 rfl ?_
  refine g_callV (As := []) (ci := 3) X dL_errorPosition_3 (c_X3_errorPosition κ.l hl κ.Γ M A w hB hI ) k988 k989 k990 k1 k991 rfl (BRep.obj hB) ⟨rfl, by decide, by decide, (show (parseMethodDescriptor yX3_errorPosition.desc).map (fun d => d.parameters.length) = some 0 by decide +kernel)⟩ rfl (Nat.le_of_ble_eq_true rfl) (by rw [hRm]; decide) (by rw [hRm]; exact ⟨Nat.le_of_ble_eq_true rfl, Nat.le_of_ble_eq_true rfl⟩) (fun v9 M9 h9 => ?_) (fun E9 M9 h9 => ?_)
  · obtain ⟨n9, rfl⟩ := WIn.int hx h9.1
    have ho9 : M9 o = some (.inl (κ.Γ.2.1 1, 1, .inr (.inl fo))) := (h9.2.2 o hoA).trans ho
    refine g_i2l X dL_errorPosition_6 ?_
    refine g_lastore X dL_errorPosition_7 ho9 vin01 ?_
    refine g_goto (tgt := 14) X dL_errorPosition_8 (by decide) ?_
    refine g_iconst (v := 0) X dL_errorPosition_14 (by decide) ?_
    exact g_iret X F dL_errorPosition_15 (Nat.le_of_ble_eq_true rfl) (Nat.le_of_ble_eq_true rfl) (WMu.ok h9 hoA rfl)
  · obtain ⟨k9, hk9⟩ := WIn.ex hx h9.1
    rcases hk9 with ⟨rfl, rfl⟩ | hk9
    · refine gx_catch (name := eEle) X [] ⟨0, 8, 11, 73⟩ [] rfl (fun z9 hz9 => absurd hz9 List.not_mem_nil) rfl (by decide) k647 k438 (fun q9 => ?_)
      refine g_astore_n (L' := [(2, .ref q9), (0, .ref (A 313)), (1, .ref o)]) X dL_errorPosition_11 rfl (by rw [hnL]; decide) rfl ?_
      refine g_iconst (v := 1) X dL_errorPosition_12 (by decide) ?_
      exact g_iret X F dL_errorPosition_13 (Nat.le_of_ble_eq_true rfl) (Nat.le_of_ble_eq_true rfl) (WMu.exc h9 hoA ho (WEx.hd rfl))
    · exact hk9.elim
set_option maxRecDepth 100000 in
set_option maxHeartbeats 4000000 in
theorem c_L_failedCommand (l : Launch) (hl : l.stackTraces = false) (Γ : Gm) (M : Hp) (A : Nat → Nat) (w : PV) (hB : BRep Γ A w M) (hI : BInv w)  (o : Nat) (fo : Nat → Int64) (ho : M o = some (.inl (Γ.2.1 1, 1, .inr (.inl fo)))) (hoA : ∀ i, i < 315 → o ≠ A i) (hx : WIn [eEle] isI (pFailedCommand w).1) : CtW l Γ yL_failedCommand cL_failedCommand 3 (some .int) [(0, 8, 11, 73)] 8 3 18 [.ref (A 313), .ref o] M (WMu Γ A o [eEle] cvI (pFailedCommand w) M) := by
  refine CtW.of hl (by decide) (Nat.le_of_ble_eq_true rfl) rfl ?_
  intro κ e1 e2 hnL hRm X F hlt
  subst e1 e2
  refine g_aload_n X dL_failedCommand_0 rfl 1 rfl ?_
  refine g_iconst (v := 0) X dL_failedCommand_1 (by decide) ?_
  refine g_aload_n X dL_failedCommand_2 rfl 0 rfl ?_
  refine g_callV (As := []) (ci := 3) X dL_failedCommand_3 (c_X3_failedCommand κ.l hl κ.Γ M A w hB hI ) k995 k996 k997 k1 k998 rfl (BRep.obj hB) ⟨rfl, by decide, by decide, (show (parseMethodDescriptor yX3_failedCommand.desc).map (fun d => d.parameters.length) = some 0 by decide +kernel)⟩ rfl (Nat.le_of_ble_eq_true rfl) (by rw [hRm]; decide) (by rw [hRm]; exact ⟨Nat.le_of_ble_eq_true rfl, Nat.le_of_ble_eq_true rfl⟩) (fun v9 M9 h9 => ?_) (fun E9 M9 h9 => ?_)
  · obtain ⟨n9, rfl⟩ := WIn.int hx h9.1
    have ho9 : M9 o = some (.inl (κ.Γ.2.1 1, 1, .inr (.inl fo))) := (h9.2.2 o hoA).trans ho
    refine g_i2l X dL_failedCommand_6 ?_
    refine g_lastore X dL_failedCommand_7 ho9 vin01 ?_
    refine g_goto (tgt := 14) X dL_failedCommand_8 (by decide) ?_
    refine g_iconst (v := 0) X dL_failedCommand_14 (by decide) ?_
    exact g_iret X F dL_failedCommand_15 (Nat.le_of_ble_eq_true rfl) (Nat.le_of_ble_eq_true rfl) (WMu.ok h9 hoA rfl)
  · obtain ⟨k9, hk9⟩ := WIn.ex hx h9.1
    rcases hk9 with ⟨rfl, rfl⟩ | hk9
    · refine gx_catch (name := eEle) X [] ⟨0, 8, 11, 73⟩ [] rfl (fun z9 hz9 => absurd hz9 List.not_mem_nil) rfl (by decide) k647 k438 (fun q9 => ?_)
      refine g_astore_n (L' := [(2, .ref q9), (0, .ref (A 313)), (1, .ref o)]) X dL_failedCommand_11 rfl (by rw [hnL]; decide) rfl ?_
      refine g_iconst (v := 1) X dL_failedCommand_12 (by decide) ?_
      exact g_iret X F dL_failedCommand_13 (Nat.le_of_ble_eq_true rfl) (Nat.le_of_ble_eq_true rfl) (WMu.exc h9 hoA ho (WEx.hd rfl))
    · exact hk9.elim
set_option maxRecDepth 100000 in
set_option maxHeartbeats 4000000 in
theorem c_L_describeBill (l : Launch) (hl : l.stackTraces = false) (Γ : Gm) (M : Hp) (A : Nat → Nat) (w : PV) (hB : BRep Γ A w M) (hI : BInv w) (b : Int32) (o : Nat) (fo : Nat → Int64) (ho : M o = some (.inl (Γ.2.1 1, 1, .inr (.inl fo)))) (hoA : ∀ i, i < 315 → o ≠ A i) (hx : WIn [eIdx] isI (pDescribeBill w b).1) : CtW l Γ yL_describeBill cL_describeBill 4 (some .int) [(0, 9, 12, 13)] 8 3 18 [.ref (A 313), .int b, .ref o] M (WMu Γ A o [eIdx] cvI (pDescribeBill w b) M) := by
  refine CtW.of hl (by decide) (Nat.le_of_ble_eq_true rfl) rfl ?_
  intro κ e1 e2 hnL hRm X F hlt
  subst e1 e2
  refine g_aload_n X dL_describeBill_0 rfl 2 rfl ?_
  refine g_iconst (v := 0) X dL_describeBill_1 (by decide) ?_
  refine g_aload_n X dL_describeBill_2 rfl 0 rfl ?_
  refine g_iload_n X dL_describeBill_3 rfl 1 rfl ?_
  refine g_callV (As := [.int b]) (ci := 3) X dL_describeBill_4 (c_X3_describeBill κ.l hl κ.Γ M A w hB hI b) k1002 k1003 k1004 k1 k1005 rfl (BRep.obj hB) ⟨rfl, by decide, by decide, (show (parseMethodDescriptor yX3_describeBill.desc).map (fun d => d.parameters.length) = some 1 by decide +kernel)⟩ rfl (Nat.le_of_ble_eq_true rfl) (by rw [hRm]; decide) (by rw [hRm]; exact ⟨Nat.le_of_ble_eq_true rfl, Nat.le_of_ble_eq_true rfl⟩) (fun v9 M9 h9 => ?_) (fun E9 M9 h9 => ?_)
  · obtain ⟨n9, rfl⟩ := WIn.int hx h9.1
    have ho9 : M9 o = some (.inl (κ.Γ.2.1 1, 1, .inr (.inl fo))) := (h9.2.2 o hoA).trans ho
    refine g_i2l X dL_describeBill_7 ?_
    refine g_lastore X dL_describeBill_8 ho9 vin01 ?_
    refine g_goto (tgt := 15) X dL_describeBill_9 (by decide) ?_
    refine g_iconst (v := 0) X dL_describeBill_15 (by decide) ?_
    exact g_iret X F dL_describeBill_16 (Nat.le_of_ble_eq_true rfl) (Nat.le_of_ble_eq_true rfl) (WMu.ok h9 hoA rfl)
  · obtain ⟨k9, hk9⟩ := WIn.ex hx h9.1
    rcases hk9 with ⟨rfl, rfl⟩ | hk9
    · refine gx_catch (name := eIdx) X [] ⟨0, 9, 12, 13⟩ [] rfl (fun z9 hz9 => absurd hz9 List.not_mem_nil) rfl (by decide) k289 k387 (fun q9 => ?_)
      refine g_astore_n (L' := [(3, .ref q9), (0, .ref (A 313)), (1, .int b), (2, .ref o)]) X dL_describeBill_12 rfl (by rw [hnL]; decide) rfl ?_
      refine g_iconst (v := 1) X dL_describeBill_13 (by decide) ?_
      exact g_iret X F dL_describeBill_14 (Nat.le_of_ble_eq_true rfl) (Nat.le_of_ble_eq_true rfl) (WMu.exc h9 hoA ho (WEx.hd rfl))
    · exact hk9.elim
set_option maxRecDepth 100000 in
set_option maxHeartbeats 4000000 in
theorem c_L_lineAt (l : Launch) (hl : l.stackTraces = false) (Γ : Gm) (M : Hp) (A : Nat → Nat) (w : PV) (hB : BRep Γ A w M) (hI : BInv w) (x : Int32) (o : Nat) (fo : Nat → Int64) (ho : M o = some (.inl (Γ.2.1 1, 1, .inr (.inl fo)))) (hoA : ∀ i, i < 315 → o ≠ A i) (hx : WIn [eIdx] isI (pLineAt w x).1) : CtW l Γ yL_lineAt cL_lineAt 4 (some .int) [(0, 9, 12, 13)] 8 3 18 [.ref (A 313), .int x, .ref o] M (WMu Γ A o [eIdx] cvI (pLineAt w x) M) := by
  refine CtW.of hl (by decide) (Nat.le_of_ble_eq_true rfl) rfl ?_
  intro κ e1 e2 hnL hRm X F hlt
  subst e1 e2
  refine g_aload_n X dL_lineAt_0 rfl 2 rfl ?_
  refine g_iconst (v := 0) X dL_lineAt_1 (by decide) ?_
  refine g_aload_n X dL_lineAt_2 rfl 0 rfl ?_
  refine g_iload_n X dL_lineAt_3 rfl 1 rfl ?_
  refine g_callV (As := [.int x]) (ci := 3) X dL_lineAt_4 (c_X3_lineAt κ.l hl κ.Γ M A w hB hI x) k1022 k1023 k1024 k1 k1025 rfl (BRep.obj hB) ⟨rfl, by decide, by decide, (show (parseMethodDescriptor yX3_lineAt.desc).map (fun d => d.parameters.length) = some 1 by decide +kernel)⟩ rfl (Nat.le_of_ble_eq_true rfl) (by rw [hRm]; decide) (by rw [hRm]; exact ⟨Nat.le_of_ble_eq_true rfl, Nat.le_of_ble_eq_true rfl⟩) (fun v9 M9 h9 => ?_) (fun E9 M9 h9 => ?_)
  · obtain ⟨n9, rfl⟩ := WIn.int hx h9.1
    have ho9 : M9 o = some (.inl (κ.Γ.2.1 1, 1, .inr (.inl fo))) := (h9.2.2 o hoA).trans ho
    refine g_i2l X dL_lineAt_7 ?_
    refine g_lastore X dL_lineAt_8 ho9 vin01 ?_
    refine g_goto (tgt := 15) X dL_lineAt_9 (by decide) ?_
    refine g_iconst (v := 0) X dL_lineAt_15 (by decide) ?_
    exact g_iret X F dL_lineAt_16 (Nat.le_of_ble_eq_true rfl) (Nat.le_of_ble_eq_true rfl) (WMu.ok h9 hoA rfl)
  · obtain ⟨k9, hk9⟩ := WIn.ex hx h9.1
    rcases hk9 with ⟨rfl, rfl⟩ | hk9
    · refine gx_catch (name := eIdx) X [] ⟨0, 9, 12, 13⟩ [] rfl (fun z9 hz9 => absurd hz9 List.not_mem_nil) rfl (by decide) k289 k387 (fun q9 => ?_)
      refine g_astore_n (L' := [(3, .ref q9), (0, .ref (A 313)), (1, .int x), (2, .ref o)]) X dL_lineAt_12 rfl (by rw [hnL]; decide) rfl ?_
      refine g_iconst (v := 1) X dL_lineAt_13 (by decide) ?_
      exact g_iret X F dL_lineAt_14 (Nat.le_of_ble_eq_true rfl) (Nat.le_of_ble_eq_true rfl) (WMu.exc h9 hoA ho (WEx.hd rfl))
    · exact hk9.elim
set_option maxRecDepth 100000 in
set_option maxHeartbeats 4000000 in
theorem c_L_meanWeight (l : Launch) (hl : l.stackTraces = false) (Γ : Gm) (M : Hp) (A : Nat → Nat) (w : PV) (hB : BRep Γ A w M) (hI : BInv w) (hm : ¬ (w.1 0).1 0 = 0 → MwOK (w.1 0)) (o : Nat) (fo : Nat → UInt64) (ho : M o = some (.inl (Γ.2.1 5, 1, .inr (.inr (.inr (.inl fo)))))) (hoA : ∀ i, i < 315 → o ≠ A i) (hx : WIn [eAri] isD (pMeanWeight w).1) : CtW l Γ yL_meanWeight cL_meanWeight 3 (some .int) [(0, 7, 10, 148)] 8 3 18 [.ref (A 313), .ref o] M (WMuD Γ A o [eAri] (pMeanWeight w) M) := by
  refine CtW.of hl (by decide) (Nat.le_of_ble_eq_true rfl) rfl ?_
  intro κ e1 e2 hnL hRm X F hlt
  subst e1 e2
  refine g_aload_n X dL_meanWeight_0 rfl 1 rfl ?_
  refine g_iconst (v := 0) X dL_meanWeight_1 (by decide) ?_
  refine g_aload_n X dL_meanWeight_2 rfl 0 rfl ?_
  refine g_callV (As := []) (ci := 3) X dL_meanWeight_3 (c_X3_meanWeight κ.l hl κ.Γ M A w hB hI hm) k1043 k1044 k1045 k1 k1046 rfl (BRep.obj hB) ⟨rfl, by decide, by decide, (show (parseMethodDescriptor yX3_meanWeight.desc).map (fun d => d.parameters.length) = some 0 by decide +kernel)⟩ rfl (Nat.le_of_ble_eq_true rfl) (by rw [hRm]; decide) (by rw [hRm]; exact ⟨Nat.le_of_ble_eq_true rfl, Nat.le_of_ble_eq_true rfl⟩) (fun v9 M9 h9 => ?_) (fun E9 M9 h9 => ?_)
  · obtain ⟨n9, rfl⟩ := WIn.dbl hx h9.1
    have ho9 : M9 o = some (.inl (κ.Γ.2.1 5, 1, .inr (.inr (.inr (.inl fo))))) := (h9.2.2 o hoA).trans ho
    refine g_dastore X dL_meanWeight_6 ho9 vin01 ?_
    refine g_goto (tgt := 13) X dL_meanWeight_7 (by decide) ?_
    refine g_iconst (v := 0) X dL_meanWeight_13 (by decide) ?_
    exact g_iret X F dL_meanWeight_14 (Nat.le_of_ble_eq_true rfl) (Nat.le_of_ble_eq_true rfl) (WMuD.ok (f' := vf_upd fo (cN 0) n9) h9 hoA)
  · obtain ⟨k9, hk9⟩ := WIn.ex hx h9.1
    rcases hk9 with ⟨rfl, rfl⟩ | hk9
    · refine gx_catch (name := eAri) X [] ⟨0, 7, 10, 148⟩ [] rfl (fun z9 hz9 => absurd hz9 List.not_mem_nil) rfl (by decide) k1029 k1041 (fun q9 => ?_)
      refine g_astore_n (L' := [(2, .ref q9), (0, .ref (A 313)), (1, .ref o)]) X dL_meanWeight_10 rfl (by rw [hnL]; decide) rfl ?_
      refine g_iconst (v := 1) X dL_meanWeight_11 (by decide) ?_
      exact g_iret X F dL_meanWeight_12 (Nat.le_of_ble_eq_true rfl) (Nat.le_of_ble_eq_true rfl) (WMuD.exc h9 hoA ho (WEx.hd rfl))
    · exact hk9.elim
set_option maxRecDepth 100000 in
set_option maxHeartbeats 4000000 in
theorem c_L_shareBits (l : Launch) (hl : l.stackTraces = false) (Γ : Gm) (M : Hp) (A : Nat → Nat) (w : PV) (hB : BRep Γ A w M) (hI : BInv w) (b : Int32) (hw : hasB (w.1 0) b → ¬ shB (w.1 0) b = 0 → ShF (w.1 0) b) (o : Nat) (fo : Nat → Int64) (ho : M o = some (.inl (Γ.2.1 1, 1, .inr (.inl fo)))) (hoA : ∀ i, i < 315 → o ≠ A i) (hx : WIn [eIdx, eAri] isI (pShareBits w b).1) : CtW l Γ yL_shareBits cL_shareBits 4 (some .int) [(0, 9, 12, 13), (0, 9, 15, 148)] 8 3 18 [.ref (A 313), .int b, .ref o] M (WMu Γ A o [eIdx, eAri] cvI (pShareBits w b) M) := by
  refine CtW.of hl (by decide) (Nat.le_of_ble_eq_true rfl) rfl ?_
  intro κ e1 e2 hnL hRm X F hlt
  subst e1 e2
  refine g_aload_n X dL_shareBits_0 rfl 2 rfl ?_
  refine g_iconst (v := 0) X dL_shareBits_1 (by decide) ?_
  refine g_aload_n X dL_shareBits_2 rfl 0 rfl ?_
  refine g_iload_n X dL_shareBits_3 rfl 1 rfl ?_
  refine g_callV (As := [.int b]) (ci := 3) X dL_shareBits_4 (c_X3_shareBits κ.l hl κ.Γ M A w hB hI b hw) k1059 k1060 k1061 k1 k1062 rfl (BRep.obj hB) ⟨rfl, by decide, by decide, (show (parseMethodDescriptor yX3_shareBits.desc).map (fun d => d.parameters.length) = some 1 by decide +kernel)⟩ rfl (Nat.le_of_ble_eq_true rfl) (by rw [hRm]; decide) (by rw [hRm]; exact ⟨Nat.le_of_ble_eq_true rfl, Nat.le_of_ble_eq_true rfl⟩) (fun v9 M9 h9 => ?_) (fun E9 M9 h9 => ?_)
  · obtain ⟨n9, rfl⟩ := WIn.int hx h9.1
    have ho9 : M9 o = some (.inl (κ.Γ.2.1 1, 1, .inr (.inl fo))) := (h9.2.2 o hoA).trans ho
    refine g_i2l X dL_shareBits_7 ?_
    refine g_lastore X dL_shareBits_8 ho9 vin01 ?_
    refine g_goto (tgt := 18) X dL_shareBits_9 (by decide) ?_
    refine g_iconst (v := 0) X dL_shareBits_18 (by decide) ?_
    exact g_iret X F dL_shareBits_19 (Nat.le_of_ble_eq_true rfl) (Nat.le_of_ble_eq_true rfl) (WMu.ok h9 hoA rfl)
  · obtain ⟨k9, hk9⟩ := WIn.ex hx h9.1
    rcases hk9 with ⟨rfl, rfl⟩ | ⟨rfl, rfl⟩ | hk9
    · refine gx_catch (name := eIdx) X [] ⟨0, 9, 12, 13⟩ [⟨0, 9, 15, 148⟩] rfl (fun z9 hz9 => absurd hz9 List.not_mem_nil) rfl (by decide) k289 k387 (fun q9 => ?_)
      refine g_astore_n (L' := [(3, .ref q9), (0, .ref (A 313)), (1, .int b), (2, .ref o)]) X dL_shareBits_12 rfl (by rw [hnL]; decide) rfl ?_
      refine g_iconst (v := 1) X dL_shareBits_13 (by decide) ?_
      exact g_iret X F dL_shareBits_14 (Nat.le_of_ble_eq_true rfl) (Nat.le_of_ble_eq_true rfl) (WMu.exc h9 hoA ho (WEx.hd rfl))
    · refine gx_catch (name := eAri) X [⟨0, 9, 12, 13⟩] ⟨0, 9, 15, 148⟩ [] rfl (List.forall_mem_cons.mpr ⟨⟨by decide, eIdx, k289, nc_eAri_eIdx⟩, (fun z9 hz9 => absurd hz9 List.not_mem_nil)⟩) rfl (by decide) k1029 k1041 (fun q9 => ?_)
      refine g_astore_n (L' := [(3, .ref q9), (0, .ref (A 313)), (1, .int b), (2, .ref o)]) X dL_shareBits_15 rfl (by rw [hnL]; decide) rfl ?_
      refine g_iconst (v := 2) X dL_shareBits_16 (by decide) ?_
      exact g_iret X F dL_shareBits_17 (Nat.le_of_ble_eq_true rfl) (Nat.le_of_ble_eq_true rfl) (WMu.exc h9 hoA ho (WEx.tl (WEx.hd rfl)))
    · exact hk9.elim
set_option maxRecDepth 100000 in
set_option maxHeartbeats 4000000 in
theorem c_L_undo (l : Launch) (hl : l.stackTraces = false) (Γ : Gm) (M : Hp) (A : Nat → Nat) (w : PV) (hB : BRep Γ A w M) (hI : BInv w)  (o : Nat) (fo : Nat → Int64) (ho : M o = some (.inl (Γ.2.1 1, 1, .inr (.inl fo)))) (hoA : ∀ i, i < 315 → o ≠ A i) (hx : WIn [eSta] isI (pUndo w).1) : CtW l Γ yL_undo cL_undo 3 (some .int) [(0, 8, 11, 17)] 8 3 18 [.ref (A 313), .ref o] M (WMu Γ A o [eSta] cvI (pUndo w) M) := by
  refine CtW.of hl (by decide) (Nat.le_of_ble_eq_true rfl) rfl ?_
  intro κ e1 e2 hnL hRm X F hlt
  subst e1 e2
  refine g_aload_n X dL_undo_0 rfl 1 rfl ?_
  refine g_iconst (v := 0) X dL_undo_1 (by decide) ?_
  refine g_aload_n X dL_undo_2 rfl 0 rfl ?_
  refine g_callV (As := []) (ci := 3) X dL_undo_3 (c_X3_undo κ.l hl κ.Γ M A w hB hI ) k1071 k1072 k1073 k1 k1074 rfl (BRep.obj hB) ⟨rfl, by decide, by decide, (show (parseMethodDescriptor yX3_undo.desc).map (fun d => d.parameters.length) = some 0 by decide +kernel)⟩ rfl (Nat.le_of_ble_eq_true rfl) (by rw [hRm]; decide) (by rw [hRm]; exact ⟨Nat.le_of_ble_eq_true rfl, Nat.le_of_ble_eq_true rfl⟩) (fun v9 M9 h9 => ?_) (fun E9 M9 h9 => ?_)
  · obtain ⟨n9, rfl⟩ := WIn.int hx h9.1
    have ho9 : M9 o = some (.inl (κ.Γ.2.1 1, 1, .inr (.inl fo))) := (h9.2.2 o hoA).trans ho
    refine g_i2l X dL_undo_6 ?_
    refine g_lastore X dL_undo_7 ho9 vin01 ?_
    refine g_goto (tgt := 14) X dL_undo_8 (by decide) ?_
    refine g_iconst (v := 0) X dL_undo_14 (by decide) ?_
    exact g_iret X F dL_undo_15 (Nat.le_of_ble_eq_true rfl) (Nat.le_of_ble_eq_true rfl) (WMu.ok h9 hoA rfl)
  · obtain ⟨k9, hk9⟩ := WIn.ex hx h9.1
    rcases hk9 with ⟨rfl, rfl⟩ | hk9
    · refine gx_catch (name := eSta) X [] ⟨0, 8, 11, 17⟩ [] rfl (fun z9 hz9 => absurd hz9 List.not_mem_nil) rfl (by decide) k370 k423 (fun q9 => ?_)
      refine g_astore_n (L' := [(2, .ref q9), (0, .ref (A 313)), (1, .ref o)]) X dL_undo_11 rfl (by rw [hnL]; decide) rfl ?_
      refine g_iconst (v := 1) X dL_undo_12 (by decide) ?_
      exact g_iret X F dL_undo_13 (Nat.le_of_ble_eq_true rfl) (Nat.le_of_ble_eq_true rfl) (WMu.exc h9 hoA ho (WEx.hd rfl))
    · exact hk9.elim
set_option maxRecDepth 100000 in
set_option maxHeartbeats 4000000 in
theorem c_L_restore (l : Launch) (hl : l.stackTraces = false) (Γ : Gm) (M : Hp) (A : Nat → Nat) (w : PV) (hB : BRep Γ A w M) (hI : BInv w)  (o : Nat) (fo : Nat → Int64) (ho : M o = some (.inl (Γ.2.1 1, 1, .inr (.inl fo)))) (hoA : ∀ i, i < 315 → o ≠ A i) (hx : WIn [eSta] isI (pRestore w).1) : CtW l Γ yL_restore cL_restore 3 (some .int) [(0, 8, 11, 17)] 8 3 18 [.ref (A 313), .ref o] M (WMu Γ A o [eSta] cvI (pRestore w) M) := by
  refine CtW.of hl (by decide) (Nat.le_of_ble_eq_true rfl) rfl ?_
  intro κ e1 e2 hnL hRm X F hlt
  subst e1 e2
  refine g_aload_n X dL_restore_0 rfl 1 rfl ?_
  refine g_iconst (v := 0) X dL_restore_1 (by decide) ?_
  refine g_aload_n X dL_restore_2 rfl 0 rfl ?_
  refine g_callV (As := []) (ci := 3) X dL_restore_3 (c_X3_restore κ.l hl κ.Γ M A w hB hI ) k1078 k1079 k1080 k1 k1081 rfl (BRep.obj hB) ⟨rfl, by decide, by decide, (show (parseMethodDescriptor yX3_restore.desc).map (fun d => d.parameters.length) = some 0 by decide +kernel)⟩ rfl (Nat.le_of_ble_eq_true rfl) (by rw [hRm]; decide) (by rw [hRm]; exact ⟨Nat.le_of_ble_eq_true rfl, Nat.le_of_ble_eq_true rfl⟩) (fun v9 M9 h9 => ?_) (fun E9 M9 h9 => ?_)
  · obtain ⟨n9, rfl⟩ := WIn.int hx h9.1
    have ho9 : M9 o = some (.inl (κ.Γ.2.1 1, 1, .inr (.inl fo))) := (h9.2.2 o hoA).trans ho
    refine g_i2l X dL_restore_6 ?_
    refine g_lastore X dL_restore_7 ho9 vin01 ?_
    refine g_goto (tgt := 14) X dL_restore_8 (by decide) ?_
    refine g_iconst (v := 0) X dL_restore_14 (by decide) ?_
    exact g_iret X F dL_restore_15 (Nat.le_of_ble_eq_true rfl) (Nat.le_of_ble_eq_true rfl) (WMu.ok h9 hoA rfl)
  · obtain ⟨k9, hk9⟩ := WIn.ex hx h9.1
    rcases hk9 with ⟨rfl, rfl⟩ | hk9
    · refine gx_catch (name := eSta) X [] ⟨0, 8, 11, 17⟩ [] rfl (fun z9 hz9 => absurd hz9 List.not_mem_nil) rfl (by decide) k370 k423 (fun q9 => ?_)
      refine g_astore_n (L' := [(2, .ref q9), (0, .ref (A 313)), (1, .ref o)]) X dL_restore_11 rfl (by rw [hnL]; decide) rfl ?_
      refine g_iconst (v := 1) X dL_restore_12 (by decide) ?_
      exact g_iret X F dL_restore_13 (Nat.le_of_ble_eq_true rfl) (Nat.le_of_ble_eq_true rfl) (WMu.exc h9 hoA ho (WEx.hd rfl))
    · exact hk9.elim
