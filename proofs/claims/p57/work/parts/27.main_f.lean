abbrev rI0 : Res := .inl none
set_option maxRecDepth 100000 in
set_option maxHeartbeats 4000000 in
theorem c_X3_faultOfCommand (l : Launch) (hl : l.stackTraces = false) (Γ : Gm) (M : Hp) (A : Nat → Nat) (w : PV) (hB : BRep Γ A w M) (hI : BInv w) : Ct l Γ yX3_faultOfCommand cX3_faultOfCommand 4 (some .int) 3 0 0 [.ref (A 313)] M (Rd (some (.int (cF (w.1 0) w.2.2.1))) M) := by
  refine Ct.of hl (by decide) (Nat.le_of_ble_eq_true rfl) rfl ?_
  intro κ e1 e2 hnL hRm X F hlt
  subst e1 e2
  refine g_aload_n X dX3_faultOfCommand_0 rfl 0 rfl ?_
  refine g_get X dX3_faultOfCommand_1 (ci := 3) (k := 7) (v := .ref (tA A 0)) rfl k161 (by decide) rfl (BRep.obj hB) rfl ?_
  refine g_getN X dX3_faultOfCommand_4 (ci := 0) (k := 4) (v := .ref (tA A 2)) rfl k123 (by decide) rfl (TRep.obj hB.2.2.1) rfl ?_
  refine g_iconst (v := 0) X dX3_faultOfCommand_7 (by decide) ?_
  refine g_iaload X dX3_faultOfCommand_8 (TRep.nums hB.2.2.1) (vin_lit (by decide +kernel)) ?_
  refine g_istore_n (L' := [(1, .int (w.2.2.1.2.1 2 0)), (0, .ref (A 313))]) X dX3_faultOfCommand_9 rfl (by rw [hnL]; decide) rfl ?_
  refine g_aload_n X dX3_faultOfCommand_10 rfl 1 rfl ?_
  refine g_get X dX3_faultOfCommand_11 (ci := 3) (k := 7) (v := .ref (tA A 0)) rfl k161 (by decide) rfl (BRep.obj hB) rfl ?_
  refine g_getN X dX3_faultOfCommand_14 (ci := 0) (k := 4) (v := .ref (tA A 2)) rfl k123 (by decide) rfl (TRep.obj hB.2.2.1) rfl ?_
  refine g_iconst (v := 1) X dX3_faultOfCommand_17 (by decide) ?_
  refine g_iaload X dX3_faultOfCommand_18 (TRep.nums hB.2.2.1) (vin_lit (by decide +kernel)) ?_
  refine g_istore_n (L' := [(2, .int (w.2.2.1.2.1 2 1)), (1, .int (w.2.2.1.2.1 2 0)), (0, .ref (A 313))]) X dX3_faultOfCommand_19 rfl (by rw [hnL]; decide) rfl ?_
  refine g_aload_n X dX3_faultOfCommand_20 rfl 2 rfl ?_
  refine g_get X dX3_faultOfCommand_21 (ci := 3) (k := 7) (v := .ref (tA A 0)) rfl k161 (by decide) rfl (BRep.obj hB) rfl ?_
  refine g_getN X dX3_faultOfCommand_24 (ci := 0) (k := 4) (v := .ref (tA A 2)) rfl k123 (by decide) rfl (TRep.obj hB.2.2.1) rfl ?_
  refine g_iconst (v := 2) X dX3_faultOfCommand_27 (by decide) ?_
  refine g_iaload X dX3_faultOfCommand_28 (TRep.nums hB.2.2.1) (vin_lit (by decide +kernel)) ?_
  refine g_istore_n (L' := [(3, .int (w.2.2.1.2.1 2 2)), (2, .int (w.2.2.1.2.1 2 1)), (1, .int (w.2.2.1.2.1 2 0)), (0, .ref (A 313))]) X dX3_faultOfCommand_29 rfl (by rw [hnL]; decide) rfl ?_
  refine g_aload_n X dX3_faultOfCommand_30 rfl 3 rfl ?_
  refine g_get X dX3_faultOfCommand_31 (ci := 3) (k := 7) (v := .ref (tA A 0)) rfl k161 (by decide) rfl (BRep.obj hB) rfl ?_
  refine g_getN X dX3_faultOfCommand_34 (ci := 0) (k := 3) (v := .int (w.2.2.1.1 2)) rfl k121 (by decide) rfl (TRep.obj hB.2.2.1) rfl ?_
  refine g_topi (fun z1 hz1 => ?_)
  by_cases e2 : z1 = 109
  · refine g_tabIn (off := 115) (tgt := 152) X dX3_faultOfCommand_37 (by rw [e2]; decide) (by rw [e2]; decide) (by rw [e2]; rfl) (by decide) ?_
    refine g_aload_n X dX3_faultOfCommand_152 rfl 3 rfl ?_
    refine g_get X dX3_faultOfCommand_153 (ci := 3) (k := 0) (v := .ref (hA A 0 0)) rfl k154 (by decide) rfl (BRep.obj hB) rfl ?_
    refine g_iload_n X dX3_faultOfCommand_156 rfl 2 rfl ?_
    refine g_iload_n X dX3_faultOfCommand_157 rfl 1 rfl ?_
    refine g_callV_rd (As := [.int (w.2.2.1.2.1 2 0), .int (w.2.2.1.2.1 2 1)]) (ci := 1) (v := some (.int (fAdmit (w.1 0) (w.2.2.1.2.1 2 0) (w.2.2.1.2.1 2 1)))) X dX3_faultOfCommand_158 (c_X1_faultOfAdmit κ.l hl κ.Γ M (hA A 0) (w.1 0) (hB.1 0 (by decide)) (hI.1 0 (by decide)) (w.2.2.1.2.1 2 0) (w.2.2.1.2.1 2 1)) k375 k376 k377 k2 k378 rfl (hB.1 0 (by decide)).obj ⟨rfl, by decide, by decide, (show (parseMethodDescriptor yX1_faultOfAdmit.desc).map (fun d => d.parameters.length) = some 2 by decide +kernel)⟩ rfl (Nat.le_of_ble_eq_true rfl) (by rw [hRm]; decide) (by rw [hRm]; exact ⟨Nat.le_of_ble_eq_true rfl, Nat.le_of_ble_eq_true rfl⟩) ?_
    exact g_iret X F dX3_faultOfCommand_161 (by omega) (by omega) (by subst hz1; (show rI _ = rI (cF (w.1 0) w.2.2.1) ∧ M = M); unfold cF cFault; rw [if_pos e2]; exact ⟨rfl, rfl⟩)
  by_cases e3 : z1 = 101
  · refine g_tabIn (off := 125) (tgt := 162) X dX3_faultOfCommand_37 (by rw [e3]; decide) (by rw [e3]; decide) (by rw [e3]; rfl) (by decide) ?_
    refine g_aload_n X dX3_faultOfCommand_162 rfl 3 rfl ?_
    refine g_get X dX3_faultOfCommand_163 (ci := 3) (k := 0) (v := .ref (hA A 0 0)) rfl k154 (by decide) rfl (BRep.obj hB) rfl ?_
    refine g_iload_n X dX3_faultOfCommand_166 rfl 2 rfl ?_
    refine g_callV_rd (As := [.int (w.2.2.1.2.1 2 0)]) (ci := 1) (v := some (.int (fComeIn (w.1 0) (w.2.2.1.2.1 2 0)))) X dX3_faultOfCommand_167 (c_X1_faultOfComeIn κ.l hl κ.Γ M (hA A 0) (w.1 0) (hB.1 0 (by decide)) (hI.1 0 (by decide)) (w.2.2.1.2.1 2 0)) k484 k485 k486 k2 k487 rfl (hB.1 0 (by decide)).obj ⟨rfl, by decide, by decide, (show (parseMethodDescriptor yX1_faultOfComeIn.desc).map (fun d => d.parameters.length) = some 1 by decide +kernel)⟩ rfl (Nat.le_of_ble_eq_true rfl) (by rw [hRm]; decide) (by rw [hRm]; exact ⟨Nat.le_of_ble_eq_true rfl, Nat.le_of_ble_eq_true rfl⟩) ?_
    exact g_iret X F dX3_faultOfCommand_170 (by omega) (by omega) (by subst hz1; (show rI _ = rI (cF (w.1 0) w.2.2.1) ∧ M = M); unfold cF cFault; rw [if_neg e2, if_pos e3]; exact ⟨rfl, rfl⟩)
  by_cases e4 : z1 = 108
  · refine g_tabIn (off := 134) (tgt := 171) X dX3_faultOfCommand_37 (by rw [e4]; decide) (by rw [e4]; decide) (by rw [e4]; rfl) (by decide) ?_
    refine g_aload_n X dX3_faultOfCommand_171 rfl 3 rfl ?_
    refine g_get X dX3_faultOfCommand_172 (ci := 3) (k := 0) (v := .ref (hA A 0 0)) rfl k154 (by decide) rfl (BRep.obj hB) rfl ?_
    refine g_iload_n X dX3_faultOfCommand_175 rfl 2 rfl ?_
    refine g_callV_rd (As := [.int (w.2.2.1.2.1 2 0)]) (ci := 1) (v := some (.int (fGoOut (w.1 0) (w.2.2.1.2.1 2 0)))) X dX3_faultOfCommand_176 (c_X1_faultOfGoOut κ.l hl κ.Γ M (hA A 0) (w.1 0) (hB.1 0 (by decide)) (hI.1 0 (by decide)) (w.2.2.1.2.1 2 0)) k503 k504 k505 k2 k506 rfl (hB.1 0 (by decide)).obj ⟨rfl, by decide, by decide, (show (parseMethodDescriptor yX1_faultOfGoOut.desc).map (fun d => d.parameters.length) = some 1 by decide +kernel)⟩ rfl (Nat.le_of_ble_eq_true rfl) (by rw [hRm]; decide) (by rw [hRm]; exact ⟨Nat.le_of_ble_eq_true rfl, Nat.le_of_ble_eq_true rfl⟩) ?_
    exact g_iret X F dX3_faultOfCommand_179 (by omega) (by omega) (by subst hz1; (show rI _ = rI (cF (w.1 0) w.2.2.1) ∧ M = M); unfold cF cFault; rw [if_neg e2, if_neg e3, if_pos e4]; exact ⟨rfl, rfl⟩)
  by_cases e5 : z1 = 113
  · refine g_tabIn (off := 143) (tgt := 180) X dX3_faultOfCommand_37 (by rw [e5]; decide) (by rw [e5]; decide) (by rw [e5]; rfl) (by decide) ?_
    refine g_aload_n X dX3_faultOfCommand_180 rfl 3 rfl ?_
    refine g_get X dX3_faultOfCommand_181 (ci := 3) (k := 0) (v := .ref (hA A 0 0)) rfl k154 (by decide) rfl (BRep.obj hB) rfl ?_
    refine g_iload_n X dX3_faultOfCommand_184 rfl 2 rfl ?_
    refine g_callV_rd (As := [.int (w.2.2.1.2.1 2 0)]) (ci := 1) (v := some (.int (fQuorum (w.2.2.1.2.1 2 0)))) X dX3_faultOfCommand_185 (c_X1_faultOfNewQuorum κ.l hl κ.Γ M (hA A 0) (w.1 0) (hB.1 0 (by decide)) (hI.1 0 (by decide)) (w.2.2.1.2.1 2 0)) k518 k519 k520 k2 k521 rfl (hB.1 0 (by decide)).obj ⟨rfl, by decide, by decide, (show (parseMethodDescriptor yX1_faultOfNewQuorum.desc).map (fun d => d.parameters.length) = some 1 by decide +kernel)⟩ rfl (Nat.le_of_ble_eq_true rfl) (by rw [hRm]; decide) (by rw [hRm]; exact ⟨Nat.le_of_ble_eq_true rfl, Nat.le_of_ble_eq_true rfl⟩) ?_
    exact g_iret X F dX3_faultOfCommand_188 (by omega) (by omega) (by subst hz1; (show rI _ = rI (cF (w.1 0) w.2.2.1) ∧ M = M); unfold cF cFault; rw [if_neg e2, if_neg e3, if_neg e4, if_pos e5]; exact ⟨rfl, rfl⟩)
  by_cases e6 : z1 = 98
  · refine g_tabIn (off := 152) (tgt := 189) X dX3_faultOfCommand_37 (by rw [e6]; decide) (by rw [e6]; decide) (by rw [e6]; rfl) (by decide) ?_
    refine g_aload_n X dX3_faultOfCommand_189 rfl 3 rfl ?_
    refine g_get X dX3_faultOfCommand_190 (ci := 3) (k := 0) (v := .ref (hA A 0 0)) rfl k154 (by decide) rfl (BRep.obj hB) rfl ?_
    refine g_iload_n X dX3_faultOfCommand_193 rfl 2 rfl ?_
    refine g_iload_n X dX3_faultOfCommand_194 rfl 1 rfl ?_
    refine g_iload_n X dX3_faultOfCommand_195 rfl 0 rfl ?_
    refine g_callV_rd (As := [.int (w.2.2.1.2.1 2 0), .int (w.2.2.1.2.1 2 1), .int (w.2.2.1.2.1 2 2)]) (ci := 1) (v := some (.int (fBring (w.1 0) (w.2.2.1.2.1 2 0) (w.2.2.1.2.1 2 1) (w.2.2.1.2.1 2 2)))) X dX3_faultOfCommand_196 (c_X1_faultOfBringIn κ.l hl κ.Γ M (hA A 0) (w.1 0) (hB.1 0 (by decide)) (hI.1 0 (by decide)) (w.2.2.1.2.1 2 0) (w.2.2.1.2.1 2 1) (w.2.2.1.2.1 2 2)) k569 k570 k571 k2 k572 rfl (hB.1 0 (by decide)).obj ⟨rfl, by decide, by decide, (show (parseMethodDescriptor yX1_faultOfBringIn.desc).map (fun d => d.parameters.length) = some 3 by decide +kernel)⟩ rfl (Nat.le_of_ble_eq_true rfl) (by rw [hRm]; decide) (by rw [hRm]; exact ⟨Nat.le_of_ble_eq_true rfl, Nat.le_of_ble_eq_true rfl⟩) ?_
    exact g_iret X F dX3_faultOfCommand_199 (by omega) (by omega) (by subst hz1; (show rI _ = rI (cF (w.1 0) w.2.2.1) ∧ M = M); unfold cF cFault; rw [if_neg e2, if_neg e3, if_neg e4, if_neg e5, if_pos e6]; exact ⟨rfl, rfl⟩)
  by_cases e7 : z1 = 121
  · refine g_tabIn (off := 163) (tgt := 200) X dX3_faultOfCommand_37 (by rw [e7]; decide) (by rw [e7]; decide) (by rw [e7]; rfl) (by decide) ?_
    refine g_aload_n X dX3_faultOfCommand_200 rfl 3 rfl ?_
    refine g_get X dX3_faultOfCommand_201 (ci := 3) (k := 0) (v := .ref (hA A 0 0)) rfl k154 (by decide) rfl (BRep.obj hB) rfl ?_
    refine g_iload_n X dX3_faultOfCommand_204 rfl 2 rfl ?_
    refine g_iload_n X dX3_faultOfCommand_205 rfl 1 rfl ?_
    refine g_callV_rd (As := [.int (w.2.2.1.2.1 2 0), .int (w.2.2.1.2.1 2 1)]) (ci := 1) (v := some (.int (fVote (w.1 0) (w.2.2.1.2.1 2 0) (w.2.2.1.2.1 2 1)))) X dX3_faultOfCommand_206 (c_X1_faultOfVote κ.l hl κ.Γ M (hA A 0) (w.1 0) (hB.1 0 (by decide)) (hI.1 0 (by decide)) (w.2.2.1.2.1 2 0) (w.2.2.1.2.1 2 1)) k671 k672 k673 k2 k674 rfl (hB.1 0 (by decide)).obj ⟨rfl, by decide, by decide, (show (parseMethodDescriptor yX1_faultOfVote.desc).map (fun d => d.parameters.length) = some 2 by decide +kernel)⟩ rfl (Nat.le_of_ble_eq_true rfl) (by rw [hRm]; decide) (by rw [hRm]; exact ⟨Nat.le_of_ble_eq_true rfl, Nat.le_of_ble_eq_true rfl⟩) ?_
    exact g_iret X F dX3_faultOfCommand_209 (by omega) (by omega) (by subst hz1; (show rI _ = rI (cF (w.1 0) w.2.2.1) ∧ M = M); unfold cF cFault; rw [if_neg e2, if_neg e3, if_neg e4, if_neg e5, if_neg e6, if_pos e7]; exact ⟨rfl, rfl⟩)
  by_cases e8 : z1 = 110
  · refine g_tabIn (off := 163) (tgt := 200) X dX3_faultOfCommand_37 (by rw [e8]; decide) (by rw [e8]; decide) (by rw [e8]; rfl) (by decide) ?_
    refine g_aload_n X dX3_faultOfCommand_200 rfl 3 rfl ?_
    refine g_get X dX3_faultOfCommand_201 (ci := 3) (k := 0) (v := .ref (hA A 0 0)) rfl k154 (by decide) rfl (BRep.obj hB) rfl ?_
    refine g_iload_n X dX3_faultOfCommand_204 rfl 2 rfl ?_
    refine g_iload_n X dX3_faultOfCommand_205 rfl 1 rfl ?_
    refine g_callV_rd (As := [.int (w.2.2.1.2.1 2 0), .int (w.2.2.1.2.1 2 1)]) (ci := 1) (v := some (.int (fVote (w.1 0) (w.2.2.1.2.1 2 0) (w.2.2.1.2.1 2 1)))) X dX3_faultOfCommand_206 (c_X1_faultOfVote κ.l hl κ.Γ M (hA A 0) (w.1 0) (hB.1 0 (by decide)) (hI.1 0 (by decide)) (w.2.2.1.2.1 2 0) (w.2.2.1.2.1 2 1)) k671 k672 k673 k2 k674 rfl (hB.1 0 (by decide)).obj ⟨rfl, by decide, by decide, (show (parseMethodDescriptor yX1_faultOfVote.desc).map (fun d => d.parameters.length) = some 2 by decide +kernel)⟩ rfl (Nat.le_of_ble_eq_true rfl) (by rw [hRm]; decide) (by rw [hRm]; exact ⟨Nat.le_of_ble_eq_true rfl, Nat.le_of_ble_eq_true rfl⟩) ?_
    exact g_iret X F dX3_faultOfCommand_209 (by omega) (by omega) (by subst hz1; (show rI _ = rI (cF (w.1 0) w.2.2.1) ∧ M = M); unfold cF cFault; rw [if_neg e2, if_neg e3, if_neg e4, if_neg e5, if_neg e6, if_neg e7, if_pos e8]; exact ⟨rfl, rfl⟩)
  by_cases e9 : z1 = 99
  · refine g_tabIn (off := 173) (tgt := 210) X dX3_faultOfCommand_37 (by rw [e9]; decide) (by rw [e9]; decide) (by rw [e9]; rfl) (by decide) ?_
    refine g_aload_n X dX3_faultOfCommand_210 rfl 3 rfl ?_
    refine g_get X dX3_faultOfCommand_211 (ci := 3) (k := 0) (v := .ref (hA A 0 0)) rfl k154 (by decide) rfl (BRep.obj hB) rfl ?_
    refine g_iload_n X dX3_faultOfCommand_214 rfl 2 rfl ?_
    refine g_callV_rd (As := [.int (w.2.2.1.2.1 2 0)]) (ci := 1) (v := some (.int (fEnd (w.1 0) (w.2.2.1.2.1 2 0)))) X dX3_faultOfCommand_215 (c_X1_faultOfEndReading κ.l hl κ.Γ M (hA A 0) (w.1 0) (hB.1 0 (by decide)) (hI.1 0 (by decide)) (w.2.2.1.2.1 2 0)) k720 k721 k722 k2 k723 rfl (hB.1 0 (by decide)).obj ⟨rfl, by decide, by decide, (show (parseMethodDescriptor yX1_faultOfEndReading.desc).map (fun d => d.parameters.length) = some 1 by decide +kernel)⟩ rfl (Nat.le_of_ble_eq_true rfl) (by rw [hRm]; decide) (by rw [hRm]; exact ⟨Nat.le_of_ble_eq_true rfl, Nat.le_of_ble_eq_true rfl⟩) ?_
    exact g_iret X F dX3_faultOfCommand_218 (by omega) (by omega) (by subst hz1; (show rI _ = rI (cF (w.1 0) w.2.2.1) ∧ M = M); unfold cF cFault; rw [if_neg e2, if_neg e3, if_neg e4, if_neg e5, if_neg e6, if_neg e7, if_neg e8, if_pos e9]; exact ⟨rfl, rfl⟩)
  by_cases e10 : z1 = 97
  · refine g_tabIn (off := 182) (tgt := 219) X dX3_faultOfCommand_37 (by rw [e10]; decide) (by rw [e10]; decide) (by rw [e10]; rfl) (by decide) ?_
    refine g_aload_n X dX3_faultOfCommand_219 rfl 3 rfl ?_
    refine g_get X dX3_faultOfCommand_220 (ci := 3) (k := 0) (v := .ref (hA A 0 0)) rfl k154 (by decide) rfl (BRep.obj hB) rfl ?_
    refine g_iload_n X dX3_faultOfCommand_223 rfl 2 rfl ?_
    refine g_iload_n X dX3_faultOfCommand_224 rfl 1 rfl ?_
    refine g_iload_n X dX3_faultOfCommand_225 rfl 0 rfl ?_
    refine g_callV_rd (As := [.int (w.2.2.1.2.1 2 0), .int (w.2.2.1.2.1 2 1), .int (w.2.2.1.2.1 2 2)]) (ci := 1) (v := some (.int (fMove (w.1 0) (w.2.2.1.2.1 2 0) (w.2.2.1.2.1 2 1) (w.2.2.1.2.1 2 2)))) X dX3_faultOfCommand_226 (c_X1_faultOfMove κ.l hl κ.Γ M (hA A 0) (w.1 0) (hB.1 0 (by decide)) (hI.1 0 (by decide)) (w.2.2.1.2.1 2 0) (w.2.2.1.2.1 2 1) (w.2.2.1.2.1 2 2)) k740 k741 k742 k2 k743 rfl (hB.1 0 (by decide)).obj ⟨rfl, by decide, by decide, (show (parseMethodDescriptor yX1_faultOfMove.desc).map (fun d => d.parameters.length) = some 3 by decide +kernel)⟩ rfl (Nat.le_of_ble_eq_true rfl) (by rw [hRm]; decide) (by rw [hRm]; exact ⟨Nat.le_of_ble_eq_true rfl, Nat.le_of_ble_eq_true rfl⟩) ?_
    exact g_iret X F dX3_faultOfCommand_229 (by omega) (by omega) (by subst hz1; (show rI _ = rI (cF (w.1 0) w.2.2.1) ∧ M = M); unfold cF cFault; rw [if_neg e2, if_neg e3, if_neg e4, if_neg e5, if_neg e6, if_neg e7, if_neg e8, if_neg e9, if_pos e10]; exact ⟨rfl, rfl⟩)
  by_cases e11 : z1 = 115
  · refine g_tabIn (off := 193) (tgt := 230) X dX3_faultOfCommand_37 (by rw [e11]; decide) (by rw [e11]; decide) (by rw [e11]; rfl) (by decide) ?_
    refine g_aload_n X dX3_faultOfCommand_230 rfl 3 rfl ?_
    refine g_get X dX3_faultOfCommand_231 (ci := 3) (k := 0) (v := .ref (hA A 0 0)) rfl k154 (by decide) rfl (BRep.obj hB) rfl ?_
    refine g_iload_n X dX3_faultOfCommand_234 rfl 2 rfl ?_
    refine g_iload_n X dX3_faultOfCommand_235 rfl 1 rfl ?_
    refine g_iload_n X dX3_faultOfCommand_236 rfl 0 rfl ?_
    refine g_callV_rd (As := [.int (w.2.2.1.2.1 2 0), .int (w.2.2.1.2.1 2 1), .int (w.2.2.1.2.1 2 2)]) (ci := 1) (v := some (.int (fSecond (w.1 0) (w.2.2.1.2.1 2 0) (w.2.2.1.2.1 2 1) (w.2.2.1.2.1 2 2)))) X dX3_faultOfCommand_237 (c_X1_faultOfSecond κ.l hl κ.Γ M (hA A 0) (w.1 0) (hB.1 0 (by decide)) (hI.1 0 (by decide)) (w.2.2.1.2.1 2 0) (w.2.2.1.2.1 2 1) (w.2.2.1.2.1 2 2)) k755 k756 k757 k2 k758 rfl (hB.1 0 (by decide)).obj ⟨rfl, by decide, by decide, (show (parseMethodDescriptor yX1_faultOfSecond.desc).map (fun d => d.parameters.length) = some 3 by decide +kernel)⟩ rfl (Nat.le_of_ble_eq_true rfl) (by rw [hRm]; decide) (by rw [hRm]; exact ⟨Nat.le_of_ble_eq_true rfl, Nat.le_of_ble_eq_true rfl⟩) ?_
    exact g_iret X F dX3_faultOfCommand_240 (by omega) (by omega) (by subst hz1; (show rI _ = rI (cF (w.1 0) w.2.2.1) ∧ M = M); unfold cF cFault; rw [if_neg e2, if_neg e3, if_neg e4, if_neg e5, if_neg e6, if_neg e7, if_neg e8, if_neg e9, if_neg e10, if_pos e11]; exact ⟨rfl, rfl⟩)
  by_cases e12 : z1 = 100
  · refine g_tabIn (off := 204) (tgt := 241) X dX3_faultOfCommand_37 (by rw [e12]; decide) (by rw [e12]; decide) (by rw [e12]; rfl) (by decide) ?_
    refine g_aload_n X dX3_faultOfCommand_241 rfl 3 rfl ?_
    refine g_get X dX3_faultOfCommand_242 (ci := 3) (k := 0) (v := .ref (hA A 0 0)) rfl k154 (by decide) rfl (BRep.obj hB) rfl ?_
    refine g_iload_n X dX3_faultOfCommand_245 rfl 2 rfl ?_
    refine g_callV_rd (As := [.int (w.2.2.1.2.1 2 0)]) (ci := 1) (v := some (.int (fDecide (w.1 0) (w.2.2.1.2.1 2 0)))) X dX3_faultOfCommand_246 (c_X1_faultOfDecideFirst κ.l hl κ.Γ M (hA A 0) (w.1 0) (hB.1 0 (by decide)) (hI.1 0 (by decide)) (w.2.2.1.2.1 2 0)) k774 k775 k776 k2 k777 rfl (hB.1 0 (by decide)).obj ⟨rfl, by decide, by decide, (show (parseMethodDescriptor yX1_faultOfDecideFirst.desc).map (fun d => d.parameters.length) = some 1 by decide +kernel)⟩ rfl (Nat.le_of_ble_eq_true rfl) (by rw [hRm]; decide) (by rw [hRm]; exact ⟨Nat.le_of_ble_eq_true rfl, Nat.le_of_ble_eq_true rfl⟩) ?_
    exact g_iret X F dX3_faultOfCommand_249 (by omega) (by omega) (by subst hz1; (show rI _ = rI (cF (w.1 0) w.2.2.1) ∧ M = M); unfold cF cFault; rw [if_neg e2, if_neg e3, if_neg e4, if_neg e5, if_neg e6, if_neg e7, if_neg e8, if_neg e9, if_neg e10, if_neg e11, if_pos e12]; exact ⟨rfl, rfl⟩)
  refine g_tabDef (keys := [109, 101, 108, 113, 98, 121, 110, 99, 97, 115, 100]) (tgt := 250) X dX3_faultOfCommand_37 (by decide +kernel) (by decide) (nk e2 (nk e3 (nk e4 (nk e5 (nk e6 (nk e7 (nk e8 (nk e9 (nk e10 (nk e11 (nk e12 nk0))))))))))) (by decide) ?_
  refine g_aload_n X dX3_faultOfCommand_250 rfl 3 rfl ?_
  refine g_get X dX3_faultOfCommand_251 (ci := 3) (k := 0) (v := .ref (hA A 0 0)) rfl k154 (by decide) rfl (BRep.obj hB) rfl ?_
  refine g_iload_n X dX3_faultOfCommand_254 rfl 2 rfl ?_
  refine g_iload_n X dX3_faultOfCommand_255 rfl 1 rfl ?_
  refine g_iload_n X dX3_faultOfCommand_256 rfl 0 rfl ?_
  refine g_callV_rd (As := [.int (w.2.2.1.2.1 2 0), .int (w.2.2.1.2.1 2 1), .int (w.2.2.1.2.1 2 2)]) (ci := 1) (v := some (.int (fHold (w.1 0) (w.2.2.1.2.1 2 0) (w.2.2.1.2.1 2 1) (w.2.2.1.2.1 2 2)))) X dX3_faultOfCommand_257 (c_X1_faultOfHoldUp κ.l hl κ.Γ M (hA A 0) (w.1 0) (hB.1 0 (by decide)) (hI.1 0 (by decide)) (w.2.2.1.2.1 2 0) (w.2.2.1.2.1 2 1) (w.2.2.1.2.1 2 2)) k815 k816 k817 k2 k818 rfl (hB.1 0 (by decide)).obj ⟨rfl, by decide, by decide, (show (parseMethodDescriptor yX1_faultOfHoldUp.desc).map (fun d => d.parameters.length) = some 3 by decide +kernel)⟩ rfl (Nat.le_of_ble_eq_true rfl) (by rw [hRm]; decide) (by rw [hRm]; exact ⟨Nat.le_of_ble_eq_true rfl, Nat.le_of_ble_eq_true rfl⟩) ?_
  exact g_iret X F dX3_faultOfCommand_260 (by omega) (by omega) (by subst hz1; (show rI _ = rI (cF (w.1 0) w.2.2.1) ∧ M = M); unfold cF cFault; rw [if_neg e2, if_neg e3, if_neg e4, if_neg e5, if_neg e6, if_neg e7, if_neg e8, if_neg e9, if_neg e10, if_neg e11, if_neg e12]; exact ⟨rfl, rfl⟩)
set_option maxRecDepth 100000 in
set_option maxHeartbeats 4000000 in
theorem c_X3_carryOutCommand (l : Launch) (hl : l.stackTraces = false) (Γ : Gm) (M : Hp) (A : Nat → Nat) (w : PV) (hB : BRep Γ A w M) (hI : BInv w) (h0 : cF (w.1 0) w.2.2.1 = 0) : Ct l Γ yX3_carryOutCommand cX3_carryOutCommand 4 none 2 0 0 [.ref (A 313)] M (BMu Γ A (rI0, wH w 0 (cD (w.1 0) w.2.2.1)) M) := by
  refine Ct.of hl (by decide) (Nat.le_of_ble_eq_true rfl) rfl ?_
  intro κ e1 e2 hnL hRm X F hlt
  subst e1 e2
  refine g_aload_n X dX3_carryOutCommand_0 rfl 0 rfl ?_
  refine g_get X dX3_carryOutCommand_1 (ci := 3) (k := 7) (v := .ref (tA A 0)) rfl k161 (by decide) rfl (BRep.obj hB) rfl ?_
  refine g_getN X dX3_carryOutCommand_4 (ci := 0) (k := 4) (v := .ref (tA A 2)) rfl k123 (by decide) rfl (TRep.obj hB.2.2.1) rfl ?_
  refine g_iconst (v := 0) X dX3_carryOutCommand_7 (by decide) ?_
  refine g_iaload X dX3_carryOutCommand_8 (TRep.nums hB.2.2.1) (vin_lit (by decide +kernel)) ?_
  refine g_istore_n (L' := [(1, .int (w.2.2.1.2.1 2 0)), (0, .ref (A 313))]) X dX3_carryOutCommand_9 rfl (by rw [hnL]; decide) rfl ?_
  refine g_aload_n X dX3_carryOutCommand_10 rfl 1 rfl ?_
  refine g_get X dX3_carryOutCommand_11 (ci := 3) (k := 7) (v := .ref (tA A 0)) rfl k161 (by decide) rfl (BRep.obj hB) rfl ?_
  refine g_getN X dX3_carryOutCommand_14 (ci := 0) (k := 4) (v := .ref (tA A 2)) rfl k123 (by decide) rfl (TRep.obj hB.2.2.1) rfl ?_
  refine g_iconst (v := 1) X dX3_carryOutCommand_17 (by decide) ?_
  refine g_iaload X dX3_carryOutCommand_18 (TRep.nums hB.2.2.1) (vin_lit (by decide +kernel)) ?_
  refine g_istore_n (L' := [(2, .int (w.2.2.1.2.1 2 1)), (1, .int (w.2.2.1.2.1 2 0)), (0, .ref (A 313))]) X dX3_carryOutCommand_19 rfl (by rw [hnL]; decide) rfl ?_
  refine g_aload_n X dX3_carryOutCommand_20 rfl 2 rfl ?_
  refine g_get X dX3_carryOutCommand_21 (ci := 3) (k := 7) (v := .ref (tA A 0)) rfl k161 (by decide) rfl (BRep.obj hB) rfl ?_
  refine g_getN X dX3_carryOutCommand_24 (ci := 0) (k := 4) (v := .ref (tA A 2)) rfl k123 (by decide) rfl (TRep.obj hB.2.2.1) rfl ?_
  refine g_iconst (v := 2) X dX3_carryOutCommand_27 (by decide) ?_
  refine g_iaload X dX3_carryOutCommand_28 (TRep.nums hB.2.2.1) (vin_lit (by decide +kernel)) ?_
  refine g_istore_n (L' := [(3, .int (w.2.2.1.2.1 2 2)), (2, .int (w.2.2.1.2.1 2 1)), (1, .int (w.2.2.1.2.1 2 0)), (0, .ref (A 313))]) X dX3_carryOutCommand_29 rfl (by rw [hnL]; decide) rfl ?_
  refine g_aload_n X dX3_carryOutCommand_30 rfl 3 rfl ?_
  refine g_get X dX3_carryOutCommand_31 (ci := 3) (k := 7) (v := .ref (tA A 0)) rfl k161 (by decide) rfl (BRep.obj hB) rfl ?_
  refine g_getN X dX3_carryOutCommand_34 (ci := 0) (k := 3) (v := .int (w.2.2.1.1 2)) rfl k121 (by decide) rfl (TRep.obj hB.2.2.1) rfl ?_
  refine g_topi (fun z1 hz1 => ?_)
  by_cases e2 : z1 = 109
  · refine g_tabIn (off := 115) (tgt := 152) X dX3_carryOutCommand_37 (by rw [e2]; decide) (by rw [e2]; decide) (by rw [e2]; rfl) (by decide) ?_
    subst hz1
    have hf := h0
    unfold cF cFault at hf
    rw [if_pos e2] at hf
    have hf := ok0_0 hf
    have vp := fAdmit_ok (hI.1 0 (by decide)) hf
    refine g_aload_n X dX3_carryOutCommand_152 rfl 3 rfl ?_
    refine g_get X dX3_carryOutCommand_153 (ci := 3) (k := 0) (v := .ref (hA A 0 0)) rfl k154 (by decide) rfl (BRep.obj hB) rfl ?_
    refine g_iload_n X dX3_carryOutCommand_156 rfl 2 rfl ?_
    refine g_iload_n X dX3_carryOutCommand_157 rfl 1 rfl ?_
    refine g_callV (As := [.int (w.2.2.1.2.1 2 0), .int (w.2.2.1.2.1 2 1)]) (ci := 1) X dX3_carryOutCommand_158 (c_X1_admit κ.l hl κ.Γ M (hA A 0) (w.1 0) (hB.1 0 (by decide)) (w.2.2.1.2.1 2 0) (w.2.2.1.2.1 2 1) vp) k473 k474 k475 k2 k476 rfl (hB.1 0 (by decide)).obj ⟨rfl, by decide, by decide, (show (parseMethodDescriptor yX1_admit.desc).map (fun d => d.parameters.length) = some 2 by decide +kernel)⟩ rfl (Nat.le_of_ble_eq_true rfl) (by rw [hRm]; decide) (by rw [hRm]; exact ⟨Nat.le_of_ble_eq_true rfl, Nat.le_of_ble_eq_true rfl⟩) (fun v2 M2 h2 => ?_) (fun _ _ h9 => by cases h9.1)
    obtain ⟨e2, hR2, hF2⟩ := h2
    cases e2
    have hB4 : BRep κ.Γ A (wH w 0 (aAdmit (w.1 0) (w.2.2.1.2.1 2 0) (w.2.2.1.2.1 2 1))) M2 := BRep.hs hB (by decide) hR2 hF2
    have hFA5 : Fr A 315 M M2 := Fr.hA (h := 0) hF2 (by decide)
    refine g_pop X dX3_carryOutCommand_161 rfl ?_
    refine g_goto (tgt := 302) X dX3_carryOutCommand_162 (by decide) ?_
    exact g_vret X F dX3_carryOutCommand_302 (Nat.le_of_ble_eq_true rfl) (Nat.le_of_ble_eq_true rfl) (by (show rI0 = rI0 ∧ BRep κ.Γ A (wH w 0 (cD (w.1 0) w.2.2.1)) _ ∧ _); rw [show cD (w.1 0) w.2.2.1 = aAdmit (w.1 0) (w.2.2.1.2.1 2 0) (w.2.2.1.2.1 2 1) from by unfold cD cDo; rw [if_pos e2]]; exact ⟨rfl, hB4, hFA5⟩)
  by_cases e6 : z1 = 101
  · refine g_tabIn (off := 128) (tgt := 165) X dX3_carryOutCommand_37 (by rw [e6]; decide) (by rw [e6]; decide) (by rw [e6]; rfl) (by decide) ?_
    subst hz1
    have hf := h0
    unfold cF cFault at hf
    rw [if_neg e2, if_pos e6] at hf
    have hf := ok0_0 hf
    refine g_aload_n X dX3_carryOutCommand_165 rfl 3 rfl ?_
    refine g_get X dX3_carryOutCommand_166 (ci := 3) (k := 0) (v := .ref (hA A 0 0)) rfl k154 (by decide) rfl (BRep.obj hB) rfl ?_
    refine g_iload_n X dX3_carryOutCommand_169 rfl 2 rfl ?_
    refine g_callV (As := [.int (w.2.2.1.2.1 2 0)]) (ci := 1) X dX3_carryOutCommand_170 (c_X1_comeIn κ.l hl κ.Γ M (hA A 0) (w.1 0) (hB.1 0 (by decide)) (w.2.2.1.2.1 2 0) ) k492 k493 k494 k2 k495 rfl (hB.1 0 (by decide)).obj ⟨rfl, by decide, by decide, (show (parseMethodDescriptor yX1_comeIn.desc).map (fun d => d.parameters.length) = some 1 by decide +kernel)⟩ rfl (Nat.le_of_ble_eq_true rfl) (by rw [hRm]; decide) (by rw [hRm]; exact ⟨Nat.le_of_ble_eq_true rfl, Nat.le_of_ble_eq_true rfl⟩) (fun v6 M6 h6 => ?_) (fun _ _ h9 => by cases h9.1)
    obtain ⟨e6, hR6, hF6⟩ := h6
    cases e6
    have hB8 : BRep κ.Γ A (wH w 0 (aComeIn (w.1 0) (w.2.2.1.2.1 2 0))) M6 := BRep.hs hB (by decide) hR6 hF6
    have hFA9 : Fr A 315 M M6 := Fr.hA (h := 0) hF6 (by decide)
    refine g_pop X dX3_carryOutCommand_173 rfl ?_
    refine g_goto (tgt := 302) X dX3_carryOutCommand_174 (by decide) ?_
    exact g_vret X F dX3_carryOutCommand_302 (Nat.le_of_ble_eq_true rfl) (Nat.le_of_ble_eq_true rfl) (by (show rI0 = rI0 ∧ BRep κ.Γ A (wH w 0 (cD (w.1 0) w.2.2.1)) _ ∧ _); rw [show cD (w.1 0) w.2.2.1 = aComeIn (w.1 0) (w.2.2.1.2.1 2 0) from by unfold cD cDo; rw [if_neg e2, if_pos e6]]; exact ⟨rfl, hB8, hFA9⟩)
  by_cases e10 : z1 = 108
  · refine g_tabIn (off := 140) (tgt := 177) X dX3_carryOutCommand_37 (by rw [e10]; decide) (by rw [e10]; decide) (by rw [e10]; rfl) (by decide) ?_
    subst hz1
    have hf := h0
    unfold cF cFault at hf
    rw [if_neg e2, if_neg e6, if_pos e10] at hf
    have hf := ok0_0 hf
    refine g_aload_n X dX3_carryOutCommand_177 rfl 3 rfl ?_
    refine g_get X dX3_carryOutCommand_178 (ci := 3) (k := 0) (v := .ref (hA A 0 0)) rfl k154 (by decide) rfl (BRep.obj hB) rfl ?_
    refine g_iload_n X dX3_carryOutCommand_181 rfl 2 rfl ?_
    refine g_callV (As := [.int (w.2.2.1.2.1 2 0)]) (ci := 1) X dX3_carryOutCommand_182 (c_X1_goOut κ.l hl κ.Γ M (hA A 0) (w.1 0) (hB.1 0 (by decide)) (w.2.2.1.2.1 2 0) ) k507 k508 k509 k2 k510 rfl (hB.1 0 (by decide)).obj ⟨rfl, by decide, by decide, (show (parseMethodDescriptor yX1_goOut.desc).map (fun d => d.parameters.length) = some 1 by decide +kernel)⟩ rfl (Nat.le_of_ble_eq_true rfl) (by rw [hRm]; decide) (by rw [hRm]; exact ⟨Nat.le_of_ble_eq_true rfl, Nat.le_of_ble_eq_true rfl⟩) (fun v10 M10 h10 => ?_) (fun _ _ h9 => by cases h9.1)
    obtain ⟨e10, hR10, hF10⟩ := h10
    cases e10
    have hB12 : BRep κ.Γ A (wH w 0 (aGoOut (w.1 0) (w.2.2.1.2.1 2 0))) M10 := BRep.hs hB (by decide) hR10 hF10
    have hFA13 : Fr A 315 M M10 := Fr.hA (h := 0) hF10 (by decide)
    refine g_pop X dX3_carryOutCommand_185 rfl ?_
    refine g_goto (tgt := 302) X dX3_carryOutCommand_186 (by decide) ?_
    exact g_vret X F dX3_carryOutCommand_302 (Nat.le_of_ble_eq_true rfl) (Nat.le_of_ble_eq_true rfl) (by (show rI0 = rI0 ∧ BRep κ.Γ A (wH w 0 (cD (w.1 0) w.2.2.1)) _ ∧ _); rw [show cD (w.1 0) w.2.2.1 = aGoOut (w.1 0) (w.2.2.1.2.1 2 0) from by unfold cD cDo; rw [if_neg e2, if_neg e6, if_pos e10]]; exact ⟨rfl, hB12, hFA13⟩)
  by_cases e14 : z1 = 113
  · refine g_tabIn (off := 152) (tgt := 189) X dX3_carryOutCommand_37 (by rw [e14]; decide) (by rw [e14]; decide) (by rw [e14]; rfl) (by decide) ?_
    subst hz1
    have hf := h0
    unfold cF cFault at hf
    rw [if_neg e2, if_neg e6, if_neg e10, if_pos e14] at hf
    have hf := ok0_0 hf
    refine g_aload_n X dX3_carryOutCommand_189 rfl 3 rfl ?_
    refine g_get X dX3_carryOutCommand_190 (ci := 3) (k := 0) (v := .ref (hA A 0 0)) rfl k154 (by decide) rfl (BRep.obj hB) rfl ?_
    refine g_iload_n X dX3_carryOutCommand_193 rfl 2 rfl ?_
    refine g_callV (As := [.int (w.2.2.1.2.1 2 0)]) (ci := 1) X dX3_carryOutCommand_194 (c_X1_newQuorum κ.l hl κ.Γ M (hA A 0) (w.1 0) (hB.1 0 (by decide)) (w.2.2.1.2.1 2 0) ) k522 k523 k524 k2 k525 rfl (hB.1 0 (by decide)).obj ⟨rfl, by decide, by decide, (show (parseMethodDescriptor yX1_newQuorum.desc).map (fun d => d.parameters.length) = some 1 by decide +kernel)⟩ rfl (Nat.le_of_ble_eq_true rfl) (by rw [hRm]; decide) (by rw [hRm]; exact ⟨Nat.le_of_ble_eq_true rfl, Nat.le_of_ble_eq_true rfl⟩) (fun v14 M14 h14 => ?_) (fun _ _ h9 => by cases h9.1)
    obtain ⟨e14, hR14, hF14⟩ := h14
    cases e14
    have hB16 : BRep κ.Γ A (wH w 0 (aQuorum (w.1 0) (w.2.2.1.2.1 2 0))) M14 := BRep.hs hB (by decide) hR14 hF14
    have hFA17 : Fr A 315 M M14 := Fr.hA (h := 0) hF14 (by decide)
    refine g_pop X dX3_carryOutCommand_197 rfl ?_
    refine g_goto (tgt := 302) X dX3_carryOutCommand_198 (by decide) ?_
    exact g_vret X F dX3_carryOutCommand_302 (Nat.le_of_ble_eq_true rfl) (Nat.le_of_ble_eq_true rfl) (by (show rI0 = rI0 ∧ BRep κ.Γ A (wH w 0 (cD (w.1 0) w.2.2.1)) _ ∧ _); rw [show cD (w.1 0) w.2.2.1 = aQuorum (w.1 0) (w.2.2.1.2.1 2 0) from by unfold cD cDo; rw [if_neg e2, if_neg e6, if_neg e10, if_pos e14]]; exact ⟨rfl, hB16, hFA17⟩)
  by_cases e18 : z1 = 98
  · refine g_tabIn (off := 164) (tgt := 201) X dX3_carryOutCommand_37 (by rw [e18]; decide) (by rw [e18]; decide) (by rw [e18]; rfl) (by decide) ?_
    subst hz1
    have hf := h0
    unfold cF cFault at hf
    rw [if_neg e2, if_neg e6, if_neg e10, if_neg e14, if_pos e18] at hf
    have hf := ok0_0 hf
    have vp := fBring_ok (hI.1 0 (by decide)) hf
    refine g_aload_n X dX3_carryOutCommand_201 rfl 3 rfl ?_
    refine g_get X dX3_carryOutCommand_202 (ci := 3) (k := 0) (v := .ref (hA A 0 0)) rfl k154 (by decide) rfl (BRep.obj hB) rfl ?_
    refine g_iload_n X dX3_carryOutCommand_205 rfl 1 rfl ?_
    refine g_iload_n X dX3_carryOutCommand_206 rfl 0 rfl ?_
    refine g_callV (As := [.int (w.2.2.1.2.1 2 1), .int (w.2.2.1.2.1 2 2)]) (ci := 1) X dX3_carryOutCommand_207 (c_X1_bringIn κ.l hl κ.Γ M (hA A 0) (w.1 0) (hB.1 0 (by decide)) (w.2.2.1.2.1 2 1) (w.2.2.1.2.1 2 2) vp) k576 k577 k578 k2 k579 rfl (hB.1 0 (by decide)).obj ⟨rfl, by decide, by decide, (show (parseMethodDescriptor yX1_bringIn.desc).map (fun d => d.parameters.length) = some 2 by decide +kernel)⟩ rfl (Nat.le_of_ble_eq_true rfl) (by rw [hRm]; decide) (by rw [hRm]; exact ⟨Nat.le_of_ble_eq_true rfl, Nat.le_of_ble_eq_true rfl⟩) (fun v18 M18 h18 => ?_) (fun _ _ h9 => by cases h9.1)
    obtain ⟨e18, hR18, hF18⟩ := h18
    cases e18
    have hB20 : BRep κ.Γ A (wH w 0 (aBring (w.1 0) (w.2.2.1.2.1 2 1) (w.2.2.1.2.1 2 2))) M18 := BRep.hs hB (by decide) hR18 hF18
    have hFA21 : Fr A 315 M M18 := Fr.hA (h := 0) hF18 (by decide)
    refine g_pop X dX3_carryOutCommand_210 rfl ?_
    refine g_goto (tgt := 302) X dX3_carryOutCommand_211 (by decide) ?_
    exact g_vret X F dX3_carryOutCommand_302 (Nat.le_of_ble_eq_true rfl) (Nat.le_of_ble_eq_true rfl) (by (show rI0 = rI0 ∧ BRep κ.Γ A (wH w 0 (cD (w.1 0) w.2.2.1)) _ ∧ _); rw [show cD (w.1 0) w.2.2.1 = aBring (w.1 0) (w.2.2.1.2.1 2 1) (w.2.2.1.2.1 2 2) from by unfold cD cDo; rw [if_neg e2, if_neg e6, if_neg e10, if_neg e14, if_pos e18]]; exact ⟨rfl, hB20, hFA21⟩)
  by_cases e22 : z1 = 121
  · refine g_tabIn (off := 177) (tgt := 214) X dX3_carryOutCommand_37 (by rw [e22]; decide) (by rw [e22]; decide) (by rw [e22]; rfl) (by decide) ?_
    subst hz1
    have hf := h0
    unfold cF cFault at hf
    rw [if_neg e2, if_neg e6, if_neg e10, if_neg e14, if_neg e18, if_pos e22] at hf
    have hf := ok0_0 hf
    have vb := (hI.1 0 (by decide)).b (fVote_ok hf).1
    refine g_aload_n X dX3_carryOutCommand_214 rfl 3 rfl ?_
    refine g_get X dX3_carryOutCommand_215 (ci := 3) (k := 0) (v := .ref (hA A 0 0)) rfl k154 (by decide) rfl (BRep.obj hB) rfl ?_
    refine g_iload_n X dX3_carryOutCommand_218 rfl 2 rfl ?_
    refine g_iload_n X dX3_carryOutCommand_219 rfl 1 rfl ?_
    refine g_callV (As := [.int (w.2.2.1.2.1 2 0), .int (w.2.2.1.2.1 2 1)]) (ci := 1) X dX3_carryOutCommand_220 (c_X1_countFor κ.l hl κ.Γ M (hA A 0) (w.1 0) (hB.1 0 (by decide)) (w.2.2.1.2.1 2 0) (w.2.2.1.2.1 2 1) vb) k676 k677 k678 k2 k679 rfl (hB.1 0 (by decide)).obj ⟨rfl, by decide, by decide, (show (parseMethodDescriptor yX1_countFor.desc).map (fun d => d.parameters.length) = some 2 by decide +kernel)⟩ rfl (Nat.le_of_ble_eq_true rfl) (by rw [hRm]; decide) (by rw [hRm]; exact ⟨Nat.le_of_ble_eq_true rfl, Nat.le_of_ble_eq_true rfl⟩) (fun v22 M22 h22 => ?_) (fun _ _ h9 => by cases h9.1)
    obtain ⟨e22, hR22, hF22⟩ := h22
    cases e22
    have hB24 : BRep κ.Γ A (wH w 0 (aFor (w.1 0) (w.2.2.1.2.1 2 0) (w.2.2.1.2.1 2 1))) M22 := BRep.hs hB (by decide) hR22 hF22
    have hFA25 : Fr A 315 M M22 := Fr.hA (h := 0) hF22 (by decide)
    refine g_pop X dX3_carryOutCommand_223 rfl ?_
    refine g_goto (tgt := 302) X dX3_carryOutCommand_224 (by decide) ?_
    exact g_vret X F dX3_carryOutCommand_302 (Nat.le_of_ble_eq_true rfl) (Nat.le_of_ble_eq_true rfl) (by (show rI0 = rI0 ∧ BRep κ.Γ A (wH w 0 (cD (w.1 0) w.2.2.1)) _ ∧ _); rw [show cD (w.1 0) w.2.2.1 = aFor (w.1 0) (w.2.2.1.2.1 2 0) (w.2.2.1.2.1 2 1) from by unfold cD cDo; rw [if_neg e2, if_neg e6, if_neg e10, if_neg e14, if_neg e18, if_pos e22]]; exact ⟨rfl, hB24, hFA25⟩)
  by_cases e26 : z1 = 110
  · refine g_tabIn (off := 190) (tgt := 227) X dX3_carryOutCommand_37 (by rw [e26]; decide) (by rw [e26]; decide) (by rw [e26]; rfl) (by decide) ?_
    subst hz1
    have hf := h0
    unfold cF cFault at hf
    rw [if_neg e2, if_neg e6, if_neg e10, if_neg e14, if_neg e18, if_neg e22, if_pos e26] at hf
    have hf := ok0_0 hf
    have vb := (hI.1 0 (by decide)).b (fVote_ok hf).1
    refine g_aload_n X dX3_carryOutCommand_227 rfl 3 rfl ?_
    refine g_get X dX3_carryOutCommand_228 (ci := 3) (k := 0) (v := .ref (hA A 0 0)) rfl k154 (by decide) rfl (BRep.obj hB) rfl ?_
    refine g_iload_n X dX3_carryOutCommand_231 rfl 2 rfl ?_
    refine g_iload_n X dX3_carryOutCommand_232 rfl 1 rfl ?_
    refine g_callV (As := [.int (w.2.2.1.2.1 2 0), .int (w.2.2.1.2.1 2 1)]) (ci := 1) X dX3_carryOutCommand_233 (c_X1_countAgainst κ.l hl κ.Γ M (hA A 0) (w.1 0) (hB.1 0 (by decide)) (w.2.2.1.2.1 2 0) (w.2.2.1.2.1 2 1) vb) k688 k689 k690 k2 k691 rfl (hB.1 0 (by decide)).obj ⟨rfl, by decide, by decide, (show (parseMethodDescriptor yX1_countAgainst.desc).map (fun d => d.parameters.length) = some 2 by decide +kernel)⟩ rfl (Nat.le_of_ble_eq_true rfl) (by rw [hRm]; decide) (by rw [hRm]; exact ⟨Nat.le_of_ble_eq_true rfl, Nat.le_of_ble_eq_true rfl⟩) (fun v26 M26 h26 => ?_) (fun _ _ h9 => by cases h9.1)
    obtain ⟨e26, hR26, hF26⟩ := h26
    cases e26
    have hB28 : BRep κ.Γ A (wH w 0 (aAgainst (w.1 0) (w.2.2.1.2.1 2 0) (w.2.2.1.2.1 2 1))) M26 := BRep.hs hB (by decide) hR26 hF26
    have hFA29 : Fr A 315 M M26 := Fr.hA (h := 0) hF26 (by decide)
    refine g_pop X dX3_carryOutCommand_236 rfl ?_
    refine g_goto (tgt := 302) X dX3_carryOutCommand_237 (by decide) ?_
    exact g_vret X F dX3_carryOutCommand_302 (Nat.le_of_ble_eq_true rfl) (Nat.le_of_ble_eq_true rfl) (by (show rI0 = rI0 ∧ BRep κ.Γ A (wH w 0 (cD (w.1 0) w.2.2.1)) _ ∧ _); rw [show cD (w.1 0) w.2.2.1 = aAgainst (w.1 0) (w.2.2.1.2.1 2 0) (w.2.2.1.2.1 2 1) from by unfold cD cDo; rw [if_neg e2, if_neg e6, if_neg e10, if_neg e14, if_neg e18, if_neg e22, if_pos e26]]; exact ⟨rfl, hB28, hFA29⟩)
  by_cases e30 : z1 = 99
  · refine g_tabIn (off := 203) (tgt := 240) X dX3_carryOutCommand_37 (by rw [e30]; decide) (by rw [e30]; decide) (by rw [e30]; rfl) (by decide) ?_
    subst hz1
    have hf := h0
    unfold cF cFault at hf
    rw [if_neg e2, if_neg e6, if_neg e10, if_neg e14, if_neg e18, if_neg e22, if_neg e26, if_pos e30] at hf
    have hf := ok0_0 hf
    have vb := (hI.1 0 (by decide)).b (fEnd_ok hf)
    refine g_aload_n X dX3_carryOutCommand_240 rfl 3 rfl ?_
    refine g_get X dX3_carryOutCommand_241 (ci := 3) (k := 0) (v := .ref (hA A 0 0)) rfl k154 (by decide) rfl (BRep.obj hB) rfl ?_
    refine g_iload_n X dX3_carryOutCommand_244 rfl 2 rfl ?_
    refine g_callV (As := [.int (w.2.2.1.2.1 2 0)]) (ci := 1) X dX3_carryOutCommand_245 (c_X1_endReading κ.l hl κ.Γ M (hA A 0) (w.1 0) (hB.1 0 (by decide)) (w.2.2.1.2.1 2 0) vb) k725 k726 k727 k2 k728 rfl (hB.1 0 (by decide)).obj ⟨rfl, by decide, by decide, (show (parseMethodDescriptor yX1_endReading.desc).map (fun d => d.parameters.length) = some 1 by decide +kernel)⟩ rfl (Nat.le_of_ble_eq_true rfl) (by rw [hRm]; decide) (by rw [hRm]; exact ⟨Nat.le_of_ble_eq_true rfl, Nat.le_of_ble_eq_true rfl⟩) (fun v30 M30 h30 => ?_) (fun _ _ h9 => by cases h9.1)
    obtain ⟨e30, hR30, hF30⟩ := h30
    cases e30
    have hB32 : BRep κ.Γ A (wH w 0 (aEnd (w.1 0) (w.2.2.1.2.1 2 0))) M30 := BRep.hs hB (by decide) hR30 hF30
    have hFA33 : Fr A 315 M M30 := Fr.hA (h := 0) hF30 (by decide)
    refine g_pop X dX3_carryOutCommand_248 rfl ?_
    refine g_goto (tgt := 302) X dX3_carryOutCommand_249 (by decide) ?_
    exact g_vret X F dX3_carryOutCommand_302 (Nat.le_of_ble_eq_true rfl) (Nat.le_of_ble_eq_true rfl) (by (show rI0 = rI0 ∧ BRep κ.Γ A (wH w 0 (cD (w.1 0) w.2.2.1)) _ ∧ _); rw [show cD (w.1 0) w.2.2.1 = aEnd (w.1 0) (w.2.2.1.2.1 2 0) from by unfold cD cDo; rw [if_neg e2, if_neg e6, if_neg e10, if_neg e14, if_neg e18, if_neg e22, if_neg e26, if_pos e30]]; exact ⟨rfl, hB32, hFA33⟩)
  by_cases e34 : z1 = 97
  · refine g_tabIn (off := 215) (tgt := 252) X dX3_carryOutCommand_37 (by rw [e34]; decide) (by rw [e34]; decide) (by rw [e34]; rfl) (by decide) ?_
    subst hz1
    have hf := h0
    unfold cF cFault at hf
    rw [if_neg e2, if_neg e6, if_neg e10, if_neg e14, if_neg e18, if_neg e22, if_neg e26, if_neg e30, if_pos e34] at hf
    have hf := ok0_0 hf
    have vb := (hI.1 0 (by decide)).b (fMove_ok (hI.1 0 (by decide)) hf).1
    have vp := (fMove_ok (hI.1 0 (by decide)) hf).2
    refine g_aload_n X dX3_carryOutCommand_252 rfl 3 rfl ?_
    refine g_get X dX3_carryOutCommand_253 (ci := 3) (k := 0) (v := .ref (hA A 0 0)) rfl k154 (by decide) rfl (BRep.obj hB) rfl ?_
    refine g_iload_n X dX3_carryOutCommand_256 rfl 2 rfl ?_
    refine g_iload_n X dX3_carryOutCommand_257 rfl 1 rfl ?_
    refine g_iload_n X dX3_carryOutCommand_258 rfl 0 rfl ?_
    refine g_callV (As := [.int (w.2.2.1.2.1 2 0), .int (w.2.2.1.2.1 2 1), .int (w.2.2.1.2.1 2 2)]) (ci := 1) X dX3_carryOutCommand_259 (c_X1_move κ.l hl κ.Γ M (hA A 0) (w.1 0) (hB.1 0 (by decide)) (w.2.2.1.2.1 2 0) (w.2.2.1.2.1 2 1) (w.2.2.1.2.1 2 2) vb vp) k744 k745 k746 k2 k747 rfl (hB.1 0 (by decide)).obj ⟨rfl, by decide, by decide, (show (parseMethodDescriptor yX1_move.desc).map (fun d => d.parameters.length) = some 3 by decide +kernel)⟩ rfl (Nat.le_of_ble_eq_true rfl) (by rw [hRm]; decide) (by rw [hRm]; exact ⟨Nat.le_of_ble_eq_true rfl, Nat.le_of_ble_eq_true rfl⟩) (fun v34 M34 h34 => ?_) (fun _ _ h9 => by cases h9.1)
    obtain ⟨e34, hR34, hF34⟩ := h34
    cases e34
    have hB36 : BRep κ.Γ A (wH w 0 (aMove (w.1 0) (w.2.2.1.2.1 2 0) (w.2.2.1.2.1 2 1) (w.2.2.1.2.1 2 2))) M34 := BRep.hs hB (by decide) hR34 hF34
    have hFA37 : Fr A 315 M M34 := Fr.hA (h := 0) hF34 (by decide)
    refine g_pop X dX3_carryOutCommand_262 rfl ?_
    refine g_goto (tgt := 302) X dX3_carryOutCommand_263 (by decide) ?_
    exact g_vret X F dX3_carryOutCommand_302 (Nat.le_of_ble_eq_true rfl) (Nat.le_of_ble_eq_true rfl) (by (show rI0 = rI0 ∧ BRep κ.Γ A (wH w 0 (cD (w.1 0) w.2.2.1)) _ ∧ _); rw [show cD (w.1 0) w.2.2.1 = aMove (w.1 0) (w.2.2.1.2.1 2 0) (w.2.2.1.2.1 2 1) (w.2.2.1.2.1 2 2) from by unfold cD cDo; rw [if_neg e2, if_neg e6, if_neg e10, if_neg e14, if_neg e18, if_neg e22, if_neg e26, if_neg e30, if_pos e34]]; exact ⟨rfl, hB36, hFA37⟩)
  by_cases e38 : z1 = 115
  · refine g_tabIn (off := 229) (tgt := 266) X dX3_carryOutCommand_37 (by rw [e38]; decide) (by rw [e38]; decide) (by rw [e38]; rfl) (by decide) ?_
    subst hz1
    have hf := h0
    unfold cF cFault at hf
    rw [if_neg e2, if_neg e6, if_neg e10, if_neg e14, if_neg e18, if_neg e22, if_neg e26, if_neg e30, if_neg e34, if_pos e38] at hf
    have hf := ok0_0 hf
    have vb := (hI.1 0 (by decide)).b (fSecond_ok (hI.1 0 (by decide)) hf).1
    have vp := (fSecond_ok (hI.1 0 (by decide)) hf).2
    refine g_aload_n X dX3_carryOutCommand_266 rfl 3 rfl ?_
    refine g_get X dX3_carryOutCommand_267 (ci := 3) (k := 0) (v := .ref (hA A 0 0)) rfl k154 (by decide) rfl (BRep.obj hB) rfl ?_
    refine g_iload_n X dX3_carryOutCommand_270 rfl 2 rfl ?_
    refine g_iload_n X dX3_carryOutCommand_271 rfl 1 rfl ?_
    refine g_iload_n X dX3_carryOutCommand_272 rfl 0 rfl ?_
    refine g_callV (As := [.int (w.2.2.1.2.1 2 0), .int (w.2.2.1.2.1 2 1), .int (w.2.2.1.2.1 2 2)]) (ci := 1) X dX3_carryOutCommand_273 (c_X1_second κ.l hl κ.Γ M (hA A 0) (w.1 0) (hB.1 0 (by decide)) (w.2.2.1.2.1 2 0) (w.2.2.1.2.1 2 1) (w.2.2.1.2.1 2 2) vb vp) k763 k764 k765 k2 k766 rfl (hB.1 0 (by decide)).obj ⟨rfl, by decide, by decide, (show (parseMethodDescriptor yX1_second.desc).map (fun d => d.parameters.length) = some 3 by decide +kernel)⟩ rfl (Nat.le_of_ble_eq_true rfl) (by rw [hRm]; decide) (by rw [hRm]; exact ⟨Nat.le_of_ble_eq_true rfl, Nat.le_of_ble_eq_true rfl⟩) (fun v38 M38 h38 => ?_) (fun _ _ h9 => by cases h9.1)
    obtain ⟨e38, hR38, hF38⟩ := h38
    cases e38
    have hB40 : BRep κ.Γ A (wH w 0 (aSecond (w.1 0) (w.2.2.1.2.1 2 0) (w.2.2.1.2.1 2 1) (w.2.2.1.2.1 2 2))) M38 := BRep.hs hB (by decide) hR38 hF38
    have hFA41 : Fr A 315 M M38 := Fr.hA (h := 0) hF38 (by decide)
    refine g_pop X dX3_carryOutCommand_276 rfl ?_
    refine g_goto (tgt := 302) X dX3_carryOutCommand_277 (by decide) ?_
    exact g_vret X F dX3_carryOutCommand_302 (Nat.le_of_ble_eq_true rfl) (Nat.le_of_ble_eq_true rfl) (by (show rI0 = rI0 ∧ BRep κ.Γ A (wH w 0 (cD (w.1 0) w.2.2.1)) _ ∧ _); rw [show cD (w.1 0) w.2.2.1 = aSecond (w.1 0) (w.2.2.1.2.1 2 0) (w.2.2.1.2.1 2 1) (w.2.2.1.2.1 2 2) from by unfold cD cDo; rw [if_neg e2, if_neg e6, if_neg e10, if_neg e14, if_neg e18, if_neg e22, if_neg e26, if_neg e30, if_neg e34, if_pos e38]]; exact ⟨rfl, hB40, hFA41⟩)
  by_cases e42 : z1 = 100
  · refine g_tabIn (off := 243) (tgt := 280) X dX3_carryOutCommand_37 (by rw [e42]; decide) (by rw [e42]; decide) (by rw [e42]; rfl) (by decide) ?_
    subst hz1
    have hf := h0
    unfold cF cFault at hf
    rw [if_neg e2, if_neg e6, if_neg e10, if_neg e14, if_neg e18, if_neg e22, if_neg e26, if_neg e30, if_neg e34, if_neg e38, if_pos e42] at hf
    have hf := ok0_0 hf
    have vb := (hI.1 0 (by decide)).b (fDecide_ok hf)
    refine g_aload_n X dX3_carryOutCommand_280 rfl 3 rfl ?_
    refine g_get X dX3_carryOutCommand_281 (ci := 3) (k := 0) (v := .ref (hA A 0 0)) rfl k154 (by decide) rfl (BRep.obj hB) rfl ?_
    refine g_iload_n X dX3_carryOutCommand_284 rfl 2 rfl ?_
    refine g_callV (As := [.int (w.2.2.1.2.1 2 0)]) (ci := 1) X dX3_carryOutCommand_285 (c_X1_decideFirst κ.l hl κ.Γ M (hA A 0) (w.1 0) (hB.1 0 (by decide)) (w.2.2.1.2.1 2 0) vb) k778 k779 k780 k2 k781 rfl (hB.1 0 (by decide)).obj ⟨rfl, by decide, by decide, (show (parseMethodDescriptor yX1_decideFirst.desc).map (fun d => d.parameters.length) = some 1 by decide +kernel)⟩ rfl (Nat.le_of_ble_eq_true rfl) (by rw [hRm]; decide) (by rw [hRm]; exact ⟨Nat.le_of_ble_eq_true rfl, Nat.le_of_ble_eq_true rfl⟩) (fun v42 M42 h42 => ?_) (fun _ _ h9 => by cases h9.1)
    obtain ⟨e42, hR42, hF42⟩ := h42
    cases e42
    have hB44 : BRep κ.Γ A (wH w 0 (aDecide (w.1 0) (w.2.2.1.2.1 2 0))) M42 := BRep.hs hB (by decide) hR42 hF42
    have hFA45 : Fr A 315 M M42 := Fr.hA (h := 0) hF42 (by decide)
    refine g_pop X dX3_carryOutCommand_288 rfl ?_
    refine g_goto (tgt := 302) X dX3_carryOutCommand_289 (by decide) ?_
    exact g_vret X F dX3_carryOutCommand_302 (Nat.le_of_ble_eq_true rfl) (Nat.le_of_ble_eq_true rfl) (by (show rI0 = rI0 ∧ BRep κ.Γ A (wH w 0 (cD (w.1 0) w.2.2.1)) _ ∧ _); rw [show cD (w.1 0) w.2.2.1 = aDecide (w.1 0) (w.2.2.1.2.1 2 0) from by unfold cD cDo; rw [if_neg e2, if_neg e6, if_neg e10, if_neg e14, if_neg e18, if_neg e22, if_neg e26, if_neg e30, if_neg e34, if_neg e38, if_pos e42]]; exact ⟨rfl, hB44, hFA45⟩)
  refine g_tabDef (keys := [109, 101, 108, 113, 98, 121, 110, 99, 97, 115, 100]) (tgt := 292) X dX3_carryOutCommand_37 (by decide +kernel) (by decide) (nk e2 (nk e6 (nk e10 (nk e14 (nk e18 (nk e22 (nk e26 (nk e30 (nk e34 (nk e38 (nk e42 nk0))))))))))) (by decide) ?_
  subst hz1
  have hf := h0
  unfold cF cFault at hf
  rw [if_neg e2, if_neg e6, if_neg e10, if_neg e14, if_neg e18, if_neg e22, if_neg e26, if_neg e30, if_neg e34, if_neg e38, if_neg e42] at hf
  have hf := ok0_0 hf
  have vb := (hI.1 0 (by decide)).b (fHold_ok hf)
  refine g_aload_n X dX3_carryOutCommand_292 rfl 3 rfl ?_
  refine g_get X dX3_carryOutCommand_293 (ci := 3) (k := 0) (v := .ref (hA A 0 0)) rfl k154 (by decide) rfl (BRep.obj hB) rfl ?_
  refine g_iload_n X dX3_carryOutCommand_296 rfl 1 rfl ?_
  refine g_iload_n X dX3_carryOutCommand_297 rfl 0 rfl ?_
  refine g_callV (As := [.int (w.2.2.1.2.1 2 1), .int (w.2.2.1.2.1 2 2)]) (ci := 1) X dX3_carryOutCommand_298 (c_X1_holdUp κ.l hl κ.Γ M (hA A 0) (w.1 0) (hB.1 0 (by decide)) (w.2.2.1.2.1 2 1) (w.2.2.1.2.1 2 2) vb) k819 k820 k821 k2 k822 rfl (hB.1 0 (by decide)).obj ⟨rfl, by decide, by decide, (show (parseMethodDescriptor yX1_holdUp.desc).map (fun d => d.parameters.length) = some 2 by decide +kernel)⟩ rfl (Nat.le_of_ble_eq_true rfl) (by rw [hRm]; decide) (by rw [hRm]; exact ⟨Nat.le_of_ble_eq_true rfl, Nat.le_of_ble_eq_true rfl⟩) (fun v45 M45 h45 => ?_) (fun _ _ h9 => by cases h9.1)
  obtain ⟨e45, hR45, hF45⟩ := h45
  cases e45
  have hB47 : BRep κ.Γ A (wH w 0 (aHold (w.1 0) (w.2.2.1.2.1 2 1) (w.2.2.1.2.1 2 2))) M45 := BRep.hs hB (by decide) hR45 hF45
  have hFA48 : Fr A 315 M M45 := Fr.hA (h := 0) hF45 (by decide)
  refine g_pop X dX3_carryOutCommand_301 rfl ?_
  exact g_vret X F dX3_carryOutCommand_302 (Nat.le_of_ble_eq_true rfl) (Nat.le_of_ble_eq_true rfl) (by (show rI0 = rI0 ∧ BRep κ.Γ A (wH w 0 (cD (w.1 0) w.2.2.1)) _ ∧ _); rw [show cD (w.1 0) w.2.2.1 = aHold (w.1 0) (w.2.2.1.2.1 2 1) (w.2.2.1.2.1 2 2) from by unfold cD cDo; rw [if_neg e2, if_neg e6, if_neg e10, if_neg e14, if_neg e18, if_neg e22, if_neg e26, if_neg e30, if_neg e34, if_neg e38, if_neg e42]]; exact ⟨rfl, hB47, hFA48⟩)
