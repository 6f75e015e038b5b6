
set_option maxRecDepth 100000 in
set_option maxHeartbeats 4000000 in
theorem c_X3_carryOutCommands (l : Launch) (hl : l.stackTraces = false) (Γ : Gm) (M : Hp) (A : Nat → Nat) (w : PV) (hB : BRep Γ A w M) (hI : BInv w) (x : Int32) : Ct l Γ yX3_carryOutCommands cX3_carryOutCommands 3 (some .int) 5 0 0 [.ref (A 313), .int x] M (BMu Γ A (rI (coS (cN x) 0 (w.1 0) (hsc w.2.2.1 1 0)).1, wHT w (coS (cN x) 0 (w.1 0) (hsc w.2.2.1 1 0)).2.1 (coS (cN x) 0 (w.1 0) (hsc w.2.2.1 1 0)).2.2) M) := by
  refine Ct.of hl (by decide) (Nat.le_of_ble_eq_true rfl) rfl ?_
  intro κ e1 e2 hnL hRm X F hlt
  subst e1 e2
  refine g_aload_n X dX3_carryOutCommands_0 rfl 0 rfl ?_
  refine g_get X dX3_carryOutCommands_1 (ci := 3) (k := 7) (v := .ref (tA A 0)) rfl k161 (by decide) rfl (BRep.obj hB) rfl ?_
  refine g_callV (As := []) (ci := 0) X dX3_carryOutCommands_4 (c_X0_rewind κ.l hl κ.Γ M (tA A) w.2.2.1 hB.2.2.1 hI.2.2.1) k974 k872 k873 k3 k874 rfl (TRep.obj hB.2.2.1) ⟨rfl, by decide, by decide, (show (parseMethodDescriptor yX0_rewind.desc).map (fun d => d.parameters.length) = some 0 by decide +kernel)⟩ rfl (Nat.le_of_ble_eq_true rfl) (by rw [hRm]; decide) (by rw [hRm]; exact ⟨Nat.le_of_ble_eq_true rfl, Nat.le_of_ble_eq_true rfl⟩) (fun v0 M0 h0 => ?_) (fun _ _ h9 => by cases h9.1)
  obtain ⟨e0, hR0, hF0⟩ := h0
  cases e0
  have hB2 : BRep κ.Γ A (wHT w (w.1 0) (hsc w.2.2.1 1 0)) M0 := BRep.ht0 hB hR0 hF0
  have hFA3 : Fr A 315 M M0 := Fr.tA hF0
  refine g_iconst (v := 0) X dX3_carryOutCommands_7 (by decide) ?_
  refine g_istore_n (L' := [(2, .int 0), (0, .ref (A 313)), (1, .int x)]) X dX3_carryOutCommands_8 rfl (by rw [hnL]; decide) rfl ?_
  have lp : ∀ (n j : Nat) (M9 : Hp) (u T : HV), cN x - j < n → j ≤ cN x → BRep κ.Γ A (wHT w u T) M9 → HInv u → TInv T → Fr A 315 M M9 → coS (cN x - j) j u T = coS (cN x) 0 (w.1 0) (hsc w.2.2.1 1 0) → G κ M9 0 0 [(2, .int (nI j)), (1, .int x), (0, .ref (A 313))] 9 [] := by
    intro n
    induction n with
    | zero => intro j _ _ _ h1; exact absurd h1 (Nat.not_lt_zero _)
    | succ n ih =>
      intro j M9 u T hi1 hi2 hB9 hU hT hF9 hX
      have hi3 := cN_31 x
      refine g_iload_n X dX3_carryOutCommands_9 rfl 0 rfl ?_
      refine g_iload_n X dX3_carryOutCommands_10 rfl 1 rfl ?_
      refine g_icmp_ge (tgt := 51) X dX3_carryOutCommands_11 (by decide) (fun c4 => ?_) (fun c4 => ?_)
      · have heq9 : j = cN x := Nat.le_antisymm hi2 (cN_of_ge (by omega) c4)
        refine g_iconst (v := (-1)) X dX3_carryOutCommands_51 (by decide) ?_
        exact g_iret X F dX3_carryOutCommands_52 (Nat.le_of_ble_eq_true rfl) (Nat.le_of_ble_eq_true rfl) (co_leaf (coS (cN x) 0 (w.1 0) (hsc w.2.2.1 1 0)) (by rw [← hX, show cN x - j = 0 from by omega]; rfl) hB9 hF9)
      · have hlt9 : j < cN x := cN_of_nge (by omega) c4
        obtain ⟨k, hk⟩ : ∃ k, cN x - j = k + 1 := ⟨cN x - j - 1, by omega⟩
        refine g_aload_n X dX3_carryOutCommands_14 rfl 2 rfl ?_
        refine g_get X dX3_carryOutCommands_15 (ci := 3) (k := 7) (v := .ref (tA A 0)) rfl k161 (by decide) rfl (BRep.obj hB9) rfl ?_
        refine g_callV (As := []) (ci := 0) X dX3_carryOutCommands_18 (c_X0_readCommand κ.l hl κ.Γ M9 (tA A) T hB9.2.2.1 hT) k975 k876 k877 k3 k878 rfl (TRep.obj hB9.2.2.1) ⟨rfl, by decide, by decide, (show (parseMethodDescriptor yX0_readCommand.desc).map (fun d => d.parameters.length) = some 0 by decide +kernel)⟩ rfl (Nat.le_of_ble_eq_true rfl) (by rw [hRm]; decide) (by rw [hRm]; exact ⟨Nat.le_of_ble_eq_true rfl, Nat.le_of_ble_eq_true rfl⟩) (fun v4 M4 h4 => ?_) (fun _ _ h9 => by cases h9.1)
        obtain ⟨e4, hR4, hF4⟩ := h4
        cases e4
        have hI6 : TInv (tCmd T) := hT.cmd
        have hB7 : BRep κ.Γ A (wHT w (u) (tCmd T)) M4 := BRep.htT hB9 hR4 hF4
        have hFA8 : Fr A 315 M M4 := Fr.tr hF9 (Fr.tA hF4)
        refine g_pop X dX3_carryOutCommands_21 rfl ?_
        refine g_aload_n X dX3_carryOutCommands_22 rfl 2 rfl ?_
        refine g_get X dX3_carryOutCommands_23 (ci := 3) (k := 7) (v := .ref (tA A 0)) rfl k161 (by decide) rfl (BRep.obj hB7) rfl ?_
        refine g_bipush (v := 59) X dX3_carryOutCommands_26 (by decide) ?_
        refine g_callV (As := [.int 59]) (ci := 0) X dX3_carryOutCommands_28 (c_X0_readSign κ.l hl κ.Γ M4 (tA A) (tCmd T) hB7.2.2.1 hI6 59) k976 k952 k953 k3 k954 rfl (TRep.obj hB7.2.2.1) ⟨rfl, by decide, by decide, (show (parseMethodDescriptor yX0_readSign.desc).map (fun d => d.parameters.length) = some 1 by decide +kernel)⟩ rfl (Nat.le_of_ble_eq_true rfl) (by rw [hRm]; decide) (by rw [hRm]; exact ⟨Nat.le_of_ble_eq_true rfl, Nat.le_of_ble_eq_true rfl⟩) (fun v8 M8 h8 => ?_) (fun _ _ h9 => by cases h9.1)
        obtain ⟨e8, hR8, hF8⟩ := h8
        cases e8
        have hB10 : BRep κ.Γ A (wHT w (u) (tSign (tCmd T) 59)) M8 := BRep.htT hB7 hR8 hF8
        have hFA11 : Fr A 315 M M8 := Fr.tr hFA8 (Fr.tA hF8)
        refine g_pop X dX3_carryOutCommands_31 rfl ?_
        have hT59 : TInv (tSign (tCmd T) 59) := hT.cmd.sgn (by decide)
        have hI9 := hI.ht hU hT59
        refine g_aload_n X dX3_carryOutCommands_32 rfl 2 rfl ?_
        refine g_callV_rd (As := []) (ci := 3) (v := some (.int (cF ((wHT w (u) (tSign (tCmd T) 59)).1 0) (wHT w (u) (tSign (tCmd T) 59)).2.2.1))) X dX3_carryOutCommands_33 (c_X3_faultOfCommand κ.l hl κ.Γ M8 A (wHT w (u) (tSign (tCmd T) 59)) hB10 hI9) k977 k979 kp13 k1 k980 rfl (BRep.obj hB10) ⟨rfl, by decide, by decide, (show (parseMethodDescriptor yX3_faultOfCommand.desc).map (fun d => d.parameters.length) = some 0 by decide +kernel)⟩ rfl (Nat.le_of_ble_eq_true rfl) (by rw [hRm]; decide) (by rw [hRm]; exact ⟨Nat.le_of_ble_eq_true rfl, Nat.le_of_ble_eq_true rfl⟩) ?_
        refine g_lit (cF (u) (tSign (tCmd T) 59)) (cF_ht (w := w) (u := u) (T := tSign (tCmd T) 59)) ?_
        refine g_if_eq (tgt := 41) X dX3_carryOutCommands_36 (by decide) (fun c12 => ?_) (fun c12 => ?_)
        · refine g_aload_n X dX3_carryOutCommands_41 rfl 2 rfl ?_
          refine g_callV (As := []) (ci := 3) X dX3_carryOutCommands_42 (c_X3_carryOutCommand κ.l hl κ.Γ M8 A (wHT w (u) (tSign (tCmd T) 59)) hB10 hI9 (cF_h0 c12)) k981 k983 kp14 k1 k984 rfl (BRep.obj hB10) ⟨rfl, by decide, by decide, (show (parseMethodDescriptor yX3_carryOutCommand.desc).map (fun d => d.parameters.length) = some 0 by decide +kernel)⟩ rfl (Nat.le_of_ble_eq_true rfl) (by rw [hRm]; decide) (by rw [hRm]; exact ⟨Nat.le_of_ble_eq_true rfl, Nat.le_of_ble_eq_true rfl⟩) (fun v12 M12 h12 => ?_) (fun _ _ h9 => by cases h9.1)
          obtain ⟨e12, hB12, hFA12⟩ := h12
          have e12 : (Sum.inl v12 : Res) = Sum.inl none := e12
          cases e12
          have hBB12 : BRep κ.Γ A (wHT w (cD (u) (tSign (tCmd T) 59)) (tSign (tCmd T) 59)) M12 := BRep.htD (u := u) (T := tSign (tCmd T) 59) hB12
          have hFA12 := Fr.tr hFA11 hFA12
          refine g_iinc (k := 0) (v := (nI (j + 1))) (L' := [(2, .int (nI (j + 1))), (1, .int x), (0, .ref (A 313))]) X dX3_carryOutCommands_45 rfl (nI_1 _) (by rw [hnL]; decide) rfl ?_
          refine g_goto (tgt := 9) X dX3_carryOutCommands_48 (by decide) ?_
          refine g_locs [0, 1, 2] (L' := [(2, .int (nI (j + 1))), (1, .int x), (0, .ref (A 313))]) rfl ?_
          exact ih (j + 1) M12 (cD u (tSign (tCmd T) 59)) (tSign (tCmd T) 59) (by omega) (by omega) hBB12 (hU.doC c12) hT59 hFA12 (by rw [← hX, hk, coS_y c12, show cN x - (j + 1) = k from by omega])
        · refine g_iload_n X dX3_carryOutCommands_39 rfl 0 rfl ?_
          exact g_iret X F dX3_carryOutCommands_40 (Nat.le_of_ble_eq_true rfl) (Nat.le_of_ble_eq_true rfl) (co_leaf (coS (cN x) 0 (w.1 0) (hsc w.2.2.1 1 0)) (by rw [← hX, hk, coS_n c12]) hB10 (hFA11))
  refine g_locs [0, 2, 1] (L' := [(2, .int (nI 0)), (1, .int x), (0, .ref (A 313))]) rfl ?_
  exact lp (cN x + 1) 0 M0 (w.1 0) (hsc w.2.2.1 1 0) (by omega) (by omega) hB2 (hI.1 0 (by decide)) hI.2.2.1.rew hFA3 rfl
