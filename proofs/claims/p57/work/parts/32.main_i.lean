theorem n32_of {r : UInt32} (h : decide (r &&& 0x7fffffff ≤ 0x7f800000) = true) : vf_n32 r := by
  have h2 := of_decide_eq_true h
  exact h2
def ShOK (u : HV) (b : Int32) : Prop := ∃ x y : Nat, x ≤ y ∧ y ≤ 168 ∧ hW u (u.2.1 6 (cN b)) = nI x ∧ hW u (u.2.1 6 (cN b)) + hW u (u.2.1 7 (cN b)) = nI y
def MwOK (u : HV) : Prop := vf_n64 (FP.ddiv (FP.i2d (hW u (shl 1 (u.1 0) - 1))) (FP.i2d (u.1 0)))
def shB (u : HV) (b : Int32) : Int32 := hW u (u.2.1 6 (cN b)) + hW u (u.2.1 7 (cN b))
def shX (u : HV) (b : Int32) : UInt32 := FP.fdiv (FP.i2f (hW u (u.2.1 6 (cN b)))) (FP.i2f (shB u b))
def ShF (u : HV) (b : Int32) : Prop := vf_n32 (shX u b) ∧ (Op.cmpValue (FP.fcmp (shX u b) 0) .g ≤ 0 ∨ bsT 9 (shX u b) 127 = true)
noncomputable def pShareBits (w : PV) (b : Int32) : Res × PV := pG (hasB (w.1 0) b) eIdx w (pG (¬ shB (w.1 0) b = 0) eAri w (rI (bsV (shX (w.1 0) b)), w))
noncomputable def pMeanWeight (w : PV) : Res × PV := pG (¬ (w.1 0).1 0 = 0) eAri w ((.inl (some (.double (FP.ddiv (FP.i2d (hW (w.1 0) (shl 1 ((w.1 0).1 0) - 1))) (FP.i2d ((w.1 0).1 0))))) : Res), w)
set_option maxRecDepth 100000 in
set_option maxHeartbeats 4000000 in
theorem c_X3_bitsOfShare (l : Launch) (hl : l.stackTraces = false) (Γ : Gm) (M : Hp) (x : UInt32) (hT : Op.cmpValue (FP.fcmp x 0) .g ≤ 0 ∨ bsT 9 x 127 = true) : Ct l Γ yX3_bitsOfShare cX3_bitsOfShare 4 (some .int) 0 0 0 [.float x] M (Rd (some (.int (bsV x))) M) := by
  refine Ct.of hl (by decide) (Nat.le_of_ble_eq_true rfl) rfl ?_
  intro κ e1 e2 hnL hRm X F hlt
  subst e1 e2
  refine g_fload_n X dX3_bitsOfShare_0 rfl 0 rfl ?_
  refine g_fconst0 X dX3_bitsOfShare_1 ?_
  refine g_fcmp X dX3_bitsOfShare_2 ?_
  refine g_if_gt (tgt := 8) X dX3_bitsOfShare_3 (by decide) (fun c1 => ?_) (fun c1 => ?_)
  · refine g_fload_n X dX3_bitsOfShare_8 rfl 0 rfl ?_
    refine g_fstore_n (L' := [(1, .float x), (0, .float x)]) X dX3_bitsOfShare_9 rfl (by rw [hnL]; decide) rfl ?_
    refine g_bipush (v := 127) X dX3_bitsOfShare_10 (by decide) ?_
    refine g_istore_n (L' := [(2, .int 127), (1, .float x), (0, .float x)]) X dX3_bitsOfShare_12 rfl (by rw [hnL]; decide) rfl ?_
    have hT9 : bsT 9 x 127 = true := hT.resolve_left (Int32.not_le.mpr c1)
    have lp : ∀ (k : Nat) (s : UInt32) (e : Int32), bsT k s e = true → bsL k s e = bsL 9 x 127 → G κ M 0 0 [(2, .int e), (1, .float s), (0, .float x)] 13 [] := by
      intro k
      induction k with
      | zero => intro s e h1 _; exact absurd h1 Bool.false_ne_true
      | succ k ih =>
        intro s e hT8 hX
        unfold bsT at hT8
        refine g_fload_n X dX3_bitsOfShare_13 rfl 1 rfl ?_
        refine g_fconst1 X dX3_bitsOfShare_14 ?_
        refine g_fcmp X dX3_bitsOfShare_15 ?_
        refine g_if_ge (tgt := 34) X dX3_bitsOfShare_16 (by decide) (fun c2 => ?_) (fun c2 => ?_)
        · rw [if_pos c2] at hT8
          have hn3 : vf_n32 (FP.fmul s 1258291200) := n32_of hT8
          have hX : (s, e) = bsL 9 x 127 := (if_pos c2).symm.trans hX
          refine g_fload_n X dX3_bitsOfShare_34 rfl 1 rfl ?_
          refine g_ldcwf (v := 1258291200) X dX3_bitsOfShare_35 k1066 ?_
          refine g_fmul X dX3_bitsOfShare_38 hn3 ?_
          refine g_f2i X dX3_bitsOfShare_39 ?_
          refine g_ldcw (v := 8388608) X dX3_bitsOfShare_40 k1067 ?_
          refine g_isub X dX3_bitsOfShare_43 ?_
          refine g_istore_n (L' := [(3, .int ((FP.f2i (FP.fmul s 1258291200)) - 8388608)), (2, .int e), (1, .float s), (0, .float x)]) X dX3_bitsOfShare_44 rfl (by rw [hnL]; decide) rfl ?_
          refine g_iload_n X dX3_bitsOfShare_45 rfl 1 rfl ?_
          refine g_bipush (v := 23) X dX3_bitsOfShare_46 (by decide) ?_
          refine g_ishl X dX3_bitsOfShare_48 ?_
          refine g_iload_n X dX3_bitsOfShare_49 rfl 0 rfl ?_
          refine g_ior X dX3_bitsOfShare_50 ?_
          exact g_iret X F dX3_bitsOfShare_51 (by omega) (by omega) ⟨by rw [show bsV x = shl (bsL 9 x 127).2 23 ||| (FP.f2i (FP.fmul (bsL 9 x 127).1 1258291200) - 8388608) from if_neg (Int32.not_le.mpr c1), ← hX], rfl⟩
        · refine g_iload_n X dX3_bitsOfShare_19 rfl 0 rfl ?_
          refine g_iconst (v := 1) X dX3_bitsOfShare_20 (by decide) ?_
          refine g_icmp_le (tgt := 34) X dX3_bitsOfShare_21 (by decide) (fun c3 => ?_) (fun c3 => ?_)
          · rw [if_neg c2, if_pos c3] at hT8
            cases hT8
          · rw [if_neg c2, if_neg c3, Bool.and_eq_true] at hT8
            have hn2 : vf_n32 (FP.fmul s FP.fconst2) := n32_of hT8.1
            have ht2 := hT8.2
            refine g_fload_n X dX3_bitsOfShare_24 rfl 1 rfl ?_
            refine g_fconst2 X dX3_bitsOfShare_25 ?_
            refine g_fmul X dX3_bitsOfShare_26 hn2 ?_
            refine g_fstore_n (L' := [(1, .float (FP.fmul s FP.fconst2)), (2, .int e), (0, .float x)]) X dX3_bitsOfShare_27 rfl (by rw [hnL]; decide) rfl ?_
            refine g_iinc (k := 1) (v := (e + (-1))) (L' := [(2, .int (e + (-1))), (1, .float (FP.fmul s FP.fconst2)), (0, .float x)]) X dX3_bitsOfShare_28 rfl rfl (by rw [hnL]; decide) rfl ?_
            refine g_goto (tgt := 13) X dX3_bitsOfShare_31 (by decide) ?_
            refine g_locs [0, 1, 2] (L' := [(2, .int (e + (-1))), (1, .float (FP.fmul s FP.fconst2)), (0, .float x)]) rfl ?_
            exact ih (FP.fmul s FP.fconst2) (e + (-1)) ht2 (by rw [← hX]; exact ((if_neg c2).trans (if_neg c3)).symm)
    refine g_locs [0, 1, 2] (L' := [(2, .int 127), (1, .float x), (0, .float x)]) rfl ?_
    exact lp 9 x 127 hT9 rfl
  · refine g_iconst (v := 0) X dX3_bitsOfShare_6 (by decide) ?_
    exact g_iret X F dX3_bitsOfShare_7 (by omega) (by omega) ⟨congrArg rI (show (0 : Int32) = bsV x from (if_pos (Int32.not_lt.mp c1)).symm), rfl⟩
set_option maxRecDepth 100000 in
set_option maxHeartbeats 4000000 in
theorem c_X3_shareBits (l : Launch) (hl : l.stackTraces = false) (Γ : Gm) (M : Hp) (A : Nat → Nat) (w : PV) (hB : BRep Γ A w M) (hI : BInv w) (b : Int32) (hw : hasB (w.1 0) b → ¬ shB (w.1 0) b = 0 → ShF (w.1 0) b) : Ct l Γ yX3_shareBits cX3_shareBits 4 (some .int) 2 3 18 [.ref (A 313), .int b] M (BMu Γ A (pShareBits w b) M) := by
  refine Ct.of hl (by decide) (Nat.le_of_ble_eq_true rfl) rfl ?_
  intro κ e1 e2 hnL hRm X F hlt
  subst e1 e2
  refine g_aload_n X dX3_shareBits_0 rfl 0 rfl ?_
  refine g_iload_n X dX3_shareBits_1 rfl 1 rfl ?_
  refine g_gateV (As := [.int b]) (ci := 3) (ok := hasB (w.1 0) b) (e := eIdx) X dX3_shareBits_2 (c_X3_requireBill κ.l hl κ.Γ M A w hB hI b) k588 k590 kp5 k1 k591 rfl (BRep.obj hB) ⟨rfl, by decide, by decide, (show (parseMethodDescriptor yX3_requireBill.desc).map (fun d => d.parameters.length) = some 1 by decide +kernel)⟩ rfl (Nat.le_of_ble_eq_true rfl) (by rw [hRm]; decide) (by rw [hRm]; exact ⟨Nat.le_of_ble_eq_true rfl, Nat.le_of_ble_eq_true rfl⟩) (fun g1 => ?_) (fun E7 M7 h7 => gx_out X F (Nat.le_of_ble_eq_true rfl) (Nat.le_of_ble_eq_true rfl) (by unfold pShareBits; exact Gate.x h7 hB))
  refine g_aload_n X dX3_shareBits_5 rfl 0 rfl ?_
  refine g_get X dX3_shareBits_6 (ci := 3) (k := 0) (v := .ref (hA A 0 0)) rfl k154 (by decide) rfl (BRep.obj hB) rfl ?_
  refine g_aload_n X dX3_shareBits_9 rfl 0 rfl ?_
  refine g_get X dX3_shareBits_10 (ci := 3) (k := 0) (v := .ref (hA A 0 0)) rfl k154 (by decide) rfl (BRep.obj hB) rfl ?_
  refine g_getN X dX3_shareBits_13 (ci := 1) (k := 10) (v := .ref (hA A 0 6)) rfl k63 (by decide) rfl (HRep.obj (hB.1 0 (by decide))) rfl ?_
  refine g_iload_n X dX3_shareBits_16 rfl 1 rfl ?_
  refine g_iaload X dX3_shareBits_17 (HRep.row (hB.1 0 (by decide)) 6 (by decide) (by decide)) ((hI.1 0 (by decide)).b g1) ?_
  refine g_callV_rd (As := [.int ((w.1 0).2.1 6 (cN b))]) (ci := 1) (v := some (.int (hW (w.1 0) ((w.1 0).2.1 6 (cN b))))) X dX3_shareBits_18 (c_X1_weightOfSet κ.l hl κ.Γ M (hA A 0) (w.1 0) (hB.1 0 (by decide)) ((w.1 0).2.1 6 (cN b))) k254 k255 k256 k2 k257 rfl (hB.1 0 (by decide)).obj ⟨rfl, by decide, by decide, (show (parseMethodDescriptor yX1_weightOfSet.desc).map (fun d => d.parameters.length) = some 1 by decide +kernel)⟩ rfl (Nat.le_of_ble_eq_true rfl) (by rw [hRm]; decide) (by rw [hRm]; exact ⟨Nat.le_of_ble_eq_true rfl, Nat.le_of_ble_eq_true rfl⟩) ?_
  refine g_istore_n (L' := [(2, .int (hW (w.1 0) ((w.1 0).2.1 6 (cN b)))), (0, .ref (A 313)), (1, .int b)]) X dX3_shareBits_21 rfl (by rw [hnL]; decide) rfl ?_
  refine g_iload_n X dX3_shareBits_22 rfl 0 rfl ?_
  refine g_aload_n X dX3_shareBits_23 rfl 1 rfl ?_
  refine g_get X dX3_shareBits_24 (ci := 3) (k := 0) (v := .ref (hA A 0 0)) rfl k154 (by decide) rfl (BRep.obj hB) rfl ?_
  refine g_aload_n X dX3_shareBits_27 rfl 1 rfl ?_
  refine g_get X dX3_shareBits_28 (ci := 3) (k := 0) (v := .ref (hA A 0 0)) rfl k154 (by decide) rfl (BRep.obj hB) rfl ?_
  refine g_getN X dX3_shareBits_31 (ci := 1) (k := 11) (v := .ref (hA A 0 7)) rfl k65 (by decide) rfl (HRep.obj (hB.1 0 (by decide))) rfl ?_
  refine g_iload_n X dX3_shareBits_34 rfl 2 rfl ?_
  refine g_iaload X dX3_shareBits_35 (HRep.row (hB.1 0 (by decide)) 7 (by decide) (by decide)) ((hI.1 0 (by decide)).b g1) ?_
  refine g_callV_rd (As := [.int ((w.1 0).2.1 7 (cN b))]) (ci := 1) (v := some (.int (hW (w.1 0) ((w.1 0).2.1 7 (cN b))))) X dX3_shareBits_36 (c_X1_weightOfSet κ.l hl κ.Γ M (hA A 0) (w.1 0) (hB.1 0 (by decide)) ((w.1 0).2.1 7 (cN b))) k254 k255 k256 k2 k257 rfl (hB.1 0 (by decide)).obj ⟨rfl, by decide, by decide, (show (parseMethodDescriptor yX1_weightOfSet.desc).map (fun d => d.parameters.length) = some 1 by decide +kernel)⟩ rfl (Nat.le_of_ble_eq_true rfl) (by rw [hRm]; decide) (by rw [hRm]; exact ⟨Nat.le_of_ble_eq_true rfl, Nat.le_of_ble_eq_true rfl⟩) ?_
  refine g_iadd X dX3_shareBits_39 ?_
  refine g_istore_n (L' := [(3, .int ((hW (w.1 0) ((w.1 0).2.1 6 (cN b))) + (hW (w.1 0) ((w.1 0).2.1 7 (cN b))))), (2, .int (hW (w.1 0) ((w.1 0).2.1 6 (cN b)))), (0, .ref (A 313)), (1, .int b)]) X dX3_shareBits_40 rfl (by rw [hnL]; decide) rfl ?_
  refine g_iload_n X dX3_shareBits_41 rfl 0 rfl ?_
  refine g_if_ne (tgt := 53) X dX3_shareBits_42 (by decide) (fun c2 => ?_) (fun c2 => ?_)
  · have g3 : ¬ shB (w.1 0) b = 0 := c2
    have hs := hw g1 g3
    refine g_iload_n X dX3_shareBits_53 rfl 1 rfl ?_
    refine g_i2f X dX3_shareBits_54 ?_
    refine g_iload_n X dX3_shareBits_55 rfl 0 rfl ?_
    refine g_i2f X dX3_shareBits_56 ?_
    refine g_fdiv X dX3_shareBits_57 hs.1 ?_
    refine g_callS_rd (As := [.float (FP.fdiv (FP.i2f (hW (w.1 0) ((w.1 0).2.1 6 (cN b)))) (FP.i2f ((hW (w.1 0) ((w.1 0).2.1 6 (cN b))) + (hW (w.1 0) ((w.1 0).2.1 7 (cN b))))))]) (v := some (.int (bsV (FP.fdiv (FP.i2f (hW (w.1 0) ((w.1 0).2.1 6 (cN b)))) (FP.i2f ((hW (w.1 0) ((w.1 0).2.1 6 (cN b))) + (hW (w.1 0) ((w.1 0).2.1 7 (cN b))))))))) X dX3_shareBits_58 (c_X3_bitsOfShare κ.l hl κ.Γ M (FP.fdiv (FP.i2f (hW (w.1 0) ((w.1 0).2.1 6 (cN b)))) (FP.i2f ((hW (w.1 0) ((w.1 0).2.1 6 (cN b))) + (hW (w.1 0) ((w.1 0).2.1 7 (cN b)))))) hs.2) k1063 k1064 k1 k1065 ⟨by decide, by decide, (show (parseMethodDescriptor yX3_bitsOfShare.desc).map (fun d => d.parameters.length) = some 1 by decide +kernel)⟩ rfl (Nat.le_of_ble_eq_true rfl) (by rw [hRm]; decide) (by rw [hRm]; exact ⟨Nat.le_of_ble_eq_true rfl, Nat.le_of_ble_eq_true rfl⟩) ?_
    exact g_iret X F dX3_shareBits_61 (Nat.le_of_ble_eq_true rfl) (Nat.le_of_ble_eq_true rfl) (by unfold pShareBits; rw [pG_y g1, pG_y g3]; exact ⟨rfl, hB, Fr.rf⟩)
  · exact g_throw X F (ik := 279) (ic := 281) (cls := "java/lang/ArithmeticException") dX3_shareBits_45 dX3_shareBits_48 dX3_shareBits_49 dX3_shareBits_52 (by decide +kernel) (by rw [hRm]; decide) (by rw [hRm]; exact Nat.le_of_ble_eq_true rfl) (by rw [hRm]; exact Nat.le_of_ble_eq_true rfl) (by rw [hRm]; exact Nat.le_of_ble_eq_true rfl) (Nat.le_of_ble_eq_true rfl) (Nat.le_of_ble_eq_true rfl) (by unfold pShareBits; rw [pG_y g1, pG_n (fun z => z c2)]; exact ⟨rfl, hB, Fr.rf⟩)
set_option maxRecDepth 100000 in
set_option maxHeartbeats 4000000 in
theorem c_X3_meanWeight (l : Launch) (hl : l.stackTraces = false) (Γ : Gm) (M : Hp) (A : Nat → Nat) (w : PV) (hB : BRep Γ A w M) (hI : BInv w) (hm : ¬ (w.1 0).1 0 = 0 → MwOK (w.1 0)) : Ct l Γ yX3_meanWeight cX3_meanWeight 1 (some .double) 1 3 18 [.ref (A 313)] M (BMu Γ A (pMeanWeight w) M) := by
  refine Ct.of hl (by decide) (Nat.le_of_ble_eq_true rfl) rfl ?_
  intro κ e1 e2 hnL hRm X F hlt
  subst e1 e2
  refine g_aload_n X dX3_meanWeight_0 rfl 0 rfl ?_
  refine g_get X dX3_meanWeight_1 (ci := 3) (k := 0) (v := .ref (hA A 0 0)) rfl k154 (by decide) rfl (BRep.obj hB) rfl ?_
  refine g_getN X dX3_meanWeight_4 (ci := 1) (k := 0) (v := .int ((w.1 0).1 0)) rfl k43 (by decide) rfl (HRep.obj (hB.1 0 (by decide))) rfl ?_
  refine g_if_ne (tgt := 18) X dX3_meanWeight_7 (by decide) (fun c1 => ?_) (fun c1 => ?_)
  · have hm2 := hm c1
    refine g_aload_n X dX3_meanWeight_18 rfl 0 rfl ?_
    refine g_get X dX3_meanWeight_19 (ci := 3) (k := 0) (v := .ref (hA A 0 0)) rfl k154 (by decide) rfl (BRep.obj hB) rfl ?_
    refine g_aload_n X dX3_meanWeight_22 rfl 0 rfl ?_
    refine g_get X dX3_meanWeight_23 (ci := 3) (k := 0) (v := .ref (hA A 0 0)) rfl k154 (by decide) rfl (BRep.obj hB) rfl ?_
    refine g_callV_rd (As := []) (ci := 1) (v := some (.int (shl 1 ((w.1 0).1 0) - 1))) X dX3_meanWeight_26 (c_X1_everybody κ.l hl κ.Γ M (hA A 0) (w.1 0) (hB.1 0 (by decide))) k1052 k1053 k1054 k2 k1055 rfl (hB.1 0 (by decide)).obj ⟨rfl, by decide, by decide, (show (parseMethodDescriptor yX1_everybody.desc).map (fun d => d.parameters.length) = some 0 by decide +kernel)⟩ rfl (Nat.le_of_ble_eq_true rfl) (by rw [hRm]; decide) (by rw [hRm]; exact ⟨Nat.le_of_ble_eq_true rfl, Nat.le_of_ble_eq_true rfl⟩) ?_
    refine g_callV_rd (As := [.int (shl 1 ((w.1 0).1 0) - 1)]) (ci := 1) (v := some (.int (hW (w.1 0) (shl 1 ((w.1 0).1 0) - 1)))) X dX3_meanWeight_29 (c_X1_weightOfSet κ.l hl κ.Γ M (hA A 0) (w.1 0) (hB.1 0 (by decide)) (shl 1 ((w.1 0).1 0) - 1)) k254 k255 k256 k2 k257 rfl (hB.1 0 (by decide)).obj ⟨rfl, by decide, by decide, (show (parseMethodDescriptor yX1_weightOfSet.desc).map (fun d => d.parameters.length) = some 1 by decide +kernel)⟩ rfl (Nat.le_of_ble_eq_true rfl) (by rw [hRm]; decide) (by rw [hRm]; exact ⟨Nat.le_of_ble_eq_true rfl, Nat.le_of_ble_eq_true rfl⟩) ?_
    refine g_i2d X dX3_meanWeight_32 ?_
    refine g_aload_n X dX3_meanWeight_33 rfl 0 rfl ?_
    refine g_get X dX3_meanWeight_34 (ci := 3) (k := 0) (v := .ref (hA A 0 0)) rfl k154 (by decide) rfl (BRep.obj hB) rfl ?_
    refine g_getN X dX3_meanWeight_37 (ci := 1) (k := 0) (v := .int ((w.1 0).1 0)) rfl k43 (by decide) rfl (HRep.obj (hB.1 0 (by decide))) rfl ?_
    refine g_i2d X dX3_meanWeight_40 ?_
    refine g_ddiv X dX3_meanWeight_41 hm2 ?_
    exact g_dret X F dX3_meanWeight_42 (Nat.le_of_ble_eq_true rfl) (Nat.le_of_ble_eq_true rfl) (by unfold pMeanWeight; rw [pG_y c1]; exact ⟨rfl, hB, Fr.rf⟩)
  · exact g_throw X F (ik := 279) (ic := 281) (cls := "java/lang/ArithmeticException") dX3_meanWeight_10 dX3_meanWeight_13 dX3_meanWeight_14 dX3_meanWeight_17 (by decide +kernel) (by rw [hRm]; decide) (by rw [hRm]; exact Nat.le_of_ble_eq_true rfl) (by rw [hRm]; exact Nat.le_of_ble_eq_true rfl) (by rw [hRm]; exact Nat.le_of_ble_eq_true rfl) (Nat.le_of_ble_eq_true rfl) (Nat.le_of_ble_eq_true rfl) (by unfold pMeanWeight; rw [pG_n (fun z => z c1)]; exact ⟨rfl, hB, Fr.rf⟩)
