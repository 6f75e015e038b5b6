set_option maxRecDepth 100000 in
set_option maxHeartbeats 4000000 in
theorem c_X3_isWard (l : Launch) (hl : l.stackTraces = false) (Γ : Gm) (M : Hp) (x : Int32) : Ct l Γ yX3_isWard cX3_isWard 1 (some .boolean) 0 0 0 [.int x] M (Rd (some (.int (bI (isW x)))) M) := by
  refine Ct.of hl (by decide) (Nat.le_of_ble_eq_true rfl) rfl ?_
  intro κ e1 e2 hnL hRm X F hlt
  subst e1 e2
  refine g_iload_n X dX3_isWard_0 rfl 0 rfl ?_
  refine g_if_lt (tgt := 13) X dX3_isWard_1 (by decide) (fun c1 => ?_) (fun c1 => ?_)
  · refine g_iconst (v := 0) X dX3_isWard_13 (by decide) ?_
    exact g_zret X F dX3_isWard_14 (by omega) (by omega) rfl ⟨by rw [bI_f (by first | exact c1 | exact (fun h => h c1) | (simp only [hasM, hasB, hasP, isC, isW, inS, hQuor, cN, hRust, hAhd, Int32.lt_iff_toInt_lt, Int32.le_iff_toInt_le, Int32.reduceToInt] at c1 ⊢; omega) | (simp_all [hasM, hasB, hasP, isC, isW, inS, hQuor, cN, hRust, hAhd]; done))], rfl⟩
  · refine g_iload_n X dX3_isWard_4 rfl 0 rfl ?_
    refine g_iconst (v := 4) X dX3_isWard_5 (by decide) ?_
    refine g_icmp_ge (tgt := 13) X dX3_isWard_6 (by decide) (fun c2 => ?_) (fun c2 => ?_)
    · refine g_iconst (v := 0) X dX3_isWard_13 (by decide) ?_
      exact g_zret X F dX3_isWard_14 (by omega) (by omega) rfl ⟨by rw [bI_f (by first | exact c2 | exact (fun h => h c2) | exact c1 | exact (fun h => h c1) | (simp only [hasM, hasB, hasP, isC, isW, inS, hQuor, cN, hRust, hAhd, Int32.lt_iff_toInt_lt, Int32.le_iff_toInt_le, Int32.reduceToInt] at c1 c2 ⊢; omega) | (simp_all [hasM, hasB, hasP, isC, isW, inS, hQuor, cN, hRust, hAhd]; done))], rfl⟩
    · refine g_iconst (v := 1) X dX3_isWard_9 (by decide) ?_
      refine g_goto (tgt := 14) X dX3_isWard_10 (by decide) ?_
      exact g_zret X F dX3_isWard_14 (by omega) (by omega) rfl ⟨by rw [bI_t (by first | exact c2 | exact (fun h => h c2) | exact c1 | exact (fun h => h c1) | (simp only [hasM, hasB, hasP, isC, isW, inS, hQuor, cN, hRust, hAhd, Int32.lt_iff_toInt_lt, Int32.le_iff_toInt_le, Int32.reduceToInt] at c1 c2 ⊢; omega) | (simp_all [hasM, hasB, hasP, isC, isW, inS, hQuor, cN, hRust, hAhd]; done))], rfl⟩
set_option maxRecDepth 100000 in
set_option maxHeartbeats 4000000 in
theorem c_X3_isClause (l : Launch) (hl : l.stackTraces = false) (Γ : Gm) (M : Hp) (x : Int32) : Ct l Γ yX3_isClause cX3_isClause 1 (some .boolean) 0 0 0 [.int x] M (Rd (some (.int (bI (isC x)))) M) := by
  refine Ct.of hl (by decide) (Nat.le_of_ble_eq_true rfl) rfl ?_
  intro κ e1 e2 hnL hRm X F hlt
  subst e1 e2
  refine g_iload_n X dX3_isClause_0 rfl 0 rfl ?_
  refine g_if_lt (tgt := 14) X dX3_isClause_1 (by decide) (fun c1 => ?_) (fun c1 => ?_)
  · refine g_iconst (v := 0) X dX3_isClause_14 (by decide) ?_
    exact g_zret X F dX3_isClause_15 (by omega) (by omega) rfl ⟨by rw [bI_f (by first | exact c1 | exact (fun h => h c1) | (simp only [hasM, hasB, hasP, isC, isW, inS, hQuor, cN, hRust, hAhd, Int32.lt_iff_toInt_lt, Int32.le_iff_toInt_le, Int32.reduceToInt] at c1 ⊢; omega) | (simp_all [hasM, hasB, hasP, isC, isW, inS, hQuor, cN, hRust, hAhd]; done))], rfl⟩
  · refine g_iload_n X dX3_isClause_4 rfl 0 rfl ?_
    refine g_bipush (v := 64) X dX3_isClause_5 (by decide) ?_
    refine g_icmp_ge (tgt := 14) X dX3_isClause_7 (by decide) (fun c2 => ?_) (fun c2 => ?_)
    · refine g_iconst (v := 0) X dX3_isClause_14 (by decide) ?_
      exact g_zret X F dX3_isClause_15 (by omega) (by omega) rfl ⟨by rw [bI_f (by first | exact c2 | exact (fun h => h c2) | exact c1 | exact (fun h => h c1) | (simp only [hasM, hasB, hasP, isC, isW, inS, hQuor, cN, hRust, hAhd, Int32.lt_iff_toInt_lt, Int32.le_iff_toInt_le, Int32.reduceToInt] at c1 c2 ⊢; omega) | (simp_all [hasM, hasB, hasP, isC, isW, inS, hQuor, cN, hRust, hAhd]; done))], rfl⟩
    · refine g_iconst (v := 1) X dX3_isClause_10 (by decide) ?_
      refine g_goto (tgt := 15) X dX3_isClause_11 (by decide) ?_
      exact g_zret X F dX3_isClause_15 (by omega) (by omega) rfl ⟨by rw [bI_t (by first | exact c2 | exact (fun h => h c2) | exact c1 | exact (fun h => h c1) | (simp only [hasM, hasB, hasP, isC, isW, inS, hQuor, cN, hRust, hAhd, Int32.lt_iff_toInt_lt, Int32.le_iff_toInt_le, Int32.reduceToInt] at c1 c2 ⊢; omega) | (simp_all [hasM, hasB, hasP, isC, isW, inS, hQuor, cN, hRust, hAhd]; done))], rfl⟩
set_option maxRecDepth 100000 in
set_option maxHeartbeats 4000000 in
theorem c_X1_faultOfAdmit (l : Launch) (hl : l.stackTraces = false) (Γ : Gm) (M : Hp) (a : Nat → Nat) (u : HV) (hR : HRep Γ a u M) (hi : HInv u) (wd : Int32) (wt : Int32) : Ct l Γ yX1_faultOfAdmit cX1_faultOfAdmit 3 (some .int) 1 0 0 [.ref (a 0), .int wd, .int wt] M (Rd (some (.int (fAdmit u wd wt))) M) := by
  refine Ct.of hl (by decide) (Nat.le_of_ble_eq_true rfl) rfl ?_
  intro κ e1 e2 hnL hRm X F hlt
  subst e1 e2
  refine g_iload_n X dX1_faultOfAdmit_0 rfl 1 rfl ?_
  refine g_callSN_rd (As := [.int wd]) (v := some (.int (bI (isW wd)))) X dX1_faultOfAdmit_1 (c_X3_isWard κ.l hl κ.Γ M wd) k379 k380 k1 k381 ⟨by decide, by decide, (show (parseMethodDescriptor yX3_isWard.desc).map (fun d => d.parameters.length) = some 1 by decide +kernel)⟩ rfl (Nat.le_of_ble_eq_true rfl) (by rw [hRm]; decide) (by rw [hRm]; exact ⟨Nat.le_of_ble_eq_true rfl, Nat.le_of_ble_eq_true rfl⟩) ?_
  refine g_ifb_ne (tgt := 9) X dX1_faultOfAdmit_4 (by decide) (fun c1 => ?_) (fun c1 => ?_)
  · refine g_iload_n X dX1_faultOfAdmit_9 rfl 2 rfl ?_
    refine g_iconst (v := 1) X dX1_faultOfAdmit_10 (by decide) ?_
    refine g_icmp_lt (tgt := 20) X dX1_faultOfAdmit_11 (by decide) (fun c2 => ?_) (fun c2 => ?_)
    · refine g_iconst (v := 2) X dX1_faultOfAdmit_20 (by decide) ?_
      exact g_iret X F dX1_faultOfAdmit_21 (by omega) (by omega) ⟨by clear X F hlt hR; (have e9 : fAdmit u wd wt = 2 := by ((unfold fAdmit; try simp only [hasM, hasB, hasP, isC, isW, inS, hQuor, cN, hRust, hAhd, ← Int32.not_le, Classical.not_not] at c1 c2 ⊢); simp only [c1, c2, eq_self, not_true_eq_false, not_false_eq_true, or_false, false_or, or_true, true_or, and_true, true_and, and_false, false_and, if_true, if_false, reduceIte, ne_eq, or_self, and_self, Classical.not_not])); rw [e9], rfl⟩
    · refine g_iload_n X dX1_faultOfAdmit_14 rfl 2 rfl ?_
      refine g_bipush (v := 7) X dX1_faultOfAdmit_15 (by decide) ?_
      refine g_icmp_le (tgt := 22) X dX1_faultOfAdmit_17 (by decide) (fun c3 => ?_) (fun c3 => ?_)
      · refine g_aload_n X dX1_faultOfAdmit_22 rfl 0 rfl ?_
        refine g_get X dX1_faultOfAdmit_23 (ci := 1) (k := 0) (v := .int (u.1 0)) rfl k42 (by decide) rfl hR.obj rfl ?_
        refine g_bipush (v := 24) X dX1_faultOfAdmit_26 (by decide) ?_
        refine g_icmp_lt (tgt := 35) X dX1_faultOfAdmit_28 (by decide) (fun c4 => ?_) (fun c4 => ?_)
        · refine g_iconst (v := 0) X dX1_faultOfAdmit_35 (by decide) ?_
          exact g_iret X F dX1_faultOfAdmit_36 (by omega) (by omega) ⟨by clear X F hlt hR; (have e9 : fAdmit u wd wt = 0 := by ((unfold fAdmit; try simp only [hasM, hasB, hasP, isC, isW, inS, hQuor, cN, hRust, hAhd, ← Int32.not_le, Classical.not_not] at c1 c2 c3 c4 ⊢); simp only [c1, c2, c3, c4, eq_self, not_true_eq_false, not_false_eq_true, or_false, false_or, or_true, true_or, and_true, true_and, and_false, false_and, if_true, if_false, reduceIte, ne_eq, or_self, and_self, Classical.not_not])); rw [e9], rfl⟩
        · refine g_iconst (v := 3) X dX1_faultOfAdmit_31 (by decide) ?_
          refine g_goto (tgt := 36) X dX1_faultOfAdmit_32 (by decide) ?_
          exact g_iret X F dX1_faultOfAdmit_36 (by omega) (by omega) ⟨by clear X F hlt hR; (have e9 : fAdmit u wd wt = 3 := by ((unfold fAdmit; try simp only [hasM, hasB, hasP, isC, isW, inS, hQuor, cN, hRust, hAhd, ← Int32.not_le, Classical.not_not] at c1 c2 c3 c4 ⊢); simp only [c1, c2, c3, c4, eq_self, not_true_eq_false, not_false_eq_true, or_false, false_or, or_true, true_or, and_true, true_and, and_false, false_and, if_true, if_false, reduceIte, ne_eq, or_self, and_self, Classical.not_not])); rw [e9], rfl⟩
      · refine g_iconst (v := 2) X dX1_faultOfAdmit_20 (by decide) ?_
        exact g_iret X F dX1_faultOfAdmit_21 (by omega) (by omega) ⟨by clear X F hlt hR; (have e9 : fAdmit u wd wt = 2 := by ((unfold fAdmit; try simp only [hasM, hasB, hasP, isC, isW, inS, hQuor, cN, hRust, hAhd, ← Int32.not_le, Classical.not_not] at c1 c2 c3 ⊢); simp only [c1, c2, c3, eq_self, not_true_eq_false, not_false_eq_true, or_false, false_or, or_true, true_or, and_true, true_and, and_false, false_and, if_true, if_false, reduceIte, ne_eq, or_self, and_self, Classical.not_not])); rw [e9], rfl⟩
  · refine g_iconst (v := 1) X dX1_faultOfAdmit_7 (by decide) ?_
    exact g_iret X F dX1_faultOfAdmit_8 (by omega) (by omega) ⟨by clear X F hlt hR; (have e9 : fAdmit u wd wt = 1 := by ((unfold fAdmit; try simp only [hasM, hasB, hasP, isC, isW, inS, hQuor, cN, hRust, hAhd, ← Int32.not_le, Classical.not_not] at c1 ⊢); simp only [c1, eq_self, not_true_eq_false, not_false_eq_true, or_false, false_or, or_true, true_or, and_true, true_and, and_false, false_and, if_true, if_false, reduceIte, ne_eq, or_self, and_self, Classical.not_not])); rw [e9], rfl⟩
set_option maxRecDepth 100000 in
set_option maxHeartbeats 4000000 in
theorem c_X1_faultOfComeIn (l : Launch) (hl : l.stackTraces = false) (Γ : Gm) (M : Hp) (a : Nat → Nat) (u : HV) (hR : HRep Γ a u M) (hi : HInv u) (x : Int32) : Ct l Γ yX1_faultOfComeIn cX1_faultOfComeIn 2 (some .int) 1 0 0 [.ref (a 0), .int x] M (Rd (some (.int (fComeIn u x))) M) := by
  refine Ct.of hl (by decide) (Nat.le_of_ble_eq_true rfl) rfl ?_
  intro κ e1 e2 hnL hRm X F hlt
  subst e1 e2
  refine g_aload_n X dX1_faultOfComeIn_0 rfl 0 rfl ?_
  refine g_iload_n X dX1_faultOfComeIn_1 rfl 1 rfl ?_
  refine g_callV_rd (As := [.int x]) (ci := 1) (v := some (.int (bI (hasM u x)))) X dX1_faultOfComeIn_2 (c_X1_hasMember κ.l hl κ.Γ M a u hR x) k488 k489 k490 k2 k491 rfl hR.obj ⟨rfl, by decide, by decide, (show (parseMethodDescriptor yX1_hasMember.desc).map (fun d => d.parameters.length) = some 1 by decide +kernel)⟩ rfl (Nat.le_of_ble_eq_true rfl) (by rw [hRm]; decide) (by rw [hRm]; exact ⟨Nat.le_of_ble_eq_true rfl, Nat.le_of_ble_eq_true rfl⟩) ?_
  refine g_ifb_ne (tgt := 10) X dX1_faultOfComeIn_5 (by decide) (fun c1 => ?_) (fun c1 => ?_)
  · refine g_aload_n X dX1_faultOfComeIn_10 rfl 0 rfl ?_
    refine g_iload_n X dX1_faultOfComeIn_11 rfl 1 rfl ?_
    refine g_callV_rd (As := [.int x]) (ci := 1) (v := some (.int (bI (inS (u.1 1) x)))) X dX1_faultOfComeIn_12 (c_X1_isIn κ.l hl κ.Γ M a u hR x) k222 k223 k224 k2 k225 rfl hR.obj ⟨rfl, by decide, by decide, (show (parseMethodDescriptor yX1_isIn.desc).map (fun d => d.parameters.length) = some 1 by decide +kernel)⟩ rfl (Nat.le_of_ble_eq_true rfl) (by rw [hRm]; decide) (by rw [hRm]; exact ⟨Nat.le_of_ble_eq_true rfl, Nat.le_of_ble_eq_true rfl⟩) ?_
    refine g_ifb_eq (tgt := 22) X dX1_faultOfComeIn_15 (by decide) (fun c2 => ?_) (fun c2 => ?_)
    · refine g_iconst (v := 0) X dX1_faultOfComeIn_22 (by decide) ?_
      exact g_iret X F dX1_faultOfComeIn_23 (by omega) (by omega) ⟨by clear X F hlt hR; (have e9 : fComeIn u x = 0 := by ((unfold fComeIn; try simp only [hasM, hasB, hasP, isC, isW, inS, hQuor, cN, hRust, hAhd, ← Int32.not_le, Classical.not_not] at c1 c2 ⊢); simp only [c1, c2, eq_self, not_true_eq_false, not_false_eq_true, or_false, false_or, or_true, true_or, and_true, true_and, and_false, false_and, if_true, if_false, reduceIte, ne_eq, or_self, and_self, Classical.not_not])); rw [e9], rfl⟩
    · refine g_iconst (v := 3) X dX1_faultOfComeIn_18 (by decide) ?_
      refine g_goto (tgt := 23) X dX1_faultOfComeIn_19 (by decide) ?_
      exact g_iret X F dX1_faultOfComeIn_23 (by omega) (by omega) ⟨by clear X F hlt hR; (have e9 : fComeIn u x = 3 := by ((unfold fComeIn; try simp only [hasM, hasB, hasP, isC, isW, inS, hQuor, cN, hRust, hAhd, ← Int32.not_le, Classical.not_not] at c1 c2 ⊢); simp only [c1, c2, eq_self, not_true_eq_false, not_false_eq_true, or_false, false_or, or_true, true_or, and_true, true_and, and_false, false_and, if_true, if_false, reduceIte, ne_eq, or_self, and_self, Classical.not_not])); rw [e9], rfl⟩
  · refine g_iconst (v := 1) X dX1_faultOfComeIn_8 (by decide) ?_
    exact g_iret X F dX1_faultOfComeIn_9 (by omega) (by omega) ⟨by clear X F hlt hR; (have e9 : fComeIn u x = 1 := by ((unfold fComeIn; try simp only [hasM, hasB, hasP, isC, isW, inS, hQuor, cN, hRust, hAhd, ← Int32.not_le, Classical.not_not] at c1 ⊢); simp only [c1, eq_self, not_true_eq_false, not_false_eq_true, or_false, false_or, or_true, true_or, and_true, true_and, and_false, false_and, if_true, if_false, reduceIte, ne_eq, or_self, and_self, Classical.not_not])); rw [e9], rfl⟩
set_option maxRecDepth 100000 in
set_option maxHeartbeats 4000000 in
theorem c_X1_faultOfGoOut (l : Launch) (hl : l.stackTraces = false) (Γ : Gm) (M : Hp) (a : Nat → Nat) (u : HV) (hR : HRep Γ a u M) (hi : HInv u) (x : Int32) : Ct l Γ yX1_faultOfGoOut cX1_faultOfGoOut 2 (some .int) 1 0 0 [.ref (a 0), .int x] M (Rd (some (.int (fGoOut u x))) M) := by
  refine Ct.of hl (by decide) (Nat.le_of_ble_eq_true rfl) rfl ?_
  intro κ e1 e2 hnL hRm X F hlt
  subst e1 e2
  refine g_aload_n X dX1_faultOfGoOut_0 rfl 0 rfl ?_
  refine g_iload_n X dX1_faultOfGoOut_1 rfl 1 rfl ?_
  refine g_callV_rd (As := [.int x]) (ci := 1) (v := some (.int (bI (hasM u x)))) X dX1_faultOfGoOut_2 (c_X1_hasMember κ.l hl κ.Γ M a u hR x) k488 k489 k490 k2 k491 rfl hR.obj ⟨rfl, by decide, by decide, (show (parseMethodDescriptor yX1_hasMember.desc).map (fun d => d.parameters.length) = some 1 by decide +kernel)⟩ rfl (Nat.le_of_ble_eq_true rfl) (by rw [hRm]; decide) (by rw [hRm]; exact ⟨Nat.le_of_ble_eq_true rfl, Nat.le_of_ble_eq_true rfl⟩) ?_
  refine g_ifb_ne (tgt := 10) X dX1_faultOfGoOut_5 (by decide) (fun c1 => ?_) (fun c1 => ?_)
  · refine g_aload_n X dX1_faultOfGoOut_10 rfl 0 rfl ?_
    refine g_iload_n X dX1_faultOfGoOut_11 rfl 1 rfl ?_
    refine g_callV_rd (As := [.int x]) (ci := 1) (v := some (.int (bI (inS (u.1 1) x)))) X dX1_faultOfGoOut_12 (c_X1_isIn κ.l hl κ.Γ M a u hR x) k222 k223 k224 k2 k225 rfl hR.obj ⟨rfl, by decide, by decide, (show (parseMethodDescriptor yX1_isIn.desc).map (fun d => d.parameters.length) = some 1 by decide +kernel)⟩ rfl (Nat.le_of_ble_eq_true rfl) (by rw [hRm]; decide) (by rw [hRm]; exact ⟨Nat.le_of_ble_eq_true rfl, Nat.le_of_ble_eq_true rfl⟩) ?_
    refine g_ifb_eq (tgt := 22) X dX1_faultOfGoOut_15 (by decide) (fun c2 => ?_) (fun c2 => ?_)
    · refine g_iconst (v := 3) X dX1_faultOfGoOut_22 (by decide) ?_
      exact g_iret X F dX1_faultOfGoOut_23 (by omega) (by omega) ⟨by clear X F hlt hR; (have e9 : fGoOut u x = 3 := by ((unfold fGoOut; try simp only [hasM, hasB, hasP, isC, isW, inS, hQuor, cN, hRust, hAhd, ← Int32.not_le, Classical.not_not] at c1 c2 ⊢); simp only [c1, c2, eq_self, not_true_eq_false, not_false_eq_true, or_false, false_or, or_true, true_or, and_true, true_and, and_false, false_and, if_true, if_false, reduceIte, ne_eq, or_self, and_self, Classical.not_not])); rw [e9], rfl⟩
    · refine g_iconst (v := 0) X dX1_faultOfGoOut_18 (by decide) ?_
      refine g_goto (tgt := 23) X dX1_faultOfGoOut_19 (by decide) ?_
      exact g_iret X F dX1_faultOfGoOut_23 (by omega) (by omega) ⟨by clear X F hlt hR; (have e9 : fGoOut u x = 0 := by ((unfold fGoOut; try simp only [hasM, hasB, hasP, isC, isW, inS, hQuor, cN, hRust, hAhd, ← Int32.not_le, Classical.not_not] at c1 c2 ⊢); simp only [c1, c2, eq_self, not_true_eq_false, not_false_eq_true, or_false, false_or, or_true, true_or, and_true, true_and, and_false, false_and, if_true, if_false, reduceIte, ne_eq, or_self, and_self, Classical.not_not])); rw [e9], rfl⟩
  · refine g_iconst (v := 1) X dX1_faultOfGoOut_8 (by decide) ?_
    exact g_iret X F dX1_faultOfGoOut_9 (by omega) (by omega) ⟨by clear X F hlt hR; (have e9 : fGoOut u x = 1 := by ((unfold fGoOut; try simp only [hasM, hasB, hasP, isC, isW, inS, hQuor, cN, hRust, hAhd, ← Int32.not_le, Classical.not_not] at c1 ⊢); simp only [c1, eq_self, not_true_eq_false, not_false_eq_true, or_false, false_or, or_true, true_or, and_true, true_and, and_false, false_and, if_true, if_false, reduceIte, ne_eq, or_self, and_self, Classical.not_not])); rw [e9], rfl⟩
set_option maxRecDepth 100000 in
set_option maxHeartbeats 4000000 in
theorem c_X1_faultOfNewQuorum (l : Launch) (hl : l.stackTraces = false) (Γ : Gm) (M : Hp) (a : Nat → Nat) (u : HV) (hR : HRep Γ a u M) (hi : HInv u) (n : Int32) : Ct l Γ yX1_faultOfNewQuorum cX1_faultOfNewQuorum 2 (some .int) 0 0 0 [.ref (a 0), .int n] M (Rd (some (.int (fQuorum n))) M) := by
  refine Ct.of hl (by decide) (Nat.le_of_ble_eq_true rfl) rfl ?_
  intro κ e1 e2 hnL hRm X F hlt
  subst e1 e2
  refine g_iload_n X dX1_faultOfNewQuorum_0 rfl 1 rfl ?_
  refine g_iconst (v := 1) X dX1_faultOfNewQuorum_1 (by decide) ?_
  refine g_icmp_lt (tgt := 11) X dX1_faultOfNewQuorum_2 (by decide) (fun c1 => ?_) (fun c1 => ?_)
  · refine g_iconst (v := 2) X dX1_faultOfNewQuorum_11 (by decide) ?_
    refine g_goto (tgt := 16) X dX1_faultOfNewQuorum_12 (by decide) ?_
    exact g_iret X F dX1_faultOfNewQuorum_16 (by omega) (by omega) ⟨by clear X F hlt hR; (have e9 : fQuorum n = 2 := by ((unfold fQuorum; try simp only [hasM, hasB, hasP, isC, isW, inS, hQuor, cN, hRust, hAhd, ← Int32.not_le, Classical.not_not] at c1 ⊢); simp only [c1, eq_self, not_true_eq_false, not_false_eq_true, or_false, false_or, or_true, true_or, and_true, true_and, and_false, false_and, if_true, if_false, reduceIte, ne_eq, or_self, and_self, Classical.not_not])); rw [e9], rfl⟩
  · refine g_iload_n X dX1_faultOfNewQuorum_5 rfl 1 rfl ?_
    refine g_bipush (v := 24) X dX1_faultOfNewQuorum_6 (by decide) ?_
    refine g_icmp_le (tgt := 15) X dX1_faultOfNewQuorum_8 (by decide) (fun c2 => ?_) (fun c2 => ?_)
    · refine g_iconst (v := 0) X dX1_faultOfNewQuorum_15 (by decide) ?_
      exact g_iret X F dX1_faultOfNewQuorum_16 (by omega) (by omega) ⟨by clear X F hlt hR; (have e9 : fQuorum n = 0 := by ((unfold fQuorum; try simp only [hasM, hasB, hasP, isC, isW, inS, hQuor, cN, hRust, hAhd, ← Int32.not_le, Classical.not_not] at c1 c2 ⊢); simp only [c1, c2, eq_self, not_true_eq_false, not_false_eq_true, or_false, false_or, or_true, true_or, and_true, true_and, and_false, false_and, if_true, if_false, reduceIte, ne_eq, or_self, and_self, Classical.not_not])); rw [e9], rfl⟩
    · refine g_iconst (v := 2) X dX1_faultOfNewQuorum_11 (by decide) ?_
      refine g_goto (tgt := 16) X dX1_faultOfNewQuorum_12 (by decide) ?_
      exact g_iret X F dX1_faultOfNewQuorum_16 (by omega) (by omega) ⟨by clear X F hlt hR; (have e9 : fQuorum n = 2 := by ((unfold fQuorum; try simp only [hasM, hasB, hasP, isC, isW, inS, hQuor, cN, hRust, hAhd, ← Int32.not_le, Classical.not_not] at c1 c2 ⊢); simp only [c1, c2, eq_self, not_true_eq_false, not_false_eq_true, or_false, false_or, or_true, true_or, and_true, true_and, and_false, false_and, if_true, if_false, reduceIte, ne_eq, or_self, and_self, Classical.not_not])); rw [e9], rfl⟩
set_option maxRecDepth 100000 in
set_option maxHeartbeats 4000000 in
theorem c_X1_faultOfBringIn (l : Launch) (hl : l.stackTraces = false) (Γ : Gm) (M : Hp) (a : Nat → Nat) (u : HV) (hR : HRep Γ a u M) (hi : HInv u) (x : Int32) (f : Int32) (la : Int32) : Ct l Γ yX1_faultOfBringIn cX1_faultOfBringIn 4 (some .int) 1 0 0 [.ref (a 0), .int x, .int f, .int la] M (Rd (some (.int (fBring u x f la))) M) := by
  refine Ct.of hl (by decide) (Nat.le_of_ble_eq_true rfl) rfl ?_
  intro κ e1 e2 hnL hRm X F hlt
  subst e1 e2
  refine g_aload_n X dX1_faultOfBringIn_0 rfl 0 rfl ?_
  refine g_iload_n X dX1_faultOfBringIn_1 rfl 1 rfl ?_
  refine g_callV_rd (As := [.int x]) (ci := 1) (v := some (.int (bI (hasM u x)))) X dX1_faultOfBringIn_2 (c_X1_hasMember κ.l hl κ.Γ M a u hR x) k488 k489 k490 k2 k491 rfl hR.obj ⟨rfl, by decide, by decide, (show (parseMethodDescriptor yX1_hasMember.desc).map (fun d => d.parameters.length) = some 1 by decide +kernel)⟩ rfl (Nat.le_of_ble_eq_true rfl) (by rw [hRm]; decide) (by rw [hRm]; exact ⟨Nat.le_of_ble_eq_true rfl, Nat.le_of_ble_eq_true rfl⟩) ?_
  refine g_ifb_eq (tgt := 22) X dX1_faultOfBringIn_5 (by decide) (fun c1 => ?_) (fun c1 => ?_)
  · refine g_iconst (v := 1) X dX1_faultOfBringIn_22 (by decide) ?_
    exact g_iret X F dX1_faultOfBringIn_23 (by omega) (by omega) ⟨by clear X F hlt hR; (have e9 : fBring u x f la = 1 := by ((unfold fBring; try simp only [hasM, hasB, hasP, isC, isW, inS, hQuor, cN, hRust, hAhd, ← Int32.not_le, Classical.not_not] at c1 ⊢); simp only [c1, eq_self, not_true_eq_false, not_false_eq_true, or_false, false_or, or_true, true_or, and_true, true_and, and_false, false_and, if_true, if_false, reduceIte, ne_eq, or_self, and_self, Classical.not_not])); rw [e9], rfl⟩
  · refine g_iload_n X dX1_faultOfBringIn_8 rfl 2 rfl ?_
    refine g_callSN_rd (As := [.int f]) (v := some (.int (bI (isC f)))) X dX1_faultOfBringIn_9 (c_X3_isClause κ.l hl κ.Γ M f) k573 k574 k1 k575 ⟨by decide, by decide, (show (parseMethodDescriptor yX3_isClause.desc).map (fun d => d.parameters.length) = some 1 by decide +kernel)⟩ rfl (Nat.le_of_ble_eq_true rfl) (by rw [hRm]; decide) (by rw [hRm]; exact ⟨Nat.le_of_ble_eq_true rfl, Nat.le_of_ble_eq_true rfl⟩) ?_
    refine g_ifb_eq (tgt := 22) X dX1_faultOfBringIn_12 (by decide) (fun c2 => ?_) (fun c2 => ?_)
    · refine g_iconst (v := 1) X dX1_faultOfBringIn_22 (by decide) ?_
      exact g_iret X F dX1_faultOfBringIn_23 (by omega) (by omega) ⟨by clear X F hlt hR; (have e9 : fBring u x f la = 1 := by ((unfold fBring; try simp only [hasM, hasB, hasP, isC, isW, inS, hQuor, cN, hRust, hAhd, ← Int32.not_le, Classical.not_not] at c1 c2 ⊢); simp only [c1, c2, eq_self, not_true_eq_false, not_false_eq_true, or_false, false_or, or_true, true_or, and_true, true_and, and_false, false_and, if_true, if_false, reduceIte, ne_eq, or_self, and_self, Classical.not_not])); rw [e9], rfl⟩
    · refine g_iload_n X dX1_faultOfBringIn_15 rfl 3 rfl ?_
      refine g_callSN_rd (As := [.int la]) (v := some (.int (bI (isC la)))) X dX1_faultOfBringIn_16 (c_X3_isClause κ.l hl κ.Γ M la) k573 k574 k1 k575 ⟨by decide, by decide, (show (parseMethodDescriptor yX3_isClause.desc).map (fun d => d.parameters.length) = some 1 by decide +kernel)⟩ rfl (Nat.le_of_ble_eq_true rfl) (by rw [hRm]; decide) (by rw [hRm]; exact ⟨Nat.le_of_ble_eq_true rfl, Nat.le_of_ble_eq_true rfl⟩) ?_
      refine g_ifb_ne (tgt := 24) X dX1_faultOfBringIn_19 (by decide) (fun c3 => ?_) (fun c3 => ?_)
      · refine g_iload_n X dX1_faultOfBringIn_24 rfl 2 rfl ?_
        refine g_iload_n X dX1_faultOfBringIn_25 rfl 3 rfl ?_
        refine g_icmp_le (tgt := 31) X dX1_faultOfBringIn_26 (by decide) (fun c4 => ?_) (fun c4 => ?_)
        · refine g_aload_n X dX1_faultOfBringIn_31 rfl 0 rfl ?_
          refine g_get X dX1_faultOfBringIn_32 (ci := 1) (k := 5) (v := .int (u.1 3)) rfl k52 (by decide) rfl hR.obj rfl ?_
          refine g_bipush (v := 8) X dX1_faultOfBringIn_35 (by decide) ?_
          refine g_icmp_lt (tgt := 42) X dX1_faultOfBringIn_37 (by decide) (fun c5 => ?_) (fun c5 => ?_)
          · refine g_aload_n X dX1_faultOfBringIn_42 rfl 0 rfl ?_
            refine g_iload_n X dX1_faultOfBringIn_43 rfl 1 rfl ?_
            refine g_callV_rd (As := [.int x]) (ci := 1) (v := some (.int (bI (inS (u.1 1) x)))) X dX1_faultOfBringIn_44 (c_X1_isIn κ.l hl κ.Γ M a u hR x) k222 k223 k224 k2 k225 rfl hR.obj ⟨rfl, by decide, by decide, (show (parseMethodDescriptor yX1_isIn.desc).map (fun d => d.parameters.length) = some 1 by decide +kernel)⟩ rfl (Nat.le_of_ble_eq_true rfl) (by rw [hRm]; decide) (by rw [hRm]; exact ⟨Nat.le_of_ble_eq_true rfl, Nat.le_of_ble_eq_true rfl⟩) ?_
            refine g_ifb_eq (tgt := 54) X dX1_faultOfBringIn_47 (by decide) (fun c6 => ?_) (fun c6 => ?_)
            · refine g_iconst (v := 5) X dX1_faultOfBringIn_54 (by decide) ?_
              exact g_iret X F dX1_faultOfBringIn_55 (by omega) (by omega) ⟨by clear X F hlt hR; (have e9 : fBring u x f la = 5 := by ((unfold fBring; try simp only [hasM, hasB, hasP, isC, isW, inS, hQuor, cN, hRust, hAhd, ← Int32.not_le, Classical.not_not] at c1 c2 c3 c4 c5 c6 ⊢); simp only [c1, c2, c3, c4, c5, c6, eq_self, not_true_eq_false, not_false_eq_true, or_false, false_or, or_true, true_or, and_true, true_and, and_false, false_and, if_true, if_false, reduceIte, ne_eq, or_self, and_self, Classical.not_not])); rw [e9], rfl⟩
            · refine g_iconst (v := 0) X dX1_faultOfBringIn_50 (by decide) ?_
              refine g_goto (tgt := 55) X dX1_faultOfBringIn_51 (by decide) ?_
              exact g_iret X F dX1_faultOfBringIn_55 (by omega) (by omega) ⟨by clear X F hlt hR; (have e9 : fBring u x f la = 0 := by ((unfold fBring; try simp only [hasM, hasB, hasP, isC, isW, inS, hQuor, cN, hRust, hAhd, ← Int32.not_le, Classical.not_not] at c1 c2 c3 c4 c5 c6 ⊢); simp only [c1, c2, c3, c4, c5, c6, eq_self, not_true_eq_false, not_false_eq_true, or_false, false_or, or_true, true_or, and_true, true_and, and_false, false_and, if_true, if_false, reduceIte, ne_eq, or_self, and_self, Classical.not_not])); rw [e9], rfl⟩
          · refine g_iconst (v := 3) X dX1_faultOfBringIn_40 (by decide) ?_
            exact g_iret X F dX1_faultOfBringIn_41 (by omega) (by omega) ⟨by clear X F hlt hR; (have e9 : fBring u x f la = 3 := by ((unfold fBring; try simp only [hasM, hasB, hasP, isC, isW, inS, hQuor, cN, hRust, hAhd, ← Int32.not_le, Classical.not_not] at c1 c2 c3 c4 c5 ⊢); simp only [c1, c2, c3, c4, c5, eq_self, not_true_eq_false, not_false_eq_true, or_false, false_or, or_true, true_or, and_true, true_and, and_false, false_and, if_true, if_false, reduceIte, ne_eq, or_self, and_self, Classical.not_not])); rw [e9], rfl⟩
        · refine g_iconst (v := 2) X dX1_faultOfBringIn_29 (by decide) ?_
          exact g_iret X F dX1_faultOfBringIn_30 (by omega) (by omega) ⟨by clear X F hlt hR; (have e9 : fBring u x f la = 2 := by ((unfold fBring; try simp only [hasM, hasB, hasP, isC, isW, inS, hQuor, cN, hRust, hAhd, ← Int32.not_le, Classical.not_not] at c1 c2 c3 c4 ⊢); simp only [c1, c2, c3, c4, eq_self, not_true_eq_false, not_false_eq_true, or_false, false_or, or_true, true_or, and_true, true_and, and_false, false_and, if_true, if_false, reduceIte, ne_eq, or_self, and_self, Classical.not_not])); rw [e9], rfl⟩
      · refine g_iconst (v := 1) X dX1_faultOfBringIn_22 (by decide) ?_
        exact g_iret X F dX1_faultOfBringIn_23 (by omega) (by omega) ⟨by clear X F hlt hR; (have e9 : fBring u x f la = 1 := by ((unfold fBring; try simp only [hasM, hasB, hasP, isC, isW, inS, hQuor, cN, hRust, hAhd, ← Int32.not_le, Classical.not_not] at c1 c2 c3 ⊢); simp only [c1, c2, c3, eq_self, not_true_eq_false, not_false_eq_true, or_false, false_or, or_true, true_or, and_true, true_and, and_false, false_and, if_true, if_false, reduceIte, ne_eq, or_self, and_self, Classical.not_not])); rw [e9], rfl⟩
set_option maxRecDepth 100000 in
set_option maxHeartbeats 4000000 in
theorem c_X1_faultOfVote (l : Launch) (hl : l.stackTraces = false) (Γ : Gm) (M : Hp) (a : Nat → Nat) (u : HV) (hR : HRep Γ a u M) (hi : HInv u) (b : Int32) (x : Int32) : Ct l Γ yX1_faultOfVote cX1_faultOfVote 3 (some .int) 1 0 0 [.ref (a 0), .int b, .int x] M (Rd (some (.int (fVote u b x))) M) := by
  refine Ct.of hl (by decide) (Nat.le_of_ble_eq_true rfl) rfl ?_
  intro κ e1 e2 hnL hRm X F hlt
  subst e1 e2
  refine g_aload_n X dX1_faultOfVote_0 rfl 0 rfl ?_
  refine g_iload_n X dX1_faultOfVote_1 rfl 1 rfl ?_
  refine g_callV_rd (As := [.int b]) (ci := 1) (v := some (.int (bI (hasB u b)))) X dX1_faultOfVote_2 (c_X1_hasBill κ.l hl κ.Γ M a u hR b) k675 k593 k594 k2 k595 rfl hR.obj ⟨rfl, by decide, by decide, (show (parseMethodDescriptor yX1_hasBill.desc).map (fun d => d.parameters.length) = some 1 by decide +kernel)⟩ rfl (Nat.le_of_ble_eq_true rfl) (by rw [hRm]; decide) (by rw [hRm]; exact ⟨Nat.le_of_ble_eq_true rfl, Nat.le_of_ble_eq_true rfl⟩) ?_
  refine g_ifb_eq (tgt := 16) X dX1_faultOfVote_5 (by decide) (fun c1 => ?_) (fun c1 => ?_)
  · refine g_iconst (v := 1) X dX1_faultOfVote_16 (by decide) ?_
    exact g_iret X F dX1_faultOfVote_17 (by omega) (by omega) ⟨by clear X F hlt hR; (have e9 : fVote u b x = 1 := by ((unfold fVote; try simp only [hasM, hasB, hasP, isC, isW, inS, hQuor, cN, hRust, hAhd, ← Int32.not_le, Classical.not_not] at c1 ⊢); simp only [c1, eq_self, not_true_eq_false, not_false_eq_true, or_false, false_or, or_true, true_or, and_true, true_and, and_false, false_and, if_true, if_false, reduceIte, ne_eq, or_self, and_self, Classical.not_not])); rw [e9], rfl⟩
  · refine g_aload_n X dX1_faultOfVote_8 rfl 0 rfl ?_
    refine g_iload_n X dX1_faultOfVote_9 rfl 2 rfl ?_
    refine g_callV_rd (As := [.int x]) (ci := 1) (v := some (.int (bI (hasM u x)))) X dX1_faultOfVote_10 (c_X1_hasMember κ.l hl κ.Γ M a u hR x) k488 k489 k490 k2 k491 rfl hR.obj ⟨rfl, by decide, by decide, (show (parseMethodDescriptor yX1_hasMember.desc).map (fun d => d.parameters.length) = some 1 by decide +kernel)⟩ rfl (Nat.le_of_ble_eq_true rfl) (by rw [hRm]; decide) (by rw [hRm]; exact ⟨Nat.le_of_ble_eq_true rfl, Nat.le_of_ble_eq_true rfl⟩) ?_
    refine g_ifb_ne (tgt := 18) X dX1_faultOfVote_13 (by decide) (fun c2 => ?_) (fun c2 => ?_)
    · refine g_aload_n X dX1_faultOfVote_18 rfl 0 rfl ?_
      refine g_get X dX1_faultOfVote_19 (ci := 1) (k := 6) (v := .ref (a 3)) rfl k54 (by decide) rfl hR.obj rfl ?_
      refine g_iload_n X dX1_faultOfVote_22 rfl 1 rfl ?_
      refine g_iaload X dX1_faultOfVote_23 (hR.row 3 (by decide) (by decide)) (hi.b c1) ?_
      refine g_if_eq (tgt := 29) X dX1_faultOfVote_24 (by decide) (fun c3 => ?_) (fun c3 => ?_)
      · refine g_aload_n X dX1_faultOfVote_29 rfl 0 rfl ?_
        refine g_iload_n X dX1_faultOfVote_30 rfl 2 rfl ?_
        refine g_callV_rd (As := [.int x]) (ci := 1) (v := some (.int (bI (inS (u.1 1) x)))) X dX1_faultOfVote_31 (c_X1_isIn κ.l hl κ.Γ M a u hR x) k222 k223 k224 k2 k225 rfl hR.obj ⟨rfl, by decide, by decide, (show (parseMethodDescriptor yX1_isIn.desc).map (fun d => d.parameters.length) = some 1 by decide +kernel)⟩ rfl (Nat.le_of_ble_eq_true rfl) (by rw [hRm]; decide) (by rw [hRm]; exact ⟨Nat.le_of_ble_eq_true rfl, Nat.le_of_ble_eq_true rfl⟩) ?_
        refine g_ifb_eq (tgt := 41) X dX1_faultOfVote_34 (by decide) (fun c4 => ?_) (fun c4 => ?_)
        · refine g_iconst (v := 5) X dX1_faultOfVote_41 (by decide) ?_
          exact g_iret X F dX1_faultOfVote_42 (by omega) (by omega) ⟨by clear X F hlt hR; (have e9 : fVote u b x = 5 := by ((unfold fVote; try simp only [hasM, hasB, hasP, isC, isW, inS, hQuor, cN, hRust, hAhd, ← Int32.not_le, Classical.not_not] at c1 c2 c3 c4 ⊢); simp only [c1, c2, c3, c4, eq_self, not_true_eq_false, not_false_eq_true, or_false, false_or, or_true, true_or, and_true, true_and, and_false, false_and, if_true, if_false, reduceIte, ne_eq, or_self, and_self, Classical.not_not])); rw [e9], rfl⟩
        · refine g_iconst (v := 0) X dX1_faultOfVote_37 (by decide) ?_
          refine g_goto (tgt := 42) X dX1_faultOfVote_38 (by decide) ?_
          exact g_iret X F dX1_faultOfVote_42 (by omega) (by omega) ⟨by clear X F hlt hR; (have e9 : fVote u b x = 0 := by ((unfold fVote; try simp only [hasM, hasB, hasP, isC, isW, inS, hQuor, cN, hRust, hAhd, ← Int32.not_le, Classical.not_not] at c1 c2 c3 c4 ⊢); simp only [c1, c2, c3, c4, eq_self, not_true_eq_false, not_false_eq_true, or_false, false_or, or_true, true_or, and_true, true_and, and_false, false_and, if_true, if_false, reduceIte, ne_eq, or_self, and_self, Classical.not_not])); rw [e9], rfl⟩
      · refine g_iconst (v := 3) X dX1_faultOfVote_27 (by decide) ?_
        exact g_iret X F dX1_faultOfVote_28 (by omega) (by omega) ⟨by clear X F hlt hR; (have e9 : fVote u b x = 3 := by ((unfold fVote; try simp only [hasM, hasB, hasP, isC, isW, inS, hQuor, cN, hRust, hAhd, ← Int32.not_le, Classical.not_not] at c1 c2 c3 ⊢); simp only [c1, c2, c3, eq_self, not_true_eq_false, not_false_eq_true, or_false, false_or, or_true, true_or, and_true, true_and, and_false, false_and, if_true, if_false, reduceIte, ne_eq, or_self, and_self, Classical.not_not])); rw [e9], rfl⟩
    · refine g_iconst (v := 1) X dX1_faultOfVote_16 (by decide) ?_
      exact g_iret X F dX1_faultOfVote_17 (by omega) (by omega) ⟨by clear X F hlt hR; (have e9 : fVote u b x = 1 := by ((unfold fVote; try simp only [hasM, hasB, hasP, isC, isW, inS, hQuor, cN, hRust, hAhd, ← Int32.not_le, Classical.not_not] at c1 c2 ⊢); simp only [c1, c2, eq_self, not_true_eq_false, not_false_eq_true, or_false, false_or, or_true, true_or, and_true, true_and, and_false, false_and, if_true, if_false, reduceIte, ne_eq, or_self, and_self, Classical.not_not])); rw [e9], rfl⟩
set_option maxRecDepth 100000 in
set_option maxHeartbeats 4000000 in
theorem c_X1_faultOfEndReading (l : Launch) (hl : l.stackTraces = false) (Γ : Gm) (M : Hp) (a : Nat → Nat) (u : HV) (hR : HRep Γ a u M) (hi : HInv u) (b : Int32) : Ct l Γ yX1_faultOfEndReading cX1_faultOfEndReading 2 (some .int) 2 0 0 [.ref (a 0), .int b] M (Rd (some (.int (fEnd u b))) M) := by
  refine Ct.of hl (by decide) (Nat.le_of_ble_eq_true rfl) rfl ?_
  intro κ e1 e2 hnL hRm X F hlt
  subst e1 e2
  refine g_aload_n X dX1_faultOfEndReading_0 rfl 0 rfl ?_
  refine g_iload_n X dX1_faultOfEndReading_1 rfl 1 rfl ?_
  refine g_callV_rd (As := [.int b]) (ci := 1) (v := some (.int (bI (hasB u b)))) X dX1_faultOfEndReading_2 (c_X1_hasBill κ.l hl κ.Γ M a u hR b) k675 k593 k594 k2 k595 rfl hR.obj ⟨rfl, by decide, by decide, (show (parseMethodDescriptor yX1_hasBill.desc).map (fun d => d.parameters.length) = some 1 by decide +kernel)⟩ rfl (Nat.le_of_ble_eq_true rfl) (by rw [hRm]; decide) (by rw [hRm]; exact ⟨Nat.le_of_ble_eq_true rfl, Nat.le_of_ble_eq_true rfl⟩) ?_
  refine g_ifb_ne (tgt := 10) X dX1_faultOfEndReading_5 (by decide) (fun c1 => ?_) (fun c1 => ?_)
  · refine g_aload_n X dX1_faultOfEndReading_10 rfl 0 rfl ?_
    refine g_get X dX1_faultOfEndReading_11 (ci := 1) (k := 6) (v := .ref (a 3)) rfl k54 (by decide) rfl hR.obj rfl ?_
    refine g_iload_n X dX1_faultOfEndReading_14 rfl 1 rfl ?_
    refine g_iaload X dX1_faultOfEndReading_15 (hR.row 3 (by decide) (by decide)) (hi.b c1) ?_
    refine g_if_eq (tgt := 21) X dX1_faultOfEndReading_16 (by decide) (fun c2 => ?_) (fun c2 => ?_)
    · refine g_aload_n X dX1_faultOfEndReading_21 rfl 0 rfl ?_
      refine g_callV_rd (As := []) (ci := 1) (v := some (.int (bI (hQuor u)))) X dX1_faultOfEndReading_22 (c_X1_hasQuorum κ.l hl κ.Γ M a u hR) k724 k205 k206 k2 k207 rfl hR.obj ⟨rfl, by decide, by decide, (show (parseMethodDescriptor yX1_hasQuorum.desc).map (fun d => d.parameters.length) = some 0 by decide +kernel)⟩ rfl (Nat.le_of_ble_eq_true rfl) (by rw [hRm]; decide) (by rw [hRm]; exact ⟨Nat.le_of_ble_eq_true rfl, Nat.le_of_ble_eq_true rfl⟩) ?_
      refine g_ifb_eq (tgt := 41) X dX1_faultOfEndReading_25 (by decide) (fun c3 => ?_) (fun c3 => ?_)
      · refine g_iconst (v := 5) X dX1_faultOfEndReading_41 (by decide) ?_
        exact g_iret X F dX1_faultOfEndReading_42 (by omega) (by omega) ⟨by clear X F hlt hR; (have e9 : fEnd u b = 5 := by ((unfold fEnd; try simp only [hasM, hasB, hasP, isC, isW, inS, hQuor, cN, hRust, hAhd, ← Int32.not_le, Classical.not_not] at c1 c2 c3 ⊢); simp only [c1, c2, c3, eq_self, not_true_eq_false, not_false_eq_true, or_false, false_or, or_true, true_or, and_true, true_and, and_false, false_and, if_true, if_false, reduceIte, ne_eq, or_self, and_self, Classical.not_not])); rw [e9], rfl⟩
      · refine g_aload_n X dX1_faultOfEndReading_28 rfl 0 rfl ?_
        refine g_get X dX1_faultOfEndReading_29 (ci := 1) (k := 12) (v := .ref (a 8)) rfl k66 (by decide) rfl hR.obj rfl ?_
        refine g_iload_n X dX1_faultOfEndReading_32 rfl 1 rfl ?_
        refine g_iaload X dX1_faultOfEndReading_33 (hR.row 8 (by decide) (by decide)) (hi.b c1) ?_
        refine g_if_ne (tgt := 41) X dX1_faultOfEndReading_34 (by decide) (fun c4 => ?_) (fun c4 => ?_)
        · refine g_iconst (v := 5) X dX1_faultOfEndReading_41 (by decide) ?_
          exact g_iret X F dX1_faultOfEndReading_42 (by omega) (by omega) ⟨by clear X F hlt hR; (have e9 : fEnd u b = 5 := by ((unfold fEnd; try simp only [hasM, hasB, hasP, isC, isW, inS, hQuor, cN, hRust, hAhd, ← Int32.not_le, Classical.not_not] at c1 c2 c3 c4 ⊢); simp only [c1, c2, c3, c4, eq_self, not_true_eq_false, not_false_eq_true, or_false, false_or, or_true, true_or, and_true, true_and, and_false, false_and, if_true, if_false, reduceIte, ne_eq, or_self, and_self, Classical.not_not])); rw [e9], rfl⟩
        · refine g_iconst (v := 0) X dX1_faultOfEndReading_37 (by decide) ?_
          refine g_goto (tgt := 42) X dX1_faultOfEndReading_38 (by decide) ?_
          exact g_iret X F dX1_faultOfEndReading_42 (by omega) (by omega) ⟨by clear X F hlt hR; (have e9 : fEnd u b = 0 := by ((unfold fEnd; try simp only [hasM, hasB, hasP, isC, isW, inS, hQuor, cN, hRust, hAhd, ← Int32.not_le, Classical.not_not] at c1 c2 c3 c4 ⊢); simp only [c1, c2, c3, c4, eq_self, not_true_eq_false, not_false_eq_true, or_false, false_or, or_true, true_or, and_true, true_and, and_false, false_and, if_true, if_false, reduceIte, ne_eq, or_self, and_self, Classical.not_not])); rw [e9], rfl⟩
    · refine g_iconst (v := 3) X dX1_faultOfEndReading_19 (by decide) ?_
      exact g_iret X F dX1_faultOfEndReading_20 (by omega) (by omega) ⟨by clear X F hlt hR; (have e9 : fEnd u b = 3 := by ((unfold fEnd; try simp only [hasM, hasB, hasP, isC, isW, inS, hQuor, cN, hRust, hAhd, ← Int32.not_le, Classical.not_not] at c1 c2 ⊢); simp only [c1, c2, eq_self, not_true_eq_false, not_false_eq_true, or_false, false_or, or_true, true_or, and_true, true_and, and_false, false_and, if_true, if_false, reduceIte, ne_eq, or_self, and_self, Classical.not_not])); rw [e9], rfl⟩
  · refine g_iconst (v := 1) X dX1_faultOfEndReading_8 (by decide) ?_
    exact g_iret X F dX1_faultOfEndReading_9 (by omega) (by omega) ⟨by clear X F hlt hR; (have e9 : fEnd u b = 1 := by ((unfold fEnd; try simp only [hasM, hasB, hasP, isC, isW, inS, hQuor, cN, hRust, hAhd, ← Int32.not_le, Classical.not_not] at c1 ⊢); simp only [c1, eq_self, not_true_eq_false, not_false_eq_true, or_false, false_or, or_true, true_or, and_true, true_and, and_false, false_and, if_true, if_false, reduceIte, ne_eq, or_self, and_self, Classical.not_not])); rw [e9], rfl⟩
set_option maxRecDepth 100000 in
set_option maxHeartbeats 4000000 in
theorem c_X1_faultOfMove (l : Launch) (hl : l.stackTraces = false) (Γ : Gm) (M : Hp) (a : Nat → Nat) (u : HV) (hR : HRep Γ a u M) (hi : HInv u) (b : Int32) (x : Int32) (c : Int32) : Ct l Γ yX1_faultOfMove cX1_faultOfMove 4 (some .int) 1 0 0 [.ref (a 0), .int b, .int x, .int c] M (Rd (some (.int (fMove u b x c))) M) := by
  refine Ct.of hl (by decide) (Nat.le_of_ble_eq_true rfl) rfl ?_
  intro κ e1 e2 hnL hRm X F hlt
  subst e1 e2
  refine g_aload_n X dX1_faultOfMove_0 rfl 0 rfl ?_
  refine g_iload_n X dX1_faultOfMove_1 rfl 1 rfl ?_
  refine g_callV_rd (As := [.int b]) (ci := 1) (v := some (.int (bI (hasB u b)))) X dX1_faultOfMove_2 (c_X1_hasBill κ.l hl κ.Γ M a u hR b) k675 k593 k594 k2 k595 rfl hR.obj ⟨rfl, by decide, by decide, (show (parseMethodDescriptor yX1_hasBill.desc).map (fun d => d.parameters.length) = some 1 by decide +kernel)⟩ rfl (Nat.le_of_ble_eq_true rfl) (by rw [hRm]; decide) (by rw [hRm]; exact ⟨Nat.le_of_ble_eq_true rfl, Nat.le_of_ble_eq_true rfl⟩) ?_
  refine g_ifb_eq (tgt := 23) X dX1_faultOfMove_5 (by decide) (fun c1 => ?_) (fun c1 => ?_)
  · refine g_iconst (v := 1) X dX1_faultOfMove_23 (by decide) ?_
    exact g_iret X F dX1_faultOfMove_24 (by omega) (by omega) ⟨by clear X F hlt hR; (have e9 : fMove u b x c = 1 := by ((unfold fMove; try simp only [hasM, hasB, hasP, isC, isW, inS, hQuor, cN, hRust, hAhd, ← Int32.not_le, Classical.not_not] at c1 ⊢); simp only [c1, eq_self, not_true_eq_false, not_false_eq_true, or_false, false_or, or_true, true_or, and_true, true_and, and_false, false_and, if_true, if_false, reduceIte, ne_eq, or_self, and_self, Classical.not_not])); rw [e9], rfl⟩
  · refine g_aload_n X dX1_faultOfMove_8 rfl 0 rfl ?_
    refine g_iload_n X dX1_faultOfMove_9 rfl 2 rfl ?_
    refine g_callV_rd (As := [.int x]) (ci := 1) (v := some (.int (bI (hasM u x)))) X dX1_faultOfMove_10 (c_X1_hasMember κ.l hl κ.Γ M a u hR x) k488 k489 k490 k2 k491 rfl hR.obj ⟨rfl, by decide, by decide, (show (parseMethodDescriptor yX1_hasMember.desc).map (fun d => d.parameters.length) = some 1 by decide +kernel)⟩ rfl (Nat.le_of_ble_eq_true rfl) (by rw [hRm]; decide) (by rw [hRm]; exact ⟨Nat.le_of_ble_eq_true rfl, Nat.le_of_ble_eq_true rfl⟩) ?_
    refine g_ifb_eq (tgt := 23) X dX1_faultOfMove_13 (by decide) (fun c2 => ?_) (fun c2 => ?_)
    · refine g_iconst (v := 1) X dX1_faultOfMove_23 (by decide) ?_
      exact g_iret X F dX1_faultOfMove_24 (by omega) (by omega) ⟨by clear X F hlt hR; (have e9 : fMove u b x c = 1 := by ((unfold fMove; try simp only [hasM, hasB, hasP, isC, isW, inS, hQuor, cN, hRust, hAhd, ← Int32.not_le, Classical.not_not] at c1 c2 ⊢); simp only [c1, c2, eq_self, not_true_eq_false, not_false_eq_true, or_false, false_or, or_true, true_or, and_true, true_and, and_false, false_and, if_true, if_false, reduceIte, ne_eq, or_self, and_self, Classical.not_not])); rw [e9], rfl⟩
    · refine g_iload_n X dX1_faultOfMove_16 rfl 3 rfl ?_
      refine g_callSN_rd (As := [.int c]) (v := some (.int (bI (isC c)))) X dX1_faultOfMove_17 (c_X3_isClause κ.l hl κ.Γ M c) k573 k574 k1 k575 ⟨by decide, by decide, (show (parseMethodDescriptor yX3_isClause.desc).map (fun d => d.parameters.length) = some 1 by decide +kernel)⟩ rfl (Nat.le_of_ble_eq_true rfl) (by rw [hRm]; decide) (by rw [hRm]; exact ⟨Nat.le_of_ble_eq_true rfl, Nat.le_of_ble_eq_true rfl⟩) ?_
      refine g_ifb_ne (tgt := 25) X dX1_faultOfMove_20 (by decide) (fun c3 => ?_) (fun c3 => ?_)
      · refine g_aload_n X dX1_faultOfMove_25 rfl 0 rfl ?_
        refine g_get X dX1_faultOfMove_26 (ci := 1) (k := 6) (v := .ref (a 3)) rfl k54 (by decide) rfl hR.obj rfl ?_
        refine g_iload_n X dX1_faultOfMove_29 rfl 1 rfl ?_
        refine g_iaload X dX1_faultOfMove_30 (hR.row 3 (by decide) (by decide)) (hi.b c1) ?_
        refine g_if_ne (tgt := 44) X dX1_faultOfMove_31 (by decide) (fun c4 => ?_) (fun c4 => ?_)
        · refine g_iconst (v := 3) X dX1_faultOfMove_44 (by decide) ?_
          exact g_iret X F dX1_faultOfMove_45 (by omega) (by omega) ⟨by clear X F hlt hR; (have e9 : fMove u b x c = 3 := by ((unfold fMove; try simp only [hasM, hasB, hasP, isC, isW, inS, hQuor, cN, hRust, hAhd, ← Int32.not_le, Classical.not_not] at c1 c2 c3 c4 ⊢); simp only [c1, c2, c3, c4, eq_self, not_true_eq_false, not_false_eq_true, or_false, false_or, or_true, true_or, and_true, true_and, and_false, false_and, if_true, if_false, reduceIte, ne_eq, or_self, and_self, Classical.not_not])); rw [e9], rfl⟩
        · refine g_aload_n X dX1_faultOfMove_34 rfl 0 rfl ?_
          refine g_get X dX1_faultOfMove_35 (ci := 1) (k := 12) (v := .ref (a 8)) rfl k66 (by decide) rfl hR.obj rfl ?_
          refine g_iload_n X dX1_faultOfMove_38 rfl 1 rfl ?_
          refine g_iaload X dX1_faultOfMove_39 (hR.row 8 (by decide) (by decide)) (hi.b c1) ?_
          refine g_iconst (v := 4) X dX1_faultOfMove_40 (by decide) ?_
          refine g_icmp_lt (tgt := 46) X dX1_faultOfMove_41 (by decide) (fun c5 => ?_) (fun c5 => ?_)
          · refine g_aload_n X dX1_faultOfMove_46 rfl 0 rfl ?_
            refine g_iload_n X dX1_faultOfMove_47 rfl 2 rfl ?_
            refine g_callV_rd (As := [.int x]) (ci := 1) (v := some (.int (bI (inS (u.1 1) x)))) X dX1_faultOfMove_48 (c_X1_isIn κ.l hl κ.Γ M a u hR x) k222 k223 k224 k2 k225 rfl hR.obj ⟨rfl, by decide, by decide, (show (parseMethodDescriptor yX1_isIn.desc).map (fun d => d.parameters.length) = some 1 by decide +kernel)⟩ rfl (Nat.le_of_ble_eq_true rfl) (by rw [hRm]; decide) (by rw [hRm]; exact ⟨Nat.le_of_ble_eq_true rfl, Nat.le_of_ble_eq_true rfl⟩) ?_
            refine g_ifb_eq (tgt := 58) X dX1_faultOfMove_51 (by decide) (fun c6 => ?_) (fun c6 => ?_)
            · refine g_iconst (v := 5) X dX1_faultOfMove_58 (by decide) ?_
              exact g_iret X F dX1_faultOfMove_59 (by omega) (by omega) ⟨by clear X F hlt hR; (have e9 : fMove u b x c = 5 := by ((unfold fMove; try simp only [hasM, hasB, hasP, isC, isW, inS, hQuor, cN, hRust, hAhd, ← Int32.not_le, Classical.not_not] at c1 c2 c3 c4 c5 c6 ⊢); simp only [c1, c2, c3, c4, c5, c6, eq_self, not_true_eq_false, not_false_eq_true, or_false, false_or, or_true, true_or, and_true, true_and, and_false, false_and, if_true, if_false, reduceIte, ne_eq, or_self, and_self, Classical.not_not])); rw [e9], rfl⟩
            · refine g_iconst (v := 0) X dX1_faultOfMove_54 (by decide) ?_
              refine g_goto (tgt := 59) X dX1_faultOfMove_55 (by decide) ?_
              exact g_iret X F dX1_faultOfMove_59 (by omega) (by omega) ⟨by clear X F hlt hR; (have e9 : fMove u b x c = 0 := by ((unfold fMove; try simp only [hasM, hasB, hasP, isC, isW, inS, hQuor, cN, hRust, hAhd, ← Int32.not_le, Classical.not_not] at c1 c2 c3 c4 c5 c6 ⊢); simp only [c1, c2, c3, c4, c5, c6, eq_self, not_true_eq_false, not_false_eq_true, or_false, false_or, or_true, true_or, and_true, true_and, and_false, false_and, if_true, if_false, reduceIte, ne_eq, or_self, and_self, Classical.not_not])); rw [e9], rfl⟩
          · refine g_iconst (v := 3) X dX1_faultOfMove_44 (by decide) ?_
            exact g_iret X F dX1_faultOfMove_45 (by omega) (by omega) ⟨by clear X F hlt hR; (have e9 : fMove u b x c = 3 := by ((unfold fMove; try simp only [hasM, hasB, hasP, isC, isW, inS, hQuor, cN, hRust, hAhd, ← Int32.not_le, Classical.not_not] at c1 c2 c3 c4 c5 ⊢); simp only [c1, c2, c3, c4, c5, eq_self, not_true_eq_false, not_false_eq_true, or_false, false_or, or_true, true_or, and_true, true_and, and_false, false_and, if_true, if_false, reduceIte, ne_eq, or_self, and_self, Classical.not_not])); rw [e9], rfl⟩
      · refine g_iconst (v := 1) X dX1_faultOfMove_23 (by decide) ?_
        exact g_iret X F dX1_faultOfMove_24 (by omega) (by omega) ⟨by clear X F hlt hR; (have e9 : fMove u b x c = 1 := by ((unfold fMove; try simp only [hasM, hasB, hasP, isC, isW, inS, hQuor, cN, hRust, hAhd, ← Int32.not_le, Classical.not_not] at c1 c2 c3 ⊢); simp only [c1, c2, c3, eq_self, not_true_eq_false, not_false_eq_true, or_false, false_or, or_true, true_or, and_true, true_and, and_false, false_and, if_true, if_false, reduceIte, ne_eq, or_self, and_self, Classical.not_not])); rw [e9], rfl⟩
set_option maxRecDepth 100000 in
set_option maxHeartbeats 4000000 in
theorem c_X1_faultOfSecond (l : Launch) (hl : l.stackTraces = false) (Γ : Gm) (M : Hp) (a : Nat → Nat) (u : HV) (hR : HRep Γ a u M) (hi : HInv u) (b : Int32) (p : Int32) (x : Int32) : Ct l Γ yX1_faultOfSecond cX1_faultOfSecond 4 (some .int) 1 0 0 [.ref (a 0), .int b, .int p, .int x] M (Rd (some (.int (fSecond u b p x))) M) := by
  refine Ct.of hl (by decide) (Nat.le_of_ble_eq_true rfl) rfl ?_
  intro κ e1 e2 hnL hRm X F hlt
  subst e1 e2
  refine g_aload_n X dX1_faultOfSecond_0 rfl 0 rfl ?_
  refine g_iload_n X dX1_faultOfSecond_1 rfl 1 rfl ?_
  refine g_callV_rd (As := [.int b]) (ci := 1) (v := some (.int (bI (hasB u b)))) X dX1_faultOfSecond_2 (c_X1_hasBill κ.l hl κ.Γ M a u hR b) k675 k593 k594 k2 k595 rfl hR.obj ⟨rfl, by decide, by decide, (show (parseMethodDescriptor yX1_hasBill.desc).map (fun d => d.parameters.length) = some 1 by decide +kernel)⟩ rfl (Nat.le_of_ble_eq_true rfl) (by rw [hRm]; decide) (by rw [hRm]; exact ⟨Nat.le_of_ble_eq_true rfl, Nat.le_of_ble_eq_true rfl⟩) ?_
  refine g_ifb_eq (tgt := 16) X dX1_faultOfSecond_5 (by decide) (fun c1 => ?_) (fun c1 => ?_)
  · refine g_iconst (v := 1) X dX1_faultOfSecond_16 (by decide) ?_
    exact g_iret X F dX1_faultOfSecond_17 (by omega) (by omega) ⟨by clear X F hlt hR; (have e9 : fSecond u b p x = 1 := by ((unfold fSecond; try simp only [hasM, hasB, hasP, isC, isW, inS, hQuor, cN, hRust, hAhd, ← Int32.not_le, Classical.not_not] at c1 ⊢); simp only [c1, eq_self, not_true_eq_false, not_false_eq_true, or_false, false_or, or_true, true_or, and_true, true_and, and_false, false_and, if_true, if_false, reduceIte, ne_eq, or_self, and_self, Classical.not_not])); rw [e9], rfl⟩
  · refine g_aload_n X dX1_faultOfSecond_8 rfl 0 rfl ?_
    refine g_iload_n X dX1_faultOfSecond_9 rfl 3 rfl ?_
    refine g_callV_rd (As := [.int x]) (ci := 1) (v := some (.int (bI (hasM u x)))) X dX1_faultOfSecond_10 (c_X1_hasMember κ.l hl κ.Γ M a u hR x) k488 k489 k490 k2 k491 rfl hR.obj ⟨rfl, by decide, by decide, (show (parseMethodDescriptor yX1_hasMember.desc).map (fun d => d.parameters.length) = some 1 by decide +kernel)⟩ rfl (Nat.le_of_ble_eq_true rfl) (by rw [hRm]; decide) (by rw [hRm]; exact ⟨Nat.le_of_ble_eq_true rfl, Nat.le_of_ble_eq_true rfl⟩) ?_
    refine g_ifb_ne (tgt := 18) X dX1_faultOfSecond_13 (by decide) (fun c2 => ?_) (fun c2 => ?_)
    · refine g_aload_n X dX1_faultOfSecond_18 rfl 0 rfl ?_
      refine g_get X dX1_faultOfSecond_19 (ci := 1) (k := 6) (v := .ref (a 3)) rfl k54 (by decide) rfl hR.obj rfl ?_
      refine g_iload_n X dX1_faultOfSecond_22 rfl 1 rfl ?_
      refine g_iaload X dX1_faultOfSecond_23 (hR.row 3 (by decide) (by decide)) (hi.b c1) ?_
      refine g_if_eq (tgt := 29) X dX1_faultOfSecond_24 (by decide) (fun c3 => ?_) (fun c3 => ?_)
      · refine g_aload_n X dX1_faultOfSecond_29 rfl 0 rfl ?_
        refine g_iload_n X dX1_faultOfSecond_30 rfl 1 rfl ?_
        refine g_iload_n X dX1_faultOfSecond_31 rfl 2 rfl ?_
        refine g_callV_rd (As := [.int b, .int p]) (ci := 1) (v := some (.int (bI (hasP u b p)))) X dX1_faultOfSecond_32 (c_X1_hasPending κ.l hl κ.Γ M a u hR b p (hi.b c1)) k759 k760 k761 k2 k762 rfl hR.obj ⟨rfl, by decide, by decide, (show (parseMethodDescriptor yX1_hasPending.desc).map (fun d => d.parameters.length) = some 2 by decide +kernel)⟩ rfl (Nat.le_of_ble_eq_true rfl) (by rw [hRm]; decide) (by rw [hRm]; exact ⟨Nat.le_of_ble_eq_true rfl, Nat.le_of_ble_eq_true rfl⟩) ?_
        refine g_ifb_ne (tgt := 40) X dX1_faultOfSecond_35 (by decide) (fun c4 => ?_) (fun c4 => ?_)
        · refine g_aload_n X dX1_faultOfSecond_40 rfl 0 rfl ?_
          refine g_iload_n X dX1_faultOfSecond_41 rfl 3 rfl ?_
          refine g_callV_rd (As := [.int x]) (ci := 1) (v := some (.int (bI (inS (u.1 1) x)))) X dX1_faultOfSecond_42 (c_X1_isIn κ.l hl κ.Γ M a u hR x) k222 k223 k224 k2 k225 rfl hR.obj ⟨rfl, by decide, by decide, (show (parseMethodDescriptor yX1_isIn.desc).map (fun d => d.parameters.length) = some 1 by decide +kernel)⟩ rfl (Nat.le_of_ble_eq_true rfl) (by rw [hRm]; decide) (by rw [hRm]; exact ⟨Nat.le_of_ble_eq_true rfl, Nat.le_of_ble_eq_true rfl⟩) ?_
          refine g_ifb_eq (tgt := 52) X dX1_faultOfSecond_45 (by decide) (fun c5 => ?_) (fun c5 => ?_)
          · refine g_iconst (v := 5) X dX1_faultOfSecond_52 (by decide) ?_
            exact g_iret X F dX1_faultOfSecond_53 (by omega) (by omega) ⟨by clear X F hlt hR; (have e9 : fSecond u b p x = 5 := by ((unfold fSecond; try simp only [hasM, hasB, hasP, isC, isW, inS, hQuor, cN, hRust, hAhd, ← Int32.not_le, Classical.not_not] at c1 c2 c3 c4 c5 ⊢); simp only [c1, c2, c3, c4, c5, eq_self, not_true_eq_false, not_false_eq_true, or_false, false_or, or_true, true_or, and_true, true_and, and_false, false_and, if_true, if_false, reduceIte, ne_eq, or_self, and_self, Classical.not_not])); rw [e9], rfl⟩
          · refine g_iconst (v := 0) X dX1_faultOfSecond_48 (by decide) ?_
            refine g_goto (tgt := 53) X dX1_faultOfSecond_49 (by decide) ?_
            exact g_iret X F dX1_faultOfSecond_53 (by omega) (by omega) ⟨by clear X F hlt hR; (have e9 : fSecond u b p x = 0 := by ((unfold fSecond; try simp only [hasM, hasB, hasP, isC, isW, inS, hQuor, cN, hRust, hAhd, ← Int32.not_le, Classical.not_not] at c1 c2 c3 c4 c5 ⊢); simp only [c1, c2, c3, c4, c5, eq_self, not_true_eq_false, not_false_eq_true, or_false, false_or, or_true, true_or, and_true, true_and, and_false, false_and, if_true, if_false, reduceIte, ne_eq, or_self, and_self, Classical.not_not])); rw [e9], rfl⟩
        · refine g_iconst (v := 4) X dX1_faultOfSecond_38 (by decide) ?_
          exact g_iret X F dX1_faultOfSecond_39 (by omega) (by omega) ⟨by clear X F hlt hR; (have e9 : fSecond u b p x = 4 := by ((unfold fSecond; try simp only [hasM, hasB, hasP, isC, isW, inS, hQuor, cN, hRust, hAhd, ← Int32.not_le, Classical.not_not] at c1 c2 c3 c4 ⊢); simp only [c1, c2, c3, c4, eq_self, not_true_eq_false, not_false_eq_true, or_false, false_or, or_true, true_or, and_true, true_and, and_false, false_and, if_true, if_false, reduceIte, ne_eq, or_self, and_self, Classical.not_not])); rw [e9], rfl⟩
      · refine g_iconst (v := 3) X dX1_faultOfSecond_27 (by decide) ?_
        exact g_iret X F dX1_faultOfSecond_28 (by omega) (by omega) ⟨by clear X F hlt hR; (have e9 : fSecond u b p x = 3 := by ((unfold fSecond; try simp only [hasM, hasB, hasP, isC, isW, inS, hQuor, cN, hRust, hAhd, ← Int32.not_le, Classical.not_not] at c1 c2 c3 ⊢); simp only [c1, c2, c3, eq_self, not_true_eq_false, not_false_eq_true, or_false, false_or, or_true, true_or, and_true, true_and, and_false, false_and, if_true, if_false, reduceIte, ne_eq, or_self, and_self, Classical.not_not])); rw [e9], rfl⟩
    · refine g_iconst (v := 1) X dX1_faultOfSecond_16 (by decide) ?_
      exact g_iret X F dX1_faultOfSecond_17 (by omega) (by omega) ⟨by clear X F hlt hR; (have e9 : fSecond u b p x = 1 := by ((unfold fSecond; try simp only [hasM, hasB, hasP, isC, isW, inS, hQuor, cN, hRust, hAhd, ← Int32.not_le, Classical.not_not] at c1 c2 ⊢); simp only [c1, c2, eq_self, not_true_eq_false, not_false_eq_true, or_false, false_or, or_true, true_or, and_true, true_and, and_false, false_and, if_true, if_false, reduceIte, ne_eq, or_self, and_self, Classical.not_not])); rw [e9], rfl⟩
set_option maxRecDepth 100000 in
set_option maxHeartbeats 4000000 in
theorem c_X1_faultOfDecideFirst (l : Launch) (hl : l.stackTraces = false) (Γ : Gm) (M : Hp) (a : Nat → Nat) (u : HV) (hR : HRep Γ a u M) (hi : HInv u) (b : Int32) : Ct l Γ yX1_faultOfDecideFirst cX1_faultOfDecideFirst 2 (some .int) 2 0 0 [.ref (a 0), .int b] M (Rd (some (.int (fDecide u b))) M) := by
  refine Ct.of hl (by decide) (Nat.le_of_ble_eq_true rfl) rfl ?_
  intro κ e1 e2 hnL hRm X F hlt
  subst e1 e2
  refine g_aload_n X dX1_faultOfDecideFirst_0 rfl 0 rfl ?_
  refine g_iload_n X dX1_faultOfDecideFirst_1 rfl 1 rfl ?_
  refine g_callV_rd (As := [.int b]) (ci := 1) (v := some (.int (bI (hasB u b)))) X dX1_faultOfDecideFirst_2 (c_X1_hasBill κ.l hl κ.Γ M a u hR b) k675 k593 k594 k2 k595 rfl hR.obj ⟨rfl, by decide, by decide, (show (parseMethodDescriptor yX1_hasBill.desc).map (fun d => d.parameters.length) = some 1 by decide +kernel)⟩ rfl (Nat.le_of_ble_eq_true rfl) (by rw [hRm]; decide) (by rw [hRm]; exact ⟨Nat.le_of_ble_eq_true rfl, Nat.le_of_ble_eq_true rfl⟩) ?_
  refine g_ifb_ne (tgt := 10) X dX1_faultOfDecideFirst_5 (by decide) (fun c1 => ?_) (fun c1 => ?_)
  · refine g_aload_n X dX1_faultOfDecideFirst_10 rfl 0 rfl ?_
    refine g_get X dX1_faultOfDecideFirst_11 (ci := 1) (k := 6) (v := .ref (a 3)) rfl k54 (by decide) rfl hR.obj rfl ?_
    refine g_iload_n X dX1_faultOfDecideFirst_14 rfl 1 rfl ?_
    refine g_iaload X dX1_faultOfDecideFirst_15 (hR.row 3 (by decide) (by decide)) (hi.b c1) ?_
    refine g_if_eq (tgt := 21) X dX1_faultOfDecideFirst_16 (by decide) (fun c2 => ?_) (fun c2 => ?_)
    · refine g_aload_n X dX1_faultOfDecideFirst_21 rfl 0 rfl ?_
      refine g_get X dX1_faultOfDecideFirst_22 (ci := 1) (k := 12) (v := .ref (a 8)) rfl k66 (by decide) rfl hR.obj rfl ?_
      refine g_iload_n X dX1_faultOfDecideFirst_25 rfl 1 rfl ?_
      refine g_iaload X dX1_faultOfDecideFirst_26 (hR.row 8 (by decide) (by decide)) (hi.b c1) ?_
      refine g_if_ne (tgt := 32) X dX1_faultOfDecideFirst_27 (by decide) (fun c3 => ?_) (fun c3 => ?_)
      · refine g_aload_n X dX1_faultOfDecideFirst_32 rfl 0 rfl ?_
        refine g_callV_rd (As := []) (ci := 1) (v := some (.int (bI (hQuor u)))) X dX1_faultOfDecideFirst_33 (c_X1_hasQuorum κ.l hl κ.Γ M a u hR) k724 k205 k206 k2 k207 rfl hR.obj ⟨rfl, by decide, by decide, (show (parseMethodDescriptor yX1_hasQuorum.desc).map (fun d => d.parameters.length) = some 0 by decide +kernel)⟩ rfl (Nat.le_of_ble_eq_true rfl) (by rw [hRm]; decide) (by rw [hRm]; exact ⟨Nat.le_of_ble_eq_true rfl, Nat.le_of_ble_eq_true rfl⟩) ?_
        refine g_ifb_eq (tgt := 43) X dX1_faultOfDecideFirst_36 (by decide) (fun c4 => ?_) (fun c4 => ?_)
        · refine g_iconst (v := 5) X dX1_faultOfDecideFirst_43 (by decide) ?_
          exact g_iret X F dX1_faultOfDecideFirst_44 (by omega) (by omega) ⟨by clear X F hlt hR; (have e9 : fDecide u b = 5 := by ((unfold fDecide; try simp only [hasM, hasB, hasP, isC, isW, inS, hQuor, cN, hRust, hAhd, ← Int32.not_le, Classical.not_not] at c1 c2 c3 c4 ⊢); simp only [c1, c2, c3, c4, eq_self, not_true_eq_false, not_false_eq_true, or_false, false_or, or_true, true_or, and_true, true_and, and_false, false_and, if_true, if_false, reduceIte, ne_eq, or_self, and_self, Classical.not_not])); rw [e9], rfl⟩
        · refine g_iconst (v := 0) X dX1_faultOfDecideFirst_39 (by decide) ?_
          refine g_goto (tgt := 44) X dX1_faultOfDecideFirst_40 (by decide) ?_
          exact g_iret X F dX1_faultOfDecideFirst_44 (by omega) (by omega) ⟨by clear X F hlt hR; (have e9 : fDecide u b = 0 := by ((unfold fDecide; try simp only [hasM, hasB, hasP, isC, isW, inS, hQuor, cN, hRust, hAhd, ← Int32.not_le, Classical.not_not] at c1 c2 c3 c4 ⊢); simp only [c1, c2, c3, c4, eq_self, not_true_eq_false, not_false_eq_true, or_false, false_or, or_true, true_or, and_true, true_and, and_false, false_and, if_true, if_false, reduceIte, ne_eq, or_self, and_self, Classical.not_not])); rw [e9], rfl⟩
      · refine g_iconst (v := 4) X dX1_faultOfDecideFirst_30 (by decide) ?_
        exact g_iret X F dX1_faultOfDecideFirst_31 (by omega) (by omega) ⟨by clear X F hlt hR; (have e9 : fDecide u b = 4 := by ((unfold fDecide; try simp only [hasM, hasB, hasP, isC, isW, inS, hQuor, cN, hRust, hAhd, ← Int32.not_le, Classical.not_not] at c1 c2 c3 ⊢); simp only [c1, c2, c3, eq_self, not_true_eq_false, not_false_eq_true, or_false, false_or, or_true, true_or, and_true, true_and, and_false, false_and, if_true, if_false, reduceIte, ne_eq, or_self, and_self, Classical.not_not])); rw [e9], rfl⟩
    · refine g_iconst (v := 3) X dX1_faultOfDecideFirst_19 (by decide) ?_
      exact g_iret X F dX1_faultOfDecideFirst_20 (by omega) (by omega) ⟨by clear X F hlt hR; (have e9 : fDecide u b = 3 := by ((unfold fDecide; try simp only [hasM, hasB, hasP, isC, isW, inS, hQuor, cN, hRust, hAhd, ← Int32.not_le, Classical.not_not] at c1 c2 ⊢); simp only [c1, c2, eq_self, not_true_eq_false, not_false_eq_true, or_false, false_or, or_true, true_or, and_true, true_and, and_false, false_and, if_true, if_false, reduceIte, ne_eq, or_self, and_self, Classical.not_not])); rw [e9], rfl⟩
  · refine g_iconst (v := 1) X dX1_faultOfDecideFirst_8 (by decide) ?_
    exact g_iret X F dX1_faultOfDecideFirst_9 (by omega) (by omega) ⟨by clear X F hlt hR; (have e9 : fDecide u b = 1 := by ((unfold fDecide; try simp only [hasM, hasB, hasP, isC, isW, inS, hQuor, cN, hRust, hAhd, ← Int32.not_le, Classical.not_not] at c1 ⊢); simp only [c1, eq_self, not_true_eq_false, not_false_eq_true, or_false, false_or, or_true, true_or, and_true, true_and, and_false, false_and, if_true, if_false, reduceIte, ne_eq, or_self, and_self, Classical.not_not])); rw [e9], rfl⟩
set_option maxRecDepth 100000 in
set_option maxHeartbeats 4000000 in
theorem c_X1_faultOfHoldUp (l : Launch) (hl : l.stackTraces = false) (Γ : Gm) (M : Hp) (a : Nat → Nat) (u : HV) (hR : HRep Γ a u M) (hi : HInv u) (x : Int32) (b : Int32) (n : Int32) : Ct l Γ yX1_faultOfHoldUp cX1_faultOfHoldUp 4 (some .int) 1 0 0 [.ref (a 0), .int x, .int b, .int n] M (Rd (some (.int (fHold u x b n))) M) := by
  refine Ct.of hl (by decide) (Nat.le_of_ble_eq_true rfl) rfl ?_
  intro κ e1 e2 hnL hRm X F hlt
  subst e1 e2
  refine g_aload_n X dX1_faultOfHoldUp_0 rfl 0 rfl ?_
  refine g_iload_n X dX1_faultOfHoldUp_1 rfl 1 rfl ?_
  refine g_callV_rd (As := [.int x]) (ci := 1) (v := some (.int (bI (hasM u x)))) X dX1_faultOfHoldUp_2 (c_X1_hasMember κ.l hl κ.Γ M a u hR x) k488 k489 k490 k2 k491 rfl hR.obj ⟨rfl, by decide, by decide, (show (parseMethodDescriptor yX1_hasMember.desc).map (fun d => d.parameters.length) = some 1 by decide +kernel)⟩ rfl (Nat.le_of_ble_eq_true rfl) (by rw [hRm]; decide) (by rw [hRm]; exact ⟨Nat.le_of_ble_eq_true rfl, Nat.le_of_ble_eq_true rfl⟩) ?_
  refine g_ifb_eq (tgt := 16) X dX1_faultOfHoldUp_5 (by decide) (fun c1 => ?_) (fun c1 => ?_)
  · refine g_iconst (v := 1) X dX1_faultOfHoldUp_16 (by decide) ?_
    exact g_iret X F dX1_faultOfHoldUp_17 (by omega) (by omega) ⟨by clear X F hlt hR; (have e9 : fHold u x b n = 1 := by ((unfold fHold; try simp only [hasM, hasB, hasP, isC, isW, inS, hQuor, cN, hRust, hAhd, ← Int32.not_le, Classical.not_not] at c1 ⊢); simp only [c1, eq_self, not_true_eq_false, not_false_eq_true, or_false, false_or, or_true, true_or, and_true, true_and, and_false, false_and, if_true, if_false, reduceIte, ne_eq, or_self, and_self, Classical.not_not])); rw [e9], rfl⟩
  · refine g_aload_n X dX1_faultOfHoldUp_8 rfl 0 rfl ?_
    refine g_iload_n X dX1_faultOfHoldUp_9 rfl 2 rfl ?_
    refine g_callV_rd (As := [.int b]) (ci := 1) (v := some (.int (bI (hasB u b)))) X dX1_faultOfHoldUp_10 (c_X1_hasBill κ.l hl κ.Γ M a u hR b) k675 k593 k594 k2 k595 rfl hR.obj ⟨rfl, by decide, by decide, (show (parseMethodDescriptor yX1_hasBill.desc).map (fun d => d.parameters.length) = some 1 by decide +kernel)⟩ rfl (Nat.le_of_ble_eq_true rfl) (by rw [hRm]; decide) (by rw [hRm]; exact ⟨Nat.le_of_ble_eq_true rfl, Nat.le_of_ble_eq_true rfl⟩) ?_
    refine g_ifb_ne (tgt := 18) X dX1_faultOfHoldUp_13 (by decide) (fun c2 => ?_) (fun c2 => ?_)
    · refine g_iload_n X dX1_faultOfHoldUp_18 rfl 3 rfl ?_
      refine g_iconst (v := 1) X dX1_faultOfHoldUp_19 (by decide) ?_
      refine g_icmp_lt (tgt := 29) X dX1_faultOfHoldUp_20 (by decide) (fun c3 => ?_) (fun c3 => ?_)
      · refine g_iconst (v := 2) X dX1_faultOfHoldUp_29 (by decide) ?_
        exact g_iret X F dX1_faultOfHoldUp_30 (by omega) (by omega) ⟨by clear X F hlt hR; (have e9 : fHold u x b n = 2 := by ((unfold fHold; try simp only [hasM, hasB, hasP, isC, isW, inS, hQuor, cN, hRust, hAhd, ← Int32.not_le, Classical.not_not] at c1 c2 c3 ⊢); simp only [c1, c2, c3, eq_self, not_true_eq_false, not_false_eq_true, or_false, false_or, or_true, true_or, and_true, true_and, and_false, false_and, if_true, if_false, reduceIte, ne_eq, or_self, and_self, Classical.not_not])); rw [e9], rfl⟩
      · refine g_iload_n X dX1_faultOfHoldUp_23 rfl 3 rfl ?_
        refine g_bipush (v := 30) X dX1_faultOfHoldUp_24 (by decide) ?_
        refine g_icmp_le (tgt := 31) X dX1_faultOfHoldUp_26 (by decide) (fun c4 => ?_) (fun c4 => ?_)
        · refine g_aload_n X dX1_faultOfHoldUp_31 rfl 0 rfl ?_
          refine g_get X dX1_faultOfHoldUp_32 (ci := 1) (k := 6) (v := .ref (a 3)) rfl k54 (by decide) rfl hR.obj rfl ?_
          refine g_iload_n X dX1_faultOfHoldUp_35 rfl 2 rfl ?_
          refine g_iaload X dX1_faultOfHoldUp_36 (hR.row 3 (by decide) (by decide)) (hi.b c2) ?_
          refine g_if_eq (tgt := 42) X dX1_faultOfHoldUp_37 (by decide) (fun c5 => ?_) (fun c5 => ?_)
          · refine g_aload_n X dX1_faultOfHoldUp_42 rfl 0 rfl ?_
            refine g_iload_n X dX1_faultOfHoldUp_43 rfl 1 rfl ?_
            refine g_callV_rd (As := [.int x]) (ci := 1) (v := some (.int (bI (inS (u.1 1) x)))) X dX1_faultOfHoldUp_44 (c_X1_isIn κ.l hl κ.Γ M a u hR x) k222 k223 k224 k2 k225 rfl hR.obj ⟨rfl, by decide, by decide, (show (parseMethodDescriptor yX1_isIn.desc).map (fun d => d.parameters.length) = some 1 by decide +kernel)⟩ rfl (Nat.le_of_ble_eq_true rfl) (by rw [hRm]; decide) (by rw [hRm]; exact ⟨Nat.le_of_ble_eq_true rfl, Nat.le_of_ble_eq_true rfl⟩) ?_
            refine g_ifb_eq (tgt := 54) X dX1_faultOfHoldUp_47 (by decide) (fun c6 => ?_) (fun c6 => ?_)
            · refine g_iconst (v := 5) X dX1_faultOfHoldUp_54 (by decide) ?_
              exact g_iret X F dX1_faultOfHoldUp_55 (by omega) (by omega) ⟨by clear X F hlt hR; (have e9 : fHold u x b n = 5 := by ((unfold fHold; try simp only [hasM, hasB, hasP, isC, isW, inS, hQuor, cN, hRust, hAhd, ← Int32.not_le, Classical.not_not] at c1 c2 c3 c4 c5 c6 ⊢); simp only [c1, c2, c3, c4, c5, c6, eq_self, not_true_eq_false, not_false_eq_true, or_false, false_or, or_true, true_or, and_true, true_and, and_false, false_and, if_true, if_false, reduceIte, ne_eq, or_self, and_self, Classical.not_not])); rw [e9], rfl⟩
            · refine g_iconst (v := 0) X dX1_faultOfHoldUp_50 (by decide) ?_
              refine g_goto (tgt := 55) X dX1_faultOfHoldUp_51 (by decide) ?_
              exact g_iret X F dX1_faultOfHoldUp_55 (by omega) (by omega) ⟨by clear X F hlt hR; (have e9 : fHold u x b n = 0 := by ((unfold fHold; try simp only [hasM, hasB, hasP, isC, isW, inS, hQuor, cN, hRust, hAhd, ← Int32.not_le, Classical.not_not] at c1 c2 c3 c4 c5 c6 ⊢); simp only [c1, c2, c3, c4, c5, c6, eq_self, not_true_eq_false, not_false_eq_true, or_false, false_or, or_true, true_or, and_true, true_and, and_false, false_and, if_true, if_false, reduceIte, ne_eq, or_self, and_self, Classical.not_not])); rw [e9], rfl⟩
          · refine g_iconst (v := 3) X dX1_faultOfHoldUp_40 (by decide) ?_
            exact g_iret X F dX1_faultOfHoldUp_41 (by omega) (by omega) ⟨by clear X F hlt hR; (have e9 : fHold u x b n = 3 := by ((unfold fHold; try simp only [hasM, hasB, hasP, isC, isW, inS, hQuor, cN, hRust, hAhd, ← Int32.not_le, Classical.not_not] at c1 c2 c3 c4 c5 ⊢); simp only [c1, c2, c3, c4, c5, eq_self, not_true_eq_false, not_false_eq_true, or_false, false_or, or_true, true_or, and_true, true_and, and_false, false_and, if_true, if_false, reduceIte, ne_eq, or_self, and_self, Classical.not_not])); rw [e9], rfl⟩
        · refine g_iconst (v := 2) X dX1_faultOfHoldUp_29 (by decide) ?_
          exact g_iret X F dX1_faultOfHoldUp_30 (by omega) (by omega) ⟨by clear X F hlt hR; (have e9 : fHold u x b n = 2 := by ((unfold fHold; try simp only [hasM, hasB, hasP, isC, isW, inS, hQuor, cN, hRust, hAhd, ← Int32.not_le, Classical.not_not] at c1 c2 c3 c4 ⊢); simp only [c1, c2, c3, c4, eq_self, not_true_eq_false, not_false_eq_true, or_false, false_or, or_true, true_or, and_true, true_and, and_false, false_and, if_true, if_false, reduceIte, ne_eq, or_self, and_self, Classical.not_not])); rw [e9], rfl⟩
    · refine g_iconst (v := 1) X dX1_faultOfHoldUp_16 (by decide) ?_
      exact g_iret X F dX1_faultOfHoldUp_17 (by omega) (by omega) ⟨by clear X F hlt hR; (have e9 : fHold u x b n = 1 := by ((unfold fHold; try simp only [hasM, hasB, hasP, isC, isW, inS, hQuor, cN, hRust, hAhd, ← Int32.not_le, Classical.not_not] at c1 c2 ⊢); simp only [c1, c2, eq_self, not_true_eq_false, not_false_eq_true, or_false, false_or, or_true, true_or, and_true, true_and, and_false, false_and, if_true, if_false, reduceIte, ne_eq, or_self, and_self, Classical.not_not])); rw [e9], rfl⟩
