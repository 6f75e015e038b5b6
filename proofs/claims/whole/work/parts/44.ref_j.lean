abbrev zB : Option Value := some (.int 0)
abbrev rWd (u : HV) (x : Int32) : Int32 := rWard u x (cN (u.2.1 1 0))
def rS1 (u : HV) : Int32 := if rWd u 1 ≤ rWd u 0 then 0 else 1
def rS2 (u : HV) : Int32 := if rWd u 2 ≤ rWd u (rS1 u) then rS1 u else 2
def rS3 (u : HV) : Int32 := if rWd u 3 ≤ rWd u (rS2 u) then rS2 u else 3
abbrev rCl (u : HV) (b : Nat) : Int64 := lsl (i2l (rB u b 2)) 32 ||| i2l (rB u b 1) &&& 4294967295
noncomputable def mMemberCount (u : HV) : Res × HV := (rI (u.2.1 1 0), u0 u)
set_option maxRecDepth 100000 in
set_option maxHeartbeats 4000000 in
theorem c_X4_memberCount (l : Launch) (hl : l.stackTraces = false) (Γ : Gm) (M : Hp) (a : Nat → Nat) (u : HV) (hR : MRep Γ a u M) : Ct l Γ yX4_memberCount cX4_memberCount 1 (some .int) 0 0 0 [.ref (a 0)] M (MMu Γ a (mMemberCount u) M) := by
  refine Ct.of hl (by decide) (Nat.le_of_ble_eq_true rfl) rfl ?_
  intro κ e1 e2 hnL hRm X F hlt
  subst e1 e2
  refine g_aload_n X dX4_memberCount_0 rfl 0 rfl ?_
  refine g_iconst (v := 0) X dX4_memberCount_1 (by decide) ?_
  refine g_put X dX4_memberCount_2 (ci := 4) (k := 0) (ty := .int) rfl k1089 (by decide) rfl rfl (by decide +kernel) rfl rfl (Nat.le_of_ble_eq_true rfl) (MRep.obj hR) ?_
  refine g_gen (P := fun M9 => MRep κ.Γ a (hsc u 0 0) M9 ∧ Fr a 15 M M9) ⟨MRep.sc hR 0 _ rfl, (Fr.up (by decide))⟩ (fun M1 ⟨hR2, hF3⟩ => ?_)
  refine g_aload_n X dX4_memberCount_5 rfl 0 rfl ?_
  refine g_get X dX4_memberCount_6 (ci := 4) (k := 1) (v := .ref (a 1)) rfl k1090 (by decide) rfl (MRep.obj hR2) rfl ?_
  refine g_iconst (v := 0) X dX4_memberCount_9 (by decide) ?_
  refine g_iald (b := 0) X dX4_memberCount_10 (MRep.row hR2 1 (by decide) (by decide)) (by omega) (by decide) ?_
  exact g_iret X F dX4_memberCount_11 (by omega) (by omega) (by unfold mMemberCount; exact ⟨rfl, hR2, hF3⟩)
noncomputable def mPresentMask (u : HV) : Res × HV := (rI (u.2.1 1 2), u0 u)
set_option maxRecDepth 100000 in
set_option maxHeartbeats 4000000 in
theorem c_X4_presentMask (l : Launch) (hl : l.stackTraces = false) (Γ : Gm) (M : Hp) (a : Nat → Nat) (u : HV) (hR : MRep Γ a u M) : Ct l Γ yX4_presentMask cX4_presentMask 1 (some .int) 0 0 0 [.ref (a 0)] M (MMu Γ a (mPresentMask u) M) := by
  refine Ct.of hl (by decide) (Nat.le_of_ble_eq_true rfl) rfl ?_
  intro κ e1 e2 hnL hRm X F hlt
  subst e1 e2
  refine g_aload_n X dX4_presentMask_0 rfl 0 rfl ?_
  refine g_iconst (v := 0) X dX4_presentMask_1 (by decide) ?_
  refine g_put X dX4_presentMask_2 (ci := 4) (k := 0) (ty := .int) rfl k1089 (by decide) rfl rfl (by decide +kernel) rfl rfl (Nat.le_of_ble_eq_true rfl) (MRep.obj hR) ?_
  refine g_gen (P := fun M9 => MRep κ.Γ a (hsc u 0 0) M9 ∧ Fr a 15 M M9) ⟨MRep.sc hR 0 _ rfl, (Fr.up (by decide))⟩ (fun M1 ⟨hR2, hF3⟩ => ?_)
  refine g_aload_n X dX4_presentMask_5 rfl 0 rfl ?_
  refine g_get X dX4_presentMask_6 (ci := 4) (k := 1) (v := .ref (a 1)) rfl k1090 (by decide) rfl (MRep.obj hR2) rfl ?_
  refine g_iconst (v := 2) X dX4_presentMask_9 (by decide) ?_
  refine g_iald (b := 2) X dX4_presentMask_10 (MRep.row hR2 1 (by decide) (by decide)) (by omega) (by decide) ?_
  exact g_iret X F dX4_presentMask_11 (by omega) (by omega) (by unfold mPresentMask; exact ⟨rfl, hR2, hF3⟩)
noncomputable def mQuorum (u : HV) : Res × HV := (rI (u.2.1 1 3), u0 u)
set_option maxRecDepth 100000 in
set_option maxHeartbeats 4000000 in
theorem c_X4_quorum (l : Launch) (hl : l.stackTraces = false) (Γ : Gm) (M : Hp) (a : Nat → Nat) (u : HV) (hR : MRep Γ a u M) : Ct l Γ yX4_quorum cX4_quorum 1 (some .int) 0 0 0 [.ref (a 0)] M (MMu Γ a (mQuorum u) M) := by
  refine Ct.of hl (by decide) (Nat.le_of_ble_eq_true rfl) rfl ?_
  intro κ e1 e2 hnL hRm X F hlt
  subst e1 e2
  refine g_aload_n X dX4_quorum_0 rfl 0 rfl ?_
  refine g_iconst (v := 0) X dX4_quorum_1 (by decide) ?_
  refine g_put X dX4_quorum_2 (ci := 4) (k := 0) (ty := .int) rfl k1089 (by decide) rfl rfl (by decide +kernel) rfl rfl (Nat.le_of_ble_eq_true rfl) (MRep.obj hR) ?_
  refine g_gen (P := fun M9 => MRep κ.Γ a (hsc u 0 0) M9 ∧ Fr a 15 M M9) ⟨MRep.sc hR 0 _ rfl, (Fr.up (by decide))⟩ (fun M1 ⟨hR2, hF3⟩ => ?_)
  refine g_aload_n X dX4_quorum_5 rfl 0 rfl ?_
  refine g_get X dX4_quorum_6 (ci := 4) (k := 1) (v := .ref (a 1)) rfl k1090 (by decide) rfl (MRep.obj hR2) rfl ?_
  refine g_iconst (v := 3) X dX4_quorum_9 (by decide) ?_
  refine g_iald (b := 3) X dX4_quorum_10 (MRep.row hR2 1 (by decide) (by decide)) (by omega) (by decide) ?_
  exact g_iret X F dX4_quorum_11 (by omega) (by omega) (by unfold mQuorum; exact ⟨rfl, hR2, hF3⟩)
noncomputable def mBillCount (u : HV) : Res × HV := (rI (u.2.1 1 1), u0 u)
set_option maxRecDepth 100000 in
set_option maxHeartbeats 4000000 in
theorem c_X4_billCount (l : Launch) (hl : l.stackTraces = false) (Γ : Gm) (M : Hp) (a : Nat → Nat) (u : HV) (hR : MRep Γ a u M) : Ct l Γ yX4_billCount cX4_billCount 1 (some .int) 0 0 0 [.ref (a 0)] M (MMu Γ a (mBillCount u) M) := by
  refine Ct.of hl (by decide) (Nat.le_of_ble_eq_true rfl) rfl ?_
  intro κ e1 e2 hnL hRm X F hlt
  subst e1 e2
  refine g_aload_n X dX4_billCount_0 rfl 0 rfl ?_
  refine g_iconst (v := 0) X dX4_billCount_1 (by decide) ?_
  refine g_put X dX4_billCount_2 (ci := 4) (k := 0) (ty := .int) rfl k1089 (by decide) rfl rfl (by decide +kernel) rfl rfl (Nat.le_of_ble_eq_true rfl) (MRep.obj hR) ?_
  refine g_gen (P := fun M9 => MRep κ.Γ a (hsc u 0 0) M9 ∧ Fr a 15 M M9) ⟨MRep.sc hR 0 _ rfl, (Fr.up (by decide))⟩ (fun M1 ⟨hR2, hF3⟩ => ?_)
  refine g_aload_n X dX4_billCount_5 rfl 0 rfl ?_
  refine g_get X dX4_billCount_6 (ci := 4) (k := 1) (v := .ref (a 1)) rfl k1090 (by decide) rfl (MRep.obj hR2) rfl ?_
  refine g_iconst (v := 1) X dX4_billCount_9 (by decide) ?_
  refine g_iald (b := 1) X dX4_billCount_10 (MRep.row hR2 1 (by decide) (by decide)) (by omega) (by decide) ?_
  exact g_iret X F dX4_billCount_11 (by omega) (by omega) (by unfold mBillCount; exact ⟨rfl, hR2, hF3⟩)
noncomputable def mAcceptedCount (u : HV) : Res × HV := (rI (u.2.1 1 4), u0 u)
set_option maxRecDepth 100000 in
set_option maxHeartbeats 4000000 in
theorem c_X4_acceptedCount (l : Launch) (hl : l.stackTraces = false) (Γ : Gm) (M : Hp) (a : Nat → Nat) (u : HV) (hR : MRep Γ a u M) : Ct l Γ yX4_acceptedCount cX4_acceptedCount 1 (some .int) 0 0 0 [.ref (a 0)] M (MMu Γ a (mAcceptedCount u) M) := by
  refine Ct.of hl (by decide) (Nat.le_of_ble_eq_true rfl) rfl ?_
  intro κ e1 e2 hnL hRm X F hlt
  subst e1 e2
  refine g_aload_n X dX4_acceptedCount_0 rfl 0 rfl ?_
  refine g_iconst (v := 0) X dX4_acceptedCount_1 (by decide) ?_
  refine g_put X dX4_acceptedCount_2 (ci := 4) (k := 0) (ty := .int) rfl k1089 (by decide) rfl rfl (by decide +kernel) rfl rfl (Nat.le_of_ble_eq_true rfl) (MRep.obj hR) ?_
  refine g_gen (P := fun M9 => MRep κ.Γ a (hsc u 0 0) M9 ∧ Fr a 15 M M9) ⟨MRep.sc hR 0 _ rfl, (Fr.up (by decide))⟩ (fun M1 ⟨hR2, hF3⟩ => ?_)
  refine g_aload_n X dX4_acceptedCount_5 rfl 0 rfl ?_
  refine g_get X dX4_acceptedCount_6 (ci := 4) (k := 1) (v := .ref (a 1)) rfl k1090 (by decide) rfl (MRep.obj hR2) rfl ?_
  refine g_iconst (v := 4) X dX4_acceptedCount_9 (by decide) ?_
  refine g_iald (b := 4) X dX4_acceptedCount_10 (MRep.row hR2 1 (by decide) (by decide)) (by omega) (by decide) ?_
  exact g_iret X F dX4_acceptedCount_11 (by omega) (by omega) (by unfold mAcceptedCount; exact ⟨rfl, hR2, hF3⟩)
noncomputable def mIsQuorate (u : HV) : Res × HV := (rI (bI (quo u)), u0 u)
set_option maxRecDepth 100000 in
set_option maxHeartbeats 4000000 in
theorem c_X4_isQuorate (l : Launch) (hl : l.stackTraces = false) (Γ : Gm) (M : Hp) (a : Nat → Nat) (u : HV) (hR : MRep Γ a u M) : Ct l Γ yX4_isQuorate cX4_isQuorate 1 (some .boolean) 2 0 0 [.ref (a 0)] M (MMu Γ a (mIsQuorate u) M) := by
  refine Ct.of hl (by decide) (Nat.le_of_ble_eq_true rfl) rfl ?_
  intro κ e1 e2 hnL hRm X F hlt
  subst e1 e2
  refine g_aload_n X dX4_isQuorate_0 rfl 0 rfl ?_
  refine g_iconst (v := 0) X dX4_isQuorate_1 (by decide) ?_
  refine g_put X dX4_isQuorate_2 (ci := 4) (k := 0) (ty := .int) rfl k1089 (by decide) rfl rfl (by decide +kernel) rfl rfl (Nat.le_of_ble_eq_true rfl) (MRep.obj hR) ?_
  refine g_gen (P := fun M9 => MRep κ.Γ a (hsc u 0 0) M9 ∧ Fr a 15 M M9) ⟨MRep.sc hR 0 _ rfl, (Fr.up (by decide))⟩ (fun M1 ⟨hR2, hF3⟩ => ?_)
  refine g_aload_n X dX4_isQuorate_5 rfl 0 rfl ?_
  refine g_callV_rd (As := []) (ci := 4) (v := some (.int (bI (u.2.1 1 3 ≤ jbc (u.2.1 1 2))))) X dX4_isQuorate_6 (c_X4_quorate κ.l hl κ.Γ M1 a (hsc u 0 0) hR2) k1232 k1234 kp21 k5 k1235 rfl (MRep.obj hR2) ⟨rfl, by decide, by decide, (show (parseMethodDescriptor yX4_quorate.desc).map (fun d => d.parameters.length) = some 0 by decide +kernel)⟩ rfl (Nat.le_of_ble_eq_true rfl) (by rw [hRm]; decide) (by rw [hRm]; exact ⟨Nat.le_of_ble_eq_true rfl, Nat.le_of_ble_eq_true rfl⟩) ?_
  exact g_zret X F dX4_isQuorate_9 (by omega) (by omega) (bI_nar _) (by unfold mIsQuorate; exact ⟨rfl, hR2, hF3⟩)
noncomputable def mPassedCount (u : HV) : Res × HV := (rI (rCnt (u0 u) 1 (cN (u.2.1 1 1))), u0 u)
set_option maxRecDepth 100000 in
set_option maxHeartbeats 4000000 in
theorem c_X4_passedCount (l : Launch) (hl : l.stackTraces = false) (Γ : Gm) (M : Hp) (a : Nat → Nat) (u : HV) (hR : MRep Γ a u M) (hi : RInv (u.2.1 1)) : Ct l Γ yX4_passedCount cX4_passedCount 1 (some .int) 2 0 0 [.ref (a 0)] M (MMu Γ a (mPassedCount u) M) := by
  refine Ct.of hl (by decide) (Nat.le_of_ble_eq_true rfl) rfl ?_
  intro κ e1 e2 hnL hRm X F hlt
  subst e1 e2
  refine g_aload_n X dX4_passedCount_0 rfl 0 rfl ?_
  refine g_iconst (v := 0) X dX4_passedCount_1 (by decide) ?_
  refine g_put X dX4_passedCount_2 (ci := 4) (k := 0) (ty := .int) rfl k1089 (by decide) rfl rfl (by decide +kernel) rfl rfl (Nat.le_of_ble_eq_true rfl) (MRep.obj hR) ?_
  refine g_gen (P := fun M9 => MRep κ.Γ a (hsc u 0 0) M9 ∧ Fr a 15 M M9) ⟨MRep.sc hR 0 _ rfl, (Fr.up (by decide))⟩ (fun M1 ⟨hR2, hF3⟩ => ?_)
  refine g_aload_n X dX4_passedCount_5 rfl 0 rfl ?_
  refine g_iconst (v := 1) X dX4_passedCount_6 (by decide) ?_
  refine g_callV_rd (As := [.int 1]) (ci := 4) (v := some (.int (rCnt (hsc u 0 0) 1 (cN (u.2.1 1 1))))) X dX4_passedCount_7 (c_X4_countState κ.l hl κ.Γ M1 a (hsc u 0 0) hR2 1 hi) k1436 k1438 kp37 k5 k1439 rfl (MRep.obj hR2) ⟨rfl, by decide, by decide, (show (parseMethodDescriptor yX4_countState.desc).map (fun d => d.parameters.length) = some 1 by decide +kernel)⟩ rfl (Nat.le_of_ble_eq_true rfl) (by rw [hRm]; decide) (by rw [hRm]; exact ⟨Nat.le_of_ble_eq_true rfl, Nat.le_of_ble_eq_true rfl⟩) ?_
  exact g_iret X F dX4_passedCount_10 (by omega) (by omega) (by unfold mPassedCount; exact ⟨rfl, hR2, hF3⟩)
noncomputable def mFallenCount (u : HV) : Res × HV := (rI (rCnt (u0 u) 2 (cN (u.2.1 1 1))), u0 u)
set_option maxRecDepth 100000 in
set_option maxHeartbeats 4000000 in
theorem c_X4_fallenCount (l : Launch) (hl : l.stackTraces = false) (Γ : Gm) (M : Hp) (a : Nat → Nat) (u : HV) (hR : MRep Γ a u M) (hi : RInv (u.2.1 1)) : Ct l Γ yX4_fallenCount cX4_fallenCount 1 (some .int) 2 0 0 [.ref (a 0)] M (MMu Γ a (mFallenCount u) M) := by
  refine Ct.of hl (by decide) (Nat.le_of_ble_eq_true rfl) rfl ?_
  intro κ e1 e2 hnL hRm X F hlt
  subst e1 e2
  refine g_aload_n X dX4_fallenCount_0 rfl 0 rfl ?_
  refine g_iconst (v := 0) X dX4_fallenCount_1 (by decide) ?_
  refine g_put X dX4_fallenCount_2 (ci := 4) (k := 0) (ty := .int) rfl k1089 (by decide) rfl rfl (by decide +kernel) rfl rfl (Nat.le_of_ble_eq_true rfl) (MRep.obj hR) ?_
  refine g_gen (P := fun M9 => MRep κ.Γ a (hsc u 0 0) M9 ∧ Fr a 15 M M9) ⟨MRep.sc hR 0 _ rfl, (Fr.up (by decide))⟩ (fun M1 ⟨hR2, hF3⟩ => ?_)
  refine g_aload_n X dX4_fallenCount_5 rfl 0 rfl ?_
  refine g_iconst (v := 2) X dX4_fallenCount_6 (by decide) ?_
  refine g_callV_rd (As := [.int 2]) (ci := 4) (v := some (.int (rCnt (hsc u 0 0) 2 (cN (u.2.1 1 1))))) X dX4_fallenCount_7 (c_X4_countState κ.l hl κ.Γ M1 a (hsc u 0 0) hR2 2 hi) k1436 k1438 kp37 k5 k1439 rfl (MRep.obj hR2) ⟨rfl, by decide, by decide, (show (parseMethodDescriptor yX4_countState.desc).map (fun d => d.parameters.length) = some 1 by decide +kernel)⟩ rfl (Nat.le_of_ble_eq_true rfl) (by rw [hRm]; decide) (by rw [hRm]; exact ⟨Nat.le_of_ble_eq_true rfl, Nat.le_of_ble_eq_true rfl⟩) ?_
  exact g_iret X F dX4_fallenCount_10 (by omega) (by omega) (by unfold mFallenCount; exact ⟨rfl, hR2, hF3⟩)
noncomputable def mIsConsistent (u : HV) : Res × HV := (rI 1, u0 u)
set_option maxRecDepth 100000 in
set_option maxHeartbeats 4000000 in
theorem c_X4_isConsistent (l : Launch) (hl : l.stackTraces = false) (Γ : Gm) (M : Hp) (a : Nat → Nat) (u : HV) (hR : MRep Γ a u M) : Ct l Γ yX4_isConsistent cX4_isConsistent 1 (some .boolean) 0 0 0 [.ref (a 0)] M (MMu Γ a (mIsConsistent u) M) := by
  refine Ct.of hl (by decide) (Nat.le_of_ble_eq_true rfl) rfl ?_
  intro κ e1 e2 hnL hRm X F hlt
  subst e1 e2
  refine g_aload_n X dX4_isConsistent_0 rfl 0 rfl ?_
  refine g_iconst (v := 0) X dX4_isConsistent_1 (by decide) ?_
  refine g_put X dX4_isConsistent_2 (ci := 4) (k := 0) (ty := .int) rfl k1089 (by decide) rfl rfl (by decide +kernel) rfl rfl (Nat.le_of_ble_eq_true rfl) (MRep.obj hR) ?_
  refine g_gen (P := fun M9 => MRep κ.Γ a (hsc u 0 0) M9 ∧ Fr a 15 M M9) ⟨MRep.sc hR 0 _ rfl, (Fr.up (by decide))⟩ (fun M1 ⟨hR2, hF3⟩ => ?_)
  refine g_iconst (v := 1) X dX4_isConsistent_5 (by decide) ?_
  exact g_zret X F dX4_isConsistent_6 (by omega) (by omega) rfl (by unfold mIsConsistent; exact ⟨rfl, hR2, hF3⟩ )
noncomputable def mWardOf (u : HV) (x : Int32) : Res × HV := mG (¬ isM u x) 1 zI u (rI (rM u (cN x) 0), u0 u)
set_option maxRecDepth 100000 in
set_option maxHeartbeats 4000000 in
theorem c_X4_wardOf (l : Launch) (hl : l.stackTraces = false) (Γ : Gm) (M : Hp) (a : Nat → Nat) (u : HV) (hR : MRep Γ a u M) (x : Int32) (hi : RInv (u.2.1 1)) : Ct l Γ yX4_wardOf cX4_wardOf 2 (some .int) 2 0 0 [.ref (a 0), .int x] M (MMu Γ a (mWardOf u x) M) := by
  refine Ct.of hl (by decide) (Nat.le_of_ble_eq_true rfl) rfl ?_
  intro κ e1 e2 hnL hRm X F hlt
  subst e1 e2
  refine g_aload_n X dX4_wardOf_0 rfl 0 rfl ?_
  refine g_iconst (v := 1) X dX4_wardOf_1 (by decide) ?_
  refine g_aload_n X dX4_wardOf_2 rfl 0 rfl ?_
  refine g_iload_n X dX4_wardOf_3 rfl 1 rfl ?_
  refine g_callV_rd (As := [.int x]) (ci := 4) (v := some (.int (bI (btw x 0 (u.2.1 1 0 - 1))))) X dX4_wardOf_4 (c_X4_isMember κ.l hl κ.Γ M a u hR x) k1183 k1185 kp18 k5 k1186 rfl (MRep.obj hR) ⟨rfl, by decide, by decide, (show (parseMethodDescriptor yX4_isMember.desc).map (fun d => d.parameters.length) = some 1 by decide +kernel)⟩ rfl (Nat.le_of_ble_eq_true rfl) (by rw [hRm]; decide) (by rw [hRm]; exact ⟨Nat.le_of_ble_eq_true rfl, Nat.le_of_ble_eq_true rfl⟩) ?_
  refine g_ifb_ne (tgt := 14) X dX4_wardOf_7 (by decide) (fun c1 => ?_) (fun c1 => ?_)
  · refine g_iconst (v := 0) X dX4_wardOf_14 (by decide) ?_
    refine g_callV (As := [.int 1, .int 0]) (ci := 4) X dX4_wardOf_15 (c_X4_fails0 κ.l hl κ.Γ M a u hR 1) k1164 k1166 kp15 k5 k1167 rfl (MRep.obj hR) ⟨rfl, by decide, by decide, (show (parseMethodDescriptor yX4_fails.desc).map (fun d => d.parameters.length) = some 2 by decide +kernel)⟩ rfl (Nat.le_of_ble_eq_true rfl) (by rw [hRm]; decide) (by rw [hRm]; exact ⟨Nat.le_of_ble_eq_true rfl, Nat.le_of_ble_eq_true rfl⟩) (fun v2 M2 h2 => ?_) (fun _ _ h9 => by cases h9.1)
    obtain ⟨e2, hR2, hF2⟩ := h2
    have e2 : (Sum.inl v2 : Res) = rI 0 := e2
    cases e2
    obtain ⟨x9, hx9, hcx9, rfl⟩ := RInv.mem hi c1
    refine g_if_eq (tgt := 25) X dX4_wardOf_18 (by decide) (fun c3 => ?_) (fun c3 => absurd c3 (by decide))
    refine g_aload_n X dX4_wardOf_25 rfl 0 rfl ?_
    refine g_iload_n X dX4_wardOf_26 rfl 1 rfl ?_
    refine g_iconst (v := 0) X dX4_wardOf_27 (by decide) ?_
    refine g_callV_rd (As := [.int (nI x9), .int 0]) (ci := 4) (v := some (.int (u.2.1 1 (5 + 2 * x9 + 0)))) X dX4_wardOf_28 (c_X4_ofMember κ.l hl κ.Γ M2 a (hsc u 0 0) hR2 x9 0 (by omega) (by omega)) k1208 k1210 kp20 k5 k1211 rfl (MRep.obj hR2) ⟨rfl, by decide, by decide, (show (parseMethodDescriptor yX4_ofMember.desc).map (fun d => d.parameters.length) = some 2 by decide +kernel)⟩ rfl (Nat.le_of_ble_eq_true rfl) (by rw [hRm]; decide) (by rw [hRm]; exact ⟨Nat.le_of_ble_eq_true rfl, Nat.le_of_ble_eq_true rfl⟩) ?_
    exact g_iret X F dX4_wardOf_31 (by omega) (by omega) (by unfold mWardOf; (try rw [hcx9]); exact (MMu.n (by first | exact c1 | exact fun q => q c1 | exact fun q => c1 q | exact Classical.not_not.mp c1) ⟨rfl, hR2, hF2⟩))
  · refine g_iconst (v := 1) X dX4_wardOf_10 (by decide) ?_
    refine g_goto (tgt := 15) X dX4_wardOf_11 (by decide) ?_
    refine g_callV (As := [.int 1, .int 1]) (ci := 4) X dX4_wardOf_15 (c_X4_fails1 κ.l hl κ.Γ M a u hR 1) k1164 k1166 kp15 k5 k1167 rfl (MRep.obj hR) ⟨rfl, by decide, by decide, (show (parseMethodDescriptor yX4_fails.desc).map (fun d => d.parameters.length) = some 2 by decide +kernel)⟩ rfl (Nat.le_of_ble_eq_true rfl) (by rw [hRm]; decide) (by rw [hRm]; exact ⟨Nat.le_of_ble_eq_true rfl, Nat.le_of_ble_eq_true rfl⟩) (fun v4 M4 h4 => ?_) (fun _ _ h9 => by cases h9.1)
    obtain ⟨e4, hR4, hF4⟩ := h4
    have e4 : (Sum.inl v4 : Res) = rI 1 := e4
    cases e4
    refine g_if_eq (tgt := 25) X dX4_wardOf_18 (by decide) (fun c5 => absurd c5 (by decide)) (fun c5 => ?_)
    refine g_iconst (v := 0) X dX4_wardOf_21 (by decide) ?_
    refine g_goto (tgt := 31) X dX4_wardOf_22 (by decide) ?_
    exact g_iret X F dX4_wardOf_31 (by omega) (by omega) (by unfold mWardOf; exact (MMu.y (by first | exact c1 | exact fun q => q c1 | exact fun q => c1 q | exact Classical.not_not.mp c1) ⟨rfl, hR4, hF4⟩))
noncomputable def mWeightOf (u : HV) (x : Int32) : Res × HV := mG (¬ isM u x) 1 zI u (rI (rM u (cN x) 1), u0 u)
set_option maxRecDepth 100000 in
set_option maxHeartbeats 4000000 in
theorem c_X4_weightOf (l : Launch) (hl : l.stackTraces = false) (Γ : Gm) (M : Hp) (a : Nat → Nat) (u : HV) (hR : MRep Γ a u M) (x : Int32) (hi : RInv (u.2.1 1)) : Ct l Γ yX4_weightOf cX4_weightOf 2 (some .int) 2 0 0 [.ref (a 0), .int x] M (MMu Γ a (mWeightOf u x) M) := by
  refine Ct.of hl (by decide) (Nat.le_of_ble_eq_true rfl) rfl ?_
  intro κ e1 e2 hnL hRm X F hlt
  subst e1 e2
  refine g_aload_n X dX4_weightOf_0 rfl 0 rfl ?_
  refine g_iconst (v := 1) X dX4_weightOf_1 (by decide) ?_
  refine g_aload_n X dX4_weightOf_2 rfl 0 rfl ?_
  refine g_iload_n X dX4_weightOf_3 rfl 1 rfl ?_
  refine g_callV_rd (As := [.int x]) (ci := 4) (v := some (.int (bI (btw x 0 (u.2.1 1 0 - 1))))) X dX4_weightOf_4 (c_X4_isMember κ.l hl κ.Γ M a u hR x) k1183 k1185 kp18 k5 k1186 rfl (MRep.obj hR) ⟨rfl, by decide, by decide, (show (parseMethodDescriptor yX4_isMember.desc).map (fun d => d.parameters.length) = some 1 by decide +kernel)⟩ rfl (Nat.le_of_ble_eq_true rfl) (by rw [hRm]; decide) (by rw [hRm]; exact ⟨Nat.le_of_ble_eq_true rfl, Nat.le_of_ble_eq_true rfl⟩) ?_
  refine g_ifb_ne (tgt := 14) X dX4_weightOf_7 (by decide) (fun c1 => ?_) (fun c1 => ?_)
  · refine g_iconst (v := 0) X dX4_weightOf_14 (by decide) ?_
    refine g_callV (As := [.int 1, .int 0]) (ci := 4) X dX4_weightOf_15 (c_X4_fails0 κ.l hl κ.Γ M a u hR 1) k1164 k1166 kp15 k5 k1167 rfl (MRep.obj hR) ⟨rfl, by decide, by decide, (show (parseMethodDescriptor yX4_fails.desc).map (fun d => d.parameters.length) = some 2 by decide +kernel)⟩ rfl (Nat.le_of_ble_eq_true rfl) (by rw [hRm]; decide) (by rw [hRm]; exact ⟨Nat.le_of_ble_eq_true rfl, Nat.le_of_ble_eq_true rfl⟩) (fun v2 M2 h2 => ?_) (fun _ _ h9 => by cases h9.1)
    obtain ⟨e2, hR2, hF2⟩ := h2
    have e2 : (Sum.inl v2 : Res) = rI 0 := e2
    cases e2
    obtain ⟨x9, hx9, hcx9, rfl⟩ := RInv.mem hi c1
    refine g_if_eq (tgt := 25) X dX4_weightOf_18 (by decide) (fun c3 => ?_) (fun c3 => absurd c3 (by decide))
    refine g_aload_n X dX4_weightOf_25 rfl 0 rfl ?_
    refine g_iload_n X dX4_weightOf_26 rfl 1 rfl ?_
    refine g_iconst (v := 1) X dX4_weightOf_27 (by decide) ?_
    refine g_callV_rd (As := [.int (nI x9), .int 1]) (ci := 4) (v := some (.int (u.2.1 1 (5 + 2 * x9 + 1)))) X dX4_weightOf_28 (c_X4_ofMember κ.l hl κ.Γ M2 a (hsc u 0 0) hR2 x9 1 (by omega) (by omega)) k1208 k1210 kp20 k5 k1211 rfl (MRep.obj hR2) ⟨rfl, by decide, by decide, (show (parseMethodDescriptor yX4_ofMember.desc).map (fun d => d.parameters.length) = some 2 by decide +kernel)⟩ rfl (Nat.le_of_ble_eq_true rfl) (by rw [hRm]; decide) (by rw [hRm]; exact ⟨Nat.le_of_ble_eq_true rfl, Nat.le_of_ble_eq_true rfl⟩) ?_
    exact g_iret X F dX4_weightOf_31 (by omega) (by omega) (by unfold mWeightOf; (try rw [hcx9]); exact (MMu.n (by first | exact c1 | exact fun q => q c1 | exact fun q => c1 q | exact Classical.not_not.mp c1) ⟨rfl, hR2, hF2⟩))
  · refine g_iconst (v := 1) X dX4_weightOf_10 (by decide) ?_
    refine g_goto (tgt := 15) X dX4_weightOf_11 (by decide) ?_
    refine g_callV (As := [.int 1, .int 1]) (ci := 4) X dX4_weightOf_15 (c_X4_fails1 κ.l hl κ.Γ M a u hR 1) k1164 k1166 kp15 k5 k1167 rfl (MRep.obj hR) ⟨rfl, by decide, by decide, (show (parseMethodDescriptor yX4_fails.desc).map (fun d => d.parameters.length) = some 2 by decide +kernel)⟩ rfl (Nat.le_of_ble_eq_true rfl) (by rw [hRm]; decide) (by rw [hRm]; exact ⟨Nat.le_of_ble_eq_true rfl, Nat.le_of_ble_eq_true rfl⟩) (fun v4 M4 h4 => ?_) (fun _ _ h9 => by cases h9.1)
    obtain ⟨e4, hR4, hF4⟩ := h4
    have e4 : (Sum.inl v4 : Res) = rI 1 := e4
    cases e4
    refine g_if_eq (tgt := 25) X dX4_weightOf_18 (by decide) (fun c5 => absurd c5 (by decide)) (fun c5 => ?_)
    refine g_iconst (v := 0) X dX4_weightOf_21 (by decide) ?_
    refine g_goto (tgt := 31) X dX4_weightOf_22 (by decide) ?_
    exact g_iret X F dX4_weightOf_31 (by omega) (by omega) (by unfold mWeightOf; exact (MMu.y (by first | exact c1 | exact fun q => q c1 | exact fun q => c1 q | exact Classical.not_not.mp c1) ⟨rfl, hR4, hF4⟩))
noncomputable def mIsPresent (u : HV) (x : Int32) : Res × HV := mG (¬ isM u x) 1 zI u (rI (bI (prs u x)), u0 u)
set_option maxRecDepth 100000 in
set_option maxHeartbeats 4000000 in
theorem c_X4_isPresent (l : Launch) (hl : l.stackTraces = false) (Γ : Gm) (M : Hp) (a : Nat → Nat) (u : HV) (hR : MRep Γ a u M) (x : Int32) : Ct l Γ yX4_isPresent cX4_isPresent 2 (some .boolean) 2 0 0 [.ref (a 0), .int x] M (MMu Γ a (mIsPresent u x) M) := by
  refine Ct.of hl (by decide) (Nat.le_of_ble_eq_true rfl) rfl ?_
  intro κ e1 e2 hnL hRm X F hlt
  subst e1 e2
  refine g_aload_n X dX4_isPresent_0 rfl 0 rfl ?_
  refine g_iconst (v := 1) X dX4_isPresent_1 (by decide) ?_
  refine g_aload_n X dX4_isPresent_2 rfl 0 rfl ?_
  refine g_iload_n X dX4_isPresent_3 rfl 1 rfl ?_
  refine g_callV_rd (As := [.int x]) (ci := 4) (v := some (.int (bI (btw x 0 (u.2.1 1 0 - 1))))) X dX4_isPresent_4 (c_X4_isMember κ.l hl κ.Γ M a u hR x) k1183 k1185 kp18 k5 k1186 rfl (MRep.obj hR) ⟨rfl, by decide, by decide, (show (parseMethodDescriptor yX4_isMember.desc).map (fun d => d.parameters.length) = some 1 by decide +kernel)⟩ rfl (Nat.le_of_ble_eq_true rfl) (by rw [hRm]; decide) (by rw [hRm]; exact ⟨Nat.le_of_ble_eq_true rfl, Nat.le_of_ble_eq_true rfl⟩) ?_
  refine g_ifb_ne (tgt := 14) X dX4_isPresent_7 (by decide) (fun c1 => ?_) (fun c1 => ?_)
  · refine g_iconst (v := 0) X dX4_isPresent_14 (by decide) ?_
    refine g_callV (As := [.int 1, .int 0]) (ci := 4) X dX4_isPresent_15 (c_X4_fails0 κ.l hl κ.Γ M a u hR 1) k1164 k1166 kp15 k5 k1167 rfl (MRep.obj hR) ⟨rfl, by decide, by decide, (show (parseMethodDescriptor yX4_fails.desc).map (fun d => d.parameters.length) = some 2 by decide +kernel)⟩ rfl (Nat.le_of_ble_eq_true rfl) (by rw [hRm]; decide) (by rw [hRm]; exact ⟨Nat.le_of_ble_eq_true rfl, Nat.le_of_ble_eq_true rfl⟩) (fun v2 M2 h2 => ?_) (fun _ _ h9 => by cases h9.1)
    obtain ⟨e2, hR2, hF2⟩ := h2
    have e2 : (Sum.inl v2 : Res) = rI 0 := e2
    cases e2
    refine g_if_ne (tgt := 33) X dX4_isPresent_18 (by decide) (fun c3 => absurd c3 (by decide)) (fun c3 => ?_)
    refine g_aload_n X dX4_isPresent_21 rfl 0 rfl ?_
    refine g_iload_n X dX4_isPresent_22 rfl 1 rfl ?_
    refine g_callV_rd (As := [.int x]) (ci := 4) (v := some (.int (bI (shr (u.2.1 1 2) x &&& 1 = 1)))) X dX4_isPresent_23 (c_X4_present κ.l hl κ.Γ M2 a (hsc u 0 0) hR2 x) k1187 k1189 kp19 k5 k1190 rfl (MRep.obj hR2) ⟨rfl, by decide, by decide, (show (parseMethodDescriptor yX4_present.desc).map (fun d => d.parameters.length) = some 1 by decide +kernel)⟩ rfl (Nat.le_of_ble_eq_true rfl) (by rw [hRm]; decide) (by rw [hRm]; exact ⟨Nat.le_of_ble_eq_true rfl, Nat.le_of_ble_eq_true rfl⟩) ?_
    refine g_ifb_eq (tgt := 33) X dX4_isPresent_26 (by decide) (fun c4 => ?_) (fun c4 => ?_)
    · refine g_iconst (v := 0) X dX4_isPresent_33 (by decide) ?_
      exact g_zret X F dX4_isPresent_34 (by omega) (by omega) rfl (by unfold mIsPresent; exact (MMu.n (by first | exact c1 | exact fun q => q c1 | exact fun q => c1 q | exact Classical.not_not.mp c1) ⟨by rw [bI_f (by first | exact c4 | exact (fun h => h c4) | (simp only [btw, isDig, hasM, hasB, hasP, isC, isW, inS, hQuor, cN, hRust, hAhd, Int32.lt_iff_toInt_lt, Int32.le_iff_toInt_le, Int32.reduceToInt] at c4 ⊢; omega) | (simp_all [btw, isDig, hasM, hasB, hasP, isC, isW, inS, hQuor, cN, hRust, hAhd]; done))], hR2, hF2⟩))
    · refine g_iconst (v := 1) X dX4_isPresent_29 (by decide) ?_
      refine g_goto (tgt := 34) X dX4_isPresent_30 (by decide) ?_
      exact g_zret X F dX4_isPresent_34 (by omega) (by omega) rfl (by unfold mIsPresent; exact (MMu.n (by first | exact c1 | exact fun q => q c1 | exact fun q => c1 q | exact Classical.not_not.mp c1) ⟨by rw [bI_t (by first | exact c4 | exact (fun h => h c4) | (simp only [btw, isDig, hasM, hasB, hasP, isC, isW, inS, hQuor, cN, hRust, hAhd, Int32.lt_iff_toInt_lt, Int32.le_iff_toInt_le, Int32.reduceToInt] at c4 ⊢; omega) | (simp_all [btw, isDig, hasM, hasB, hasP, isC, isW, inS, hQuor, cN, hRust, hAhd]; done))], hR2, hF2⟩))
  · refine g_iconst (v := 1) X dX4_isPresent_10 (by decide) ?_
    refine g_goto (tgt := 15) X dX4_isPresent_11 (by decide) ?_
    refine g_callV (As := [.int 1, .int 1]) (ci := 4) X dX4_isPresent_15 (c_X4_fails1 κ.l hl κ.Γ M a u hR 1) k1164 k1166 kp15 k5 k1167 rfl (MRep.obj hR) ⟨rfl, by decide, by decide, (show (parseMethodDescriptor yX4_fails.desc).map (fun d => d.parameters.length) = some 2 by decide +kernel)⟩ rfl (Nat.le_of_ble_eq_true rfl) (by rw [hRm]; decide) (by rw [hRm]; exact ⟨Nat.le_of_ble_eq_true rfl, Nat.le_of_ble_eq_true rfl⟩) (fun v5 M5 h5 => ?_) (fun _ _ h9 => by cases h9.1)
    obtain ⟨e5, hR5, hF5⟩ := h5
    have e5 : (Sum.inl v5 : Res) = rI 1 := e5
    cases e5
    refine g_if_ne (tgt := 33) X dX4_isPresent_18 (by decide) (fun c6 => ?_) (fun c6 => absurd c6 (by decide))
    refine g_iconst (v := 0) X dX4_isPresent_33 (by decide) ?_
    exact g_zret X F dX4_isPresent_34 (by omega) (by omega) rfl (by unfold mIsPresent; exact (MMu.y (by first | exact c1 | exact fun q => q c1 | exact fun q => c1 q | exact Classical.not_not.mp c1) ⟨rfl, hR5, hF5⟩))
noncomputable def mWardWeight (u : HV) (x : Int32) : Res × HV := mG (¬ btw x 0 3) 1 zI u (rI (rWd (u0 u) x), u0 u)
set_option maxRecDepth 100000 in
set_option maxHeartbeats 4000000 in
theorem c_X4_wardWeight (l : Launch) (hl : l.stackTraces = false) (Γ : Gm) (M : Hp) (a : Nat → Nat) (u : HV) (hR : MRep Γ a u M) (x : Int32) (hi : RInv (u.2.1 1)) : Ct l Γ yX4_wardWeight cX4_wardWeight 2 (some .int) 2 0 0 [.ref (a 0), .int x] M (MMu Γ a (mWardWeight u x) M) := by
  refine Ct.of hl (by decide) (Nat.le_of_ble_eq_true rfl) rfl ?_
  intro κ e1 e2 hnL hRm X F hlt
  subst e1 e2
  refine g_aload_n X dX4_wardWeight_0 rfl 0 rfl ?_
  refine g_iconst (v := 1) X dX4_wardWeight_1 (by decide) ?_
  refine g_iload_n X dX4_wardWeight_2 rfl 1 rfl ?_
  refine g_callS_rd (As := [.int x]) (v := some (.int (bI (btw x 0 3)))) X dX4_wardWeight_3 (c_X4_isWard κ.l hl κ.Γ M x) k1158 k1159 k5 k1160 ⟨by decide, by decide, (show (parseMethodDescriptor yX4_isWard.desc).map (fun d => d.parameters.length) = some 1 by decide +kernel)⟩ rfl (Nat.le_of_ble_eq_true rfl) (by rw [hRm]; decide) (by rw [hRm]; exact ⟨Nat.le_of_ble_eq_true rfl, Nat.le_of_ble_eq_true rfl⟩) ?_
  refine g_ifb_ne (tgt := 13) X dX4_wardWeight_6 (by decide) (fun c1 => ?_) (fun c1 => ?_)
  · refine g_iconst (v := 0) X dX4_wardWeight_13 (by decide) ?_
    refine g_callV (As := [.int 1, .int 0]) (ci := 4) X dX4_wardWeight_14 (c_X4_fails0 κ.l hl κ.Γ M a u hR 1) k1164 k1166 kp15 k5 k1167 rfl (MRep.obj hR) ⟨rfl, by decide, by decide, (show (parseMethodDescriptor yX4_fails.desc).map (fun d => d.parameters.length) = some 2 by decide +kernel)⟩ rfl (Nat.le_of_ble_eq_true rfl) (by rw [hRm]; decide) (by rw [hRm]; exact ⟨Nat.le_of_ble_eq_true rfl, Nat.le_of_ble_eq_true rfl⟩) (fun v2 M2 h2 => ?_) (fun _ _ h9 => by cases h9.1)
    obtain ⟨e2, hR2, hF2⟩ := h2
    have e2 : (Sum.inl v2 : Res) = rI 0 := e2
    cases e2
    refine g_if_eq (tgt := 24) X dX4_wardWeight_17 (by decide) (fun c3 => ?_) (fun c3 => absurd c3 (by decide))
    refine g_aload_n X dX4_wardWeight_24 rfl 0 rfl ?_
    refine g_iload_n X dX4_wardWeight_25 rfl 1 rfl ?_
    refine g_callV_rd (As := [.int x]) (ci := 4) (v := some (.int (rWard (hsc u 0 0) x (cN (u.2.1 1 0))))) X dX4_wardWeight_26 (c_X4_inWard κ.l hl κ.Γ M2 a (hsc u 0 0) hR2 x hi) k1240 k1242 kp22 k5 k1243 rfl (MRep.obj hR2) ⟨rfl, by decide, by decide, (show (parseMethodDescriptor yX4_inWard.desc).map (fun d => d.parameters.length) = some 1 by decide +kernel)⟩ rfl (Nat.le_of_ble_eq_true rfl) (by rw [hRm]; decide) (by rw [hRm]; exact ⟨Nat.le_of_ble_eq_true rfl, Nat.le_of_ble_eq_true rfl⟩) ?_
    exact g_iret X F dX4_wardWeight_29 (by omega) (by omega) (by unfold mWardWeight; exact (MMu.n (by first | exact c1 | exact fun q => q c1 | exact fun q => c1 q | exact Classical.not_not.mp c1) ⟨rfl, hR2, hF2⟩))
  · refine g_iconst (v := 1) X dX4_wardWeight_9 (by decide) ?_
    refine g_goto (tgt := 14) X dX4_wardWeight_10 (by decide) ?_
    refine g_callV (As := [.int 1, .int 1]) (ci := 4) X dX4_wardWeight_14 (c_X4_fails1 κ.l hl κ.Γ M a u hR 1) k1164 k1166 kp15 k5 k1167 rfl (MRep.obj hR) ⟨rfl, by decide, by decide, (show (parseMethodDescriptor yX4_fails.desc).map (fun d => d.parameters.length) = some 2 by decide +kernel)⟩ rfl (Nat.le_of_ble_eq_true rfl) (by rw [hRm]; decide) (by rw [hRm]; exact ⟨Nat.le_of_ble_eq_true rfl, Nat.le_of_ble_eq_true rfl⟩) (fun v4 M4 h4 => ?_) (fun _ _ h9 => by cases h9.1)
    obtain ⟨e4, hR4, hF4⟩ := h4
    have e4 : (Sum.inl v4 : Res) = rI 1 := e4
    cases e4
    refine g_if_eq (tgt := 24) X dX4_wardWeight_17 (by decide) (fun c5 => absurd c5 (by decide)) (fun c5 => ?_)
    refine g_iconst (v := 0) X dX4_wardWeight_20 (by decide) ?_
    refine g_goto (tgt := 29) X dX4_wardWeight_21 (by decide) ?_
    exact g_iret X F dX4_wardWeight_29 (by omega) (by omega) (by unfold mWardWeight; exact (MMu.y (by first | exact c1 | exact fun q => q c1 | exact fun q => c1 q | exact Classical.not_not.mp c1) ⟨rfl, hR4, hF4⟩))
noncomputable def mIsOpen (u : HV) (b : Int32) : Res × HV := mG (¬ isBl u b) 1 zI u (rI (bI (rB u (cN b) 0 = 0)), u0 u)
set_option maxRecDepth 100000 in
set_option maxHeartbeats 4000000 in
theorem c_X4_isOpen (l : Launch) (hl : l.stackTraces = false) (Γ : Gm) (M : Hp) (a : Nat → Nat) (u : HV) (hR : MRep Γ a u M) (b : Int32) (hi : RInv (u.2.1 1)) : Ct l Γ yX4_isOpen cX4_isOpen 2 (some .boolean) 2 0 0 [.ref (a 0), .int b] M (MMu Γ a (mIsOpen u b) M) := by
  refine Ct.of hl (by decide) (Nat.le_of_ble_eq_true rfl) rfl ?_
  intro κ e1 e2 hnL hRm X F hlt
  subst e1 e2
  refine g_aload_n X dX4_isOpen_0 rfl 0 rfl ?_
  refine g_iconst (v := 1) X dX4_isOpen_1 (by decide) ?_
  refine g_aload_n X dX4_isOpen_2 rfl 0 rfl ?_
  refine g_iload_n X dX4_isOpen_3 rfl 1 rfl ?_
  refine g_callV_rd (As := [.int b]) (ci := 4) (v := some (.int (bI (btw b 0 (u.2.1 1 1 - 1))))) X dX4_isOpen_4 (c_X4_isBill κ.l hl κ.Γ M a u hR b) k1275 k1277 kp26 k5 k1278 rfl (MRep.obj hR) ⟨rfl, by decide, by decide, (show (parseMethodDescriptor yX4_isBill.desc).map (fun d => d.parameters.length) = some 1 by decide +kernel)⟩ rfl (Nat.le_of_ble_eq_true rfl) (by rw [hRm]; decide) (by rw [hRm]; exact ⟨Nat.le_of_ble_eq_true rfl, Nat.le_of_ble_eq_true rfl⟩) ?_
  refine g_ifb_ne (tgt := 14) X dX4_isOpen_7 (by decide) (fun c1 => ?_) (fun c1 => ?_)
  · refine g_iconst (v := 0) X dX4_isOpen_14 (by decide) ?_
    refine g_callV (As := [.int 1, .int 0]) (ci := 4) X dX4_isOpen_15 (c_X4_fails0 κ.l hl κ.Γ M a u hR 1) k1164 k1166 kp15 k5 k1167 rfl (MRep.obj hR) ⟨rfl, by decide, by decide, (show (parseMethodDescriptor yX4_fails.desc).map (fun d => d.parameters.length) = some 2 by decide +kernel)⟩ rfl (Nat.le_of_ble_eq_true rfl) (by rw [hRm]; decide) (by rw [hRm]; exact ⟨Nat.le_of_ble_eq_true rfl, Nat.le_of_ble_eq_true rfl⟩) (fun v2 M2 h2 => ?_) (fun _ _ h9 => by cases h9.1)
    obtain ⟨e2, hR2, hF2⟩ := h2
    have e2 : (Sum.inl v2 : Res) = rI 0 := e2
    cases e2
    obtain ⟨b9, hb9, hcb9, rfl⟩ := RInv.bil hi c1
    refine g_if_ne (tgt := 34) X dX4_isOpen_18 (by decide) (fun c3 => absurd c3 (by decide)) (fun c3 => ?_)
    refine g_aload_n X dX4_isOpen_21 rfl 0 rfl ?_
    refine g_iload_n X dX4_isOpen_22 rfl 1 rfl ?_
    refine g_iconst (v := 0) X dX4_isOpen_23 (by decide) ?_
    refine g_callV_rd (As := [.int (nI b9), .int 0]) (ci := 4) (v := some (.int (u.2.1 1 (53 + 16 * b9 + 0)))) X dX4_isOpen_24 (c_X4_of κ.l hl κ.Γ M2 a (hsc u 0 0) hR2 b9 0 (by omega) (by omega)) k1263 k1265 kp25 k5 k1266 rfl (MRep.obj hR2) ⟨rfl, by decide, by decide, (show (parseMethodDescriptor yX4_of.desc).map (fun d => d.parameters.length) = some 2 by decide +kernel)⟩ rfl (Nat.le_of_ble_eq_true rfl) (by rw [hRm]; decide) (by rw [hRm]; exact ⟨Nat.le_of_ble_eq_true rfl, Nat.le_of_ble_eq_true rfl⟩) ?_
    refine g_if_ne (tgt := 34) X dX4_isOpen_27 (by decide) (fun c4 => ?_) (fun c4 => ?_)
    · refine g_iconst (v := 0) X dX4_isOpen_34 (by decide) ?_
      exact g_zret X F dX4_isOpen_35 (by omega) (by omega) rfl (by unfold mIsOpen; (try rw [hcb9]); exact (MMu.n (by first | exact c1 | exact fun q => q c1 | exact fun q => c1 q | exact Classical.not_not.mp c1) ⟨by rw [bI_f (by first | exact c4 | exact (fun h => h c4) | (simp only [btw, isDig, hasM, hasB, hasP, isC, isW, inS, hQuor, cN, hRust, hAhd, Int32.lt_iff_toInt_lt, Int32.le_iff_toInt_le, Int32.reduceToInt] at c4 ⊢; omega) | (simp_all [btw, isDig, hasM, hasB, hasP, isC, isW, inS, hQuor, cN, hRust, hAhd]; done))], hR2, hF2⟩))
    · refine g_iconst (v := 1) X dX4_isOpen_30 (by decide) ?_
      refine g_goto (tgt := 35) X dX4_isOpen_31 (by decide) ?_
      exact g_zret X F dX4_isOpen_35 (by omega) (by omega) rfl (by unfold mIsOpen; (try rw [hcb9]); exact (MMu.n (by first | exact c1 | exact fun q => q c1 | exact fun q => c1 q | exact Classical.not_not.mp c1) ⟨by rw [bI_t (by first | exact c4 | exact (fun h => h c4) | (simp only [btw, isDig, hasM, hasB, hasP, isC, isW, inS, hQuor, cN, hRust, hAhd, Int32.lt_iff_toInt_lt, Int32.le_iff_toInt_le, Int32.reduceToInt] at c4 ⊢; omega) | (simp_all [btw, isDig, hasM, hasB, hasP, isC, isW, inS, hQuor, cN, hRust, hAhd]; done))], hR2, hF2⟩))
  · refine g_iconst (v := 1) X dX4_isOpen_10 (by decide) ?_
    refine g_goto (tgt := 15) X dX4_isOpen_11 (by decide) ?_
    refine g_callV (As := [.int 1, .int 1]) (ci := 4) X dX4_isOpen_15 (c_X4_fails1 κ.l hl κ.Γ M a u hR 1) k1164 k1166 kp15 k5 k1167 rfl (MRep.obj hR) ⟨rfl, by decide, by decide, (show (parseMethodDescriptor yX4_fails.desc).map (fun d => d.parameters.length) = some 2 by decide +kernel)⟩ rfl (Nat.le_of_ble_eq_true rfl) (by rw [hRm]; decide) (by rw [hRm]; exact ⟨Nat.le_of_ble_eq_true rfl, Nat.le_of_ble_eq_true rfl⟩) (fun v5 M5 h5 => ?_) (fun _ _ h9 => by cases h9.1)
    obtain ⟨e5, hR5, hF5⟩ := h5
    have e5 : (Sum.inl v5 : Res) = rI 1 := e5
    cases e5
    refine g_if_ne (tgt := 34) X dX4_isOpen_18 (by decide) (fun c6 => ?_) (fun c6 => absurd c6 (by decide))
    refine g_iconst (v := 0) X dX4_isOpen_34 (by decide) ?_
    exact g_zret X F dX4_isOpen_35 (by omega) (by omega) rfl (by unfold mIsOpen; exact (MMu.y (by first | exact c1 | exact fun q => q c1 | exact fun q => c1 q | exact Classical.not_not.mp c1) ⟨rfl, hR5, hF5⟩))
noncomputable def mIsPassed (u : HV) (b : Int32) : Res × HV := mG (¬ isBl u b) 1 zI u (rI (bI (rB u (cN b) 0 = 1)), u0 u)
set_option maxRecDepth 100000 in
set_option maxHeartbeats 4000000 in
theorem c_X4_isPassed (l : Launch) (hl : l.stackTraces = false) (Γ : Gm) (M : Hp) (a : Nat → Nat) (u : HV) (hR : MRep Γ a u M) (b : Int32) (hi : RInv (u.2.1 1)) : Ct l Γ yX4_isPassed cX4_isPassed 2 (some .boolean) 2 0 0 [.ref (a 0), .int b] M (MMu Γ a (mIsPassed u b) M) := by
  refine Ct.of hl (by decide) (Nat.le_of_ble_eq_true rfl) rfl ?_
  intro κ e1 e2 hnL hRm X F hlt
  subst e1 e2
  refine g_aload_n X dX4_isPassed_0 rfl 0 rfl ?_
  refine g_iconst (v := 1) X dX4_isPassed_1 (by decide) ?_
  refine g_aload_n X dX4_isPassed_2 rfl 0 rfl ?_
  refine g_iload_n X dX4_isPassed_3 rfl 1 rfl ?_
  refine g_callV_rd (As := [.int b]) (ci := 4) (v := some (.int (bI (btw b 0 (u.2.1 1 1 - 1))))) X dX4_isPassed_4 (c_X4_isBill κ.l hl κ.Γ M a u hR b) k1275 k1277 kp26 k5 k1278 rfl (MRep.obj hR) ⟨rfl, by decide, by decide, (show (parseMethodDescriptor yX4_isBill.desc).map (fun d => d.parameters.length) = some 1 by decide +kernel)⟩ rfl (Nat.le_of_ble_eq_true rfl) (by rw [hRm]; decide) (by rw [hRm]; exact ⟨Nat.le_of_ble_eq_true rfl, Nat.le_of_ble_eq_true rfl⟩) ?_
  refine g_ifb_ne (tgt := 14) X dX4_isPassed_7 (by decide) (fun c1 => ?_) (fun c1 => ?_)
  · refine g_iconst (v := 0) X dX4_isPassed_14 (by decide) ?_
    refine g_callV (As := [.int 1, .int 0]) (ci := 4) X dX4_isPassed_15 (c_X4_fails0 κ.l hl κ.Γ M a u hR 1) k1164 k1166 kp15 k5 k1167 rfl (MRep.obj hR) ⟨rfl, by decide, by decide, (show (parseMethodDescriptor yX4_fails.desc).map (fun d => d.parameters.length) = some 2 by decide +kernel)⟩ rfl (Nat.le_of_ble_eq_true rfl) (by rw [hRm]; decide) (by rw [hRm]; exact ⟨Nat.le_of_ble_eq_true rfl, Nat.le_of_ble_eq_true rfl⟩) (fun v2 M2 h2 => ?_) (fun _ _ h9 => by cases h9.1)
    obtain ⟨e2, hR2, hF2⟩ := h2
    have e2 : (Sum.inl v2 : Res) = rI 0 := e2
    cases e2
    obtain ⟨b9, hb9, hcb9, rfl⟩ := RInv.bil hi c1
    refine g_if_ne (tgt := 35) X dX4_isPassed_18 (by decide) (fun c3 => absurd c3 (by decide)) (fun c3 => ?_)
    refine g_aload_n X dX4_isPassed_21 rfl 0 rfl ?_
    refine g_iload_n X dX4_isPassed_22 rfl 1 rfl ?_
    refine g_iconst (v := 0) X dX4_isPassed_23 (by decide) ?_
    refine g_callV_rd (As := [.int (nI b9), .int 0]) (ci := 4) (v := some (.int (u.2.1 1 (53 + 16 * b9 + 0)))) X dX4_isPassed_24 (c_X4_of κ.l hl κ.Γ M2 a (hsc u 0 0) hR2 b9 0 (by omega) (by omega)) k1263 k1265 kp25 k5 k1266 rfl (MRep.obj hR2) ⟨rfl, by decide, by decide, (show (parseMethodDescriptor yX4_of.desc).map (fun d => d.parameters.length) = some 2 by decide +kernel)⟩ rfl (Nat.le_of_ble_eq_true rfl) (by rw [hRm]; decide) (by rw [hRm]; exact ⟨Nat.le_of_ble_eq_true rfl, Nat.le_of_ble_eq_true rfl⟩) ?_
    refine g_iconst (v := 1) X dX4_isPassed_27 (by decide) ?_
    refine g_icmp_ne (tgt := 35) X dX4_isPassed_28 (by decide) (fun c4 => ?_) (fun c4 => ?_)
    · refine g_iconst (v := 0) X dX4_isPassed_35 (by decide) ?_
      exact g_zret X F dX4_isPassed_36 (by omega) (by omega) rfl (by unfold mIsPassed; (try rw [hcb9]); exact (MMu.n (by first | exact c1 | exact fun q => q c1 | exact fun q => c1 q | exact Classical.not_not.mp c1) ⟨by rw [bI_f (by first | exact c4 | exact (fun h => h c4) | (simp only [btw, isDig, hasM, hasB, hasP, isC, isW, inS, hQuor, cN, hRust, hAhd, Int32.lt_iff_toInt_lt, Int32.le_iff_toInt_le, Int32.reduceToInt] at c4 ⊢; omega) | (simp_all [btw, isDig, hasM, hasB, hasP, isC, isW, inS, hQuor, cN, hRust, hAhd]; done))], hR2, hF2⟩))
    · refine g_iconst (v := 1) X dX4_isPassed_31 (by decide) ?_
      refine g_goto (tgt := 36) X dX4_isPassed_32 (by decide) ?_
      exact g_zret X F dX4_isPassed_36 (by omega) (by omega) rfl (by unfold mIsPassed; (try rw [hcb9]); exact (MMu.n (by first | exact c1 | exact fun q => q c1 | exact fun q => c1 q | exact Classical.not_not.mp c1) ⟨by rw [bI_t (by first | exact c4 | exact (fun h => h c4) | (simp only [btw, isDig, hasM, hasB, hasP, isC, isW, inS, hQuor, cN, hRust, hAhd, Int32.lt_iff_toInt_lt, Int32.le_iff_toInt_le, Int32.reduceToInt] at c4 ⊢; omega) | (simp_all [btw, isDig, hasM, hasB, hasP, isC, isW, inS, hQuor, cN, hRust, hAhd]; done))], hR2, hF2⟩))
  · refine g_iconst (v := 1) X dX4_isPassed_10 (by decide) ?_
    refine g_goto (tgt := 15) X dX4_isPassed_11 (by decide) ?_
    refine g_callV (As := [.int 1, .int 1]) (ci := 4) X dX4_isPassed_15 (c_X4_fails1 κ.l hl κ.Γ M a u hR 1) k1164 k1166 kp15 k5 k1167 rfl (MRep.obj hR) ⟨rfl, by decide, by decide, (show (parseMethodDescriptor yX4_fails.desc).map (fun d => d.parameters.length) = some 2 by decide +kernel)⟩ rfl (Nat.le_of_ble_eq_true rfl) (by rw [hRm]; decide) (by rw [hRm]; exact ⟨Nat.le_of_ble_eq_true rfl, Nat.le_of_ble_eq_true rfl⟩) (fun v5 M5 h5 => ?_) (fun _ _ h9 => by cases h9.1)
    obtain ⟨e5, hR5, hF5⟩ := h5
    have e5 : (Sum.inl v5 : Res) = rI 1 := e5
    cases e5
    refine g_if_ne (tgt := 35) X dX4_isPassed_18 (by decide) (fun c6 => ?_) (fun c6 => absurd c6 (by decide))
    refine g_iconst (v := 0) X dX4_isPassed_35 (by decide) ?_
    exact g_zret X F dX4_isPassed_36 (by omega) (by omega) rfl (by unfold mIsPassed; exact (MMu.y (by first | exact c1 | exact fun q => q c1 | exact fun q => c1 q | exact Classical.not_not.mp c1) ⟨rfl, hR5, hF5⟩))
noncomputable def mReadings (u : HV) (b : Int32) : Res × HV := mG (¬ isBl u b) 1 zI u (rI (rB u (cN b) 3), u0 u)
set_option maxRecDepth 100000 in
set_option maxHeartbeats 4000000 in
theorem c_X4_readings (l : Launch) (hl : l.stackTraces = false) (Γ : Gm) (M : Hp) (a : Nat → Nat) (u : HV) (hR : MRep Γ a u M) (b : Int32) (hi : RInv (u.2.1 1)) : Ct l Γ yX4_readings cX4_readings 2 (some .int) 2 0 0 [.ref (a 0), .int b] M (MMu Γ a (mReadings u b) M) := by
  refine Ct.of hl (by decide) (Nat.le_of_ble_eq_true rfl) rfl ?_
  intro κ e1 e2 hnL hRm X F hlt
  subst e1 e2
  refine g_aload_n X dX4_readings_0 rfl 0 rfl ?_
  refine g_iconst (v := 1) X dX4_readings_1 (by decide) ?_
  refine g_aload_n X dX4_readings_2 rfl 0 rfl ?_
  refine g_iload_n X dX4_readings_3 rfl 1 rfl ?_
  refine g_callV_rd (As := [.int b]) (ci := 4) (v := some (.int (bI (btw b 0 (u.2.1 1 1 - 1))))) X dX4_readings_4 (c_X4_isBill κ.l hl κ.Γ M a u hR b) k1275 k1277 kp26 k5 k1278 rfl (MRep.obj hR) ⟨rfl, by decide, by decide, (show (parseMethodDescriptor yX4_isBill.desc).map (fun d => d.parameters.length) = some 1 by decide +kernel)⟩ rfl (Nat.le_of_ble_eq_true rfl) (by rw [hRm]; decide) (by rw [hRm]; exact ⟨Nat.le_of_ble_eq_true rfl, Nat.le_of_ble_eq_true rfl⟩) ?_
  refine g_ifb_ne (tgt := 14) X dX4_readings_7 (by decide) (fun c1 => ?_) (fun c1 => ?_)
  · refine g_iconst (v := 0) X dX4_readings_14 (by decide) ?_
    refine g_callV (As := [.int 1, .int 0]) (ci := 4) X dX4_readings_15 (c_X4_fails0 κ.l hl κ.Γ M a u hR 1) k1164 k1166 kp15 k5 k1167 rfl (MRep.obj hR) ⟨rfl, by decide, by decide, (show (parseMethodDescriptor yX4_fails.desc).map (fun d => d.parameters.length) = some 2 by decide +kernel)⟩ rfl (Nat.le_of_ble_eq_true rfl) (by rw [hRm]; decide) (by rw [hRm]; exact ⟨Nat.le_of_ble_eq_true rfl, Nat.le_of_ble_eq_true rfl⟩) (fun v2 M2 h2 => ?_) (fun _ _ h9 => by cases h9.1)
    obtain ⟨e2, hR2, hF2⟩ := h2
    have e2 : (Sum.inl v2 : Res) = rI 0 := e2
    cases e2
    obtain ⟨b9, hb9, hcb9, rfl⟩ := RInv.bil hi c1
    refine g_if_eq (tgt := 25) X dX4_readings_18 (by decide) (fun c3 => ?_) (fun c3 => absurd c3 (by decide))
    refine g_aload_n X dX4_readings_25 rfl 0 rfl ?_
    refine g_iload_n X dX4_readings_26 rfl 1 rfl ?_
    refine g_iconst (v := 3) X dX4_readings_27 (by decide) ?_
    refine g_callV_rd (As := [.int (nI b9), .int 3]) (ci := 4) (v := some (.int (u.2.1 1 (53 + 16 * b9 + 3)))) X dX4_readings_28 (c_X4_of κ.l hl κ.Γ M2 a (hsc u 0 0) hR2 b9 3 (by omega) (by omega)) k1263 k1265 kp25 k5 k1266 rfl (MRep.obj hR2) ⟨rfl, by decide, by decide, (show (parseMethodDescriptor yX4_of.desc).map (fun d => d.parameters.length) = some 2 by decide +kernel)⟩ rfl (Nat.le_of_ble_eq_true rfl) (by rw [hRm]; decide) (by rw [hRm]; exact ⟨Nat.le_of_ble_eq_true rfl, Nat.le_of_ble_eq_true rfl⟩) ?_
    exact g_iret X F dX4_readings_31 (by omega) (by omega) (by unfold mReadings; (try rw [hcb9]); exact (MMu.n (by first | exact c1 | exact fun q => q c1 | exact fun q => c1 q | exact Classical.not_not.mp c1) ⟨rfl, hR2, hF2⟩))
  · refine g_iconst (v := 1) X dX4_readings_10 (by decide) ?_
    refine g_goto (tgt := 15) X dX4_readings_11 (by decide) ?_
    refine g_callV (As := [.int 1, .int 1]) (ci := 4) X dX4_readings_15 (c_X4_fails1 κ.l hl κ.Γ M a u hR 1) k1164 k1166 kp15 k5 k1167 rfl (MRep.obj hR) ⟨rfl, by decide, by decide, (show (parseMethodDescriptor yX4_fails.desc).map (fun d => d.parameters.length) = some 2 by decide +kernel)⟩ rfl (Nat.le_of_ble_eq_true rfl) (by rw [hRm]; decide) (by rw [hRm]; exact ⟨Nat.le_of_ble_eq_true rfl, Nat.le_of_ble_eq_true rfl⟩) (fun v4 M4 h4 => ?_) (fun _ _ h9 => by cases h9.1)
    obtain ⟨e4, hR4, hF4⟩ := h4
    have e4 : (Sum.inl v4 : Res) = rI 1 := e4
    cases e4
    refine g_if_eq (tgt := 25) X dX4_readings_18 (by decide) (fun c5 => absurd c5 (by decide)) (fun c5 => ?_)
    refine g_iconst (v := 0) X dX4_readings_21 (by decide) ?_
    refine g_goto (tgt := 31) X dX4_readings_22 (by decide) ?_
    exact g_iret X F dX4_readings_31 (by omega) (by omega) (by unfold mReadings; exact (MMu.y (by first | exact c1 | exact fun q => q c1 | exact fun q => c1 q | exact Classical.not_not.mp c1) ⟨rfl, hR4, hF4⟩))
noncomputable def mClauses (u : HV) (b : Int32) : Res × HV := mG (¬ isBl u b) 1 (some (.long 0)) u ((.inl (some (.long (rCl u (cN b)))) : Res), u0 u)
set_option maxRecDepth 100000 in
set_option maxHeartbeats 4000000 in
theorem c_X4_clauses (l : Launch) (hl : l.stackTraces = false) (Γ : Gm) (M : Hp) (a : Nat → Nat) (u : HV) (hR : MRep Γ a u M) (b : Int32) (hi : RInv (u.2.1 1)) : Ct l Γ yX4_clauses cX4_clauses 2 (some .long) 2 0 0 [.ref (a 0), .int b] M (MMu Γ a (mClauses u b) M) := by
  refine Ct.of hl (by decide) (Nat.le_of_ble_eq_true rfl) rfl ?_
  intro κ e1 e2 hnL hRm X F hlt
  subst e1 e2
  refine g_aload_n X dX4_clauses_0 rfl 0 rfl ?_
  refine g_iconst (v := 1) X dX4_clauses_1 (by decide) ?_
  refine g_aload_n X dX4_clauses_2 rfl 0 rfl ?_
  refine g_iload_n X dX4_clauses_3 rfl 1 rfl ?_
  refine g_callV_rd (As := [.int b]) (ci := 4) (v := some (.int (bI (btw b 0 (u.2.1 1 1 - 1))))) X dX4_clauses_4 (c_X4_isBill κ.l hl κ.Γ M a u hR b) k1275 k1277 kp26 k5 k1278 rfl (MRep.obj hR) ⟨rfl, by decide, by decide, (show (parseMethodDescriptor yX4_isBill.desc).map (fun d => d.parameters.length) = some 1 by decide +kernel)⟩ rfl (Nat.le_of_ble_eq_true rfl) (by rw [hRm]; decide) (by rw [hRm]; exact ⟨Nat.le_of_ble_eq_true rfl, Nat.le_of_ble_eq_true rfl⟩) ?_
  refine g_ifb_ne (tgt := 14) X dX4_clauses_7 (by decide) (fun c1 => ?_) (fun c1 => ?_)
  · refine g_iconst (v := 0) X dX4_clauses_14 (by decide) ?_
    refine g_callV (As := [.int 1, .int 0]) (ci := 4) X dX4_clauses_15 (c_X4_fails0 κ.l hl κ.Γ M a u hR 1) k1164 k1166 kp15 k5 k1167 rfl (MRep.obj hR) ⟨rfl, by decide, by decide, (show (parseMethodDescriptor yX4_fails.desc).map (fun d => d.parameters.length) = some 2 by decide +kernel)⟩ rfl (Nat.le_of_ble_eq_true rfl) (by rw [hRm]; decide) (by rw [hRm]; exact ⟨Nat.le_of_ble_eq_true rfl, Nat.le_of_ble_eq_true rfl⟩) (fun v2 M2 h2 => ?_) (fun _ _ h9 => by cases h9.1)
    obtain ⟨e2, hR2, hF2⟩ := h2
    have e2 : (Sum.inl v2 : Res) = rI 0 := e2
    cases e2
    obtain ⟨b9, hb9, hcb9, rfl⟩ := RInv.bil hi c1
    refine g_if_eq (tgt := 25) X dX4_clauses_18 (by decide) (fun c3 => ?_) (fun c3 => absurd c3 (by decide))
    refine g_aload_n X dX4_clauses_25 rfl 0 rfl ?_
    refine g_iload_n X dX4_clauses_26 rfl 1 rfl ?_
    refine g_iconst (v := 2) X dX4_clauses_27 (by decide) ?_
    refine g_callV_rd (As := [.int (nI b9), .int 2]) (ci := 4) (v := some (.int (u.2.1 1 (53 + 16 * b9 + 2)))) X dX4_clauses_28 (c_X4_of κ.l hl κ.Γ M2 a (hsc u 0 0) hR2 b9 2 (by omega) (by omega)) k1263 k1265 kp25 k5 k1266 rfl (MRep.obj hR2) ⟨rfl, by decide, by decide, (show (parseMethodDescriptor yX4_of.desc).map (fun d => d.parameters.length) = some 2 by decide +kernel)⟩ rfl (Nat.le_of_ble_eq_true rfl) (by rw [hRm]; decide) (by rw [hRm]; exact ⟨Nat.le_of_ble_eq_true rfl, Nat.le_of_ble_eq_true rfl⟩) ?_
    refine g_i2l X dX4_clauses_31 ?_
    refine g_bipush (v := 32) X dX4_clauses_32 (by decide) ?_
    refine g_lshl X dX4_clauses_34 ?_
    refine g_aload_n X dX4_clauses_35 rfl 0 rfl ?_
    refine g_iload_n X dX4_clauses_36 rfl 1 rfl ?_
    refine g_iconst (v := 1) X dX4_clauses_37 (by decide) ?_
    refine g_callV_rd (As := [.int (nI b9), .int 1]) (ci := 4) (v := some (.int (u.2.1 1 (53 + 16 * b9 + 1)))) X dX4_clauses_38 (c_X4_of κ.l hl κ.Γ M2 a (hsc u 0 0) hR2 b9 1 (by omega) (by omega)) k1263 k1265 kp25 k5 k1266 rfl (MRep.obj hR2) ⟨rfl, by decide, by decide, (show (parseMethodDescriptor yX4_of.desc).map (fun d => d.parameters.length) = some 2 by decide +kernel)⟩ rfl (Nat.le_of_ble_eq_true rfl) (by rw [hRm]; decide) (by rw [hRm]; exact ⟨Nat.le_of_ble_eq_true rfl, Nat.le_of_ble_eq_true rfl⟩) ?_
    refine g_i2l X dX4_clauses_41 ?_
    refine g_ldc2 (v := 4294967295) X dX4_clauses_42 k1291 ?_
    refine g_land X dX4_clauses_45 ?_
    refine g_lor X dX4_clauses_46 ?_
    exact g_lret X F dX4_clauses_47 (by omega) (by omega) (by unfold mClauses; (try rw [hcb9]); exact (MMu.n (by first | exact c1 | exact fun q => q c1 | exact fun q => c1 q | exact Classical.not_not.mp c1) ⟨rfl, hR2, hF2⟩))
  · refine g_iconst (v := 1) X dX4_clauses_10 (by decide) ?_
    refine g_goto (tgt := 15) X dX4_clauses_11 (by decide) ?_
    refine g_callV (As := [.int 1, .int 1]) (ci := 4) X dX4_clauses_15 (c_X4_fails1 κ.l hl κ.Γ M a u hR 1) k1164 k1166 kp15 k5 k1167 rfl (MRep.obj hR) ⟨rfl, by decide, by decide, (show (parseMethodDescriptor yX4_fails.desc).map (fun d => d.parameters.length) = some 2 by decide +kernel)⟩ rfl (Nat.le_of_ble_eq_true rfl) (by rw [hRm]; decide) (by rw [hRm]; exact ⟨Nat.le_of_ble_eq_true rfl, Nat.le_of_ble_eq_true rfl⟩) (fun v4 M4 h4 => ?_) (fun _ _ h9 => by cases h9.1)
    obtain ⟨e4, hR4, hF4⟩ := h4
    have e4 : (Sum.inl v4 : Res) = rI 1 := e4
    cases e4
    refine g_if_eq (tgt := 25) X dX4_clauses_18 (by decide) (fun c5 => absurd c5 (by decide)) (fun c5 => ?_)
    refine g_lconst (v := 0) X dX4_clauses_21 rfl ?_
    refine g_goto (tgt := 47) X dX4_clauses_22 (by decide) ?_
    exact g_lret X F dX4_clauses_47 (by omega) (by omega) (by unfold mClauses; exact (MMu.y (by first | exact c1 | exact fun q => q c1 | exact fun q => c1 q | exact Classical.not_not.mp c1) ⟨rfl, hR4, hF4⟩))
noncomputable def mClauseCount (u : HV) (b : Int32) : Res × HV := mG (¬ isBl u b) 1 zI u (rI (jbc (rB u (cN b) 1) + jbc (rB u (cN b) 2)), u0 u)
set_option maxRecDepth 100000 in
set_option maxHeartbeats 4000000 in
theorem c_X4_clauseCount (l : Launch) (hl : l.stackTraces = false) (Γ : Gm) (M : Hp) (a : Nat → Nat) (u : HV) (hR : MRep Γ a u M) (b : Int32) (hi : RInv (u.2.1 1)) : Ct l Γ yX4_clauseCount cX4_clauseCount 2 (some .int) 2 0 0 [.ref (a 0), .int b] M (MMu Γ a (mClauseCount u b) M) := by
  refine Ct.of hl (by decide) (Nat.le_of_ble_eq_true rfl) rfl ?_
  intro κ e1 e2 hnL hRm X F hlt
  subst e1 e2
  refine g_aload_n X dX4_clauseCount_0 rfl 0 rfl ?_
  refine g_iconst (v := 1) X dX4_clauseCount_1 (by decide) ?_
  refine g_aload_n X dX4_clauseCount_2 rfl 0 rfl ?_
  refine g_iload_n X dX4_clauseCount_3 rfl 1 rfl ?_
  refine g_callV_rd (As := [.int b]) (ci := 4) (v := some (.int (bI (btw b 0 (u.2.1 1 1 - 1))))) X dX4_clauseCount_4 (c_X4_isBill κ.l hl κ.Γ M a u hR b) k1275 k1277 kp26 k5 k1278 rfl (MRep.obj hR) ⟨rfl, by decide, by decide, (show (parseMethodDescriptor yX4_isBill.desc).map (fun d => d.parameters.length) = some 1 by decide +kernel)⟩ rfl (Nat.le_of_ble_eq_true rfl) (by rw [hRm]; decide) (by rw [hRm]; exact ⟨Nat.le_of_ble_eq_true rfl, Nat.le_of_ble_eq_true rfl⟩) ?_
  refine g_ifb_ne (tgt := 14) X dX4_clauseCount_7 (by decide) (fun c1 => ?_) (fun c1 => ?_)
  · refine g_iconst (v := 0) X dX4_clauseCount_14 (by decide) ?_
    refine g_callV (As := [.int 1, .int 0]) (ci := 4) X dX4_clauseCount_15 (c_X4_fails0 κ.l hl κ.Γ M a u hR 1) k1164 k1166 kp15 k5 k1167 rfl (MRep.obj hR) ⟨rfl, by decide, by decide, (show (parseMethodDescriptor yX4_fails.desc).map (fun d => d.parameters.length) = some 2 by decide +kernel)⟩ rfl (Nat.le_of_ble_eq_true rfl) (by rw [hRm]; decide) (by rw [hRm]; exact ⟨Nat.le_of_ble_eq_true rfl, Nat.le_of_ble_eq_true rfl⟩) (fun v2 M2 h2 => ?_) (fun _ _ h9 => by cases h9.1)
    obtain ⟨e2, hR2, hF2⟩ := h2
    have e2 : (Sum.inl v2 : Res) = rI 0 := e2
    cases e2
    obtain ⟨b9, hb9, hcb9, rfl⟩ := RInv.bil hi c1
    refine g_if_eq (tgt := 25) X dX4_clauseCount_18 (by decide) (fun c3 => ?_) (fun c3 => absurd c3 (by decide))
    refine g_aload_n X dX4_clauseCount_25 rfl 0 rfl ?_
    refine g_iload_n X dX4_clauseCount_26 rfl 1 rfl ?_
    refine g_callV_rd (As := [.int (nI b9)]) (ci := 4) (v := some (.int (jbc (u.2.1 1 (53 + 16 * b9 + 1)) + jbc (u.2.1 1 (53 + 16 * b9 + 2))))) X dX4_clauseCount_27 (c_X4_countClauses κ.l hl κ.Γ M2 a (hsc u 0 0) hR2 b9 (by omega)) k1296 k1298 kp27 k5 k1299 rfl (MRep.obj hR2) ⟨rfl, by decide, by decide, (show (parseMethodDescriptor yX4_countClauses.desc).map (fun d => d.parameters.length) = some 1 by decide +kernel)⟩ rfl (Nat.le_of_ble_eq_true rfl) (by rw [hRm]; decide) (by rw [hRm]; exact ⟨Nat.le_of_ble_eq_true rfl, Nat.le_of_ble_eq_true rfl⟩) ?_
    exact g_iret X F dX4_clauseCount_30 (by omega) (by omega) (by unfold mClauseCount; (try rw [hcb9]); exact (MMu.n (by first | exact c1 | exact fun q => q c1 | exact fun q => c1 q | exact Classical.not_not.mp c1) ⟨rfl, hR2, hF2⟩))
  · refine g_iconst (v := 1) X dX4_clauseCount_10 (by decide) ?_
    refine g_goto (tgt := 15) X dX4_clauseCount_11 (by decide) ?_
    refine g_callV (As := [.int 1, .int 1]) (ci := 4) X dX4_clauseCount_15 (c_X4_fails1 κ.l hl κ.Γ M a u hR 1) k1164 k1166 kp15 k5 k1167 rfl (MRep.obj hR) ⟨rfl, by decide, by decide, (show (parseMethodDescriptor yX4_fails.desc).map (fun d => d.parameters.length) = some 2 by decide +kernel)⟩ rfl (Nat.le_of_ble_eq_true rfl) (by rw [hRm]; decide) (by rw [hRm]; exact ⟨Nat.le_of_ble_eq_true rfl, Nat.le_of_ble_eq_true rfl⟩) (fun v4 M4 h4 => ?_) (fun _ _ h9 => by cases h9.1)
    obtain ⟨e4, hR4, hF4⟩ := h4
    have e4 : (Sum.inl v4 : Res) = rI 1 := e4
    cases e4
    refine g_if_eq (tgt := 25) X dX4_clauseCount_18 (by decide) (fun c5 => absurd c5 (by decide)) (fun c5 => ?_)
    refine g_iconst (v := 0) X dX4_clauseCount_21 (by decide) ?_
    refine g_goto (tgt := 30) X dX4_clauseCount_22 (by decide) ?_
    exact g_iret X F dX4_clauseCount_30 (by omega) (by omega) (by unfold mClauseCount; exact (MMu.y (by first | exact c1 | exact fun q => q c1 | exact fun q => c1 q | exact Classical.not_not.mp c1) ⟨rfl, hR4, hF4⟩))
noncomputable def mWeightFor (u : HV) (b : Int32) : Res × HV := mG (¬ isBl u b) 1 zI u (rI (rWt (u0 u) (rB u (cN b) 5)), u0 u)
set_option maxRecDepth 100000 in
set_option maxHeartbeats 4000000 in
theorem c_X4_weightFor (l : Launch) (hl : l.stackTraces = false) (Γ : Gm) (M : Hp) (a : Nat → Nat) (u : HV) (hR : MRep Γ a u M) (b : Int32) (hi : RInv (u.2.1 1)) : Ct l Γ yX4_weightFor cX4_weightFor 2 (some .int) 2 0 0 [.ref (a 0), .int b] M (MMu Γ a (mWeightFor u b) M) := by
  refine Ct.of hl (by decide) (Nat.le_of_ble_eq_true rfl) rfl ?_
  intro κ e1 e2 hnL hRm X F hlt
  subst e1 e2
  refine g_aload_n X dX4_weightFor_0 rfl 0 rfl ?_
  refine g_iconst (v := 1) X dX4_weightFor_1 (by decide) ?_
  refine g_aload_n X dX4_weightFor_2 rfl 0 rfl ?_
  refine g_iload_n X dX4_weightFor_3 rfl 1 rfl ?_
  refine g_callV_rd (As := [.int b]) (ci := 4) (v := some (.int (bI (btw b 0 (u.2.1 1 1 - 1))))) X dX4_weightFor_4 (c_X4_isBill κ.l hl κ.Γ M a u hR b) k1275 k1277 kp26 k5 k1278 rfl (MRep.obj hR) ⟨rfl, by decide, by decide, (show (parseMethodDescriptor yX4_isBill.desc).map (fun d => d.parameters.length) = some 1 by decide +kernel)⟩ rfl (Nat.le_of_ble_eq_true rfl) (by rw [hRm]; decide) (by rw [hRm]; exact ⟨Nat.le_of_ble_eq_true rfl, Nat.le_of_ble_eq_true rfl⟩) ?_
  refine g_ifb_ne (tgt := 14) X dX4_weightFor_7 (by decide) (fun c1 => ?_) (fun c1 => ?_)
  · refine g_iconst (v := 0) X dX4_weightFor_14 (by decide) ?_
    refine g_callV (As := [.int 1, .int 0]) (ci := 4) X dX4_weightFor_15 (c_X4_fails0 κ.l hl κ.Γ M a u hR 1) k1164 k1166 kp15 k5 k1167 rfl (MRep.obj hR) ⟨rfl, by decide, by decide, (show (parseMethodDescriptor yX4_fails.desc).map (fun d => d.parameters.length) = some 2 by decide +kernel)⟩ rfl (Nat.le_of_ble_eq_true rfl) (by rw [hRm]; decide) (by rw [hRm]; exact ⟨Nat.le_of_ble_eq_true rfl, Nat.le_of_ble_eq_true rfl⟩) (fun v2 M2 h2 => ?_) (fun _ _ h9 => by cases h9.1)
    obtain ⟨e2, hR2, hF2⟩ := h2
    have e2 : (Sum.inl v2 : Res) = rI 0 := e2
    cases e2
    obtain ⟨b9, hb9, hcb9, rfl⟩ := RInv.bil hi c1
    refine g_if_eq (tgt := 25) X dX4_weightFor_18 (by decide) (fun c3 => ?_) (fun c3 => absurd c3 (by decide))
    refine g_aload_n X dX4_weightFor_25 rfl 0 rfl ?_
    refine g_aload_n X dX4_weightFor_26 rfl 0 rfl ?_
    refine g_iload_n X dX4_weightFor_27 rfl 1 rfl ?_
    refine g_iconst (v := 5) X dX4_weightFor_28 (by decide) ?_
    refine g_callV_rd (As := [.int (nI b9), .int 5]) (ci := 4) (v := some (.int (u.2.1 1 (53 + 16 * b9 + 5)))) X dX4_weightFor_29 (c_X4_of κ.l hl κ.Γ M2 a (hsc u 0 0) hR2 b9 5 (by omega) (by omega)) k1263 k1265 kp25 k5 k1266 rfl (MRep.obj hR2) ⟨rfl, by decide, by decide, (show (parseMethodDescriptor yX4_of.desc).map (fun d => d.parameters.length) = some 2 by decide +kernel)⟩ rfl (Nat.le_of_ble_eq_true rfl) (by rw [hRm]; decide) (by rw [hRm]; exact ⟨Nat.le_of_ble_eq_true rfl, Nat.le_of_ble_eq_true rfl⟩) ?_
    refine g_callV_rd (As := [.int (u.2.1 1 (53 + 16 * b9 + 5))]) (ci := 4) (v := some (.int (rSum (hsc u 0 0) (u.2.1 1 (53 + 16 * b9 + 5)) (cN (u.2.1 1 0))))) X dX4_weightFor_32 (c_X4_weigh κ.l hl κ.Γ M2 a (hsc u 0 0) hR2 (u.2.1 1 (53 + 16 * b9 + 5)) hi) k1333 k1335 kp32 k5 k1336 rfl (MRep.obj hR2) ⟨rfl, by decide, by decide, (show (parseMethodDescriptor yX4_weigh.desc).map (fun d => d.parameters.length) = some 1 by decide +kernel)⟩ rfl (Nat.le_of_ble_eq_true rfl) (by rw [hRm]; decide) (by rw [hRm]; exact ⟨Nat.le_of_ble_eq_true rfl, Nat.le_of_ble_eq_true rfl⟩) ?_
    exact g_iret X F dX4_weightFor_35 (by omega) (by omega) (by unfold mWeightFor; (try rw [hcb9]); exact (MMu.n (by first | exact c1 | exact fun q => q c1 | exact fun q => c1 q | exact Classical.not_not.mp c1) ⟨rfl, hR2, hF2⟩))
  · refine g_iconst (v := 1) X dX4_weightFor_10 (by decide) ?_
    refine g_goto (tgt := 15) X dX4_weightFor_11 (by decide) ?_
    refine g_callV (As := [.int 1, .int 1]) (ci := 4) X dX4_weightFor_15 (c_X4_fails1 κ.l hl κ.Γ M a u hR 1) k1164 k1166 kp15 k5 k1167 rfl (MRep.obj hR) ⟨rfl, by decide, by decide, (show (parseMethodDescriptor yX4_fails.desc).map (fun d => d.parameters.length) = some 2 by decide +kernel)⟩ rfl (Nat.le_of_ble_eq_true rfl) (by rw [hRm]; decide) (by rw [hRm]; exact ⟨Nat.le_of_ble_eq_true rfl, Nat.le_of_ble_eq_true rfl⟩) (fun v4 M4 h4 => ?_) (fun _ _ h9 => by cases h9.1)
    obtain ⟨e4, hR4, hF4⟩ := h4
    have e4 : (Sum.inl v4 : Res) = rI 1 := e4
    cases e4
    refine g_if_eq (tgt := 25) X dX4_weightFor_18 (by decide) (fun c5 => absurd c5 (by decide)) (fun c5 => ?_)
    refine g_iconst (v := 0) X dX4_weightFor_21 (by decide) ?_
    refine g_goto (tgt := 35) X dX4_weightFor_22 (by decide) ?_
    exact g_iret X F dX4_weightFor_35 (by omega) (by omega) (by unfold mWeightFor; exact (MMu.y (by first | exact c1 | exact fun q => q c1 | exact fun q => c1 q | exact Classical.not_not.mp c1) ⟨rfl, hR4, hF4⟩))
noncomputable def mWeightAgainst (u : HV) (b : Int32) : Res × HV := mG (¬ isBl u b) 1 zI u (rI (rWt (u0 u) (rB u (cN b) 6)), u0 u)
set_option maxRecDepth 100000 in
set_option maxHeartbeats 4000000 in
theorem c_X4_weightAgainst (l : Launch) (hl : l.stackTraces = false) (Γ : Gm) (M : Hp) (a : Nat → Nat) (u : HV) (hR : MRep Γ a u M) (b : Int32) (hi : RInv (u.2.1 1)) : Ct l Γ yX4_weightAgainst cX4_weightAgainst 2 (some .int) 2 0 0 [.ref (a 0), .int b] M (MMu Γ a (mWeightAgainst u b) M) := by
  refine Ct.of hl (by decide) (Nat.le_of_ble_eq_true rfl) rfl ?_
  intro κ e1 e2 hnL hRm X F hlt
  subst e1 e2
  refine g_aload_n X dX4_weightAgainst_0 rfl 0 rfl ?_
  refine g_iconst (v := 1) X dX4_weightAgainst_1 (by decide) ?_
  refine g_aload_n X dX4_weightAgainst_2 rfl 0 rfl ?_
  refine g_iload_n X dX4_weightAgainst_3 rfl 1 rfl ?_
  refine g_callV_rd (As := [.int b]) (ci := 4) (v := some (.int (bI (btw b 0 (u.2.1 1 1 - 1))))) X dX4_weightAgainst_4 (c_X4_isBill κ.l hl κ.Γ M a u hR b) k1275 k1277 kp26 k5 k1278 rfl (MRep.obj hR) ⟨rfl, by decide, by decide, (show (parseMethodDescriptor yX4_isBill.desc).map (fun d => d.parameters.length) = some 1 by decide +kernel)⟩ rfl (Nat.le_of_ble_eq_true rfl) (by rw [hRm]; decide) (by rw [hRm]; exact ⟨Nat.le_of_ble_eq_true rfl, Nat.le_of_ble_eq_true rfl⟩) ?_
  refine g_ifb_ne (tgt := 14) X dX4_weightAgainst_7 (by decide) (fun c1 => ?_) (fun c1 => ?_)
  · refine g_iconst (v := 0) X dX4_weightAgainst_14 (by decide) ?_
    refine g_callV (As := [.int 1, .int 0]) (ci := 4) X dX4_weightAgainst_15 (c_X4_fails0 κ.l hl κ.Γ M a u hR 1) k1164 k1166 kp15 k5 k1167 rfl (MRep.obj hR) ⟨rfl, by decide, by decide, (show (parseMethodDescriptor yX4_fails.desc).map (fun d => d.parameters.length) = some 2 by decide +kernel)⟩ rfl (Nat.le_of_ble_eq_true rfl) (by rw [hRm]; decide) (by rw [hRm]; exact ⟨Nat.le_of_ble_eq_true rfl, Nat.le_of_ble_eq_true rfl⟩) (fun v2 M2 h2 => ?_) (fun _ _ h9 => by cases h9.1)
    obtain ⟨e2, hR2, hF2⟩ := h2
    have e2 : (Sum.inl v2 : Res) = rI 0 := e2
    cases e2
    obtain ⟨b9, hb9, hcb9, rfl⟩ := RInv.bil hi c1
    refine g_if_eq (tgt := 25) X dX4_weightAgainst_18 (by decide) (fun c3 => ?_) (fun c3 => absurd c3 (by decide))
    refine g_aload_n X dX4_weightAgainst_25 rfl 0 rfl ?_
    refine g_aload_n X dX4_weightAgainst_26 rfl 0 rfl ?_
    refine g_iload_n X dX4_weightAgainst_27 rfl 1 rfl ?_
    refine g_bipush (v := 6) X dX4_weightAgainst_28 (by decide) ?_
    refine g_callV_rd (As := [.int (nI b9), .int 6]) (ci := 4) (v := some (.int (u.2.1 1 (53 + 16 * b9 + 6)))) X dX4_weightAgainst_30 (c_X4_of κ.l hl κ.Γ M2 a (hsc u 0 0) hR2 b9 6 (by omega) (by omega)) k1263 k1265 kp25 k5 k1266 rfl (MRep.obj hR2) ⟨rfl, by decide, by decide, (show (parseMethodDescriptor yX4_of.desc).map (fun d => d.parameters.length) = some 2 by decide +kernel)⟩ rfl (Nat.le_of_ble_eq_true rfl) (by rw [hRm]; decide) (by rw [hRm]; exact ⟨Nat.le_of_ble_eq_true rfl, Nat.le_of_ble_eq_true rfl⟩) ?_
    refine g_callV_rd (As := [.int (u.2.1 1 (53 + 16 * b9 + 6))]) (ci := 4) (v := some (.int (rSum (hsc u 0 0) (u.2.1 1 (53 + 16 * b9 + 6)) (cN (u.2.1 1 0))))) X dX4_weightAgainst_33 (c_X4_weigh κ.l hl κ.Γ M2 a (hsc u 0 0) hR2 (u.2.1 1 (53 + 16 * b9 + 6)) hi) k1333 k1335 kp32 k5 k1336 rfl (MRep.obj hR2) ⟨rfl, by decide, by decide, (show (parseMethodDescriptor yX4_weigh.desc).map (fun d => d.parameters.length) = some 1 by decide +kernel)⟩ rfl (Nat.le_of_ble_eq_true rfl) (by rw [hRm]; decide) (by rw [hRm]; exact ⟨Nat.le_of_ble_eq_true rfl, Nat.le_of_ble_eq_true rfl⟩) ?_
    exact g_iret X F dX4_weightAgainst_36 (by omega) (by omega) (by unfold mWeightAgainst; (try rw [hcb9]); exact (MMu.n (by first | exact c1 | exact fun q => q c1 | exact fun q => c1 q | exact Classical.not_not.mp c1) ⟨rfl, hR2, hF2⟩))
  · refine g_iconst (v := 1) X dX4_weightAgainst_10 (by decide) ?_
    refine g_goto (tgt := 15) X dX4_weightAgainst_11 (by decide) ?_
    refine g_callV (As := [.int 1, .int 1]) (ci := 4) X dX4_weightAgainst_15 (c_X4_fails1 κ.l hl κ.Γ M a u hR 1) k1164 k1166 kp15 k5 k1167 rfl (MRep.obj hR) ⟨rfl, by decide, by decide, (show (parseMethodDescriptor yX4_fails.desc).map (fun d => d.parameters.length) = some 2 by decide +kernel)⟩ rfl (Nat.le_of_ble_eq_true rfl) (by rw [hRm]; decide) (by rw [hRm]; exact ⟨Nat.le_of_ble_eq_true rfl, Nat.le_of_ble_eq_true rfl⟩) (fun v4 M4 h4 => ?_) (fun _ _ h9 => by cases h9.1)
    obtain ⟨e4, hR4, hF4⟩ := h4
    have e4 : (Sum.inl v4 : Res) = rI 1 := e4
    cases e4
    refine g_if_eq (tgt := 25) X dX4_weightAgainst_18 (by decide) (fun c5 => absurd c5 (by decide)) (fun c5 => ?_)
    refine g_iconst (v := 0) X dX4_weightAgainst_21 (by decide) ?_
    refine g_goto (tgt := 36) X dX4_weightAgainst_22 (by decide) ?_
    exact g_iret X F dX4_weightAgainst_36 (by omega) (by omega) (by unfold mWeightAgainst; exact (MMu.y (by first | exact c1 | exact fun q => q c1 | exact fun q => c1 q | exact Classical.not_not.mp c1) ⟨rfl, hR4, hF4⟩))
noncomputable def mPendingCount (u : HV) (b : Int32) : Res × HV := mG (¬ isBl u b) 1 zI u (rI (rB u (cN b) 7), u0 u)
set_option maxRecDepth 100000 in
set_option maxHeartbeats 4000000 in
theorem c_X4_pendingCount (l : Launch) (hl : l.stackTraces = false) (Γ : Gm) (M : Hp) (a : Nat → Nat) (u : HV) (hR : MRep Γ a u M) (b : Int32) (hi : RInv (u.2.1 1)) : Ct l Γ yX4_pendingCount cX4_pendingCount 2 (some .int) 2 0 0 [.ref (a 0), .int b] M (MMu Γ a (mPendingCount u b) M) := by
  refine Ct.of hl (by decide) (Nat.le_of_ble_eq_true rfl) rfl ?_
  intro κ e1 e2 hnL hRm X F hlt
  subst e1 e2
  refine g_aload_n X dX4_pendingCount_0 rfl 0 rfl ?_
  refine g_iconst (v := 1) X dX4_pendingCount_1 (by decide) ?_
  refine g_aload_n X dX4_pendingCount_2 rfl 0 rfl ?_
  refine g_iload_n X dX4_pendingCount_3 rfl 1 rfl ?_
  refine g_callV_rd (As := [.int b]) (ci := 4) (v := some (.int (bI (btw b 0 (u.2.1 1 1 - 1))))) X dX4_pendingCount_4 (c_X4_isBill κ.l hl κ.Γ M a u hR b) k1275 k1277 kp26 k5 k1278 rfl (MRep.obj hR) ⟨rfl, by decide, by decide, (show (parseMethodDescriptor yX4_isBill.desc).map (fun d => d.parameters.length) = some 1 by decide +kernel)⟩ rfl (Nat.le_of_ble_eq_true rfl) (by rw [hRm]; decide) (by rw [hRm]; exact ⟨Nat.le_of_ble_eq_true rfl, Nat.le_of_ble_eq_true rfl⟩) ?_
  refine g_ifb_ne (tgt := 14) X dX4_pendingCount_7 (by decide) (fun c1 => ?_) (fun c1 => ?_)
  · refine g_iconst (v := 0) X dX4_pendingCount_14 (by decide) ?_
    refine g_callV (As := [.int 1, .int 0]) (ci := 4) X dX4_pendingCount_15 (c_X4_fails0 κ.l hl κ.Γ M a u hR 1) k1164 k1166 kp15 k5 k1167 rfl (MRep.obj hR) ⟨rfl, by decide, by decide, (show (parseMethodDescriptor yX4_fails.desc).map (fun d => d.parameters.length) = some 2 by decide +kernel)⟩ rfl (Nat.le_of_ble_eq_true rfl) (by rw [hRm]; decide) (by rw [hRm]; exact ⟨Nat.le_of_ble_eq_true rfl, Nat.le_of_ble_eq_true rfl⟩) (fun v2 M2 h2 => ?_) (fun _ _ h9 => by cases h9.1)
    obtain ⟨e2, hR2, hF2⟩ := h2
    have e2 : (Sum.inl v2 : Res) = rI 0 := e2
    cases e2
    obtain ⟨b9, hb9, hcb9, rfl⟩ := RInv.bil hi c1
    refine g_if_eq (tgt := 25) X dX4_pendingCount_18 (by decide) (fun c3 => ?_) (fun c3 => absurd c3 (by decide))
    refine g_aload_n X dX4_pendingCount_25 rfl 0 rfl ?_
    refine g_iload_n X dX4_pendingCount_26 rfl 1 rfl ?_
    refine g_bipush (v := 7) X dX4_pendingCount_27 (by decide) ?_
    refine g_callV_rd (As := [.int (nI b9), .int 7]) (ci := 4) (v := some (.int (u.2.1 1 (53 + 16 * b9 + 7)))) X dX4_pendingCount_29 (c_X4_of κ.l hl κ.Γ M2 a (hsc u 0 0) hR2 b9 7 (by omega) (by omega)) k1263 k1265 kp25 k5 k1266 rfl (MRep.obj hR2) ⟨rfl, by decide, by decide, (show (parseMethodDescriptor yX4_of.desc).map (fun d => d.parameters.length) = some 2 by decide +kernel)⟩ rfl (Nat.le_of_ble_eq_true rfl) (by rw [hRm]; decide) (by rw [hRm]; exact ⟨Nat.le_of_ble_eq_true rfl, Nat.le_of_ble_eq_true rfl⟩) ?_
    exact g_iret X F dX4_pendingCount_32 (by omega) (by omega) (by unfold mPendingCount; (try rw [hcb9]); exact (MMu.n (by first | exact c1 | exact fun q => q c1 | exact fun q => c1 q | exact Classical.not_not.mp c1) ⟨rfl, hR2, hF2⟩))
  · refine g_iconst (v := 1) X dX4_pendingCount_10 (by decide) ?_
    refine g_goto (tgt := 15) X dX4_pendingCount_11 (by decide) ?_
    refine g_callV (As := [.int 1, .int 1]) (ci := 4) X dX4_pendingCount_15 (c_X4_fails1 κ.l hl κ.Γ M a u hR 1) k1164 k1166 kp15 k5 k1167 rfl (MRep.obj hR) ⟨rfl, by decide, by decide, (show (parseMethodDescriptor yX4_fails.desc).map (fun d => d.parameters.length) = some 2 by decide +kernel)⟩ rfl (Nat.le_of_ble_eq_true rfl) (by rw [hRm]; decide) (by rw [hRm]; exact ⟨Nat.le_of_ble_eq_true rfl, Nat.le_of_ble_eq_true rfl⟩) (fun v4 M4 h4 => ?_) (fun _ _ h9 => by cases h9.1)
    obtain ⟨e4, hR4, hF4⟩ := h4
    have e4 : (Sum.inl v4 : Res) = rI 1 := e4
    cases e4
    refine g_if_eq (tgt := 25) X dX4_pendingCount_18 (by decide) (fun c5 => absurd c5 (by decide)) (fun c5 => ?_)
    refine g_iconst (v := 0) X dX4_pendingCount_21 (by decide) ?_
    refine g_goto (tgt := 32) X dX4_pendingCount_22 (by decide) ?_
    exact g_iret X F dX4_pendingCount_32 (by omega) (by omega) (by unfold mPendingCount; exact (MMu.y (by first | exact c1 | exact fun q => q c1 | exact fun q => c1 q | exact Classical.not_not.mp c1) ⟨rfl, hR4, hF4⟩))
noncomputable def mDelay (u : HV) (b : Int32) : Res × HV := mG (¬ isBl u b) 1 zI u (rI (rB u (cN b) 4), u0 u)
set_option maxRecDepth 100000 in
set_option maxHeartbeats 4000000 in
theorem c_X4_delay (l : Launch) (hl : l.stackTraces = false) (Γ : Gm) (M : Hp) (a : Nat → Nat) (u : HV) (hR : MRep Γ a u M) (b : Int32) (hi : RInv (u.2.1 1)) : Ct l Γ yX4_delay cX4_delay 2 (some .int) 2 0 0 [.ref (a 0), .int b] M (MMu Γ a (mDelay u b) M) := by
  refine Ct.of hl (by decide) (Nat.le_of_ble_eq_true rfl) rfl ?_
  intro κ e1 e2 hnL hRm X F hlt
  subst e1 e2
  refine g_aload_n X dX4_delay_0 rfl 0 rfl ?_
  refine g_iconst (v := 1) X dX4_delay_1 (by decide) ?_
  refine g_aload_n X dX4_delay_2 rfl 0 rfl ?_
  refine g_iload_n X dX4_delay_3 rfl 1 rfl ?_
  refine g_callV_rd (As := [.int b]) (ci := 4) (v := some (.int (bI (btw b 0 (u.2.1 1 1 - 1))))) X dX4_delay_4 (c_X4_isBill κ.l hl κ.Γ M a u hR b) k1275 k1277 kp26 k5 k1278 rfl (MRep.obj hR) ⟨rfl, by decide, by decide, (show (parseMethodDescriptor yX4_isBill.desc).map (fun d => d.parameters.length) = some 1 by decide +kernel)⟩ rfl (Nat.le_of_ble_eq_true rfl) (by rw [hRm]; decide) (by rw [hRm]; exact ⟨Nat.le_of_ble_eq_true rfl, Nat.le_of_ble_eq_true rfl⟩) ?_
  refine g_ifb_ne (tgt := 14) X dX4_delay_7 (by decide) (fun c1 => ?_) (fun c1 => ?_)
  · refine g_iconst (v := 0) X dX4_delay_14 (by decide) ?_
    refine g_callV (As := [.int 1, .int 0]) (ci := 4) X dX4_delay_15 (c_X4_fails0 κ.l hl κ.Γ M a u hR 1) k1164 k1166 kp15 k5 k1167 rfl (MRep.obj hR) ⟨rfl, by decide, by decide, (show (parseMethodDescriptor yX4_fails.desc).map (fun d => d.parameters.length) = some 2 by decide +kernel)⟩ rfl (Nat.le_of_ble_eq_true rfl) (by rw [hRm]; decide) (by rw [hRm]; exact ⟨Nat.le_of_ble_eq_true rfl, Nat.le_of_ble_eq_true rfl⟩) (fun v2 M2 h2 => ?_) (fun _ _ h9 => by cases h9.1)
    obtain ⟨e2, hR2, hF2⟩ := h2
    have e2 : (Sum.inl v2 : Res) = rI 0 := e2
    cases e2
    obtain ⟨b9, hb9, hcb9, rfl⟩ := RInv.bil hi c1
    refine g_if_eq (tgt := 25) X dX4_delay_18 (by decide) (fun c3 => ?_) (fun c3 => absurd c3 (by decide))
    refine g_aload_n X dX4_delay_25 rfl 0 rfl ?_
    refine g_iload_n X dX4_delay_26 rfl 1 rfl ?_
    refine g_iconst (v := 4) X dX4_delay_27 (by decide) ?_
    refine g_callV_rd (As := [.int (nI b9), .int 4]) (ci := 4) (v := some (.int (u.2.1 1 (53 + 16 * b9 + 4)))) X dX4_delay_28 (c_X4_of κ.l hl κ.Γ M2 a (hsc u 0 0) hR2 b9 4 (by omega) (by omega)) k1263 k1265 kp25 k5 k1266 rfl (MRep.obj hR2) ⟨rfl, by decide, by decide, (show (parseMethodDescriptor yX4_of.desc).map (fun d => d.parameters.length) = some 2 by decide +kernel)⟩ rfl (Nat.le_of_ble_eq_true rfl) (by rw [hRm]; decide) (by rw [hRm]; exact ⟨Nat.le_of_ble_eq_true rfl, Nat.le_of_ble_eq_true rfl⟩) ?_
    exact g_iret X F dX4_delay_31 (by omega) (by omega) (by unfold mDelay; (try rw [hcb9]); exact (MMu.n (by first | exact c1 | exact fun q => q c1 | exact fun q => c1 q | exact Classical.not_not.mp c1) ⟨rfl, hR2, hF2⟩))
  · refine g_iconst (v := 1) X dX4_delay_10 (by decide) ?_
    refine g_goto (tgt := 15) X dX4_delay_11 (by decide) ?_
    refine g_callV (As := [.int 1, .int 1]) (ci := 4) X dX4_delay_15 (c_X4_fails1 κ.l hl κ.Γ M a u hR 1) k1164 k1166 kp15 k5 k1167 rfl (MRep.obj hR) ⟨rfl, by decide, by decide, (show (parseMethodDescriptor yX4_fails.desc).map (fun d => d.parameters.length) = some 2 by decide +kernel)⟩ rfl (Nat.le_of_ble_eq_true rfl) (by rw [hRm]; decide) (by rw [hRm]; exact ⟨Nat.le_of_ble_eq_true rfl, Nat.le_of_ble_eq_true rfl⟩) (fun v4 M4 h4 => ?_) (fun _ _ h9 => by cases h9.1)
    obtain ⟨e4, hR4, hF4⟩ := h4
    have e4 : (Sum.inl v4 : Res) = rI 1 := e4
    cases e4
    refine g_if_eq (tgt := 25) X dX4_delay_18 (by decide) (fun c5 => absurd c5 (by decide)) (fun c5 => ?_)
    refine g_iconst (v := 0) X dX4_delay_21 (by decide) ?_
    refine g_goto (tgt := 31) X dX4_delay_22 (by decide) ?_
    exact g_iret X F dX4_delay_31 (by omega) (by omega) (by unfold mDelay; exact (MMu.y (by first | exact c1 | exact fun q => q c1 | exact fun q => c1 q | exact Classical.not_not.mp c1) ⟨rfl, hR4, hF4⟩))
noncomputable def mRust (u : HV) (b : Int32) : Res × HV := mG (¬ isBl u b) 1 zI u (rI (rB u (cN b) 4 / 60), u0 u)
set_option maxRecDepth 100000 in
set_option maxHeartbeats 4000000 in
theorem c_X4_rust (l : Launch) (hl : l.stackTraces = false) (Γ : Gm) (M : Hp) (a : Nat → Nat) (u : HV) (hR : MRep Γ a u M) (b : Int32) (hi : RInv (u.2.1 1)) : Ct l Γ yX4_rust cX4_rust 2 (some .int) 2 0 0 [.ref (a 0), .int b] M (MMu Γ a (mRust u b) M) := by
  refine Ct.of hl (by decide) (Nat.le_of_ble_eq_true rfl) rfl ?_
  intro κ e1 e2 hnL hRm X F hlt
  subst e1 e2
  refine g_aload_n X dX4_rust_0 rfl 0 rfl ?_
  refine g_iconst (v := 1) X dX4_rust_1 (by decide) ?_
  refine g_aload_n X dX4_rust_2 rfl 0 rfl ?_
  refine g_iload_n X dX4_rust_3 rfl 1 rfl ?_
  refine g_callV_rd (As := [.int b]) (ci := 4) (v := some (.int (bI (btw b 0 (u.2.1 1 1 - 1))))) X dX4_rust_4 (c_X4_isBill κ.l hl κ.Γ M a u hR b) k1275 k1277 kp26 k5 k1278 rfl (MRep.obj hR) ⟨rfl, by decide, by decide, (show (parseMethodDescriptor yX4_isBill.desc).map (fun d => d.parameters.length) = some 1 by decide +kernel)⟩ rfl (Nat.le_of_ble_eq_true rfl) (by rw [hRm]; decide) (by rw [hRm]; exact ⟨Nat.le_of_ble_eq_true rfl, Nat.le_of_ble_eq_true rfl⟩) ?_
  refine g_ifb_ne (tgt := 14) X dX4_rust_7 (by decide) (fun c1 => ?_) (fun c1 => ?_)
  · refine g_iconst (v := 0) X dX4_rust_14 (by decide) ?_
    refine g_callV (As := [.int 1, .int 0]) (ci := 4) X dX4_rust_15 (c_X4_fails0 κ.l hl κ.Γ M a u hR 1) k1164 k1166 kp15 k5 k1167 rfl (MRep.obj hR) ⟨rfl, by decide, by decide, (show (parseMethodDescriptor yX4_fails.desc).map (fun d => d.parameters.length) = some 2 by decide +kernel)⟩ rfl (Nat.le_of_ble_eq_true rfl) (by rw [hRm]; decide) (by rw [hRm]; exact ⟨Nat.le_of_ble_eq_true rfl, Nat.le_of_ble_eq_true rfl⟩) (fun v2 M2 h2 => ?_) (fun _ _ h9 => by cases h9.1)
    obtain ⟨e2, hR2, hF2⟩ := h2
    have e2 : (Sum.inl v2 : Res) = rI 0 := e2
    cases e2
    obtain ⟨b9, hb9, hcb9, rfl⟩ := RInv.bil hi c1
    refine g_if_eq (tgt := 25) X dX4_rust_18 (by decide) (fun c3 => ?_) (fun c3 => absurd c3 (by decide))
    refine g_aload_n X dX4_rust_25 rfl 0 rfl ?_
    refine g_iload_n X dX4_rust_26 rfl 1 rfl ?_
    refine g_callV_rd (As := [.int (nI b9)]) (ci := 4) (v := some (.int (u.2.1 1 (53 + 16 * b9 + 4) / 60))) X dX4_rust_27 (c_X4_rusted κ.l hl κ.Γ M2 a (hsc u 0 0) hR2 b9 (by omega)) k1321 k1323 kp30 k5 k1324 rfl (MRep.obj hR2) ⟨rfl, by decide, by decide, (show (parseMethodDescriptor yX4_rusted.desc).map (fun d => d.parameters.length) = some 1 by decide +kernel)⟩ rfl (Nat.le_of_ble_eq_true rfl) (by rw [hRm]; decide) (by rw [hRm]; exact ⟨Nat.le_of_ble_eq_true rfl, Nat.le_of_ble_eq_true rfl⟩) ?_
    exact g_iret X F dX4_rust_30 (by omega) (by omega) (by unfold mRust; (try rw [hcb9]); exact (MMu.n (by first | exact c1 | exact fun q => q c1 | exact fun q => c1 q | exact Classical.not_not.mp c1) ⟨rfl, hR2, hF2⟩))
  · refine g_iconst (v := 1) X dX4_rust_10 (by decide) ?_
    refine g_goto (tgt := 15) X dX4_rust_11 (by decide) ?_
    refine g_callV (As := [.int 1, .int 1]) (ci := 4) X dX4_rust_15 (c_X4_fails1 κ.l hl κ.Γ M a u hR 1) k1164 k1166 kp15 k5 k1167 rfl (MRep.obj hR) ⟨rfl, by decide, by decide, (show (parseMethodDescriptor yX4_fails.desc).map (fun d => d.parameters.length) = some 2 by decide +kernel)⟩ rfl (Nat.le_of_ble_eq_true rfl) (by rw [hRm]; decide) (by rw [hRm]; exact ⟨Nat.le_of_ble_eq_true rfl, Nat.le_of_ble_eq_true rfl⟩) (fun v4 M4 h4 => ?_) (fun _ _ h9 => by cases h9.1)
    obtain ⟨e4, hR4, hF4⟩ := h4
    have e4 : (Sum.inl v4 : Res) = rI 1 := e4
    cases e4
    refine g_if_eq (tgt := 25) X dX4_rust_18 (by decide) (fun c5 => absurd c5 (by decide)) (fun c5 => ?_)
    refine g_iconst (v := 0) X dX4_rust_21 (by decide) ?_
    refine g_goto (tgt := 30) X dX4_rust_22 (by decide) ?_
    exact g_iret X F dX4_rust_30 (by omega) (by omega) (by unfold mRust; exact (MMu.y (by first | exact c1 | exact fun q => q c1 | exact fun q => c1 q | exact Classical.not_not.mp c1) ⟨rfl, hR4, hF4⟩))
/-- an int is answered -/
def ansI (x : Res × HV) : Prop := ∃ y : Int32, x.1 = rI y
theorem ansI.g {c : Prop} {n : Int32} {u : HV} {k : Res × HV} (h : ansI k) : ansI (mG c n zI u k) := by
  by_cases q : c
  · rw [mG_y q]; exact ⟨0, rfl⟩
  · rw [mG_n q]; exact h
theorem ansI.nx {x : Res × HV} (h : ansI x) {E : String} : ¬ (Sum.inr E : Res) = x.1 := by
  obtain ⟨y, e⟩ := h
  rw [e]
  exact fun q => by cases q
noncomputable def mWeightForByDigits (u : HV) (b : Int32) : Res × HV := mWeightFor u b
set_option maxRecDepth 100000 in
set_option maxHeartbeats 4000000 in
theorem c_X4_weightForByDigits (l : Launch) (hl : l.stackTraces = false) (Γ : Gm) (M : Hp) (a : Nat → Nat) (u : HV) (hR : MRep Γ a u M) (b : Int32) (hi : RInv (u.2.1 1)) : Ct l Γ yX4_weightForByDigits cX4_weightForByDigits 2 (some .int) 3 0 0 [.ref (a 0), .int b] M (MMu Γ a (mWeightForByDigits u b) M) := by
  refine Ct.of hl (by decide) (Nat.le_of_ble_eq_true rfl) rfl ?_
  intro κ e1 e2 hnL hRm X F hlt
  subst e1 e2
  refine g_aload_n X dX4_weightForByDigits_0 rfl 0 rfl ?_
  refine g_iload_n X dX4_weightForByDigits_1 rfl 1 rfl ?_
  refine g_callV (As := [.int b]) (ci := 4) X dX4_weightForByDigits_2 (c_X4_weightFor κ.l hl κ.Γ M a u hR b hi) k1349 k1342 k1343 k5 k1344 rfl (MRep.obj hR) ⟨rfl, by decide, by decide, (show (parseMethodDescriptor yX4_weightFor.desc).map (fun d => d.parameters.length) = some 1 by decide +kernel)⟩ rfl (Nat.le_of_ble_eq_true rfl) (by rw [hRm]; decide) (by rw [hRm]; exact ⟨Nat.le_of_ble_eq_true rfl, Nat.le_of_ble_eq_true rfl⟩) (fun v0 M0 h0 => ?_) (fun E0 M0 h0 => absurd h0.1 (by exact ansI.nx (by unfold mWeightFor; exact ansI.g ⟨_, rfl⟩)))
  obtain ⟨e0, hR0, hF0⟩ := h0
  obtain ⟨y0, e1⟩ : ∃ y : Int32, (mWeightFor u b).1 = rI y := (by unfold mWeightFor; exact ansI.g ⟨_, rfl⟩)
  rw [e1] at e0
  cases e0
  exact g_iret X F dX4_weightForByDigits_5 (by omega) (by omega) (by unfold mWeightForByDigits; exact ⟨e1.symm, hR0, hF0⟩)
noncomputable def mAmendedClause (u : HV) (b : Int32) (p : Int32) : Res × HV := mG (¬ isBl u b) 1 zI u (mG (¬ btw p 0 (rB u (cN b) 7 - 1)) 2 zI u (rI (rB u (cN b) (8 + 2 * cN p)), u0 u))
set_option maxRecDepth 100000 in
set_option maxHeartbeats 4000000 in
theorem c_X4_amendedClause (l : Launch) (hl : l.stackTraces = false) (Γ : Gm) (M : Hp) (a : Nat → Nat) (u : HV) (hR : MRep Γ a u M) (b : Int32) (p : Int32) (hi : RInv (u.2.1 1)) : Ct l Γ yX4_amendedClause cX4_amendedClause 3 (some .int) 2 0 0 [.ref (a 0), .int b, .int p] M (MMu Γ a (mAmendedClause u b p) M) := by
  refine Ct.of hl (by decide) (Nat.le_of_ble_eq_true rfl) rfl ?_
  intro κ e1 e2 hnL hRm X F hlt
  subst e1 e2
  refine g_aload_n X dX4_amendedClause_0 rfl 0 rfl ?_
  refine g_iconst (v := 1) X dX4_amendedClause_1 (by decide) ?_
  refine g_aload_n X dX4_amendedClause_2 rfl 0 rfl ?_
  refine g_iload_n X dX4_amendedClause_3 rfl 1 rfl ?_
  refine g_callV_rd (As := [.int b]) (ci := 4) (v := some (.int (bI (btw b 0 (u.2.1 1 1 - 1))))) X dX4_amendedClause_4 (c_X4_isBill κ.l hl κ.Γ M a u hR b) k1275 k1277 kp26 k5 k1278 rfl (MRep.obj hR) ⟨rfl, by decide, by decide, (show (parseMethodDescriptor yX4_isBill.desc).map (fun d => d.parameters.length) = some 1 by decide +kernel)⟩ rfl (Nat.le_of_ble_eq_true rfl) (by rw [hRm]; decide) (by rw [hRm]; exact ⟨Nat.le_of_ble_eq_true rfl, Nat.le_of_ble_eq_true rfl⟩) ?_
  refine g_ifb_ne (tgt := 14) X dX4_amendedClause_7 (by decide) (fun c1 => ?_) (fun c1 => ?_)
  · refine g_iconst (v := 0) X dX4_amendedClause_14 (by decide) ?_
    refine g_callV (As := [.int 1, .int 0]) (ci := 4) X dX4_amendedClause_15 (c_X4_fails0 κ.l hl κ.Γ M a u hR 1) k1164 k1166 kp15 k5 k1167 rfl (MRep.obj hR) ⟨rfl, by decide, by decide, (show (parseMethodDescriptor yX4_fails.desc).map (fun d => d.parameters.length) = some 2 by decide +kernel)⟩ rfl (Nat.le_of_ble_eq_true rfl) (by rw [hRm]; decide) (by rw [hRm]; exact ⟨Nat.le_of_ble_eq_true rfl, Nat.le_of_ble_eq_true rfl⟩) (fun v2 M2 h2 => ?_) (fun _ _ h9 => by cases h9.1)
    obtain ⟨e2, hR2, hF2⟩ := h2
    have e2 : (Sum.inl v2 : Res) = rI 0 := e2
    cases e2
    obtain ⟨b9, hb9, hcb9, rfl⟩ := RInv.bil hi c1
    refine g_if_ne (tgt := 43) X dX4_amendedClause_18 (by decide) (fun c3 => absurd c3 (by decide)) (fun c3 => ?_)
    refine g_aload_n X dX4_amendedClause_21 rfl 0 rfl ?_
    refine g_iconst (v := 2) X dX4_amendedClause_22 (by decide) ?_
    refine g_aload_n X dX4_amendedClause_23 rfl 0 rfl ?_
    refine g_iload_n X dX4_amendedClause_24 rfl 1 rfl ?_
    refine g_iload_n X dX4_amendedClause_25 rfl 2 rfl ?_
    refine g_callV_rd (As := [.int (nI b9), .int p]) (ci := 4) (v := some (.int (bI (btw p 0 (u.2.1 1 (53 + 16 * b9 + 7) - 1))))) X dX4_amendedClause_26 (c_X4_isPending κ.l hl κ.Γ M2 a (hsc u 0 0) hR2 b9 p (by omega)) k1388 k1390 kp34 k5 k1391 rfl (MRep.obj hR2) ⟨rfl, by decide, by decide, (show (parseMethodDescriptor yX4_isPending.desc).map (fun d => d.parameters.length) = some 2 by decide +kernel)⟩ rfl (Nat.le_of_ble_eq_true rfl) (by rw [hRm]; decide) (by rw [hRm]; exact ⟨Nat.le_of_ble_eq_true rfl, Nat.le_of_ble_eq_true rfl⟩) ?_
    refine g_ifb_ne (tgt := 36) X dX4_amendedClause_29 (by decide) (fun c4 => ?_) (fun c4 => ?_)
    · refine g_iconst (v := 0) X dX4_amendedClause_36 (by decide) ?_
      refine g_callV (As := [.int 2, .int 0]) (ci := 4) X dX4_amendedClause_37 (c_X4_fails0 κ.l hl κ.Γ M2 a (hsc u 0 0) hR2 2) k1164 k1166 kp15 k5 k1167 rfl (MRep.obj hR2) ⟨rfl, by decide, by decide, (show (parseMethodDescriptor yX4_fails.desc).map (fun d => d.parameters.length) = some 2 by decide +kernel)⟩ rfl (Nat.le_of_ble_eq_true rfl) (by rw [hRm]; decide) (by rw [hRm]; exact ⟨Nat.le_of_ble_eq_true rfl, Nat.le_of_ble_eq_true rfl⟩) (fun v5 M5 h5 => ?_) (fun _ _ h9 => by cases h9.1)
      obtain ⟨e5, hR5, hF5⟩ := h5
      have e5 : (Sum.inl v5 : Res) = rI 0 := e5
      cases e5
      have hR5 : MRep κ.Γ a (hsc u 0 0) M5 := by rw [← hsc_hsc (x := 0)]; exact hR5
      have hF5 := Fr.tr hF2 hF5
      obtain ⟨p9, hp9, hcp9, rfl⟩ := RInv.pos hi hb9 c4
      refine g_if_eq (tgt := 47) X dX4_amendedClause_40 (by decide) (fun c6 => ?_) (fun c6 => absurd c6 (by decide))
      refine g_aload_n X dX4_amendedClause_47 rfl 0 rfl ?_
      refine g_iload_n X dX4_amendedClause_48 rfl 1 rfl ?_
      refine g_iload_n X dX4_amendedClause_49 rfl 2 rfl ?_
      refine g_callV_rd (As := [.int (nI b9), .int (nI p9)]) (ci := 4) (v := some (.int (u.2.1 1 (53 + 16 * b9 + (8 + 2 * p9))))) X dX4_amendedClause_50 (c_X4_clauseOf κ.l hl κ.Γ M5 a (hsc u 0 0) hR5 b9 p9 (by omega) (by omega)) k1400 k1402 kp36 k5 k1403 rfl (MRep.obj hR5) ⟨rfl, by decide, by decide, (show (parseMethodDescriptor yX4_clauseOf.desc).map (fun d => d.parameters.length) = some 2 by decide +kernel)⟩ rfl (Nat.le_of_ble_eq_true rfl) (by rw [hRm]; decide) (by rw [hRm]; exact ⟨Nat.le_of_ble_eq_true rfl, Nat.le_of_ble_eq_true rfl⟩) ?_
      exact g_iret X F dX4_amendedClause_53 (by omega) (by omega) (by unfold mAmendedClause; (try rw [hcb9]); (try rw [hcp9]); exact (MMu.n (by first | exact c1 | exact fun q => q c1 | exact fun q => c1 q | exact Classical.not_not.mp c1) (MMu.n (by first | exact c4 | exact fun q => q c4 | exact fun q => c4 q | exact Classical.not_not.mp c4) ⟨rfl, hR5, hF5⟩)))
    · refine g_iconst (v := 1) X dX4_amendedClause_32 (by decide) ?_
      refine g_goto (tgt := 37) X dX4_amendedClause_33 (by decide) ?_
      refine g_callV (As := [.int 2, .int 1]) (ci := 4) X dX4_amendedClause_37 (c_X4_fails1 κ.l hl κ.Γ M2 a (hsc u 0 0) hR2 2) k1164 k1166 kp15 k5 k1167 rfl (MRep.obj hR2) ⟨rfl, by decide, by decide, (show (parseMethodDescriptor yX4_fails.desc).map (fun d => d.parameters.length) = some 2 by decide +kernel)⟩ rfl (Nat.le_of_ble_eq_true rfl) (by rw [hRm]; decide) (by rw [hRm]; exact ⟨Nat.le_of_ble_eq_true rfl, Nat.le_of_ble_eq_true rfl⟩) (fun v7 M7 h7 => ?_) (fun _ _ h9 => by cases h9.1)
      obtain ⟨e7, hR7, hF7⟩ := h7
      have e7 : (Sum.inl v7 : Res) = rI 1 := e7
      cases e7
      have hR7 : MRep κ.Γ a (hsc u 0 2) M7 := by rw [← hsc_hsc (x := 0)]; exact hR7
      have hF7 := Fr.tr hF2 hF7
      refine g_if_eq (tgt := 47) X dX4_amendedClause_40 (by decide) (fun c8 => absurd c8 (by decide)) (fun c8 => ?_)
      refine g_iconst (v := 0) X dX4_amendedClause_43 (by decide) ?_
      refine g_goto (tgt := 53) X dX4_amendedClause_44 (by decide) ?_
      exact g_iret X F dX4_amendedClause_53 (by omega) (by omega) (by unfold mAmendedClause; (try rw [hcb9]); exact (MMu.n (by first | exact c1 | exact fun q => q c1 | exact fun q => c1 q | exact Classical.not_not.mp c1) (MMu.y (by first | exact c4 | exact fun q => q c4 | exact fun q => c4 q | exact Classical.not_not.mp c4) ⟨rfl, hR7, hF7⟩)))
  · refine g_iconst (v := 1) X dX4_amendedClause_10 (by decide) ?_
    refine g_goto (tgt := 15) X dX4_amendedClause_11 (by decide) ?_
    refine g_callV (As := [.int 1, .int 1]) (ci := 4) X dX4_amendedClause_15 (c_X4_fails1 κ.l hl κ.Γ M a u hR 1) k1164 k1166 kp15 k5 k1167 rfl (MRep.obj hR) ⟨rfl, by decide, by decide, (show (parseMethodDescriptor yX4_fails.desc).map (fun d => d.parameters.length) = some 2 by decide +kernel)⟩ rfl (Nat.le_of_ble_eq_true rfl) (by rw [hRm]; decide) (by rw [hRm]; exact ⟨Nat.le_of_ble_eq_true rfl, Nat.le_of_ble_eq_true rfl⟩) (fun v9 M9 h9 => ?_) (fun _ _ h9 => by cases h9.1)
    obtain ⟨e9, hR9, hF9⟩ := h9
    have e9 : (Sum.inl v9 : Res) = rI 1 := e9
    cases e9
    refine g_if_ne (tgt := 43) X dX4_amendedClause_18 (by decide) (fun c10 => ?_) (fun c10 => absurd c10 (by decide))
    refine g_iconst (v := 0) X dX4_amendedClause_43 (by decide) ?_
    refine g_goto (tgt := 53) X dX4_amendedClause_44 (by decide) ?_
    exact g_iret X F dX4_amendedClause_53 (by omega) (by omega) (by unfold mAmendedClause; exact (MMu.y (by first | exact c1 | exact fun q => q c1 | exact fun q => c1 q | exact Classical.not_not.mp c1) ⟨rfl, hR9, hF9⟩))
noncomputable def mSupportWeight (u : HV) (b : Int32) (p : Int32) : Res × HV := mG (¬ isBl u b) 1 zI u (mG (¬ btw p 0 (rB u (cN b) 7 - 1)) 2 zI u (rI (rWt (u0 u) (rB u (cN b) (8 + 2 * cN p + 1))), u0 u))
set_option maxRecDepth 100000 in
set_option maxHeartbeats 4000000 in
theorem c_X4_supportWeight (l : Launch) (hl : l.stackTraces = false) (Γ : Gm) (M : Hp) (a : Nat → Nat) (u : HV) (hR : MRep Γ a u M) (b : Int32) (p : Int32) (hi : RInv (u.2.1 1)) : Ct l Γ yX4_supportWeight cX4_supportWeight 3 (some .int) 2 0 0 [.ref (a 0), .int b, .int p] M (MMu Γ a (mSupportWeight u b p) M) := by
  refine Ct.of hl (by decide) (Nat.le_of_ble_eq_true rfl) rfl ?_
  intro κ e1 e2 hnL hRm X F hlt
  subst e1 e2
  refine g_aload_n X dX4_supportWeight_0 rfl 0 rfl ?_
  refine g_iconst (v := 1) X dX4_supportWeight_1 (by decide) ?_
  refine g_aload_n X dX4_supportWeight_2 rfl 0 rfl ?_
  refine g_iload_n X dX4_supportWeight_3 rfl 1 rfl ?_
  refine g_callV_rd (As := [.int b]) (ci := 4) (v := some (.int (bI (btw b 0 (u.2.1 1 1 - 1))))) X dX4_supportWeight_4 (c_X4_isBill κ.l hl κ.Γ M a u hR b) k1275 k1277 kp26 k5 k1278 rfl (MRep.obj hR) ⟨rfl, by decide, by decide, (show (parseMethodDescriptor yX4_isBill.desc).map (fun d => d.parameters.length) = some 1 by decide +kernel)⟩ rfl (Nat.le_of_ble_eq_true rfl) (by rw [hRm]; decide) (by rw [hRm]; exact ⟨Nat.le_of_ble_eq_true rfl, Nat.le_of_ble_eq_true rfl⟩) ?_
  refine g_ifb_ne (tgt := 14) X dX4_supportWeight_7 (by decide) (fun c1 => ?_) (fun c1 => ?_)
  · refine g_iconst (v := 0) X dX4_supportWeight_14 (by decide) ?_
    refine g_callV (As := [.int 1, .int 0]) (ci := 4) X dX4_supportWeight_15 (c_X4_fails0 κ.l hl κ.Γ M a u hR 1) k1164 k1166 kp15 k5 k1167 rfl (MRep.obj hR) ⟨rfl, by decide, by decide, (show (parseMethodDescriptor yX4_fails.desc).map (fun d => d.parameters.length) = some 2 by decide +kernel)⟩ rfl (Nat.le_of_ble_eq_true rfl) (by rw [hRm]; decide) (by rw [hRm]; exact ⟨Nat.le_of_ble_eq_true rfl, Nat.le_of_ble_eq_true rfl⟩) (fun v2 M2 h2 => ?_) (fun _ _ h9 => by cases h9.1)
    obtain ⟨e2, hR2, hF2⟩ := h2
    have e2 : (Sum.inl v2 : Res) = rI 0 := e2
    cases e2
    obtain ⟨b9, hb9, hcb9, rfl⟩ := RInv.bil hi c1
    refine g_if_ne (tgt := 43) X dX4_supportWeight_18 (by decide) (fun c3 => absurd c3 (by decide)) (fun c3 => ?_)
    refine g_aload_n X dX4_supportWeight_21 rfl 0 rfl ?_
    refine g_iconst (v := 2) X dX4_supportWeight_22 (by decide) ?_
    refine g_aload_n X dX4_supportWeight_23 rfl 0 rfl ?_
    refine g_iload_n X dX4_supportWeight_24 rfl 1 rfl ?_
    refine g_iload_n X dX4_supportWeight_25 rfl 2 rfl ?_
    refine g_callV_rd (As := [.int (nI b9), .int p]) (ci := 4) (v := some (.int (bI (btw p 0 (u.2.1 1 (53 + 16 * b9 + 7) - 1))))) X dX4_supportWeight_26 (c_X4_isPending κ.l hl κ.Γ M2 a (hsc u 0 0) hR2 b9 p (by omega)) k1388 k1390 kp34 k5 k1391 rfl (MRep.obj hR2) ⟨rfl, by decide, by decide, (show (parseMethodDescriptor yX4_isPending.desc).map (fun d => d.parameters.length) = some 2 by decide +kernel)⟩ rfl (Nat.le_of_ble_eq_true rfl) (by rw [hRm]; decide) (by rw [hRm]; exact ⟨Nat.le_of_ble_eq_true rfl, Nat.le_of_ble_eq_true rfl⟩) ?_
    refine g_ifb_ne (tgt := 36) X dX4_supportWeight_29 (by decide) (fun c4 => ?_) (fun c4 => ?_)
    · refine g_iconst (v := 0) X dX4_supportWeight_36 (by decide) ?_
      refine g_callV (As := [.int 2, .int 0]) (ci := 4) X dX4_supportWeight_37 (c_X4_fails0 κ.l hl κ.Γ M2 a (hsc u 0 0) hR2 2) k1164 k1166 kp15 k5 k1167 rfl (MRep.obj hR2) ⟨rfl, by decide, by decide, (show (parseMethodDescriptor yX4_fails.desc).map (fun d => d.parameters.length) = some 2 by decide +kernel)⟩ rfl (Nat.le_of_ble_eq_true rfl) (by rw [hRm]; decide) (by rw [hRm]; exact ⟨Nat.le_of_ble_eq_true rfl, Nat.le_of_ble_eq_true rfl⟩) (fun v5 M5 h5 => ?_) (fun _ _ h9 => by cases h9.1)
      obtain ⟨e5, hR5, hF5⟩ := h5
      have e5 : (Sum.inl v5 : Res) = rI 0 := e5
      cases e5
      have hR5 : MRep κ.Γ a (hsc u 0 0) M5 := by rw [← hsc_hsc (x := 0)]; exact hR5
      have hF5 := Fr.tr hF2 hF5
      obtain ⟨p9, hp9, hcp9, rfl⟩ := RInv.pos hi hb9 c4
      refine g_if_eq (tgt := 47) X dX4_supportWeight_40 (by decide) (fun c6 => ?_) (fun c6 => absurd c6 (by decide))
      refine g_aload_n X dX4_supportWeight_47 rfl 0 rfl ?_
      refine g_aload_n X dX4_supportWeight_48 rfl 0 rfl ?_
      refine g_iload_n X dX4_supportWeight_49 rfl 1 rfl ?_
      refine g_iload_n X dX4_supportWeight_50 rfl 2 rfl ?_
      refine g_callV_rd (As := [.int (nI b9), .int (nI p9)]) (ci := 4) (v := some (.int (u.2.1 1 (53 + 16 * b9 + (8 + 2 * p9 + 1))))) X dX4_supportWeight_51 (c_X4_supporters κ.l hl κ.Γ M5 a (hsc u 0 0) hR5 b9 p9 (by omega) (by omega)) k1392 k1394 kp35 k5 k1395 rfl (MRep.obj hR5) ⟨rfl, by decide, by decide, (show (parseMethodDescriptor yX4_supporters.desc).map (fun d => d.parameters.length) = some 2 by decide +kernel)⟩ rfl (Nat.le_of_ble_eq_true rfl) (by rw [hRm]; decide) (by rw [hRm]; exact ⟨Nat.le_of_ble_eq_true rfl, Nat.le_of_ble_eq_true rfl⟩) ?_
      refine g_callV_rd (As := [.int (u.2.1 1 (53 + 16 * b9 + (8 + 2 * p9 + 1)))]) (ci := 4) (v := some (.int (rSum (hsc u 0 0) (u.2.1 1 (53 + 16 * b9 + (8 + 2 * p9 + 1))) (cN (u.2.1 1 0))))) X dX4_supportWeight_54 (c_X4_weigh κ.l hl κ.Γ M5 a (hsc u 0 0) hR5 (u.2.1 1 (53 + 16 * b9 + (8 + 2 * p9 + 1))) hi) k1333 k1335 kp32 k5 k1336 rfl (MRep.obj hR5) ⟨rfl, by decide, by decide, (show (parseMethodDescriptor yX4_weigh.desc).map (fun d => d.parameters.length) = some 1 by decide +kernel)⟩ rfl (Nat.le_of_ble_eq_true rfl) (by rw [hRm]; decide) (by rw [hRm]; exact ⟨Nat.le_of_ble_eq_true rfl, Nat.le_of_ble_eq_true rfl⟩) ?_
      exact g_iret X F dX4_supportWeight_57 (by omega) (by omega) (by unfold mSupportWeight; (try rw [hcb9]); (try rw [hcp9]); exact (MMu.n (by first | exact c1 | exact fun q => q c1 | exact fun q => c1 q | exact Classical.not_not.mp c1) (MMu.n (by first | exact c4 | exact fun q => q c4 | exact fun q => c4 q | exact Classical.not_not.mp c4) ⟨rfl, hR5, hF5⟩)))
    · refine g_iconst (v := 1) X dX4_supportWeight_32 (by decide) ?_
      refine g_goto (tgt := 37) X dX4_supportWeight_33 (by decide) ?_
      refine g_callV (As := [.int 2, .int 1]) (ci := 4) X dX4_supportWeight_37 (c_X4_fails1 κ.l hl κ.Γ M2 a (hsc u 0 0) hR2 2) k1164 k1166 kp15 k5 k1167 rfl (MRep.obj hR2) ⟨rfl, by decide, by decide, (show (parseMethodDescriptor yX4_fails.desc).map (fun d => d.parameters.length) = some 2 by decide +kernel)⟩ rfl (Nat.le_of_ble_eq_true rfl) (by rw [hRm]; decide) (by rw [hRm]; exact ⟨Nat.le_of_ble_eq_true rfl, Nat.le_of_ble_eq_true rfl⟩) (fun v7 M7 h7 => ?_) (fun _ _ h9 => by cases h9.1)
      obtain ⟨e7, hR7, hF7⟩ := h7
      have e7 : (Sum.inl v7 : Res) = rI 1 := e7
      cases e7
      have hR7 : MRep κ.Γ a (hsc u 0 2) M7 := by rw [← hsc_hsc (x := 0)]; exact hR7
      have hF7 := Fr.tr hF2 hF7
      refine g_if_eq (tgt := 47) X dX4_supportWeight_40 (by decide) (fun c8 => absurd c8 (by decide)) (fun c8 => ?_)
      refine g_iconst (v := 0) X dX4_supportWeight_43 (by decide) ?_
      refine g_goto (tgt := 57) X dX4_supportWeight_44 (by decide) ?_
      exact g_iret X F dX4_supportWeight_57 (by omega) (by omega) (by unfold mSupportWeight; (try rw [hcb9]); exact (MMu.n (by first | exact c1 | exact fun q => q c1 | exact fun q => c1 q | exact Classical.not_not.mp c1) (MMu.y (by first | exact c4 | exact fun q => q c4 | exact fun q => c4 q | exact Classical.not_not.mp c4) ⟨rfl, hR7, hF7⟩)))
  · refine g_iconst (v := 1) X dX4_supportWeight_10 (by decide) ?_
    refine g_goto (tgt := 15) X dX4_supportWeight_11 (by decide) ?_
    refine g_callV (As := [.int 1, .int 1]) (ci := 4) X dX4_supportWeight_15 (c_X4_fails1 κ.l hl κ.Γ M a u hR 1) k1164 k1166 kp15 k5 k1167 rfl (MRep.obj hR) ⟨rfl, by decide, by decide, (show (parseMethodDescriptor yX4_fails.desc).map (fun d => d.parameters.length) = some 2 by decide +kernel)⟩ rfl (Nat.le_of_ble_eq_true rfl) (by rw [hRm]; decide) (by rw [hRm]; exact ⟨Nat.le_of_ble_eq_true rfl, Nat.le_of_ble_eq_true rfl⟩) (fun v9 M9 h9 => ?_) (fun _ _ h9 => by cases h9.1)
    obtain ⟨e9, hR9, hF9⟩ := h9
    have e9 : (Sum.inl v9 : Res) = rI 1 := e9
    cases e9
    refine g_if_ne (tgt := 43) X dX4_supportWeight_18 (by decide) (fun c10 => ?_) (fun c10 => absurd c10 (by decide))
    refine g_iconst (v := 0) X dX4_supportWeight_43 (by decide) ?_
    refine g_goto (tgt := 57) X dX4_supportWeight_44 (by decide) ?_
    exact g_iret X F dX4_supportWeight_57 (by omega) (by omega) (by unfold mSupportWeight; exact (MMu.y (by first | exact c1 | exact fun q => q c1 | exact fun q => c1 q | exact Classical.not_not.mp c1) ⟨rfl, hR9, hF9⟩))
noncomputable def mRidesUntilFall (u : HV) (b : Int32) (n : Int32) : Res × HV := mG (¬ isBl u b) 1 zI u (mG (¬ btw n 1 30) 2 zI u (mG (¬ rB u (cN b) 0 = 0) 3 zI u (rI ((180 - rB u (cN b) 4 + n - 1) / n), u0 u)))
set_option maxRecDepth 100000 in
set_option maxHeartbeats 4000000 in
theorem c_X4_ridesUntilFall (l : Launch) (hl : l.stackTraces = false) (Γ : Gm) (M : Hp) (a : Nat → Nat) (u : HV) (hR : MRep Γ a u M) (b : Int32) (n : Int32) (hi : RInv (u.2.1 1)) : Ct l Γ yX4_ridesUntilFall cX4_ridesUntilFall 3 (some .int) 2 0 0 [.ref (a 0), .int b, .int n] M (MMu Γ a (mRidesUntilFall u b n) M) := by
  refine Ct.of hl (by decide) (Nat.le_of_ble_eq_true rfl) rfl ?_
  intro κ e1 e2 hnL hRm X F hlt
  subst e1 e2
  refine g_aload_n X dX4_ridesUntilFall_0 rfl 0 rfl ?_
  refine g_iconst (v := 1) X dX4_ridesUntilFall_1 (by decide) ?_
  refine g_aload_n X dX4_ridesUntilFall_2 rfl 0 rfl ?_
  refine g_iload_n X dX4_ridesUntilFall_3 rfl 1 rfl ?_
  refine g_callV_rd (As := [.int b]) (ci := 4) (v := some (.int (bI (btw b 0 (u.2.1 1 1 - 1))))) X dX4_ridesUntilFall_4 (c_X4_isBill κ.l hl κ.Γ M a u hR b) k1275 k1277 kp26 k5 k1278 rfl (MRep.obj hR) ⟨rfl, by decide, by decide, (show (parseMethodDescriptor yX4_isBill.desc).map (fun d => d.parameters.length) = some 1 by decide +kernel)⟩ rfl (Nat.le_of_ble_eq_true rfl) (by rw [hRm]; decide) (by rw [hRm]; exact ⟨Nat.le_of_ble_eq_true rfl, Nat.le_of_ble_eq_true rfl⟩) ?_
  refine g_ifb_ne (tgt := 14) X dX4_ridesUntilFall_7 (by decide) (fun c1 => ?_) (fun c1 => ?_)
  · refine g_iconst (v := 0) X dX4_ridesUntilFall_14 (by decide) ?_
    refine g_callV (As := [.int 1, .int 0]) (ci := 4) X dX4_ridesUntilFall_15 (c_X4_fails0 κ.l hl κ.Γ M a u hR 1) k1164 k1166 kp15 k5 k1167 rfl (MRep.obj hR) ⟨rfl, by decide, by decide, (show (parseMethodDescriptor yX4_fails.desc).map (fun d => d.parameters.length) = some 2 by decide +kernel)⟩ rfl (Nat.le_of_ble_eq_true rfl) (by rw [hRm]; decide) (by rw [hRm]; exact ⟨Nat.le_of_ble_eq_true rfl, Nat.le_of_ble_eq_true rfl⟩) (fun v2 M2 h2 => ?_) (fun _ _ h9 => by cases h9.1)
    obtain ⟨e2, hR2, hF2⟩ := h2
    have e2 : (Sum.inl v2 : Res) = rI 0 := e2
    cases e2
    obtain ⟨b9, hb9, hcb9, rfl⟩ := RInv.bil hi c1
    refine g_if_ne (tgt := 66) X dX4_ridesUntilFall_18 (by decide) (fun c3 => absurd c3 (by decide)) (fun c3 => ?_)
    refine g_aload_n X dX4_ridesUntilFall_21 rfl 0 rfl ?_
    refine g_iconst (v := 2) X dX4_ridesUntilFall_22 (by decide) ?_
    refine g_iload_n X dX4_ridesUntilFall_23 rfl 2 rfl ?_
    refine g_iconst (v := 1) X dX4_ridesUntilFall_24 (by decide) ?_
    refine g_bipush (v := 30) X dX4_ridesUntilFall_25 (by decide) ?_
    refine g_callS_rd (As := [.int n, .int 1, .int 30]) (v := some (.int (bI (btw n 1 30)))) X dX4_ridesUntilFall_27 (c_X4_isBetween κ.l hl κ.Γ M2 n 1 30) k1161 k1162 k5 k1163 ⟨by decide, by decide, (show (parseMethodDescriptor yX4_isBetween.desc).map (fun d => d.parameters.length) = some 3 by decide +kernel)⟩ rfl (Nat.le_of_ble_eq_true rfl) (by rw [hRm]; decide) (by rw [hRm]; exact ⟨Nat.le_of_ble_eq_true rfl, Nat.le_of_ble_eq_true rfl⟩) ?_
    refine g_ifb_ne (tgt := 37) X dX4_ridesUntilFall_30 (by decide) (fun c4 => ?_) (fun c4 => ?_)
    · refine g_iconst (v := 0) X dX4_ridesUntilFall_37 (by decide) ?_
      refine g_callV (As := [.int 2, .int 0]) (ci := 4) X dX4_ridesUntilFall_38 (c_X4_fails0 κ.l hl κ.Γ M2 a (hsc u 0 0) hR2 2) k1164 k1166 kp15 k5 k1167 rfl (MRep.obj hR2) ⟨rfl, by decide, by decide, (show (parseMethodDescriptor yX4_fails.desc).map (fun d => d.parameters.length) = some 2 by decide +kernel)⟩ rfl (Nat.le_of_ble_eq_true rfl) (by rw [hRm]; decide) (by rw [hRm]; exact ⟨Nat.le_of_ble_eq_true rfl, Nat.le_of_ble_eq_true rfl⟩) (fun v5 M5 h5 => ?_) (fun _ _ h9 => by cases h9.1)
      obtain ⟨e5, hR5, hF5⟩ := h5
      have e5 : (Sum.inl v5 : Res) = rI 0 := e5
      cases e5
      have hR5 : MRep κ.Γ a (hsc u 0 0) M5 := by rw [← hsc_hsc (x := 0)]; exact hR5
      have hF5 := Fr.tr hF2 hF5
      refine g_if_ne (tgt := 66) X dX4_ridesUntilFall_41 (by decide) (fun c6 => absurd c6 (by decide)) (fun c6 => ?_)
      refine g_aload_n X dX4_ridesUntilFall_44 rfl 0 rfl ?_
      refine g_iconst (v := 3) X dX4_ridesUntilFall_45 (by decide) ?_
      refine g_aload_n X dX4_ridesUntilFall_46 rfl 0 rfl ?_
      refine g_iload_n X dX4_ridesUntilFall_47 rfl 1 rfl ?_
      refine g_iconst (v := 0) X dX4_ridesUntilFall_48 (by decide) ?_
      refine g_callV_rd (As := [.int (nI b9), .int 0]) (ci := 4) (v := some (.int (u.2.1 1 (53 + 16 * b9 + 0)))) X dX4_ridesUntilFall_49 (c_X4_of κ.l hl κ.Γ M5 a (hsc u 0 0) hR5 b9 0 (by omega) (by omega)) k1263 k1265 kp25 k5 k1266 rfl (MRep.obj hR5) ⟨rfl, by decide, by decide, (show (parseMethodDescriptor yX4_of.desc).map (fun d => d.parameters.length) = some 2 by decide +kernel)⟩ rfl (Nat.le_of_ble_eq_true rfl) (by rw [hRm]; decide) (by rw [hRm]; exact ⟨Nat.le_of_ble_eq_true rfl, Nat.le_of_ble_eq_true rfl⟩) ?_
      refine g_if_eq (tgt := 59) X dX4_ridesUntilFall_52 (by decide) (fun c7 => ?_) (fun c7 => ?_)
      · refine g_iconst (v := 0) X dX4_ridesUntilFall_59 (by decide) ?_
        refine g_callV (As := [.int 3, .int 0]) (ci := 4) X dX4_ridesUntilFall_60 (c_X4_fails0 κ.l hl κ.Γ M5 a (hsc u 0 0) hR5 3) k1164 k1166 kp15 k5 k1167 rfl (MRep.obj hR5) ⟨rfl, by decide, by decide, (show (parseMethodDescriptor yX4_fails.desc).map (fun d => d.parameters.length) = some 2 by decide +kernel)⟩ rfl (Nat.le_of_ble_eq_true rfl) (by rw [hRm]; decide) (by rw [hRm]; exact ⟨Nat.le_of_ble_eq_true rfl, Nat.le_of_ble_eq_true rfl⟩) (fun v8 M8 h8 => ?_) (fun _ _ h9 => by cases h9.1)
        obtain ⟨e8, hR8, hF8⟩ := h8
        have e8 : (Sum.inl v8 : Res) = rI 0 := e8
        cases e8
        have hR8 : MRep κ.Γ a (hsc u 0 0) M8 := by rw [← hsc_hsc (x := 0)]; exact hR8
        have hF8 := Fr.tr hF5 hF8
        refine g_if_eq (tgt := 68) X dX4_ridesUntilFall_63 (by decide) (fun c9 => ?_) (fun c9 => absurd c9 (by decide))
        have hn0 : ¬ n = 0 := fun z => by rw [z] at c4; exact absurd c4.1 (by decide)
        refine g_sipush (v := 180) X dX4_ridesUntilFall_68 (by decide) ?_
        refine g_aload_n X dX4_ridesUntilFall_71 rfl 0 rfl ?_
        refine g_iload_n X dX4_ridesUntilFall_72 rfl 1 rfl ?_
        refine g_iconst (v := 4) X dX4_ridesUntilFall_73 (by decide) ?_
        refine g_callV_rd (As := [.int (nI b9), .int 4]) (ci := 4) (v := some (.int (u.2.1 1 (53 + 16 * b9 + 4)))) X dX4_ridesUntilFall_74 (c_X4_of κ.l hl κ.Γ M8 a (hsc u 0 0) hR8 b9 4 (by omega) (by omega)) k1263 k1265 kp25 k5 k1266 rfl (MRep.obj hR8) ⟨rfl, by decide, by decide, (show (parseMethodDescriptor yX4_of.desc).map (fun d => d.parameters.length) = some 2 by decide +kernel)⟩ rfl (Nat.le_of_ble_eq_true rfl) (by rw [hRm]; decide) (by rw [hRm]; exact ⟨Nat.le_of_ble_eq_true rfl, Nat.le_of_ble_eq_true rfl⟩) ?_
        refine g_isub X dX4_ridesUntilFall_77 ?_
        refine g_iload_n X dX4_ridesUntilFall_78 rfl 2 rfl ?_
        refine g_iadd X dX4_ridesUntilFall_79 ?_
        refine g_iconst (v := 1) X dX4_ridesUntilFall_80 (by decide) ?_
        refine g_isub X dX4_ridesUntilFall_81 ?_
        refine g_iload_n X dX4_ridesUntilFall_82 rfl 2 rfl ?_
        refine g_idiv X dX4_ridesUntilFall_83 hn0 ?_
        exact g_iret X F dX4_ridesUntilFall_84 (by omega) (by omega) (by unfold mRidesUntilFall; (try rw [hcb9]); exact (MMu.n (by first | exact c1 | exact fun q => q c1 | exact fun q => c1 q | exact Classical.not_not.mp c1) (MMu.n (by first | exact c4 | exact fun q => q c4 | exact fun q => c4 q | exact Classical.not_not.mp c4) (MMu.n (by first | exact c7 | exact fun q => q c7 | exact fun q => c7 q | exact Classical.not_not.mp c7) ⟨rfl, hR8, hF8⟩))))
      · refine g_iconst (v := 1) X dX4_ridesUntilFall_55 (by decide) ?_
        refine g_goto (tgt := 60) X dX4_ridesUntilFall_56 (by decide) ?_
        refine g_callV (As := [.int 3, .int 1]) (ci := 4) X dX4_ridesUntilFall_60 (c_X4_fails1 κ.l hl κ.Γ M5 a (hsc u 0 0) hR5 3) k1164 k1166 kp15 k5 k1167 rfl (MRep.obj hR5) ⟨rfl, by decide, by decide, (show (parseMethodDescriptor yX4_fails.desc).map (fun d => d.parameters.length) = some 2 by decide +kernel)⟩ rfl (Nat.le_of_ble_eq_true rfl) (by rw [hRm]; decide) (by rw [hRm]; exact ⟨Nat.le_of_ble_eq_true rfl, Nat.le_of_ble_eq_true rfl⟩) (fun v10 M10 h10 => ?_) (fun _ _ h9 => by cases h9.1)
        obtain ⟨e10, hR10, hF10⟩ := h10
        have e10 : (Sum.inl v10 : Res) = rI 1 := e10
        cases e10
        have hR10 : MRep κ.Γ a (hsc u 0 3) M10 := by rw [← hsc_hsc (x := 0)]; exact hR10
        have hF10 := Fr.tr hF5 hF10
        refine g_if_eq (tgt := 68) X dX4_ridesUntilFall_63 (by decide) (fun c11 => absurd c11 (by decide)) (fun c11 => ?_)
        refine g_iconst (v := 0) X dX4_ridesUntilFall_66 (by decide) ?_
        exact g_iret X F dX4_ridesUntilFall_67 (by omega) (by omega) (by unfold mRidesUntilFall; (try rw [hcb9]); exact (MMu.n (by first | exact c1 | exact fun q => q c1 | exact fun q => c1 q | exact Classical.not_not.mp c1) (MMu.n (by first | exact c4 | exact fun q => q c4 | exact fun q => c4 q | exact Classical.not_not.mp c4) (MMu.y (by first | exact c7 | exact fun q => q c7 | exact fun q => c7 q | exact Classical.not_not.mp c7) ⟨rfl, hR10, hF10⟩))))
    · refine g_iconst (v := 1) X dX4_ridesUntilFall_33 (by decide) ?_
      refine g_goto (tgt := 38) X dX4_ridesUntilFall_34 (by decide) ?_
      refine g_callV (As := [.int 2, .int 1]) (ci := 4) X dX4_ridesUntilFall_38 (c_X4_fails1 κ.l hl κ.Γ M2 a (hsc u 0 0) hR2 2) k1164 k1166 kp15 k5 k1167 rfl (MRep.obj hR2) ⟨rfl, by decide, by decide, (show (parseMethodDescriptor yX4_fails.desc).map (fun d => d.parameters.length) = some 2 by decide +kernel)⟩ rfl (Nat.le_of_ble_eq_true rfl) (by rw [hRm]; decide) (by rw [hRm]; exact ⟨Nat.le_of_ble_eq_true rfl, Nat.le_of_ble_eq_true rfl⟩) (fun v12 M12 h12 => ?_) (fun _ _ h9 => by cases h9.1)
      obtain ⟨e12, hR12, hF12⟩ := h12
      have e12 : (Sum.inl v12 : Res) = rI 1 := e12
      cases e12
      have hR12 : MRep κ.Γ a (hsc u 0 2) M12 := by rw [← hsc_hsc (x := 0)]; exact hR12
      have hF12 := Fr.tr hF2 hF12
      refine g_if_ne (tgt := 66) X dX4_ridesUntilFall_41 (by decide) (fun c13 => ?_) (fun c13 => absurd c13 (by decide))
      refine g_iconst (v := 0) X dX4_ridesUntilFall_66 (by decide) ?_
      exact g_iret X F dX4_ridesUntilFall_67 (by omega) (by omega) (by unfold mRidesUntilFall; (try rw [hcb9]); exact (MMu.n (by first | exact c1 | exact fun q => q c1 | exact fun q => c1 q | exact Classical.not_not.mp c1) (MMu.y (by first | exact c4 | exact fun q => q c4 | exact fun q => c4 q | exact Classical.not_not.mp c4) ⟨rfl, hR12, hF12⟩)))
  · refine g_iconst (v := 1) X dX4_ridesUntilFall_10 (by decide) ?_
    refine g_goto (tgt := 15) X dX4_ridesUntilFall_11 (by decide) ?_
    refine g_callV (As := [.int 1, .int 1]) (ci := 4) X dX4_ridesUntilFall_15 (c_X4_fails1 κ.l hl κ.Γ M a u hR 1) k1164 k1166 kp15 k5 k1167 rfl (MRep.obj hR) ⟨rfl, by decide, by decide, (show (parseMethodDescriptor yX4_fails.desc).map (fun d => d.parameters.length) = some 2 by decide +kernel)⟩ rfl (Nat.le_of_ble_eq_true rfl) (by rw [hRm]; decide) (by rw [hRm]; exact ⟨Nat.le_of_ble_eq_true rfl, Nat.le_of_ble_eq_true rfl⟩) (fun v14 M14 h14 => ?_) (fun _ _ h9 => by cases h9.1)
    obtain ⟨e14, hR14, hF14⟩ := h14
    have e14 : (Sum.inl v14 : Res) = rI 1 := e14
    cases e14
    refine g_if_ne (tgt := 66) X dX4_ridesUntilFall_18 (by decide) (fun c15 => ?_) (fun c15 => absurd c15 (by decide))
    refine g_iconst (v := 0) X dX4_ridesUntilFall_66 (by decide) ?_
    exact g_iret X F dX4_ridesUntilFall_67 (by omega) (by omega) (by unfold mRidesUntilFall; exact (MMu.y (by first | exact c1 | exact fun q => q c1 | exact fun q => c1 q | exact Classical.not_not.mp c1) ⟨rfl, hR14, hF14⟩))
noncomputable def mErrorPosition (u : HV) : Res × HV := mG (¬ 0 ≤ u.1 7) 1 zI u (rI (u.1 7), u0 u)
set_option maxRecDepth 100000 in
set_option maxHeartbeats 4000000 in
theorem c_X4_errorPosition (l : Launch) (hl : l.stackTraces = false) (Γ : Gm) (M : Hp) (a : Nat → Nat) (u : HV) (hR : MRep Γ a u M) : Ct l Γ yX4_errorPosition cX4_errorPosition 1 (some .int) 1 0 0 [.ref (a 0)] M (MMu Γ a (mErrorPosition u) M) := by
  refine Ct.of hl (by decide) (Nat.le_of_ble_eq_true rfl) rfl ?_
  intro κ e1 e2 hnL hRm X F hlt
  subst e1 e2
  refine g_aload_n X dX4_errorPosition_0 rfl 0 rfl ?_
  refine g_iconst (v := 1) X dX4_errorPosition_1 (by decide) ?_
  refine g_aload_n X dX4_errorPosition_2 rfl 0 rfl ?_
  refine g_get X dX4_errorPosition_3 (ci := 4) (k := 13) (v := .int (u.1 7)) rfl k1102 (by decide) rfl (MRep.obj hR) rfl ?_
  refine g_if_ge (tgt := 13) X dX4_errorPosition_6 (by decide) (fun c1 => ?_) (fun c1 => ?_)
  · refine g_iconst (v := 0) X dX4_errorPosition_13 (by decide) ?_
    refine g_callV (As := [.int 1, .int 0]) (ci := 4) X dX4_errorPosition_14 (c_X4_fails0 κ.l hl κ.Γ M a u hR 1) k1164 k1166 kp15 k5 k1167 rfl (MRep.obj hR) ⟨rfl, by decide, by decide, (show (parseMethodDescriptor yX4_fails.desc).map (fun d => d.parameters.length) = some 2 by decide +kernel)⟩ rfl (Nat.le_of_ble_eq_true rfl) (by rw [hRm]; decide) (by rw [hRm]; exact ⟨Nat.le_of_ble_eq_true rfl, Nat.le_of_ble_eq_true rfl⟩) (fun v2 M2 h2 => ?_) (fun _ _ h9 => by cases h9.1)
    obtain ⟨e2, hR2, hF2⟩ := h2
    have e2 : (Sum.inl v2 : Res) = rI 0 := e2
    cases e2
    refine g_if_eq (tgt := 24) X dX4_errorPosition_17 (by decide) (fun c3 => ?_) (fun c3 => absurd c3 (by decide))
    refine g_aload_n X dX4_errorPosition_24 rfl 0 rfl ?_
    refine g_get X dX4_errorPosition_25 (ci := 4) (k := 13) (v := .int (u.1 7)) rfl k1102 (by decide) rfl (MRep.obj hR2) rfl ?_
    exact g_iret X F dX4_errorPosition_28 (by omega) (by omega) (by unfold mErrorPosition; exact (MMu.n (by first | exact c1 | exact fun q => q c1 | exact fun q => c1 q | exact Classical.not_not.mp c1) ⟨rfl, hR2, hF2⟩))
  · refine g_iconst (v := 1) X dX4_errorPosition_9 (by decide) ?_
    refine g_goto (tgt := 14) X dX4_errorPosition_10 (by decide) ?_
    refine g_callV (As := [.int 1, .int 1]) (ci := 4) X dX4_errorPosition_14 (c_X4_fails1 κ.l hl κ.Γ M a u hR 1) k1164 k1166 kp15 k5 k1167 rfl (MRep.obj hR) ⟨rfl, by decide, by decide, (show (parseMethodDescriptor yX4_fails.desc).map (fun d => d.parameters.length) = some 2 by decide +kernel)⟩ rfl (Nat.le_of_ble_eq_true rfl) (by rw [hRm]; decide) (by rw [hRm]; exact ⟨Nat.le_of_ble_eq_true rfl, Nat.le_of_ble_eq_true rfl⟩) (fun v4 M4 h4 => ?_) (fun _ _ h9 => by cases h9.1)
    obtain ⟨e4, hR4, hF4⟩ := h4
    have e4 : (Sum.inl v4 : Res) = rI 1 := e4
    cases e4
    refine g_if_eq (tgt := 24) X dX4_errorPosition_17 (by decide) (fun c5 => absurd c5 (by decide)) (fun c5 => ?_)
    refine g_iconst (v := 0) X dX4_errorPosition_20 (by decide) ?_
    refine g_goto (tgt := 28) X dX4_errorPosition_21 (by decide) ?_
    exact g_iret X F dX4_errorPosition_28 (by omega) (by omega) (by unfold mErrorPosition; exact (MMu.y (by first | exact c1 | exact fun q => q c1 | exact fun q => c1 q | exact Classical.not_not.mp c1) ⟨rfl, hR4, hF4⟩))
noncomputable def mFailedCommand (u : HV) : Res × HV := mG (¬ 0 ≤ u.1 8) 1 zI u (rI (u.1 8), u0 u)
set_option maxRecDepth 100000 in
set_option maxHeartbeats 4000000 in
theorem c_X4_failedCommand (l : Launch) (hl : l.stackTraces = false) (Γ : Gm) (M : Hp) (a : Nat → Nat) (u : HV) (hR : MRep Γ a u M) : Ct l Γ yX4_failedCommand cX4_failedCommand 1 (some .int) 1 0 0 [.ref (a 0)] M (MMu Γ a (mFailedCommand u) M) := by
  refine Ct.of hl (by decide) (Nat.le_of_ble_eq_true rfl) rfl ?_
  intro κ e1 e2 hnL hRm X F hlt
  subst e1 e2
  refine g_aload_n X dX4_failedCommand_0 rfl 0 rfl ?_
  refine g_iconst (v := 1) X dX4_failedCommand_1 (by decide) ?_
  refine g_aload_n X dX4_failedCommand_2 rfl 0 rfl ?_
  refine g_get X dX4_failedCommand_3 (ci := 4) (k := 14) (v := .int (u.1 8)) rfl k1103 (by decide) rfl (MRep.obj hR) rfl ?_
  refine g_if_ge (tgt := 13) X dX4_failedCommand_6 (by decide) (fun c1 => ?_) (fun c1 => ?_)
  · refine g_iconst (v := 0) X dX4_failedCommand_13 (by decide) ?_
    refine g_callV (As := [.int 1, .int 0]) (ci := 4) X dX4_failedCommand_14 (c_X4_fails0 κ.l hl κ.Γ M a u hR 1) k1164 k1166 kp15 k5 k1167 rfl (MRep.obj hR) ⟨rfl, by decide, by decide, (show (parseMethodDescriptor yX4_fails.desc).map (fun d => d.parameters.length) = some 2 by decide +kernel)⟩ rfl (Nat.le_of_ble_eq_true rfl) (by rw [hRm]; decide) (by rw [hRm]; exact ⟨Nat.le_of_ble_eq_true rfl, Nat.le_of_ble_eq_true rfl⟩) (fun v2 M2 h2 => ?_) (fun _ _ h9 => by cases h9.1)
    obtain ⟨e2, hR2, hF2⟩ := h2
    have e2 : (Sum.inl v2 : Res) = rI 0 := e2
    cases e2
    refine g_if_eq (tgt := 24) X dX4_failedCommand_17 (by decide) (fun c3 => ?_) (fun c3 => absurd c3 (by decide))
    refine g_aload_n X dX4_failedCommand_24 rfl 0 rfl ?_
    refine g_get X dX4_failedCommand_25 (ci := 4) (k := 14) (v := .int (u.1 8)) rfl k1103 (by decide) rfl (MRep.obj hR2) rfl ?_
    exact g_iret X F dX4_failedCommand_28 (by omega) (by omega) (by unfold mFailedCommand; exact (MMu.n (by first | exact c1 | exact fun q => q c1 | exact fun q => c1 q | exact Classical.not_not.mp c1) ⟨rfl, hR2, hF2⟩))
  · refine g_iconst (v := 1) X dX4_failedCommand_9 (by decide) ?_
    refine g_goto (tgt := 14) X dX4_failedCommand_10 (by decide) ?_
    refine g_callV (As := [.int 1, .int 1]) (ci := 4) X dX4_failedCommand_14 (c_X4_fails1 κ.l hl κ.Γ M a u hR 1) k1164 k1166 kp15 k5 k1167 rfl (MRep.obj hR) ⟨rfl, by decide, by decide, (show (parseMethodDescriptor yX4_fails.desc).map (fun d => d.parameters.length) = some 2 by decide +kernel)⟩ rfl (Nat.le_of_ble_eq_true rfl) (by rw [hRm]; decide) (by rw [hRm]; exact ⟨Nat.le_of_ble_eq_true rfl, Nat.le_of_ble_eq_true rfl⟩) (fun v4 M4 h4 => ?_) (fun _ _ h9 => by cases h9.1)
    obtain ⟨e4, hR4, hF4⟩ := h4
    have e4 : (Sum.inl v4 : Res) = rI 1 := e4
    cases e4
    refine g_if_eq (tgt := 24) X dX4_failedCommand_17 (by decide) (fun c5 => absurd c5 (by decide)) (fun c5 => ?_)
    refine g_iconst (v := 0) X dX4_failedCommand_20 (by decide) ?_
    refine g_goto (tgt := 28) X dX4_failedCommand_21 (by decide) ?_
    exact g_iret X F dX4_failedCommand_28 (by omega) (by omega) (by unfold mFailedCommand; exact (MMu.y (by first | exact c1 | exact fun q => q c1 | exact fun q => c1 q | exact Classical.not_not.mp c1) ⟨rfl, hR4, hF4⟩))
noncomputable def mStrongestWard (u : HV) : Res × HV := (rI (rS3 (u0 u)), u0 u)
set_option maxRecDepth 100000 in
set_option maxHeartbeats 4000000 in
theorem c_X4_strongestWard (l : Launch) (hl : l.stackTraces = false) (Γ : Gm) (M : Hp) (a : Nat → Nat) (u : HV) (hR : MRep Γ a u M) (hi : RInv (u.2.1 1)) : Ct l Γ yX4_strongestWard cX4_strongestWard 3 (some .int) 2 0 0 [.ref (a 0)] M (MMu Γ a (mStrongestWard u) M) := by
  refine Ct.of hl (by decide) (Nat.le_of_ble_eq_true rfl) rfl ?_
  intro κ e1 e2 hnL hRm X F hlt
  subst e1 e2
  refine g_aload_n X dX4_strongestWard_0 rfl 0 rfl ?_
  refine g_iconst (v := 0) X dX4_strongestWard_1 (by decide) ?_
  refine g_put X dX4_strongestWard_2 (ci := 4) (k := 0) (ty := .int) rfl k1089 (by decide) rfl rfl (by decide +kernel) rfl rfl (Nat.le_of_ble_eq_true rfl) (MRep.obj hR) ?_
  refine g_gen (P := fun M9 => MRep κ.Γ a (hsc u 0 0) M9 ∧ Fr a 15 M M9) ⟨MRep.sc hR 0 _ rfl, (Fr.up (by decide))⟩ (fun M1 ⟨hR2, hF3⟩ => ?_)
  refine g_iconst (v := 0) X dX4_strongestWard_5 (by decide) ?_
  refine g_istore_n (L' := [(1, .int 0), (0, .ref (a 0))]) X dX4_strongestWard_6 rfl (by rw [hnL]; decide) rfl ?_
  refine g_iconst (v := 1) X dX4_strongestWard_7 (by decide) ?_
  refine g_istore_n (L' := [(2, .int 1), (1, .int 0), (0, .ref (a 0))]) X dX4_strongestWard_8 rfl (by rw [hnL]; decide) rfl ?_
  refine g_iload_n X dX4_strongestWard_9 rfl 0 rfl ?_
  refine g_iconst (v := 4) X dX4_strongestWard_10 (by decide) ?_
  refine g_icmp_ge (tgt := 39) X dX4_strongestWard_11 (by decide) (fun c4 => absurd c4 (by decide)) (fun c4 => ?_)
  refine g_aload_n X dX4_strongestWard_14 rfl 2 rfl ?_
  refine g_iload_n X dX4_strongestWard_15 rfl 0 rfl ?_
  refine g_callV_rd (As := [.int 1]) (ci := 4) (v := some (.int (rWard (hsc u 0 0) 1 (cN (u.2.1 1 0))))) X dX4_strongestWard_16 (c_X4_inWard κ.l hl κ.Γ M1 a (hsc u 0 0) hR2 1 hi) k1240 k1242 kp22 k5 k1243 rfl (MRep.obj hR2) ⟨rfl, by decide, by decide, (show (parseMethodDescriptor yX4_inWard.desc).map (fun d => d.parameters.length) = some 1 by decide +kernel)⟩ rfl (Nat.le_of_ble_eq_true rfl) (by rw [hRm]; decide) (by rw [hRm]; exact ⟨Nat.le_of_ble_eq_true rfl, Nat.le_of_ble_eq_true rfl⟩) ?_
  refine g_aload_n X dX4_strongestWard_19 rfl 2 rfl ?_
  refine g_iload_n X dX4_strongestWard_20 rfl 1 rfl ?_
  refine g_callV_rd (As := [.int 0]) (ci := 4) (v := some (.int (rWard (hsc u 0 0) 0 (cN (u.2.1 1 0))))) X dX4_strongestWard_21 (c_X4_inWard κ.l hl κ.Γ M1 a (hsc u 0 0) hR2 0 hi) k1240 k1242 kp22 k5 k1243 rfl (MRep.obj hR2) ⟨rfl, by decide, by decide, (show (parseMethodDescriptor yX4_inWard.desc).map (fun d => d.parameters.length) = some 1 by decide +kernel)⟩ rfl (Nat.le_of_ble_eq_true rfl) (by rw [hRm]; decide) (by rw [hRm]; exact ⟨Nat.le_of_ble_eq_true rfl, Nat.le_of_ble_eq_true rfl⟩) ?_
  refine g_icmp_le (tgt := 31) X dX4_strongestWard_24 (by decide) (fun c5 => ?_) (fun c5 => ?_)
  · refine g_iload_n X dX4_strongestWard_31 rfl 1 rfl ?_
    refine g_lit (rS1 (u0 u)) (show rS1 (u0 u) = 0 from if_pos c5).symm ?_
    refine g_istore_n (L' := [(1, .int (rS1 (u0 u))), (2, .int 1), (0, .ref (a 0))]) X dX4_strongestWard_32 rfl (by rw [hnL]; decide) rfl ?_
    refine g_iinc (k := 1) (v := 2) (L' := [(2, .int 2), (1, .int (rS1 (u0 u))), (0, .ref (a 0))]) X dX4_strongestWard_33 rfl (by decide) (by rw [hnL]; decide) rfl ?_
    refine g_goto (tgt := 9) X dX4_strongestWard_36 (by decide) ?_
    refine g_iload_n X dX4_strongestWard_9 rfl 0 rfl ?_
    refine g_iconst (v := 4) X dX4_strongestWard_10 (by decide) ?_
    refine g_icmp_ge (tgt := 39) X dX4_strongestWard_11 (by decide) (fun c6 => absurd c6 (by decide)) (fun c6 => ?_)
    refine g_aload_n X dX4_strongestWard_14 rfl 2 rfl ?_
    refine g_iload_n X dX4_strongestWard_15 rfl 0 rfl ?_
    refine g_callV_rd (As := [.int 2]) (ci := 4) (v := some (.int (rWard (hsc u 0 0) 2 (cN (u.2.1 1 0))))) X dX4_strongestWard_16 (c_X4_inWard κ.l hl κ.Γ M1 a (hsc u 0 0) hR2 2 hi) k1240 k1242 kp22 k5 k1243 rfl (MRep.obj hR2) ⟨rfl, by decide, by decide, (show (parseMethodDescriptor yX4_inWard.desc).map (fun d => d.parameters.length) = some 1 by decide +kernel)⟩ rfl (Nat.le_of_ble_eq_true rfl) (by rw [hRm]; decide) (by rw [hRm]; exact ⟨Nat.le_of_ble_eq_true rfl, Nat.le_of_ble_eq_true rfl⟩) ?_
    refine g_aload_n X dX4_strongestWard_19 rfl 2 rfl ?_
    refine g_iload_n X dX4_strongestWard_20 rfl 1 rfl ?_
    refine g_callV_rd (As := [.int (rS1 (u0 u))]) (ci := 4) (v := some (.int (rWard (hsc u 0 0) (rS1 (u0 u)) (cN (u.2.1 1 0))))) X dX4_strongestWard_21 (c_X4_inWard κ.l hl κ.Γ M1 a (hsc u 0 0) hR2 (rS1 (u0 u)) hi) k1240 k1242 kp22 k5 k1243 rfl (MRep.obj hR2) ⟨rfl, by decide, by decide, (show (parseMethodDescriptor yX4_inWard.desc).map (fun d => d.parameters.length) = some 1 by decide +kernel)⟩ rfl (Nat.le_of_ble_eq_true rfl) (by rw [hRm]; decide) (by rw [hRm]; exact ⟨Nat.le_of_ble_eq_true rfl, Nat.le_of_ble_eq_true rfl⟩) ?_
    refine g_icmp_le (tgt := 31) X dX4_strongestWard_24 (by decide) (fun c7 => ?_) (fun c7 => ?_)
    · refine g_iload_n X dX4_strongestWard_31 rfl 1 rfl ?_
      refine g_lit (rS2 (u0 u)) (show rS2 (u0 u) = rS1 (u0 u) from if_pos c7).symm ?_
      refine g_istore_n (L' := [(1, .int (rS2 (u0 u))), (2, .int 2), (0, .ref (a 0))]) X dX4_strongestWard_32 rfl (by rw [hnL]; decide) rfl ?_
      refine g_iinc (k := 1) (v := 3) (L' := [(2, .int 3), (1, .int (rS2 (u0 u))), (0, .ref (a 0))]) X dX4_strongestWard_33 rfl (by decide) (by rw [hnL]; decide) rfl ?_
      refine g_goto (tgt := 9) X dX4_strongestWard_36 (by decide) ?_
      refine g_iload_n X dX4_strongestWard_9 rfl 0 rfl ?_
      refine g_iconst (v := 4) X dX4_strongestWard_10 (by decide) ?_
      refine g_icmp_ge (tgt := 39) X dX4_strongestWard_11 (by decide) (fun c8 => absurd c8 (by decide)) (fun c8 => ?_)
      refine g_aload_n X dX4_strongestWard_14 rfl 2 rfl ?_
      refine g_iload_n X dX4_strongestWard_15 rfl 0 rfl ?_
      refine g_callV_rd (As := [.int 3]) (ci := 4) (v := some (.int (rWard (hsc u 0 0) 3 (cN (u.2.1 1 0))))) X dX4_strongestWard_16 (c_X4_inWard κ.l hl κ.Γ M1 a (hsc u 0 0) hR2 3 hi) k1240 k1242 kp22 k5 k1243 rfl (MRep.obj hR2) ⟨rfl, by decide, by decide, (show (parseMethodDescriptor yX4_inWard.desc).map (fun d => d.parameters.length) = some 1 by decide +kernel)⟩ rfl (Nat.le_of_ble_eq_true rfl) (by rw [hRm]; decide) (by rw [hRm]; exact ⟨Nat.le_of_ble_eq_true rfl, Nat.le_of_ble_eq_true rfl⟩) ?_
      refine g_aload_n X dX4_strongestWard_19 rfl 2 rfl ?_
      refine g_iload_n X dX4_strongestWard_20 rfl 1 rfl ?_
      refine g_callV_rd (As := [.int (rS2 (u0 u))]) (ci := 4) (v := some (.int (rWard (hsc u 0 0) (rS2 (u0 u)) (cN (u.2.1 1 0))))) X dX4_strongestWard_21 (c_X4_inWard κ.l hl κ.Γ M1 a (hsc u 0 0) hR2 (rS2 (u0 u)) hi) k1240 k1242 kp22 k5 k1243 rfl (MRep.obj hR2) ⟨rfl, by decide, by decide, (show (parseMethodDescriptor yX4_inWard.desc).map (fun d => d.parameters.length) = some 1 by decide +kernel)⟩ rfl (Nat.le_of_ble_eq_true rfl) (by rw [hRm]; decide) (by rw [hRm]; exact ⟨Nat.le_of_ble_eq_true rfl, Nat.le_of_ble_eq_true rfl⟩) ?_
      refine g_icmp_le (tgt := 31) X dX4_strongestWard_24 (by decide) (fun c9 => ?_) (fun c9 => ?_)
      · refine g_iload_n X dX4_strongestWard_31 rfl 1 rfl ?_
        refine g_lit (rS3 (u0 u)) (show rS3 (u0 u) = rS2 (u0 u) from if_pos c9).symm ?_
        refine g_istore_n (L' := [(1, .int (rS3 (u0 u))), (2, .int 3), (0, .ref (a 0))]) X dX4_strongestWard_32 rfl (by rw [hnL]; decide) rfl ?_
        refine g_iinc (k := 1) (v := 4) (L' := [(2, .int 4), (1, .int (rS3 (u0 u))), (0, .ref (a 0))]) X dX4_strongestWard_33 rfl (by decide) (by rw [hnL]; decide) rfl ?_
        refine g_goto (tgt := 9) X dX4_strongestWard_36 (by decide) ?_
        refine g_iload_n X dX4_strongestWard_9 rfl 0 rfl ?_
        refine g_iconst (v := 4) X dX4_strongestWard_10 (by decide) ?_
        refine g_icmp_ge (tgt := 39) X dX4_strongestWard_11 (by decide) (fun c10 => ?_) (fun c10 => absurd c10 (by decide))
        refine g_iload_n X dX4_strongestWard_39 rfl 1 rfl ?_
        exact g_iret X F dX4_strongestWard_40 (by omega) (by omega) (by unfold mStrongestWard; exact ⟨rfl, hR2, hF3⟩)
      · refine g_iload_n X dX4_strongestWard_27 rfl 0 rfl ?_
        refine g_goto (tgt := 32) X dX4_strongestWard_28 (by decide) ?_
        refine g_lit (rS3 (u0 u)) (show rS3 (u0 u) = 3 from if_neg c9).symm ?_
        refine g_istore_n (L' := [(1, .int (rS3 (u0 u))), (2, .int 3), (0, .ref (a 0))]) X dX4_strongestWard_32 rfl (by rw [hnL]; decide) rfl ?_
        refine g_iinc (k := 1) (v := 4) (L' := [(2, .int 4), (1, .int (rS3 (u0 u))), (0, .ref (a 0))]) X dX4_strongestWard_33 rfl (by decide) (by rw [hnL]; decide) rfl ?_
        refine g_goto (tgt := 9) X dX4_strongestWard_36 (by decide) ?_
        refine g_iload_n X dX4_strongestWard_9 rfl 0 rfl ?_
        refine g_iconst (v := 4) X dX4_strongestWard_10 (by decide) ?_
        refine g_icmp_ge (tgt := 39) X dX4_strongestWard_11 (by decide) (fun c11 => ?_) (fun c11 => absurd c11 (by decide))
        refine g_iload_n X dX4_strongestWard_39 rfl 1 rfl ?_
        exact g_iret X F dX4_strongestWard_40 (by omega) (by omega) (by unfold mStrongestWard; exact ⟨rfl, hR2, hF3⟩)
    · refine g_iload_n X dX4_strongestWard_27 rfl 0 rfl ?_
      refine g_goto (tgt := 32) X dX4_strongestWard_28 (by decide) ?_
      refine g_lit (rS2 (u0 u)) (show rS2 (u0 u) = 2 from if_neg c7).symm ?_
      refine g_istore_n (L' := [(1, .int (rS2 (u0 u))), (2, .int 2), (0, .ref (a 0))]) X dX4_strongestWard_32 rfl (by rw [hnL]; decide) rfl ?_
      refine g_iinc (k := 1) (v := 3) (L' := [(2, .int 3), (1, .int (rS2 (u0 u))), (0, .ref (a 0))]) X dX4_strongestWard_33 rfl (by decide) (by rw [hnL]; decide) rfl ?_
      refine g_goto (tgt := 9) X dX4_strongestWard_36 (by decide) ?_
      refine g_iload_n X dX4_strongestWard_9 rfl 0 rfl ?_
      refine g_iconst (v := 4) X dX4_strongestWard_10 (by decide) ?_
      refine g_icmp_ge (tgt := 39) X dX4_strongestWard_11 (by decide) (fun c12 => absurd c12 (by decide)) (fun c12 => ?_)
      refine g_aload_n X dX4_strongestWard_14 rfl 2 rfl ?_
      refine g_iload_n X dX4_strongestWard_15 rfl 0 rfl ?_
      refine g_callV_rd (As := [.int 3]) (ci := 4) (v := some (.int (rWard (hsc u 0 0) 3 (cN (u.2.1 1 0))))) X dX4_strongestWard_16 (c_X4_inWard κ.l hl κ.Γ M1 a (hsc u 0 0) hR2 3 hi) k1240 k1242 kp22 k5 k1243 rfl (MRep.obj hR2) ⟨rfl, by decide, by decide, (show (parseMethodDescriptor yX4_inWard.desc).map (fun d => d.parameters.length) = some 1 by decide +kernel)⟩ rfl (Nat.le_of_ble_eq_true rfl) (by rw [hRm]; decide) (by rw [hRm]; exact ⟨Nat.le_of_ble_eq_true rfl, Nat.le_of_ble_eq_true rfl⟩) ?_
      refine g_aload_n X dX4_strongestWard_19 rfl 2 rfl ?_
      refine g_iload_n X dX4_strongestWard_20 rfl 1 rfl ?_
      refine g_callV_rd (As := [.int (rS2 (u0 u))]) (ci := 4) (v := some (.int (rWard (hsc u 0 0) (rS2 (u0 u)) (cN (u.2.1 1 0))))) X dX4_strongestWard_21 (c_X4_inWard κ.l hl κ.Γ M1 a (hsc u 0 0) hR2 (rS2 (u0 u)) hi) k1240 k1242 kp22 k5 k1243 rfl (MRep.obj hR2) ⟨rfl, by decide, by decide, (show (parseMethodDescriptor yX4_inWard.desc).map (fun d => d.parameters.length) = some 1 by decide +kernel)⟩ rfl (Nat.le_of_ble_eq_true rfl) (by rw [hRm]; decide) (by rw [hRm]; exact ⟨Nat.le_of_ble_eq_true rfl, Nat.le_of_ble_eq_true rfl⟩) ?_
      refine g_icmp_le (tgt := 31) X dX4_strongestWard_24 (by decide) (fun c13 => ?_) (fun c13 => ?_)
      · refine g_iload_n X dX4_strongestWard_31 rfl 1 rfl ?_
        refine g_lit (rS3 (u0 u)) (show rS3 (u0 u) = rS2 (u0 u) from if_pos c13).symm ?_
        refine g_istore_n (L' := [(1, .int (rS3 (u0 u))), (2, .int 3), (0, .ref (a 0))]) X dX4_strongestWard_32 rfl (by rw [hnL]; decide) rfl ?_
        refine g_iinc (k := 1) (v := 4) (L' := [(2, .int 4), (1, .int (rS3 (u0 u))), (0, .ref (a 0))]) X dX4_strongestWard_33 rfl (by decide) (by rw [hnL]; decide) rfl ?_
        refine g_goto (tgt := 9) X dX4_strongestWard_36 (by decide) ?_
        refine g_iload_n X dX4_strongestWard_9 rfl 0 rfl ?_
        refine g_iconst (v := 4) X dX4_strongestWard_10 (by decide) ?_
        refine g_icmp_ge (tgt := 39) X dX4_strongestWard_11 (by decide) (fun c14 => ?_) (fun c14 => absurd c14 (by decide))
        refine g_iload_n X dX4_strongestWard_39 rfl 1 rfl ?_
        exact g_iret X F dX4_strongestWard_40 (by omega) (by omega) (by unfold mStrongestWard; exact ⟨rfl, hR2, hF3⟩)
      · refine g_iload_n X dX4_strongestWard_27 rfl 0 rfl ?_
        refine g_goto (tgt := 32) X dX4_strongestWard_28 (by decide) ?_
        refine g_lit (rS3 (u0 u)) (show rS3 (u0 u) = 3 from if_neg c13).symm ?_
        refine g_istore_n (L' := [(1, .int (rS3 (u0 u))), (2, .int 3), (0, .ref (a 0))]) X dX4_strongestWard_32 rfl (by rw [hnL]; decide) rfl ?_
        refine g_iinc (k := 1) (v := 4) (L' := [(2, .int 4), (1, .int (rS3 (u0 u))), (0, .ref (a 0))]) X dX4_strongestWard_33 rfl (by decide) (by rw [hnL]; decide) rfl ?_
        refine g_goto (tgt := 9) X dX4_strongestWard_36 (by decide) ?_
        refine g_iload_n X dX4_strongestWard_9 rfl 0 rfl ?_
        refine g_iconst (v := 4) X dX4_strongestWard_10 (by decide) ?_
        refine g_icmp_ge (tgt := 39) X dX4_strongestWard_11 (by decide) (fun c15 => ?_) (fun c15 => absurd c15 (by decide))
        refine g_iload_n X dX4_strongestWard_39 rfl 1 rfl ?_
        exact g_iret X F dX4_strongestWard_40 (by omega) (by omega) (by unfold mStrongestWard; exact ⟨rfl, hR2, hF3⟩)
  · refine g_iload_n X dX4_strongestWard_27 rfl 0 rfl ?_
    refine g_goto (tgt := 32) X dX4_strongestWard_28 (by decide) ?_
    refine g_lit (rS1 (u0 u)) (show rS1 (u0 u) = 1 from if_neg c5).symm ?_
    refine g_istore_n (L' := [(1, .int (rS1 (u0 u))), (2, .int 1), (0, .ref (a 0))]) X dX4_strongestWard_32 rfl (by rw [hnL]; decide) rfl ?_
    refine g_iinc (k := 1) (v := 2) (L' := [(2, .int 2), (1, .int (rS1 (u0 u))), (0, .ref (a 0))]) X dX4_strongestWard_33 rfl (by decide) (by rw [hnL]; decide) rfl ?_
    refine g_goto (tgt := 9) X dX4_strongestWard_36 (by decide) ?_
    refine g_iload_n X dX4_strongestWard_9 rfl 0 rfl ?_
    refine g_iconst (v := 4) X dX4_strongestWard_10 (by decide) ?_
    refine g_icmp_ge (tgt := 39) X dX4_strongestWard_11 (by decide) (fun c16 => absurd c16 (by decide)) (fun c16 => ?_)
    refine g_aload_n X dX4_strongestWard_14 rfl 2 rfl ?_
    refine g_iload_n X dX4_strongestWard_15 rfl 0 rfl ?_
    refine g_callV_rd (As := [.int 2]) (ci := 4) (v := some (.int (rWard (hsc u 0 0) 2 (cN (u.2.1 1 0))))) X dX4_strongestWard_16 (c_X4_inWard κ.l hl κ.Γ M1 a (hsc u 0 0) hR2 2 hi) k1240 k1242 kp22 k5 k1243 rfl (MRep.obj hR2) ⟨rfl, by decide, by decide, (show (parseMethodDescriptor yX4_inWard.desc).map (fun d => d.parameters.length) = some 1 by decide +kernel)⟩ rfl (Nat.le_of_ble_eq_true rfl) (by rw [hRm]; decide) (by rw [hRm]; exact ⟨Nat.le_of_ble_eq_true rfl, Nat.le_of_ble_eq_true rfl⟩) ?_
    refine g_aload_n X dX4_strongestWard_19 rfl 2 rfl ?_
    refine g_iload_n X dX4_strongestWard_20 rfl 1 rfl ?_
    refine g_callV_rd (As := [.int (rS1 (u0 u))]) (ci := 4) (v := some (.int (rWard (hsc u 0 0) (rS1 (u0 u)) (cN (u.2.1 1 0))))) X dX4_strongestWard_21 (c_X4_inWard κ.l hl κ.Γ M1 a (hsc u 0 0) hR2 (rS1 (u0 u)) hi) k1240 k1242 kp22 k5 k1243 rfl (MRep.obj hR2) ⟨rfl, by decide, by decide, (show (parseMethodDescriptor yX4_inWard.desc).map (fun d => d.parameters.length) = some 1 by decide +kernel)⟩ rfl (Nat.le_of_ble_eq_true rfl) (by rw [hRm]; decide) (by rw [hRm]; exact ⟨Nat.le_of_ble_eq_true rfl, Nat.le_of_ble_eq_true rfl⟩) ?_
    refine g_icmp_le (tgt := 31) X dX4_strongestWard_24 (by decide) (fun c17 => ?_) (fun c17 => ?_)
    · refine g_iload_n X dX4_strongestWard_31 rfl 1 rfl ?_
      refine g_lit (rS2 (u0 u)) (show rS2 (u0 u) = rS1 (u0 u) from if_pos c17).symm ?_
      refine g_istore_n (L' := [(1, .int (rS2 (u0 u))), (2, .int 2), (0, .ref (a 0))]) X dX4_strongestWard_32 rfl (by rw [hnL]; decide) rfl ?_
      refine g_iinc (k := 1) (v := 3) (L' := [(2, .int 3), (1, .int (rS2 (u0 u))), (0, .ref (a 0))]) X dX4_strongestWard_33 rfl (by decide) (by rw [hnL]; decide) rfl ?_
      refine g_goto (tgt := 9) X dX4_strongestWard_36 (by decide) ?_
      refine g_iload_n X dX4_strongestWard_9 rfl 0 rfl ?_
      refine g_iconst (v := 4) X dX4_strongestWard_10 (by decide) ?_
      refine g_icmp_ge (tgt := 39) X dX4_strongestWard_11 (by decide) (fun c18 => absurd c18 (by decide)) (fun c18 => ?_)
      refine g_aload_n X dX4_strongestWard_14 rfl 2 rfl ?_
      refine g_iload_n X dX4_strongestWard_15 rfl 0 rfl ?_
      refine g_callV_rd (As := [.int 3]) (ci := 4) (v := some (.int (rWard (hsc u 0 0) 3 (cN (u.2.1 1 0))))) X dX4_strongestWard_16 (c_X4_inWard κ.l hl κ.Γ M1 a (hsc u 0 0) hR2 3 hi) k1240 k1242 kp22 k5 k1243 rfl (MRep.obj hR2) ⟨rfl, by decide, by decide, (show (parseMethodDescriptor yX4_inWard.desc).map (fun d => d.parameters.length) = some 1 by decide +kernel)⟩ rfl (Nat.le_of_ble_eq_true rfl) (by rw [hRm]; decide) (by rw [hRm]; exact ⟨Nat.le_of_ble_eq_true rfl, Nat.le_of_ble_eq_true rfl⟩) ?_
      refine g_aload_n X dX4_strongestWard_19 rfl 2 rfl ?_
      refine g_iload_n X dX4_strongestWard_20 rfl 1 rfl ?_
      refine g_callV_rd (As := [.int (rS2 (u0 u))]) (ci := 4) (v := some (.int (rWard (hsc u 0 0) (rS2 (u0 u)) (cN (u.2.1 1 0))))) X dX4_strongestWard_21 (c_X4_inWard κ.l hl κ.Γ M1 a (hsc u 0 0) hR2 (rS2 (u0 u)) hi) k1240 k1242 kp22 k5 k1243 rfl (MRep.obj hR2) ⟨rfl, by decide, by decide, (show (parseMethodDescriptor yX4_inWard.desc).map (fun d => d.parameters.length) = some 1 by decide +kernel)⟩ rfl (Nat.le_of_ble_eq_true rfl) (by rw [hRm]; decide) (by rw [hRm]; exact ⟨Nat.le_of_ble_eq_true rfl, Nat.le_of_ble_eq_true rfl⟩) ?_
      refine g_icmp_le (tgt := 31) X dX4_strongestWard_24 (by decide) (fun c19 => ?_) (fun c19 => ?_)
      · refine g_iload_n X dX4_strongestWard_31 rfl 1 rfl ?_
        refine g_lit (rS3 (u0 u)) (show rS3 (u0 u) = rS2 (u0 u) from if_pos c19).symm ?_
        refine g_istore_n (L' := [(1, .int (rS3 (u0 u))), (2, .int 3), (0, .ref (a 0))]) X dX4_strongestWard_32 rfl (by rw [hnL]; decide) rfl ?_
        refine g_iinc (k := 1) (v := 4) (L' := [(2, .int 4), (1, .int (rS3 (u0 u))), (0, .ref (a 0))]) X dX4_strongestWard_33 rfl (by decide) (by rw [hnL]; decide) rfl ?_
        refine g_goto (tgt := 9) X dX4_strongestWard_36 (by decide) ?_
        refine g_iload_n X dX4_strongestWard_9 rfl 0 rfl ?_
        refine g_iconst (v := 4) X dX4_strongestWard_10 (by decide) ?_
        refine g_icmp_ge (tgt := 39) X dX4_strongestWard_11 (by decide) (fun c20 => ?_) (fun c20 => absurd c20 (by decide))
        refine g_iload_n X dX4_strongestWard_39 rfl 1 rfl ?_
        exact g_iret X F dX4_strongestWard_40 (by omega) (by omega) (by unfold mStrongestWard; exact ⟨rfl, hR2, hF3⟩)
      · refine g_iload_n X dX4_strongestWard_27 rfl 0 rfl ?_
        refine g_goto (tgt := 32) X dX4_strongestWard_28 (by decide) ?_
        refine g_lit (rS3 (u0 u)) (show rS3 (u0 u) = 3 from if_neg c19).symm ?_
        refine g_istore_n (L' := [(1, .int (rS3 (u0 u))), (2, .int 3), (0, .ref (a 0))]) X dX4_strongestWard_32 rfl (by rw [hnL]; decide) rfl ?_
        refine g_iinc (k := 1) (v := 4) (L' := [(2, .int 4), (1, .int (rS3 (u0 u))), (0, .ref (a 0))]) X dX4_strongestWard_33 rfl (by decide) (by rw [hnL]; decide) rfl ?_
        refine g_goto (tgt := 9) X dX4_strongestWard_36 (by decide) ?_
        refine g_iload_n X dX4_strongestWard_9 rfl 0 rfl ?_
        refine g_iconst (v := 4) X dX4_strongestWard_10 (by decide) ?_
        refine g_icmp_ge (tgt := 39) X dX4_strongestWard_11 (by decide) (fun c21 => ?_) (fun c21 => absurd c21 (by decide))
        refine g_iload_n X dX4_strongestWard_39 rfl 1 rfl ?_
        exact g_iret X F dX4_strongestWard_40 (by omega) (by omega) (by unfold mStrongestWard; exact ⟨rfl, hR2, hF3⟩)
    · refine g_iload_n X dX4_strongestWard_27 rfl 0 rfl ?_
      refine g_goto (tgt := 32) X dX4_strongestWard_28 (by decide) ?_
      refine g_lit (rS2 (u0 u)) (show rS2 (u0 u) = 2 from if_neg c17).symm ?_
      refine g_istore_n (L' := [(1, .int (rS2 (u0 u))), (2, .int 2), (0, .ref (a 0))]) X dX4_strongestWard_32 rfl (by rw [hnL]; decide) rfl ?_
      refine g_iinc (k := 1) (v := 3) (L' := [(2, .int 3), (1, .int (rS2 (u0 u))), (0, .ref (a 0))]) X dX4_strongestWard_33 rfl (by decide) (by rw [hnL]; decide) rfl ?_
      refine g_goto (tgt := 9) X dX4_strongestWard_36 (by decide) ?_
      refine g_iload_n X dX4_strongestWard_9 rfl 0 rfl ?_
      refine g_iconst (v := 4) X dX4_strongestWard_10 (by decide) ?_
      refine g_icmp_ge (tgt := 39) X dX4_strongestWard_11 (by decide) (fun c22 => absurd c22 (by decide)) (fun c22 => ?_)
      refine g_aload_n X dX4_strongestWard_14 rfl 2 rfl ?_
      refine g_iload_n X dX4_strongestWard_15 rfl 0 rfl ?_
      refine g_callV_rd (As := [.int 3]) (ci := 4) (v := some (.int (rWard (hsc u 0 0) 3 (cN (u.2.1 1 0))))) X dX4_strongestWard_16 (c_X4_inWard κ.l hl κ.Γ M1 a (hsc u 0 0) hR2 3 hi) k1240 k1242 kp22 k5 k1243 rfl (MRep.obj hR2) ⟨rfl, by decide, by decide, (show (parseMethodDescriptor yX4_inWard.desc).map (fun d => d.parameters.length) = some 1 by decide +kernel)⟩ rfl (Nat.le_of_ble_eq_true rfl) (by rw [hRm]; decide) (by rw [hRm]; exact ⟨Nat.le_of_ble_eq_true rfl, Nat.le_of_ble_eq_true rfl⟩) ?_
      refine g_aload_n X dX4_strongestWard_19 rfl 2 rfl ?_
      refine g_iload_n X dX4_strongestWard_20 rfl 1 rfl ?_
      refine g_callV_rd (As := [.int (rS2 (u0 u))]) (ci := 4) (v := some (.int (rWard (hsc u 0 0) (rS2 (u0 u)) (cN (u.2.1 1 0))))) X dX4_strongestWard_21 (c_X4_inWard κ.l hl κ.Γ M1 a (hsc u 0 0) hR2 (rS2 (u0 u)) hi) k1240 k1242 kp22 k5 k1243 rfl (MRep.obj hR2) ⟨rfl, by decide, by decide, (show (parseMethodDescriptor yX4_inWard.desc).map (fun d => d.parameters.length) = some 1 by decide +kernel)⟩ rfl (Nat.le_of_ble_eq_true rfl) (by rw [hRm]; decide) (by rw [hRm]; exact ⟨Nat.le_of_ble_eq_true rfl, Nat.le_of_ble_eq_true rfl⟩) ?_
      refine g_icmp_le (tgt := 31) X dX4_strongestWard_24 (by decide) (fun c23 => ?_) (fun c23 => ?_)
      · refine g_iload_n X dX4_strongestWard_31 rfl 1 rfl ?_
        refine g_lit (rS3 (u0 u)) (show rS3 (u0 u) = rS2 (u0 u) from if_pos c23).symm ?_
        refine g_istore_n (L' := [(1, .int (rS3 (u0 u))), (2, .int 3), (0, .ref (a 0))]) X dX4_strongestWard_32 rfl (by rw [hnL]; decide) rfl ?_
        refine g_iinc (k := 1) (v := 4) (L' := [(2, .int 4), (1, .int (rS3 (u0 u))), (0, .ref (a 0))]) X dX4_strongestWard_33 rfl (by decide) (by rw [hnL]; decide) rfl ?_
        refine g_goto (tgt := 9) X dX4_strongestWard_36 (by decide) ?_
        refine g_iload_n X dX4_strongestWard_9 rfl 0 rfl ?_
        refine g_iconst (v := 4) X dX4_strongestWard_10 (by decide) ?_
        refine g_icmp_ge (tgt := 39) X dX4_strongestWard_11 (by decide) (fun c24 => ?_) (fun c24 => absurd c24 (by decide))
        refine g_iload_n X dX4_strongestWard_39 rfl 1 rfl ?_
        exact g_iret X F dX4_strongestWard_40 (by omega) (by omega) (by unfold mStrongestWard; exact ⟨rfl, hR2, hF3⟩)
      · refine g_iload_n X dX4_strongestWard_27 rfl 0 rfl ?_
        refine g_goto (tgt := 32) X dX4_strongestWard_28 (by decide) ?_
        refine g_lit (rS3 (u0 u)) (show rS3 (u0 u) = 3 from if_neg c23).symm ?_
        refine g_istore_n (L' := [(1, .int (rS3 (u0 u))), (2, .int 3), (0, .ref (a 0))]) X dX4_strongestWard_32 rfl (by rw [hnL]; decide) rfl ?_
        refine g_iinc (k := 1) (v := 4) (L' := [(2, .int 4), (1, .int (rS3 (u0 u))), (0, .ref (a 0))]) X dX4_strongestWard_33 rfl (by decide) (by rw [hnL]; decide) rfl ?_
        refine g_goto (tgt := 9) X dX4_strongestWard_36 (by decide) ?_
        refine g_iload_n X dX4_strongestWard_9 rfl 0 rfl ?_
        refine g_iconst (v := 4) X dX4_strongestWard_10 (by decide) ?_
        refine g_icmp_ge (tgt := 39) X dX4_strongestWard_11 (by decide) (fun c25 => ?_) (fun c25 => absurd c25 (by decide))
        refine g_iload_n X dX4_strongestWard_39 rfl 1 rfl ?_
        exact g_iret X F dX4_strongestWard_40 (by omega) (by omega) (by unfold mStrongestWard; exact ⟨rfl, hR2, hF3⟩)
