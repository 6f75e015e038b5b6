theorem TInv.clr {u : HV} (h : TInv u) : TInv (hsc u 0 0) := ⟨⟨0, by decide, rfl⟩, h.2.1, h.2.2.1, h.2.2.2⟩
def runE (w : PV) (T1 : HV) : PV := wT (wS (wT w T1) 3 (T1.1 1)) (hsc T1 0 0)
def run1 (w : PV) (T1 : HV) : PV := wH (wT w T1) 1 (w.1 0)
def runO (w : PV) (T1 u T2 : HV) : PV := wRem (wHT (run1 w T1) u (hsc T2 0 0)) (w.1 0)
def runN (w : PV) (T1 u T2 : HV) (f : Int32) : PV := wS (wH (wHT (run1 w T1) u (hsc T2 0 0)) 0 (w.1 0)) 4 f
noncomputable abbrev rC (w : PV) : Int32 × HV := tCnt 60 1 (hsc w.2.2.1 1 0)
noncomputable abbrev rS (w : PV) (n : Int32) (T1 : HV) : Int32 × HV × HV := coS (cN n) 0 (w.1 0) (hsc T1 1 0)
noncomputable def pRun (w : PV) : Res × PV :=
  if (rC w).1 = -1 then (.inr eArg, runE w (rC w).2)
  else if (rS w (rC w).1 (rC w).2).1 = -1 then (rI (rC w).1, runO w (rC w).2 (rS w (rC w).1 (rC w).2).2.1 (rS w (rC w).1 (rC w).2).2.2)
  else (.inr eSta, runN w (rC w).2 (rS w (rC w).1 (rC w).2).2.1 (rS w (rC w).1 (rC w).2).2.2 (rS w (rC w).1 (rC w).2).1)
theorem pRun_e {w : PV} {n : Int32} {T1 : HV} (e : rC w = (n, T1)) (h : n = -1) : pRun w = (.inr eArg, runE w T1) := by
  unfold pRun; rw [e]; exact if_pos h
theorem pRun_o {w : PV} {n f : Int32} {T1 u T2 : HV} (e : rC w = (n, T1)) (e2 : rS w n T1 = (f, u, T2)) (h : ¬ n = -1) (h2 : f = -1) : pRun w = (rI n, runO w T1 u T2) := by
  unfold pRun; rw [e]; dsimp only; rw [e2, if_neg h, if_pos h2]
theorem pRun_n {w : PV} {n f : Int32} {T1 u T2 : HV} (e : rC w = (n, T1)) (e2 : rS w n T1 = (f, u, T2)) (h : ¬ n = -1) (h2 : ¬ f = -1) : pRun w = (.inr eSta, runN w T1 u T2 f) := by
  unfold pRun; rw [e]; dsimp only; rw [e2, if_neg h, if_neg h2]
theorem BInv.r1 {w : PV} (h : BInv w) {T1 : HV} (hT : TInv T1) : BInv (run1 w T1) := by
  refine ⟨fun j hj => ?_, h.2.1, hT, h.2.2.2⟩
  show HInv (if j = 1 then w.1 0 else w.1 j)
  by_cases e : j = 1
  · rw [if_pos e]; exact h.1 0 (by decide)
  · rw [if_neg e]; exact h.1 j hj
theorem rS_1 {w : PV} {n : Int32} {T1 : HV} : coS (cN n) 0 ((run1 w T1).1 0) (hsc (run1 w T1).2.2.1 1 0) = rS w n T1 := rfl
theorem wHT_T2 {Γ : Gm} {A : Nat → Nat} {w : PV} {M : Hp} {u T V : HV} (h : BRep Γ A (wT (wHT w u T) V) M) : BRep Γ A (wHT w u V) M := h
theorem runO_B {Γ : Gm} {A : Nat → Nat} {w : PV} {M : Hp} {T1 u T2 : HV} (h : BRep Γ A (wRem (wHT (run1 w T1) u (hsc T2 0 0)) ((wHT (run1 w T1) u (hsc T2 0 0)).1 1)) M) : BRep Γ A (runO w T1 u T2) M := h
set_option maxRecDepth 100000 in
set_option maxHeartbeats 4000000 in
theorem c_X3_run (l : Launch) (hl : l.stackTraces = false) (Γ : Gm) (M : Hp) (A : Nat → Nat) (w : PV) (hB : BRep Γ A w M) (hI : BInv w) : Ct l Γ yX3_run cX3_run 3 (some .int) 6 3 18 [.ref (A 313)] M (BMu Γ A (pRun w) M) := by
  refine Ct.of hl (by decide) (Nat.le_of_ble_eq_true rfl) rfl ?_
  intro κ e1 e2 hnL hRm X F hlt
  subst e1 e2
  refine g_aload_n X dX3_run_0 rfl 0 rfl ?_
  refine g_get X dX3_run_1 (ci := 3) (k := 7) (v := .ref (tA A 0)) rfl k161 (by decide) rfl (BRep.obj hB) rfl ?_
  refine g_callV (As := []) (ci := 0) X dX3_run_4 (c_X0_countCommands κ.l hl κ.Γ M (tA A) w.2.2.1 hB.2.2.1 hI.2.2.1) k867 k868 k869 k3 k870 rfl (TRep.obj hB.2.2.1) ⟨rfl, by decide, by decide, (show (parseMethodDescriptor yX0_countCommands.desc).map (fun d => d.parameters.length) = some 0 by decide +kernel)⟩ rfl (Nat.le_of_ble_eq_true rfl) (by rw [hRm]; decide) (by rw [hRm]; exact ⟨Nat.le_of_ble_eq_true rfl, Nat.le_of_ble_eq_true rfl⟩) (fun v1 M1 h1 => ?_) (fun _ _ h9 => by cases h9.1)
  obtain ⟨e1, hR1, hF1⟩ := h1
  cases e1
  have hT1 : TInv (rC w).2 := TInv.cnt 60 1 hI.2.2.1.rew
  obtain ⟨n, T1, eT⟩ : ∃ n T1, rC w = (n, T1) := ⟨_, _, rfl⟩
  have hR1 : TRep κ.Γ (tA A) (rC w).2 M1 := hR1
  rw [eT] at hR1 hT1
  have hR1 : TRep κ.Γ (tA A) T1 M1 := hR1
  have hT1 : TInv T1 := hT1
  refine g_lit n (show (rC w).1 = n by rw [eT]) ?_
  have hB1 : BRep κ.Γ A (wT w T1) M1 := BRep.tx hB hR1 hF1
  have hFA1 : Fr A 315 M M1 := Fr.tA hF1
  refine g_istore_n (L' := [(1, .int n), (0, .ref (A 313))]) X dX3_run_7 rfl (by rw [hnL]; decide) rfl ?_
  refine g_iload_n X dX3_run_8 rfl 0 rfl ?_
  refine g_iconst (v := (-1)) X dX3_run_9 (by decide) ?_
  refine g_icmp_ne (tgt := 39) X dX3_run_10 (by decide) (fun c1 => ?_) (fun c1 => ?_)
  · refine g_aload_n X dX3_run_39 rfl 1 rfl ?_
    refine g_get X dX3_run_40 (ci := 3) (k := 1) (v := .ref (hA A 1 0)) rfl k155 (by decide) rfl (BRep.obj hB1) rfl ?_
    refine g_aload_n X dX3_run_43 rfl 1 rfl ?_
    refine g_get X dX3_run_44 (ci := 3) (k := 0) (v := .ref (hA A 0 0)) rfl k154 (by decide) rfl (BRep.obj hB1) rfl ?_
    refine g_callV (As := [.ref (hA A 0 0)]) (ci := 1) X dX3_run_47 (c_X1_copyFrom κ.l hl κ.Γ M1 (hA A 1) (w.1 1) (hB1.1 1 (by decide)) (hA A 0) (w.1 0) (hB1.1 0 (by decide)) (BRep.dj hB1 (by decide) (by decide) (by decide))) k279 k280 k281 k2 k282 rfl (HRep.obj (hB1.1 1 (by decide))) ⟨rfl, by decide, by decide, (show (parseMethodDescriptor yX1_copyFrom.desc).map (fun d => d.parameters.length) = some 1 by decide +kernel)⟩ rfl (Nat.le_of_ble_eq_true rfl) (by rw [hRm]; decide) (by rw [hRm]; exact ⟨Nat.le_of_ble_eq_true rfl, Nat.le_of_ble_eq_true rfl⟩) (fun v1 M1 h1 => ?_) (fun _ _ h9 => by cases h9.1)
    obtain ⟨e1, hR1, hF1⟩ := h1
    cases e1
    have hB3 : BRep κ.Γ A (wH (wT w T1) 1 (w.1 0)) M1 := BRep.hs hB1 (by decide) hR1 hF1
    have hFA4 : Fr A 315 M M1 := Fr.tr hFA1 (Fr.hA (h := 1) hF1 (by decide))
    refine g_aload_n X dX3_run_50 rfl 1 rfl ?_
    refine g_iload_n X dX3_run_51 rfl 0 rfl ?_
    have hBr : BRep κ.Γ A (run1 w T1) M1 := hB3
    have hIr : BInv (run1 w T1) := hI.r1 hT1
    refine g_callV (As := [.int n]) (ci := 3) X dX3_run_52 (c_X3_carryOutCommands κ.l hl κ.Γ M1 A (run1 w T1) hBr hIr n) k970 k972 kp12 k1 k973 rfl (BRep.obj hBr) ⟨rfl, by decide, by decide, (show (parseMethodDescriptor yX3_carryOutCommands.desc).map (fun d => d.parameters.length) = some 1 by decide +kernel)⟩ rfl (Nat.le_of_ble_eq_true rfl) (by rw [hRm]; decide) (by rw [hRm]; exact ⟨Nat.le_of_ble_eq_true rfl, Nat.le_of_ble_eq_true rfl⟩) (fun v7 M7 h7 => ?_) (fun _ _ h9 => by cases h9.1)
    rw [rS_1] at h7
    have hU2 := coS_inv (cN n) 0 (hI.1 0 (by decide)) hT1.rew
    obtain ⟨f, u2, T2, eC⟩ : ∃ f u2 T2, rS w n T1 = (f, u2, T2) := ⟨_, _, _, rfl⟩
    rw [show coS (cN n) 0 (w.1 0) (hsc T1 1 0) = (f, u2, T2) from eC] at hU2
    rw [eC] at h7
    obtain ⟨e7, hB7, hFA7⟩ := h7
    have e7 : (Sum.inl v7 : Res) = rI f := e7
    cases e7
    have hB7 : BRep κ.Γ A (wHT (run1 w T1) u2 T2) M7 := hB7
    have hU7 : HInv u2 := hU2.1
    have hT7 : TInv T2 := hU2.2
    have hFA7 := Fr.tr hFA4 hFA7
    have hI7 : BInv (wHT (run1 w T1) u2 (hsc T2 0 0)) := hIr.ht hU7 hT7.clr
    refine g_istore_n (L' := [(2, .int f), (1, .int n), (0, .ref (A 313))]) X dX3_run_55 rfl (by rw [hnL]; decide) rfl ?_
    refine g_aload_n X dX3_run_56 rfl 2 rfl ?_
    refine g_get X dX3_run_57 (ci := 3) (k := 7) (v := .ref (tA A 0)) rfl k161 (by decide) rfl (BRep.obj hB7) rfl ?_
    refine g_callV (As := []) (ci := 0) X dX3_run_60 (c_X0_clear κ.l hl κ.Γ M7 (tA A) T2 hB7.2.2.1 hT7) k966 k967 k968 k3 k969 rfl (TRep.obj hB7.2.2.1) ⟨rfl, by decide, by decide, (show (parseMethodDescriptor yX0_clear.desc).map (fun d => d.parameters.length) = some 0 by decide +kernel)⟩ rfl (Nat.le_of_ble_eq_true rfl) (by rw [hRm]; decide) (by rw [hRm]; exact ⟨Nat.le_of_ble_eq_true rfl, Nat.le_of_ble_eq_true rfl⟩) (fun v4 M4 h4 => ?_) (fun _ _ h9 => by cases h9.1)
    obtain ⟨e4, hR4, hF4⟩ := h4
    cases e4
    have hB6 : BRep κ.Γ A (wT (wHT (run1 w T1) u2 T2) (hsc T2 0 0)) M4 := BRep.tx hB7 hR4 hF4
    have hFA7 : Fr A 315 M M4 := Fr.tr hFA7 (Fr.tA hF4)
    have hB8 : BRep κ.Γ A (wHT (run1 w T1) u2 (hsc T2 0 0)) M4 := wHT_T2 hB6
    refine g_iload_n X dX3_run_63 rfl 0 rfl ?_
    refine g_iconst (v := (-1)) X dX3_run_64 (by decide) ?_
    refine g_icmp_eq (tgt := 92) X dX3_run_65 (by decide) (fun c9 => ?_) (fun c9 => ?_)
    · refine g_aload_n X dX3_run_92 rfl 2 rfl ?_
      refine g_aload_n X dX3_run_93 rfl 2 rfl ?_
      refine g_get X dX3_run_94 (ci := 3) (k := 1) (v := .ref (hA A 1 0)) rfl k155 (by decide) rfl (BRep.obj hB8) rfl ?_
      refine g_callV (As := [.ref (hA A 1 0)]) (ci := 3) X dX3_run_97 (c_X3_remember κ.l hl κ.Γ M4 A (wHT (run1 w T1) u2 (hsc T2 0 0)) hB8 hI7 1 (by decide) hI7.2.2.2.2) k466 k468 kp3 k1 k469 rfl (BRep.obj hB8) ⟨rfl, by decide, by decide, (show (parseMethodDescriptor yX3_remember.desc).map (fun d => d.parameters.length) = some 1 by decide +kernel)⟩ rfl (Nat.le_of_ble_eq_true rfl) (by rw [hRm]; decide) (by rw [hRm]; exact ⟨Nat.le_of_ble_eq_true rfl, Nat.le_of_ble_eq_true rfl⟩) (fun v9 M9 h9 => ?_) (fun _ _ h9 => by cases h9.1)
      obtain ⟨e9, hB9, hFA9⟩ := h9
      have e9 : (Sum.inl v9 : Res) = Sum.inl none := e9
      cases e9
      have hFA9 := Fr.tr hFA7 hFA9
      refine g_iload_n X dX3_run_100 rfl 1 rfl ?_
      exact g_iret X F dX3_run_101 (Nat.le_of_ble_eq_true rfl) (Nat.le_of_ble_eq_true rfl) (by rw [pRun_o eT eC c1 c9]; exact ⟨rfl, runO_B hB9, hFA9⟩)
    · refine g_aload_n X dX3_run_68 rfl 2 rfl ?_
      refine g_get X dX3_run_69 (ci := 3) (k := 0) (v := .ref (hA A 0 0)) rfl k154 (by decide) rfl (BRep.obj hB8) rfl ?_
      refine g_aload_n X dX3_run_72 rfl 2 rfl ?_
      refine g_get X dX3_run_73 (ci := 3) (k := 1) (v := .ref (hA A 1 0)) rfl k155 (by decide) rfl (BRep.obj hB8) rfl ?_
      refine g_callV (As := [.ref (hA A 1 0)]) (ci := 1) X dX3_run_76 (c_X1_copyFrom κ.l hl κ.Γ M4 (hA A 0) (u2) (hB8.1 0 (by decide)) (hA A 1) (w.1 0) (hB8.1 1 (by decide)) (BRep.dj hB8 (by decide) (by decide) (by decide))) k279 k280 k281 k2 k282 rfl (HRep.obj (hB8.1 0 (by decide))) ⟨rfl, by decide, by decide, (show (parseMethodDescriptor yX1_copyFrom.desc).map (fun d => d.parameters.length) = some 1 by decide +kernel)⟩ rfl (Nat.le_of_ble_eq_true rfl) (by rw [hRm]; decide) (by rw [hRm]; exact ⟨Nat.le_of_ble_eq_true rfl, Nat.le_of_ble_eq_true rfl⟩) (fun v10 M10 h10 => ?_) (fun _ _ h9 => by cases h9.1)
      obtain ⟨e10, hR10, hF10⟩ := h10
      cases e10
      have hB12 : BRep κ.Γ A (wH (wHT (run1 w T1) u2 (hsc T2 0 0)) 0 (w.1 0)) M10 := BRep.hs hB8 (by decide) hR10 hF10
      have hFA13 : Fr A 315 M M10 := Fr.tr hFA7 (Fr.hA (h := 0) hF10 (by decide))
      refine g_aload_n X dX3_run_79 rfl 2 rfl ?_
      refine g_iload_n X dX3_run_80 rfl 0 rfl ?_
      refine g_put X dX3_run_81 (ci := 3) (k := 9) (ty := .int) rfl k163 (by decide) rfl rfl (by decide +kernel) rfl rfl (Nat.le_of_ble_eq_true rfl) (BRep.obj hB12) ?_
      refine g_gen (P := fun M9 => BRep κ.Γ A (wS (wH (wHT (run1 w T1) u2 (hsc T2 0 0)) 0 (w.1 0)) 4 f) M9 ∧ Fr A 315 M M9) ⟨BRep.sc hB12 4 _ rfl, Fr.tr hFA13 (Fr.up (by decide))⟩ (fun M14 ⟨hB15, hFA16⟩ => ?_)
      exact g_throw X F (ik := 232) (ic := 234) (cls := "java/lang/IllegalStateException") dX3_run_84 dX3_run_87 dX3_run_88 dX3_run_91 (by decide +kernel) (by rw [hRm]; decide) (by rw [hRm]; exact Nat.le_of_ble_eq_true rfl) (by rw [hRm]; exact Nat.le_of_ble_eq_true rfl) (by rw [hRm]; exact Nat.le_of_ble_eq_true rfl) (Nat.le_of_ble_eq_true rfl) (Nat.le_of_ble_eq_true rfl) (by rw [pRun_n eT eC c1 c9]; exact ⟨rfl, hB15, hFA16⟩)
  · refine g_aload_n X dX3_run_13 rfl 1 rfl ?_
    refine g_aload_n X dX3_run_14 rfl 1 rfl ?_
    refine g_get X dX3_run_15 (ci := 3) (k := 7) (v := .ref (tA A 0)) rfl k161 (by decide) rfl (BRep.obj hB1) rfl ?_
    refine g_getN X dX3_run_18 (ci := 0) (k := 2) (v := .int (T1.1 1)) rfl k119 (by decide) rfl (TRep.obj hB1.2.2.1) rfl ?_
    refine g_put X dX3_run_21 (ci := 3) (k := 8) (ty := .int) rfl k162 (by decide) rfl rfl (by decide +kernel) rfl rfl (Nat.le_of_ble_eq_true rfl) (BRep.obj hB1) ?_
    refine g_gen (P := fun M9 => BRep κ.Γ A (wS (wT w T1) 3 (T1.1 1)) M9 ∧ Fr A 315 M M9) ⟨BRep.sc hB1 3 _ rfl, Fr.tr hFA1 (Fr.up (by decide))⟩ (fun M17 ⟨hB18, hFA19⟩ => ?_)
    refine g_aload_n X dX3_run_24 rfl 1 rfl ?_
    refine g_get X dX3_run_25 (ci := 3) (k := 7) (v := .ref (tA A 0)) rfl k161 (by decide) rfl (BRep.obj hB18) rfl ?_
    refine g_callV (As := []) (ci := 0) X dX3_run_28 (c_X0_clear κ.l hl κ.Γ M17 (tA A) T1 hB18.2.2.1 hT1) k966 k967 k968 k3 k969 rfl (TRep.obj hB18.2.2.1) ⟨rfl, by decide, by decide, (show (parseMethodDescriptor yX0_clear.desc).map (fun d => d.parameters.length) = some 0 by decide +kernel)⟩ rfl (Nat.le_of_ble_eq_true rfl) (by rw [hRm]; decide) (by rw [hRm]; exact ⟨Nat.le_of_ble_eq_true rfl, Nat.le_of_ble_eq_true rfl⟩) (fun v19 M19 h19 => ?_) (fun _ _ h9 => by cases h9.1)
    obtain ⟨e19, hR19, hF19⟩ := h19
    cases e19
    have hB21 : BRep κ.Γ A (wT (wS (wT w T1) 3 (T1.1 1)) (hsc T1 0 0)) M19 := BRep.tx hB18 hR19 hF19
    have hFA22 : Fr A 315 M M19 := Fr.tr hFA19 (Fr.tA hF19)
    exact g_throw X F (ik := 229) (ic := 231) (cls := "java/lang/IllegalArgumentException") dX3_run_31 dX3_run_34 dX3_run_35 dX3_run_38 (by decide +kernel) (by rw [hRm]; decide) (by rw [hRm]; exact Nat.le_of_ble_eq_true rfl) (by rw [hRm]; exact Nat.le_of_ble_eq_true rfl) (by rw [hRm]; exact Nat.le_of_ble_eq_true rfl) (Nat.le_of_ble_eq_true rfl) (Nat.le_of_ble_eq_true rfl) (by rw [pRun_e eT c1]; exact ⟨rfl, hB21, hFA22⟩)
