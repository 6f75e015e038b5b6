theorem BRep.ln2 {Γ : Gm} {A : Nat → Nat} {w : PV} {M M' : Hp} {x u : HV} (hB : BRep Γ A (wL w x) M) (hR : LRep Γ (lA A) u M') (hF : Fr (lA A) 2 M M') : BRep Γ A (wL w u) M' := by
  have h := BRep.ln hB hR hF
  exact h
theorem vin_pred {x : Int32} {n : Nat} (h : vp_in x n) (hn : n ≤ 8) (c : ¬ x = 0) : vp_in (x - 1) n := by
  have h1 := vp_in_iff.mp h
  have h2 : x.toInt ≠ 0 := fun e => c (Int32.toInt_inj.mp (by rw [e]; rfl))
  refine vp_in_iff.mpr ?_
  have h3 : (x - 1).toInt = x.toInt - 1 := by
    rw [Int32.toInt_sub]
    have e1 : (1 : Int32).toInt = 1 := rfl
    rw [e1]
    exact Int.bmod_eq_of_le (by omega) (by omega)
  omega
theorem isCh_of {c : Int32} (h : 32 ≤ c ∧ c ≤ 126) : isCh c := by
  have h1 := Int32.le_iff_toInt_le.mp h.1
  have h2 := Int32.le_iff_toInt_le.mp h.2
  have e1 : (32 : Int32).toInt = 32 := rfl
  have e2 : (126 : Int32).toInt = 126 := rfl
  refine ⟨c.toInt.toNat, by omega, Int32.toInt_inj.mp ?_⟩
  rw [nI_toInt (by omega)]
  omega
theorem TInv.pos {u : HV} (h : TInv u) (c : ¬ 60 ≤ u.1 0) : vp_in (u.1 0) 60 := by
  obtain ⟨⟨n, hn, e⟩, -⟩ := h
  rw [e] at c ⊢
  exact vp_in_nI ((nI_ltI (b := 60) (by omega) (by decide)).mp (Int32.not_le.mp c)) (by decide)
def nxU (x : Int32) : Int32 := if x = 0 then 7 else x - 1
noncomputable def wUndo (w : PV) : PV := wH (wS (wS w 1 (nxU (w.2.2.2.2 1))) 2 (w.2.2.2.2 2 - 1)) 0 (w.2.1 (cN (nxU (w.2.2.2.2 1))))
noncomputable def pUndo (w : PV) : Res × PV := pG (¬ w.2.2.2.2 2 = 0) eSta w (rI (w.2.2.2.2 2 - 1), wUndo w)
noncomputable def pSave (w : PV) : Res × PV := (rI ((w.1 0).1 3), wS (wH w 2 (w.1 0)) 0 1)
noncomputable def pRestore (w : PV) : Res × PV := pG (¬ w.2.2.2.2 0 = 0) eSta w (rI ((w.1 2).1 3), wS (wH w 0 (w.1 2)) 2 0)
noncomputable def pAppend (w : PV) (c : Int32) : Res × PV := pG (32 ≤ c ∧ c ≤ 126) eArg w (pG (¬ 60 ≤ w.2.2.1.1 0) eSta w (rI ((tPutS w.2.2.1 c).1 0), wT w (tPutS w.2.2.1 c)))
def runL (x : Int64) : Nat → Int32
  | 0 => 0
  | n + 1 => if lg_cmp (lus x (nI n) &&& 1) 0 = 0 then 0 else runL x n + 1
def runM (x : Int64) : Nat → Int32
  | 0 => 0
  | n + 1 => if runM x n < runL x (n + 1) then runL x (n + 1) else runM x n
def sft (x : Int64) : Nat → Int64
  | 0 => x
  | n + 1 => sft x n &&& lsl (sft x n) 1
def runF (x : Int64) : Nat → Nat → Int32
  | 0, n => nI n
  | k + 1, n => if lg_cmp (sft x n) 0 = 0 then nI n else runF x k (n + 1)
noncomputable def pLongestRun (w : PV) (b : Int32) : Res × PV := pG (hasB (w.1 0) b) eIdx w (rI (runM ((w.1 0).2.2 (cN b)) 64), w)
noncomputable def pLongestRunByShift (w : PV) (b : Int32) : Res × PV := pG (hasB (w.1 0) b) eIdx w (rI (runF ((w.1 0).2.2 (cN b)) 64 0), w)
set_option maxRecDepth 100000 in
set_option maxHeartbeats 4000000 in
theorem c_X3_undo (l : Launch) (hl : l.stackTraces = false) (Γ : Gm) (M : Hp) (A : Nat → Nat) (w : PV) (hB : BRep Γ A w M) (hI : BInv w) : Ct l Γ yX3_undo cX3_undo 1 (some .int) 1 3 18 [.ref (A 313)] M (BMu Γ A (pUndo w) M) := by
  refine Ct.of hl (by decide) (Nat.le_of_ble_eq_true rfl) rfl ?_
  intro κ e1 e2 hnL hRm X F hlt
  subst e1 e2
  refine g_aload_n X dX3_undo_0 rfl 0 rfl ?_
  refine g_get X dX3_undo_1 (ci := 3) (k := 6) (v := .int (w.2.2.2.2 2)) rfl k160 (by decide) rfl (BRep.obj hB) rfl ?_
  refine g_if_ne (tgt := 15) X dX3_undo_4 (by decide) (fun c1 => ?_) (fun c1 => ?_)
  · refine g_aload_n X dX3_undo_15 rfl 0 rfl ?_
    refine g_aload_n X dX3_undo_16 rfl 0 rfl ?_
    refine g_get X dX3_undo_17 (ci := 3) (k := 5) (v := .int (w.2.2.2.2 1)) rfl k159 (by decide) rfl (BRep.obj hB) rfl ?_
    refine g_if_ne (tgt := 28) X dX3_undo_20 (by decide) (fun c2 => ?_) (fun c2 => ?_)
    · refine g_aload_n X dX3_undo_28 rfl 0 rfl ?_
      refine g_get X dX3_undo_29 (ci := 3) (k := 5) (v := .int (w.2.2.2.2 1)) rfl k159 (by decide) rfl (BRep.obj hB) rfl ?_
      refine g_iconst (v := 1) X dX3_undo_32 (by decide) ?_
      refine g_isub X dX3_undo_33 ?_
      have qn : nxU (w.2.2.2.2 1) = (w.2.2.2.2 1) - 1 := if_neg c2
      have vn : vp_in ((w.2.2.2.2 1) - 1) 8 := vin_pred hI.2.2.2.2 (by decide) c2
      refine g_put X dX3_undo_34 (ci := 3) (k := 5) (ty := .int) rfl k159 (by decide) rfl rfl (by decide +kernel) rfl rfl (Nat.le_of_ble_eq_true rfl) (BRep.obj hB) ?_
      refine g_gen (P := fun M9 => BRep κ.Γ A (wS w 1 ((w.2.2.2.2 1) - 1)) M9 ∧ Fr A 315 M M9) ⟨BRep.sc hB 1 _ rfl, (Fr.up (by decide))⟩ (fun M3 ⟨hB4, hFA5⟩ => ?_)
      refine g_aload_n X dX3_undo_37 rfl 0 rfl ?_
      refine g_dup X dX3_undo_38 rfl ?_
      refine g_get X dX3_undo_39 (ci := 3) (k := 6) (v := .int ((wS w 1 ((w.2.2.2.2 1) - 1)).2.2.2.2 2)) rfl k160 (by decide) rfl (BRep.obj hB4) rfl ?_
      refine g_iconst (v := 1) X dX3_undo_42 (by decide) ?_
      refine g_isub X dX3_undo_43 ?_
      refine g_put X dX3_undo_44 (ci := 3) (k := 6) (ty := .int) rfl k160 (by decide) rfl rfl (by decide +kernel) rfl rfl (Nat.le_of_ble_eq_true rfl) (BRep.obj hB4) ?_
      refine g_gen (P := fun M9 => BRep κ.Γ A (wS (wS w 1 ((w.2.2.2.2 1) - 1)) 2 (((wS w 1 ((w.2.2.2.2 1) - 1)).2.2.2.2 2) - 1)) M9 ∧ Fr A 315 M M9) ⟨BRep.sc hB4 2 _ rfl, Fr.tr hFA5 (Fr.up (by decide))⟩ (fun M6 ⟨hB7, hFA8⟩ => ?_)
      refine g_aload_n X dX3_undo_47 rfl 0 rfl ?_
      refine g_get X dX3_undo_48 (ci := 3) (k := 0) (v := .ref (hA A 0 0)) rfl k154 (by decide) rfl (BRep.obj hB7) rfl ?_
      refine g_aload_n X dX3_undo_51 rfl 0 rfl ?_
      refine g_get X dX3_undo_52 (ci := 3) (k := 4) (v := .ref (A 314)) rfl k158 (by decide) rfl (BRep.obj hB7) rfl ?_
      refine g_aload_n X dX3_undo_55 rfl 0 rfl ?_
      refine g_get X dX3_undo_56 (ci := 3) (k := 5) (v := .int ((wS (wS w 1 ((w.2.2.2.2 1) - 1)) 2 (((wS w 1 ((w.2.2.2.2 1) - 1)).2.2.2.2 2) - 1)).2.2.2.2 1)) rfl k159 (by decide) rfl (BRep.obj hB7) rfl ?_
      have vn2 : vp_in ((wS (wS w 1 ((w.2.2.2.2 1) - 1)) 2 (((wS w 1 ((w.2.2.2.2 1) - 1)).2.2.2.2 2) - 1)).2.2.2.2 1) 8 := vn
      refine g_aaload (t0 := 4) (v := .ref (hA A (3 + cN ((wS (wS w 1 ((w.2.2.2.2 1) - 1)) 2 (((wS w 1 ((w.2.2.2.2 1) - 1)).2.2.2.2 2) - 1)).2.2.2.2 1)) 0)) X dX3_undo_59 (BRep.hist hB7) rfl rfl vn2 (rf_hist vn2) ?_
      refine g_callV (As := [.ref (hA A (3 + cN ((wS (wS w 1 ((w.2.2.2.2 1) - 1)) 2 (((wS w 1 ((w.2.2.2.2 1) - 1)).2.2.2.2 2) - 1)).2.2.2.2 1)) 0)]) (ci := 1) X dX3_undo_60 (c_X1_copyFrom κ.l hl κ.Γ M6 (hA A 0) (w.1 0) (hB7.1 0 (by decide)) (hA A (3 + cN ((wS (wS w 1 ((w.2.2.2.2 1) - 1)) 2 (((wS w 1 ((w.2.2.2.2 1) - 1)).2.2.2.2 2) - 1)).2.2.2.2 1))) ((wS (wS w 1 ((w.2.2.2.2 1) - 1)) 2 (((wS w 1 ((w.2.2.2.2 1) - 1)).2.2.2.2 2) - 1)).2.1 (cN ((wS (wS w 1 ((w.2.2.2.2 1) - 1)) 2 (((wS w 1 ((w.2.2.2.2 1) - 1)).2.2.2.2 2) - 1)).2.2.2.2 1))) (hB7.2.1 (cN ((wS (wS w 1 ((w.2.2.2.2 1) - 1)) 2 (((wS w 1 ((w.2.2.2.2 1) - 1)).2.2.2.2 2) - 1)).2.2.2.2 1)) (vin_lt vn2)) (BRep.dj hB7 (by have := (vin_lt vn2); omega) (by decide) (by omega))) k279 k280 k281 k2 k282 rfl (HRep.obj (hB7.1 0 (by decide))) ⟨rfl, by decide, by decide, (show (parseMethodDescriptor yX1_copyFrom.desc).map (fun d => d.parameters.length) = some 1 by decide +kernel)⟩ rfl (Nat.le_of_ble_eq_true rfl) (by rw [hRm]; decide) (by rw [hRm]; exact ⟨Nat.le_of_ble_eq_true rfl, Nat.le_of_ble_eq_true rfl⟩) (fun v8 M8 h8 => ?_) (fun _ _ h9 => by cases h9.1)
      obtain ⟨e8, hR8, hF8⟩ := h8
      cases e8
      have hB10 : BRep κ.Γ A (wH (wS (wS w 1 ((w.2.2.2.2 1) - 1)) 2 (((wS w 1 ((w.2.2.2.2 1) - 1)).2.2.2.2 2) - 1)) 0 ((wS (wS w 1 ((w.2.2.2.2 1) - 1)) 2 (((wS w 1 ((w.2.2.2.2 1) - 1)).2.2.2.2 2) - 1)).2.1 (cN ((wS (wS w 1 ((w.2.2.2.2 1) - 1)) 2 (((wS w 1 ((w.2.2.2.2 1) - 1)).2.2.2.2 2) - 1)).2.2.2.2 1)))) M8 := BRep.hs hB7 (by decide) hR8 hF8
      have hFA11 : Fr A 315 M M8 := Fr.tr hFA8 (Fr.hA (h := 0) hF8 (by decide))
      refine g_aload_n X dX3_undo_63 rfl 0 rfl ?_
      refine g_get X dX3_undo_64 (ci := 3) (k := 6) (v := .int ((wH (wS (wS w 1 ((w.2.2.2.2 1) - 1)) 2 (((wS w 1 ((w.2.2.2.2 1) - 1)).2.2.2.2 2) - 1)) 0 ((wS (wS w 1 ((w.2.2.2.2 1) - 1)) 2 (((wS w 1 ((w.2.2.2.2 1) - 1)).2.2.2.2 2) - 1)).2.1 (cN ((wS (wS w 1 ((w.2.2.2.2 1) - 1)) 2 (((wS w 1 ((w.2.2.2.2 1) - 1)).2.2.2.2 2) - 1)).2.2.2.2 1)))).2.2.2.2 2)) rfl k160 (by decide) rfl (BRep.obj hB10) rfl ?_
      exact g_iret X F dX3_undo_67 (Nat.le_of_ble_eq_true rfl) (Nat.le_of_ble_eq_true rfl) (by unfold pUndo wUndo; rw [pG_y c1, qn]; exact ⟨rfl, hB10, hFA11⟩)
    · refine g_bipush (v := 7) X dX3_undo_23 (by decide) ?_
      refine g_goto (tgt := 34) X dX3_undo_25 (by decide) ?_
      have qn : nxU (w.2.2.2.2 1) = 7 := if_pos c2
      have vn : vp_in (7) 8 := vin_lit (by decide +kernel)
      refine g_put X dX3_undo_34 (ci := 3) (k := 5) (ty := .int) rfl k159 (by decide) rfl rfl (by decide +kernel) rfl rfl (Nat.le_of_ble_eq_true rfl) (BRep.obj hB) ?_
      refine g_gen (P := fun M9 => BRep κ.Γ A (wS w 1 7) M9 ∧ Fr A 315 M M9) ⟨BRep.sc hB 1 _ rfl, (Fr.up (by decide))⟩ (fun M12 ⟨hB13, hFA14⟩ => ?_)
      refine g_aload_n X dX3_undo_37 rfl 0 rfl ?_
      refine g_dup X dX3_undo_38 rfl ?_
      refine g_get X dX3_undo_39 (ci := 3) (k := 6) (v := .int ((wS w 1 7).2.2.2.2 2)) rfl k160 (by decide) rfl (BRep.obj hB13) rfl ?_
      refine g_iconst (v := 1) X dX3_undo_42 (by decide) ?_
      refine g_isub X dX3_undo_43 ?_
      refine g_put X dX3_undo_44 (ci := 3) (k := 6) (ty := .int) rfl k160 (by decide) rfl rfl (by decide +kernel) rfl rfl (Nat.le_of_ble_eq_true rfl) (BRep.obj hB13) ?_
      refine g_gen (P := fun M9 => BRep κ.Γ A (wS (wS w 1 7) 2 (((wS w 1 7).2.2.2.2 2) - 1)) M9 ∧ Fr A 315 M M9) ⟨BRep.sc hB13 2 _ rfl, Fr.tr hFA14 (Fr.up (by decide))⟩ (fun M15 ⟨hB16, hFA17⟩ => ?_)
      refine g_aload_n X dX3_undo_47 rfl 0 rfl ?_
      refine g_get X dX3_undo_48 (ci := 3) (k := 0) (v := .ref (hA A 0 0)) rfl k154 (by decide) rfl (BRep.obj hB16) rfl ?_
      refine g_aload_n X dX3_undo_51 rfl 0 rfl ?_
      refine g_get X dX3_undo_52 (ci := 3) (k := 4) (v := .ref (A 314)) rfl k158 (by decide) rfl (BRep.obj hB16) rfl ?_
      refine g_aload_n X dX3_undo_55 rfl 0 rfl ?_
      refine g_get X dX3_undo_56 (ci := 3) (k := 5) (v := .int ((wS (wS w 1 7) 2 (((wS w 1 7).2.2.2.2 2) - 1)).2.2.2.2 1)) rfl k159 (by decide) rfl (BRep.obj hB16) rfl ?_
      have vn2 : vp_in ((wS (wS w 1 7) 2 (((wS w 1 7).2.2.2.2 2) - 1)).2.2.2.2 1) 8 := vn
      refine g_aaload (t0 := 4) (v := .ref (hA A (3 + cN ((wS (wS w 1 7) 2 (((wS w 1 7).2.2.2.2 2) - 1)).2.2.2.2 1)) 0)) X dX3_undo_59 (BRep.hist hB16) rfl rfl vn2 (rf_hist vn2) ?_
      refine g_callV (As := [.ref (hA A (3 + cN ((wS (wS w 1 7) 2 (((wS w 1 7).2.2.2.2 2) - 1)).2.2.2.2 1)) 0)]) (ci := 1) X dX3_undo_60 (c_X1_copyFrom κ.l hl κ.Γ M15 (hA A 0) (w.1 0) (hB16.1 0 (by decide)) (hA A (3 + cN ((wS (wS w 1 7) 2 (((wS w 1 7).2.2.2.2 2) - 1)).2.2.2.2 1))) ((wS (wS w 1 7) 2 (((wS w 1 7).2.2.2.2 2) - 1)).2.1 (cN ((wS (wS w 1 7) 2 (((wS w 1 7).2.2.2.2 2) - 1)).2.2.2.2 1))) (hB16.2.1 (cN ((wS (wS w 1 7) 2 (((wS w 1 7).2.2.2.2 2) - 1)).2.2.2.2 1)) (vin_lt vn2)) (BRep.dj hB16 (by have := (vin_lt vn2); omega) (by decide) (by omega))) k279 k280 k281 k2 k282 rfl (HRep.obj (hB16.1 0 (by decide))) ⟨rfl, by decide, by decide, (show (parseMethodDescriptor yX1_copyFrom.desc).map (fun d => d.parameters.length) = some 1 by decide +kernel)⟩ rfl (Nat.le_of_ble_eq_true rfl) (by rw [hRm]; decide) (by rw [hRm]; exact ⟨Nat.le_of_ble_eq_true rfl, Nat.le_of_ble_eq_true rfl⟩) (fun v17 M17 h17 => ?_) (fun _ _ h9 => by cases h9.1)
      obtain ⟨e17, hR17, hF17⟩ := h17
      cases e17
      have hB19 : BRep κ.Γ A (wH (wS (wS w 1 7) 2 (((wS w 1 7).2.2.2.2 2) - 1)) 0 ((wS (wS w 1 7) 2 (((wS w 1 7).2.2.2.2 2) - 1)).2.1 (cN ((wS (wS w 1 7) 2 (((wS w 1 7).2.2.2.2 2) - 1)).2.2.2.2 1)))) M17 := BRep.hs hB16 (by decide) hR17 hF17
      have hFA20 : Fr A 315 M M17 := Fr.tr hFA17 (Fr.hA (h := 0) hF17 (by decide))
      refine g_aload_n X dX3_undo_63 rfl 0 rfl ?_
      refine g_get X dX3_undo_64 (ci := 3) (k := 6) (v := .int ((wH (wS (wS w 1 7) 2 (((wS w 1 7).2.2.2.2 2) - 1)) 0 ((wS (wS w 1 7) 2 (((wS w 1 7).2.2.2.2 2) - 1)).2.1 (cN ((wS (wS w 1 7) 2 (((wS w 1 7).2.2.2.2 2) - 1)).2.2.2.2 1)))).2.2.2.2 2)) rfl k160 (by decide) rfl (BRep.obj hB19) rfl ?_
      exact g_iret X F dX3_undo_67 (Nat.le_of_ble_eq_true rfl) (Nat.le_of_ble_eq_true rfl) (by unfold pUndo wUndo; rw [pG_y c1, qn]; exact ⟨rfl, hB19, hFA20⟩)
  · exact g_throw X F (ik := 232) (ic := 234) (cls := "java/lang/IllegalStateException") dX3_undo_7 dX3_undo_10 dX3_undo_11 dX3_undo_14 (by decide +kernel) (by rw [hRm]; decide) (by rw [hRm]; exact Nat.le_of_ble_eq_true rfl) (by rw [hRm]; exact Nat.le_of_ble_eq_true rfl) (by rw [hRm]; exact Nat.le_of_ble_eq_true rfl) (Nat.le_of_ble_eq_true rfl) (Nat.le_of_ble_eq_true rfl) (by unfold pUndo; rw [pG_n (fun z => z c1)]; exact ⟨rfl, hB, Fr.rf⟩)
set_option maxRecDepth 100000 in
set_option maxHeartbeats 4000000 in
theorem c_X3_save (l : Launch) (hl : l.stackTraces = false) (Γ : Gm) (M : Hp) (A : Nat → Nat) (w : PV) (hB : BRep Γ A w M) (hI : BInv w) : Ct l Γ yX3_save cX3_save 1 (some .int) 1 3 18 [.ref (A 313)] M (BMu Γ A (pSave w) M) := by
  refine Ct.of hl (by decide) (Nat.le_of_ble_eq_true rfl) rfl ?_
  intro κ e1 e2 hnL hRm X F hlt
  subst e1 e2
  refine g_aload_n X dX3_save_0 rfl 0 rfl ?_
  refine g_get X dX3_save_1 (ci := 3) (k := 2) (v := .ref (hA A 2 0)) rfl k156 (by decide) rfl (BRep.obj hB) rfl ?_
  refine g_aload_n X dX3_save_4 rfl 0 rfl ?_
  refine g_get X dX3_save_5 (ci := 3) (k := 0) (v := .ref (hA A 0 0)) rfl k154 (by decide) rfl (BRep.obj hB) rfl ?_
  refine g_callV (As := [.ref (hA A 0 0)]) (ci := 1) X dX3_save_8 (c_X1_copyFrom κ.l hl κ.Γ M (hA A 2) (w.1 2) (hB.1 2 (by decide)) (hA A 0) (w.1 0) (hB.1 0 (by decide)) (BRep.dj hB (by decide) (by decide) (by decide))) k279 k280 k281 k2 k282 rfl (HRep.obj (hB.1 2 (by decide))) ⟨rfl, by decide, by decide, (show (parseMethodDescriptor yX1_copyFrom.desc).map (fun d => d.parameters.length) = some 1 by decide +kernel)⟩ rfl (Nat.le_of_ble_eq_true rfl) (by rw [hRm]; decide) (by rw [hRm]; exact ⟨Nat.le_of_ble_eq_true rfl, Nat.le_of_ble_eq_true rfl⟩) (fun v0 M0 h0 => ?_) (fun _ _ h9 => by cases h9.1)
  obtain ⟨e0, hR0, hF0⟩ := h0
  cases e0
  have hB2 : BRep κ.Γ A (wH w 2 (w.1 0)) M0 := BRep.hs hB (by decide) hR0 hF0
  have hFA3 : Fr A 315 M M0 := Fr.hA (h := 2) hF0 (by decide)
  refine g_aload_n X dX3_save_11 rfl 0 rfl ?_
  refine g_iconst (v := 1) X dX3_save_12 (by decide) ?_
  refine g_put X dX3_save_13 (ci := 3) (k := 3) (ty := .boolean) rfl k157 (by decide) rfl rfl (by decide +kernel) rfl rfl (Nat.le_of_ble_eq_true rfl) (BRep.obj hB2) ?_
  refine g_gen (P := fun M9 => BRep κ.Γ A (wS (wH w 2 (w.1 0)) 0 1) M9 ∧ Fr A 315 M M9) ⟨BRep.sc hB2 0 _ rfl, Fr.tr hFA3 (Fr.up (by decide))⟩ (fun M4 ⟨hB5, hFA6⟩ => ?_)
  refine g_aload_n X dX3_save_16 rfl 0 rfl ?_
  refine g_get X dX3_save_17 (ci := 3) (k := 0) (v := .ref (hA A 0 0)) rfl k154 (by decide) rfl (BRep.obj hB5) rfl ?_
  refine g_getN X dX3_save_20 (ci := 1) (k := 5) (v := .int ((w.1 0).1 3)) rfl k53 (by decide) rfl (HRep.obj (hB5.1 0 (by decide))) rfl ?_
  exact g_iret X F dX3_save_23 (Nat.le_of_ble_eq_true rfl) (Nat.le_of_ble_eq_true rfl) (by unfold pSave; exact ⟨rfl, hB5, hFA6⟩)
set_option maxRecDepth 100000 in
set_option maxHeartbeats 4000000 in
theorem c_X3_restore (l : Launch) (hl : l.stackTraces = false) (Γ : Gm) (M : Hp) (A : Nat → Nat) (w : PV) (hB : BRep Γ A w M) (hI : BInv w) : Ct l Γ yX3_restore cX3_restore 1 (some .int) 1 3 18 [.ref (A 313)] M (BMu Γ A (pRestore w) M) := by
  refine Ct.of hl (by decide) (Nat.le_of_ble_eq_true rfl) rfl ?_
  intro κ e1 e2 hnL hRm X F hlt
  subst e1 e2
  refine g_aload_n X dX3_restore_0 rfl 0 rfl ?_
  refine g_get X dX3_restore_1 (ci := 3) (k := 3) (v := .int (w.2.2.2.2 0)) rfl k157 (by decide) rfl (BRep.obj hB) rfl ?_
  refine g_if_ne (tgt := 15) X dX3_restore_4 (by decide) (fun c1 => ?_) (fun c1 => ?_)
  · refine g_aload_n X dX3_restore_15 rfl 0 rfl ?_
    refine g_get X dX3_restore_16 (ci := 3) (k := 0) (v := .ref (hA A 0 0)) rfl k154 (by decide) rfl (BRep.obj hB) rfl ?_
    refine g_aload_n X dX3_restore_19 rfl 0 rfl ?_
    refine g_get X dX3_restore_20 (ci := 3) (k := 2) (v := .ref (hA A 2 0)) rfl k156 (by decide) rfl (BRep.obj hB) rfl ?_
    refine g_callV (As := [.ref (hA A 2 0)]) (ci := 1) X dX3_restore_23 (c_X1_copyFrom κ.l hl κ.Γ M (hA A 0) (w.1 0) (hB.1 0 (by decide)) (hA A 2) (w.1 2) (hB.1 2 (by decide)) (BRep.dj hB (by decide) (by decide) (by decide))) k279 k280 k281 k2 k282 rfl (HRep.obj (hB.1 0 (by decide))) ⟨rfl, by decide, by decide, (show (parseMethodDescriptor yX1_copyFrom.desc).map (fun d => d.parameters.length) = some 1 by decide +kernel)⟩ rfl (Nat.le_of_ble_eq_true rfl) (by rw [hRm]; decide) (by rw [hRm]; exact ⟨Nat.le_of_ble_eq_true rfl, Nat.le_of_ble_eq_true rfl⟩) (fun v1 M1 h1 => ?_) (fun _ _ h9 => by cases h9.1)
    obtain ⟨e1, hR1, hF1⟩ := h1
    cases e1
    have hB3 : BRep κ.Γ A (wH w 0 (w.1 2)) M1 := BRep.hs hB (by decide) hR1 hF1
    have hFA4 : Fr A 315 M M1 := Fr.hA (h := 0) hF1 (by decide)
    refine g_aload_n X dX3_restore_26 rfl 0 rfl ?_
    refine g_iconst (v := 0) X dX3_restore_27 (by decide) ?_
    refine g_put X dX3_restore_28 (ci := 3) (k := 6) (ty := .int) rfl k160 (by decide) rfl rfl (by decide +kernel) rfl rfl (Nat.le_of_ble_eq_true rfl) (BRep.obj hB3) ?_
    refine g_gen (P := fun M9 => BRep κ.Γ A (wS (wH w 0 (w.1 2)) 2 0) M9 ∧ Fr A 315 M M9) ⟨BRep.sc hB3 2 _ rfl, Fr.tr hFA4 (Fr.up (by decide))⟩ (fun M5 ⟨hB6, hFA7⟩ => ?_)
    refine g_aload_n X dX3_restore_31 rfl 0 rfl ?_
    refine g_get X dX3_restore_32 (ci := 3) (k := 0) (v := .ref (hA A 0 0)) rfl k154 (by decide) rfl (BRep.obj hB6) rfl ?_
    refine g_getN X dX3_restore_35 (ci := 1) (k := 5) (v := .int ((w.1 2).1 3)) rfl k53 (by decide) rfl (HRep.obj (hB6.1 0 (by decide))) rfl ?_
    exact g_iret X F dX3_restore_38 (Nat.le_of_ble_eq_true rfl) (Nat.le_of_ble_eq_true rfl) (by unfold pRestore; rw [pG_y c1]; exact ⟨rfl, hB6, hFA7⟩)
  · exact g_throw X F (ik := 232) (ic := 234) (cls := "java/lang/IllegalStateException") dX3_restore_7 dX3_restore_10 dX3_restore_11 dX3_restore_14 (by decide +kernel) (by rw [hRm]; decide) (by rw [hRm]; exact Nat.le_of_ble_eq_true rfl) (by rw [hRm]; exact Nat.le_of_ble_eq_true rfl) (by rw [hRm]; exact Nat.le_of_ble_eq_true rfl) (Nat.le_of_ble_eq_true rfl) (Nat.le_of_ble_eq_true rfl) (by unfold pRestore; rw [pG_n (fun z => z c1)]; exact ⟨rfl, hB, Fr.rf⟩)
set_option maxRecDepth 100000 in
set_option maxHeartbeats 4000000 in
theorem c_X3_append (l : Launch) (hl : l.stackTraces = false) (Γ : Gm) (M : Hp) (A : Nat → Nat) (w : PV) (hB : BRep Γ A w M) (hI : BInv w) (c : Int32) : Ct l Γ yX3_append cX3_append 2 (some .int) 1 3 18 [.ref (A 313), .int c] M (BMu Γ A (pAppend w c) M) := by
  refine Ct.of hl (by decide) (Nat.le_of_ble_eq_true rfl) rfl ?_
  intro κ e1 e2 hnL hRm X F hlt
  subst e1 e2
  refine g_iload_n X dX3_append_0 rfl 1 rfl ?_
  refine g_bipush (v := 32) X dX3_append_1 (by decide) ?_
  refine g_icmp_lt (tgt := 12) X dX3_append_3 (by decide) (fun c1 => ?_) (fun c1 => ?_)
  · exact g_throw X F (ik := 229) (ic := 231) (cls := "java/lang/IllegalArgumentException") dX3_append_12 dX3_append_15 dX3_append_16 dX3_append_19 (by decide +kernel) (by rw [hRm]; decide) (by rw [hRm]; exact Nat.le_of_ble_eq_true rfl) (by rw [hRm]; exact Nat.le_of_ble_eq_true rfl) (by rw [hRm]; exact Nat.le_of_ble_eq_true rfl) (Nat.le_of_ble_eq_true rfl) (Nat.le_of_ble_eq_true rfl) (by unfold pAppend; rw [pG_n (fun z => by first | exact absurd z.1 (Int32.not_le.mpr c1) | exact absurd z.2 (Int32.not_le.mpr c1) | exact absurd z.2 c1)]; exact ⟨rfl, hB, Fr.rf⟩)
  · refine g_iload_n X dX3_append_6 rfl 1 rfl ?_
    refine g_bipush (v := 126) X dX3_append_7 (by decide) ?_
    refine g_icmp_le (tgt := 20) X dX3_append_9 (by decide) (fun c2 => ?_) (fun c2 => ?_)
    · have g3 : 32 ≤ c ∧ c ≤ 126 := ⟨Int32.not_lt.mp c1, by first | exact c2 | exact Int32.not_lt.mp c2⟩
      refine g_aload_n X dX3_append_20 rfl 0 rfl ?_
      refine g_get X dX3_append_21 (ci := 3) (k := 7) (v := .ref (tA A 0)) rfl k161 (by decide) rfl (BRep.obj hB) rfl ?_
      refine g_callV_rd (As := []) (ci := 0) (v := some (.int (bI (60 ≤ w.2.2.1.1 0)))) X dX3_append_24 (c_X0_isFull κ.l hl κ.Γ M (tA A) w.2.2.1 hB.2.2.1 hI.2.2.1) k852 k853 k854 k3 k855 rfl (TRep.obj hB.2.2.1) ⟨rfl, by decide, by decide, (show (parseMethodDescriptor yX0_isFull.desc).map (fun d => d.parameters.length) = some 0 by decide +kernel)⟩ rfl (Nat.le_of_ble_eq_true rfl) (by rw [hRm]; decide) (by rw [hRm]; exact ⟨Nat.le_of_ble_eq_true rfl, Nat.le_of_ble_eq_true rfl⟩) ?_
      refine g_ifb_eq (tgt := 38) X dX3_append_27 (by decide) (fun c4 => ?_) (fun c4 => ?_)
      · have vm := hI.2.2.1.pos c4
        refine g_aload_n X dX3_append_38 rfl 0 rfl ?_
        refine g_get X dX3_append_39 (ci := 3) (k := 7) (v := .ref (tA A 0)) rfl k161 (by decide) rfl (BRep.obj hB) rfl ?_
        refine g_iload_n X dX3_append_42 rfl 1 rfl ?_
        refine g_callV (As := [.int c]) (ci := 0) X dX3_append_43 (c_X0_put κ.l hl κ.Γ M (tA A) w.2.2.1 hB.2.2.1 vm c (isCh_of g3)) k856 k857 k858 k3 k859 rfl (TRep.obj hB.2.2.1) ⟨rfl, by decide, by decide, (show (parseMethodDescriptor yX0_put.desc).map (fun d => d.parameters.length) = some 1 by decide +kernel)⟩ rfl (Nat.le_of_ble_eq_true rfl) (by rw [hRm]; decide) (by rw [hRm]; exact ⟨Nat.le_of_ble_eq_true rfl, Nat.le_of_ble_eq_true rfl⟩) (fun v4 M4 h4 => ?_) (fun _ _ h9 => by cases h9.1)
        obtain ⟨e4, hR4, hF4⟩ := h4
        cases e4
        have hB6 : BRep κ.Γ A (wT w (tPutS w.2.2.1 c)) M4 := BRep.tx hB hR4 hF4
        have hFA7 : Fr A 315 M M4 := Fr.tA hF4
        exact g_iret X F dX3_append_46 (Nat.le_of_ble_eq_true rfl) (Nat.le_of_ble_eq_true rfl) (by unfold pAppend; rw [pG_y g3, pG_y c4]; exact ⟨rfl, hB6, hFA7⟩)
      · exact g_throw X F (ik := 232) (ic := 234) (cls := "java/lang/IllegalStateException") dX3_append_30 dX3_append_33 dX3_append_34 dX3_append_37 (by decide +kernel) (by rw [hRm]; decide) (by rw [hRm]; exact Nat.le_of_ble_eq_true rfl) (by rw [hRm]; exact Nat.le_of_ble_eq_true rfl) (by rw [hRm]; exact Nat.le_of_ble_eq_true rfl) (Nat.le_of_ble_eq_true rfl) (Nat.le_of_ble_eq_true rfl) (by unfold pAppend; rw [pG_y g3, pG_n (fun z => z c4)]; exact ⟨rfl, hB, Fr.rf⟩)
    · exact g_throw X F (ik := 229) (ic := 231) (cls := "java/lang/IllegalArgumentException") dX3_append_12 dX3_append_15 dX3_append_16 dX3_append_19 (by decide +kernel) (by rw [hRm]; decide) (by rw [hRm]; exact Nat.le_of_ble_eq_true rfl) (by rw [hRm]; exact Nat.le_of_ble_eq_true rfl) (by rw [hRm]; exact Nat.le_of_ble_eq_true rfl) (Nat.le_of_ble_eq_true rfl) (Nat.le_of_ble_eq_true rfl) (by unfold pAppend; rw [pG_n (fun z => by first | exact absurd z.1 (Int32.not_le.mpr c2) | exact absurd z.2 (Int32.not_le.mpr c2) | exact absurd z.2 c2)]; exact ⟨rfl, hB, Fr.rf⟩)
set_option maxRecDepth 100000 in
set_option maxHeartbeats 4000000 in
theorem c_X3_runByClauses (l : Launch) (hl : l.stackTraces = false) (Γ : Gm) (M : Hp) (x : Int64) : Ct l Γ yX3_runByClauses cX3_runByClauses 5 (some .int) 0 0 0 [.long x] M (Rd (some (.int (runM x 64))) M) := by
  refine Ct.of hl (by decide) (Nat.le_of_ble_eq_true rfl) rfl ?_
  intro κ e1 e2 hnL hRm X F hlt
  subst e1 e2
  refine g_iconst (v := 0) X dX3_runByClauses_0 (by decide) ?_
  refine g_istore_n (L' := [(2, .int 0), (0, .long x)]) X dX3_runByClauses_1 rfl (by rw [hnL]; decide) rfl ?_
  refine g_iconst (v := 0) X dX3_runByClauses_2 (by decide) ?_
  refine g_istore_n (L' := [(3, .int 0), (2, .int 0), (0, .long x)]) X dX3_runByClauses_3 rfl (by rw [hnL]; decide) rfl ?_
  refine g_iconst (v := 0) X dX3_runByClauses_4 (by decide) ?_
  refine g_istore (L' := [(4, .int 0), (3, .int 0), (2, .int 0), (0, .long x)]) X dX3_runByClauses_5 (by rw [hnL]; decide) rfl ?_
  have lp : ∀ n i : Nat, 64 - i < n → i ≤ 64 → G κ M 0 0 [(2, .int (runM x i)), (3, .int (runL x i)), (4, .int (nI i)), (0, .long x)] 7 [] := by
    intro n
    induction n with
    | zero => intro i h1 _; exact absurd h1 (Nat.not_lt_zero _)
    | succ n ih =>
      intro i hi1 hi2
      refine g_iload X dX3_runByClauses_7 2 rfl ?_
      refine g_bipush (v := 64) X dX3_runByClauses_9 (by decide) ?_
      refine g_icmp_ge (tgt := 45) X dX3_runByClauses_11 (by decide) (fun c1 => ?_) (fun c1 => ?_)
      · have heq9 : i = 64 := eq_of_ge (N := 64) (by decide) (by omega) c1
        subst heq9
        refine g_iload_n X dX3_runByClauses_45 rfl 0 rfl ?_
        exact g_iret X F dX3_runByClauses_46 (by omega) (by omega) ⟨rfl, rfl⟩
      · have hlt9 : i < 64 := lt_of_nge (N := 64) (by decide) (by omega) c1
        refine g_lload_n X dX3_runByClauses_14 rfl 3 rfl ?_
        refine g_iload X dX3_runByClauses_15 2 rfl ?_
        refine g_lushr X dX3_runByClauses_17 ?_
        refine g_lconst (v := 1) X dX3_runByClauses_18 rfl ?_
        refine g_land X dX3_runByClauses_19 ?_
        refine g_lconst (v := 0) X dX3_runByClauses_20 rfl ?_
        refine g_lcmp X dX3_runByClauses_21 ?_
        refine g_if_eq (tgt := 31) X dX3_runByClauses_22 (by decide) (fun c2 => ?_) (fun c2 => ?_)
        · refine g_iconst (v := 0) X dX3_runByClauses_31 (by decide) ?_
          refine g_istore_n (L' := [(3, .int 0), (2, .int (runM x i)), (4, .int (nI i)), (0, .long x)]) X dX3_runByClauses_32 rfl (by rw [hnL]; decide) rfl ?_
          refine g_iload_n X dX3_runByClauses_33 rfl 1 rfl ?_
          refine g_iload_n X dX3_runByClauses_34 rfl 0 rfl ?_
          refine g_max X dX3_runByClauses_35 k269 (by rw [hRm]; decide) (by rw [hRm]; exact Nat.le_of_ble_eq_true rfl) (by rw [hRm]; exact Nat.le_of_ble_eq_true rfl) (by rw [hRm]; exact Nat.le_of_ble_eq_true rfl) ?_
          refine g_istore_n (L' := [(2, .int (if runM x i < 0 then 0 else runM x i)), (3, .int 0), (4, .int (nI i)), (0, .long x)]) X dX3_runByClauses_38 rfl (by rw [hnL]; decide) rfl ?_
          refine g_iinc (k := 2) (v := (nI (i + 1))) (L' := [(4, .int (nI (i + 1))), (2, .int (if runM x i < 0 then 0 else runM x i)), (3, .int 0), (0, .long x)]) X dX3_runByClauses_39 rfl (nI_1 _) (by rw [hnL]; decide) rfl ?_
          refine g_goto (tgt := 7) X dX3_runByClauses_42 (by decide) ?_
          refine g_locs [1, 2, 0, 3] (L' := [(2, .int (if runM x i < 0 then 0 else runM x i)), (3, .int (0)), (4, .int (nI (i + 1))), (0, .long x)]) rfl ?_
          have q := ih (i + 1) (by omega) (by omega)
          rw [show runM x (i + 1) = (if runM x i < runL x (i + 1) then runL x (i + 1) else runM x i) from rfl, show runL x (i + 1) = 0 from if_pos c2] at q
          exact q
        · refine g_iload_n X dX3_runByClauses_25 rfl 1 rfl ?_
          refine g_iconst (v := 1) X dX3_runByClauses_26 (by decide) ?_
          refine g_iadd X dX3_runByClauses_27 ?_
          refine g_goto (tgt := 32) X dX3_runByClauses_28 (by decide) ?_
          refine g_istore_n (L' := [(3, .int ((runL x i) + 1)), (2, .int (runM x i)), (4, .int (nI i)), (0, .long x)]) X dX3_runByClauses_32 rfl (by rw [hnL]; decide) rfl ?_
          refine g_iload_n X dX3_runByClauses_33 rfl 1 rfl ?_
          refine g_iload_n X dX3_runByClauses_34 rfl 0 rfl ?_
          refine g_max X dX3_runByClauses_35 k269 (by rw [hRm]; decide) (by rw [hRm]; exact Nat.le_of_ble_eq_true rfl) (by rw [hRm]; exact Nat.le_of_ble_eq_true rfl) (by rw [hRm]; exact Nat.le_of_ble_eq_true rfl) ?_
          refine g_istore_n (L' := [(2, .int (if runM x i < (runL x i) + 1 then (runL x i) + 1 else runM x i)), (3, .int ((runL x i) + 1)), (4, .int (nI i)), (0, .long x)]) X dX3_runByClauses_38 rfl (by rw [hnL]; decide) rfl ?_
          refine g_iinc (k := 2) (v := (nI (i + 1))) (L' := [(4, .int (nI (i + 1))), (2, .int (if runM x i < (runL x i) + 1 then (runL x i) + 1 else runM x i)), (3, .int ((runL x i) + 1)), (0, .long x)]) X dX3_runByClauses_39 rfl (nI_1 _) (by rw [hnL]; decide) rfl ?_
          refine g_goto (tgt := 7) X dX3_runByClauses_42 (by decide) ?_
          refine g_locs [1, 2, 0, 3] (L' := [(2, .int (if runM x i < (runL x i) + 1 then (runL x i) + 1 else runM x i)), (3, .int ((runL x i) + 1)), (4, .int (nI (i + 1))), (0, .long x)]) rfl ?_
          have q := ih (i + 1) (by omega) (by omega)
          rw [show runM x (i + 1) = (if runM x i < runL x (i + 1) then runL x (i + 1) else runM x i) from rfl, show runL x (i + 1) = (runL x i) + 1 from if_neg c2] at q
          exact q
  refine g_locs [2, 1, 0, 3] (L' := [(2, .int (runM x 0)), (3, .int (runL x 0)), (4, .int (nI 0)), (0, .long x)]) rfl ?_
  exact lp 65 0 (by omega) (by omega)
set_option maxRecDepth 100000 in
set_option maxHeartbeats 4000000 in
theorem c_X3_runByShifts (l : Launch) (hl : l.stackTraces = false) (Γ : Gm) (M : Hp) (x : Int64) : Ct l Γ yX3_runByShifts cX3_runByShifts 5 (some .int) 0 0 0 [.long x] M (Rd (some (.int (runF x 64 0))) M) := by
  refine Ct.of hl (by decide) (Nat.le_of_ble_eq_true rfl) rfl ?_
  intro κ e1 e2 hnL hRm X F hlt
  subst e1 e2
  refine g_lload_n X dX3_runByShifts_0 rfl 0 rfl ?_
  refine g_lstore_n (L' := [(2, .long x), (0, .long x)]) X dX3_runByShifts_1 rfl (by rw [hnL]; decide) rfl ?_
  refine g_iconst (v := 0) X dX3_runByShifts_2 (by decide) ?_
  refine g_istore (L' := [(4, .int 0), (2, .long x), (0, .long x)]) X dX3_runByShifts_3 (by rw [hnL]; decide) rfl ?_
  have lp : ∀ k n : Nat, k + n = 64 → runF x k n = runF x 64 0 → G κ M 0 0 [(2, .long (sft x n)), (4, .int (nI n)), (0, .long x)] 5 [] := by
    intro k
    induction k with
    | zero =>
      intro n hn hX
      refine g_lload_n X dX3_runByShifts_5 rfl 0 rfl ?_
      refine g_lconst (v := 0) X dX3_runByShifts_6 rfl ?_
      refine g_lcmp X dX3_runByShifts_7 ?_
      refine g_if_eq (tgt := 30) X dX3_runByShifts_8 (by decide) (fun c1 => ?_) (fun c1 => ?_)
      · refine g_iload X dX3_runByShifts_30 1 rfl ?_
        exact g_iret X F dX3_runByShifts_32 (by omega) (by omega) ⟨by rw [← hX]; rfl, rfl⟩
      · refine g_iload X dX3_runByShifts_11 1 rfl ?_
        refine g_bipush (v := 64) X dX3_runByShifts_13 (by decide) ?_
        refine g_icmp_ge (tgt := 30) X dX3_runByShifts_15 (by decide) (fun c2 => ?_) (fun c2 => ?_)
        · refine g_iload X dX3_runByShifts_30 1 rfl ?_
          exact g_iret X F dX3_runByShifts_32 (by omega) (by omega) ⟨by rw [← hX]; rfl, rfl⟩
        · exfalso; have e : n = 64 := by omega
          rw [e] at c2; exact c2 (by decide)
    | succ k ih =>
      intro n hn hX
      refine g_lload_n X dX3_runByShifts_5 rfl 0 rfl ?_
      refine g_lconst (v := 0) X dX3_runByShifts_6 rfl ?_
      refine g_lcmp X dX3_runByShifts_7 ?_
      refine g_if_eq (tgt := 30) X dX3_runByShifts_8 (by decide) (fun c3 => ?_) (fun c3 => ?_)
      · refine g_iload X dX3_runByShifts_30 1 rfl ?_
        exact g_iret X F dX3_runByShifts_32 (by omega) (by omega) ⟨by rw [← hX, show runF x (k + 1) n = nI n from if_pos c3], rfl⟩
      · refine g_iload X dX3_runByShifts_11 1 rfl ?_
        refine g_bipush (v := 64) X dX3_runByShifts_13 (by decide) ?_
        refine g_icmp_ge (tgt := 30) X dX3_runByShifts_15 (by decide) (fun c4 => ?_) (fun c4 => ?_)
        · refine g_iload X dX3_runByShifts_30 1 rfl ?_
          exfalso; have h9 := (nI_leJ (a := 64) (b := n) (by decide) (by omega)).mp c4; omega
        · refine g_lload_n X dX3_runByShifts_18 rfl 0 rfl ?_
          refine g_lload_n X dX3_runByShifts_19 rfl 0 rfl ?_
          refine g_iconst (v := 1) X dX3_runByShifts_20 (by decide) ?_
          refine g_lshl X dX3_runByShifts_21 ?_
          refine g_land X dX3_runByShifts_22 ?_
          refine g_lstore_n (L' := [(2, .long ((sft x n) &&& (lsl (sft x n) 1))), (4, .int (nI n)), (0, .long x)]) X dX3_runByShifts_23 rfl (by rw [hnL]; decide) rfl ?_
          refine g_iinc (k := 1) (v := (nI (n + 1))) (L' := [(4, .int (nI (n + 1))), (2, .long ((sft x n) &&& (lsl (sft x n) 1))), (0, .long x)]) X dX3_runByShifts_24 rfl (nI_1 _) (by rw [hnL]; decide) rfl ?_
          refine g_goto (tgt := 5) X dX3_runByShifts_27 (by decide) ?_
          refine g_locs [1, 0, 2] (L' := [(2, .long (sft x (n + 1))), (4, .int (nI (n + 1))), (0, .long x)]) rfl ?_
          exact ih (n + 1) (by omega) (by rw [← hX]; exact (if_neg c3).symm)
  refine g_locs [1, 0, 2] (L' := [(2, .long (sft x 0)), (4, .int (nI 0)), (0, .long x)]) rfl ?_
  exact lp 64 0 rfl rfl
set_option maxRecDepth 100000 in
set_option maxHeartbeats 4000000 in
theorem c_X3_longestRun (l : Launch) (hl : l.stackTraces = false) (Γ : Gm) (M : Hp) (A : Nat → Nat) (w : PV) (hB : BRep Γ A w M) (hI : BInv w) (b : Int32) : Ct l Γ yX3_longestRun cX3_longestRun 2 (some .int) 2 3 18 [.ref (A 313), .int b] M (BMu Γ A (pLongestRun w b) M) := by
  refine Ct.of hl (by decide) (Nat.le_of_ble_eq_true rfl) rfl ?_
  intro κ e1 e2 hnL hRm X F hlt
  subst e1 e2
  refine g_aload_n X dX3_longestRun_0 rfl 0 rfl ?_
  refine g_iload_n X dX3_longestRun_1 rfl 1 rfl ?_
  refine g_gateV (As := [.int b]) (ci := 3) (ok := hasB (w.1 0) b) (e := eIdx) X dX3_longestRun_2 (c_X3_requireBill κ.l hl κ.Γ M A w hB hI b) k588 k590 kp5 k1 k591 rfl (BRep.obj hB) ⟨rfl, by decide, by decide, (show (parseMethodDescriptor yX3_requireBill.desc).map (fun d => d.parameters.length) = some 1 by decide +kernel)⟩ rfl (Nat.le_of_ble_eq_true rfl) (by rw [hRm]; decide) (by rw [hRm]; exact ⟨Nat.le_of_ble_eq_true rfl, Nat.le_of_ble_eq_true rfl⟩) (fun g1 => ?_) (fun E7 M7 h7 => gx_out X F (Nat.le_of_ble_eq_true rfl) (Nat.le_of_ble_eq_true rfl) (by unfold pLongestRun; exact Gate.x h7 hB))
  refine g_aload_n X dX3_longestRun_5 rfl 0 rfl ?_
  refine g_get X dX3_longestRun_6 (ci := 3) (k := 0) (v := .ref (hA A 0 0)) rfl k154 (by decide) rfl (BRep.obj hB) rfl ?_
  refine g_getN X dX3_longestRun_9 (ci := 1) (k := 8) (v := .ref (hA A 0 9)) rfl k59 (by decide) rfl (HRep.obj (hB.1 0 (by decide))) rfl ?_
  refine g_iload_n X dX3_longestRun_12 rfl 1 rfl ?_
  refine g_laload X dX3_longestRun_13 (HRep.longs (hB.1 0 (by decide))) ((hI.1 0 (by decide)).b g1) ?_
  refine g_callS_rd (As := [.long ((w.1 0).2.2 (cN b))]) (v := some (.int (runM ((w.1 0).2.2 (cN b)) 64))) X dX3_longestRun_14 (c_X3_runByClauses κ.l hl κ.Γ M ((w.1 0).2.2 (cN b))) k266 k267 k1 k268 ⟨by decide, by decide, (show (parseMethodDescriptor yX3_runByClauses.desc).map (fun d => d.parameters.length) = some 1 by decide +kernel)⟩ rfl (Nat.le_of_ble_eq_true rfl) (by rw [hRm]; decide) (by rw [hRm]; exact ⟨Nat.le_of_ble_eq_true rfl, Nat.le_of_ble_eq_true rfl⟩) ?_
  exact g_iret X F dX3_longestRun_17 (Nat.le_of_ble_eq_true rfl) (Nat.le_of_ble_eq_true rfl) (by unfold pLongestRun; rw [pG_y g1]; exact ⟨rfl, hB, Fr.rf⟩)
set_option maxRecDepth 100000 in
set_option maxHeartbeats 4000000 in
theorem c_X3_longestRunByShift (l : Launch) (hl : l.stackTraces = false) (Γ : Gm) (M : Hp) (A : Nat → Nat) (w : PV) (hB : BRep Γ A w M) (hI : BInv w) (b : Int32) : Ct l Γ yX3_longestRunByShift cX3_longestRunByShift 2 (some .int) 2 3 18 [.ref (A 313), .int b] M (BMu Γ A (pLongestRunByShift w b) M) := by
  refine Ct.of hl (by decide) (Nat.le_of_ble_eq_true rfl) rfl ?_
  intro κ e1 e2 hnL hRm X F hlt
  subst e1 e2
  refine g_aload_n X dX3_longestRunByShift_0 rfl 0 rfl ?_
  refine g_iload_n X dX3_longestRunByShift_1 rfl 1 rfl ?_
  refine g_gateV (As := [.int b]) (ci := 3) (ok := hasB (w.1 0) b) (e := eIdx) X dX3_longestRunByShift_2 (c_X3_requireBill κ.l hl κ.Γ M A w hB hI b) k588 k590 kp5 k1 k591 rfl (BRep.obj hB) ⟨rfl, by decide, by decide, (show (parseMethodDescriptor yX3_requireBill.desc).map (fun d => d.parameters.length) = some 1 by decide +kernel)⟩ rfl (Nat.le_of_ble_eq_true rfl) (by rw [hRm]; decide) (by rw [hRm]; exact ⟨Nat.le_of_ble_eq_true rfl, Nat.le_of_ble_eq_true rfl⟩) (fun g1 => ?_) (fun E7 M7 h7 => gx_out X F (Nat.le_of_ble_eq_true rfl) (Nat.le_of_ble_eq_true rfl) (by unfold pLongestRunByShift; exact Gate.x h7 hB))
  refine g_aload_n X dX3_longestRunByShift_5 rfl 0 rfl ?_
  refine g_get X dX3_longestRunByShift_6 (ci := 3) (k := 0) (v := .ref (hA A 0 0)) rfl k154 (by decide) rfl (BRep.obj hB) rfl ?_
  refine g_getN X dX3_longestRunByShift_9 (ci := 1) (k := 8) (v := .ref (hA A 0 9)) rfl k59 (by decide) rfl (HRep.obj (hB.1 0 (by decide))) rfl ?_
  refine g_iload_n X dX3_longestRunByShift_12 rfl 1 rfl ?_
  refine g_laload X dX3_longestRunByShift_13 (HRep.longs (hB.1 0 (by decide))) ((hI.1 0 (by decide)).b g1) ?_
  refine g_callS_rd (As := [.long ((w.1 0).2.2 (cN b))]) (v := some (.int (runF ((w.1 0).2.2 (cN b)) 64 0))) X dX3_longestRunByShift_14 (c_X3_runByShifts κ.l hl κ.Γ M ((w.1 0).2.2 (cN b))) k272 k273 k1 k274 ⟨by decide, by decide, (show (parseMethodDescriptor yX3_runByShifts.desc).map (fun d => d.parameters.length) = some 1 by decide +kernel)⟩ rfl (Nat.le_of_ble_eq_true rfl) (by rw [hRm]; decide) (by rw [hRm]; exact ⟨Nat.le_of_ble_eq_true rfl, Nat.le_of_ble_eq_true rfl⟩) ?_
  exact g_iret X F dX3_longestRunByShift_17 (Nat.le_of_ble_eq_true rfl) (Nat.le_of_ble_eq_true rfl) (by unfold pLongestRunByShift; rw [pG_y g1]; exact ⟨rfl, hB, Fr.rf⟩)
