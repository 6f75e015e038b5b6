def bCons (u : HV) (b : Int32) : Prop := hW u (u.2.1 6 (cN b)) = wDig (u.2.1 2) (u.2.1 6 (cN b)) 3 ∧ runM (u.2.2 (cN b)) 64 = runF (u.2.2 (cN b)) 64 0 ∧ u.2.1 6 (cN b) &&& u.2.1 7 (cN b) = 0
def consP (u : HV) : Prop := (∀ i, i < cN (u.1 3) → bCons u (nI i)) ∧ 0 + hWW u 0 + hWW u 1 + hWW u 2 + hWW u 3 = hW u (u.1 1)
def barK (u : HV) (r : Int32) (B : Nat) : Nat → Prop := fun n => hRank u (nI n) B = r
noncomputable def bar (u : HV) (r : Int32) (B : Nat) : Nat → Int32
  | 0 => 0
  | n + 1 => @ite Int32 (hRank u (nI n) B = r) (Classical.propDecidable _) (nI n) (bar u r B n)
theorem bar_y {u : HV} {r : Int32} {B n : Nat} (h : hRank u (nI n) B = r) : bar u r B (n + 1) = nI n := @if_pos _ (Classical.propDecidable _) h _ _ _
theorem bar_n {u : HV} {r : Int32} {B n : Nat} (h : ¬ hRank u (nI n) B = r) : bar u r B (n + 1) = bar u r B n := @if_neg _ (Classical.propDecidable _) h _ _ _
def lStar (L : HV) : Nat → HV
  | 0 => L
  | n + 1 => lPut (lStar L n) 42
theorem LInv.star {L : HV} (h : LInv L) : ∀ n, LInv (lStar L n)
  | 0 => h
  | n + 1 => (LInv.star h n).put rfl
def sgn (s : Int32) : Int32 := if s = 0 then 111 else if s = 1 then 112 else 102
def dL3 (u L : HV) (b : Int32) : HV := lNum (lPut (lNum (hsc L 0 0) b) (sgn (u.2.1 3 (cN b)))) (u.2.1 4 (cN b))
def dL6 (u L : HV) (b : Int32) : HV := lNum (lPut (lStar (dL3 u L b) (cN (hRust u (cN b)))) 58) (jbl (u.2.2 (cN b)))
def dL (u L : HV) (b : Int32) : HV := if u.2.1 3 (cN b) = 0 then lNum (lPut (lNum (lPut (dL6 u L b) 43) (hW u (u.2.1 6 (cN b)))) 45) (hW u (u.2.1 7 (cN b))) else dL6 u L b
theorem LInv.d3 {u L : HV} (h : LInv L) (b : Int32) : LInv (dL3 u L b) := ((h.clr.num b).put (by unfold sgn; split; rfl; split <;> rfl)).num _
theorem cN_of_nge {x : Int32} {i : Nat} (hi : i < 2 ^ 31) (c : ¬ x ≤ nI i) : i < cN x := by
  have h := Int32.lt_iff_toInt_lt.mp (Int32.not_le.mp c)
  rw [nI_toInt hi] at h
  show i < x.toInt.toNat
  omega
theorem cN_of_ge {x : Int32} {i : Nat} (hi : i < 2 ^ 31) (c : x ≤ nI i) : cN x ≤ i := by
  have h := Int32.le_iff_toInt_le.mp c
  rw [nI_toInt hi] at h
  show x.toInt.toNat ≤ i
  omega
theorem cN_31 (x : Int32) : cN x < 2 ^ 31 := by
  have h := Int32.toInt_lt x
  show x.toInt.toNat < 2 ^ 31
  omega
noncomputable def pIsConsistent (w : PV) : Res × PV := (rI (bI (consP (w.1 0))), w)
noncomputable def pBillAtRank (w : PV) (r : Int32) : Res × PV := pG (0 ≤ r ∧ r < (w.1 0).1 3) eEle w (rI (bar (w.1 0) r (cN ((w.1 0).1 3)) (cN ((w.1 0).1 3))), w)
noncomputable def pDescribeBill (w : PV) (b : Int32) : Res × PV := pG (hasB (w.1 0) b) eIdx w (rI ((dL (w.1 0) w.2.2.2.1 b).1 0), wL w (dL (w.1 0) w.2.2.2.1 b))
set_option maxRecDepth 100000 in
set_option maxHeartbeats 4000000 in
theorem c_X3_isBillConsistent (l : Launch) (hl : l.stackTraces = false) (Γ : Gm) (M : Hp) (A : Nat → Nat) (w : PV) (hB : BRep Γ A w M) (hI : BInv w) (b : Int32) (vb : vp_in b 8) : Ct l Γ yX3_isBillConsistent cX3_isBillConsistent 5 (some .boolean) 2 0 0 [.ref (A 313), .int b] M (Rd (some (.int (bI (bCons (w.1 0) b)))) M) := by
  refine Ct.of hl (by decide) (Nat.le_of_ble_eq_true rfl) rfl ?_
  intro κ e1 e2 hnL hRm X F hlt
  subst e1 e2
  refine g_aload_n X dX3_isBillConsistent_0 rfl 0 rfl ?_
  refine g_get X dX3_isBillConsistent_1 (ci := 3) (k := 0) (v := .ref (hA A 0 0)) rfl k154 (by decide) rfl (BRep.obj hB) rfl ?_
  refine g_getN X dX3_isBillConsistent_4 (ci := 1) (k := 10) (v := .ref (hA A 0 6)) rfl k63 (by decide) rfl (HRep.obj (hB.1 0 (by decide))) rfl ?_
  refine g_iload_n X dX3_isBillConsistent_7 rfl 1 rfl ?_
  refine g_iaload X dX3_isBillConsistent_8 (HRep.row (hB.1 0 (by decide)) 6 (by decide) (by decide)) vb ?_
  refine g_istore_n (L' := [(2, .int ((w.1 0).2.1 6 (cN b))), (0, .ref (A 313)), (1, .int b)]) X dX3_isBillConsistent_9 rfl (by rw [hnL]; decide) rfl ?_
  refine g_aload_n X dX3_isBillConsistent_10 rfl 1 rfl ?_
  refine g_get X dX3_isBillConsistent_11 (ci := 3) (k := 0) (v := .ref (hA A 0 0)) rfl k154 (by decide) rfl (BRep.obj hB) rfl ?_
  refine g_getN X dX3_isBillConsistent_14 (ci := 1) (k := 8) (v := .ref (hA A 0 9)) rfl k59 (by decide) rfl (HRep.obj (hB.1 0 (by decide))) rfl ?_
  refine g_iload_n X dX3_isBillConsistent_17 rfl 2 rfl ?_
  refine g_laload X dX3_isBillConsistent_18 (HRep.longs (hB.1 0 (by decide))) vb ?_
  refine g_lstore_n (L' := [(3, .long ((w.1 0).2.2 (cN b))), (2, .int ((w.1 0).2.1 6 (cN b))), (0, .ref (A 313)), (1, .int b)]) X dX3_isBillConsistent_19 rfl (by rw [hnL]; decide) rfl ?_
  refine g_aload_n X dX3_isBillConsistent_20 rfl 2 rfl ?_
  refine g_get X dX3_isBillConsistent_21 (ci := 3) (k := 0) (v := .ref (hA A 0 0)) rfl k154 (by decide) rfl (BRep.obj hB) rfl ?_
  refine g_iload_n X dX3_isBillConsistent_24 rfl 1 rfl ?_
  refine g_callV_rd (As := [.int ((w.1 0).2.1 6 (cN b))]) (ci := 1) (v := some (.int (hW (w.1 0) ((w.1 0).2.1 6 (cN b))))) X dX3_isBillConsistent_25 (c_X1_weightOfSet κ.l hl κ.Γ M (hA A 0) (w.1 0) (hB.1 0 (by decide)) ((w.1 0).2.1 6 (cN b))) k254 k255 k256 k2 k257 rfl (hB.1 0 (by decide)).obj ⟨rfl, by decide, by decide, (show (parseMethodDescriptor yX1_weightOfSet.desc).map (fun d => d.parameters.length) = some 1 by decide +kernel)⟩ rfl (Nat.le_of_ble_eq_true rfl) (by rw [hRm]; decide) (by rw [hRm]; exact ⟨Nat.le_of_ble_eq_true rfl, Nat.le_of_ble_eq_true rfl⟩) ?_
  refine g_aload_n X dX3_isBillConsistent_28 rfl 2 rfl ?_
  refine g_get X dX3_isBillConsistent_29 (ci := 3) (k := 0) (v := .ref (hA A 0 0)) rfl k154 (by decide) rfl (BRep.obj hB) rfl ?_
  refine g_iload_n X dX3_isBillConsistent_32 rfl 1 rfl ?_
  refine g_callV_rd (As := [.int ((w.1 0).2.1 6 (cN b))]) (ci := 1) (v := some (.int (wDig ((w.1 0).2.1 2) ((w.1 0).2.1 6 (cN b)) 3))) X dX3_isBillConsistent_33 (c_X1_weightOfSetByDigits κ.l hl κ.Γ M (hA A 0) (w.1 0) (hB.1 0 (by decide)) ((w.1 0).2.1 6 (cN b))) k258 k259 k260 k2 k261 rfl (hB.1 0 (by decide)).obj ⟨rfl, by decide, by decide, (show (parseMethodDescriptor yX1_weightOfSetByDigits.desc).map (fun d => d.parameters.length) = some 1 by decide +kernel)⟩ rfl (Nat.le_of_ble_eq_true rfl) (by rw [hRm]; decide) (by rw [hRm]; exact ⟨Nat.le_of_ble_eq_true rfl, Nat.le_of_ble_eq_true rfl⟩) ?_
  refine g_icmp_ne (tgt := 68) X dX3_isBillConsistent_36 (by decide) (fun c1 => ?_) (fun c1 => ?_)
  · refine g_iconst (v := 0) X dX3_isBillConsistent_68 (by decide) ?_
    exact g_zret X F dX3_isBillConsistent_69 (by omega) (by omega) rfl ⟨congrArg rI (show (0 : Int32) = bI (bCons (w.1 0) b) from (bI_f (fun z => c1 z.1)).symm), rfl⟩
  · refine g_lload_n X dX3_isBillConsistent_39 rfl 0 rfl ?_
    refine g_callS_rd (As := [.long ((w.1 0).2.2 (cN b))]) (v := some (.int (runM ((w.1 0).2.2 (cN b)) 64))) X dX3_isBillConsistent_40 (c_X3_runByClauses κ.l hl κ.Γ M ((w.1 0).2.2 (cN b))) k266 k267 k1 k268 ⟨by decide, by decide, (show (parseMethodDescriptor yX3_runByClauses.desc).map (fun d => d.parameters.length) = some 1 by decide +kernel)⟩ rfl (Nat.le_of_ble_eq_true rfl) (by rw [hRm]; decide) (by rw [hRm]; exact ⟨Nat.le_of_ble_eq_true rfl, Nat.le_of_ble_eq_true rfl⟩) ?_
    refine g_lload_n X dX3_isBillConsistent_43 rfl 0 rfl ?_
    refine g_callS_rd (As := [.long ((w.1 0).2.2 (cN b))]) (v := some (.int (runF ((w.1 0).2.2 (cN b)) 64 0))) X dX3_isBillConsistent_44 (c_X3_runByShifts κ.l hl κ.Γ M ((w.1 0).2.2 (cN b))) k272 k273 k1 k274 ⟨by decide, by decide, (show (parseMethodDescriptor yX3_runByShifts.desc).map (fun d => d.parameters.length) = some 1 by decide +kernel)⟩ rfl (Nat.le_of_ble_eq_true rfl) (by rw [hRm]; decide) (by rw [hRm]; exact ⟨Nat.le_of_ble_eq_true rfl, Nat.le_of_ble_eq_true rfl⟩) ?_
    refine g_icmp_ne (tgt := 68) X dX3_isBillConsistent_47 (by decide) (fun c2 => ?_) (fun c2 => ?_)
    · refine g_iconst (v := 0) X dX3_isBillConsistent_68 (by decide) ?_
      exact g_zret X F dX3_isBillConsistent_69 (by omega) (by omega) rfl ⟨congrArg rI (show (0 : Int32) = bI (bCons (w.1 0) b) from (bI_f (fun z => c2 z.2.1)).symm), rfl⟩
    · refine g_iload_n X dX3_isBillConsistent_50 rfl 1 rfl ?_
      refine g_aload_n X dX3_isBillConsistent_51 rfl 2 rfl ?_
      refine g_get X dX3_isBillConsistent_52 (ci := 3) (k := 0) (v := .ref (hA A 0 0)) rfl k154 (by decide) rfl (BRep.obj hB) rfl ?_
      refine g_getN X dX3_isBillConsistent_55 (ci := 1) (k := 11) (v := .ref (hA A 0 7)) rfl k65 (by decide) rfl (HRep.obj (hB.1 0 (by decide))) rfl ?_
      refine g_iload_n X dX3_isBillConsistent_58 rfl 3 rfl ?_
      refine g_iaload X dX3_isBillConsistent_59 (HRep.row (hB.1 0 (by decide)) 7 (by decide) (by decide)) vb ?_
      refine g_iand X dX3_isBillConsistent_60 ?_
      refine g_if_ne (tgt := 68) X dX3_isBillConsistent_61 (by decide) (fun c3 => ?_) (fun c3 => ?_)
      · refine g_iconst (v := 0) X dX3_isBillConsistent_68 (by decide) ?_
        exact g_zret X F dX3_isBillConsistent_69 (by omega) (by omega) rfl ⟨congrArg rI (show (0 : Int32) = bI (bCons (w.1 0) b) from (bI_f (fun z => c3 z.2.2)).symm), rfl⟩
      · refine g_iconst (v := 1) X dX3_isBillConsistent_64 (by decide) ?_
        refine g_goto (tgt := 69) X dX3_isBillConsistent_65 (by decide) ?_
        exact g_zret X F dX3_isBillConsistent_69 (by omega) (by omega) rfl ⟨congrArg rI (show (1 : Int32) = bI (bCons (w.1 0) b) from (bI_t ⟨c1, c2, c3⟩).symm), rfl⟩
set_option maxRecDepth 100000 in
set_option maxHeartbeats 4000000 in
theorem c_X3_isConsistent (l : Launch) (hl : l.stackTraces = false) (Γ : Gm) (M : Hp) (A : Nat → Nat) (w : PV) (hB : BRep Γ A w M) (hI : BInv w) : Ct l Γ yX3_isConsistent cX3_isConsistent 3 (some .boolean) 3 3 18 [.ref (A 313)] M (BMu Γ A (pIsConsistent w) M) := by
  refine Ct.of hl (by decide) (Nat.le_of_ble_eq_true rfl) rfl ?_
  intro κ e1 e2 hnL hRm X F hlt
  subst e1 e2
  obtain ⟨B, hB8, eB⟩ := (hI.1 0 (by decide)).nb
  refine g_iconst (v := 0) X dX3_isConsistent_0 (by decide) ?_
  refine g_istore_n (L' := [(1, .int 0), (0, .ref (A 313))]) X dX3_isConsistent_1 rfl (by rw [hnL]; decide) rfl ?_
  have lp : ∀ n i : Nat, B - i < n → i ≤ B → (∀ j, j < i → bCons (w.1 0) (nI j)) → G κ M 0 0 [(1, .int (nI i)), (0, .ref (A 313))] 2 [] := by
    intro n
    induction n with
    | zero => intro i h1 _; exact absurd h1 (Nat.not_lt_zero _)
    | succ n ih =>
      intro i hi1 hi2 hX
      refine g_iload_n X dX3_isConsistent_2 rfl 0 rfl ?_
      refine g_aload_n X dX3_isConsistent_3 rfl 1 rfl ?_
      refine g_get X dX3_isConsistent_4 (ci := 3) (k := 0) (v := .ref (hA A 0 0)) rfl k154 (by decide) rfl (BRep.obj hB) rfl ?_
      refine g_getN X dX3_isConsistent_7 (ci := 1) (k := 5) (v := .int ((w.1 0).1 3)) rfl k53 (by decide) rfl (HRep.obj (hB.1 0 (by decide))) rfl ?_
      refine g_icmp_ge (tgt := 29) X dX3_isConsistent_10 (by decide) (fun c1 => ?_) (fun c1 => ?_)
      · have heq9 : i = B := eq_of_ge (N := B) ⟨eB.symm, by omega⟩ (by omega) c1
        subst heq9
        refine g_iconst (v := 0) X dX3_isConsistent_29 (by decide) ?_
        refine g_istore_n (L' := [(1, .int 0), (0, .ref (A 313))]) X dX3_isConsistent_30 rfl (by rw [hnL]; decide) rfl ?_
        refine g_iconst (v := 0) X dX3_isConsistent_31 (by decide) ?_
        refine g_istore_n (L' := [(2, .int 0), (1, .int 0), (0, .ref (A 313))]) X dX3_isConsistent_32 rfl (by rw [hnL]; decide) rfl ?_
        refine g_iload_n X dX3_isConsistent_33 rfl 0 rfl ?_
        refine g_iconst (v := 4) X dX3_isConsistent_34 (by decide) ?_
        refine g_icmp_ge (tgt := 55) X dX3_isConsistent_35 (by decide) (fun c2 => absurd c2 (by decide)) (fun c2 => ?_)
        refine g_iload_n X dX3_isConsistent_38 rfl 1 rfl ?_
        refine g_aload_n X dX3_isConsistent_39 rfl 2 rfl ?_
        refine g_get X dX3_isConsistent_40 (ci := 3) (k := 0) (v := .ref (hA A 0 0)) rfl k154 (by decide) rfl (BRep.obj hB) rfl ?_
        refine g_iload_n X dX3_isConsistent_43 rfl 0 rfl ?_
        refine g_callV_rd (As := [.int 0]) (ci := 1) (v := some (.int (hWW (w.1 0) 0))) X dX3_isConsistent_44 (c_X1_weightInWard κ.l hl κ.Γ M (hA A 0) (w.1 0) (hB.1 0 (by decide)) 0) k218 k219 k220 k2 k221 rfl (hB.1 0 (by decide)).obj ⟨rfl, by decide, by decide, (show (parseMethodDescriptor yX1_weightInWard.desc).map (fun d => d.parameters.length) = some 1 by decide +kernel)⟩ rfl (Nat.le_of_ble_eq_true rfl) (by rw [hRm]; decide) (by rw [hRm]; exact ⟨Nat.le_of_ble_eq_true rfl, Nat.le_of_ble_eq_true rfl⟩) ?_
        refine g_iadd X dX3_isConsistent_47 ?_
        refine g_istore_n (L' := [(1, .int (0 + (hWW (w.1 0) 0))), (2, .int 0), (0, .ref (A 313))]) X dX3_isConsistent_48 rfl (by rw [hnL]; decide) rfl ?_
        refine g_iinc (k := 1) (v := 1) (L' := [(2, .int 1), (1, .int (0 + (hWW (w.1 0) 0))), (0, .ref (A 313))]) X dX3_isConsistent_49 rfl (by decide) (by rw [hnL]; decide) rfl ?_
        refine g_goto (tgt := 33) X dX3_isConsistent_52 (by decide) ?_
        refine g_iload_n X dX3_isConsistent_33 rfl 0 rfl ?_
        refine g_iconst (v := 4) X dX3_isConsistent_34 (by decide) ?_
        refine g_icmp_ge (tgt := 55) X dX3_isConsistent_35 (by decide) (fun c3 => absurd c3 (by decide)) (fun c3 => ?_)
        refine g_iload_n X dX3_isConsistent_38 rfl 1 rfl ?_
        refine g_aload_n X dX3_isConsistent_39 rfl 2 rfl ?_
        refine g_get X dX3_isConsistent_40 (ci := 3) (k := 0) (v := .ref (hA A 0 0)) rfl k154 (by decide) rfl (BRep.obj hB) rfl ?_
        refine g_iload_n X dX3_isConsistent_43 rfl 0 rfl ?_
        refine g_callV_rd (As := [.int 1]) (ci := 1) (v := some (.int (hWW (w.1 0) 1))) X dX3_isConsistent_44 (c_X1_weightInWard κ.l hl κ.Γ M (hA A 0) (w.1 0) (hB.1 0 (by decide)) 1) k218 k219 k220 k2 k221 rfl (hB.1 0 (by decide)).obj ⟨rfl, by decide, by decide, (show (parseMethodDescriptor yX1_weightInWard.desc).map (fun d => d.parameters.length) = some 1 by decide +kernel)⟩ rfl (Nat.le_of_ble_eq_true rfl) (by rw [hRm]; decide) (by rw [hRm]; exact ⟨Nat.le_of_ble_eq_true rfl, Nat.le_of_ble_eq_true rfl⟩) ?_
        refine g_iadd X dX3_isConsistent_47 ?_
        refine g_istore_n (L' := [(1, .int ((0 + (hWW (w.1 0) 0)) + (hWW (w.1 0) 1))), (2, .int 1), (0, .ref (A 313))]) X dX3_isConsistent_48 rfl (by rw [hnL]; decide) rfl ?_
        refine g_iinc (k := 1) (v := 2) (L' := [(2, .int 2), (1, .int ((0 + (hWW (w.1 0) 0)) + (hWW (w.1 0) 1))), (0, .ref (A 313))]) X dX3_isConsistent_49 rfl (by decide) (by rw [hnL]; decide) rfl ?_
        refine g_goto (tgt := 33) X dX3_isConsistent_52 (by decide) ?_
        refine g_iload_n X dX3_isConsistent_33 rfl 0 rfl ?_
        refine g_iconst (v := 4) X dX3_isConsistent_34 (by decide) ?_
        refine g_icmp_ge (tgt := 55) X dX3_isConsistent_35 (by decide) (fun c4 => absurd c4 (by decide)) (fun c4 => ?_)
        refine g_iload_n X dX3_isConsistent_38 rfl 1 rfl ?_
        refine g_aload_n X dX3_isConsistent_39 rfl 2 rfl ?_
        refine g_get X dX3_isConsistent_40 (ci := 3) (k := 0) (v := .ref (hA A 0 0)) rfl k154 (by decide) rfl (BRep.obj hB) rfl ?_
        refine g_iload_n X dX3_isConsistent_43 rfl 0 rfl ?_
        refine g_callV_rd (As := [.int 2]) (ci := 1) (v := some (.int (hWW (w.1 0) 2))) X dX3_isConsistent_44 (c_X1_weightInWard κ.l hl κ.Γ M (hA A 0) (w.1 0) (hB.1 0 (by decide)) 2) k218 k219 k220 k2 k221 rfl (hB.1 0 (by decide)).obj ⟨rfl, by decide, by decide, (show (parseMethodDescriptor yX1_weightInWard.desc).map (fun d => d.parameters.length) = some 1 by decide +kernel)⟩ rfl (Nat.le_of_ble_eq_true rfl) (by rw [hRm]; decide) (by rw [hRm]; exact ⟨Nat.le_of_ble_eq_true rfl, Nat.le_of_ble_eq_true rfl⟩) ?_
        refine g_iadd X dX3_isConsistent_47 ?_
        refine g_istore_n (L' := [(1, .int (((0 + (hWW (w.1 0) 0)) + (hWW (w.1 0) 1)) + (hWW (w.1 0) 2))), (2, .int 2), (0, .ref (A 313))]) X dX3_isConsistent_48 rfl (by rw [hnL]; decide) rfl ?_
        refine g_iinc (k := 1) (v := 3) (L' := [(2, .int 3), (1, .int (((0 + (hWW (w.1 0) 0)) + (hWW (w.1 0) 1)) + (hWW (w.1 0) 2))), (0, .ref (A 313))]) X dX3_isConsistent_49 rfl (by decide) (by rw [hnL]; decide) rfl ?_
        refine g_goto (tgt := 33) X dX3_isConsistent_52 (by decide) ?_
        refine g_iload_n X dX3_isConsistent_33 rfl 0 rfl ?_
        refine g_iconst (v := 4) X dX3_isConsistent_34 (by decide) ?_
        refine g_icmp_ge (tgt := 55) X dX3_isConsistent_35 (by decide) (fun c5 => absurd c5 (by decide)) (fun c5 => ?_)
        refine g_iload_n X dX3_isConsistent_38 rfl 1 rfl ?_
        refine g_aload_n X dX3_isConsistent_39 rfl 2 rfl ?_
        refine g_get X dX3_isConsistent_40 (ci := 3) (k := 0) (v := .ref (hA A 0 0)) rfl k154 (by decide) rfl (BRep.obj hB) rfl ?_
        refine g_iload_n X dX3_isConsistent_43 rfl 0 rfl ?_
        refine g_callV_rd (As := [.int 3]) (ci := 1) (v := some (.int (hWW (w.1 0) 3))) X dX3_isConsistent_44 (c_X1_weightInWard κ.l hl κ.Γ M (hA A 0) (w.1 0) (hB.1 0 (by decide)) 3) k218 k219 k220 k2 k221 rfl (hB.1 0 (by decide)).obj ⟨rfl, by decide, by decide, (show (parseMethodDescriptor yX1_weightInWard.desc).map (fun d => d.parameters.length) = some 1 by decide +kernel)⟩ rfl (Nat.le_of_ble_eq_true rfl) (by rw [hRm]; decide) (by rw [hRm]; exact ⟨Nat.le_of_ble_eq_true rfl, Nat.le_of_ble_eq_true rfl⟩) ?_
        refine g_iadd X dX3_isConsistent_47 ?_
        refine g_istore_n (L' := [(1, .int ((((0 + (hWW (w.1 0) 0)) + (hWW (w.1 0) 1)) + (hWW (w.1 0) 2)) + (hWW (w.1 0) 3))), (2, .int 3), (0, .ref (A 313))]) X dX3_isConsistent_48 rfl (by rw [hnL]; decide) rfl ?_
        refine g_iinc (k := 1) (v := 4) (L' := [(2, .int 4), (1, .int ((((0 + (hWW (w.1 0) 0)) + (hWW (w.1 0) 1)) + (hWW (w.1 0) 2)) + (hWW (w.1 0) 3))), (0, .ref (A 313))]) X dX3_isConsistent_49 rfl (by decide) (by rw [hnL]; decide) rfl ?_
        refine g_goto (tgt := 33) X dX3_isConsistent_52 (by decide) ?_
        refine g_iload_n X dX3_isConsistent_33 rfl 0 rfl ?_
        refine g_iconst (v := 4) X dX3_isConsistent_34 (by decide) ?_
        refine g_icmp_ge (tgt := 55) X dX3_isConsistent_35 (by decide) (fun c6 => ?_) (fun c6 => absurd c6 (by decide))
        refine g_iload_n X dX3_isConsistent_55 rfl 1 rfl ?_
        refine g_aload_n X dX3_isConsistent_56 rfl 2 rfl ?_
        refine g_get X dX3_isConsistent_57 (ci := 3) (k := 0) (v := .ref (hA A 0 0)) rfl k154 (by decide) rfl (BRep.obj hB) rfl ?_
        refine g_aload_n X dX3_isConsistent_60 rfl 2 rfl ?_
        refine g_get X dX3_isConsistent_61 (ci := 3) (k := 0) (v := .ref (hA A 0 0)) rfl k154 (by decide) rfl (BRep.obj hB) rfl ?_
        refine g_getN X dX3_isConsistent_64 (ci := 1) (k := 3) (v := .int ((w.1 0).1 1)) rfl k49 (by decide) rfl (HRep.obj (hB.1 0 (by decide))) rfl ?_
        refine g_callV_rd (As := [.int ((w.1 0).1 1)]) (ci := 1) (v := some (.int (hW (w.1 0) ((w.1 0).1 1)))) X dX3_isConsistent_67 (c_X1_weightOfSet κ.l hl κ.Γ M (hA A 0) (w.1 0) (hB.1 0 (by decide)) ((w.1 0).1 1)) k254 k255 k256 k2 k257 rfl (hB.1 0 (by decide)).obj ⟨rfl, by decide, by decide, (show (parseMethodDescriptor yX1_weightOfSet.desc).map (fun d => d.parameters.length) = some 1 by decide +kernel)⟩ rfl (Nat.le_of_ble_eq_true rfl) (by rw [hRm]; decide) (by rw [hRm]; exact ⟨Nat.le_of_ble_eq_true rfl, Nat.le_of_ble_eq_true rfl⟩) ?_
        refine g_icmp_ne (tgt := 77) X dX3_isConsistent_70 (by decide) (fun c7 => ?_) (fun c7 => ?_)
        · refine g_iconst (v := 0) X dX3_isConsistent_77 (by decide) ?_
          exact g_zret X F dX3_isConsistent_78 (Nat.le_of_ble_eq_true rfl) (Nat.le_of_ble_eq_true rfl) rfl (by unfold pIsConsistent; exact ⟨congrArg rI (show (0 : Int32) = bI (consP (w.1 0)) from (bI_f (fun z => c7 z.2)).symm), hB, Fr.rf⟩)
        · refine g_iconst (v := 1) X dX3_isConsistent_73 (by decide) ?_
          refine g_goto (tgt := 78) X dX3_isConsistent_74 (by decide) ?_
          exact g_zret X F dX3_isConsistent_78 (Nat.le_of_ble_eq_true rfl) (Nat.le_of_ble_eq_true rfl) rfl (by unfold pIsConsistent; exact ⟨congrArg rI (show (1 : Int32) = bI (consP (w.1 0)) from (bI_t ⟨fun j hj => hX j (by rw [eB, cN_nI (by omega)] at hj; exact hj), c7⟩).symm), hB, Fr.rf⟩)
      · have hlt9 : i < B := lt_of_nge (N := B) ⟨eB.symm, by omega⟩ (by omega) c1
        have vi : vp_in (nI i) 8 := vp_in_nI (by omega) (by decide)
        refine g_aload_n X dX3_isConsistent_13 rfl 1 rfl ?_
        refine g_iload_n X dX3_isConsistent_14 rfl 0 rfl ?_
        refine g_callV_rd (As := [.int (nI i)]) (ci := 3) (v := some (.int (bI (bCons (w.1 0) (nI i))))) X dX3_isConsistent_15 (c_X3_isBillConsistent κ.l hl κ.Γ M A w hB hI (nI i) vi) k250 k252 kp0 k1 k253 rfl (BRep.obj hB) ⟨rfl, by decide, by decide, (show (parseMethodDescriptor yX3_isBillConsistent.desc).map (fun d => d.parameters.length) = some 1 by decide +kernel)⟩ rfl (Nat.le_of_ble_eq_true rfl) (by rw [hRm]; decide) (by rw [hRm]; exact ⟨Nat.le_of_ble_eq_true rfl, Nat.le_of_ble_eq_true rfl⟩) ?_
        refine g_ifb_ne (tgt := 23) X dX3_isConsistent_18 (by decide) (fun c8 => ?_) (fun c8 => ?_)
        · refine g_iinc (k := 0) (v := (nI (i + 1))) (L' := [(1, .int (nI (i + 1))), (0, .ref (A 313))]) X dX3_isConsistent_23 rfl (nI_1 _) (by rw [hnL]; decide) rfl ?_
          refine g_goto (tgt := 2) X dX3_isConsistent_26 (by decide) ?_
          refine g_locs [0, 1] (L' := [(1, .int (nI (i + 1))), (0, .ref (A 313))]) rfl ?_
          exact ih (i + 1) (by omega) (by omega) (fun j hj => by rcases Nat.lt_or_eq_of_le (Nat.le_of_lt_succ hj) with q | rfl; exact hX j q; exact c8)
        · refine g_iconst (v := 0) X dX3_isConsistent_21 (by decide) ?_
          exact g_zret X F dX3_isConsistent_22 (Nat.le_of_ble_eq_true rfl) (Nat.le_of_ble_eq_true rfl) rfl (by unfold pIsConsistent; exact ⟨congrArg rI (show (0 : Int32) = bI (consP (w.1 0)) from (bI_f (fun z => c8 (z.1 i (by rw [eB, cN_nI (by omega)]; exact hlt9)))).symm), hB, Fr.rf⟩)
  refine g_locs [0, 1] (L' := [(1, .int (nI 0)), (0, .ref (A 313))]) rfl ?_
  exact lp (B + 1) 0 (by omega) (by omega) (fun j hj => absurd hj (Nat.not_lt_zero _))
set_option maxRecDepth 100000 in
set_option maxHeartbeats 4000000 in
theorem c_X3_billAtRank (l : Launch) (hl : l.stackTraces = false) (Γ : Gm) (M : Hp) (A : Nat → Nat) (w : PV) (hB : BRep Γ A w M) (hI : BInv w) (r : Int32) : Ct l Γ yX3_billAtRank cX3_billAtRank 4 (some .int) 3 3 18 [.ref (A 313), .int r] M (BMu Γ A (pBillAtRank w r) M) := by
  refine Ct.of hl (by decide) (Nat.le_of_ble_eq_true rfl) rfl ?_
  intro κ e1 e2 hnL hRm X F hlt
  subst e1 e2
  obtain ⟨B, hB8, eB⟩ := (hI.1 0 (by decide)).nb
  have eC : cN ((w.1 0).1 3) = B := by rw [eB, cN_nI (by omega)]
  refine g_iload_n X dX3_billAtRank_0 rfl 1 rfl ?_
  refine g_if_lt (tgt := 15) X dX3_billAtRank_1 (by decide) (fun c1 => ?_) (fun c1 => ?_)
  · exact g_throw X F (ik := 152) (ic := 154) (cls := "java/util/NoSuchElementException") dX3_billAtRank_15 dX3_billAtRank_18 dX3_billAtRank_19 dX3_billAtRank_22 (by decide +kernel) (by rw [hRm]; decide) (by rw [hRm]; exact Nat.le_of_ble_eq_true rfl) (by rw [hRm]; exact Nat.le_of_ble_eq_true rfl) (by rw [hRm]; exact Nat.le_of_ble_eq_true rfl) (Nat.le_of_ble_eq_true rfl) (Nat.le_of_ble_eq_true rfl) (by unfold pBillAtRank; rw [pG_n (fun z => by first | exact absurd z.1 (Int32.not_le.mpr c1) | exact absurd z.2 c1)]; exact ⟨rfl, hB, Fr.rf⟩)
  · refine g_iload_n X dX3_billAtRank_4 rfl 1 rfl ?_
    refine g_aload_n X dX3_billAtRank_5 rfl 0 rfl ?_
    refine g_get X dX3_billAtRank_6 (ci := 3) (k := 0) (v := .ref (hA A 0 0)) rfl k154 (by decide) rfl (BRep.obj hB) rfl ?_
    refine g_getN X dX3_billAtRank_9 (ci := 1) (k := 5) (v := .int ((w.1 0).1 3)) rfl k53 (by decide) rfl (HRep.obj (hB.1 0 (by decide))) rfl ?_
    refine g_icmp_lt (tgt := 23) X dX3_billAtRank_12 (by decide) (fun c2 => ?_) (fun c2 => ?_)
    · have g3 : 0 ≤ r ∧ r < (w.1 0).1 3 := ⟨Int32.not_lt.mp c1, c2⟩
      refine g_iconst (v := 0) X dX3_billAtRank_23 (by decide) ?_
      refine g_istore_n (L' := [(2, .int 0), (0, .ref (A 313)), (1, .int r)]) X dX3_billAtRank_24 rfl (by rw [hnL]; decide) rfl ?_
      refine g_iconst (v := 0) X dX3_billAtRank_25 (by decide) ?_
      refine g_istore_n (L' := [(3, .int 0), (2, .int 0), (0, .ref (A 313)), (1, .int r)]) X dX3_billAtRank_26 rfl (by rw [hnL]; decide) rfl ?_
      have lp : ∀ n i : Nat, B - i < n → i ≤ B → G κ M 0 0 [(2, .int (bar (w.1 0) r B i)), (3, .int (nI i)), (1, .int r), (0, .ref (A 313))] 27 [] := by
        intro n
        induction n with
        | zero => intro i h1 _; exact absurd h1 (Nat.not_lt_zero _)
        | succ n ih =>
          intro i hi1 hi2
          refine g_iload_n X dX3_billAtRank_27 rfl 1 rfl ?_
          refine g_aload_n X dX3_billAtRank_28 rfl 3 rfl ?_
          refine g_get X dX3_billAtRank_29 (ci := 3) (k := 0) (v := .ref (hA A 0 0)) rfl k154 (by decide) rfl (BRep.obj hB) rfl ?_
          refine g_getN X dX3_billAtRank_32 (ci := 1) (k := 5) (v := .int ((w.1 0).1 3)) rfl k53 (by decide) rfl (HRep.obj (hB.1 0 (by decide))) rfl ?_
          refine g_icmp_ge (tgt := 58) X dX3_billAtRank_35 (by decide) (fun c4 => ?_) (fun c4 => ?_)
          · have heq9 : i = B := eq_of_ge (N := B) ⟨eB.symm, by omega⟩ (by omega) c4
            subst heq9
            refine g_iload_n X dX3_billAtRank_58 rfl 0 rfl ?_
            exact g_iret X F dX3_billAtRank_59 (Nat.le_of_ble_eq_true rfl) (Nat.le_of_ble_eq_true rfl) (by unfold pBillAtRank; rw [pG_y g3, eC]; exact ⟨rfl, hB, Fr.rf⟩)
          · have hlt9 : i < B := lt_of_nge (N := B) ⟨eB.symm, by omega⟩ (by omega) c4
            have vi : vp_in (nI i) 8 := vp_in_nI (by omega) (by decide)
            refine g_aload_n X dX3_billAtRank_38 rfl 3 rfl ?_
            refine g_get X dX3_billAtRank_39 (ci := 3) (k := 0) (v := .ref (hA A 0 0)) rfl k154 (by decide) rfl (BRep.obj hB) rfl ?_
            refine g_iload_n X dX3_billAtRank_42 rfl 1 rfl ?_
            refine g_callV_rd (As := [.int (nI i)]) (ci := 1) (v := some (.int (hRank (w.1 0) (nI i) (cN ((w.1 0).1 3))))) X dX3_billAtRank_43 (c_X1_rankOf κ.l hl κ.Γ M (hA A 0) (w.1 0) (hB.1 0 (by decide)) (hI.1 0 (by decide)) (nI i) vi) k652 k653 k654 k2 k655 rfl (hB.1 0 (by decide)).obj ⟨rfl, by decide, by decide, (show (parseMethodDescriptor yX1_rankOf.desc).map (fun d => d.parameters.length) = some 1 by decide +kernel)⟩ rfl (Nat.le_of_ble_eq_true rfl) (by rw [hRm]; decide) (by rw [hRm]; exact ⟨Nat.le_of_ble_eq_true rfl, Nat.le_of_ble_eq_true rfl⟩) ?_
            refine g_iload_n X dX3_billAtRank_46 rfl 2 rfl ?_
            refine g_icmp_ne (tgt := 52) X dX3_billAtRank_47 (by decide) (fun c5 => ?_) (fun c5 => ?_)
            · refine g_iinc (k := 1) (v := (nI (i + 1))) (L' := [(3, .int (nI (i + 1))), (2, .int (bar (w.1 0) r B i)), (1, .int r), (0, .ref (A 313))]) X dX3_billAtRank_52 rfl (nI_1 _) (by rw [hnL]; decide) rfl ?_
              refine g_goto (tgt := 27) X dX3_billAtRank_55 (by decide) ?_
              refine g_locs [1, 0, 2, 3] (L' := [(2, .int (bar (w.1 0) r B (i + 1))), (3, .int (nI (i + 1))), (1, .int r), (0, .ref (A 313))]) (by rw [show bar (w.1 0) r B (i + 1) = bar (w.1 0) r B i from bar_n (by rw [← eC]; exact c5)]; rfl) ?_
              exact ih (i + 1) (by omega) (by omega)
            · refine g_iload_n X dX3_billAtRank_50 rfl 1 rfl ?_
              refine g_istore_n (L' := [(2, .int (nI i)), (3, .int (nI i)), (1, .int r), (0, .ref (A 313))]) X dX3_billAtRank_51 rfl (by rw [hnL]; decide) rfl ?_
              refine g_iinc (k := 1) (v := (nI (i + 1))) (L' := [(3, .int (nI (i + 1))), (2, .int (nI i)), (1, .int r), (0, .ref (A 313))]) X dX3_billAtRank_52 rfl (nI_1 _) (by rw [hnL]; decide) rfl ?_
              refine g_goto (tgt := 27) X dX3_billAtRank_55 (by decide) ?_
              refine g_locs [1, 0, 2, 3] (L' := [(2, .int (bar (w.1 0) r B (i + 1))), (3, .int (nI (i + 1))), (1, .int r), (0, .ref (A 313))]) (by rw [show bar (w.1 0) r B (i + 1) = nI i from bar_y (by rw [← eC]; exact c5)]; rfl) ?_
              exact ih (i + 1) (by omega) (by omega)
      refine g_locs [1, 0, 3, 2] (L' := [(2, .int (bar (w.1 0) r B 0)), (3, .int (nI 0)), (1, .int r), (0, .ref (A 313))]) rfl ?_
      exact lp (B + 1) 0 (by omega) (by omega)
    · exact g_throw X F (ik := 152) (ic := 154) (cls := "java/util/NoSuchElementException") dX3_billAtRank_15 dX3_billAtRank_18 dX3_billAtRank_19 dX3_billAtRank_22 (by decide +kernel) (by rw [hRm]; decide) (by rw [hRm]; exact Nat.le_of_ble_eq_true rfl) (by rw [hRm]; exact Nat.le_of_ble_eq_true rfl) (by rw [hRm]; exact Nat.le_of_ble_eq_true rfl) (Nat.le_of_ble_eq_true rfl) (Nat.le_of_ble_eq_true rfl) (by unfold pBillAtRank; rw [pG_n (fun z => by first | exact absurd z.1 (Int32.not_le.mpr c2) | exact absurd z.2 c2)]; exact ⟨rfl, hB, Fr.rf⟩)
set_option maxRecDepth 100000 in
set_option maxHeartbeats 4000000 in
theorem c_X3_describeBill (l : Launch) (hl : l.stackTraces = false) (Γ : Gm) (M : Hp) (A : Nat → Nat) (w : PV) (hB : BRep Γ A w M) (hI : BInv w) (b : Int32) : Ct l Γ yX3_describeBill cX3_describeBill 5 (some .int) 2 3 18 [.ref (A 313), .int b] M (BMu Γ A (pDescribeBill w b) M) := by
  refine Ct.of hl (by decide) (Nat.le_of_ble_eq_true rfl) rfl ?_
  intro κ e1 e2 hnL hRm X F hlt
  subst e1 e2
  refine g_aload_n X dX3_describeBill_0 rfl 0 rfl ?_
  refine g_iload_n X dX3_describeBill_1 rfl 1 rfl ?_
  refine g_gateV (As := [.int b]) (ci := 3) (ok := hasB (w.1 0) b) (e := eIdx) X dX3_describeBill_2 (c_X3_requireBill κ.l hl κ.Γ M A w hB hI b) k588 k590 kp5 k1 k591 rfl (BRep.obj hB) ⟨rfl, by decide, by decide, (show (parseMethodDescriptor yX3_requireBill.desc).map (fun d => d.parameters.length) = some 1 by decide +kernel)⟩ rfl (Nat.le_of_ble_eq_true rfl) (by rw [hRm]; decide) (by rw [hRm]; exact ⟨Nat.le_of_ble_eq_true rfl, Nat.le_of_ble_eq_true rfl⟩) (fun g1 => ?_) (fun E7 M7 h7 => gx_out X F (Nat.le_of_ble_eq_true rfl) (Nat.le_of_ble_eq_true rfl) (by unfold pDescribeBill; exact Gate.x h7 hB))
  refine g_aload_n X dX3_describeBill_5 rfl 0 rfl ?_
  refine g_get X dX3_describeBill_6 (ci := 3) (k := 0) (v := .ref (hA A 0 0)) rfl k154 (by decide) rfl (BRep.obj hB) rfl ?_
  refine g_getN X dX3_describeBill_9 (ci := 1) (k := 6) (v := .ref (hA A 0 3)) rfl k55 (by decide) rfl (HRep.obj (hB.1 0 (by decide))) rfl ?_
  refine g_iload_n X dX3_describeBill_12 rfl 1 rfl ?_
  refine g_iaload X dX3_describeBill_13 (HRep.row (hB.1 0 (by decide)) 3 (by decide) (by decide)) ((hI.1 0 (by decide)).b g1) ?_
  refine g_istore_n (L' := [(2, .int ((w.1 0).2.1 3 (cN b))), (0, .ref (A 313)), (1, .int b)]) X dX3_describeBill_14 rfl (by rw [hnL]; decide) rfl ?_
  refine g_aload_n X dX3_describeBill_15 rfl 1 rfl ?_
  refine g_get X dX3_describeBill_16 (ci := 3) (k := 0) (v := .ref (hA A 0 0)) rfl k154 (by decide) rfl (BRep.obj hB) rfl ?_
  refine g_iload_n X dX3_describeBill_19 rfl 2 rfl ?_
  refine g_callV_rd (As := [.int b]) (ci := 1) (v := some (.int (hRust (w.1 0) (cN b)))) X dX3_describeBill_20 (c_X1_rustOf κ.l hl κ.Γ M (hA A 0) (w.1 0) (hB.1 0 (by decide)) b ((hI.1 0 (by decide)).b g1)) k837 k661 k662 k2 k663 rfl (hB.1 0 (by decide)).obj ⟨rfl, by decide, by decide, (show (parseMethodDescriptor yX1_rustOf.desc).map (fun d => d.parameters.length) = some 1 by decide +kernel)⟩ rfl (Nat.le_of_ble_eq_true rfl) (by rw [hRm]; decide) (by rw [hRm]; exact ⟨Nat.le_of_ble_eq_true rfl, Nat.le_of_ble_eq_true rfl⟩) ?_
  refine g_istore_n (L' := [(3, .int (hRust (w.1 0) (cN b))), (2, .int ((w.1 0).2.1 3 (cN b))), (0, .ref (A 313)), (1, .int b)]) X dX3_describeBill_23 rfl (by rw [hnL]; decide) rfl ?_
  refine g_aload_n X dX3_describeBill_24 rfl 2 rfl ?_
  refine g_get X dX3_describeBill_25 (ci := 3) (k := 10) (v := .ref (lA A 0)) rfl k164 (by decide) rfl (BRep.obj hB) rfl ?_
  refine g_callV (As := []) (ci := 2) X dX3_describeBill_28 (c_X2_clear κ.l hl κ.Γ M (lA A) w.2.2.2.1 hB.2.2.2.1 hI.2.2.2.1) k1006 k1007 k1008 k4 k1009 rfl (LRep.obj hB.2.2.2.1) ⟨rfl, by decide, by decide, (show (parseMethodDescriptor yX2_clear.desc).map (fun d => d.parameters.length) = some 0 by decide +kernel)⟩ rfl (Nat.le_of_ble_eq_true rfl) (by rw [hRm]; decide) (by rw [hRm]; exact ⟨Nat.le_of_ble_eq_true rfl, Nat.le_of_ble_eq_true rfl⟩) (fun v1 M1 h1 => ?_) (fun _ _ h9 => by cases h9.1)
  obtain ⟨e1, hR1, hF1⟩ := h1
  cases e1
  have hI3 : LInv (hsc w.2.2.2.1 0 0) := LInv.clr hI.2.2.2.1
  have hB4 : BRep κ.Γ A (wL w (hsc w.2.2.2.1 0 0)) M1 := BRep.ln hB hR1 hF1
  have hFA5 : Fr A 315 M M1 := Fr.lA hF1
  refine g_aload_n X dX3_describeBill_31 rfl 2 rfl ?_
  refine g_get X dX3_describeBill_32 (ci := 3) (k := 10) (v := .ref (lA A 0)) rfl k164 (by decide) rfl (BRep.obj hB4) rfl ?_
  refine g_iload_n X dX3_describeBill_35 rfl 3 rfl ?_
  refine g_callV (As := [.int b]) (ci := 2) X dX3_describeBill_36 (c_X2_putNumber κ.l hl κ.Γ M1 (lA A) (hsc w.2.2.2.1 0 0) hB4.2.2.2.1 hI3 b) k1010 k1011 k1012 k4 k1013 rfl (LRep.obj hB4.2.2.2.1) ⟨rfl, by decide, by decide, (show (parseMethodDescriptor yX2_putNumber.desc).map (fun d => d.parameters.length) = some 1 by decide +kernel)⟩ rfl (Nat.le_of_ble_eq_true rfl) (by rw [hRm]; decide) (by rw [hRm]; exact ⟨Nat.le_of_ble_eq_true rfl, Nat.le_of_ble_eq_true rfl⟩) (fun v5 M5 h5 => ?_) (fun _ _ h9 => by cases h9.1)
  obtain ⟨e5, hR5, hF5⟩ := h5
  cases e5
  have hI7 : LInv (lNum (hsc w.2.2.2.1 0 0) b) := LInv.num hI3 _
  have hB8 : BRep κ.Γ A (wL w (lNum (hsc w.2.2.2.1 0 0) b)) M5 := BRep.ln2 hB4 hR5 hF5
  have hFA9 : Fr A 315 M M5 := Fr.tr hFA5 (Fr.lA hF5)
  refine g_aload_n X dX3_describeBill_39 rfl 2 rfl ?_
  refine g_get X dX3_describeBill_40 (ci := 3) (k := 10) (v := .ref (lA A 0)) rfl k164 (by decide) rfl (BRep.obj hB8) rfl ?_
  refine g_iload_n X dX3_describeBill_43 rfl 1 rfl ?_
  refine g_if_ne (tgt := 52) X dX3_describeBill_44 (by decide) (fun c10 => ?_) (fun c10 => ?_)
  · refine g_iload_n X dX3_describeBill_52 rfl 1 rfl ?_
    refine g_iconst (v := 1) X dX3_describeBill_53 (by decide) ?_
    refine g_icmp_ne (tgt := 62) X dX3_describeBill_54 (by decide) (fun c11 => ?_) (fun c11 => ?_)
    · refine g_bipush (v := 102) X dX3_describeBill_62 (by decide) ?_
      have hsg : sgn ((w.1 0).2.1 3 (cN b)) = 102 := (if_neg c10).trans (if_neg c11)
      refine g_callV (As := [.int 102]) (ci := 2) X dX3_describeBill_64 (c_X2_putSign κ.l hl κ.Γ M5 (lA A) (lNum (hsc w.2.2.2.1 0 0) b) hB8.2.2.2.1 hI7 102 rfl) k1018 k1015 k1016 k4 k1017 rfl (LRep.obj hB8.2.2.2.1) ⟨rfl, by decide, by decide, (show (parseMethodDescriptor yX2_putSign.desc).map (fun d => d.parameters.length) = some 1 by decide +kernel)⟩ rfl (Nat.le_of_ble_eq_true rfl) (by rw [hRm]; decide) (by rw [hRm]; exact ⟨Nat.le_of_ble_eq_true rfl, Nat.le_of_ble_eq_true rfl⟩) (fun v11 M11 h11 => ?_) (fun _ _ h9 => by cases h9.1)
      obtain ⟨e11, hR11, hF11⟩ := h11
      cases e11
      have hI13 : LInv (lPut (lNum (hsc w.2.2.2.1 0 0) b) 102) := LInv.put hI7 rfl
      have hB14 : BRep κ.Γ A (wL w (lPut (lNum (hsc w.2.2.2.1 0 0) b) 102)) M11 := BRep.ln2 hB8 hR11 hF11
      have hFA15 : Fr A 315 M M11 := Fr.tr hFA9 (Fr.lA hF11)
      refine g_aload_n X dX3_describeBill_67 rfl 2 rfl ?_
      refine g_get X dX3_describeBill_68 (ci := 3) (k := 10) (v := .ref (lA A 0)) rfl k164 (by decide) rfl (BRep.obj hB14) rfl ?_
      refine g_aload_n X dX3_describeBill_71 rfl 2 rfl ?_
      refine g_get X dX3_describeBill_72 (ci := 3) (k := 0) (v := .ref (hA A 0 0)) rfl k154 (by decide) rfl (BRep.obj hB14) rfl ?_
      refine g_getN X dX3_describeBill_75 (ci := 1) (k := 7) (v := .ref (hA A 0 4)) rfl k57 (by decide) rfl (HRep.obj (hB14.1 0 (by decide))) rfl ?_
      refine g_iload_n X dX3_describeBill_78 rfl 3 rfl ?_
      refine g_iaload X dX3_describeBill_79 (HRep.row (hB14.1 0 (by decide)) 4 (by decide) (by decide)) ((hI.1 0 (by decide)).b g1) ?_
      refine g_callV (As := [.int ((w.1 0).2.1 4 (cN b))]) (ci := 2) X dX3_describeBill_80 (c_X2_putNumber κ.l hl κ.Γ M11 (lA A) (lPut (lNum (hsc w.2.2.2.1 0 0) b) 102) hB14.2.2.2.1 hI13 ((w.1 0).2.1 4 (cN b))) k1010 k1011 k1012 k4 k1013 rfl (LRep.obj hB14.2.2.2.1) ⟨rfl, by decide, by decide, (show (parseMethodDescriptor yX2_putNumber.desc).map (fun d => d.parameters.length) = some 1 by decide +kernel)⟩ rfl (Nat.le_of_ble_eq_true rfl) (by rw [hRm]; decide) (by rw [hRm]; exact ⟨Nat.le_of_ble_eq_true rfl, Nat.le_of_ble_eq_true rfl⟩) (fun v15 M15 h15 => ?_) (fun _ _ h9 => by cases h9.1)
      obtain ⟨e15, hR15, hF15⟩ := h15
      cases e15
      have hI17 : LInv (lNum (lPut (lNum (hsc w.2.2.2.1 0 0) b) 102) ((w.1 0).2.1 4 (cN b))) := LInv.num hI13 _
      have hB18 : BRep κ.Γ A (wL w (lNum (lPut (lNum (hsc w.2.2.2.1 0 0) b) 102) ((w.1 0).2.1 4 (cN b)))) M15 := BRep.ln2 hB14 hR15 hF15
      have hFA19 : Fr A 315 M M15 := Fr.tr hFA15 (Fr.lA hF15)
      refine g_iconst (v := 0) X dX3_describeBill_83 (by decide) ?_
      refine g_istore (L' := [(4, .int 0), (3, .int (hRust (w.1 0) (cN b))), (2, .int ((w.1 0).2.1 3 (cN b))), (0, .ref (A 313)), (1, .int b)]) X dX3_describeBill_84 (by rw [hnL]; decide) rfl ?_
      have eD : lNum (lPut (lNum (hsc w.2.2.2.1 0 0) b) 102) ((w.1 0).2.1 4 (cN b)) = dL3 (w.1 0) w.2.2.2.1 b := by unfold dL3; rw [hsg]
      have hI3 : LInv (dL3 (w.1 0) w.2.2.2.1 b) := hI.2.2.2.1.d3 b
      have lp : ∀ (n i : Nat) (M9 : Hp), cN (hRust (w.1 0) (cN b)) - i < n → i ≤ cN (hRust (w.1 0) (cN b)) → BRep κ.Γ A (wL w (lStar (dL3 (w.1 0) w.2.2.2.1 b) i)) M9 → Fr A 315 M M9 → G κ M9 (0 + 1) (0 + 6) [(4, .int (nI i)), (3, .int (hRust (w.1 0) (cN b))), (2, .int ((w.1 0).2.1 3 (cN b))), (1, .int b), (0, .ref (A 313))] 86 [] := by
        intro n
        induction n with
        | zero => intro i _ h1; exact absurd h1 (Nat.not_lt_zero _)
        | succ n ih =>
          intro i M9 hi1 hi2 hB9 hF9
          have hI9 : LInv (lStar (dL3 (w.1 0) w.2.2.2.1 b) i) := hI3.star i
          have hi3 := cN_31 (hRust (w.1 0) (cN b))
          refine g_iload X dX3_describeBill_86 0 rfl ?_
          refine g_iload_n X dX3_describeBill_88 rfl 1 rfl ?_
          refine g_icmp_ge (tgt := 107) X dX3_describeBill_89 (by decide) (fun c20 => ?_) (fun c20 => ?_)
          · have heq9 : i = cN (hRust (w.1 0) (cN b)) := Nat.le_antisymm hi2 (cN_of_ge (by omega) c20)
            subst heq9
            refine g_aload_n X dX3_describeBill_107 rfl 4 rfl ?_
            refine g_get X dX3_describeBill_108 (ci := 3) (k := 10) (v := .ref (lA A 0)) rfl k164 (by decide) rfl (BRep.obj hB9) rfl ?_
            refine g_bipush (v := 58) X dX3_describeBill_111 (by decide) ?_
            refine g_callV (As := [.int 58]) (ci := 2) X dX3_describeBill_113 (c_X2_putSign κ.l hl κ.Γ M9 (lA A) (lStar (dL3 (w.1 0) w.2.2.2.1 b) (cN (hRust (w.1 0) (cN b)))) hB9.2.2.2.1 hI9 58 rfl) k1018 k1015 k1016 k4 k1017 rfl (LRep.obj hB9.2.2.2.1) ⟨rfl, by decide, by decide, (show (parseMethodDescriptor yX2_putSign.desc).map (fun d => d.parameters.length) = some 1 by decide +kernel)⟩ rfl (Nat.le_of_ble_eq_true rfl) (by rw [hRm]; decide) (by rw [hRm]; exact ⟨Nat.le_of_ble_eq_true rfl, Nat.le_of_ble_eq_true rfl⟩) (fun v20 M20 h20 => ?_) (fun _ _ h9 => by cases h9.1)
            obtain ⟨e20, hR20, hF20⟩ := h20
            cases e20
            have hI22 : LInv (lPut (lStar (dL3 (w.1 0) w.2.2.2.1 b) (cN (hRust (w.1 0) (cN b)))) 58) := LInv.put hI9 rfl
            have hB23 : BRep κ.Γ A (wL w (lPut (lStar (dL3 (w.1 0) w.2.2.2.1 b) (cN (hRust (w.1 0) (cN b)))) 58)) M20 := BRep.ln2 hB9 hR20 hF20
            have hFA24 : Fr A 315 M M20 := Fr.tr hF9 (Fr.lA hF20)
            refine g_aload_n X dX3_describeBill_116 rfl 4 rfl ?_
            refine g_get X dX3_describeBill_117 (ci := 3) (k := 10) (v := .ref (lA A 0)) rfl k164 (by decide) rfl (BRep.obj hB23) rfl ?_
            refine g_aload_n X dX3_describeBill_120 rfl 4 rfl ?_
            refine g_get X dX3_describeBill_121 (ci := 3) (k := 0) (v := .ref (hA A 0 0)) rfl k154 (by decide) rfl (BRep.obj hB23) rfl ?_
            refine g_getN X dX3_describeBill_124 (ci := 1) (k := 8) (v := .ref (hA A 0 9)) rfl k59 (by decide) rfl (HRep.obj (hB23.1 0 (by decide))) rfl ?_
            refine g_iload_n X dX3_describeBill_127 rfl 3 rfl ?_
            refine g_laload X dX3_describeBill_128 (HRep.longs (hB23.1 0 (by decide))) ((hI.1 0 (by decide)).b g1) ?_
            refine g_callS_rd (As := [.long ((w.1 0).2.2 (cN b))]) (v := some (.int (jbl ((w.1 0).2.2 (cN b))))) X dX3_describeBill_129 (c_jbl κ.l hl κ.Γ M20 ((w.1 0).2.2 (cN b))) k624 k625 k20 k626 ⟨by decide, by decide, (show (parseMethodDescriptor yJ13_bitCount_95d88.desc).map (fun d => d.parameters.length) = some 1 by decide +kernel)⟩ rfl (Nat.le_of_ble_eq_true rfl) (by rw [hRm]; decide) (by rw [hRm]; exact ⟨Nat.le_of_ble_eq_true rfl, Nat.le_of_ble_eq_true rfl⟩) ?_
            refine g_callV (As := [.int (jbl ((w.1 0).2.2 (cN b)))]) (ci := 2) X dX3_describeBill_132 (c_X2_putNumber κ.l hl κ.Γ M20 (lA A) (lPut (lStar (dL3 (w.1 0) w.2.2.2.1 b) (cN (hRust (w.1 0) (cN b)))) 58) hB23.2.2.2.1 hI22 (jbl ((w.1 0).2.2 (cN b)))) k1010 k1011 k1012 k4 k1013 rfl (LRep.obj hB23.2.2.2.1) ⟨rfl, by decide, by decide, (show (parseMethodDescriptor yX2_putNumber.desc).map (fun d => d.parameters.length) = some 1 by decide +kernel)⟩ rfl (Nat.le_of_ble_eq_true rfl) (by rw [hRm]; decide) (by rw [hRm]; exact ⟨Nat.le_of_ble_eq_true rfl, Nat.le_of_ble_eq_true rfl⟩) (fun v24 M24 h24 => ?_) (fun _ _ h9 => by cases h9.1)
            obtain ⟨e24, hR24, hF24⟩ := h24
            cases e24
            have hI26 : LInv (lNum (lPut (lStar (dL3 (w.1 0) w.2.2.2.1 b) (cN (hRust (w.1 0) (cN b)))) 58) (jbl ((w.1 0).2.2 (cN b)))) := LInv.num hI22 _
            have hB27 : BRep κ.Γ A (wL w (lNum (lPut (lStar (dL3 (w.1 0) w.2.2.2.1 b) (cN (hRust (w.1 0) (cN b)))) 58) (jbl ((w.1 0).2.2 (cN b))))) M24 := BRep.ln2 hB23 hR24 hF24
            have hFA28 : Fr A 315 M M24 := Fr.tr hFA24 (Fr.lA hF24)
            have hB6 : BRep κ.Γ A (wL w (dL6 (w.1 0) w.2.2.2.1 b)) M24 := by unfold dL6; exact hB27
            have hI6 : LInv (dL6 (w.1 0) w.2.2.2.1 b) := by unfold dL6; exact hI26
            refine g_iload_n X dX3_describeBill_135 rfl 2 rfl ?_
            refine g_if_ne (tgt := 203) X dX3_describeBill_136 (by decide) (fun c29 => ?_) (fun c29 => ?_)
            · refine g_aload_n X dX3_describeBill_203 rfl 4 rfl ?_
              refine g_get X dX3_describeBill_204 (ci := 3) (k := 10) (v := .ref (lA A 0)) rfl k164 (by decide) rfl (BRep.obj hB6) rfl ?_
              refine g_getN X dX3_describeBill_207 (ci := 2) (k := 1) (v := .int ((wL w (dL6 (w.1 0) w.2.2.2.1 b)).2.2.2.1.1 0)) rfl k148 (by decide) rfl (LRep.obj hB6.2.2.2.1) rfl ?_
              exact g_iret X F dX3_describeBill_210 (Nat.le_of_ble_eq_true rfl) (Nat.le_of_ble_eq_true rfl) (by unfold pDescribeBill; rw [pG_y g1]; exact (by rw [show dL (w.1 0) w.2.2.2.1 b = dL6 (w.1 0) w.2.2.2.1 b from if_neg c29]; exact ⟨rfl, hB6, hFA28⟩))
            · refine g_aload_n X dX3_describeBill_139 rfl 4 rfl ?_
              refine g_get X dX3_describeBill_140 (ci := 3) (k := 10) (v := .ref (lA A 0)) rfl k164 (by decide) rfl (BRep.obj hB6) rfl ?_
              refine g_bipush (v := 43) X dX3_describeBill_143 (by decide) ?_
              refine g_callV (As := [.int 43]) (ci := 2) X dX3_describeBill_145 (c_X2_putSign κ.l hl κ.Γ M24 (lA A) (dL6 (w.1 0) w.2.2.2.1 b) hB6.2.2.2.1 hI6 43 rfl) k1018 k1015 k1016 k4 k1017 rfl (LRep.obj hB6.2.2.2.1) ⟨rfl, by decide, by decide, (show (parseMethodDescriptor yX2_putSign.desc).map (fun d => d.parameters.length) = some 1 by decide +kernel)⟩ rfl (Nat.le_of_ble_eq_true rfl) (by rw [hRm]; decide) (by rw [hRm]; exact ⟨Nat.le_of_ble_eq_true rfl, Nat.le_of_ble_eq_true rfl⟩) (fun v29 M29 h29 => ?_) (fun _ _ h9 => by cases h9.1)
              obtain ⟨e29, hR29, hF29⟩ := h29
              cases e29
              have hI31 : LInv (lPut (dL6 (w.1 0) w.2.2.2.1 b) 43) := LInv.put hI6 rfl
              have hB32 : BRep κ.Γ A (wL w (lPut (dL6 (w.1 0) w.2.2.2.1 b) 43)) M29 := BRep.ln2 hB6 hR29 hF29
              have hFA33 : Fr A 315 M M29 := Fr.tr hFA28 (Fr.lA hF29)
              refine g_aload_n X dX3_describeBill_148 rfl 4 rfl ?_
              refine g_get X dX3_describeBill_149 (ci := 3) (k := 10) (v := .ref (lA A 0)) rfl k164 (by decide) rfl (BRep.obj hB32) rfl ?_
              refine g_aload_n X dX3_describeBill_152 rfl 4 rfl ?_
              refine g_get X dX3_describeBill_153 (ci := 3) (k := 0) (v := .ref (hA A 0 0)) rfl k154 (by decide) rfl (BRep.obj hB32) rfl ?_
              refine g_aload_n X dX3_describeBill_156 rfl 4 rfl ?_
              refine g_get X dX3_describeBill_157 (ci := 3) (k := 0) (v := .ref (hA A 0 0)) rfl k154 (by decide) rfl (BRep.obj hB32) rfl ?_
              refine g_getN X dX3_describeBill_160 (ci := 1) (k := 10) (v := .ref (hA A 0 6)) rfl k63 (by decide) rfl (HRep.obj (hB32.1 0 (by decide))) rfl ?_
              refine g_iload_n X dX3_describeBill_163 rfl 3 rfl ?_
              refine g_iaload X dX3_describeBill_164 (HRep.row (hB32.1 0 (by decide)) 6 (by decide) (by decide)) ((hI.1 0 (by decide)).b g1) ?_
              refine g_callV_rd (As := [.int ((w.1 0).2.1 6 (cN b))]) (ci := 1) (v := some (.int (hW (w.1 0) ((w.1 0).2.1 6 (cN b))))) X dX3_describeBill_165 (c_X1_weightOfSet κ.l hl κ.Γ M29 (hA A 0) (w.1 0) (hB32.1 0 (by decide)) ((w.1 0).2.1 6 (cN b))) k254 k255 k256 k2 k257 rfl (hB32.1 0 (by decide)).obj ⟨rfl, by decide, by decide, (show (parseMethodDescriptor yX1_weightOfSet.desc).map (fun d => d.parameters.length) = some 1 by decide +kernel)⟩ rfl (Nat.le_of_ble_eq_true rfl) (by rw [hRm]; decide) (by rw [hRm]; exact ⟨Nat.le_of_ble_eq_true rfl, Nat.le_of_ble_eq_true rfl⟩) ?_
              refine g_callV (As := [.int (hW (w.1 0) ((w.1 0).2.1 6 (cN b)))]) (ci := 2) X dX3_describeBill_168 (c_X2_putNumber κ.l hl κ.Γ M29 (lA A) (lPut (dL6 (w.1 0) w.2.2.2.1 b) 43) hB32.2.2.2.1 hI31 (hW (w.1 0) ((w.1 0).2.1 6 (cN b)))) k1010 k1011 k1012 k4 k1013 rfl (LRep.obj hB32.2.2.2.1) ⟨rfl, by decide, by decide, (show (parseMethodDescriptor yX2_putNumber.desc).map (fun d => d.parameters.length) = some 1 by decide +kernel)⟩ rfl (Nat.le_of_ble_eq_true rfl) (by rw [hRm]; decide) (by rw [hRm]; exact ⟨Nat.le_of_ble_eq_true rfl, Nat.le_of_ble_eq_true rfl⟩) (fun v33 M33 h33 => ?_) (fun _ _ h9 => by cases h9.1)
              obtain ⟨e33, hR33, hF33⟩ := h33
              cases e33
              have hI35 : LInv (lNum (lPut (dL6 (w.1 0) w.2.2.2.1 b) 43) (hW (w.1 0) ((w.1 0).2.1 6 (cN b)))) := LInv.num hI31 _
              have hB36 : BRep κ.Γ A (wL w (lNum (lPut (dL6 (w.1 0) w.2.2.2.1 b) 43) (hW (w.1 0) ((w.1 0).2.1 6 (cN b))))) M33 := BRep.ln2 hB32 hR33 hF33
              have hFA37 : Fr A 315 M M33 := Fr.tr hFA33 (Fr.lA hF33)
              refine g_aload_n X dX3_describeBill_171 rfl 4 rfl ?_
              refine g_get X dX3_describeBill_172 (ci := 3) (k := 10) (v := .ref (lA A 0)) rfl k164 (by decide) rfl (BRep.obj hB36) rfl ?_
              refine g_bipush (v := 45) X dX3_describeBill_175 (by decide) ?_
              refine g_callV (As := [.int 45]) (ci := 2) X dX3_describeBill_177 (c_X2_putSign κ.l hl κ.Γ M33 (lA A) (lNum (lPut (dL6 (w.1 0) w.2.2.2.1 b) 43) (hW (w.1 0) ((w.1 0).2.1 6 (cN b)))) hB36.2.2.2.1 hI35 45 rfl) k1018 k1015 k1016 k4 k1017 rfl (LRep.obj hB36.2.2.2.1) ⟨rfl, by decide, by decide, (show (parseMethodDescriptor yX2_putSign.desc).map (fun d => d.parameters.length) = some 1 by decide +kernel)⟩ rfl (Nat.le_of_ble_eq_true rfl) (by rw [hRm]; decide) (by rw [hRm]; exact ⟨Nat.le_of_ble_eq_true rfl, Nat.le_of_ble_eq_true rfl⟩) (fun v37 M37 h37 => ?_) (fun _ _ h9 => by cases h9.1)
              obtain ⟨e37, hR37, hF37⟩ := h37
              cases e37
              have hI39 : LInv (lPut (lNum (lPut (dL6 (w.1 0) w.2.2.2.1 b) 43) (hW (w.1 0) ((w.1 0).2.1 6 (cN b)))) 45) := LInv.put hI35 rfl
              have hB40 : BRep κ.Γ A (wL w (lPut (lNum (lPut (dL6 (w.1 0) w.2.2.2.1 b) 43) (hW (w.1 0) ((w.1 0).2.1 6 (cN b)))) 45)) M37 := BRep.ln2 hB36 hR37 hF37
              have hFA41 : Fr A 315 M M37 := Fr.tr hFA37 (Fr.lA hF37)
              refine g_aload_n X dX3_describeBill_180 rfl 4 rfl ?_
              refine g_get X dX3_describeBill_181 (ci := 3) (k := 10) (v := .ref (lA A 0)) rfl k164 (by decide) rfl (BRep.obj hB40) rfl ?_
              refine g_aload_n X dX3_describeBill_184 rfl 4 rfl ?_
              refine g_get X dX3_describeBill_185 (ci := 3) (k := 0) (v := .ref (hA A 0 0)) rfl k154 (by decide) rfl (BRep.obj hB40) rfl ?_
              refine g_aload_n X dX3_describeBill_188 rfl 4 rfl ?_
              refine g_get X dX3_describeBill_189 (ci := 3) (k := 0) (v := .ref (hA A 0 0)) rfl k154 (by decide) rfl (BRep.obj hB40) rfl ?_
              refine g_getN X dX3_describeBill_192 (ci := 1) (k := 11) (v := .ref (hA A 0 7)) rfl k65 (by decide) rfl (HRep.obj (hB40.1 0 (by decide))) rfl ?_
              refine g_iload_n X dX3_describeBill_195 rfl 3 rfl ?_
              refine g_iaload X dX3_describeBill_196 (HRep.row (hB40.1 0 (by decide)) 7 (by decide) (by decide)) ((hI.1 0 (by decide)).b g1) ?_
              refine g_callV_rd (As := [.int ((w.1 0).2.1 7 (cN b))]) (ci := 1) (v := some (.int (hW (w.1 0) ((w.1 0).2.1 7 (cN b))))) X dX3_describeBill_197 (c_X1_weightOfSet κ.l hl κ.Γ M37 (hA A 0) (w.1 0) (hB40.1 0 (by decide)) ((w.1 0).2.1 7 (cN b))) k254 k255 k256 k2 k257 rfl (hB40.1 0 (by decide)).obj ⟨rfl, by decide, by decide, (show (parseMethodDescriptor yX1_weightOfSet.desc).map (fun d => d.parameters.length) = some 1 by decide +kernel)⟩ rfl (Nat.le_of_ble_eq_true rfl) (by rw [hRm]; decide) (by rw [hRm]; exact ⟨Nat.le_of_ble_eq_true rfl, Nat.le_of_ble_eq_true rfl⟩) ?_
              refine g_callV (As := [.int (hW (w.1 0) ((w.1 0).2.1 7 (cN b)))]) (ci := 2) X dX3_describeBill_200 (c_X2_putNumber κ.l hl κ.Γ M37 (lA A) (lPut (lNum (lPut (dL6 (w.1 0) w.2.2.2.1 b) 43) (hW (w.1 0) ((w.1 0).2.1 6 (cN b)))) 45) hB40.2.2.2.1 hI39 (hW (w.1 0) ((w.1 0).2.1 7 (cN b)))) k1010 k1011 k1012 k4 k1013 rfl (LRep.obj hB40.2.2.2.1) ⟨rfl, by decide, by decide, (show (parseMethodDescriptor yX2_putNumber.desc).map (fun d => d.parameters.length) = some 1 by decide +kernel)⟩ rfl (Nat.le_of_ble_eq_true rfl) (by rw [hRm]; decide) (by rw [hRm]; exact ⟨Nat.le_of_ble_eq_true rfl, Nat.le_of_ble_eq_true rfl⟩) (fun v41 M41 h41 => ?_) (fun _ _ h9 => by cases h9.1)
              obtain ⟨e41, hR41, hF41⟩ := h41
              cases e41
              have hI43 : LInv (lNum (lPut (lNum (lPut (dL6 (w.1 0) w.2.2.2.1 b) 43) (hW (w.1 0) ((w.1 0).2.1 6 (cN b)))) 45) (hW (w.1 0) ((w.1 0).2.1 7 (cN b)))) := LInv.num hI39 _
              have hB44 : BRep κ.Γ A (wL w (lNum (lPut (lNum (lPut (dL6 (w.1 0) w.2.2.2.1 b) 43) (hW (w.1 0) ((w.1 0).2.1 6 (cN b)))) 45) (hW (w.1 0) ((w.1 0).2.1 7 (cN b))))) M41 := BRep.ln2 hB40 hR41 hF41
              have hFA45 : Fr A 315 M M41 := Fr.tr hFA41 (Fr.lA hF41)
              refine g_aload_n X dX3_describeBill_203 rfl 4 rfl ?_
              refine g_get X dX3_describeBill_204 (ci := 3) (k := 10) (v := .ref (lA A 0)) rfl k164 (by decide) rfl (BRep.obj hB44) rfl ?_
              refine g_getN X dX3_describeBill_207 (ci := 2) (k := 1) (v := .int ((wL w (lNum (lPut (lNum (lPut (dL6 (w.1 0) w.2.2.2.1 b) 43) (hW (w.1 0) ((w.1 0).2.1 6 (cN b)))) 45) (hW (w.1 0) ((w.1 0).2.1 7 (cN b))))).2.2.2.1.1 0)) rfl k148 (by decide) rfl (LRep.obj hB44.2.2.2.1) rfl ?_
              exact g_iret X F dX3_describeBill_210 (Nat.le_of_ble_eq_true rfl) (Nat.le_of_ble_eq_true rfl) (by unfold pDescribeBill; rw [pG_y g1]; exact (by rw [show dL (w.1 0) w.2.2.2.1 b = lNum (lPut (lNum (lPut (dL6 (w.1 0) w.2.2.2.1 b) 43) (hW (w.1 0) ((w.1 0).2.1 6 (cN b)))) 45) (hW (w.1 0) ((w.1 0).2.1 7 (cN b))) from if_pos c29]; exact ⟨rfl, hB44, hFA45⟩))
          · have hlt9 : i < cN (hRust (w.1 0) (cN b)) := cN_of_nge (by omega) c20
            refine g_aload_n X dX3_describeBill_92 rfl 4 rfl ?_
            refine g_get X dX3_describeBill_93 (ci := 3) (k := 10) (v := .ref (lA A 0)) rfl k164 (by decide) rfl (BRep.obj hB9) rfl ?_
            refine g_bipush (v := 42) X dX3_describeBill_96 (by decide) ?_
            refine g_callV (As := [.int 42]) (ci := 2) X dX3_describeBill_98 (c_X2_putSign κ.l hl κ.Γ M9 (lA A) (lStar (dL3 (w.1 0) w.2.2.2.1 b) i) hB9.2.2.2.1 hI9 42 rfl) k1018 k1015 k1016 k4 k1017 rfl (LRep.obj hB9.2.2.2.1) ⟨rfl, by decide, by decide, (show (parseMethodDescriptor yX2_putSign.desc).map (fun d => d.parameters.length) = some 1 by decide +kernel)⟩ rfl (Nat.le_of_ble_eq_true rfl) (by rw [hRm]; decide) (by rw [hRm]; exact ⟨Nat.le_of_ble_eq_true rfl, Nat.le_of_ble_eq_true rfl⟩) (fun v45 M45 h45 => ?_) (fun _ _ h9 => by cases h9.1)
            obtain ⟨e45, hR45, hF45⟩ := h45
            cases e45
            have hI47 : LInv (lPut (lStar (dL3 (w.1 0) w.2.2.2.1 b) i) 42) := LInv.put hI9 rfl
            have hB48 : BRep κ.Γ A (wL w (lPut (lStar (dL3 (w.1 0) w.2.2.2.1 b) i) 42)) M45 := BRep.ln2 hB9 hR45 hF45
            have hFA49 : Fr A 315 M M45 := Fr.tr hF9 (Fr.lA hF45)
            refine g_iinc (k := 0) (v := (nI (i + 1))) (L' := [(4, .int (nI (i + 1))), (3, .int (hRust (w.1 0) (cN b))), (2, .int ((w.1 0).2.1 3 (cN b))), (1, .int b), (0, .ref (A 313))]) X dX3_describeBill_101 rfl (nI_1 _) (by rw [hnL]; decide) rfl ?_
            refine g_goto (tgt := 86) X dX3_describeBill_104 (by decide) ?_
            refine g_locs [0, 1, 2, 3, 4] (L' := [(4, .int (nI (i + 1))), (3, .int (hRust (w.1 0) (cN b))), (2, .int ((w.1 0).2.1 3 (cN b))), (1, .int b), (0, .ref (A 313))]) rfl ?_
            exact ih (i + 1) M45 (by omega) (by omega) hB48 (hFA49)
      refine g_locs [0, 1, 2, 4, 3] (L' := [(4, .int (nI 0)), (3, .int (hRust (w.1 0) (cN b))), (2, .int ((w.1 0).2.1 3 (cN b))), (1, .int b), (0, .ref (A 313))]) rfl ?_
      exact lp (cN (hRust (w.1 0) (cN b)) + 1) 0 M15 (by omega) (by omega) (by rw [show lStar (dL3 (w.1 0) w.2.2.2.1 b) 0 = dL3 (w.1 0) w.2.2.2.1 b from rfl, ← eD]; exact hB18) hFA19
    · refine g_bipush (v := 112) X dX3_describeBill_57 (by decide) ?_
      refine g_goto (tgt := 64) X dX3_describeBill_59 (by decide) ?_
      have hsg : sgn ((w.1 0).2.1 3 (cN b)) = 112 := (if_neg c10).trans (if_pos c11)
      refine g_callV (As := [.int 112]) (ci := 2) X dX3_describeBill_64 (c_X2_putSign κ.l hl κ.Γ M5 (lA A) (lNum (hsc w.2.2.2.1 0 0) b) hB8.2.2.2.1 hI7 112 rfl) k1018 k1015 k1016 k4 k1017 rfl (LRep.obj hB8.2.2.2.1) ⟨rfl, by decide, by decide, (show (parseMethodDescriptor yX2_putSign.desc).map (fun d => d.parameters.length) = some 1 by decide +kernel)⟩ rfl (Nat.le_of_ble_eq_true rfl) (by rw [hRm]; decide) (by rw [hRm]; exact ⟨Nat.le_of_ble_eq_true rfl, Nat.le_of_ble_eq_true rfl⟩) (fun v49 M49 h49 => ?_) (fun _ _ h9 => by cases h9.1)
      obtain ⟨e49, hR49, hF49⟩ := h49
      cases e49
      have hI51 : LInv (lPut (lNum (hsc w.2.2.2.1 0 0) b) 112) := LInv.put hI7 rfl
      have hB52 : BRep κ.Γ A (wL w (lPut (lNum (hsc w.2.2.2.1 0 0) b) 112)) M49 := BRep.ln2 hB8 hR49 hF49
      have hFA53 : Fr A 315 M M49 := Fr.tr hFA9 (Fr.lA hF49)
      refine g_aload_n X dX3_describeBill_67 rfl 2 rfl ?_
      refine g_get X dX3_describeBill_68 (ci := 3) (k := 10) (v := .ref (lA A 0)) rfl k164 (by decide) rfl (BRep.obj hB52) rfl ?_
      refine g_aload_n X dX3_describeBill_71 rfl 2 rfl ?_
      refine g_get X dX3_describeBill_72 (ci := 3) (k := 0) (v := .ref (hA A 0 0)) rfl k154 (by decide) rfl (BRep.obj hB52) rfl ?_
      refine g_getN X dX3_describeBill_75 (ci := 1) (k := 7) (v := .ref (hA A 0 4)) rfl k57 (by decide) rfl (HRep.obj (hB52.1 0 (by decide))) rfl ?_
      refine g_iload_n X dX3_describeBill_78 rfl 3 rfl ?_
      refine g_iaload X dX3_describeBill_79 (HRep.row (hB52.1 0 (by decide)) 4 (by decide) (by decide)) ((hI.1 0 (by decide)).b g1) ?_
      refine g_callV (As := [.int ((w.1 0).2.1 4 (cN b))]) (ci := 2) X dX3_describeBill_80 (c_X2_putNumber κ.l hl κ.Γ M49 (lA A) (lPut (lNum (hsc w.2.2.2.1 0 0) b) 112) hB52.2.2.2.1 hI51 ((w.1 0).2.1 4 (cN b))) k1010 k1011 k1012 k4 k1013 rfl (LRep.obj hB52.2.2.2.1) ⟨rfl, by decide, by decide, (show (parseMethodDescriptor yX2_putNumber.desc).map (fun d => d.parameters.length) = some 1 by decide +kernel)⟩ rfl (Nat.le_of_ble_eq_true rfl) (by rw [hRm]; decide) (by rw [hRm]; exact ⟨Nat.le_of_ble_eq_true rfl, Nat.le_of_ble_eq_true rfl⟩) (fun v53 M53 h53 => ?_) (fun _ _ h9 => by cases h9.1)
      obtain ⟨e53, hR53, hF53⟩ := h53
      cases e53
      have hI55 : LInv (lNum (lPut (lNum (hsc w.2.2.2.1 0 0) b) 112) ((w.1 0).2.1 4 (cN b))) := LInv.num hI51 _
      have hB56 : BRep κ.Γ A (wL w (lNum (lPut (lNum (hsc w.2.2.2.1 0 0) b) 112) ((w.1 0).2.1 4 (cN b)))) M53 := BRep.ln2 hB52 hR53 hF53
      have hFA57 : Fr A 315 M M53 := Fr.tr hFA53 (Fr.lA hF53)
      refine g_iconst (v := 0) X dX3_describeBill_83 (by decide) ?_
      refine g_istore (L' := [(4, .int 0), (3, .int (hRust (w.1 0) (cN b))), (2, .int ((w.1 0).2.1 3 (cN b))), (0, .ref (A 313)), (1, .int b)]) X dX3_describeBill_84 (by rw [hnL]; decide) rfl ?_
      have eD : lNum (lPut (lNum (hsc w.2.2.2.1 0 0) b) 112) ((w.1 0).2.1 4 (cN b)) = dL3 (w.1 0) w.2.2.2.1 b := by unfold dL3; rw [hsg]
      have hI3 : LInv (dL3 (w.1 0) w.2.2.2.1 b) := hI.2.2.2.1.d3 b
      have lp : ∀ (n i : Nat) (M9 : Hp), cN (hRust (w.1 0) (cN b)) - i < n → i ≤ cN (hRust (w.1 0) (cN b)) → BRep κ.Γ A (wL w (lStar (dL3 (w.1 0) w.2.2.2.1 b) i)) M9 → Fr A 315 M M9 → G κ M9 (0 + 1) (0 + 6) [(4, .int (nI i)), (3, .int (hRust (w.1 0) (cN b))), (2, .int ((w.1 0).2.1 3 (cN b))), (1, .int b), (0, .ref (A 313))] 86 [] := by
        intro n
        induction n with
        | zero => intro i _ h1; exact absurd h1 (Nat.not_lt_zero _)
        | succ n ih =>
          intro i M9 hi1 hi2 hB9 hF9
          have hI9 : LInv (lStar (dL3 (w.1 0) w.2.2.2.1 b) i) := hI3.star i
          have hi3 := cN_31 (hRust (w.1 0) (cN b))
          refine g_iload X dX3_describeBill_86 0 rfl ?_
          refine g_iload_n X dX3_describeBill_88 rfl 1 rfl ?_
          refine g_icmp_ge (tgt := 107) X dX3_describeBill_89 (by decide) (fun c58 => ?_) (fun c58 => ?_)
          · have heq9 : i = cN (hRust (w.1 0) (cN b)) := Nat.le_antisymm hi2 (cN_of_ge (by omega) c58)
            subst heq9
            refine g_aload_n X dX3_describeBill_107 rfl 4 rfl ?_
            refine g_get X dX3_describeBill_108 (ci := 3) (k := 10) (v := .ref (lA A 0)) rfl k164 (by decide) rfl (BRep.obj hB9) rfl ?_
            refine g_bipush (v := 58) X dX3_describeBill_111 (by decide) ?_
            refine g_callV (As := [.int 58]) (ci := 2) X dX3_describeBill_113 (c_X2_putSign κ.l hl κ.Γ M9 (lA A) (lStar (dL3 (w.1 0) w.2.2.2.1 b) (cN (hRust (w.1 0) (cN b)))) hB9.2.2.2.1 hI9 58 rfl) k1018 k1015 k1016 k4 k1017 rfl (LRep.obj hB9.2.2.2.1) ⟨rfl, by decide, by decide, (show (parseMethodDescriptor yX2_putSign.desc).map (fun d => d.parameters.length) = some 1 by decide +kernel)⟩ rfl (Nat.le_of_ble_eq_true rfl) (by rw [hRm]; decide) (by rw [hRm]; exact ⟨Nat.le_of_ble_eq_true rfl, Nat.le_of_ble_eq_true rfl⟩) (fun v58 M58 h58 => ?_) (fun _ _ h9 => by cases h9.1)
            obtain ⟨e58, hR58, hF58⟩ := h58
            cases e58
            have hI60 : LInv (lPut (lStar (dL3 (w.1 0) w.2.2.2.1 b) (cN (hRust (w.1 0) (cN b)))) 58) := LInv.put hI9 rfl
            have hB61 : BRep κ.Γ A (wL w (lPut (lStar (dL3 (w.1 0) w.2.2.2.1 b) (cN (hRust (w.1 0) (cN b)))) 58)) M58 := BRep.ln2 hB9 hR58 hF58
            have hFA62 : Fr A 315 M M58 := Fr.tr hF9 (Fr.lA hF58)
            refine g_aload_n X dX3_describeBill_116 rfl 4 rfl ?_
            refine g_get X dX3_describeBill_117 (ci := 3) (k := 10) (v := .ref (lA A 0)) rfl k164 (by decide) rfl (BRep.obj hB61) rfl ?_
            refine g_aload_n X dX3_describeBill_120 rfl 4 rfl ?_
            refine g_get X dX3_describeBill_121 (ci := 3) (k := 0) (v := .ref (hA A 0 0)) rfl k154 (by decide) rfl (BRep.obj hB61) rfl ?_
            refine g_getN X dX3_describeBill_124 (ci := 1) (k := 8) (v := .ref (hA A 0 9)) rfl k59 (by decide) rfl (HRep.obj (hB61.1 0 (by decide))) rfl ?_
            refine g_iload_n X dX3_describeBill_127 rfl 3 rfl ?_
            refine g_laload X dX3_describeBill_128 (HRep.longs (hB61.1 0 (by decide))) ((hI.1 0 (by decide)).b g1) ?_
            refine g_callS_rd (As := [.long ((w.1 0).2.2 (cN b))]) (v := some (.int (jbl ((w.1 0).2.2 (cN b))))) X dX3_describeBill_129 (c_jbl κ.l hl κ.Γ M58 ((w.1 0).2.2 (cN b))) k624 k625 k20 k626 ⟨by decide, by decide, (show (parseMethodDescriptor yJ13_bitCount_95d88.desc).map (fun d => d.parameters.length) = some 1 by decide +kernel)⟩ rfl (Nat.le_of_ble_eq_true rfl) (by rw [hRm]; decide) (by rw [hRm]; exact ⟨Nat.le_of_ble_eq_true rfl, Nat.le_of_ble_eq_true rfl⟩) ?_
            refine g_callV (As := [.int (jbl ((w.1 0).2.2 (cN b)))]) (ci := 2) X dX3_describeBill_132 (c_X2_putNumber κ.l hl κ.Γ M58 (lA A) (lPut (lStar (dL3 (w.1 0) w.2.2.2.1 b) (cN (hRust (w.1 0) (cN b)))) 58) hB61.2.2.2.1 hI60 (jbl ((w.1 0).2.2 (cN b)))) k1010 k1011 k1012 k4 k1013 rfl (LRep.obj hB61.2.2.2.1) ⟨rfl, by decide, by decide, (show (parseMethodDescriptor yX2_putNumber.desc).map (fun d => d.parameters.length) = some 1 by decide +kernel)⟩ rfl (Nat.le_of_ble_eq_true rfl) (by rw [hRm]; decide) (by rw [hRm]; exact ⟨Nat.le_of_ble_eq_true rfl, Nat.le_of_ble_eq_true rfl⟩) (fun v62 M62 h62 => ?_) (fun _ _ h9 => by cases h9.1)
            obtain ⟨e62, hR62, hF62⟩ := h62
            cases e62
            have hI64 : LInv (lNum (lPut (lStar (dL3 (w.1 0) w.2.2.2.1 b) (cN (hRust (w.1 0) (cN b)))) 58) (jbl ((w.1 0).2.2 (cN b)))) := LInv.num hI60 _
            have hB65 : BRep κ.Γ A (wL w (lNum (lPut (lStar (dL3 (w.1 0) w.2.2.2.1 b) (cN (hRust (w.1 0) (cN b)))) 58) (jbl ((w.1 0).2.2 (cN b))))) M62 := BRep.ln2 hB61 hR62 hF62
            have hFA66 : Fr A 315 M M62 := Fr.tr hFA62 (Fr.lA hF62)
            have hB6 : BRep κ.Γ A (wL w (dL6 (w.1 0) w.2.2.2.1 b)) M62 := by unfold dL6; exact hB65
            have hI6 : LInv (dL6 (w.1 0) w.2.2.2.1 b) := by unfold dL6; exact hI64
            refine g_iload_n X dX3_describeBill_135 rfl 2 rfl ?_
            refine g_if_ne (tgt := 203) X dX3_describeBill_136 (by decide) (fun c67 => ?_) (fun c67 => ?_)
            · refine g_aload_n X dX3_describeBill_203 rfl 4 rfl ?_
              refine g_get X dX3_describeBill_204 (ci := 3) (k := 10) (v := .ref (lA A 0)) rfl k164 (by decide) rfl (BRep.obj hB6) rfl ?_
              refine g_getN X dX3_describeBill_207 (ci := 2) (k := 1) (v := .int ((wL w (dL6 (w.1 0) w.2.2.2.1 b)).2.2.2.1.1 0)) rfl k148 (by decide) rfl (LRep.obj hB6.2.2.2.1) rfl ?_
              exact g_iret X F dX3_describeBill_210 (Nat.le_of_ble_eq_true rfl) (Nat.le_of_ble_eq_true rfl) (by unfold pDescribeBill; rw [pG_y g1]; exact (by rw [show dL (w.1 0) w.2.2.2.1 b = dL6 (w.1 0) w.2.2.2.1 b from if_neg c67]; exact ⟨rfl, hB6, hFA66⟩))
            · refine g_aload_n X dX3_describeBill_139 rfl 4 rfl ?_
              refine g_get X dX3_describeBill_140 (ci := 3) (k := 10) (v := .ref (lA A 0)) rfl k164 (by decide) rfl (BRep.obj hB6) rfl ?_
              refine g_bipush (v := 43) X dX3_describeBill_143 (by decide) ?_
              refine g_callV (As := [.int 43]) (ci := 2) X dX3_describeBill_145 (c_X2_putSign κ.l hl κ.Γ M62 (lA A) (dL6 (w.1 0) w.2.2.2.1 b) hB6.2.2.2.1 hI6 43 rfl) k1018 k1015 k1016 k4 k1017 rfl (LRep.obj hB6.2.2.2.1) ⟨rfl, by decide, by decide, (show (parseMethodDescriptor yX2_putSign.desc).map (fun d => d.parameters.length) = some 1 by decide +kernel)⟩ rfl (Nat.le_of_ble_eq_true rfl) (by rw [hRm]; decide) (by rw [hRm]; exact ⟨Nat.le_of_ble_eq_true rfl, Nat.le_of_ble_eq_true rfl⟩) (fun v67 M67 h67 => ?_) (fun _ _ h9 => by cases h9.1)
              obtain ⟨e67, hR67, hF67⟩ := h67
              cases e67
              have hI69 : LInv (lPut (dL6 (w.1 0) w.2.2.2.1 b) 43) := LInv.put hI6 rfl
              have hB70 : BRep κ.Γ A (wL w (lPut (dL6 (w.1 0) w.2.2.2.1 b) 43)) M67 := BRep.ln2 hB6 hR67 hF67
              have hFA71 : Fr A 315 M M67 := Fr.tr hFA66 (Fr.lA hF67)
              refine g_aload_n X dX3_describeBill_148 rfl 4 rfl ?_
              refine g_get X dX3_describeBill_149 (ci := 3) (k := 10) (v := .ref (lA A 0)) rfl k164 (by decide) rfl (BRep.obj hB70) rfl ?_
              refine g_aload_n X dX3_describeBill_152 rfl 4 rfl ?_
              refine g_get X dX3_describeBill_153 (ci := 3) (k := 0) (v := .ref (hA A 0 0)) rfl k154 (by decide) rfl (BRep.obj hB70) rfl ?_
              refine g_aload_n X dX3_describeBill_156 rfl 4 rfl ?_
              refine g_get X dX3_describeBill_157 (ci := 3) (k := 0) (v := .ref (hA A 0 0)) rfl k154 (by decide) rfl (BRep.obj hB70) rfl ?_
              refine g_getN X dX3_describeBill_160 (ci := 1) (k := 10) (v := .ref (hA A 0 6)) rfl k63 (by decide) rfl (HRep.obj (hB70.1 0 (by decide))) rfl ?_
              refine g_iload_n X dX3_describeBill_163 rfl 3 rfl ?_
              refine g_iaload X dX3_describeBill_164 (HRep.row (hB70.1 0 (by decide)) 6 (by decide) (by decide)) ((hI.1 0 (by decide)).b g1) ?_
              refine g_callV_rd (As := [.int ((w.1 0).2.1 6 (cN b))]) (ci := 1) (v := some (.int (hW (w.1 0) ((w.1 0).2.1 6 (cN b))))) X dX3_describeBill_165 (c_X1_weightOfSet κ.l hl κ.Γ M67 (hA A 0) (w.1 0) (hB70.1 0 (by decide)) ((w.1 0).2.1 6 (cN b))) k254 k255 k256 k2 k257 rfl (hB70.1 0 (by decide)).obj ⟨rfl, by decide, by decide, (show (parseMethodDescriptor yX1_weightOfSet.desc).map (fun d => d.parameters.length) = some 1 by decide +kernel)⟩ rfl (Nat.le_of_ble_eq_true rfl) (by rw [hRm]; decide) (by rw [hRm]; exact ⟨Nat.le_of_ble_eq_true rfl, Nat.le_of_ble_eq_true rfl⟩) ?_
              refine g_callV (As := [.int (hW (w.1 0) ((w.1 0).2.1 6 (cN b)))]) (ci := 2) X dX3_describeBill_168 (c_X2_putNumber κ.l hl κ.Γ M67 (lA A) (lPut (dL6 (w.1 0) w.2.2.2.1 b) 43) hB70.2.2.2.1 hI69 (hW (w.1 0) ((w.1 0).2.1 6 (cN b)))) k1010 k1011 k1012 k4 k1013 rfl (LRep.obj hB70.2.2.2.1) ⟨rfl, by decide, by decide, (show (parseMethodDescriptor yX2_putNumber.desc).map (fun d => d.parameters.length) = some 1 by decide +kernel)⟩ rfl (Nat.le_of_ble_eq_true rfl) (by rw [hRm]; decide) (by rw [hRm]; exact ⟨Nat.le_of_ble_eq_true rfl, Nat.le_of_ble_eq_true rfl⟩) (fun v71 M71 h71 => ?_) (fun _ _ h9 => by cases h9.1)
              obtain ⟨e71, hR71, hF71⟩ := h71
              cases e71
              have hI73 : LInv (lNum (lPut (dL6 (w.1 0) w.2.2.2.1 b) 43) (hW (w.1 0) ((w.1 0).2.1 6 (cN b)))) := LInv.num hI69 _
              have hB74 : BRep κ.Γ A (wL w (lNum (lPut (dL6 (w.1 0) w.2.2.2.1 b) 43) (hW (w.1 0) ((w.1 0).2.1 6 (cN b))))) M71 := BRep.ln2 hB70 hR71 hF71
              have hFA75 : Fr A 315 M M71 := Fr.tr hFA71 (Fr.lA hF71)
              refine g_aload_n X dX3_describeBill_171 rfl 4 rfl ?_
              refine g_get X dX3_describeBill_172 (ci := 3) (k := 10) (v := .ref (lA A 0)) rfl k164 (by decide) rfl (BRep.obj hB74) rfl ?_
              refine g_bipush (v := 45) X dX3_describeBill_175 (by decide) ?_
              refine g_callV (As := [.int 45]) (ci := 2) X dX3_describeBill_177 (c_X2_putSign κ.l hl κ.Γ M71 (lA A) (lNum (lPut (dL6 (w.1 0) w.2.2.2.1 b) 43) (hW (w.1 0) ((w.1 0).2.1 6 (cN b)))) hB74.2.2.2.1 hI73 45 rfl) k1018 k1015 k1016 k4 k1017 rfl (LRep.obj hB74.2.2.2.1) ⟨rfl, by decide, by decide, (show (parseMethodDescriptor yX2_putSign.desc).map (fun d => d.parameters.length) = some 1 by decide +kernel)⟩ rfl (Nat.le_of_ble_eq_true rfl) (by rw [hRm]; decide) (by rw [hRm]; exact ⟨Nat.le_of_ble_eq_true rfl, Nat.le_of_ble_eq_true rfl⟩) (fun v75 M75 h75 => ?_) (fun _ _ h9 => by cases h9.1)
              obtain ⟨e75, hR75, hF75⟩ := h75
              cases e75
              have hI77 : LInv (lPut (lNum (lPut (dL6 (w.1 0) w.2.2.2.1 b) 43) (hW (w.1 0) ((w.1 0).2.1 6 (cN b)))) 45) := LInv.put hI73 rfl
              have hB78 : BRep κ.Γ A (wL w (lPut (lNum (lPut (dL6 (w.1 0) w.2.2.2.1 b) 43) (hW (w.1 0) ((w.1 0).2.1 6 (cN b)))) 45)) M75 := BRep.ln2 hB74 hR75 hF75
              have hFA79 : Fr A 315 M M75 := Fr.tr hFA75 (Fr.lA hF75)
              refine g_aload_n X dX3_describeBill_180 rfl 4 rfl ?_
              refine g_get X dX3_describeBill_181 (ci := 3) (k := 10) (v := .ref (lA A 0)) rfl k164 (by decide) rfl (BRep.obj hB78) rfl ?_
              refine g_aload_n X dX3_describeBill_184 rfl 4 rfl ?_
              refine g_get X dX3_describeBill_185 (ci := 3) (k := 0) (v := .ref (hA A 0 0)) rfl k154 (by decide) rfl (BRep.obj hB78) rfl ?_
              refine g_aload_n X dX3_describeBill_188 rfl 4 rfl ?_
              refine g_get X dX3_describeBill_189 (ci := 3) (k := 0) (v := .ref (hA A 0 0)) rfl k154 (by decide) rfl (BRep.obj hB78) rfl ?_
              refine g_getN X dX3_describeBill_192 (ci := 1) (k := 11) (v := .ref (hA A 0 7)) rfl k65 (by decide) rfl (HRep.obj (hB78.1 0 (by decide))) rfl ?_
              refine g_iload_n X dX3_describeBill_195 rfl 3 rfl ?_
              refine g_iaload X dX3_describeBill_196 (HRep.row (hB78.1 0 (by decide)) 7 (by decide) (by decide)) ((hI.1 0 (by decide)).b g1) ?_
              refine g_callV_rd (As := [.int ((w.1 0).2.1 7 (cN b))]) (ci := 1) (v := some (.int (hW (w.1 0) ((w.1 0).2.1 7 (cN b))))) X dX3_describeBill_197 (c_X1_weightOfSet κ.l hl κ.Γ M75 (hA A 0) (w.1 0) (hB78.1 0 (by decide)) ((w.1 0).2.1 7 (cN b))) k254 k255 k256 k2 k257 rfl (hB78.1 0 (by decide)).obj ⟨rfl, by decide, by decide, (show (parseMethodDescriptor yX1_weightOfSet.desc).map (fun d => d.parameters.length) = some 1 by decide +kernel)⟩ rfl (Nat.le_of_ble_eq_true rfl) (by rw [hRm]; decide) (by rw [hRm]; exact ⟨Nat.le_of_ble_eq_true rfl, Nat.le_of_ble_eq_true rfl⟩) ?_
              refine g_callV (As := [.int (hW (w.1 0) ((w.1 0).2.1 7 (cN b)))]) (ci := 2) X dX3_describeBill_200 (c_X2_putNumber κ.l hl κ.Γ M75 (lA A) (lPut (lNum (lPut (dL6 (w.1 0) w.2.2.2.1 b) 43) (hW (w.1 0) ((w.1 0).2.1 6 (cN b)))) 45) hB78.2.2.2.1 hI77 (hW (w.1 0) ((w.1 0).2.1 7 (cN b)))) k1010 k1011 k1012 k4 k1013 rfl (LRep.obj hB78.2.2.2.1) ⟨rfl, by decide, by decide, (show (parseMethodDescriptor yX2_putNumber.desc).map (fun d => d.parameters.length) = some 1 by decide +kernel)⟩ rfl (Nat.le_of_ble_eq_true rfl) (by rw [hRm]; decide) (by rw [hRm]; exact ⟨Nat.le_of_ble_eq_true rfl, Nat.le_of_ble_eq_true rfl⟩) (fun v79 M79 h79 => ?_) (fun _ _ h9 => by cases h9.1)
              obtain ⟨e79, hR79, hF79⟩ := h79
              cases e79
              have hI81 : LInv (lNum (lPut (lNum (lPut (dL6 (w.1 0) w.2.2.2.1 b) 43) (hW (w.1 0) ((w.1 0).2.1 6 (cN b)))) 45) (hW (w.1 0) ((w.1 0).2.1 7 (cN b)))) := LInv.num hI77 _
              have hB82 : BRep κ.Γ A (wL w (lNum (lPut (lNum (lPut (dL6 (w.1 0) w.2.2.2.1 b) 43) (hW (w.1 0) ((w.1 0).2.1 6 (cN b)))) 45) (hW (w.1 0) ((w.1 0).2.1 7 (cN b))))) M79 := BRep.ln2 hB78 hR79 hF79
              have hFA83 : Fr A 315 M M79 := Fr.tr hFA79 (Fr.lA hF79)
              refine g_aload_n X dX3_describeBill_203 rfl 4 rfl ?_
              refine g_get X dX3_describeBill_204 (ci := 3) (k := 10) (v := .ref (lA A 0)) rfl k164 (by decide) rfl (BRep.obj hB82) rfl ?_
              refine g_getN X dX3_describeBill_207 (ci := 2) (k := 1) (v := .int ((wL w (lNum (lPut (lNum (lPut (dL6 (w.1 0) w.2.2.2.1 b) 43) (hW (w.1 0) ((w.1 0).2.1 6 (cN b)))) 45) (hW (w.1 0) ((w.1 0).2.1 7 (cN b))))).2.2.2.1.1 0)) rfl k148 (by decide) rfl (LRep.obj hB82.2.2.2.1) rfl ?_
              exact g_iret X F dX3_describeBill_210 (Nat.le_of_ble_eq_true rfl) (Nat.le_of_ble_eq_true rfl) (by unfold pDescribeBill; rw [pG_y g1]; exact (by rw [show dL (w.1 0) w.2.2.2.1 b = lNum (lPut (lNum (lPut (dL6 (w.1 0) w.2.2.2.1 b) 43) (hW (w.1 0) ((w.1 0).2.1 6 (cN b)))) 45) (hW (w.1 0) ((w.1 0).2.1 7 (cN b))) from if_pos c67]; exact ⟨rfl, hB82, hFA83⟩))
          · have hlt9 : i < cN (hRust (w.1 0) (cN b)) := cN_of_nge (by omega) c58
            refine g_aload_n X dX3_describeBill_92 rfl 4 rfl ?_
            refine g_get X dX3_describeBill_93 (ci := 3) (k := 10) (v := .ref (lA A 0)) rfl k164 (by decide) rfl (BRep.obj hB9) rfl ?_
            refine g_bipush (v := 42) X dX3_describeBill_96 (by decide) ?_
            refine g_callV (As := [.int 42]) (ci := 2) X dX3_describeBill_98 (c_X2_putSign κ.l hl κ.Γ M9 (lA A) (lStar (dL3 (w.1 0) w.2.2.2.1 b) i) hB9.2.2.2.1 hI9 42 rfl) k1018 k1015 k1016 k4 k1017 rfl (LRep.obj hB9.2.2.2.1) ⟨rfl, by decide, by decide, (show (parseMethodDescriptor yX2_putSign.desc).map (fun d => d.parameters.length) = some 1 by decide +kernel)⟩ rfl (Nat.le_of_ble_eq_true rfl) (by rw [hRm]; decide) (by rw [hRm]; exact ⟨Nat.le_of_ble_eq_true rfl, Nat.le_of_ble_eq_true rfl⟩) (fun v83 M83 h83 => ?_) (fun _ _ h9 => by cases h9.1)
            obtain ⟨e83, hR83, hF83⟩ := h83
            cases e83
            have hI85 : LInv (lPut (lStar (dL3 (w.1 0) w.2.2.2.1 b) i) 42) := LInv.put hI9 rfl
            have hB86 : BRep κ.Γ A (wL w (lPut (lStar (dL3 (w.1 0) w.2.2.2.1 b) i) 42)) M83 := BRep.ln2 hB9 hR83 hF83
            have hFA87 : Fr A 315 M M83 := Fr.tr hF9 (Fr.lA hF83)
            refine g_iinc (k := 0) (v := (nI (i + 1))) (L' := [(4, .int (nI (i + 1))), (3, .int (hRust (w.1 0) (cN b))), (2, .int ((w.1 0).2.1 3 (cN b))), (1, .int b), (0, .ref (A 313))]) X dX3_describeBill_101 rfl (nI_1 _) (by rw [hnL]; decide) rfl ?_
            refine g_goto (tgt := 86) X dX3_describeBill_104 (by decide) ?_
            refine g_locs [0, 1, 2, 3, 4] (L' := [(4, .int (nI (i + 1))), (3, .int (hRust (w.1 0) (cN b))), (2, .int ((w.1 0).2.1 3 (cN b))), (1, .int b), (0, .ref (A 313))]) rfl ?_
            exact ih (i + 1) M83 (by omega) (by omega) hB86 (hFA87)
      refine g_locs [0, 1, 2, 4, 3] (L' := [(4, .int (nI 0)), (3, .int (hRust (w.1 0) (cN b))), (2, .int ((w.1 0).2.1 3 (cN b))), (1, .int b), (0, .ref (A 313))]) rfl ?_
      exact lp (cN (hRust (w.1 0) (cN b)) + 1) 0 M53 (by omega) (by omega) (by rw [show lStar (dL3 (w.1 0) w.2.2.2.1 b) 0 = dL3 (w.1 0) w.2.2.2.1 b from rfl, ← eD]; exact hB56) hFA57
  · refine g_bipush (v := 111) X dX3_describeBill_47 (by decide) ?_
    refine g_goto (tgt := 64) X dX3_describeBill_49 (by decide) ?_
    have hsg : sgn ((w.1 0).2.1 3 (cN b)) = 111 := if_pos c10
    refine g_callV (As := [.int 111]) (ci := 2) X dX3_describeBill_64 (c_X2_putSign κ.l hl κ.Γ M5 (lA A) (lNum (hsc w.2.2.2.1 0 0) b) hB8.2.2.2.1 hI7 111 rfl) k1018 k1015 k1016 k4 k1017 rfl (LRep.obj hB8.2.2.2.1) ⟨rfl, by decide, by decide, (show (parseMethodDescriptor yX2_putSign.desc).map (fun d => d.parameters.length) = some 1 by decide +kernel)⟩ rfl (Nat.le_of_ble_eq_true rfl) (by rw [hRm]; decide) (by rw [hRm]; exact ⟨Nat.le_of_ble_eq_true rfl, Nat.le_of_ble_eq_true rfl⟩) (fun v87 M87 h87 => ?_) (fun _ _ h9 => by cases h9.1)
    obtain ⟨e87, hR87, hF87⟩ := h87
    cases e87
    have hI89 : LInv (lPut (lNum (hsc w.2.2.2.1 0 0) b) 111) := LInv.put hI7 rfl
    have hB90 : BRep κ.Γ A (wL w (lPut (lNum (hsc w.2.2.2.1 0 0) b) 111)) M87 := BRep.ln2 hB8 hR87 hF87
    have hFA91 : Fr A 315 M M87 := Fr.tr hFA9 (Fr.lA hF87)
    refine g_aload_n X dX3_describeBill_67 rfl 2 rfl ?_
    refine g_get X dX3_describeBill_68 (ci := 3) (k := 10) (v := .ref (lA A 0)) rfl k164 (by decide) rfl (BRep.obj hB90) rfl ?_
    refine g_aload_n X dX3_describeBill_71 rfl 2 rfl ?_
    refine g_get X dX3_describeBill_72 (ci := 3) (k := 0) (v := .ref (hA A 0 0)) rfl k154 (by decide) rfl (BRep.obj hB90) rfl ?_
    refine g_getN X dX3_describeBill_75 (ci := 1) (k := 7) (v := .ref (hA A 0 4)) rfl k57 (by decide) rfl (HRep.obj (hB90.1 0 (by decide))) rfl ?_
    refine g_iload_n X dX3_describeBill_78 rfl 3 rfl ?_
    refine g_iaload X dX3_describeBill_79 (HRep.row (hB90.1 0 (by decide)) 4 (by decide) (by decide)) ((hI.1 0 (by decide)).b g1) ?_
    refine g_callV (As := [.int ((w.1 0).2.1 4 (cN b))]) (ci := 2) X dX3_describeBill_80 (c_X2_putNumber κ.l hl κ.Γ M87 (lA A) (lPut (lNum (hsc w.2.2.2.1 0 0) b) 111) hB90.2.2.2.1 hI89 ((w.1 0).2.1 4 (cN b))) k1010 k1011 k1012 k4 k1013 rfl (LRep.obj hB90.2.2.2.1) ⟨rfl, by decide, by decide, (show (parseMethodDescriptor yX2_putNumber.desc).map (fun d => d.parameters.length) = some 1 by decide +kernel)⟩ rfl (Nat.le_of_ble_eq_true rfl) (by rw [hRm]; decide) (by rw [hRm]; exact ⟨Nat.le_of_ble_eq_true rfl, Nat.le_of_ble_eq_true rfl⟩) (fun v91 M91 h91 => ?_) (fun _ _ h9 => by cases h9.1)
    obtain ⟨e91, hR91, hF91⟩ := h91
    cases e91
    have hI93 : LInv (lNum (lPut (lNum (hsc w.2.2.2.1 0 0) b) 111) ((w.1 0).2.1 4 (cN b))) := LInv.num hI89 _
    have hB94 : BRep κ.Γ A (wL w (lNum (lPut (lNum (hsc w.2.2.2.1 0 0) b) 111) ((w.1 0).2.1 4 (cN b)))) M91 := BRep.ln2 hB90 hR91 hF91
    have hFA95 : Fr A 315 M M91 := Fr.tr hFA91 (Fr.lA hF91)
    refine g_iconst (v := 0) X dX3_describeBill_83 (by decide) ?_
    refine g_istore (L' := [(4, .int 0), (3, .int (hRust (w.1 0) (cN b))), (2, .int ((w.1 0).2.1 3 (cN b))), (0, .ref (A 313)), (1, .int b)]) X dX3_describeBill_84 (by rw [hnL]; decide) rfl ?_
    have eD : lNum (lPut (lNum (hsc w.2.2.2.1 0 0) b) 111) ((w.1 0).2.1 4 (cN b)) = dL3 (w.1 0) w.2.2.2.1 b := by unfold dL3; rw [hsg]
    have hI3 : LInv (dL3 (w.1 0) w.2.2.2.1 b) := hI.2.2.2.1.d3 b
    have lp : ∀ (n i : Nat) (M9 : Hp), cN (hRust (w.1 0) (cN b)) - i < n → i ≤ cN (hRust (w.1 0) (cN b)) → BRep κ.Γ A (wL w (lStar (dL3 (w.1 0) w.2.2.2.1 b) i)) M9 → Fr A 315 M M9 → G κ M9 (0 + 1) (0 + 6) [(4, .int (nI i)), (3, .int (hRust (w.1 0) (cN b))), (2, .int ((w.1 0).2.1 3 (cN b))), (1, .int b), (0, .ref (A 313))] 86 [] := by
      intro n
      induction n with
      | zero => intro i _ h1; exact absurd h1 (Nat.not_lt_zero _)
      | succ n ih =>
        intro i M9 hi1 hi2 hB9 hF9
        have hI9 : LInv (lStar (dL3 (w.1 0) w.2.2.2.1 b) i) := hI3.star i
        have hi3 := cN_31 (hRust (w.1 0) (cN b))
        refine g_iload X dX3_describeBill_86 0 rfl ?_
        refine g_iload_n X dX3_describeBill_88 rfl 1 rfl ?_
        refine g_icmp_ge (tgt := 107) X dX3_describeBill_89 (by decide) (fun c96 => ?_) (fun c96 => ?_)
        · have heq9 : i = cN (hRust (w.1 0) (cN b)) := Nat.le_antisymm hi2 (cN_of_ge (by omega) c96)
          subst heq9
          refine g_aload_n X dX3_describeBill_107 rfl 4 rfl ?_
          refine g_get X dX3_describeBill_108 (ci := 3) (k := 10) (v := .ref (lA A 0)) rfl k164 (by decide) rfl (BRep.obj hB9) rfl ?_
          refine g_bipush (v := 58) X dX3_describeBill_111 (by decide) ?_
          refine g_callV (As := [.int 58]) (ci := 2) X dX3_describeBill_113 (c_X2_putSign κ.l hl κ.Γ M9 (lA A) (lStar (dL3 (w.1 0) w.2.2.2.1 b) (cN (hRust (w.1 0) (cN b)))) hB9.2.2.2.1 hI9 58 rfl) k1018 k1015 k1016 k4 k1017 rfl (LRep.obj hB9.2.2.2.1) ⟨rfl, by decide, by decide, (show (parseMethodDescriptor yX2_putSign.desc).map (fun d => d.parameters.length) = some 1 by decide +kernel)⟩ rfl (Nat.le_of_ble_eq_true rfl) (by rw [hRm]; decide) (by rw [hRm]; exact ⟨Nat.le_of_ble_eq_true rfl, Nat.le_of_ble_eq_true rfl⟩) (fun v96 M96 h96 => ?_) (fun _ _ h9 => by cases h9.1)
          obtain ⟨e96, hR96, hF96⟩ := h96
          cases e96
          have hI98 : LInv (lPut (lStar (dL3 (w.1 0) w.2.2.2.1 b) (cN (hRust (w.1 0) (cN b)))) 58) := LInv.put hI9 rfl
          have hB99 : BRep κ.Γ A (wL w (lPut (lStar (dL3 (w.1 0) w.2.2.2.1 b) (cN (hRust (w.1 0) (cN b)))) 58)) M96 := BRep.ln2 hB9 hR96 hF96
          have hFA100 : Fr A 315 M M96 := Fr.tr hF9 (Fr.lA hF96)
          refine g_aload_n X dX3_describeBill_116 rfl 4 rfl ?_
          refine g_get X dX3_describeBill_117 (ci := 3) (k := 10) (v := .ref (lA A 0)) rfl k164 (by decide) rfl (BRep.obj hB99) rfl ?_
          refine g_aload_n X dX3_describeBill_120 rfl 4 rfl ?_
          refine g_get X dX3_describeBill_121 (ci := 3) (k := 0) (v := .ref (hA A 0 0)) rfl k154 (by decide) rfl (BRep.obj hB99) rfl ?_
          refine g_getN X dX3_describeBill_124 (ci := 1) (k := 8) (v := .ref (hA A 0 9)) rfl k59 (by decide) rfl (HRep.obj (hB99.1 0 (by decide))) rfl ?_
          refine g_iload_n X dX3_describeBill_127 rfl 3 rfl ?_
          refine g_laload X dX3_describeBill_128 (HRep.longs (hB99.1 0 (by decide))) ((hI.1 0 (by decide)).b g1) ?_
          refine g_callS_rd (As := [.long ((w.1 0).2.2 (cN b))]) (v := some (.int (jbl ((w.1 0).2.2 (cN b))))) X dX3_describeBill_129 (c_jbl κ.l hl κ.Γ M96 ((w.1 0).2.2 (cN b))) k624 k625 k20 k626 ⟨by decide, by decide, (show (parseMethodDescriptor yJ13_bitCount_95d88.desc).map (fun d => d.parameters.length) = some 1 by decide +kernel)⟩ rfl (Nat.le_of_ble_eq_true rfl) (by rw [hRm]; decide) (by rw [hRm]; exact ⟨Nat.le_of_ble_eq_true rfl, Nat.le_of_ble_eq_true rfl⟩) ?_
          refine g_callV (As := [.int (jbl ((w.1 0).2.2 (cN b)))]) (ci := 2) X dX3_describeBill_132 (c_X2_putNumber κ.l hl κ.Γ M96 (lA A) (lPut (lStar (dL3 (w.1 0) w.2.2.2.1 b) (cN (hRust (w.1 0) (cN b)))) 58) hB99.2.2.2.1 hI98 (jbl ((w.1 0).2.2 (cN b)))) k1010 k1011 k1012 k4 k1013 rfl (LRep.obj hB99.2.2.2.1) ⟨rfl, by decide, by decide, (show (parseMethodDescriptor yX2_putNumber.desc).map (fun d => d.parameters.length) = some 1 by decide +kernel)⟩ rfl (Nat.le_of_ble_eq_true rfl) (by rw [hRm]; decide) (by rw [hRm]; exact ⟨Nat.le_of_ble_eq_true rfl, Nat.le_of_ble_eq_true rfl⟩) (fun v100 M100 h100 => ?_) (fun _ _ h9 => by cases h9.1)
          obtain ⟨e100, hR100, hF100⟩ := h100
          cases e100
          have hI102 : LInv (lNum (lPut (lStar (dL3 (w.1 0) w.2.2.2.1 b) (cN (hRust (w.1 0) (cN b)))) 58) (jbl ((w.1 0).2.2 (cN b)))) := LInv.num hI98 _
          have hB103 : BRep κ.Γ A (wL w (lNum (lPut (lStar (dL3 (w.1 0) w.2.2.2.1 b) (cN (hRust (w.1 0) (cN b)))) 58) (jbl ((w.1 0).2.2 (cN b))))) M100 := BRep.ln2 hB99 hR100 hF100
          have hFA104 : Fr A 315 M M100 := Fr.tr hFA100 (Fr.lA hF100)
          have hB6 : BRep κ.Γ A (wL w (dL6 (w.1 0) w.2.2.2.1 b)) M100 := by unfold dL6; exact hB103
          have hI6 : LInv (dL6 (w.1 0) w.2.2.2.1 b) := by unfold dL6; exact hI102
          refine g_iload_n X dX3_describeBill_135 rfl 2 rfl ?_
          refine g_if_ne (tgt := 203) X dX3_describeBill_136 (by decide) (fun c105 => ?_) (fun c105 => ?_)
          · refine g_aload_n X dX3_describeBill_203 rfl 4 rfl ?_
            refine g_get X dX3_describeBill_204 (ci := 3) (k := 10) (v := .ref (lA A 0)) rfl k164 (by decide) rfl (BRep.obj hB6) rfl ?_
            refine g_getN X dX3_describeBill_207 (ci := 2) (k := 1) (v := .int ((wL w (dL6 (w.1 0) w.2.2.2.1 b)).2.2.2.1.1 0)) rfl k148 (by decide) rfl (LRep.obj hB6.2.2.2.1) rfl ?_
            exact g_iret X F dX3_describeBill_210 (Nat.le_of_ble_eq_true rfl) (Nat.le_of_ble_eq_true rfl) (by unfold pDescribeBill; rw [pG_y g1]; exact (by rw [show dL (w.1 0) w.2.2.2.1 b = dL6 (w.1 0) w.2.2.2.1 b from if_neg c105]; exact ⟨rfl, hB6, hFA104⟩))
          · refine g_aload_n X dX3_describeBill_139 rfl 4 rfl ?_
            refine g_get X dX3_describeBill_140 (ci := 3) (k := 10) (v := .ref (lA A 0)) rfl k164 (by decide) rfl (BRep.obj hB6) rfl ?_
            refine g_bipush (v := 43) X dX3_describeBill_143 (by decide) ?_
            refine g_callV (As := [.int 43]) (ci := 2) X dX3_describeBill_145 (c_X2_putSign κ.l hl κ.Γ M100 (lA A) (dL6 (w.1 0) w.2.2.2.1 b) hB6.2.2.2.1 hI6 43 rfl) k1018 k1015 k1016 k4 k1017 rfl (LRep.obj hB6.2.2.2.1) ⟨rfl, by decide, by decide, (show (parseMethodDescriptor yX2_putSign.desc).map (fun d => d.parameters.length) = some 1 by decide +kernel)⟩ rfl (Nat.le_of_ble_eq_true rfl) (by rw [hRm]; decide) (by rw [hRm]; exact ⟨Nat.le_of_ble_eq_true rfl, Nat.le_of_ble_eq_true rfl⟩) (fun v105 M105 h105 => ?_) (fun _ _ h9 => by cases h9.1)
            obtain ⟨e105, hR105, hF105⟩ := h105
            cases e105
            have hI107 : LInv (lPut (dL6 (w.1 0) w.2.2.2.1 b) 43) := LInv.put hI6 rfl
            have hB108 : BRep κ.Γ A (wL w (lPut (dL6 (w.1 0) w.2.2.2.1 b) 43)) M105 := BRep.ln2 hB6 hR105 hF105
            have hFA109 : Fr A 315 M M105 := Fr.tr hFA104 (Fr.lA hF105)
            refine g_aload_n X dX3_describeBill_148 rfl 4 rfl ?_
            refine g_get X dX3_describeBill_149 (ci := 3) (k := 10) (v := .ref (lA A 0)) rfl k164 (by decide) rfl (BRep.obj hB108) rfl ?_
            refine g_aload_n X dX3_describeBill_152 rfl 4 rfl ?_
            refine g_get X dX3_describeBill_153 (ci := 3) (k := 0) (v := .ref (hA A 0 0)) rfl k154 (by decide) rfl (BRep.obj hB108) rfl ?_
            refine g_aload_n X dX3_describeBill_156 rfl 4 rfl ?_
            refine g_get X dX3_describeBill_157 (ci := 3) (k := 0) (v := .ref (hA A 0 0)) rfl k154 (by decide) rfl (BRep.obj hB108) rfl ?_
            refine g_getN X dX3_describeBill_160 (ci := 1) (k := 10) (v := .ref (hA A 0 6)) rfl k63 (by decide) rfl (HRep.obj (hB108.1 0 (by decide))) rfl ?_
            refine g_iload_n X dX3_describeBill_163 rfl 3 rfl ?_
            refine g_iaload X dX3_describeBill_164 (HRep.row (hB108.1 0 (by decide)) 6 (by decide) (by decide)) ((hI.1 0 (by decide)).b g1) ?_
            refine g_callV_rd (As := [.int ((w.1 0).2.1 6 (cN b))]) (ci := 1) (v := some (.int (hW (w.1 0) ((w.1 0).2.1 6 (cN b))))) X dX3_describeBill_165 (c_X1_weightOfSet κ.l hl κ.Γ M105 (hA A 0) (w.1 0) (hB108.1 0 (by decide)) ((w.1 0).2.1 6 (cN b))) k254 k255 k256 k2 k257 rfl (hB108.1 0 (by decide)).obj ⟨rfl, by decide, by decide, (show (parseMethodDescriptor yX1_weightOfSet.desc).map (fun d => d.parameters.length) = some 1 by decide +kernel)⟩ rfl (Nat.le_of_ble_eq_true rfl) (by rw [hRm]; decide) (by rw [hRm]; exact ⟨Nat.le_of_ble_eq_true rfl, Nat.le_of_ble_eq_true rfl⟩) ?_
            refine g_callV (As := [.int (hW (w.1 0) ((w.1 0).2.1 6 (cN b)))]) (ci := 2) X dX3_describeBill_168 (c_X2_putNumber κ.l hl κ.Γ M105 (lA A) (lPut (dL6 (w.1 0) w.2.2.2.1 b) 43) hB108.2.2.2.1 hI107 (hW (w.1 0) ((w.1 0).2.1 6 (cN b)))) k1010 k1011 k1012 k4 k1013 rfl (LRep.obj hB108.2.2.2.1) ⟨rfl, by decide, by decide, (show (parseMethodDescriptor yX2_putNumber.desc).map (fun d => d.parameters.length) = some 1 by decide +kernel)⟩ rfl (Nat.le_of_ble_eq_true rfl) (by rw [hRm]; decide) (by rw [hRm]; exact ⟨Nat.le_of_ble_eq_true rfl, Nat.le_of_ble_eq_true rfl⟩) (fun v109 M109 h109 => ?_) (fun _ _ h9 => by cases h9.1)
            obtain ⟨e109, hR109, hF109⟩ := h109
            cases e109
            have hI111 : LInv (lNum (lPut (dL6 (w.1 0) w.2.2.2.1 b) 43) (hW (w.1 0) ((w.1 0).2.1 6 (cN b)))) := LInv.num hI107 _
            have hB112 : BRep κ.Γ A (wL w (lNum (lPut (dL6 (w.1 0) w.2.2.2.1 b) 43) (hW (w.1 0) ((w.1 0).2.1 6 (cN b))))) M109 := BRep.ln2 hB108 hR109 hF109
            have hFA113 : Fr A 315 M M109 := Fr.tr hFA109 (Fr.lA hF109)
            refine g_aload_n X dX3_describeBill_171 rfl 4 rfl ?_
            refine g_get X dX3_describeBill_172 (ci := 3) (k := 10) (v := .ref (lA A 0)) rfl k164 (by decide) rfl (BRep.obj hB112) rfl ?_
            refine g_bipush (v := 45) X dX3_describeBill_175 (by decide) ?_
            refine g_callV (As := [.int 45]) (ci := 2) X dX3_describeBill_177 (c_X2_putSign κ.l hl κ.Γ M109 (lA A) (lNum (lPut (dL6 (w.1 0) w.2.2.2.1 b) 43) (hW (w.1 0) ((w.1 0).2.1 6 (cN b)))) hB112.2.2.2.1 hI111 45 rfl) k1018 k1015 k1016 k4 k1017 rfl (LRep.obj hB112.2.2.2.1) ⟨rfl, by decide, by decide, (show (parseMethodDescriptor yX2_putSign.desc).map (fun d => d.parameters.length) = some 1 by decide +kernel)⟩ rfl (Nat.le_of_ble_eq_true rfl) (by rw [hRm]; decide) (by rw [hRm]; exact ⟨Nat.le_of_ble_eq_true rfl, Nat.le_of_ble_eq_true rfl⟩) (fun v113 M113 h113 => ?_) (fun _ _ h9 => by cases h9.1)
            obtain ⟨e113, hR113, hF113⟩ := h113
            cases e113
            have hI115 : LInv (lPut (lNum (lPut (dL6 (w.1 0) w.2.2.2.1 b) 43) (hW (w.1 0) ((w.1 0).2.1 6 (cN b)))) 45) := LInv.put hI111 rfl
            have hB116 : BRep κ.Γ A (wL w (lPut (lNum (lPut (dL6 (w.1 0) w.2.2.2.1 b) 43) (hW (w.1 0) ((w.1 0).2.1 6 (cN b)))) 45)) M113 := BRep.ln2 hB112 hR113 hF113
            have hFA117 : Fr A 315 M M113 := Fr.tr hFA113 (Fr.lA hF113)
            refine g_aload_n X dX3_describeBill_180 rfl 4 rfl ?_
            refine g_get X dX3_describeBill_181 (ci := 3) (k := 10) (v := .ref (lA A 0)) rfl k164 (by decide) rfl (BRep.obj hB116) rfl ?_
            refine g_aload_n X dX3_describeBill_184 rfl 4 rfl ?_
            refine g_get X dX3_describeBill_185 (ci := 3) (k := 0) (v := .ref (hA A 0 0)) rfl k154 (by decide) rfl (BRep.obj hB116) rfl ?_
            refine g_aload_n X dX3_describeBill_188 rfl 4 rfl ?_
            refine g_get X dX3_describeBill_189 (ci := 3) (k := 0) (v := .ref (hA A 0 0)) rfl k154 (by decide) rfl (BRep.obj hB116) rfl ?_
            refine g_getN X dX3_describeBill_192 (ci := 1) (k := 11) (v := .ref (hA A 0 7)) rfl k65 (by decide) rfl (HRep.obj (hB116.1 0 (by decide))) rfl ?_
            refine g_iload_n X dX3_describeBill_195 rfl 3 rfl ?_
            refine g_iaload X dX3_describeBill_196 (HRep.row (hB116.1 0 (by decide)) 7 (by decide) (by decide)) ((hI.1 0 (by decide)).b g1) ?_
            refine g_callV_rd (As := [.int ((w.1 0).2.1 7 (cN b))]) (ci := 1) (v := some (.int (hW (w.1 0) ((w.1 0).2.1 7 (cN b))))) X dX3_describeBill_197 (c_X1_weightOfSet κ.l hl κ.Γ M113 (hA A 0) (w.1 0) (hB116.1 0 (by decide)) ((w.1 0).2.1 7 (cN b))) k254 k255 k256 k2 k257 rfl (hB116.1 0 (by decide)).obj ⟨rfl, by decide, by decide, (show (parseMethodDescriptor yX1_weightOfSet.desc).map (fun d => d.parameters.length) = some 1 by decide +kernel)⟩ rfl (Nat.le_of_ble_eq_true rfl) (by rw [hRm]; decide) (by rw [hRm]; exact ⟨Nat.le_of_ble_eq_true rfl, Nat.le_of_ble_eq_true rfl⟩) ?_
            refine g_callV (As := [.int (hW (w.1 0) ((w.1 0).2.1 7 (cN b)))]) (ci := 2) X dX3_describeBill_200 (c_X2_putNumber κ.l hl κ.Γ M113 (lA A) (lPut (lNum (lPut (dL6 (w.1 0) w.2.2.2.1 b) 43) (hW (w.1 0) ((w.1 0).2.1 6 (cN b)))) 45) hB116.2.2.2.1 hI115 (hW (w.1 0) ((w.1 0).2.1 7 (cN b)))) k1010 k1011 k1012 k4 k1013 rfl (LRep.obj hB116.2.2.2.1) ⟨rfl, by decide, by decide, (show (parseMethodDescriptor yX2_putNumber.desc).map (fun d => d.parameters.length) = some 1 by decide +kernel)⟩ rfl (Nat.le_of_ble_eq_true rfl) (by rw [hRm]; decide) (by rw [hRm]; exact ⟨Nat.le_of_ble_eq_true rfl, Nat.le_of_ble_eq_true rfl⟩) (fun v117 M117 h117 => ?_) (fun _ _ h9 => by cases h9.1)
            obtain ⟨e117, hR117, hF117⟩ := h117
            cases e117
            have hI119 : LInv (lNum (lPut (lNum (lPut (dL6 (w.1 0) w.2.2.2.1 b) 43) (hW (w.1 0) ((w.1 0).2.1 6 (cN b)))) 45) (hW (w.1 0) ((w.1 0).2.1 7 (cN b)))) := LInv.num hI115 _
            have hB120 : BRep κ.Γ A (wL w (lNum (lPut (lNum (lPut (dL6 (w.1 0) w.2.2.2.1 b) 43) (hW (w.1 0) ((w.1 0).2.1 6 (cN b)))) 45) (hW (w.1 0) ((w.1 0).2.1 7 (cN b))))) M117 := BRep.ln2 hB116 hR117 hF117
            have hFA121 : Fr A 315 M M117 := Fr.tr hFA117 (Fr.lA hF117)
            refine g_aload_n X dX3_describeBill_203 rfl 4 rfl ?_
            refine g_get X dX3_describeBill_204 (ci := 3) (k := 10) (v := .ref (lA A 0)) rfl k164 (by decide) rfl (BRep.obj hB120) rfl ?_
            refine g_getN X dX3_describeBill_207 (ci := 2) (k := 1) (v := .int ((wL w (lNum (lPut (lNum (lPut (dL6 (w.1 0) w.2.2.2.1 b) 43) (hW (w.1 0) ((w.1 0).2.1 6 (cN b)))) 45) (hW (w.1 0) ((w.1 0).2.1 7 (cN b))))).2.2.2.1.1 0)) rfl k148 (by decide) rfl (LRep.obj hB120.2.2.2.1) rfl ?_
            exact g_iret X F dX3_describeBill_210 (Nat.le_of_ble_eq_true rfl) (Nat.le_of_ble_eq_true rfl) (by unfold pDescribeBill; rw [pG_y g1]; exact (by rw [show dL (w.1 0) w.2.2.2.1 b = lNum (lPut (lNum (lPut (dL6 (w.1 0) w.2.2.2.1 b) 43) (hW (w.1 0) ((w.1 0).2.1 6 (cN b)))) 45) (hW (w.1 0) ((w.1 0).2.1 7 (cN b))) from if_pos c105]; exact ⟨rfl, hB120, hFA121⟩))
        · have hlt9 : i < cN (hRust (w.1 0) (cN b)) := cN_of_nge (by omega) c96
          refine g_aload_n X dX3_describeBill_92 rfl 4 rfl ?_
          refine g_get X dX3_describeBill_93 (ci := 3) (k := 10) (v := .ref (lA A 0)) rfl k164 (by decide) rfl (BRep.obj hB9) rfl ?_
          refine g_bipush (v := 42) X dX3_describeBill_96 (by decide) ?_
          refine g_callV (As := [.int 42]) (ci := 2) X dX3_describeBill_98 (c_X2_putSign κ.l hl κ.Γ M9 (lA A) (lStar (dL3 (w.1 0) w.2.2.2.1 b) i) hB9.2.2.2.1 hI9 42 rfl) k1018 k1015 k1016 k4 k1017 rfl (LRep.obj hB9.2.2.2.1) ⟨rfl, by decide, by decide, (show (parseMethodDescriptor yX2_putSign.desc).map (fun d => d.parameters.length) = some 1 by decide +kernel)⟩ rfl (Nat.le_of_ble_eq_true rfl) (by rw [hRm]; decide) (by rw [hRm]; exact ⟨Nat.le_of_ble_eq_true rfl, Nat.le_of_ble_eq_true rfl⟩) (fun v121 M121 h121 => ?_) (fun _ _ h9 => by cases h9.1)
          obtain ⟨e121, hR121, hF121⟩ := h121
          cases e121
          have hI123 : LInv (lPut (lStar (dL3 (w.1 0) w.2.2.2.1 b) i) 42) := LInv.put hI9 rfl
          have hB124 : BRep κ.Γ A (wL w (lPut (lStar (dL3 (w.1 0) w.2.2.2.1 b) i) 42)) M121 := BRep.ln2 hB9 hR121 hF121
          have hFA125 : Fr A 315 M M121 := Fr.tr hF9 (Fr.lA hF121)
          refine g_iinc (k := 0) (v := (nI (i + 1))) (L' := [(4, .int (nI (i + 1))), (3, .int (hRust (w.1 0) (cN b))), (2, .int ((w.1 0).2.1 3 (cN b))), (1, .int b), (0, .ref (A 313))]) X dX3_describeBill_101 rfl (nI_1 _) (by rw [hnL]; decide) rfl ?_
          refine g_goto (tgt := 86) X dX3_describeBill_104 (by decide) ?_
          refine g_locs [0, 1, 2, 3, 4] (L' := [(4, .int (nI (i + 1))), (3, .int (hRust (w.1 0) (cN b))), (2, .int ((w.1 0).2.1 3 (cN b))), (1, .int b), (0, .ref (A 313))]) rfl ?_
          exact ih (i + 1) M121 (by omega) (by omega) hB124 (hFA125)
    refine g_locs [0, 1, 2, 4, 3] (L' := [(4, .int (nI 0)), (3, .int (hRust (w.1 0) (cN b))), (2, .int ((w.1 0).2.1 3 (cN b))), (1, .int b), (0, .ref (A 313))]) rfl ?_
    exact lp (cN (hRust (w.1 0) (cN b)) + 1) 0 M91 (by omega) (by omega) (by rw [show lStar (dL3 (w.1 0) w.2.2.2.1 b) 0 = dL3 (w.1 0) w.2.2.2.1 b from rfl, ← eD]; exact hB94) hFA95
