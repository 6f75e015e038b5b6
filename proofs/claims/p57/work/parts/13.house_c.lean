set_option maxRecDepth 100000 in
set_option maxHeartbeats 4000000 in
theorem c_X1_comeIn (l : Launch) (hl : l.stackTraces = false) (Γ : Gm) (M : Hp) (a : Nat → Nat) (u : HV) (hR : HRep Γ a u M) (x : Int32) : Ct l Γ yX1_comeIn cX1_comeIn 2 (some .int) 1 0 0 [.ref (a 0), .int x] M (Mu Γ a (some (.int (jbc ((aComeIn u x).1 1)))) (aComeIn u x) M) := by
  refine Ct.of hl (by decide) (Nat.le_of_ble_eq_true rfl) rfl ?_
  intro κ e1 e2 hnL hRm X F hlt
  subst e1 e2
  refine g_aload_n X dX1_comeIn_0 rfl 0 rfl ?_
  refine g_dup X dX1_comeIn_1 rfl ?_
  refine g_get X dX1_comeIn_2 (ci := 1) (k := 3) (v := .int (u.1 1)) rfl k48 (by decide) rfl hR.obj rfl ?_
  refine g_iconst (v := 1) X dX1_comeIn_5 (by decide) ?_
  refine g_iload_n X dX1_comeIn_6 rfl 1 rfl ?_
  refine g_ishl X dX1_comeIn_7 ?_
  refine g_ior X dX1_comeIn_8 ?_
  refine g_put X dX1_comeIn_9 (ci := 1) (k := 3) (ty := .int) rfl k48 (by decide) rfl rfl (by decide +kernel) rfl rfl (Nat.le_of_ble_eq_true rfl) hR.obj ?_
  refine g_gen (P := fun M9 => HRep κ.Γ a (hsc u 1 ((u.1 1) ||| (shl 1 x))) M9 ∧ Fr a 28 M M9) ⟨hR.sc 1 _ rfl, (Fr.up (by decide))⟩ (fun M1 ⟨hR2, hF3⟩ => ?_)
  refine g_aload_n X dX1_comeIn_12 rfl 0 rfl ?_
  refine g_get X dX1_comeIn_13 (ci := 1) (k := 3) (v := .int ((hsc u 1 ((u.1 1) ||| (shl 1 x))).1 1)) rfl k48 (by decide) rfl hR2.obj rfl ?_
  refine g_callS_rd (As := [.int ((hsc u 1 ((u.1 1) ||| (shl 1 x))).1 1)]) (v := some (.int (jbc ((hsc u 1 ((u.1 1) ||| (shl 1 x))).1 1)))) X dX1_comeIn_16 (c_jbc κ.l hl κ.Γ M1 ((hsc u 1 ((u.1 1) ||| (shl 1 x))).1 1)) k208 k209 k19 k210 ⟨by decide, by decide, (show (parseMethodDescriptor yJ6_bitCount_0f7a4.desc).map (fun d => d.parameters.length) = some 1 by decide +kernel)⟩ rfl (Nat.le_of_ble_eq_true rfl) (by rw [hRm]; decide) (by rw [hRm]; exact ⟨Nat.le_of_ble_eq_true rfl, Nat.le_of_ble_eq_true rfl⟩) ?_
  exact g_iret X F dX1_comeIn_19 (by omega) (by omega) (by unfold aComeIn; exact ⟨rfl, hR2, hF3⟩)
set_option maxRecDepth 100000 in
set_option maxHeartbeats 4000000 in
theorem c_X1_goOut (l : Launch) (hl : l.stackTraces = false) (Γ : Gm) (M : Hp) (a : Nat → Nat) (u : HV) (hR : HRep Γ a u M) (x : Int32) : Ct l Γ yX1_goOut cX1_goOut 2 (some .int) 1 0 0 [.ref (a 0), .int x] M (Mu Γ a (some (.int (jbc ((aGoOut u x).1 1)))) (aGoOut u x) M) := by
  refine Ct.of hl (by decide) (Nat.le_of_ble_eq_true rfl) rfl ?_
  intro κ e1 e2 hnL hRm X F hlt
  subst e1 e2
  refine g_aload_n X dX1_goOut_0 rfl 0 rfl ?_
  refine g_dup X dX1_goOut_1 rfl ?_
  refine g_get X dX1_goOut_2 (ci := 1) (k := 3) (v := .int (u.1 1)) rfl k48 (by decide) rfl hR.obj rfl ?_
  refine g_iconst (v := 1) X dX1_goOut_5 (by decide) ?_
  refine g_iload_n X dX1_goOut_6 rfl 1 rfl ?_
  refine g_ishl X dX1_goOut_7 ?_
  refine g_iconst (v := (-1)) X dX1_goOut_8 (by decide) ?_
  refine g_ixor X dX1_goOut_9 ?_
  refine g_iand X dX1_goOut_10 ?_
  refine g_put X dX1_goOut_11 (ci := 1) (k := 3) (ty := .int) rfl k48 (by decide) rfl rfl (by decide +kernel) rfl rfl (Nat.le_of_ble_eq_true rfl) hR.obj ?_
  refine g_gen (P := fun M9 => HRep κ.Γ a (hsc u 1 ((u.1 1) &&& ((shl 1 x) ^^^ (-1)))) M9 ∧ Fr a 28 M M9) ⟨hR.sc 1 _ rfl, (Fr.up (by decide))⟩ (fun M1 ⟨hR2, hF3⟩ => ?_)
  refine g_aload_n X dX1_goOut_14 rfl 0 rfl ?_
  refine g_get X dX1_goOut_15 (ci := 1) (k := 3) (v := .int ((hsc u 1 ((u.1 1) &&& ((shl 1 x) ^^^ (-1)))).1 1)) rfl k48 (by decide) rfl hR2.obj rfl ?_
  refine g_callS_rd (As := [.int ((hsc u 1 ((u.1 1) &&& ((shl 1 x) ^^^ (-1)))).1 1)]) (v := some (.int (jbc ((hsc u 1 ((u.1 1) &&& ((shl 1 x) ^^^ (-1)))).1 1)))) X dX1_goOut_18 (c_jbc κ.l hl κ.Γ M1 ((hsc u 1 ((u.1 1) &&& ((shl 1 x) ^^^ (-1)))).1 1)) k208 k209 k19 k210 ⟨by decide, by decide, (show (parseMethodDescriptor yJ6_bitCount_0f7a4.desc).map (fun d => d.parameters.length) = some 1 by decide +kernel)⟩ rfl (Nat.le_of_ble_eq_true rfl) (by rw [hRm]; decide) (by rw [hRm]; exact ⟨Nat.le_of_ble_eq_true rfl, Nat.le_of_ble_eq_true rfl⟩) ?_
  exact g_iret X F dX1_goOut_21 (by omega) (by omega) (by unfold aGoOut; exact ⟨rfl, hR2, hF3⟩)
set_option maxRecDepth 100000 in
set_option maxHeartbeats 4000000 in
theorem c_X1_newQuorum (l : Launch) (hl : l.stackTraces = false) (Γ : Gm) (M : Hp) (a : Nat → Nat) (u : HV) (hR : HRep Γ a u M) (n : Int32) : Ct l Γ yX1_newQuorum cX1_newQuorum 3 (some .int) 0 0 0 [.ref (a 0), .int n] M (Mu Γ a (some (.int (u.1 2))) (aQuorum u n) M) := by
  refine Ct.of hl (by decide) (Nat.le_of_ble_eq_true rfl) rfl ?_
  intro κ e1 e2 hnL hRm X F hlt
  subst e1 e2
  refine g_aload_n X dX1_newQuorum_0 rfl 0 rfl ?_
  refine g_get X dX1_newQuorum_1 (ci := 1) (k := 4) (v := .int (u.1 2)) rfl k50 (by decide) rfl hR.obj rfl ?_
  refine g_istore_n (L' := [(2, .int (u.1 2)), (0, .ref (a 0)), (1, .int n)]) X dX1_newQuorum_4 rfl (by rw [hnL]; decide) rfl ?_
  refine g_aload_n X dX1_newQuorum_5 rfl 1 rfl ?_
  refine g_iload_n X dX1_newQuorum_6 rfl 2 rfl ?_
  refine g_put X dX1_newQuorum_7 (ci := 1) (k := 4) (ty := .int) rfl k50 (by decide) rfl rfl (by decide +kernel) rfl rfl (Nat.le_of_ble_eq_true rfl) hR.obj ?_
  refine g_gen (P := fun M9 => HRep κ.Γ a (hsc u 2 n) M9 ∧ Fr a 28 M M9) ⟨hR.sc 2 _ rfl, (Fr.up (by decide))⟩ (fun M1 ⟨hR2, hF3⟩ => ?_)
  refine g_iload_n X dX1_newQuorum_10 rfl 0 rfl ?_
  exact g_iret X F dX1_newQuorum_11 (by omega) (by omega) (by unfold aQuorum; exact ⟨rfl, hR2, hF3⟩)
set_option maxRecDepth 100000 in
set_option maxHeartbeats 4000000 in
theorem c_X1_admit (l : Launch) (hl : l.stackTraces = false) (Γ : Gm) (M : Hp) (a : Nat → Nat) (u : HV) (hR : HRep Γ a u M) (wd : Int32) (wt : Int32) (hm : vp_in (u.1 0) 24) : Ct l Γ yX1_admit cX1_admit 4 (some .int) 0 0 0 [.ref (a 0), .int wd, .int wt] M (Mu Γ a (some (.int (u.1 0))) (aAdmit u wd wt) M) := by
  refine Ct.of hl (by decide) (Nat.le_of_ble_eq_true rfl) rfl ?_
  intro κ e1 e2 hnL hRm X F hlt
  subst e1 e2
  refine g_aload_n X dX1_admit_0 rfl 0 rfl ?_
  refine g_get X dX1_admit_1 (ci := 1) (k := 0) (v := .int (u.1 0)) rfl k42 (by decide) rfl hR.obj rfl ?_
  refine g_istore_n (L' := [(3, .int (u.1 0)), (0, .ref (a 0)), (1, .int wd), (2, .int wt)]) X dX1_admit_4 rfl (by rw [hnL]; decide) rfl ?_
  refine g_aload_n X dX1_admit_5 rfl 1 rfl ?_
  refine g_get X dX1_admit_6 (ci := 1) (k := 1) (v := .ref (a 1)) rfl k44 (by decide) rfl hR.obj rfl ?_
  refine g_iload_n X dX1_admit_9 rfl 0 rfl ?_
  refine g_iload_n X dX1_admit_10 rfl 2 rfl ?_
  refine g_iastore X dX1_admit_11 (hR.row 1 (by decide) (by decide)) hm ?_
  refine g_gen (P := fun M9 => HRep κ.Γ a (hset u 1 (cN (u.1 0)) wd) M9 ∧ Fr a 28 M M9) ⟨hR.ar 1 (by decide) (by decide) _ rfl, (Fr.up (by decide))⟩ (fun M1 ⟨hR2, hF3⟩ => ?_)
  refine g_aload_n X dX1_admit_12 rfl 1 rfl ?_
  refine g_get X dX1_admit_13 (ci := 1) (k := 2) (v := .ref (a 2)) rfl k46 (by decide) rfl hR2.obj rfl ?_
  refine g_iload_n X dX1_admit_16 rfl 0 rfl ?_
  refine g_iload_n X dX1_admit_17 rfl 3 rfl ?_
  refine g_iastore X dX1_admit_18 (hR2.row 2 (by decide) (by decide)) hm ?_
  refine g_gen (P := fun M9 => HRep κ.Γ a (hset (hset u 1 (cN (u.1 0)) wd) 2 (cN (u.1 0)) wt) M9 ∧ Fr a 28 M M9) ⟨hR2.ar 2 (by decide) (by decide) _ rfl, Fr.tr hF3 (Fr.up (by decide))⟩ (fun M4 ⟨hR5, hF6⟩ => ?_)
  refine g_aload_n X dX1_admit_19 rfl 1 rfl ?_
  refine g_dup X dX1_admit_20 rfl ?_
  refine g_get X dX1_admit_21 (ci := 1) (k := 0) (v := .int ((hset (hset u 1 (cN (u.1 0)) wd) 2 (cN (u.1 0)) wt).1 0)) rfl k42 (by decide) rfl hR5.obj rfl ?_
  refine g_iconst (v := 1) X dX1_admit_24 (by decide) ?_
  refine g_iadd X dX1_admit_25 ?_
  refine g_put X dX1_admit_26 (ci := 1) (k := 0) (ty := .int) rfl k42 (by decide) rfl rfl (by decide +kernel) rfl rfl (Nat.le_of_ble_eq_true rfl) hR5.obj ?_
  refine g_gen (P := fun M9 => HRep κ.Γ a (hsc (hset (hset u 1 (cN (u.1 0)) wd) 2 (cN (u.1 0)) wt) 0 (((hset (hset u 1 (cN (u.1 0)) wd) 2 (cN (u.1 0)) wt).1 0) + 1)) M9 ∧ Fr a 28 M M9) ⟨hR5.sc 0 _ rfl, Fr.tr hF6 (Fr.up (by decide))⟩ (fun M7 ⟨hR8, hF9⟩ => ?_)
  refine g_iload_n X dX1_admit_29 rfl 0 rfl ?_
  exact g_iret X F dX1_admit_30 (by omega) (by omega) (by unfold aAdmit; exact ⟨rfl, hR8, hF9⟩)
set_option maxRecDepth 100000 in
set_option maxHeartbeats 4000000 in
theorem c_X1_bringIn (l : Launch) (hl : l.stackTraces = false) (Γ : Gm) (M : Hp) (a : Nat → Nat) (u : HV) (hR : HRep Γ a u M) (f : Int32) (la : Int32) (hm : vp_in (u.1 3) 8) : Ct l Γ yX1_bringIn cX1_bringIn 4 (some .int) 0 0 0 [.ref (a 0), .int f, .int la] M (Mu Γ a (some (.int (u.1 3))) (aBring u f la) M) := by
  refine Ct.of hl (by decide) (Nat.le_of_ble_eq_true rfl) rfl ?_
  intro κ e1 e2 hnL hRm X F hlt
  subst e1 e2
  refine g_aload_n X dX1_bringIn_0 rfl 0 rfl ?_
  refine g_get X dX1_bringIn_1 (ci := 1) (k := 5) (v := .int (u.1 3)) rfl k52 (by decide) rfl hR.obj rfl ?_
  refine g_istore_n (L' := [(3, .int (u.1 3)), (0, .ref (a 0)), (1, .int f), (2, .int la)]) X dX1_bringIn_4 rfl (by rw [hnL]; decide) rfl ?_
  refine g_aload_n X dX1_bringIn_5 rfl 1 rfl ?_
  refine g_get X dX1_bringIn_6 (ci := 1) (k := 8) (v := .ref (a 9)) rfl k58 (by decide) rfl hR.obj rfl ?_
  refine g_iload_n X dX1_bringIn_9 rfl 0 rfl ?_
  refine g_ldc2 (v := (-1)) X dX1_bringIn_10 k580 ?_
  refine g_iload_n X dX1_bringIn_13 rfl 2 rfl ?_
  refine g_lshl X dX1_bringIn_14 ?_
  refine g_ldc2 (v := (-1)) X dX1_bringIn_15 k580 ?_
  refine g_bipush (v := 63) X dX1_bringIn_18 (by decide) ?_
  refine g_iload_n X dX1_bringIn_20 rfl 3 rfl ?_
  refine g_isub X dX1_bringIn_21 ?_
  refine g_lushr X dX1_bringIn_22 ?_
  refine g_land X dX1_bringIn_23 ?_
  refine g_lastore X dX1_bringIn_24 hR.longs hm ?_
  refine g_gen (P := fun M9 => HRep κ.Γ a (hcl u (vp_updL u.2.2 (cN (u.1 3)) ((lsl (-1) f) &&& (lus (-1) (63 - la))))) M9 ∧ Fr a 28 M M9) ⟨hR.cl _, (Fr.up (by decide))⟩ (fun M1 ⟨hR2, hF3⟩ => ?_)
  refine g_aload_n X dX1_bringIn_25 rfl 1 rfl ?_
  refine g_dup X dX1_bringIn_26 rfl ?_
  refine g_get X dX1_bringIn_27 (ci := 1) (k := 5) (v := .int ((hcl u (vp_updL u.2.2 (cN (u.1 3)) ((lsl (-1) f) &&& (lus (-1) (63 - la))))).1 3)) rfl k52 (by decide) rfl hR2.obj rfl ?_
  refine g_iconst (v := 1) X dX1_bringIn_30 (by decide) ?_
  refine g_iadd X dX1_bringIn_31 ?_
  refine g_put X dX1_bringIn_32 (ci := 1) (k := 5) (ty := .int) rfl k52 (by decide) rfl rfl (by decide +kernel) rfl rfl (Nat.le_of_ble_eq_true rfl) hR2.obj ?_
  refine g_gen (P := fun M9 => HRep κ.Γ a (hsc (hcl u (vp_updL u.2.2 (cN (u.1 3)) ((lsl (-1) f) &&& (lus (-1) (63 - la))))) 3 (((hcl u (vp_updL u.2.2 (cN (u.1 3)) ((lsl (-1) f) &&& (lus (-1) (63 - la))))).1 3) + 1)) M9 ∧ Fr a 28 M M9) ⟨hR2.sc 3 _ rfl, Fr.tr hF3 (Fr.up (by decide))⟩ (fun M4 ⟨hR5, hF6⟩ => ?_)
  refine g_iload_n X dX1_bringIn_35 rfl 0 rfl ?_
  exact g_iret X F dX1_bringIn_36 (by omega) (by omega) (by unfold aBring; exact ⟨rfl, hR5, hF6⟩)
set_option maxRecDepth 100000 in
set_option maxHeartbeats 4000000 in
theorem c_X1_countFor (l : Launch) (hl : l.stackTraces = false) (Γ : Gm) (M : Hp) (a : Nat → Nat) (u : HV) (hR : HRep Γ a u M) (b : Int32) (x : Int32) (vb : vp_in b 8) : Ct l Γ yX1_countFor cX1_countFor 3 (some .int) 1 0 0 [.ref (a 0), .int b, .int x] M (Mu Γ a (some (.int (hW (aFor u b x) ((aFor u b x).2.1 6 (cN b))))) (aFor u b x) M) := by
  refine Ct.of hl (by decide) (Nat.le_of_ble_eq_true rfl) rfl ?_
  intro κ e1 e2 hnL hRm X F hlt
  subst e1 e2
  refine g_aload_n X dX1_countFor_0 rfl 0 rfl ?_
  refine g_get X dX1_countFor_1 (ci := 1) (k := 10) (v := .ref (a 6)) rfl k62 (by decide) rfl hR.obj rfl ?_
  refine g_iload_n X dX1_countFor_4 rfl 1 rfl ?_
  refine g_dup2 X dX1_countFor_5 rfl rfl ?_
  refine g_iaload X dX1_countFor_6 (hR.row 6 (by decide) (by decide)) vb ?_
  refine g_iconst (v := 1) X dX1_countFor_7 (by decide) ?_
  refine g_iload_n X dX1_countFor_8 rfl 2 rfl ?_
  refine g_ishl X dX1_countFor_9 ?_
  refine g_ior X dX1_countFor_10 ?_
  refine g_iastore X dX1_countFor_11 (hR.row 6 (by decide) (by decide)) vb ?_
  refine g_gen (P := fun M9 => HRep κ.Γ a (hset u 6 (cN b) ((u.2.1 6 (cN b)) ||| (shl 1 x))) M9 ∧ Fr a 28 M M9) ⟨hR.ar 6 (by decide) (by decide) _ rfl, (Fr.up (by decide))⟩ (fun M1 ⟨hR2, hF3⟩ => ?_)
  refine g_aload_n X dX1_countFor_12 rfl 0 rfl ?_
  refine g_get X dX1_countFor_13 (ci := 1) (k := 11) (v := .ref (a 7)) rfl k64 (by decide) rfl hR2.obj rfl ?_
  refine g_iload_n X dX1_countFor_16 rfl 1 rfl ?_
  refine g_dup2 X dX1_countFor_17 rfl rfl ?_
  refine g_iaload X dX1_countFor_18 (hR2.row 7 (by decide) (by decide)) vb ?_
  refine g_iconst (v := 1) X dX1_countFor_19 (by decide) ?_
  refine g_iload_n X dX1_countFor_20 rfl 2 rfl ?_
  refine g_ishl X dX1_countFor_21 ?_
  refine g_iconst (v := (-1)) X dX1_countFor_22 (by decide) ?_
  refine g_ixor X dX1_countFor_23 ?_
  refine g_iand X dX1_countFor_24 ?_
  refine g_iastore X dX1_countFor_25 (hR2.row 7 (by decide) (by decide)) vb ?_
  refine g_gen (P := fun M9 => HRep κ.Γ a (hset (hset u 6 (cN b) ((u.2.1 6 (cN b)) ||| (shl 1 x))) 7 (cN b) (((hset u 6 (cN b) ((u.2.1 6 (cN b)) ||| (shl 1 x))).2.1 7 (cN b)) &&& ((shl 1 x) ^^^ (-1)))) M9 ∧ Fr a 28 M M9) ⟨hR2.ar 7 (by decide) (by decide) _ rfl, Fr.tr hF3 (Fr.up (by decide))⟩ (fun M4 ⟨hR5, hF6⟩ => ?_)
  refine g_aload_n X dX1_countFor_26 rfl 0 rfl ?_
  refine g_aload_n X dX1_countFor_27 rfl 0 rfl ?_
  refine g_get X dX1_countFor_28 (ci := 1) (k := 10) (v := .ref (a 6)) rfl k62 (by decide) rfl hR5.obj rfl ?_
  refine g_iload_n X dX1_countFor_31 rfl 1 rfl ?_
  refine g_iaload X dX1_countFor_32 (hR5.row 6 (by decide) (by decide)) vb ?_
  refine g_callV_rd (As := [.int ((hset (hset u 6 (cN b) ((u.2.1 6 (cN b)) ||| (shl 1 x))) 7 (cN b) (((hset u 6 (cN b) ((u.2.1 6 (cN b)) ||| (shl 1 x))).2.1 7 (cN b)) &&& ((shl 1 x) ^^^ (-1)))).2.1 6 (cN b))]) (ci := 1) (v := some (.int (hW (hset (hset u 6 (cN b) ((u.2.1 6 (cN b)) ||| (shl 1 x))) 7 (cN b) (((hset u 6 (cN b) ((u.2.1 6 (cN b)) ||| (shl 1 x))).2.1 7 (cN b)) &&& ((shl 1 x) ^^^ (-1)))) ((hset (hset u 6 (cN b) ((u.2.1 6 (cN b)) ||| (shl 1 x))) 7 (cN b) (((hset u 6 (cN b) ((u.2.1 6 (cN b)) ||| (shl 1 x))).2.1 7 (cN b)) &&& ((shl 1 x) ^^^ (-1)))).2.1 6 (cN b))))) X dX1_countFor_33 (c_X1_weightOfSet κ.l hl κ.Γ M4 a (hset (hset u 6 (cN b) ((u.2.1 6 (cN b)) ||| (shl 1 x))) 7 (cN b) (((hset u 6 (cN b) ((u.2.1 6 (cN b)) ||| (shl 1 x))).2.1 7 (cN b)) &&& ((shl 1 x) ^^^ (-1)))) hR5 ((hset (hset u 6 (cN b) ((u.2.1 6 (cN b)) ||| (shl 1 x))) 7 (cN b) (((hset u 6 (cN b) ((u.2.1 6 (cN b)) ||| (shl 1 x))).2.1 7 (cN b)) &&& ((shl 1 x) ^^^ (-1)))).2.1 6 (cN b))) k680 k255 k256 k2 k257 rfl hR5.obj ⟨rfl, by decide, by decide, (show (parseMethodDescriptor yX1_weightOfSet.desc).map (fun d => d.parameters.length) = some 1 by decide +kernel)⟩ rfl (Nat.le_of_ble_eq_true rfl) (by rw [hRm]; decide) (by rw [hRm]; exact ⟨Nat.le_of_ble_eq_true rfl, Nat.le_of_ble_eq_true rfl⟩) ?_
  exact g_iret X F dX1_countFor_36 (by omega) (by omega) (by unfold aFor; exact ⟨rfl, hR5, hF6⟩)
set_option maxRecDepth 100000 in
set_option maxHeartbeats 4000000 in
theorem c_X1_countAgainst (l : Launch) (hl : l.stackTraces = false) (Γ : Gm) (M : Hp) (a : Nat → Nat) (u : HV) (hR : HRep Γ a u M) (b : Int32) (x : Int32) (vb : vp_in b 8) : Ct l Γ yX1_countAgainst cX1_countAgainst 3 (some .int) 1 0 0 [.ref (a 0), .int b, .int x] M (Mu Γ a (some (.int (hW (aAgainst u b x) ((aAgainst u b x).2.1 7 (cN b))))) (aAgainst u b x) M) := by
  refine Ct.of hl (by decide) (Nat.le_of_ble_eq_true rfl) rfl ?_
  intro κ e1 e2 hnL hRm X F hlt
  subst e1 e2
  refine g_aload_n X dX1_countAgainst_0 rfl 0 rfl ?_
  refine g_get X dX1_countAgainst_1 (ci := 1) (k := 11) (v := .ref (a 7)) rfl k64 (by decide) rfl hR.obj rfl ?_
  refine g_iload_n X dX1_countAgainst_4 rfl 1 rfl ?_
  refine g_dup2 X dX1_countAgainst_5 rfl rfl ?_
  refine g_iaload X dX1_countAgainst_6 (hR.row 7 (by decide) (by decide)) vb ?_
  refine g_iconst (v := 1) X dX1_countAgainst_7 (by decide) ?_
  refine g_iload_n X dX1_countAgainst_8 rfl 2 rfl ?_
  refine g_ishl X dX1_countAgainst_9 ?_
  refine g_ior X dX1_countAgainst_10 ?_
  refine g_iastore X dX1_countAgainst_11 (hR.row 7 (by decide) (by decide)) vb ?_
  refine g_gen (P := fun M9 => HRep κ.Γ a (hset u 7 (cN b) ((u.2.1 7 (cN b)) ||| (shl 1 x))) M9 ∧ Fr a 28 M M9) ⟨hR.ar 7 (by decide) (by decide) _ rfl, (Fr.up (by decide))⟩ (fun M1 ⟨hR2, hF3⟩ => ?_)
  refine g_aload_n X dX1_countAgainst_12 rfl 0 rfl ?_
  refine g_get X dX1_countAgainst_13 (ci := 1) (k := 10) (v := .ref (a 6)) rfl k62 (by decide) rfl hR2.obj rfl ?_
  refine g_iload_n X dX1_countAgainst_16 rfl 1 rfl ?_
  refine g_dup2 X dX1_countAgainst_17 rfl rfl ?_
  refine g_iaload X dX1_countAgainst_18 (hR2.row 6 (by decide) (by decide)) vb ?_
  refine g_iconst (v := 1) X dX1_countAgainst_19 (by decide) ?_
  refine g_iload_n X dX1_countAgainst_20 rfl 2 rfl ?_
  refine g_ishl X dX1_countAgainst_21 ?_
  refine g_iconst (v := (-1)) X dX1_countAgainst_22 (by decide) ?_
  refine g_ixor X dX1_countAgainst_23 ?_
  refine g_iand X dX1_countAgainst_24 ?_
  refine g_iastore X dX1_countAgainst_25 (hR2.row 6 (by decide) (by decide)) vb ?_
  refine g_gen (P := fun M9 => HRep κ.Γ a (hset (hset u 7 (cN b) ((u.2.1 7 (cN b)) ||| (shl 1 x))) 6 (cN b) (((hset u 7 (cN b) ((u.2.1 7 (cN b)) ||| (shl 1 x))).2.1 6 (cN b)) &&& ((shl 1 x) ^^^ (-1)))) M9 ∧ Fr a 28 M M9) ⟨hR2.ar 6 (by decide) (by decide) _ rfl, Fr.tr hF3 (Fr.up (by decide))⟩ (fun M4 ⟨hR5, hF6⟩ => ?_)
  refine g_aload_n X dX1_countAgainst_26 rfl 0 rfl ?_
  refine g_aload_n X dX1_countAgainst_27 rfl 0 rfl ?_
  refine g_get X dX1_countAgainst_28 (ci := 1) (k := 11) (v := .ref (a 7)) rfl k64 (by decide) rfl hR5.obj rfl ?_
  refine g_iload_n X dX1_countAgainst_31 rfl 1 rfl ?_
  refine g_iaload X dX1_countAgainst_32 (hR5.row 7 (by decide) (by decide)) vb ?_
  refine g_callV_rd (As := [.int ((hset (hset u 7 (cN b) ((u.2.1 7 (cN b)) ||| (shl 1 x))) 6 (cN b) (((hset u 7 (cN b) ((u.2.1 7 (cN b)) ||| (shl 1 x))).2.1 6 (cN b)) &&& ((shl 1 x) ^^^ (-1)))).2.1 7 (cN b))]) (ci := 1) (v := some (.int (hW (hset (hset u 7 (cN b) ((u.2.1 7 (cN b)) ||| (shl 1 x))) 6 (cN b) (((hset u 7 (cN b) ((u.2.1 7 (cN b)) ||| (shl 1 x))).2.1 6 (cN b)) &&& ((shl 1 x) ^^^ (-1)))) ((hset (hset u 7 (cN b) ((u.2.1 7 (cN b)) ||| (shl 1 x))) 6 (cN b) (((hset u 7 (cN b) ((u.2.1 7 (cN b)) ||| (shl 1 x))).2.1 6 (cN b)) &&& ((shl 1 x) ^^^ (-1)))).2.1 7 (cN b))))) X dX1_countAgainst_33 (c_X1_weightOfSet κ.l hl κ.Γ M4 a (hset (hset u 7 (cN b) ((u.2.1 7 (cN b)) ||| (shl 1 x))) 6 (cN b) (((hset u 7 (cN b) ((u.2.1 7 (cN b)) ||| (shl 1 x))).2.1 6 (cN b)) &&& ((shl 1 x) ^^^ (-1)))) hR5 ((hset (hset u 7 (cN b) ((u.2.1 7 (cN b)) ||| (shl 1 x))) 6 (cN b) (((hset u 7 (cN b) ((u.2.1 7 (cN b)) ||| (shl 1 x))).2.1 6 (cN b)) &&& ((shl 1 x) ^^^ (-1)))).2.1 7 (cN b))) k680 k255 k256 k2 k257 rfl hR5.obj ⟨rfl, by decide, by decide, (show (parseMethodDescriptor yX1_weightOfSet.desc).map (fun d => d.parameters.length) = some 1 by decide +kernel)⟩ rfl (Nat.le_of_ble_eq_true rfl) (by rw [hRm]; decide) (by rw [hRm]; exact ⟨Nat.le_of_ble_eq_true rfl, Nat.le_of_ble_eq_true rfl⟩) ?_
  exact g_iret X F dX1_countAgainst_36 (by omega) (by omega) (by unfold aAgainst; exact ⟨rfl, hR5, hF6⟩)
set_option maxRecDepth 100000 in
set_option maxHeartbeats 4000000 in
theorem c_X1_finish (l : Launch) (hl : l.stackTraces = false) (Γ : Gm) (M : Hp) (a : Nat → Nat) (u : HV) (hR : HRep Γ a u M) (b : Int32) (s : Int32) (vb : vp_in b 8) : Ct l Γ yX1_finish cX1_finish 3 none 0 0 0 [.ref (a 0), .int b, .int s] M (Mu Γ a (none) (aFinish u b s) M) := by
  refine Ct.of hl (by decide) (Nat.le_of_ble_eq_true rfl) rfl ?_
  intro κ e1 e2 hnL hRm X F hlt
  subst e1 e2
  refine g_aload_n X dX1_finish_0 rfl 0 rfl ?_
  refine g_get X dX1_finish_1 (ci := 1) (k := 6) (v := .ref (a 3)) rfl k54 (by decide) rfl hR.obj rfl ?_
  refine g_iload_n X dX1_finish_4 rfl 1 rfl ?_
  refine g_iload_n X dX1_finish_5 rfl 2 rfl ?_
  refine g_iastore X dX1_finish_6 (hR.row 3 (by decide) (by decide)) vb ?_
  refine g_gen (P := fun M9 => HRep κ.Γ a (hset u 3 (cN b) s) M9 ∧ Fr a 28 M M9) ⟨hR.ar 3 (by decide) (by decide) _ rfl, (Fr.up (by decide))⟩ (fun M1 ⟨hR2, hF3⟩ => ?_)
  refine g_aload_n X dX1_finish_7 rfl 0 rfl ?_
  refine g_get X dX1_finish_8 (ci := 1) (k := 10) (v := .ref (a 6)) rfl k62 (by decide) rfl hR2.obj rfl ?_
  refine g_iload_n X dX1_finish_11 rfl 1 rfl ?_
  refine g_iconst (v := 0) X dX1_finish_12 (by decide) ?_
  refine g_iastore X dX1_finish_13 (hR2.row 6 (by decide) (by decide)) vb ?_
  refine g_gen (P := fun M9 => HRep κ.Γ a (hset (hset u 3 (cN b) s) 6 (cN b) 0) M9 ∧ Fr a 28 M M9) ⟨hR2.ar 6 (by decide) (by decide) _ rfl, Fr.tr hF3 (Fr.up (by decide))⟩ (fun M4 ⟨hR5, hF6⟩ => ?_)
  refine g_aload_n X dX1_finish_14 rfl 0 rfl ?_
  refine g_get X dX1_finish_15 (ci := 1) (k := 11) (v := .ref (a 7)) rfl k64 (by decide) rfl hR5.obj rfl ?_
  refine g_iload_n X dX1_finish_18 rfl 1 rfl ?_
  refine g_iconst (v := 0) X dX1_finish_19 (by decide) ?_
  refine g_iastore X dX1_finish_20 (hR5.row 7 (by decide) (by decide)) vb ?_
  refine g_gen (P := fun M9 => HRep κ.Γ a (hset (hset (hset u 3 (cN b) s) 6 (cN b) 0) 7 (cN b) 0) M9 ∧ Fr a 28 M M9) ⟨hR5.ar 7 (by decide) (by decide) _ rfl, Fr.tr hF6 (Fr.up (by decide))⟩ (fun M7 ⟨hR8, hF9⟩ => ?_)
  refine g_aload_n X dX1_finish_21 rfl 0 rfl ?_
  refine g_get X dX1_finish_22 (ci := 1) (k := 12) (v := .ref (a 8)) rfl k66 (by decide) rfl hR8.obj rfl ?_
  refine g_iload_n X dX1_finish_25 rfl 1 rfl ?_
  refine g_iconst (v := 0) X dX1_finish_26 (by decide) ?_
  refine g_iastore X dX1_finish_27 (hR8.row 8 (by decide) (by decide)) vb ?_
  refine g_gen (P := fun M9 => HRep κ.Γ a (hset (hset (hset (hset u 3 (cN b) s) 6 (cN b) 0) 7 (cN b) 0) 8 (cN b) 0) M9 ∧ Fr a 28 M M9) ⟨hR8.ar 8 (by decide) (by decide) _ rfl, Fr.tr hF9 (Fr.up (by decide))⟩ (fun M10 ⟨hR11, hF12⟩ => ?_)
  exact g_vret X F dX1_finish_28 (by omega) (by omega) (by unfold aFinish; exact ⟨rfl, hR11, hF12⟩)
set_option maxRecDepth 100000 in
set_option maxHeartbeats 4000000 in
theorem c_X1_move (l : Launch) (hl : l.stackTraces = false) (Γ : Gm) (M : Hp) (a : Nat → Nat) (u : HV) (hR : HRep Γ a u M) (b : Int32) (x : Int32) (c : Int32) (vb : vp_in b 8) (vp : vp_in (u.2.1 8 (cN b)) 4) : Ct l Γ yX1_move cX1_move 5 (some .int) 0 0 0 [.ref (a 0), .int b, .int x, .int c] M (Mu Γ a (some (.int (u.2.1 8 (cN b)))) (aMove u b x c) M) := by
  refine Ct.of hl (by decide) (Nat.le_of_ble_eq_true rfl) rfl ?_
  intro κ e1 e2 hnL hRm X F hlt
  subst e1 e2
  refine g_aload_n X dX1_move_0 rfl 0 rfl ?_
  refine g_get X dX1_move_1 (ci := 1) (k := 12) (v := .ref (a 8)) rfl k66 (by decide) rfl hR.obj rfl ?_
  refine g_iload_n X dX1_move_4 rfl 1 rfl ?_
  refine g_iaload X dX1_move_5 (hR.row 8 (by decide) (by decide)) vb ?_
  refine g_istore (L' := [(4, .int (u.2.1 8 (cN b))), (0, .ref (a 0)), (1, .int b), (2, .int x), (3, .int c)]) X dX1_move_6 (by rw [hnL]; decide) rfl ?_
  refine g_aload_n X dX1_move_8 rfl 1 rfl ?_
  refine g_get X dX1_move_9 (ci := 1) (k := 13) (v := .ref (a 10)) rfl k68 (by decide) rfl hR.obj rfl ?_
  refine g_iload_n X dX1_move_12 rfl 2 rfl ?_
  refine g_aaload (t0 := 3) (v := .ref (a (12 + cN b))) X dX1_move_13 hR.amd rfl rfl vb (rf_if (f := fun b => a (12 + b)) (vin_lt vb)) ?_
  refine g_iload X dX1_move_14 0 rfl ?_
  refine g_iload_n X dX1_move_16 rfl 4 rfl ?_
  refine g_iastore X dX1_move_17 (hR.row12 vb) vp ?_
  refine g_gen (P := fun M9 => HRep κ.Γ a (hset u (12 + cN b) (cN (u.2.1 8 (cN b))) c) M9 ∧ Fr a 28 M M9) ⟨hR.ar (12 + cN b) (rb_lt12 vb) (rb_ne12 vb) _ (rb_len12 _), (Fr.up (rb_lt12 vb))⟩ (fun M1 ⟨hR2, hF3⟩ => ?_)
  refine g_aload_n X dX1_move_18 rfl 1 rfl ?_
  refine g_get X dX1_move_19 (ci := 1) (k := 14) (v := .ref (a 11)) rfl k70 (by decide) rfl hR2.obj rfl ?_
  refine g_iload_n X dX1_move_22 rfl 2 rfl ?_
  refine g_aaload (t0 := 3) (v := .ref (a (20 + cN b))) X dX1_move_23 hR2.sup rfl rfl vb (rf_if (f := fun b => a (20 + b)) (vin_lt vb)) ?_
  refine g_iload X dX1_move_24 0 rfl ?_
  refine g_iconst (v := 1) X dX1_move_26 (by decide) ?_
  refine g_iload_n X dX1_move_27 rfl 3 rfl ?_
  refine g_ishl X dX1_move_28 ?_
  refine g_iastore X dX1_move_29 (hR2.row20 vb) vp ?_
  refine g_gen (P := fun M9 => HRep κ.Γ a (hset (hset u (12 + cN b) (cN (u.2.1 8 (cN b))) c) (20 + cN b) (cN (u.2.1 8 (cN b))) (shl 1 x)) M9 ∧ Fr a 28 M M9) ⟨hR2.ar (20 + cN b) (rb_lt20 vb) (rb_ne20 vb) _ (rb_len20 _), Fr.tr hF3 (Fr.up (rb_lt20 vb))⟩ (fun M4 ⟨hR5, hF6⟩ => ?_)
  refine g_aload_n X dX1_move_30 rfl 1 rfl ?_
  refine g_get X dX1_move_31 (ci := 1) (k := 12) (v := .ref (a 8)) rfl k66 (by decide) rfl hR5.obj rfl ?_
  refine g_iload_n X dX1_move_34 rfl 2 rfl ?_
  refine g_dup2 X dX1_move_35 rfl rfl ?_
  refine g_iaload X dX1_move_36 (hR5.row 8 (by decide) (by decide)) vb ?_
  refine g_iconst (v := 1) X dX1_move_37 (by decide) ?_
  refine g_iadd X dX1_move_38 ?_
  refine g_iastore X dX1_move_39 (hR5.row 8 (by decide) (by decide)) vb ?_
  refine g_gen (P := fun M9 => HRep κ.Γ a (hset (hset (hset u (12 + cN b) (cN (u.2.1 8 (cN b))) c) (20 + cN b) (cN (u.2.1 8 (cN b))) (shl 1 x)) 8 (cN b) (((hset (hset u (12 + cN b) (cN (u.2.1 8 (cN b))) c) (20 + cN b) (cN (u.2.1 8 (cN b))) (shl 1 x)).2.1 8 (cN b)) + 1)) M9 ∧ Fr a 28 M M9) ⟨hR5.ar 8 (by decide) (by decide) _ rfl, Fr.tr hF6 (Fr.up (by decide))⟩ (fun M7 ⟨hR8, hF9⟩ => ?_)
  refine g_iload X dX1_move_40 0 rfl ?_
  exact g_iret X F dX1_move_42 (by omega) (by omega) (by unfold aMove; exact ⟨rfl, hR8, hF9⟩)
set_option maxRecDepth 100000 in
set_option maxHeartbeats 4000000 in
theorem c_X1_second (l : Launch) (hl : l.stackTraces = false) (Γ : Gm) (M : Hp) (a : Nat → Nat) (u : HV) (hR : HRep Γ a u M) (b : Int32) (p : Int32) (x : Int32) (vb : vp_in b 8) (vp : vp_in p 4) : Ct l Γ yX1_second cX1_second 4 (some .int) 1 0 0 [.ref (a 0), .int b, .int p, .int x] M (Mu Γ a (some (.int (hW (aSecond u b p x) ((aSecond u b p x).2.1 (20 + cN b) (cN p))))) (aSecond u b p x) M) := by
  refine Ct.of hl (by decide) (Nat.le_of_ble_eq_true rfl) rfl ?_
  intro κ e1 e2 hnL hRm X F hlt
  subst e1 e2
  refine g_aload_n X dX1_second_0 rfl 0 rfl ?_
  refine g_get X dX1_second_1 (ci := 1) (k := 14) (v := .ref (a 11)) rfl k70 (by decide) rfl hR.obj rfl ?_
  refine g_iload_n X dX1_second_4 rfl 1 rfl ?_
  refine g_aaload (t0 := 3) (v := .ref (a (20 + cN b))) X dX1_second_5 hR.sup rfl rfl vb (rf_if (f := fun b => a (20 + b)) (vin_lt vb)) ?_
  refine g_iload_n X dX1_second_6 rfl 2 rfl ?_
  refine g_dup2 X dX1_second_7 rfl rfl ?_
  refine g_iaload X dX1_second_8 (hR.row20 vb) vp ?_
  refine g_iconst (v := 1) X dX1_second_9 (by decide) ?_
  refine g_iload_n X dX1_second_10 rfl 3 rfl ?_
  refine g_ishl X dX1_second_11 ?_
  refine g_ior X dX1_second_12 ?_
  refine g_iastore X dX1_second_13 (hR.row20 vb) vp ?_
  refine g_gen (P := fun M9 => HRep κ.Γ a (hset u (20 + cN b) (cN p) ((u.2.1 (20 + cN b) (cN p)) ||| (shl 1 x))) M9 ∧ Fr a 28 M M9) ⟨hR.ar (20 + cN b) (rb_lt20 vb) (rb_ne20 vb) _ (rb_len20 _), (Fr.up (rb_lt20 vb))⟩ (fun M1 ⟨hR2, hF3⟩ => ?_)
  refine g_aload_n X dX1_second_14 rfl 0 rfl ?_
  refine g_aload_n X dX1_second_15 rfl 0 rfl ?_
  refine g_get X dX1_second_16 (ci := 1) (k := 14) (v := .ref (a 11)) rfl k70 (by decide) rfl hR2.obj rfl ?_
  refine g_iload_n X dX1_second_19 rfl 1 rfl ?_
  refine g_aaload (t0 := 3) (v := .ref (a (20 + cN b))) X dX1_second_20 hR2.sup rfl rfl vb (rf_if (f := fun b => a (20 + b)) (vin_lt vb)) ?_
  refine g_iload_n X dX1_second_21 rfl 2 rfl ?_
  refine g_iaload X dX1_second_22 (hR2.row20 vb) vp ?_
  refine g_callV_rd (As := [.int ((hset u (20 + cN b) (cN p) ((u.2.1 (20 + cN b) (cN p)) ||| (shl 1 x))).2.1 (20 + cN b) (cN p))]) (ci := 1) (v := some (.int (hW (hset u (20 + cN b) (cN p) ((u.2.1 (20 + cN b) (cN p)) ||| (shl 1 x))) ((hset u (20 + cN b) (cN p) ((u.2.1 (20 + cN b) (cN p)) ||| (shl 1 x))).2.1 (20 + cN b) (cN p))))) X dX1_second_23 (c_X1_weightOfSet κ.l hl κ.Γ M1 a (hset u (20 + cN b) (cN p) ((u.2.1 (20 + cN b) (cN p)) ||| (shl 1 x))) hR2 ((hset u (20 + cN b) (cN p) ((u.2.1 (20 + cN b) (cN p)) ||| (shl 1 x))).2.1 (20 + cN b) (cN p))) k680 k255 k256 k2 k257 rfl hR2.obj ⟨rfl, by decide, by decide, (show (parseMethodDescriptor yX1_weightOfSet.desc).map (fun d => d.parameters.length) = some 1 by decide +kernel)⟩ rfl (Nat.le_of_ble_eq_true rfl) (by rw [hRm]; decide) (by rw [hRm]; exact ⟨Nat.le_of_ble_eq_true rfl, Nat.le_of_ble_eq_true rfl⟩) ?_
  exact g_iret X F dX1_second_26 (by omega) (by omega) (by unfold aSecond; exact ⟨rfl, hR2, hF3⟩)
set_option maxRecDepth 100000 in
set_option maxHeartbeats 4000000 in
theorem c_X1_holdUp (l : Launch) (hl : l.stackTraces = false) (Γ : Gm) (M : Hp) (a : Nat → Nat) (u : HV) (hR : HRep Γ a u M) (b : Int32) (n : Int32) (vb : vp_in b 8) : Ct l Γ yX1_holdUp cX1_holdUp 3 (some .int) 1 0 0 [.ref (a 0), .int b, .int n] M (Mu Γ a (some (.int (hRust (aHold u b n) (cN b)))) (aHold u b n) M) := by
  refine Ct.of hl (by decide) (Nat.le_of_ble_eq_true rfl) rfl ?_
  intro κ e1 e2 hnL hRm X F hlt
  subst e1 e2
  refine g_aload_n X dX1_holdUp_0 rfl 0 rfl ?_
  refine g_get X dX1_holdUp_1 (ci := 1) (k := 9) (v := .ref (a 5)) rfl k60 (by decide) rfl hR.obj rfl ?_
  refine g_iload_n X dX1_holdUp_4 rfl 1 rfl ?_
  refine g_dup2 X dX1_holdUp_5 rfl rfl ?_
  refine g_iaload X dX1_holdUp_6 (hR.row 5 (by decide) (by decide)) vb ?_
  refine g_iload_n X dX1_holdUp_7 rfl 2 rfl ?_
  refine g_iadd X dX1_holdUp_8 ?_
  refine g_iastore X dX1_holdUp_9 (hR.row 5 (by decide) (by decide)) vb ?_
  refine g_gen (P := fun M9 => HRep κ.Γ a (hset u 5 (cN b) ((u.2.1 5 (cN b)) + n)) M9 ∧ Fr a 28 M M9) ⟨hR.ar 5 (by decide) (by decide) _ rfl, (Fr.up (by decide))⟩ (fun M1 ⟨hR2, hF3⟩ => ?_)
  refine g_aload_n X dX1_holdUp_10 rfl 0 rfl ?_
  refine g_iload_n X dX1_holdUp_11 rfl 1 rfl ?_
  refine g_callV_rd (As := [.int b]) (ci := 1) (v := some (.int (hRust (hset u 5 (cN b) ((u.2.1 5 (cN b)) + n)) (cN b)))) X dX1_holdUp_12 (c_X1_rustOf κ.l hl κ.Γ M1 a (hset u 5 (cN b) ((u.2.1 5 (cN b)) + n)) hR2 b vb) k660 k661 k662 k2 k663 rfl hR2.obj ⟨rfl, by decide, by decide, (show (parseMethodDescriptor yX1_rustOf.desc).map (fun d => d.parameters.length) = some 1 by decide +kernel)⟩ rfl (Nat.le_of_ble_eq_true rfl) (by rw [hRm]; decide) (by rw [hRm]; exact ⟨Nat.le_of_ble_eq_true rfl, Nat.le_of_ble_eq_true rfl⟩) ?_
  refine g_iconst (v := 3) X dX1_holdUp_15 (by decide) ?_
  refine g_icmp_lt (tgt := 25) X dX1_holdUp_16 (by decide) (fun c4 => ?_) (fun c4 => ?_)
  · refine g_aload_n X dX1_holdUp_25 rfl 0 rfl ?_
    refine g_iload_n X dX1_holdUp_26 rfl 1 rfl ?_
    refine g_callV_rd (As := [.int b]) (ci := 1) (v := some (.int (hRust (hset u 5 (cN b) ((u.2.1 5 (cN b)) + n)) (cN b)))) X dX1_holdUp_27 (c_X1_rustOf κ.l hl κ.Γ M1 a (hset u 5 (cN b) ((u.2.1 5 (cN b)) + n)) hR2 b vb) k660 k661 k662 k2 k663 rfl hR2.obj ⟨rfl, by decide, by decide, (show (parseMethodDescriptor yX1_rustOf.desc).map (fun d => d.parameters.length) = some 1 by decide +kernel)⟩ rfl (Nat.le_of_ble_eq_true rfl) (by rw [hRm]; decide) (by rw [hRm]; exact ⟨Nat.le_of_ble_eq_true rfl, Nat.le_of_ble_eq_true rfl⟩) ?_
    exact g_iret X F dX1_holdUp_30 (by omega) (by omega) (by rw [show aHold u b n = hset u 5 (cN b) ((u.2.1 5 (cN b)) + n) from by first | exact if_pos c4 | exact if_neg c4]; exact ⟨rfl, hR2, hF3⟩)
  · refine g_aload_n X dX1_holdUp_19 rfl 0 rfl ?_
    refine g_iload_n X dX1_holdUp_20 rfl 1 rfl ?_
    refine g_iconst (v := 2) X dX1_holdUp_21 (by decide) ?_
    refine g_callV (As := [.int b, .int 2]) (ci := 1) X dX1_holdUp_22 (c_X1_finish κ.l hl κ.Γ M1 a (hset u 5 (cN b) ((u.2.1 5 (cN b)) + n)) hR2 b 2 vb) k729 k731 kp7 k2 k732 rfl hR2.obj ⟨rfl, by decide, by decide, (show (parseMethodDescriptor yX1_finish.desc).map (fun d => d.parameters.length) = some 2 by decide +kernel)⟩ rfl (Nat.le_of_ble_eq_true rfl) (by rw [hRm]; decide) (by rw [hRm]; exact ⟨Nat.le_of_ble_eq_true rfl, Nat.le_of_ble_eq_true rfl⟩) (fun v4 M4 h4 => ?_) (fun _ _ h9 => by cases h9.1)
    obtain ⟨e4, hR4, hF4⟩ := h4
    cases e4
    have hF4 := Fr.tr hF3 hF4
    refine g_aload_n X dX1_holdUp_25 rfl 0 rfl ?_
    refine g_iload_n X dX1_holdUp_26 rfl 1 rfl ?_
    refine g_callV_rd (As := [.int b]) (ci := 1) (v := some (.int (hRust (aFinish (hset u 5 (cN b) ((u.2.1 5 (cN b)) + n)) b 2) (cN b)))) X dX1_holdUp_27 (c_X1_rustOf κ.l hl κ.Γ M4 a (aFinish (hset u 5 (cN b) ((u.2.1 5 (cN b)) + n)) b 2) hR4 b vb) k660 k661 k662 k2 k663 rfl hR4.obj ⟨rfl, by decide, by decide, (show (parseMethodDescriptor yX1_rustOf.desc).map (fun d => d.parameters.length) = some 1 by decide +kernel)⟩ rfl (Nat.le_of_ble_eq_true rfl) (by rw [hRm]; decide) (by rw [hRm]; exact ⟨Nat.le_of_ble_eq_true rfl, Nat.le_of_ble_eq_true rfl⟩) ?_
    exact g_iret X F dX1_holdUp_30 (by omega) (by omega) (by rw [show aHold u b n = aFinish (hset u 5 (cN b) ((u.2.1 5 (cN b)) + n)) b 2 from by first | exact if_pos c4 | exact if_neg c4]; exact ⟨rfl, hR4, hF4⟩)
set_option maxRecDepth 100000 in
set_option maxHeartbeats 4000000 in
theorem c_X1_endReading (l : Launch) (hl : l.stackTraces = false) (Γ : Gm) (M : Hp) (a : Nat → Nat) (u : HV) (hR : HRep Γ a u M) (b : Int32) (vb : vp_in b 8) : Ct l Γ yX1_endReading cX1_endReading 3 (some .boolean) 1 0 0 [.ref (a 0), .int b] M (Mu Γ a (some (.int (bI (sucE u b)))) (aEnd u b) M) := by
  refine Ct.of hl (by decide) (Nat.le_of_ble_eq_true rfl) rfl ?_
  intro κ e1 e2 hnL hRm X F hlt
  subst e1 e2
  refine g_aload_n X dX1_endReading_0 rfl 0 rfl ?_
  refine g_aload_n X dX1_endReading_1 rfl 0 rfl ?_
  refine g_get X dX1_endReading_2 (ci := 1) (k := 10) (v := .ref (a 6)) rfl k62 (by decide) rfl hR.obj rfl ?_
  refine g_iload_n X dX1_endReading_5 rfl 1 rfl ?_
  refine g_iaload X dX1_endReading_6 (hR.row 6 (by decide) (by decide)) vb ?_
  refine g_callV_rd (As := [.int (u.2.1 6 (cN b))]) (ci := 1) (v := some (.int (hW u (u.2.1 6 (cN b))))) X dX1_endReading_7 (c_X1_weightOfSet κ.l hl κ.Γ M a u hR (u.2.1 6 (cN b))) k680 k255 k256 k2 k257 rfl hR.obj ⟨rfl, by decide, by decide, (show (parseMethodDescriptor yX1_weightOfSet.desc).map (fun d => d.parameters.length) = some 1 by decide +kernel)⟩ rfl (Nat.le_of_ble_eq_true rfl) (by rw [hRm]; decide) (by rw [hRm]; exact ⟨Nat.le_of_ble_eq_true rfl, Nat.le_of_ble_eq_true rfl⟩) ?_
  refine g_aload_n X dX1_endReading_10 rfl 0 rfl ?_
  refine g_aload_n X dX1_endReading_11 rfl 0 rfl ?_
  refine g_get X dX1_endReading_12 (ci := 1) (k := 11) (v := .ref (a 7)) rfl k64 (by decide) rfl hR.obj rfl ?_
  refine g_iload_n X dX1_endReading_15 rfl 1 rfl ?_
  refine g_iaload X dX1_endReading_16 (hR.row 7 (by decide) (by decide)) vb ?_
  refine g_callV_rd (As := [.int (u.2.1 7 (cN b))]) (ci := 1) (v := some (.int (hW u (u.2.1 7 (cN b))))) X dX1_endReading_17 (c_X1_weightOfSet κ.l hl κ.Γ M a u hR (u.2.1 7 (cN b))) k680 k255 k256 k2 k257 rfl hR.obj ⟨rfl, by decide, by decide, (show (parseMethodDescriptor yX1_weightOfSet.desc).map (fun d => d.parameters.length) = some 1 by decide +kernel)⟩ rfl (Nat.le_of_ble_eq_true rfl) (by rw [hRm]; decide) (by rw [hRm]; exact ⟨Nat.le_of_ble_eq_true rfl, Nat.le_of_ble_eq_true rfl⟩) ?_
  refine g_icmp_le (tgt := 27) X dX1_endReading_20 (by decide) (fun c1 => ?_) (fun c1 => ?_)
  · refine g_iconst (v := 0) X dX1_endReading_27 (by decide) ?_
    refine g_istore_n (L' := [(2, .int 0), (0, .ref (a 0)), (1, .int b)]) X dX1_endReading_28 rfl (by rw [hnL]; decide) rfl ?_
    refine g_aload_n X dX1_endReading_29 rfl 1 rfl ?_
    refine g_get X dX1_endReading_30 (ci := 1) (k := 10) (v := .ref (a 6)) rfl k62 (by decide) rfl hR.obj rfl ?_
    refine g_iload_n X dX1_endReading_33 rfl 2 rfl ?_
    refine g_iconst (v := 0) X dX1_endReading_34 (by decide) ?_
    refine g_iastore X dX1_endReading_35 (hR.row 6 (by decide) (by decide)) vb ?_
    refine g_gen (P := fun M9 => HRep κ.Γ a (hset u 6 (cN b) 0) M9 ∧ Fr a 28 M M9) ⟨hR.ar 6 (by decide) (by decide) _ rfl, (Fr.up (by decide))⟩ (fun M2 ⟨hR3, hF4⟩ => ?_)
    refine g_aload_n X dX1_endReading_36 rfl 1 rfl ?_
    refine g_get X dX1_endReading_37 (ci := 1) (k := 11) (v := .ref (a 7)) rfl k64 (by decide) rfl hR3.obj rfl ?_
    refine g_iload_n X dX1_endReading_40 rfl 2 rfl ?_
    refine g_iconst (v := 0) X dX1_endReading_41 (by decide) ?_
    refine g_iastore X dX1_endReading_42 (hR3.row 7 (by decide) (by decide)) vb ?_
    refine g_gen (P := fun M9 => HRep κ.Γ a (hset (hset u 6 (cN b) 0) 7 (cN b) 0) M9 ∧ Fr a 28 M M9) ⟨hR3.ar 7 (by decide) (by decide) _ rfl, Fr.tr hF4 (Fr.up (by decide))⟩ (fun M5 ⟨hR6, hF7⟩ => ?_)
    refine g_iload_n X dX1_endReading_43 rfl 0 rfl ?_
    refine g_if_ne (tgt := 55) X dX1_endReading_44 (by decide) (fun c8 => absurd c8 (by decide)) (fun c8 => ?_)
    refine g_aload_n X dX1_endReading_47 rfl 1 rfl ?_
    refine g_iload_n X dX1_endReading_48 rfl 2 rfl ?_
    refine g_iconst (v := 2) X dX1_endReading_49 (by decide) ?_
    refine g_callV (As := [.int b, .int 2]) (ci := 1) X dX1_endReading_50 (c_X1_finish κ.l hl κ.Γ M5 a (hset (hset u 6 (cN b) 0) 7 (cN b) 0) hR6 b 2 vb) k729 k731 kp7 k2 k732 rfl hR6.obj ⟨rfl, by decide, by decide, (show (parseMethodDescriptor yX1_finish.desc).map (fun d => d.parameters.length) = some 2 by decide +kernel)⟩ rfl (Nat.le_of_ble_eq_true rfl) (by rw [hRm]; decide) (by rw [hRm]; exact ⟨Nat.le_of_ble_eq_true rfl, Nat.le_of_ble_eq_true rfl⟩) (fun v8 M8 h8 => ?_) (fun _ _ h9 => by cases h9.1)
    obtain ⟨e8, hR8, hF8⟩ := h8
    cases e8
    have hF8 := Fr.tr hF7 hF8
    refine g_iconst (v := 0) X dX1_endReading_53 (by decide) ?_
    exact g_zret X F dX1_endReading_54 (by omega) (by omega) rfl (by rw [show aEnd u b = aFinish (hset (hset u 6 (cN b) 0) 7 (cN b) 0) b 2 from by first | exact if_pos (Int32.not_lt.mpr c1) | exact (if_neg (Classical.not_not.mpr (Int32.not_le.mp c1))).trans (if_pos c1) | exact (if_neg (Classical.not_not.mpr (Int32.not_le.mp c1))).trans (if_neg c1)]; exact ⟨by rw [bI_f (Int32.not_lt.mpr c1)], hR8, hF8⟩)
  · refine g_iconst (v := 1) X dX1_endReading_23 (by decide) ?_
    refine g_goto (tgt := 28) X dX1_endReading_24 (by decide) ?_
    refine g_istore_n (L' := [(2, .int 1), (0, .ref (a 0)), (1, .int b)]) X dX1_endReading_28 rfl (by rw [hnL]; decide) rfl ?_
    refine g_aload_n X dX1_endReading_29 rfl 1 rfl ?_
    refine g_get X dX1_endReading_30 (ci := 1) (k := 10) (v := .ref (a 6)) rfl k62 (by decide) rfl hR.obj rfl ?_
    refine g_iload_n X dX1_endReading_33 rfl 2 rfl ?_
    refine g_iconst (v := 0) X dX1_endReading_34 (by decide) ?_
    refine g_iastore X dX1_endReading_35 (hR.row 6 (by decide) (by decide)) vb ?_
    refine g_gen (P := fun M9 => HRep κ.Γ a (hset u 6 (cN b) 0) M9 ∧ Fr a 28 M M9) ⟨hR.ar 6 (by decide) (by decide) _ rfl, (Fr.up (by decide))⟩ (fun M10 ⟨hR11, hF12⟩ => ?_)
    refine g_aload_n X dX1_endReading_36 rfl 1 rfl ?_
    refine g_get X dX1_endReading_37 (ci := 1) (k := 11) (v := .ref (a 7)) rfl k64 (by decide) rfl hR11.obj rfl ?_
    refine g_iload_n X dX1_endReading_40 rfl 2 rfl ?_
    refine g_iconst (v := 0) X dX1_endReading_41 (by decide) ?_
    refine g_iastore X dX1_endReading_42 (hR11.row 7 (by decide) (by decide)) vb ?_
    refine g_gen (P := fun M9 => HRep κ.Γ a (hset (hset u 6 (cN b) 0) 7 (cN b) 0) M9 ∧ Fr a 28 M M9) ⟨hR11.ar 7 (by decide) (by decide) _ rfl, Fr.tr hF12 (Fr.up (by decide))⟩ (fun M13 ⟨hR14, hF15⟩ => ?_)
    refine g_iload_n X dX1_endReading_43 rfl 0 rfl ?_
    refine g_if_ne (tgt := 55) X dX1_endReading_44 (by decide) (fun c16 => ?_) (fun c16 => absurd c16 (by decide))
    refine g_aload_n X dX1_endReading_55 rfl 1 rfl ?_
    refine g_get X dX1_endReading_56 (ci := 1) (k := 7) (v := .ref (a 4)) rfl k56 (by decide) rfl hR14.obj rfl ?_
    refine g_iload_n X dX1_endReading_59 rfl 2 rfl ?_
    refine g_dup2 X dX1_endReading_60 rfl rfl ?_
    refine g_iaload X dX1_endReading_61 (hR14.row 4 (by decide) (by decide)) vb ?_
    refine g_iconst (v := 1) X dX1_endReading_62 (by decide) ?_
    refine g_iadd X dX1_endReading_63 ?_
    refine g_iastore X dX1_endReading_64 (hR14.row 4 (by decide) (by decide)) vb ?_
    refine g_gen (P := fun M9 => HRep κ.Γ a (hset (hset (hset u 6 (cN b) 0) 7 (cN b) 0) 4 (cN b) (((hset (hset u 6 (cN b) 0) 7 (cN b) 0).2.1 4 (cN b)) + 1)) M9 ∧ Fr a 28 M M9) ⟨hR14.ar 4 (by decide) (by decide) _ rfl, Fr.tr hF15 (Fr.up (by decide))⟩ (fun M17 ⟨hR18, hF19⟩ => ?_)
    refine g_aload_n X dX1_endReading_65 rfl 1 rfl ?_
    refine g_get X dX1_endReading_66 (ci := 1) (k := 7) (v := .ref (a 4)) rfl k56 (by decide) rfl hR18.obj rfl ?_
    refine g_iload_n X dX1_endReading_69 rfl 2 rfl ?_
    refine g_iaload X dX1_endReading_70 (hR18.row 4 (by decide) (by decide)) vb ?_
    refine g_iconst (v := 3) X dX1_endReading_71 (by decide) ?_
    refine g_icmp_lt (tgt := 81) X dX1_endReading_72 (by decide) (fun c20 => ?_) (fun c20 => ?_)
    · refine g_iconst (v := 1) X dX1_endReading_81 (by decide) ?_
      exact g_zret X F dX1_endReading_82 (by omega) (by omega) rfl (by rw [show aEnd u b = hset (hset (hset u 6 (cN b) 0) 7 (cN b) 0) 4 (cN b) (((hset (hset u 6 (cN b) 0) 7 (cN b) 0).2.1 4 (cN b)) + 1) from by first | exact if_pos (Int32.not_lt.mpr c1) | exact (if_neg (Classical.not_not.mpr (Int32.not_le.mp c1))).trans (if_pos c20) | exact (if_neg (Classical.not_not.mpr (Int32.not_le.mp c1))).trans (if_neg c20)]; exact ⟨by rw [bI_t (Int32.not_le.mp c1)], hR18, hF19⟩)
    · refine g_aload_n X dX1_endReading_75 rfl 1 rfl ?_
      refine g_iload_n X dX1_endReading_76 rfl 2 rfl ?_
      refine g_iconst (v := 1) X dX1_endReading_77 (by decide) ?_
      refine g_callV (As := [.int b, .int 1]) (ci := 1) X dX1_endReading_78 (c_X1_finish κ.l hl κ.Γ M17 a (hset (hset (hset u 6 (cN b) 0) 7 (cN b) 0) 4 (cN b) (((hset (hset u 6 (cN b) 0) 7 (cN b) 0).2.1 4 (cN b)) + 1)) hR18 b 1 vb) k729 k731 kp7 k2 k732 rfl hR18.obj ⟨rfl, by decide, by decide, (show (parseMethodDescriptor yX1_finish.desc).map (fun d => d.parameters.length) = some 2 by decide +kernel)⟩ rfl (Nat.le_of_ble_eq_true rfl) (by rw [hRm]; decide) (by rw [hRm]; exact ⟨Nat.le_of_ble_eq_true rfl, Nat.le_of_ble_eq_true rfl⟩) (fun v20 M20 h20 => ?_) (fun _ _ h9 => by cases h9.1)
      obtain ⟨e20, hR20, hF20⟩ := h20
      cases e20
      have hF20 := Fr.tr hF19 hF20
      refine g_iconst (v := 1) X dX1_endReading_81 (by decide) ?_
      exact g_zret X F dX1_endReading_82 (by omega) (by omega) rfl (by rw [show aEnd u b = aFinish (hset (hset (hset u 6 (cN b) 0) 7 (cN b) 0) 4 (cN b) (((hset (hset u 6 (cN b) 0) 7 (cN b) 0).2.1 4 (cN b)) + 1)) b 1 from by first | exact if_pos (Int32.not_lt.mpr c1) | exact (if_neg (Classical.not_not.mpr (Int32.not_le.mp c1))).trans (if_pos c20) | exact (if_neg (Classical.not_not.mpr (Int32.not_le.mp c1))).trans (if_neg c20)]; exact ⟨by rw [bI_t (Int32.not_le.mp c1)], hR20, hF20⟩)
