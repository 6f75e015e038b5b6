set_option maxRecDepth 100000 in
set_option maxHeartbeats 4000000 in
theorem c_jbc (l : Launch) (hl : l.stackTraces = false) (Γ : Gm) (M : Hp) (x : Int32) : Ct l Γ yJ6_bitCount_0f7a4 cJ6_bitCount_0f7a4 1 (some .int) 0 0 0 [.int x] M (Rd (some (.int (jbc x))) M) := by
  refine Ct.of hl (by decide) (Nat.le_of_ble_eq_true rfl) rfl ?_
  intro κ e1 e2 hnL hRm X F hlt
  subst e1 e2
  refine g_iload_n X dJ6_bitCount_0f7a4_0 rfl 0 rfl ?_
  refine g_iload_n X dJ6_bitCount_0f7a4_1 rfl 0 rfl ?_
  refine g_iconst (v := 1) X dJ6_bitCount_0f7a4_2 (by decide) ?_
  refine g_iushr X dJ6_bitCount_0f7a4_3 ?_
  refine g_ldcw (v := 1431655765) X dJ6_bitCount_0f7a4_4 k211 ?_
  refine g_iand X dJ6_bitCount_0f7a4_7 ?_
  refine g_isub X dJ6_bitCount_0f7a4_8 ?_
  refine g_topi (fun z1 hz1 => ?_)
  refine g_istore_n (L' := [(0, .int z1)]) X dJ6_bitCount_0f7a4_9 rfl (by rw [hnL]; decide) rfl ?_
  refine g_iload_n X dJ6_bitCount_0f7a4_10 rfl 0 rfl ?_
  refine g_ldcw (v := 858993459) X dJ6_bitCount_0f7a4_11 k212 ?_
  refine g_iand X dJ6_bitCount_0f7a4_14 ?_
  refine g_iload_n X dJ6_bitCount_0f7a4_15 rfl 0 rfl ?_
  refine g_iconst (v := 2) X dJ6_bitCount_0f7a4_16 (by decide) ?_
  refine g_iushr X dJ6_bitCount_0f7a4_17 ?_
  refine g_ldcw (v := 858993459) X dJ6_bitCount_0f7a4_18 k212 ?_
  refine g_iand X dJ6_bitCount_0f7a4_21 ?_
  refine g_iadd X dJ6_bitCount_0f7a4_22 ?_
  refine g_topi (fun z2 hz2 => ?_)
  refine g_istore_n (L' := [(0, .int z2)]) X dJ6_bitCount_0f7a4_23 rfl (by rw [hnL]; decide) rfl ?_
  refine g_iload_n X dJ6_bitCount_0f7a4_24 rfl 0 rfl ?_
  refine g_iload_n X dJ6_bitCount_0f7a4_25 rfl 0 rfl ?_
  refine g_iconst (v := 4) X dJ6_bitCount_0f7a4_26 (by decide) ?_
  refine g_iushr X dJ6_bitCount_0f7a4_27 ?_
  refine g_iadd X dJ6_bitCount_0f7a4_28 ?_
  refine g_ldcw (v := 252645135) X dJ6_bitCount_0f7a4_29 k213 ?_
  refine g_iand X dJ6_bitCount_0f7a4_32 ?_
  refine g_topi (fun z3 hz3 => ?_)
  refine g_istore_n (L' := [(0, .int z3)]) X dJ6_bitCount_0f7a4_33 rfl (by rw [hnL]; decide) rfl ?_
  refine g_iload_n X dJ6_bitCount_0f7a4_34 rfl 0 rfl ?_
  refine g_iload_n X dJ6_bitCount_0f7a4_35 rfl 0 rfl ?_
  refine g_bipush (v := 8) X dJ6_bitCount_0f7a4_36 (by decide) ?_
  refine g_iushr X dJ6_bitCount_0f7a4_38 ?_
  refine g_iadd X dJ6_bitCount_0f7a4_39 ?_
  refine g_topi (fun z4 hz4 => ?_)
  refine g_istore_n (L' := [(0, .int z4)]) X dJ6_bitCount_0f7a4_40 rfl (by rw [hnL]; decide) rfl ?_
  refine g_iload_n X dJ6_bitCount_0f7a4_41 rfl 0 rfl ?_
  refine g_iload_n X dJ6_bitCount_0f7a4_42 rfl 0 rfl ?_
  refine g_bipush (v := 16) X dJ6_bitCount_0f7a4_43 (by decide) ?_
  refine g_iushr X dJ6_bitCount_0f7a4_45 ?_
  refine g_iadd X dJ6_bitCount_0f7a4_46 ?_
  refine g_topi (fun z5 hz5 => ?_)
  refine g_istore_n (L' := [(0, .int z5)]) X dJ6_bitCount_0f7a4_47 rfl (by rw [hnL]; decide) rfl ?_
  refine g_iload_n X dJ6_bitCount_0f7a4_48 rfl 0 rfl ?_
  refine g_bipush (v := 63) X dJ6_bitCount_0f7a4_49 (by decide) ?_
  refine g_iand X dJ6_bitCount_0f7a4_51 ?_
  exact g_iret X F dJ6_bitCount_0f7a4_52 (by decide) (by decide) (by subst hz5 hz4 hz3 hz2 hz1; exact ⟨rfl, rfl⟩)
set_option maxRecDepth 100000 in
set_option maxHeartbeats 4000000 in
theorem c_jbl (l : Launch) (hl : l.stackTraces = false) (Γ : Gm) (M : Hp) (x : Int64) : Ct l Γ yJ13_bitCount_95d88 cJ13_bitCount_95d88 2 (some .int) 0 0 0 [.long x] M (Rd (some (.int (jbl x))) M) := by
  refine Ct.of hl (by decide) (Nat.le_of_ble_eq_true rfl) rfl ?_
  intro κ e1 e2 hnL hRm X F hlt
  subst e1 e2
  refine g_lload_n X dJ13_bitCount_95d88_0 rfl 0 rfl ?_
  refine g_lload_n X dJ13_bitCount_95d88_1 rfl 0 rfl ?_
  refine g_iconst (v := 1) X dJ13_bitCount_95d88_2 (by decide) ?_
  refine g_lushr X dJ13_bitCount_95d88_3 ?_
  refine g_ldc2 (v := 6148914691236517205) X dJ13_bitCount_95d88_4 k627 ?_
  refine g_land X dJ13_bitCount_95d88_7 ?_
  refine g_lsub X dJ13_bitCount_95d88_8 ?_
  refine g_topl (fun z1 hz1 => ?_)
  refine g_lstore_n (L' := [(0, .long z1)]) X dJ13_bitCount_95d88_9 rfl (by rw [hnL]; decide) rfl ?_
  refine g_lload_n X dJ13_bitCount_95d88_10 rfl 0 rfl ?_
  refine g_ldc2 (v := 3689348814741910323) X dJ13_bitCount_95d88_11 k628 ?_
  refine g_land X dJ13_bitCount_95d88_14 ?_
  refine g_lload_n X dJ13_bitCount_95d88_15 rfl 0 rfl ?_
  refine g_iconst (v := 2) X dJ13_bitCount_95d88_16 (by decide) ?_
  refine g_lushr X dJ13_bitCount_95d88_17 ?_
  refine g_ldc2 (v := 3689348814741910323) X dJ13_bitCount_95d88_18 k628 ?_
  refine g_land X dJ13_bitCount_95d88_21 ?_
  refine g_ladd X dJ13_bitCount_95d88_22 ?_
  refine g_topl (fun z2 hz2 => ?_)
  refine g_lstore_n (L' := [(0, .long z2)]) X dJ13_bitCount_95d88_23 rfl (by rw [hnL]; decide) rfl ?_
  refine g_lload_n X dJ13_bitCount_95d88_24 rfl 0 rfl ?_
  refine g_lload_n X dJ13_bitCount_95d88_25 rfl 0 rfl ?_
  refine g_iconst (v := 4) X dJ13_bitCount_95d88_26 (by decide) ?_
  refine g_lushr X dJ13_bitCount_95d88_27 ?_
  refine g_ladd X dJ13_bitCount_95d88_28 ?_
  refine g_ldc2 (v := 1085102592571150095) X dJ13_bitCount_95d88_29 k629 ?_
  refine g_land X dJ13_bitCount_95d88_32 ?_
  refine g_topl (fun z3 hz3 => ?_)
  refine g_lstore_n (L' := [(0, .long z3)]) X dJ13_bitCount_95d88_33 rfl (by rw [hnL]; decide) rfl ?_
  refine g_lload_n X dJ13_bitCount_95d88_34 rfl 0 rfl ?_
  refine g_lload_n X dJ13_bitCount_95d88_35 rfl 0 rfl ?_
  refine g_bipush (v := 8) X dJ13_bitCount_95d88_36 (by decide) ?_
  refine g_lushr X dJ13_bitCount_95d88_38 ?_
  refine g_ladd X dJ13_bitCount_95d88_39 ?_
  refine g_topl (fun z4 hz4 => ?_)
  refine g_lstore_n (L' := [(0, .long z4)]) X dJ13_bitCount_95d88_40 rfl (by rw [hnL]; decide) rfl ?_
  refine g_lload_n X dJ13_bitCount_95d88_41 rfl 0 rfl ?_
  refine g_lload_n X dJ13_bitCount_95d88_42 rfl 0 rfl ?_
  refine g_bipush (v := 16) X dJ13_bitCount_95d88_43 (by decide) ?_
  refine g_lushr X dJ13_bitCount_95d88_45 ?_
  refine g_ladd X dJ13_bitCount_95d88_46 ?_
  refine g_topl (fun z5 hz5 => ?_)
  refine g_lstore_n (L' := [(0, .long z5)]) X dJ13_bitCount_95d88_47 rfl (by rw [hnL]; decide) rfl ?_
  refine g_lload_n X dJ13_bitCount_95d88_48 rfl 0 rfl ?_
  refine g_lload_n X dJ13_bitCount_95d88_49 rfl 0 rfl ?_
  refine g_bipush (v := 32) X dJ13_bitCount_95d88_50 (by decide) ?_
  refine g_lushr X dJ13_bitCount_95d88_52 ?_
  refine g_ladd X dJ13_bitCount_95d88_53 ?_
  refine g_topl (fun z6 hz6 => ?_)
  refine g_lstore_n (L' := [(0, .long z6)]) X dJ13_bitCount_95d88_54 rfl (by rw [hnL]; decide) rfl ?_
  refine g_lload_n X dJ13_bitCount_95d88_55 rfl 0 rfl ?_
  refine g_l2i X dJ13_bitCount_95d88_56 ?_
  refine g_bipush (v := 127) X dJ13_bitCount_95d88_57 (by decide) ?_
  refine g_iand X dJ13_bitCount_95d88_59 ?_
  exact g_iret X F dJ13_bitCount_95d88_60 (by decide) (by decide) (by subst hz6 hz5 hz4 hz3 hz2 hz1; exact ⟨rfl, rfl⟩)
set_option maxRecDepth 100000 in
set_option maxHeartbeats 4000000 in
theorem c_X1_hasMember (l : Launch) (hl : l.stackTraces = false) (Γ : Gm) (M : Hp) (a : Nat → Nat) (u : HV) (hR : HRep Γ a u M) (x : Int32) : Ct l Γ yX1_hasMember cX1_hasMember 2 (some .boolean) 0 0 0 [.ref (a 0), .int x] M (Rd (some (.int (bI (hasM u x)))) M) := by
  refine Ct.of hl (by decide) (Nat.le_of_ble_eq_true rfl) rfl ?_
  intro κ e1 e2 hnL hRm X F hlt
  subst e1 e2
  refine g_iload_n X dX1_hasMember_0 rfl 1 rfl ?_
  refine g_if_lt (tgt := 16) X dX1_hasMember_1 (by decide) (fun c1 => ?_) (fun c1 => ?_)
  · refine g_iconst (v := 0) X dX1_hasMember_16 (by decide) ?_
    exact g_zret X F dX1_hasMember_17 (by omega) (by omega) rfl ⟨by rw [bI_f (by first | exact c1 | exact (fun h => h c1) | (simp only [hasM, hasB, hasP, isC, isW, inS, hQuor, cN, hRust, hAhd, Int32.lt_iff_toInt_lt, Int32.le_iff_toInt_le, Int32.reduceToInt] at c1 ⊢; omega) | (simp_all [hasM, hasB, hasP, isC, isW, inS, hQuor, cN, hRust, hAhd]; done))], rfl⟩
  · refine g_iload_n X dX1_hasMember_4 rfl 1 rfl ?_
    refine g_aload_n X dX1_hasMember_5 rfl 0 rfl ?_
    refine g_get X dX1_hasMember_6 (ci := 1) (k := 0) (v := .int (u.1 0)) rfl k42 (by decide) rfl hR.obj rfl ?_
    refine g_icmp_ge (tgt := 16) X dX1_hasMember_9 (by decide) (fun c2 => ?_) (fun c2 => ?_)
    · refine g_iconst (v := 0) X dX1_hasMember_16 (by decide) ?_
      exact g_zret X F dX1_hasMember_17 (by omega) (by omega) rfl ⟨by rw [bI_f (by first | exact c2 | exact (fun h => h c2) | exact c1 | exact (fun h => h c1) | (simp only [hasM, hasB, hasP, isC, isW, inS, hQuor, cN, hRust, hAhd, Int32.lt_iff_toInt_lt, Int32.le_iff_toInt_le, Int32.reduceToInt] at c1 c2 ⊢; omega) | (simp_all [hasM, hasB, hasP, isC, isW, inS, hQuor, cN, hRust, hAhd]; done))], rfl⟩
    · refine g_iconst (v := 1) X dX1_hasMember_12 (by decide) ?_
      refine g_goto (tgt := 17) X dX1_hasMember_13 (by decide) ?_
      exact g_zret X F dX1_hasMember_17 (by omega) (by omega) rfl ⟨by rw [bI_t (by first | exact c2 | exact (fun h => h c2) | exact c1 | exact (fun h => h c1) | (simp only [hasM, hasB, hasP, isC, isW, inS, hQuor, cN, hRust, hAhd, Int32.lt_iff_toInt_lt, Int32.le_iff_toInt_le, Int32.reduceToInt] at c1 c2 ⊢; omega) | (simp_all [hasM, hasB, hasP, isC, isW, inS, hQuor, cN, hRust, hAhd]; done))], rfl⟩
set_option maxRecDepth 100000 in
set_option maxHeartbeats 4000000 in
theorem c_X1_hasBill (l : Launch) (hl : l.stackTraces = false) (Γ : Gm) (M : Hp) (a : Nat → Nat) (u : HV) (hR : HRep Γ a u M) (x : Int32) : Ct l Γ yX1_hasBill cX1_hasBill 2 (some .boolean) 0 0 0 [.ref (a 0), .int x] M (Rd (some (.int (bI (hasB u x)))) M) := by
  refine Ct.of hl (by decide) (Nat.le_of_ble_eq_true rfl) rfl ?_
  intro κ e1 e2 hnL hRm X F hlt
  subst e1 e2
  refine g_iload_n X dX1_hasBill_0 rfl 1 rfl ?_
  refine g_if_lt (tgt := 16) X dX1_hasBill_1 (by decide) (fun c1 => ?_) (fun c1 => ?_)
  · refine g_iconst (v := 0) X dX1_hasBill_16 (by decide) ?_
    exact g_zret X F dX1_hasBill_17 (by omega) (by omega) rfl ⟨by rw [bI_f (by first | exact c1 | exact (fun h => h c1) | (simp only [hasM, hasB, hasP, isC, isW, inS, hQuor, cN, hRust, hAhd, Int32.lt_iff_toInt_lt, Int32.le_iff_toInt_le, Int32.reduceToInt] at c1 ⊢; omega) | (simp_all [hasM, hasB, hasP, isC, isW, inS, hQuor, cN, hRust, hAhd]; done))], rfl⟩
  · refine g_iload_n X dX1_hasBill_4 rfl 1 rfl ?_
    refine g_aload_n X dX1_hasBill_5 rfl 0 rfl ?_
    refine g_get X dX1_hasBill_6 (ci := 1) (k := 5) (v := .int (u.1 3)) rfl k52 (by decide) rfl hR.obj rfl ?_
    refine g_icmp_ge (tgt := 16) X dX1_hasBill_9 (by decide) (fun c2 => ?_) (fun c2 => ?_)
    · refine g_iconst (v := 0) X dX1_hasBill_16 (by decide) ?_
      exact g_zret X F dX1_hasBill_17 (by omega) (by omega) rfl ⟨by rw [bI_f (by first | exact c2 | exact (fun h => h c2) | exact c1 | exact (fun h => h c1) | (simp only [hasM, hasB, hasP, isC, isW, inS, hQuor, cN, hRust, hAhd, Int32.lt_iff_toInt_lt, Int32.le_iff_toInt_le, Int32.reduceToInt] at c1 c2 ⊢; omega) | (simp_all [hasM, hasB, hasP, isC, isW, inS, hQuor, cN, hRust, hAhd]; done))], rfl⟩
    · refine g_iconst (v := 1) X dX1_hasBill_12 (by decide) ?_
      refine g_goto (tgt := 17) X dX1_hasBill_13 (by decide) ?_
      exact g_zret X F dX1_hasBill_17 (by omega) (by omega) rfl ⟨by rw [bI_t (by first | exact c2 | exact (fun h => h c2) | exact c1 | exact (fun h => h c1) | (simp only [hasM, hasB, hasP, isC, isW, inS, hQuor, cN, hRust, hAhd, Int32.lt_iff_toInt_lt, Int32.le_iff_toInt_le, Int32.reduceToInt] at c1 c2 ⊢; omega) | (simp_all [hasM, hasB, hasP, isC, isW, inS, hQuor, cN, hRust, hAhd]; done))], rfl⟩
set_option maxRecDepth 100000 in
set_option maxHeartbeats 4000000 in
theorem c_X1_isIn (l : Launch) (hl : l.stackTraces = false) (Γ : Gm) (M : Hp) (a : Nat → Nat) (u : HV) (hR : HRep Γ a u M) (x : Int32) : Ct l Γ yX1_isIn cX1_isIn 2 (some .boolean) 0 0 0 [.ref (a 0), .int x] M (Rd (some (.int (bI (inS (u.1 1) x)))) M) := by
  refine Ct.of hl (by decide) (Nat.le_of_ble_eq_true rfl) rfl ?_
  intro κ e1 e2 hnL hRm X F hlt
  subst e1 e2
  refine g_aload_n X dX1_isIn_0 rfl 0 rfl ?_
  refine g_get X dX1_isIn_1 (ci := 1) (k := 3) (v := .int (u.1 1)) rfl k48 (by decide) rfl hR.obj rfl ?_
  refine g_iload_n X dX1_isIn_4 rfl 1 rfl ?_
  refine g_iushr X dX1_isIn_5 ?_
  refine g_iconst (v := 1) X dX1_isIn_6 (by decide) ?_
  refine g_iand X dX1_isIn_7 ?_
  refine g_if_eq (tgt := 15) X dX1_isIn_8 (by decide) (fun c1 => ?_) (fun c1 => ?_)
  · refine g_iconst (v := 0) X dX1_isIn_15 (by decide) ?_
    exact g_zret X F dX1_isIn_16 (by omega) (by omega) rfl ⟨by rw [bI_f (by first | exact c1 | exact (fun h => h c1) | (simp only [hasM, hasB, hasP, isC, isW, inS, hQuor, cN, hRust, hAhd, Int32.lt_iff_toInt_lt, Int32.le_iff_toInt_le, Int32.reduceToInt] at c1 ⊢; omega) | (simp_all [hasM, hasB, hasP, isC, isW, inS, hQuor, cN, hRust, hAhd]; done))], rfl⟩
  · refine g_iconst (v := 1) X dX1_isIn_11 (by decide) ?_
    refine g_goto (tgt := 16) X dX1_isIn_12 (by decide) ?_
    exact g_zret X F dX1_isIn_16 (by omega) (by omega) rfl ⟨by rw [bI_t (by first | exact c1 | exact (fun h => h c1) | (simp only [hasM, hasB, hasP, isC, isW, inS, hQuor, cN, hRust, hAhd, Int32.lt_iff_toInt_lt, Int32.le_iff_toInt_le, Int32.reduceToInt] at c1 ⊢; omega) | (simp_all [hasM, hasB, hasP, isC, isW, inS, hQuor, cN, hRust, hAhd]; done))], rfl⟩
set_option maxRecDepth 100000 in
set_option maxHeartbeats 4000000 in
theorem c_X1_hasQuorum (l : Launch) (hl : l.stackTraces = false) (Γ : Gm) (M : Hp) (a : Nat → Nat) (u : HV) (hR : HRep Γ a u M) : Ct l Γ yX1_hasQuorum cX1_hasQuorum 1 (some .boolean) 1 0 0 [.ref (a 0)] M (Rd (some (.int (bI (hQuor u)))) M) := by
  refine Ct.of hl (by decide) (Nat.le_of_ble_eq_true rfl) rfl ?_
  intro κ e1 e2 hnL hRm X F hlt
  subst e1 e2
  refine g_aload_n X dX1_hasQuorum_0 rfl 0 rfl ?_
  refine g_get X dX1_hasQuorum_1 (ci := 1) (k := 3) (v := .int (u.1 1)) rfl k48 (by decide) rfl hR.obj rfl ?_
  refine g_callS_rd (As := [.int (u.1 1)]) (v := some (.int (jbc (u.1 1)))) X dX1_hasQuorum_4 (c_jbc κ.l hl κ.Γ M (u.1 1)) k208 k209 k19 k210 ⟨by decide, by decide, (show (parseMethodDescriptor yJ6_bitCount_0f7a4.desc).map (fun d => d.parameters.length) = some 1 by decide +kernel)⟩ rfl (Nat.le_of_ble_eq_true rfl) (by rw [hRm]; decide) (by rw [hRm]; exact ⟨Nat.le_of_ble_eq_true rfl, Nat.le_of_ble_eq_true rfl⟩) ?_
  refine g_aload_n X dX1_hasQuorum_7 rfl 0 rfl ?_
  refine g_get X dX1_hasQuorum_8 (ci := 1) (k := 4) (v := .int (u.1 2)) rfl k50 (by decide) rfl hR.obj rfl ?_
  refine g_icmp_lt (tgt := 18) X dX1_hasQuorum_11 (by decide) (fun c1 => ?_) (fun c1 => ?_)
  · refine g_iconst (v := 0) X dX1_hasQuorum_18 (by decide) ?_
    exact g_zret X F dX1_hasQuorum_19 (by omega) (by omega) rfl ⟨by rw [bI_f (by first | exact c1 | exact (fun h => h c1) | (simp only [hasM, hasB, hasP, isC, isW, inS, hQuor, cN, hRust, hAhd, Int32.lt_iff_toInt_lt, Int32.le_iff_toInt_le, Int32.reduceToInt] at c1 ⊢; omega) | (simp_all [hasM, hasB, hasP, isC, isW, inS, hQuor, cN, hRust, hAhd]; done))], rfl⟩
  · refine g_iconst (v := 1) X dX1_hasQuorum_14 (by decide) ?_
    refine g_goto (tgt := 19) X dX1_hasQuorum_15 (by decide) ?_
    exact g_zret X F dX1_hasQuorum_19 (by omega) (by omega) rfl ⟨by rw [bI_t (by first | exact c1 | exact (fun h => h c1) | (simp only [hasM, hasB, hasP, isC, isW, inS, hQuor, cN, hRust, hAhd, Int32.lt_iff_toInt_lt, Int32.le_iff_toInt_le, Int32.reduceToInt] at c1 ⊢; omega) | (simp_all [hasM, hasB, hasP, isC, isW, inS, hQuor, cN, hRust, hAhd]; done))], rfl⟩
set_option maxRecDepth 100000 in
set_option maxHeartbeats 4000000 in
theorem c_X1_everybody (l : Launch) (hl : l.stackTraces = false) (Γ : Gm) (M : Hp) (a : Nat → Nat) (u : HV) (hR : HRep Γ a u M) : Ct l Γ yX1_everybody cX1_everybody 1 (some .int) 0 0 0 [.ref (a 0)] M (Rd (some (.int (shl 1 (u.1 0) - 1))) M) := by
  refine Ct.of hl (by decide) (Nat.le_of_ble_eq_true rfl) rfl ?_
  intro κ e1 e2 hnL hRm X F hlt
  subst e1 e2
  refine g_iconst (v := 1) X dX1_everybody_0 (by decide) ?_
  refine g_aload_n X dX1_everybody_1 rfl 0 rfl ?_
  refine g_get X dX1_everybody_2 (ci := 1) (k := 0) (v := .int (u.1 0)) rfl k42 (by decide) rfl hR.obj rfl ?_
  refine g_ishl X dX1_everybody_5 ?_
  refine g_iconst (v := 1) X dX1_everybody_6 (by decide) ?_
  refine g_isub X dX1_everybody_7 ?_
  exact g_iret X F dX1_everybody_8 (by omega) (by omega) ⟨by rfl, rfl⟩
set_option maxRecDepth 100000 in
set_option maxHeartbeats 4000000 in
theorem c_X1_hasPending (l : Launch) (hl : l.stackTraces = false) (Γ : Gm) (M : Hp) (a : Nat → Nat) (u : HV) (hR : HRep Γ a u M) (b : Int32) (x : Int32) (vb : vp_in b 8) : Ct l Γ yX1_hasPending cX1_hasPending 3 (some .boolean) 0 0 0 [.ref (a 0), .int b, .int x] M (Rd (some (.int (bI (hasP u b x)))) M) := by
  refine Ct.of hl (by decide) (Nat.le_of_ble_eq_true rfl) rfl ?_
  intro κ e1 e2 hnL hRm X F hlt
  subst e1 e2
  refine g_iload_n X dX1_hasPending_0 rfl 2 rfl ?_
  refine g_if_lt (tgt := 18) X dX1_hasPending_1 (by decide) (fun c1 => ?_) (fun c1 => ?_)
  · refine g_iconst (v := 0) X dX1_hasPending_18 (by decide) ?_
    exact g_zret X F dX1_hasPending_19 (by omega) (by omega) rfl ⟨by rw [bI_f (by first | exact c1 | exact (fun h => h c1) | (simp only [hasM, hasB, hasP, isC, isW, inS, hQuor, cN, hRust, hAhd, Int32.lt_iff_toInt_lt, Int32.le_iff_toInt_le, Int32.reduceToInt] at c1 ⊢; omega) | (simp_all [hasM, hasB, hasP, isC, isW, inS, hQuor, cN, hRust, hAhd]; done))], rfl⟩
  · refine g_iload_n X dX1_hasPending_4 rfl 2 rfl ?_
    refine g_aload_n X dX1_hasPending_5 rfl 0 rfl ?_
    refine g_get X dX1_hasPending_6 (ci := 1) (k := 12) (v := .ref (a 8)) rfl k66 (by decide) rfl hR.obj rfl ?_
    refine g_iload_n X dX1_hasPending_9 rfl 1 rfl ?_
    refine g_iaload X dX1_hasPending_10 (hR.row 8 (by decide) (by decide)) vb ?_
    refine g_icmp_ge (tgt := 18) X dX1_hasPending_11 (by decide) (fun c2 => ?_) (fun c2 => ?_)
    · refine g_iconst (v := 0) X dX1_hasPending_18 (by decide) ?_
      exact g_zret X F dX1_hasPending_19 (by omega) (by omega) rfl ⟨by rw [bI_f (by first | exact c2 | exact (fun h => h c2) | exact c1 | exact (fun h => h c1) | (simp only [hasM, hasB, hasP, isC, isW, inS, hQuor, cN, hRust, hAhd, Int32.lt_iff_toInt_lt, Int32.le_iff_toInt_le, Int32.reduceToInt] at c1 c2 ⊢; omega) | (simp_all [hasM, hasB, hasP, isC, isW, inS, hQuor, cN, hRust, hAhd]; done))], rfl⟩
    · refine g_iconst (v := 1) X dX1_hasPending_14 (by decide) ?_
      refine g_goto (tgt := 19) X dX1_hasPending_15 (by decide) ?_
      exact g_zret X F dX1_hasPending_19 (by omega) (by omega) rfl ⟨by rw [bI_t (by first | exact c2 | exact (fun h => h c2) | exact c1 | exact (fun h => h c1) | (simp only [hasM, hasB, hasP, isC, isW, inS, hQuor, cN, hRust, hAhd, Int32.lt_iff_toInt_lt, Int32.le_iff_toInt_le, Int32.reduceToInt] at c1 c2 ⊢; omega) | (simp_all [hasM, hasB, hasP, isC, isW, inS, hQuor, cN, hRust, hAhd]; done))], rfl⟩
set_option maxRecDepth 100000 in
set_option maxHeartbeats 4000000 in
theorem c_X1_rustOf (l : Launch) (hl : l.stackTraces = false) (Γ : Gm) (M : Hp) (a : Nat → Nat) (u : HV) (hR : HRep Γ a u M) (b : Int32) (vb : vp_in b 8) : Ct l Γ yX1_rustOf cX1_rustOf 2 (some .int) 0 0 0 [.ref (a 0), .int b] M (Rd (some (.int (hRust u (cN b)))) M) := by
  refine Ct.of hl (by decide) (Nat.le_of_ble_eq_true rfl) rfl ?_
  intro κ e1 e2 hnL hRm X F hlt
  subst e1 e2
  refine g_aload_n X dX1_rustOf_0 rfl 0 rfl ?_
  refine g_get X dX1_rustOf_1 (ci := 1) (k := 9) (v := .ref (a 5)) rfl k60 (by decide) rfl hR.obj rfl ?_
  refine g_iload_n X dX1_rustOf_4 rfl 1 rfl ?_
  refine g_iaload X dX1_rustOf_5 (hR.row 5 (by decide) (by decide)) vb ?_
  refine g_bipush (v := 60) X dX1_rustOf_6 (by decide) ?_
  refine g_idiv X dX1_rustOf_8 (by decide) ?_
  exact g_iret X F dX1_rustOf_9 (by omega) (by omega) ⟨by rfl, rfl⟩
set_option maxRecDepth 100000 in
set_option maxHeartbeats 4000000 in
theorem c_X1_weightOfSet (l : Launch) (hl : l.stackTraces = false) (Γ : Gm) (M : Hp) (a : Nat → Nat) (u : HV) (hR : HRep Γ a u M) (x : Int32) : Ct l Γ yX1_weightOfSet cX1_weightOfSet 4 (some .int) 0 0 0 [.ref (a 0), .int x] M (Rd (some (.int (hW u x))) M) := by
  refine Ct.of hl (by decide) (Nat.le_of_ble_eq_true rfl) rfl ?_
  intro κ e1 e2 hnL hRm X F hlt
  subst e1 e2
  refine g_iconst (v := 0) X dX1_weightOfSet_0 (by decide) ?_
  refine g_istore_n (L' := [(2, .int 0), (0, .ref (a 0)), (1, .int x)]) X dX1_weightOfSet_1 rfl (by rw [hnL]; decide) rfl ?_
  refine g_iconst (v := 0) X dX1_weightOfSet_2 (by decide) ?_
  refine g_istore_n (L' := [(3, .int 0), (2, .int 0), (0, .ref (a 0)), (1, .int x)]) X dX1_weightOfSet_3 rfl (by rw [hnL]; decide) rfl ?_
  have lp : ∀ n i : Nat, 24 - i < n → i ≤ 24 → G κ M 0 0 [(2, .int (wSum (u.2.1 2) x i)), (3, .int (nI i)), (0, .ref (a 0)), (1, .int x)] 4 [] := by
    intro n
    induction n with
    | zero => intro i h1 _; exact absurd h1 (Nat.not_lt_zero _)
    | succ n ih =>
      intro i hi1 hi2
      refine g_iload_n X dX1_weightOfSet_4 rfl 1 rfl ?_
      refine g_bipush (v := 24) X dX1_weightOfSet_5 (by decide) ?_
      refine g_icmp_ge (tgt := 33) X dX1_weightOfSet_7 (by decide) (fun c1 => ?_) (fun c1 => ?_)
      · have heq9 : i = 24 := eq_of_ge (N := 24) (by decide) (by omega) c1
        subst heq9
        refine g_iload_n X dX1_weightOfSet_33 rfl 0 rfl ?_
        exact g_iret X F dX1_weightOfSet_34 (by omega) (by omega) ⟨by rfl, rfl⟩
      · have hlt9 : i < 24 := lt_of_nge (N := 24) (by decide) (by omega) c1
        refine g_iload_n X dX1_weightOfSet_10 rfl 3 rfl ?_
        refine g_iload_n X dX1_weightOfSet_11 rfl 1 rfl ?_
        refine g_iushr X dX1_weightOfSet_12 ?_
        refine g_iconst (v := 1) X dX1_weightOfSet_13 (by decide) ?_
        refine g_iand X dX1_weightOfSet_14 ?_
        refine g_if_eq (tgt := 27) X dX1_weightOfSet_15 (by decide) (fun c2 => ?_) (fun c2 => ?_)
        · refine g_iinc (k := 1) (v := (nI (i + 1))) (L' := [(3, .int (nI (i + 1))), (2, .int (wSum (u.2.1 2) x i)), (0, .ref (a 0)), (1, .int x)]) X dX1_weightOfSet_27 rfl (nI_1 _) (by rw [hnL]; decide) rfl ?_
          refine g_goto (tgt := 4) X dX1_weightOfSet_30 (by decide) ?_
          refine g_locs [1, 0, 2, 3] (L' := [(2, .int (wSum (u.2.1 2) x i)), (3, .int (nI (i + 1))), (0, .ref (a 0)), (1, .int x)]) rfl ?_
          exact g_eqL (by rw [show wSum (u.2.1 2) x (i + 1) = wSum (u.2.1 2) x i from by first | (rw [wSum]; simp [c1, c2]; done) | rfl]) (ih (i + 1) (by omega) (by omega))
        · refine g_iload_n X dX1_weightOfSet_18 rfl 0 rfl ?_
          refine g_aload_n X dX1_weightOfSet_19 rfl 2 rfl ?_
          refine g_get X dX1_weightOfSet_20 (ci := 1) (k := 2) (v := .ref (a 2)) rfl k46 (by decide) rfl hR.obj rfl ?_
          refine g_iload_n X dX1_weightOfSet_23 rfl 1 rfl ?_
          refine g_iald (b := i) X dX1_weightOfSet_24 (hR.row 2 (by decide) (by decide)) hlt9 (by decide) ?_
          refine g_iadd X dX1_weightOfSet_25 ?_
          refine g_istore_n (L' := [(2, .int ((wSum (u.2.1 2) x i) + (u.2.1 2 i))), (3, .int (nI i)), (0, .ref (a 0)), (1, .int x)]) X dX1_weightOfSet_26 rfl (by rw [hnL]; decide) rfl ?_
          refine g_iinc (k := 1) (v := (nI (i + 1))) (L' := [(3, .int (nI (i + 1))), (2, .int ((wSum (u.2.1 2) x i) + (u.2.1 2 i))), (0, .ref (a 0)), (1, .int x)]) X dX1_weightOfSet_27 rfl (nI_1 _) (by rw [hnL]; decide) rfl ?_
          refine g_goto (tgt := 4) X dX1_weightOfSet_30 (by decide) ?_
          refine g_locs [1, 0, 2, 3] (L' := [(2, .int ((wSum (u.2.1 2) x i) + (u.2.1 2 i))), (3, .int (nI (i + 1))), (0, .ref (a 0)), (1, .int x)]) rfl ?_
          exact g_eqL (by rw [show wSum (u.2.1 2) x (i + 1) = (wSum (u.2.1 2) x i) + (u.2.1 2 i) from by first | (rw [wSum]; simp [c1, c2]; done) | rfl]) (ih (i + 1) (by omega) (by omega))
  refine g_locs [1, 0, 2, 3] (L' := [(2, .int 0), (3, .int 0), (0, .ref (a 0)), (1, .int x)]) rfl ?_
  exact lp (24 + 1) 0 (by omega) (by omega)
set_option maxRecDepth 100000 in
set_option maxHeartbeats 4000000 in
theorem c_X1_membersWithDigit (l : Launch) (hl : l.stackTraces = false) (Γ : Gm) (M : Hp) (a : Nat → Nat) (u : HV) (hR : HRep Γ a u M) (x : Int32) : Ct l Γ yX1_membersWithDigit cX1_membersWithDigit 4 (some .int) 0 0 0 [.ref (a 0), .int x] M (Rd (some (.int (mDig (u.2.1 2) x 24))) M) := by
  refine Ct.of hl (by decide) (Nat.le_of_ble_eq_true rfl) rfl ?_
  intro κ e1 e2 hnL hRm X F hlt
  subst e1 e2
  refine g_iconst (v := 0) X dX1_membersWithDigit_0 (by decide) ?_
  refine g_istore_n (L' := [(2, .int 0), (0, .ref (a 0)), (1, .int x)]) X dX1_membersWithDigit_1 rfl (by rw [hnL]; decide) rfl ?_
  refine g_iconst (v := 0) X dX1_membersWithDigit_2 (by decide) ?_
  refine g_istore_n (L' := [(3, .int 0), (2, .int 0), (0, .ref (a 0)), (1, .int x)]) X dX1_membersWithDigit_3 rfl (by rw [hnL]; decide) rfl ?_
  have lp : ∀ n i : Nat, 24 - i < n → i ≤ 24 → G κ M 0 0 [(2, .int (mDig (u.2.1 2) x i)), (3, .int (nI i)), (0, .ref (a 0)), (1, .int x)] 4 [] := by
    intro n
    induction n with
    | zero => intro i h1 _; exact absurd h1 (Nat.not_lt_zero _)
    | succ n ih =>
      intro i hi1 hi2
      refine g_iload_n X dX1_membersWithDigit_4 rfl 1 rfl ?_
      refine g_bipush (v := 24) X dX1_membersWithDigit_5 (by decide) ?_
      refine g_icmp_ge (tgt := 31) X dX1_membersWithDigit_7 (by decide) (fun c1 => ?_) (fun c1 => ?_)
      · have heq9 : i = 24 := eq_of_ge (N := 24) (by decide) (by omega) c1
        subst heq9
        refine g_iload_n X dX1_membersWithDigit_31 rfl 0 rfl ?_
        exact g_iret X F dX1_membersWithDigit_32 (by omega) (by omega) ⟨by rfl, rfl⟩
      · have hlt9 : i < 24 := lt_of_nge (N := 24) (by decide) (by omega) c1
        refine g_iload_n X dX1_membersWithDigit_10 rfl 0 rfl ?_
        refine g_aload_n X dX1_membersWithDigit_11 rfl 2 rfl ?_
        refine g_get X dX1_membersWithDigit_12 (ci := 1) (k := 2) (v := .ref (a 2)) rfl k46 (by decide) rfl hR.obj rfl ?_
        refine g_iload_n X dX1_membersWithDigit_15 rfl 1 rfl ?_
        refine g_iald (b := i) X dX1_membersWithDigit_16 (hR.row 2 (by decide) (by decide)) hlt9 (by decide) ?_
        refine g_iload_n X dX1_membersWithDigit_17 rfl 3 rfl ?_
        refine g_iushr X dX1_membersWithDigit_18 ?_
        refine g_iconst (v := 1) X dX1_membersWithDigit_19 (by decide) ?_
        refine g_iand X dX1_membersWithDigit_20 ?_
        refine g_iload_n X dX1_membersWithDigit_21 rfl 1 rfl ?_
        refine g_ishl X dX1_membersWithDigit_22 ?_
        refine g_ior X dX1_membersWithDigit_23 ?_
        refine g_istore_n (L' := [(2, .int ((mDig (u.2.1 2) x i) ||| (shl ((ush (u.2.1 2 i) x) &&& 1) (nI i)))), (3, .int (nI i)), (0, .ref (a 0)), (1, .int x)]) X dX1_membersWithDigit_24 rfl (by rw [hnL]; decide) rfl ?_
        refine g_iinc (k := 1) (v := (nI (i + 1))) (L' := [(3, .int (nI (i + 1))), (2, .int ((mDig (u.2.1 2) x i) ||| (shl ((ush (u.2.1 2 i) x) &&& 1) (nI i)))), (0, .ref (a 0)), (1, .int x)]) X dX1_membersWithDigit_25 rfl (nI_1 _) (by rw [hnL]; decide) rfl ?_
        refine g_goto (tgt := 4) X dX1_membersWithDigit_28 (by decide) ?_
        refine g_locs [1, 0, 2, 3] (L' := [(2, .int ((mDig (u.2.1 2) x i) ||| (shl ((ush (u.2.1 2 i) x) &&& 1) (nI i)))), (3, .int (nI (i + 1))), (0, .ref (a 0)), (1, .int x)]) rfl ?_
        exact g_eqL (by rw [show mDig (u.2.1 2) x (i + 1) = (mDig (u.2.1 2) x i) ||| (shl ((ush (u.2.1 2 i) x) &&& 1) (nI i)) from by first | (rw [mDig]; simp [c1]; done) | rfl]) (ih (i + 1) (by omega) (by omega))
  refine g_locs [1, 0, 2, 3] (L' := [(2, .int 0), (3, .int 0), (0, .ref (a 0)), (1, .int x)]) rfl ?_
  exact lp (24 + 1) 0 (by omega) (by omega)
set_option maxRecDepth 100000 in
set_option maxHeartbeats 4000000 in
theorem c_X1_weightOfSetByDigits (l : Launch) (hl : l.stackTraces = false) (Γ : Gm) (M : Hp) (a : Nat → Nat) (u : HV) (hR : HRep Γ a u M) (x : Int32) : Ct l Γ yX1_weightOfSetByDigits cX1_weightOfSetByDigits 4 (some .int) 1 0 0 [.ref (a 0), .int x] M (Rd (some (.int (wDig (u.2.1 2) x 3))) M) := by
  refine Ct.of hl (by decide) (Nat.le_of_ble_eq_true rfl) rfl ?_
  intro κ e1 e2 hnL hRm X F hlt
  subst e1 e2
  refine g_iconst (v := 0) X dX1_weightOfSetByDigits_0 (by decide) ?_
  refine g_istore_n (L' := [(2, .int 0), (0, .ref (a 0)), (1, .int x)]) X dX1_weightOfSetByDigits_1 rfl (by rw [hnL]; decide) rfl ?_
  refine g_iconst (v := 0) X dX1_weightOfSetByDigits_2 (by decide) ?_
  refine g_istore_n (L' := [(3, .int 0), (2, .int 0), (0, .ref (a 0)), (1, .int x)]) X dX1_weightOfSetByDigits_3 rfl (by rw [hnL]; decide) rfl ?_
  have lp : ∀ n i : Nat, 3 - i < n → i ≤ 3 → G κ M 0 0 [(2, .int (wDig (u.2.1 2) x i)), (3, .int (nI i)), (0, .ref (a 0)), (1, .int x)] 4 [] := by
    intro n
    induction n with
    | zero => intro i h1 _; exact absurd h1 (Nat.not_lt_zero _)
    | succ n ih =>
      intro i hi1 hi2
      refine g_iload_n X dX1_weightOfSetByDigits_4 rfl 1 rfl ?_
      refine g_iconst (v := 3) X dX1_weightOfSetByDigits_5 (by decide) ?_
      refine g_icmp_ge (tgt := 30) X dX1_weightOfSetByDigits_6 (by decide) (fun c1 => ?_) (fun c1 => ?_)
      · have heq9 : i = 3 := eq_of_ge (N := 3) (by decide) (by omega) c1
        subst heq9
        refine g_iload_n X dX1_weightOfSetByDigits_30 rfl 0 rfl ?_
        exact g_iret X F dX1_weightOfSetByDigits_31 (by omega) (by omega) ⟨by rfl, rfl⟩
      · have hlt9 : i < 3 := lt_of_nge (N := 3) (by decide) (by omega) c1
        refine g_iload_n X dX1_weightOfSetByDigits_9 rfl 0 rfl ?_
        refine g_iload_n X dX1_weightOfSetByDigits_10 rfl 3 rfl ?_
        refine g_aload_n X dX1_weightOfSetByDigits_11 rfl 2 rfl ?_
        refine g_iload_n X dX1_weightOfSetByDigits_12 rfl 1 rfl ?_
        refine g_callV_rd (As := [.int (nI i)]) (ci := 1) (v := some (.int (mDig (u.2.1 2) (nI i) 24))) X dX1_weightOfSetByDigits_13 (c_X1_membersWithDigit κ.l hl κ.Γ M a u hR (nI i)) k262 k264 kp1 k2 k265 rfl hR.obj ⟨rfl, by decide, by decide, (show (parseMethodDescriptor yX1_membersWithDigit.desc).map (fun d => d.parameters.length) = some 1 by decide +kernel)⟩ rfl (Nat.le_of_ble_eq_true rfl) (by rw [hRm]; decide) (by rw [hRm]; exact ⟨Nat.le_of_ble_eq_true rfl, Nat.le_of_ble_eq_true rfl⟩) ?_
        refine g_iand X dX1_weightOfSetByDigits_16 ?_
        refine g_callS_rd (As := [.int (x &&& (mDig (u.2.1 2) (nI i) 24))]) (v := some (.int (jbc (x &&& (mDig (u.2.1 2) (nI i) 24))))) X dX1_weightOfSetByDigits_17 (c_jbc κ.l hl κ.Γ M (x &&& (mDig (u.2.1 2) (nI i) 24))) k208 k209 k19 k210 ⟨by decide, by decide, (show (parseMethodDescriptor yJ6_bitCount_0f7a4.desc).map (fun d => d.parameters.length) = some 1 by decide +kernel)⟩ rfl (Nat.le_of_ble_eq_true rfl) (by rw [hRm]; decide) (by rw [hRm]; exact ⟨Nat.le_of_ble_eq_true rfl, Nat.le_of_ble_eq_true rfl⟩) ?_
        refine g_iload_n X dX1_weightOfSetByDigits_20 rfl 1 rfl ?_
        refine g_ishl X dX1_weightOfSetByDigits_21 ?_
        refine g_iadd X dX1_weightOfSetByDigits_22 ?_
        refine g_istore_n (L' := [(2, .int ((wDig (u.2.1 2) x i) + (shl (jbc (x &&& (mDig (u.2.1 2) (nI i) 24))) (nI i)))), (3, .int (nI i)), (0, .ref (a 0)), (1, .int x)]) X dX1_weightOfSetByDigits_23 rfl (by rw [hnL]; decide) rfl ?_
        refine g_iinc (k := 1) (v := (nI (i + 1))) (L' := [(3, .int (nI (i + 1))), (2, .int ((wDig (u.2.1 2) x i) + (shl (jbc (x &&& (mDig (u.2.1 2) (nI i) 24))) (nI i)))), (0, .ref (a 0)), (1, .int x)]) X dX1_weightOfSetByDigits_24 rfl (nI_1 _) (by rw [hnL]; decide) rfl ?_
        refine g_goto (tgt := 4) X dX1_weightOfSetByDigits_27 (by decide) ?_
        refine g_locs [1, 0, 2, 3] (L' := [(2, .int ((wDig (u.2.1 2) x i) + (shl (jbc (x &&& (mDig (u.2.1 2) (nI i) 24))) (nI i)))), (3, .int (nI (i + 1))), (0, .ref (a 0)), (1, .int x)]) rfl ?_
        exact g_eqL (by rw [show wDig (u.2.1 2) x (i + 1) = (wDig (u.2.1 2) x i) + (shl (jbc (x &&& (mDig (u.2.1 2) (nI i) 24))) (nI i)) from by first | (rw [wDig]; simp [c1]; done) | rfl]) (ih (i + 1) (by omega) (by omega))
  refine g_locs [1, 0, 2, 3] (L' := [(2, .int 0), (3, .int 0), (0, .ref (a 0)), (1, .int x)]) rfl ?_
  exact lp (3 + 1) 0 (by omega) (by omega)
set_option maxRecDepth 100000 in
set_option maxHeartbeats 4000000 in
theorem c_X1_weightInWard (l : Launch) (hl : l.stackTraces = false) (Γ : Gm) (M : Hp) (a : Nat → Nat) (u : HV) (hR : HRep Γ a u M) (x : Int32) : Ct l Γ yX1_weightInWard cX1_weightInWard 4 (some .int) 1 0 0 [.ref (a 0), .int x] M (Rd (some (.int (hWW u x))) M) := by
  refine Ct.of hl (by decide) (Nat.le_of_ble_eq_true rfl) rfl ?_
  intro κ e1 e2 hnL hRm X F hlt
  subst e1 e2
  refine g_iconst (v := 0) X dX1_weightInWard_0 (by decide) ?_
  refine g_istore_n (L' := [(2, .int 0), (0, .ref (a 0)), (1, .int x)]) X dX1_weightInWard_1 rfl (by rw [hnL]; decide) rfl ?_
  refine g_iconst (v := 0) X dX1_weightInWard_2 (by decide) ?_
  refine g_istore_n (L' := [(3, .int 0), (2, .int 0), (0, .ref (a 0)), (1, .int x)]) X dX1_weightInWard_3 rfl (by rw [hnL]; decide) rfl ?_
  have lp : ∀ n i : Nat, 24 - i < n → i ≤ 24 → G κ M 0 0 [(2, .int (wWard (u.2.1 1) (u.2.1 2) (u.1 1) x i)), (3, .int (nI i)), (0, .ref (a 0)), (1, .int x)] 4 [] := by
    intro n
    induction n with
    | zero => intro i h1 _; exact absurd h1 (Nat.not_lt_zero _)
    | succ n ih =>
      intro i hi1 hi2
      refine g_iload_n X dX1_weightInWard_4 rfl 1 rfl ?_
      refine g_bipush (v := 24) X dX1_weightInWard_5 (by decide) ?_
      refine g_icmp_ge (tgt := 43) X dX1_weightInWard_7 (by decide) (fun c1 => ?_) (fun c1 => ?_)
      · have heq9 : i = 24 := eq_of_ge (N := 24) (by decide) (by omega) c1
        subst heq9
        refine g_iload_n X dX1_weightInWard_43 rfl 0 rfl ?_
        exact g_iret X F dX1_weightInWard_44 (by omega) (by omega) ⟨by rfl, rfl⟩
      · have hlt9 : i < 24 := lt_of_nge (N := 24) (by decide) (by omega) c1
        refine g_aload_n X dX1_weightInWard_10 rfl 2 rfl ?_
        refine g_iload_n X dX1_weightInWard_11 rfl 1 rfl ?_
        refine g_callV_rd (As := [.int (nI i)]) (ci := 1) (v := some (.int (bI (inS (u.1 1) (nI i))))) X dX1_weightInWard_12 (c_X1_isIn κ.l hl κ.Γ M a u hR (nI i)) k222 k223 k224 k2 k225 rfl hR.obj ⟨rfl, by decide, by decide, (show (parseMethodDescriptor yX1_isIn.desc).map (fun d => d.parameters.length) = some 1 by decide +kernel)⟩ rfl (Nat.le_of_ble_eq_true rfl) (by rw [hRm]; decide) (by rw [hRm]; exact ⟨Nat.le_of_ble_eq_true rfl, Nat.le_of_ble_eq_true rfl⟩) ?_
        refine g_ifb_eq (tgt := 37) X dX1_weightInWard_15 (by decide) (fun c2 => ?_) (fun c2 => ?_)
        · refine g_iinc (k := 1) (v := (nI (i + 1))) (L' := [(3, .int (nI (i + 1))), (2, .int (wWard (u.2.1 1) (u.2.1 2) (u.1 1) x i)), (0, .ref (a 0)), (1, .int x)]) X dX1_weightInWard_37 rfl (nI_1 _) (by rw [hnL]; decide) rfl ?_
          refine g_goto (tgt := 4) X dX1_weightInWard_40 (by decide) ?_
          refine g_locs [1, 0, 2, 3] (L' := [(2, .int (wWard (u.2.1 1) (u.2.1 2) (u.1 1) x i)), (3, .int (nI (i + 1))), (0, .ref (a 0)), (1, .int x)]) rfl ?_
          exact g_eqL (by rw [show wWard (u.2.1 1) (u.2.1 2) (u.1 1) x (i + 1) = wWard (u.2.1 1) (u.2.1 2) (u.1 1) x i from by first | (rw [wWard]; simp [c1, c2]; done) | rfl]) (ih (i + 1) (by omega) (by omega))
        · refine g_aload_n X dX1_weightInWard_18 rfl 2 rfl ?_
          refine g_get X dX1_weightInWard_19 (ci := 1) (k := 1) (v := .ref (a 1)) rfl k44 (by decide) rfl hR.obj rfl ?_
          refine g_iload_n X dX1_weightInWard_22 rfl 1 rfl ?_
          refine g_iald (b := i) X dX1_weightInWard_23 (hR.row 1 (by decide) (by decide)) hlt9 (by decide) ?_
          refine g_iload_n X dX1_weightInWard_24 rfl 3 rfl ?_
          refine g_icmp_ne (tgt := 37) X dX1_weightInWard_25 (by decide) (fun c3 => ?_) (fun c3 => ?_)
          · refine g_iinc (k := 1) (v := (nI (i + 1))) (L' := [(3, .int (nI (i + 1))), (2, .int (wWard (u.2.1 1) (u.2.1 2) (u.1 1) x i)), (0, .ref (a 0)), (1, .int x)]) X dX1_weightInWard_37 rfl (nI_1 _) (by rw [hnL]; decide) rfl ?_
            refine g_goto (tgt := 4) X dX1_weightInWard_40 (by decide) ?_
            refine g_locs [1, 0, 2, 3] (L' := [(2, .int (wWard (u.2.1 1) (u.2.1 2) (u.1 1) x i)), (3, .int (nI (i + 1))), (0, .ref (a 0)), (1, .int x)]) rfl ?_
            exact g_eqL (by rw [show wWard (u.2.1 1) (u.2.1 2) (u.1 1) x (i + 1) = wWard (u.2.1 1) (u.2.1 2) (u.1 1) x i from by first | (rw [wWard]; simp [c1, c2, c3]; done) | rfl]) (ih (i + 1) (by omega) (by omega))
          · refine g_iload_n X dX1_weightInWard_28 rfl 0 rfl ?_
            refine g_aload_n X dX1_weightInWard_29 rfl 2 rfl ?_
            refine g_get X dX1_weightInWard_30 (ci := 1) (k := 2) (v := .ref (a 2)) rfl k46 (by decide) rfl hR.obj rfl ?_
            refine g_iload_n X dX1_weightInWard_33 rfl 1 rfl ?_
            refine g_iald (b := i) X dX1_weightInWard_34 (hR.row 2 (by decide) (by decide)) hlt9 (by decide) ?_
            refine g_iadd X dX1_weightInWard_35 ?_
            refine g_istore_n (L' := [(2, .int ((wWard (u.2.1 1) (u.2.1 2) (u.1 1) x i) + (u.2.1 2 i))), (3, .int (nI i)), (0, .ref (a 0)), (1, .int x)]) X dX1_weightInWard_36 rfl (by rw [hnL]; decide) rfl ?_
            refine g_iinc (k := 1) (v := (nI (i + 1))) (L' := [(3, .int (nI (i + 1))), (2, .int ((wWard (u.2.1 1) (u.2.1 2) (u.1 1) x i) + (u.2.1 2 i))), (0, .ref (a 0)), (1, .int x)]) X dX1_weightInWard_37 rfl (nI_1 _) (by rw [hnL]; decide) rfl ?_
            refine g_goto (tgt := 4) X dX1_weightInWard_40 (by decide) ?_
            refine g_locs [1, 0, 2, 3] (L' := [(2, .int ((wWard (u.2.1 1) (u.2.1 2) (u.1 1) x i) + (u.2.1 2 i))), (3, .int (nI (i + 1))), (0, .ref (a 0)), (1, .int x)]) rfl ?_
            exact g_eqL (by rw [show wWard (u.2.1 1) (u.2.1 2) (u.1 1) x (i + 1) = (wWard (u.2.1 1) (u.2.1 2) (u.1 1) x i) + (u.2.1 2 i) from by first | (rw [wWard]; simp [c1, c2, c3]; done) | rfl]) (ih (i + 1) (by omega) (by omega))
  refine g_locs [1, 0, 2, 3] (L' := [(2, .int 0), (3, .int 0), (0, .ref (a 0)), (1, .int x)]) rfl ?_
  exact lp (24 + 1) 0 (by omega) (by omega)
set_option maxRecDepth 100000 in
set_option maxHeartbeats 4000000 in
theorem c_X1_billsWith (l : Launch) (hl : l.stackTraces = false) (Γ : Gm) (M : Hp) (a : Nat → Nat) (u : HV) (hR : HRep Γ a u M) (hi : HInv u) (x : Int32) : Ct l Γ yX1_billsWith cX1_billsWith 4 (some .int) 0 0 0 [.ref (a 0), .int x] M (Rd (some (.int (cntS (u.2.1 3) x (cN (u.1 3))))) M) := by
  refine Ct.of hl (by decide) (Nat.le_of_ble_eq_true rfl) rfl ?_
  intro κ e1 e2 hnL hRm X F hlt
  subst e1 e2
  obtain ⟨B, hB8, eB⟩ := hi.nb
  refine g_iconst (v := 0) X dX1_billsWith_0 (by decide) ?_
  refine g_istore_n (L' := [(2, .int 0), (0, .ref (a 0)), (1, .int x)]) X dX1_billsWith_1 rfl (by rw [hnL]; decide) rfl ?_
  refine g_iconst (v := 0) X dX1_billsWith_2 (by decide) ?_
  refine g_istore_n (L' := [(3, .int 0), (2, .int 0), (0, .ref (a 0)), (1, .int x)]) X dX1_billsWith_3 rfl (by rw [hnL]; decide) rfl ?_
  have lp : ∀ n i : Nat, B - i < n → i ≤ B → G κ M 0 0 [(2, .int (cntS (u.2.1 3) x i)), (3, .int (nI i)), (0, .ref (a 0)), (1, .int x)] 4 [] := by
    intro n
    induction n with
    | zero => intro i h1 _; exact absurd h1 (Nat.not_lt_zero _)
    | succ n ih =>
      intro i hi1 hi2
      refine g_iload_n X dX1_billsWith_4 rfl 1 rfl ?_
      refine g_aload_n X dX1_billsWith_5 rfl 2 rfl ?_
      refine g_get X dX1_billsWith_6 (ci := 1) (k := 5) (v := .int (u.1 3)) rfl k52 (by decide) rfl hR.obj rfl ?_
      refine g_icmp_ge (tgt := 31) X dX1_billsWith_9 (by decide) (fun c1 => ?_) (fun c1 => ?_)
      · have heq9 : i = B := eq_of_ge (N := B) ⟨eB.symm, by omega⟩ (by omega) c1
        subst heq9
        refine g_iload_n X dX1_billsWith_31 rfl 0 rfl ?_
        exact g_iret X F dX1_billsWith_32 (by omega) (by omega) ⟨by rw [eB, cN_nI (by omega)], rfl⟩
      · have hlt9 : i < B := lt_of_nge (N := B) ⟨eB.symm, by omega⟩ (by omega) c1
        have hlt8 : i < 8 := by omega
        have vi : vp_in (nI i) 8 := vp_in_nI hlt8 (by decide)
        refine g_aload_n X dX1_billsWith_12 rfl 2 rfl ?_
        refine g_get X dX1_billsWith_13 (ci := 1) (k := 6) (v := .ref (a 3)) rfl k54 (by decide) rfl hR.obj rfl ?_
        refine g_iload_n X dX1_billsWith_16 rfl 1 rfl ?_
        refine g_iald (b := i) X dX1_billsWith_17 (hR.row 3 (by decide) (by decide)) hlt8 (by decide) ?_
        refine g_iload_n X dX1_billsWith_18 rfl 3 rfl ?_
        refine g_icmp_ne (tgt := 25) X dX1_billsWith_19 (by decide) (fun c2 => ?_) (fun c2 => ?_)
        · refine g_iinc (k := 1) (v := (nI (i + 1))) (L' := [(3, .int (nI (i + 1))), (2, .int (cntS (u.2.1 3) x i)), (0, .ref (a 0)), (1, .int x)]) X dX1_billsWith_25 rfl (nI_1 _) (by rw [hnL]; decide) rfl ?_
          refine g_goto (tgt := 4) X dX1_billsWith_28 (by decide) ?_
          refine g_locs [1, 0, 2, 3] (L' := [(2, .int (cntS (u.2.1 3) x i)), (3, .int (nI (i + 1))), (0, .ref (a 0)), (1, .int x)]) rfl ?_
          exact g_eqL (by rw [show cntS (u.2.1 3) x (i + 1) = cntS (u.2.1 3) x i from by first | (rw [cntS]; simp [c1, c2]; done) | rfl]) (ih (i + 1) (by omega) (by omega))
        · refine g_iinc (k := 0) (v := ((cntS (u.2.1 3) x i) + 1)) (L' := [(2, .int ((cntS (u.2.1 3) x i) + 1)), (3, .int (nI i)), (0, .ref (a 0)), (1, .int x)]) X dX1_billsWith_22 rfl rfl (by rw [hnL]; decide) rfl ?_
          refine g_iinc (k := 1) (v := (nI (i + 1))) (L' := [(3, .int (nI (i + 1))), (2, .int ((cntS (u.2.1 3) x i) + 1)), (0, .ref (a 0)), (1, .int x)]) X dX1_billsWith_25 rfl (nI_1 _) (by rw [hnL]; decide) rfl ?_
          refine g_goto (tgt := 4) X dX1_billsWith_28 (by decide) ?_
          refine g_locs [1, 0, 2, 3] (L' := [(2, .int ((cntS (u.2.1 3) x i) + 1)), (3, .int (nI (i + 1))), (0, .ref (a 0)), (1, .int x)]) rfl ?_
          exact g_eqL (by rw [show cntS (u.2.1 3) x (i + 1) = (cntS (u.2.1 3) x i) + 1 from by first | (rw [cntS]; simp [c1, c2]; done) | rfl]) (ih (i + 1) (by omega) (by omega))
  refine g_locs [1, 0, 2, 3] (L' := [(2, .int 0), (3, .int 0), (0, .ref (a 0)), (1, .int x)]) rfl ?_
  exact lp (B + 1) 0 (by omega) (by omega)
set_option maxRecDepth 100000 in
set_option maxHeartbeats 4000000 in
theorem c_X1_isAhead (l : Launch) (hl : l.stackTraces = false) (Γ : Gm) (M : Hp) (a : Nat → Nat) (u : HV) (hR : HRep Γ a u M) (x : Int32) (y : Int32) (vx : vp_in x 8) (vy : vp_in y 8) : Ct l Γ yX1_isAhead cX1_isAhead 3 (some .boolean) 1 0 0 [.ref (a 0), .int x, .int y] M (Rd (some (.int (bI (hAhd u x y)))) M) := by
  refine Ct.of hl (by decide) (Nat.le_of_ble_eq_true rfl) rfl ?_
  intro κ e1 e2 hnL hRm X F hlt
  subst e1 e2
  refine g_aload_n X dX1_isAhead_0 rfl 0 rfl ?_
  refine g_get X dX1_isAhead_1 (ci := 1) (k := 7) (v := .ref (a 4)) rfl k56 (by decide) rfl hR.obj rfl ?_
  refine g_iload_n X dX1_isAhead_4 rfl 1 rfl ?_
  refine g_iaload X dX1_isAhead_5 (hR.row 4 (by decide) (by decide)) vx ?_
  refine g_aload_n X dX1_isAhead_6 rfl 0 rfl ?_
  refine g_get X dX1_isAhead_7 (ci := 1) (k := 7) (v := .ref (a 4)) rfl k56 (by decide) rfl hR.obj rfl ?_
  refine g_iload_n X dX1_isAhead_10 rfl 2 rfl ?_
  refine g_iaload X dX1_isAhead_11 (hR.row 4 (by decide) (by decide)) vy ?_
  refine g_icmp_eq (tgt := 36) X dX1_isAhead_12 (by decide) (fun c1 => ?_) (fun c1 => ?_)
  · refine g_aload_n X dX1_isAhead_36 rfl 0 rfl ?_
    refine g_iload_n X dX1_isAhead_37 rfl 1 rfl ?_
    refine g_callV_rd (As := [.int x]) (ci := 1) (v := some (.int (hRust u (cN x)))) X dX1_isAhead_38 (c_X1_rustOf κ.l hl κ.Γ M a u hR x vx) k660 k661 k662 k2 k663 rfl hR.obj ⟨rfl, by decide, by decide, (show (parseMethodDescriptor yX1_rustOf.desc).map (fun d => d.parameters.length) = some 1 by decide +kernel)⟩ rfl (Nat.le_of_ble_eq_true rfl) (by rw [hRm]; decide) (by rw [hRm]; exact ⟨Nat.le_of_ble_eq_true rfl, Nat.le_of_ble_eq_true rfl⟩) ?_
    refine g_aload_n X dX1_isAhead_41 rfl 0 rfl ?_
    refine g_iload_n X dX1_isAhead_42 rfl 2 rfl ?_
    refine g_callV_rd (As := [.int y]) (ci := 1) (v := some (.int (hRust u (cN y)))) X dX1_isAhead_43 (c_X1_rustOf κ.l hl κ.Γ M a u hR y vy) k660 k661 k662 k2 k663 rfl hR.obj ⟨rfl, by decide, by decide, (show (parseMethodDescriptor yX1_rustOf.desc).map (fun d => d.parameters.length) = some 1 by decide +kernel)⟩ rfl (Nat.le_of_ble_eq_true rfl) (by rw [hRm]; decide) (by rw [hRm]; exact ⟨Nat.le_of_ble_eq_true rfl, Nat.le_of_ble_eq_true rfl⟩) ?_
    refine g_icmp_eq (tgt := 68) X dX1_isAhead_46 (by decide) (fun c2 => ?_) (fun c2 => ?_)
    · refine g_iload_n X dX1_isAhead_68 rfl 1 rfl ?_
      refine g_iload_n X dX1_isAhead_69 rfl 2 rfl ?_
      refine g_icmp_ge (tgt := 77) X dX1_isAhead_70 (by decide) (fun c3 => ?_) (fun c3 => ?_)
      · refine g_iconst (v := 0) X dX1_isAhead_77 (by decide) ?_
        exact g_zret X F dX1_isAhead_78 (by omega) (by omega) rfl ⟨by rw [bI_f (by unfold hAhd; first | (rw [if_neg (Classical.not_not.mpr c1), if_pos c2]; first | exact c3 | exact Int32.not_lt.mpr c3 | exact Int32.not_le.mp c3 | exact (fun h => c3 h) | exact Int32.lt_of_not_ge c3) | (rw [if_neg (Classical.not_not.mpr c1), if_neg (Classical.not_not.mpr c2)]; first | exact c3 | exact Int32.not_lt.mpr c3 | exact Int32.not_le.mp c3 | exact (fun h => c3 h) | exact Int32.lt_of_not_ge c3))], rfl⟩
      · refine g_iconst (v := 1) X dX1_isAhead_73 (by decide) ?_
        refine g_goto (tgt := 78) X dX1_isAhead_74 (by decide) ?_
        exact g_zret X F dX1_isAhead_78 (by omega) (by omega) rfl ⟨by rw [bI_t (by unfold hAhd; first | (rw [if_neg (Classical.not_not.mpr c1), if_pos c2]; first | exact c3 | exact Int32.not_lt.mpr c3 | exact Int32.not_le.mp c3 | exact (fun h => c3 h) | exact Int32.lt_of_not_ge c3) | (rw [if_neg (Classical.not_not.mpr c1), if_neg (Classical.not_not.mpr c2)]; first | exact c3 | exact Int32.not_lt.mpr c3 | exact Int32.not_le.mp c3 | exact (fun h => c3 h) | exact Int32.lt_of_not_ge c3))], rfl⟩
    · refine g_aload_n X dX1_isAhead_49 rfl 0 rfl ?_
      refine g_iload_n X dX1_isAhead_50 rfl 1 rfl ?_
      refine g_callV_rd (As := [.int x]) (ci := 1) (v := some (.int (hRust u (cN x)))) X dX1_isAhead_51 (c_X1_rustOf κ.l hl κ.Γ M a u hR x vx) k660 k661 k662 k2 k663 rfl hR.obj ⟨rfl, by decide, by decide, (show (parseMethodDescriptor yX1_rustOf.desc).map (fun d => d.parameters.length) = some 1 by decide +kernel)⟩ rfl (Nat.le_of_ble_eq_true rfl) (by rw [hRm]; decide) (by rw [hRm]; exact ⟨Nat.le_of_ble_eq_true rfl, Nat.le_of_ble_eq_true rfl⟩) ?_
      refine g_aload_n X dX1_isAhead_54 rfl 0 rfl ?_
      refine g_iload_n X dX1_isAhead_55 rfl 2 rfl ?_
      refine g_callV_rd (As := [.int y]) (ci := 1) (v := some (.int (hRust u (cN y)))) X dX1_isAhead_56 (c_X1_rustOf κ.l hl κ.Γ M a u hR y vy) k660 k661 k662 k2 k663 rfl hR.obj ⟨rfl, by decide, by decide, (show (parseMethodDescriptor yX1_rustOf.desc).map (fun d => d.parameters.length) = some 1 by decide +kernel)⟩ rfl (Nat.le_of_ble_eq_true rfl) (by rw [hRm]; decide) (by rw [hRm]; exact ⟨Nat.le_of_ble_eq_true rfl, Nat.le_of_ble_eq_true rfl⟩) ?_
      refine g_icmp_ge (tgt := 66) X dX1_isAhead_59 (by decide) (fun c4 => ?_) (fun c4 => ?_)
      · refine g_iconst (v := 0) X dX1_isAhead_66 (by decide) ?_
        exact g_zret X F dX1_isAhead_67 (by omega) (by omega) rfl ⟨by rw [bI_f (by unfold hAhd; first | (rw [if_neg (Classical.not_not.mpr c1), if_pos c2]; first | exact c4 | exact Int32.not_lt.mpr c4 | exact Int32.not_le.mp c4 | exact (fun h => c4 h) | exact Int32.lt_of_not_ge c4) | (rw [if_neg (Classical.not_not.mpr c1), if_neg (Classical.not_not.mpr c2)]; first | exact c4 | exact Int32.not_lt.mpr c4 | exact Int32.not_le.mp c4 | exact (fun h => c4 h) | exact Int32.lt_of_not_ge c4))], rfl⟩
      · refine g_iconst (v := 1) X dX1_isAhead_62 (by decide) ?_
        refine g_goto (tgt := 67) X dX1_isAhead_63 (by decide) ?_
        exact g_zret X F dX1_isAhead_67 (by omega) (by omega) rfl ⟨by rw [bI_t (by unfold hAhd; first | (rw [if_neg (Classical.not_not.mpr c1), if_pos c2]; first | exact c4 | exact Int32.not_lt.mpr c4 | exact Int32.not_le.mp c4 | exact (fun h => c4 h) | exact Int32.lt_of_not_ge c4) | (rw [if_neg (Classical.not_not.mpr c1), if_neg (Classical.not_not.mpr c2)]; first | exact c4 | exact Int32.not_lt.mpr c4 | exact Int32.not_le.mp c4 | exact (fun h => c4 h) | exact Int32.lt_of_not_ge c4))], rfl⟩
  · refine g_aload_n X dX1_isAhead_15 rfl 0 rfl ?_
    refine g_get X dX1_isAhead_16 (ci := 1) (k := 7) (v := .ref (a 4)) rfl k56 (by decide) rfl hR.obj rfl ?_
    refine g_iload_n X dX1_isAhead_19 rfl 1 rfl ?_
    refine g_iaload X dX1_isAhead_20 (hR.row 4 (by decide) (by decide)) vx ?_
    refine g_aload_n X dX1_isAhead_21 rfl 0 rfl ?_
    refine g_get X dX1_isAhead_22 (ci := 1) (k := 7) (v := .ref (a 4)) rfl k56 (by decide) rfl hR.obj rfl ?_
    refine g_iload_n X dX1_isAhead_25 rfl 2 rfl ?_
    refine g_iaload X dX1_isAhead_26 (hR.row 4 (by decide) (by decide)) vy ?_
    refine g_icmp_le (tgt := 34) X dX1_isAhead_27 (by decide) (fun c5 => ?_) (fun c5 => ?_)
    · refine g_iconst (v := 0) X dX1_isAhead_34 (by decide) ?_
      exact g_zret X F dX1_isAhead_35 (by omega) (by omega) rfl ⟨by rw [bI_f (by unfold hAhd; first | (rw [if_pos c1]; first | exact c5 | exact Int32.not_lt.mpr c5 | exact Int32.not_le.mp c5 | exact (fun h => c5 h) | exact Int32.lt_of_not_ge c5))], rfl⟩
    · refine g_iconst (v := 1) X dX1_isAhead_30 (by decide) ?_
      refine g_goto (tgt := 35) X dX1_isAhead_31 (by decide) ?_
      exact g_zret X F dX1_isAhead_35 (by omega) (by omega) rfl ⟨by rw [bI_t (by unfold hAhd; first | (rw [if_pos c1]; first | exact c5 | exact Int32.not_lt.mpr c5 | exact Int32.not_le.mp c5 | exact (fun h => c5 h) | exact Int32.lt_of_not_ge c5))], rfl⟩
set_option maxRecDepth 100000 in
set_option maxHeartbeats 4000000 in
theorem c_X1_rankOf (l : Launch) (hl : l.stackTraces = false) (Γ : Gm) (M : Hp) (a : Nat → Nat) (u : HV) (hR : HRep Γ a u M) (hi : HInv u) (x : Int32) (vx : vp_in x 8) : Ct l Γ yX1_rankOf cX1_rankOf 4 (some .int) 2 0 0 [.ref (a 0), .int x] M (Rd (some (.int (hRank u x (cN (u.1 3))))) M) := by
  refine Ct.of hl (by decide) (Nat.le_of_ble_eq_true rfl) rfl ?_
  intro κ e1 e2 hnL hRm X F hlt
  subst e1 e2
  obtain ⟨B, hB8, eB⟩ := hi.nb
  refine g_iconst (v := 0) X dX1_rankOf_0 (by decide) ?_
  refine g_istore_n (L' := [(2, .int 0), (0, .ref (a 0)), (1, .int x)]) X dX1_rankOf_1 rfl (by rw [hnL]; decide) rfl ?_
  refine g_iconst (v := 0) X dX1_rankOf_2 (by decide) ?_
  refine g_istore_n (L' := [(3, .int 0), (2, .int 0), (0, .ref (a 0)), (1, .int x)]) X dX1_rankOf_3 rfl (by rw [hnL]; decide) rfl ?_
  have lp : ∀ n i : Nat, B - i < n → i ≤ B → G κ M 0 0 [(2, .int (hRank u x i)), (3, .int (nI i)), (0, .ref (a 0)), (1, .int x)] 4 [] := by
    intro n
    induction n with
    | zero => intro i h1 _; exact absurd h1 (Nat.not_lt_zero _)
    | succ n ih =>
      intro i hi1 hi2
      refine g_iload_n X dX1_rankOf_4 rfl 1 rfl ?_
      refine g_aload_n X dX1_rankOf_5 rfl 2 rfl ?_
      refine g_get X dX1_rankOf_6 (ci := 1) (k := 5) (v := .int (u.1 3)) rfl k52 (by decide) rfl hR.obj rfl ?_
      refine g_icmp_ge (tgt := 30) X dX1_rankOf_9 (by decide) (fun c1 => ?_) (fun c1 => ?_)
      · have heq9 : i = B := eq_of_ge (N := B) ⟨eB.symm, by omega⟩ (by omega) c1
        subst heq9
        refine g_iload_n X dX1_rankOf_30 rfl 0 rfl ?_
        exact g_iret X F dX1_rankOf_31 (by omega) (by omega) ⟨by rw [eB, cN_nI (by omega)], rfl⟩
      · have hlt9 : i < B := lt_of_nge (N := B) ⟨eB.symm, by omega⟩ (by omega) c1
        have hlt8 : i < 8 := by omega
        have vi : vp_in (nI i) 8 := vp_in_nI hlt8 (by decide)
        refine g_aload_n X dX1_rankOf_12 rfl 2 rfl ?_
        refine g_iload_n X dX1_rankOf_13 rfl 1 rfl ?_
        refine g_iload_n X dX1_rankOf_14 rfl 3 rfl ?_
        refine g_callV_rd (As := [.int (nI i), .int x]) (ci := 1) (v := some (.int (bI (hAhd u (nI i) x)))) X dX1_rankOf_15 (c_X1_isAhead κ.l hl κ.Γ M a u hR (nI i) x vi vx) k656 k658 kp6 k2 k659 rfl hR.obj ⟨rfl, by decide, by decide, (show (parseMethodDescriptor yX1_isAhead.desc).map (fun d => d.parameters.length) = some 2 by decide +kernel)⟩ rfl (Nat.le_of_ble_eq_true rfl) (by rw [hRm]; decide) (by rw [hRm]; exact ⟨Nat.le_of_ble_eq_true rfl, Nat.le_of_ble_eq_true rfl⟩) ?_
        refine g_ifb_eq (tgt := 24) X dX1_rankOf_18 (by decide) (fun c2 => ?_) (fun c2 => ?_)
        · refine g_iinc (k := 1) (v := (nI (i + 1))) (L' := [(3, .int (nI (i + 1))), (2, .int (hRank u x i)), (0, .ref (a 0)), (1, .int x)]) X dX1_rankOf_24 rfl (nI_1 _) (by rw [hnL]; decide) rfl ?_
          refine g_goto (tgt := 4) X dX1_rankOf_27 (by decide) ?_
          refine g_locs [1, 0, 2, 3] (L' := [(2, .int (hRank u x i)), (3, .int (nI (i + 1))), (0, .ref (a 0)), (1, .int x)]) rfl ?_
          exact g_eqL (by rw [show hRank u x (i + 1) = hRank u x i from by first | exact hRank_t c2 | exact hRank_f c2]) (ih (i + 1) (by omega) (by omega))
        · refine g_iinc (k := 0) (v := ((hRank u x i) + 1)) (L' := [(2, .int ((hRank u x i) + 1)), (3, .int (nI i)), (0, .ref (a 0)), (1, .int x)]) X dX1_rankOf_21 rfl rfl (by rw [hnL]; decide) rfl ?_
          refine g_iinc (k := 1) (v := (nI (i + 1))) (L' := [(3, .int (nI (i + 1))), (2, .int ((hRank u x i) + 1)), (0, .ref (a 0)), (1, .int x)]) X dX1_rankOf_24 rfl (nI_1 _) (by rw [hnL]; decide) rfl ?_
          refine g_goto (tgt := 4) X dX1_rankOf_27 (by decide) ?_
          refine g_locs [1, 0, 2, 3] (L' := [(2, .int ((hRank u x i) + 1)), (3, .int (nI (i + 1))), (0, .ref (a 0)), (1, .int x)]) rfl ?_
          exact g_eqL (by rw [show hRank u x (i + 1) = (hRank u x i) + 1 from by first | exact hRank_t c2 | exact hRank_f c2]) (ih (i + 1) (by omega) (by omega))
  refine g_locs [1, 0, 2, 3] (L' := [(2, .int 0), (3, .int 0), (0, .ref (a 0)), (1, .int x)]) rfl ?_
  exact lp (B + 1) 0 (by omega) (by omega)
