set_option maxRecDepth 100000 in
set_option maxHeartbeats 4000000 in
theorem c_X0_isFull (l : Launch) (hl : l.stackTraces = false) (Γ : Gm) (M : Hp) (a : Nat → Nat) (u : HV) (hR : TRep Γ a u M) (hi : TInv u) : Ct l Γ yX0_isFull cX0_isFull 1 (some .boolean) 0 0 0 [.ref (a 0)] M (Rd (some (.int (bI (60 ≤ u.1 0)))) M) := by
  refine Ct.of hl (by decide) (Nat.le_of_ble_eq_true rfl) rfl ?_
  intro κ e1 e2 hnL hRm X F hlt
  subst e1 e2
  refine g_aload_n X dX0_isFull_0 rfl 0 rfl ?_
  refine g_get X dX0_isFull_1 (ci := 0) (k := 1) (v := .int (u.1 0)) rfl k117 (by decide) rfl (TRep.obj hR) rfl ?_
  refine g_bipush (v := 60) X dX0_isFull_4 (by decide) ?_
  refine g_icmp_lt (tgt := 13) X dX0_isFull_6 (by decide) (fun c1 => ?_) (fun c1 => ?_)
  · refine g_iconst (v := 0) X dX0_isFull_13 (by decide) ?_
    exact g_zret X F dX0_isFull_14 (by omega) (by omega) rfl ⟨by rw [bI_f (by first | exact c1 | exact (fun h => h c1) | (simp only [isDig, hasM, hasB, hasP, isC, isW, inS, hQuor, cN, hRust, hAhd, Int32.lt_iff_toInt_lt, Int32.le_iff_toInt_le, Int32.reduceToInt] at c1 ⊢; omega) | (simp_all [isDig, hasM, hasB, hasP, isC, isW, inS, hQuor, cN, hRust, hAhd]; done))], rfl⟩
  · refine g_iconst (v := 1) X dX0_isFull_9 (by decide) ?_
    refine g_goto (tgt := 14) X dX0_isFull_10 (by decide) ?_
    exact g_zret X F dX0_isFull_14 (by omega) (by omega) rfl ⟨by rw [bI_t (by first | exact c1 | exact (fun h => h c1) | (simp only [isDig, hasM, hasB, hasP, isC, isW, inS, hQuor, cN, hRust, hAhd, Int32.lt_iff_toInt_lt, Int32.le_iff_toInt_le, Int32.reduceToInt] at c1 ⊢; omega) | (simp_all [isDig, hasM, hasB, hasP, isC, isW, inS, hQuor, cN, hRust, hAhd]; done))], rfl⟩
set_option maxRecDepth 100000 in
set_option maxHeartbeats 4000000 in
theorem c_X0_clear (l : Launch) (hl : l.stackTraces = false) (Γ : Gm) (M : Hp) (a : Nat → Nat) (u : HV) (hR : TRep Γ a u M) (hi : TInv u) : Ct l Γ yX0_clear cX0_clear 1 none 0 0 0 [.ref (a 0)] M (TMu Γ a none (hsc u 0 0) M) := by
  refine Ct.of hl (by decide) (Nat.le_of_ble_eq_true rfl) rfl ?_
  intro κ e1 e2 hnL hRm X F hlt
  subst e1 e2
  refine g_aload_n X dX0_clear_0 rfl 0 rfl ?_
  refine g_iconst (v := 0) X dX0_clear_1 (by decide) ?_
  refine g_put X dX0_clear_2 (ci := 0) (k := 1) (ty := .int) rfl k117 (by decide) rfl rfl (by decide +kernel) rfl rfl (Nat.le_of_ble_eq_true rfl) (TRep.obj hR) ?_
  refine g_gen (P := fun M9 => TRep κ.Γ a (hsc u 0 0) M9 ∧ Fr a 3 M M9) ⟨TRep.sc hR 0 _ rfl, (Fr.up (by decide))⟩ (fun M1 ⟨hR2, hF3⟩ => ?_)
  exact g_vret X F dX0_clear_5 (by omega) (by omega) ⟨rfl, hR2, hF3⟩
set_option maxRecDepth 100000 in
set_option maxHeartbeats 4000000 in
theorem c_X0_rewind (l : Launch) (hl : l.stackTraces = false) (Γ : Gm) (M : Hp) (a : Nat → Nat) (u : HV) (hR : TRep Γ a u M) (hi : TInv u) : Ct l Γ yX0_rewind cX0_rewind 1 none 0 0 0 [.ref (a 0)] M (TMu Γ a none (hsc u 1 0) M) := by
  refine Ct.of hl (by decide) (Nat.le_of_ble_eq_true rfl) rfl ?_
  intro κ e1 e2 hnL hRm X F hlt
  subst e1 e2
  refine g_aload_n X dX0_rewind_0 rfl 0 rfl ?_
  refine g_iconst (v := 0) X dX0_rewind_1 (by decide) ?_
  refine g_put X dX0_rewind_2 (ci := 0) (k := 2) (ty := .int) rfl k118 (by decide) rfl rfl (by decide +kernel) rfl rfl (Nat.le_of_ble_eq_true rfl) (TRep.obj hR) ?_
  refine g_gen (P := fun M9 => TRep κ.Γ a (hsc u 1 0) M9 ∧ Fr a 3 M M9) ⟨TRep.sc hR 1 _ rfl, (Fr.up (by decide))⟩ (fun M1 ⟨hR2, hF3⟩ => ?_)
  exact g_vret X F dX0_rewind_5 (by omega) (by omega) ⟨rfl, hR2, hF3⟩
set_option maxRecDepth 100000 in
set_option maxHeartbeats 4000000 in
theorem c_X0_put (l : Launch) (hl : l.stackTraces = false) (Γ : Gm) (M : Hp) (a : Nat → Nat) (u : HV) (hR : TRep Γ a u M) (hm : vp_in (u.1 0) 60) (c : Int32) (hc : isCh c) : Ct l Γ yX0_put cX0_put 2 (some .int) 0 0 0 [.ref (a 0), .int c] M (TMu Γ a (some (.int ((tPutS u c).1 0))) (tPutS u c) M) := by
  refine Ct.of hl (by decide) (Nat.le_of_ble_eq_true rfl) rfl ?_
  intro κ e1 e2 hnL hRm X F hlt
  subst e1 e2
  refine g_aload_n X dX0_put_0 rfl 0 rfl ?_
  refine g_get X dX0_put_1 (ci := 0) (k := 0) (v := .ref (a 1)) rfl k116 (by decide) rfl (TRep.obj hR) rfl ?_
  refine g_aload_n X dX0_put_4 rfl 0 rfl ?_
  refine g_get X dX0_put_5 (ci := 0) (k := 1) (v := .int (u.1 0)) rfl k117 (by decide) rfl (TRep.obj hR) rfl ?_
  refine g_iload_n X dX0_put_8 rfl 1 rfl ?_
  refine g_castore X dX0_put_9 (TRep.signs hR) hm (isCh.nar hc) ?_
  refine g_gen (P := fun M9 => TRep κ.Γ a (hset u 1 (cN (u.1 0)) c) M9 ∧ Fr a 3 M M9) ⟨TRep.sg hR _, (Fr.up (by decide))⟩ (fun M1 ⟨hR2, hF3⟩ => ?_)
  refine g_aload_n X dX0_put_10 rfl 0 rfl ?_
  refine g_dup X dX0_put_11 rfl ?_
  refine g_get X dX0_put_12 (ci := 0) (k := 1) (v := .int ((hset u 1 (cN (u.1 0)) c).1 0)) rfl k117 (by decide) rfl (TRep.obj hR2) rfl ?_
  refine g_iconst (v := 1) X dX0_put_15 (by decide) ?_
  refine g_iadd X dX0_put_16 ?_
  refine g_put X dX0_put_17 (ci := 0) (k := 1) (ty := .int) rfl k117 (by decide) rfl rfl (by decide +kernel) rfl rfl (Nat.le_of_ble_eq_true rfl) (TRep.obj hR2) ?_
  refine g_gen (P := fun M9 => TRep κ.Γ a (hsc (hset u 1 (cN (u.1 0)) c) 0 (((hset u 1 (cN (u.1 0)) c).1 0) + 1)) M9 ∧ Fr a 3 M M9) ⟨TRep.sc hR2 0 _ rfl, Fr.tr hF3 (Fr.up (by decide))⟩ (fun M4 ⟨hR5, hF6⟩ => ?_)
  refine g_aload_n X dX0_put_20 rfl 0 rfl ?_
  refine g_get X dX0_put_21 (ci := 0) (k := 1) (v := .int ((hsc (hset u 1 (cN (u.1 0)) c) 0 (((hset u 1 (cN (u.1 0)) c).1 0) + 1)).1 0)) rfl k117 (by decide) rfl (TRep.obj hR5) rfl ?_
  exact g_iret X F dX0_put_24 (by omega) (by omega) ⟨rfl, hR5, hF6⟩
set_option maxRecDepth 100000 in
set_option maxHeartbeats 4000000 in
theorem c_X0_nextSign (l : Launch) (hl : l.stackTraces = false) (Γ : Gm) (M : Hp) (a : Nat → Nat) (u : HV) (hR : TRep Γ a u M) (hi : TInv u) : Ct l Γ yX0_nextSign cX0_nextSign 1 (some .char) 0 0 0 [.ref (a 0)] M (Rd (some (.int (tNx u))) M) := by
  refine Ct.of hl (by decide) (Nat.le_of_ble_eq_true rfl) rfl ?_
  intro κ e1 e2 hnL hRm X F hlt
  subst e1 e2
  refine g_aload_n X dX0_nextSign_0 rfl 0 rfl ?_
  refine g_get X dX0_nextSign_1 (ci := 0) (k := 2) (v := .int (u.1 1)) rfl k118 (by decide) rfl (TRep.obj hR) rfl ?_
  refine g_aload_n X dX0_nextSign_4 rfl 0 rfl ?_
  refine g_get X dX0_nextSign_5 (ci := 0) (k := 1) (v := .int (u.1 0)) rfl k117 (by decide) rfl (TRep.obj hR) rfl ?_
  refine g_icmp_ge (tgt := 23) X dX0_nextSign_8 (by decide) (fun c1 => ?_) (fun c1 => ?_)
  · refine g_iconst (v := 0) X dX0_nextSign_23 (by decide) ?_
    exact g_zret X F dX0_nextSign_24 (by omega) (by omega) (by rw [← (show tNx u = 0 from by unfold tNx; first | exact if_neg (Int32.not_lt.mpr c1) | exact if_pos (Int32.not_le.mp c1))]; exact (hi.nx).nar) ⟨by rw [show tNx u = 0 from by unfold tNx; first | exact if_neg (Int32.not_lt.mpr c1) | exact if_pos (Int32.not_le.mp c1)], rfl⟩
  · have vx : vp_in (u.1 1) 60 := hi.ix (Int32.not_le.mp c1)
    refine g_aload_n X dX0_nextSign_11 rfl 0 rfl ?_
    refine g_get X dX0_nextSign_12 (ci := 0) (k := 0) (v := .ref (a 1)) rfl k116 (by decide) rfl (TRep.obj hR) rfl ?_
    refine g_aload_n X dX0_nextSign_15 rfl 0 rfl ?_
    refine g_get X dX0_nextSign_16 (ci := 0) (k := 2) (v := .int (u.1 1)) rfl k118 (by decide) rfl (TRep.obj hR) rfl ?_
    refine g_caload X dX0_nextSign_19 (TRep.signs hR) vx ?_
    refine g_goto (tgt := 24) X dX0_nextSign_20 (by decide) ?_
    exact g_zret X F dX0_nextSign_24 (by omega) (by omega) (by rw [← (show tNx u = u.2.1 1 (cN (u.1 1)) from by unfold tNx; first | exact if_neg (Int32.not_lt.mpr c1) | exact if_pos (Int32.not_le.mp c1))]; exact (hi.nx).nar) ⟨by rw [show tNx u = u.2.1 1 (cN (u.1 1)) from by unfold tNx; first | exact if_neg (Int32.not_lt.mpr c1) | exact if_pos (Int32.not_le.mp c1)], rfl⟩
set_option maxRecDepth 100000 in
set_option maxHeartbeats 4000000 in
theorem c_X0_isDigit (l : Launch) (hl : l.stackTraces = false) (Γ : Gm) (M : Hp) (x : Int32) : Ct l Γ yX0_isDigit cX0_isDigit 1 (some .boolean) 0 0 0 [.int x] M (Rd (some (.int (bI (isDig x)))) M) := by
  refine Ct.of hl (by decide) (Nat.le_of_ble_eq_true rfl) rfl ?_
  intro κ e1 e2 hnL hRm X F hlt
  subst e1 e2
  refine g_iload_n X dX0_isDigit_0 rfl 0 rfl ?_
  refine g_bipush (v := 48) X dX0_isDigit_1 (by decide) ?_
  refine g_icmp_lt (tgt := 16) X dX0_isDigit_3 (by decide) (fun c1 => ?_) (fun c1 => ?_)
  · refine g_iconst (v := 0) X dX0_isDigit_16 (by decide) ?_
    exact g_zret X F dX0_isDigit_17 (by omega) (by omega) rfl ⟨by rw [bI_f (by first | exact c1 | exact (fun h => h c1) | (simp only [isDig, hasM, hasB, hasP, isC, isW, inS, hQuor, cN, hRust, hAhd, Int32.lt_iff_toInt_lt, Int32.le_iff_toInt_le, Int32.reduceToInt] at c1 ⊢; omega) | (simp_all [isDig, hasM, hasB, hasP, isC, isW, inS, hQuor, cN, hRust, hAhd]; done))], rfl⟩
  · refine g_iload_n X dX0_isDigit_6 rfl 0 rfl ?_
    refine g_bipush (v := 57) X dX0_isDigit_7 (by decide) ?_
    refine g_icmp_gt (tgt := 16) X dX0_isDigit_9 (by decide) (fun c2 => ?_) (fun c2 => ?_)
    · refine g_iconst (v := 0) X dX0_isDigit_16 (by decide) ?_
      exact g_zret X F dX0_isDigit_17 (by omega) (by omega) rfl ⟨by rw [bI_f (by first | exact c2 | exact (fun h => h c2) | exact c1 | exact (fun h => h c1) | (simp only [isDig, hasM, hasB, hasP, isC, isW, inS, hQuor, cN, hRust, hAhd, Int32.lt_iff_toInt_lt, Int32.le_iff_toInt_le, Int32.reduceToInt] at c1 c2 ⊢; omega) | (simp_all [isDig, hasM, hasB, hasP, isC, isW, inS, hQuor, cN, hRust, hAhd]; done))], rfl⟩
    · refine g_iconst (v := 1) X dX0_isDigit_12 (by decide) ?_
      refine g_goto (tgt := 17) X dX0_isDigit_13 (by decide) ?_
      exact g_zret X F dX0_isDigit_17 (by omega) (by omega) rfl ⟨by rw [bI_t (by first | exact c2 | exact (fun h => h c2) | exact c1 | exact (fun h => h c1) | (simp only [isDig, hasM, hasB, hasP, isC, isW, inS, hQuor, cN, hRust, hAhd, Int32.lt_iff_toInt_lt, Int32.le_iff_toInt_le, Int32.reduceToInt] at c1 c2 ⊢; omega) | (simp_all [isDig, hasM, hasB, hasP, isC, isW, inS, hQuor, cN, hRust, hAhd]; done))], rfl⟩
