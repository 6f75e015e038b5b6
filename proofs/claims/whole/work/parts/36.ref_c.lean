def RInv (r : Nat → Int32) : Prop := (∃ B, B ≤ 24 ∧ r 0 = nI B) ∧ (∃ B, B ≤ 8 ∧ r 1 = nI B) ∧ ∀ b, b < 8 → ∃ p, p ≤ 4 ∧ r (53 + 16 * b + 7) = nI p
set_option maxRecDepth 100000 in
set_option maxHeartbeats 4000000 in
theorem c_X4_present (l : Launch) (hl : l.stackTraces = false) (Γ : Gm) (M : Hp) (a : Nat → Nat) (u : HV) (hR : MRep Γ a u M) (x : Int32) : Ct l Γ yX4_present cX4_present 2 (some .boolean) 0 0 0 [.ref (a 0), .int (x)] M (Rd (some (.int (bI (shr (u.2.1 1 2) x &&& 1 = 1)))) M) := by
  refine Ct.of hl (by decide) (Nat.le_of_ble_eq_true rfl) rfl ?_
  intro κ e1 e2 hnL hRm X F hlt
  subst e1 e2
  refine g_aload_n X dX4_present_0 rfl 0 rfl ?_
  refine g_get X dX4_present_1 (ci := 4) (k := 1) (v := .ref (a 1)) rfl k1090 (by decide) rfl (MRep.obj hR) rfl ?_
  refine g_iconst (v := 2) X dX4_present_4 (by decide) ?_
  refine g_iald (b := 2) X dX4_present_5 (MRep.row hR 1 (by decide) (by decide)) (by omega) (by decide) ?_
  refine g_iload_n X dX4_present_6 rfl 1 rfl ?_
  refine g_ishr X dX4_present_7 ?_
  refine g_iconst (v := 1) X dX4_present_8 (by decide) ?_
  refine g_iand X dX4_present_9 ?_
  refine g_iconst (v := 1) X dX4_present_10 (by decide) ?_
  refine g_icmp_ne (tgt := 18) X dX4_present_11 (by decide) (fun c1 => ?_) (fun c1 => ?_)
  · refine g_iconst (v := 0) X dX4_present_18 (by decide) ?_
    exact g_zret X F dX4_present_19 (by omega) (by omega) rfl ⟨by rw [bI_f (by first | exact c1 | exact (fun h => h c1) | (simp only [btw, isDig, hasM, hasB, hasP, isC, isW, inS, hQuor, cN, hRust, hAhd, Int32.lt_iff_toInt_lt, Int32.le_iff_toInt_le, Int32.reduceToInt] at c1 ⊢; omega) | (simp_all [btw, isDig, hasM, hasB, hasP, isC, isW, inS, hQuor, cN, hRust, hAhd]; done))], rfl⟩
  · refine g_iconst (v := 1) X dX4_present_14 (by decide) ?_
    refine g_goto (tgt := 19) X dX4_present_15 (by decide) ?_
    exact g_zret X F dX4_present_19 (by omega) (by omega) rfl ⟨by rw [bI_t (by first | exact c1 | exact (fun h => h c1) | (simp only [btw, isDig, hasM, hasB, hasP, isC, isW, inS, hQuor, cN, hRust, hAhd, Int32.lt_iff_toInt_lt, Int32.le_iff_toInt_le, Int32.reduceToInt] at c1 ⊢; omega) | (simp_all [btw, isDig, hasM, hasB, hasP, isC, isW, inS, hQuor, cN, hRust, hAhd]; done))], rfl⟩
set_option maxRecDepth 100000 in
set_option maxHeartbeats 4000000 in
theorem c_X4_quorate (l : Launch) (hl : l.stackTraces = false) (Γ : Gm) (M : Hp) (a : Nat → Nat) (u : HV) (hR : MRep Γ a u M) : Ct l Γ yX4_quorate cX4_quorate 1 (some .boolean) 1 0 0 [.ref (a 0)] M (Rd (some (.int (bI (u.2.1 1 3 ≤ jbc (u.2.1 1 2))))) M) := by
  refine Ct.of hl (by decide) (Nat.le_of_ble_eq_true rfl) rfl ?_
  intro κ e1 e2 hnL hRm X F hlt
  subst e1 e2
  refine g_aload_n X dX4_quorate_0 rfl 0 rfl ?_
  refine g_get X dX4_quorate_1 (ci := 4) (k := 1) (v := .ref (a 1)) rfl k1090 (by decide) rfl (MRep.obj hR) rfl ?_
  refine g_iconst (v := 2) X dX4_quorate_4 (by decide) ?_
  refine g_iald (b := 2) X dX4_quorate_5 (MRep.row hR 1 (by decide) (by decide)) (by omega) (by decide) ?_
  refine g_callS_rd (As := [.int (u.2.1 1 2)]) (v := some (.int (jbc (u.2.1 1 2)))) X dX4_quorate_6 (c_jbc κ.l hl κ.Γ M (u.2.1 1 2)) k1191 k209 k19 k210 ⟨by decide, by decide, (show (parseMethodDescriptor yJ6_bitCount_0f7a4.desc).map (fun d => d.parameters.length) = some 1 by decide +kernel)⟩ rfl (Nat.le_of_ble_eq_true rfl) (by rw [hRm]; decide) (by rw [hRm]; exact ⟨Nat.le_of_ble_eq_true rfl, Nat.le_of_ble_eq_true rfl⟩) ?_
  refine g_aload_n X dX4_quorate_9 rfl 0 rfl ?_
  refine g_get X dX4_quorate_10 (ci := 4) (k := 1) (v := .ref (a 1)) rfl k1090 (by decide) rfl (MRep.obj hR) rfl ?_
  refine g_iconst (v := 3) X dX4_quorate_13 (by decide) ?_
  refine g_iald (b := 3) X dX4_quorate_14 (MRep.row hR 1 (by decide) (by decide)) (by omega) (by decide) ?_
  refine g_icmp_lt (tgt := 22) X dX4_quorate_15 (by decide) (fun c1 => ?_) (fun c1 => ?_)
  · refine g_iconst (v := 0) X dX4_quorate_22 (by decide) ?_
    exact g_zret X F dX4_quorate_23 (by omega) (by omega) rfl ⟨by rw [bI_f (by first | exact c1 | exact (fun h => h c1) | (simp only [btw, isDig, hasM, hasB, hasP, isC, isW, inS, hQuor, cN, hRust, hAhd, Int32.lt_iff_toInt_lt, Int32.le_iff_toInt_le, Int32.reduceToInt] at c1 ⊢; omega) | (simp_all [btw, isDig, hasM, hasB, hasP, isC, isW, inS, hQuor, cN, hRust, hAhd]; done))], rfl⟩
  · refine g_iconst (v := 1) X dX4_quorate_18 (by decide) ?_
    refine g_goto (tgt := 23) X dX4_quorate_19 (by decide) ?_
    exact g_zret X F dX4_quorate_23 (by omega) (by omega) rfl ⟨by rw [bI_t (by first | exact c1 | exact (fun h => h c1) | (simp only [btw, isDig, hasM, hasB, hasP, isC, isW, inS, hQuor, cN, hRust, hAhd, Int32.lt_iff_toInt_lt, Int32.le_iff_toInt_le, Int32.reduceToInt] at c1 ⊢; omega) | (simp_all [btw, isDig, hasM, hasB, hasP, isC, isW, inS, hQuor, cN, hRust, hAhd]; done))], rfl⟩
set_option maxRecDepth 100000 in
set_option maxHeartbeats 4000000 in
theorem c_X4_rusted (l : Launch) (hl : l.stackTraces = false) (Γ : Gm) (M : Hp) (a : Nat → Nat) (u : HV) (hR : MRep Γ a u M) (b9 : Nat) (hb : b9 < 8) : Ct l Γ yX4_rusted cX4_rusted 2 (some .int) 1 0 0 [.ref (a 0), .int (nI b9)] M (Rd (some (.int (u.2.1 1 (53 + 16 * b9 + 4) / 60))) M) := by
  refine Ct.of hl (by decide) (Nat.le_of_ble_eq_true rfl) rfl ?_
  intro κ e1 e2 hnL hRm X F hlt
  subst e1 e2
  refine g_aload_n X dX4_rusted_0 rfl 0 rfl ?_
  refine g_iload_n X dX4_rusted_1 rfl 1 rfl ?_
  refine g_iconst (v := 4) X dX4_rusted_2 (by decide) ?_
  refine g_callV_rd (As := [.int (nI b9), .int 4]) (ci := 4) (v := some (.int (u.2.1 1 (53 + 16 * b9 + 4)))) X dX4_rusted_3 (c_X4_of κ.l hl κ.Γ M a u hR b9 4 (by omega) (by omega)) k1263 k1265 kp25 k5 k1266 rfl (MRep.obj hR) ⟨rfl, by decide, by decide, (show (parseMethodDescriptor yX4_of.desc).map (fun d => d.parameters.length) = some 2 by decide +kernel)⟩ rfl (Nat.le_of_ble_eq_true rfl) (by rw [hRm]; decide) (by rw [hRm]; exact ⟨Nat.le_of_ble_eq_true rfl, Nat.le_of_ble_eq_true rfl⟩) ?_
  refine g_bipush (v := 60) X dX4_rusted_6 (by decide) ?_
  refine g_idiv X dX4_rusted_8 (by decide) ?_
  exact g_iret X F dX4_rusted_9 (by omega) (by omega) ⟨rfl, rfl⟩
set_option maxRecDepth 100000 in
set_option maxHeartbeats 4000000 in
theorem c_X4_clauseOf (l : Launch) (hl : l.stackTraces = false) (Γ : Gm) (M : Hp) (a : Nat → Nat) (u : HV) (hR : MRep Γ a u M) (b9 : Nat) (p9 : Nat) (hb : b9 < 8) (hp : p9 < 4) : Ct l Γ yX4_clauseOf cX4_clauseOf 3 (some .int) 1 0 0 [.ref (a 0), .int (nI b9), .int (nI p9)] M (Rd (some (.int (u.2.1 1 (53 + 16 * b9 + (8 + 2 * p9))))) M) := by
  refine Ct.of hl (by decide) (Nat.le_of_ble_eq_true rfl) rfl ?_
  intro κ e1 e2 hnL hRm X F hlt
  subst e1 e2
  refine g_aload_n X dX4_clauseOf_0 rfl 0 rfl ?_
  refine g_iload_n X dX4_clauseOf_1 rfl 1 rfl ?_
  refine g_bipush (v := 8) X dX4_clauseOf_2 (by decide) ?_
  refine g_iconst (v := 2) X dX4_clauseOf_4 (by decide) ?_
  refine g_iload_n X dX4_clauseOf_5 rfl 2 rfl ?_
  refine g_imul X dX4_clauseOf_6 ?_
  refine g_lit (nI (2 * p9)) (nI_mulJ 2 p9) ?_
  refine g_iadd X dX4_clauseOf_7 ?_
  refine g_lit (nI (8 + (2 * p9))) (nI_addJ 8 (2 * p9)) ?_
  refine g_callV_rd (As := [.int (nI b9), .int (nI (8 + (2 * p9)))]) (ci := 4) (v := some (.int (u.2.1 1 (53 + 16 * b9 + (8 + (2 * p9)))))) X dX4_clauseOf_8 (c_X4_of κ.l hl κ.Γ M a u hR b9 (8 + (2 * p9)) (by omega) (by omega)) k1263 k1265 kp25 k5 k1266 rfl (MRep.obj hR) ⟨rfl, by decide, by decide, (show (parseMethodDescriptor yX4_of.desc).map (fun d => d.parameters.length) = some 2 by decide +kernel)⟩ rfl (Nat.le_of_ble_eq_true rfl) (by rw [hRm]; decide) (by rw [hRm]; exact ⟨Nat.le_of_ble_eq_true rfl, Nat.le_of_ble_eq_true rfl⟩) ?_
  exact g_iret X F dX4_clauseOf_11 (by omega) (by omega) ⟨rfl, rfl⟩
set_option maxRecDepth 100000 in
set_option maxHeartbeats 4000000 in
theorem c_X4_supporters (l : Launch) (hl : l.stackTraces = false) (Γ : Gm) (M : Hp) (a : Nat → Nat) (u : HV) (hR : MRep Γ a u M) (b9 : Nat) (p9 : Nat) (hb : b9 < 8) (hp : p9 < 4) : Ct l Γ yX4_supporters cX4_supporters 3 (some .int) 1 0 0 [.ref (a 0), .int (nI b9), .int (nI p9)] M (Rd (some (.int (u.2.1 1 (53 + 16 * b9 + (8 + 2 * p9 + 1))))) M) := by
  refine Ct.of hl (by decide) (Nat.le_of_ble_eq_true rfl) rfl ?_
  intro κ e1 e2 hnL hRm X F hlt
  subst e1 e2
  refine g_aload_n X dX4_supporters_0 rfl 0 rfl ?_
  refine g_iload_n X dX4_supporters_1 rfl 1 rfl ?_
  refine g_bipush (v := 8) X dX4_supporters_2 (by decide) ?_
  refine g_iconst (v := 2) X dX4_supporters_4 (by decide) ?_
  refine g_iload_n X dX4_supporters_5 rfl 2 rfl ?_
  refine g_imul X dX4_supporters_6 ?_
  refine g_lit (nI (2 * p9)) (nI_mulJ 2 p9) ?_
  refine g_iadd X dX4_supporters_7 ?_
  refine g_lit (nI (8 + (2 * p9))) (nI_addJ 8 (2 * p9)) ?_
  refine g_iconst (v := 1) X dX4_supporters_8 (by decide) ?_
  refine g_iadd X dX4_supporters_9 ?_
  refine g_lit (nI ((8 + (2 * p9)) + 1)) (nI_addJ (8 + (2 * p9)) 1) ?_
  refine g_callV_rd (As := [.int (nI b9), .int (nI ((8 + (2 * p9)) + 1))]) (ci := 4) (v := some (.int (u.2.1 1 (53 + 16 * b9 + ((8 + (2 * p9)) + 1))))) X dX4_supporters_10 (c_X4_of κ.l hl κ.Γ M a u hR b9 ((8 + (2 * p9)) + 1) (by omega) (by omega)) k1263 k1265 kp25 k5 k1266 rfl (MRep.obj hR) ⟨rfl, by decide, by decide, (show (parseMethodDescriptor yX4_of.desc).map (fun d => d.parameters.length) = some 2 by decide +kernel)⟩ rfl (Nat.le_of_ble_eq_true rfl) (by rw [hRm]; decide) (by rw [hRm]; exact ⟨Nat.le_of_ble_eq_true rfl, Nat.le_of_ble_eq_true rfl⟩) ?_
  exact g_iret X F dX4_supporters_13 (by omega) (by omega) ⟨rfl, rfl⟩
set_option maxRecDepth 100000 in
set_option maxHeartbeats 4000000 in
theorem c_X4_countClauses (l : Launch) (hl : l.stackTraces = false) (Γ : Gm) (M : Hp) (a : Nat → Nat) (u : HV) (hR : MRep Γ a u M) (b9 : Nat) (hb : b9 < 8) : Ct l Γ yX4_countClauses cX4_countClauses 2 (some .int) 1 0 0 [.ref (a 0), .int (nI b9)] M (Rd (some (.int (jbc (u.2.1 1 (53 + 16 * b9 + 1)) + jbc (u.2.1 1 (53 + 16 * b9 + 2))))) M) := by
  refine Ct.of hl (by decide) (Nat.le_of_ble_eq_true rfl) rfl ?_
  intro κ e1 e2 hnL hRm X F hlt
  subst e1 e2
  refine g_aload_n X dX4_countClauses_0 rfl 0 rfl ?_
  refine g_iload_n X dX4_countClauses_1 rfl 1 rfl ?_
  refine g_iconst (v := 1) X dX4_countClauses_2 (by decide) ?_
  refine g_callV_rd (As := [.int (nI b9), .int 1]) (ci := 4) (v := some (.int (u.2.1 1 (53 + 16 * b9 + 1)))) X dX4_countClauses_3 (c_X4_of κ.l hl κ.Γ M a u hR b9 1 (by omega) (by omega)) k1263 k1265 kp25 k5 k1266 rfl (MRep.obj hR) ⟨rfl, by decide, by decide, (show (parseMethodDescriptor yX4_of.desc).map (fun d => d.parameters.length) = some 2 by decide +kernel)⟩ rfl (Nat.le_of_ble_eq_true rfl) (by rw [hRm]; decide) (by rw [hRm]; exact ⟨Nat.le_of_ble_eq_true rfl, Nat.le_of_ble_eq_true rfl⟩) ?_
  refine g_callS_rd (As := [.int (u.2.1 1 (53 + 16 * b9 + 1))]) (v := some (.int (jbc (u.2.1 1 (53 + 16 * b9 + 1))))) X dX4_countClauses_6 (c_jbc κ.l hl κ.Γ M (u.2.1 1 (53 + 16 * b9 + 1))) k1191 k209 k19 k210 ⟨by decide, by decide, (show (parseMethodDescriptor yJ6_bitCount_0f7a4.desc).map (fun d => d.parameters.length) = some 1 by decide +kernel)⟩ rfl (Nat.le_of_ble_eq_true rfl) (by rw [hRm]; decide) (by rw [hRm]; exact ⟨Nat.le_of_ble_eq_true rfl, Nat.le_of_ble_eq_true rfl⟩) ?_
  refine g_aload_n X dX4_countClauses_9 rfl 0 rfl ?_
  refine g_iload_n X dX4_countClauses_10 rfl 1 rfl ?_
  refine g_iconst (v := 2) X dX4_countClauses_11 (by decide) ?_
  refine g_callV_rd (As := [.int (nI b9), .int 2]) (ci := 4) (v := some (.int (u.2.1 1 (53 + 16 * b9 + 2)))) X dX4_countClauses_12 (c_X4_of κ.l hl κ.Γ M a u hR b9 2 (by omega) (by omega)) k1263 k1265 kp25 k5 k1266 rfl (MRep.obj hR) ⟨rfl, by decide, by decide, (show (parseMethodDescriptor yX4_of.desc).map (fun d => d.parameters.length) = some 2 by decide +kernel)⟩ rfl (Nat.le_of_ble_eq_true rfl) (by rw [hRm]; decide) (by rw [hRm]; exact ⟨Nat.le_of_ble_eq_true rfl, Nat.le_of_ble_eq_true rfl⟩) ?_
  refine g_callS_rd (As := [.int (u.2.1 1 (53 + 16 * b9 + 2))]) (v := some (.int (jbc (u.2.1 1 (53 + 16 * b9 + 2))))) X dX4_countClauses_15 (c_jbc κ.l hl κ.Γ M (u.2.1 1 (53 + 16 * b9 + 2))) k1191 k209 k19 k210 ⟨by decide, by decide, (show (parseMethodDescriptor yJ6_bitCount_0f7a4.desc).map (fun d => d.parameters.length) = some 1 by decide +kernel)⟩ rfl (Nat.le_of_ble_eq_true rfl) (by rw [hRm]; decide) (by rw [hRm]; exact ⟨Nat.le_of_ble_eq_true rfl, Nat.le_of_ble_eq_true rfl⟩) ?_
  refine g_iadd X dX4_countClauses_18 ?_
  exact g_iret X F dX4_countClauses_19 (by omega) (by omega) ⟨rfl, rfl⟩
set_option maxRecDepth 100000 in
set_option maxHeartbeats 4000000 in
theorem c_X4_isPending (l : Launch) (hl : l.stackTraces = false) (Γ : Gm) (M : Hp) (a : Nat → Nat) (u : HV) (hR : MRep Γ a u M) (b9 : Nat) (x : Int32) (hb : b9 < 8) : Ct l Γ yX4_isPending cX4_isPending 3 (some .boolean) 1 0 0 [.ref (a 0), .int (nI b9), .int (x)] M (Rd (some (.int (bI (btw x 0 (u.2.1 1 (53 + 16 * b9 + 7) - 1))))) M) := by
  refine Ct.of hl (by decide) (Nat.le_of_ble_eq_true rfl) rfl ?_
  intro κ e1 e2 hnL hRm X F hlt
  subst e1 e2
  refine g_iload_n X dX4_isPending_0 rfl 2 rfl ?_
  refine g_iconst (v := 0) X dX4_isPending_1 (by decide) ?_
  refine g_aload_n X dX4_isPending_2 rfl 0 rfl ?_
  refine g_iload_n X dX4_isPending_3 rfl 1 rfl ?_
  refine g_bipush (v := 7) X dX4_isPending_4 (by decide) ?_
  refine g_callV_rd (As := [.int (nI b9), .int 7]) (ci := 4) (v := some (.int (u.2.1 1 (53 + 16 * b9 + 7)))) X dX4_isPending_6 (c_X4_of κ.l hl κ.Γ M a u hR b9 7 (by omega) (by omega)) k1263 k1265 kp25 k5 k1266 rfl (MRep.obj hR) ⟨rfl, by decide, by decide, (show (parseMethodDescriptor yX4_of.desc).map (fun d => d.parameters.length) = some 2 by decide +kernel)⟩ rfl (Nat.le_of_ble_eq_true rfl) (by rw [hRm]; decide) (by rw [hRm]; exact ⟨Nat.le_of_ble_eq_true rfl, Nat.le_of_ble_eq_true rfl⟩) ?_
  refine g_iconst (v := 1) X dX4_isPending_9 (by decide) ?_
  refine g_isub X dX4_isPending_10 ?_
  refine g_callS_rd (As := [.int x, .int 0, .int ((u.2.1 1 (53 + 16 * b9 + 7)) - 1)]) (v := some (.int (bI (btw x 0 ((u.2.1 1 (53 + 16 * b9 + 7)) - 1))))) X dX4_isPending_11 (c_X4_isBetween κ.l hl κ.Γ M x 0 ((u.2.1 1 (53 + 16 * b9 + 7)) - 1)) k1161 k1162 k5 k1163 ⟨by decide, by decide, (show (parseMethodDescriptor yX4_isBetween.desc).map (fun d => d.parameters.length) = some 3 by decide +kernel)⟩ rfl (Nat.le_of_ble_eq_true rfl) (by rw [hRm]; decide) (by rw [hRm]; exact ⟨Nat.le_of_ble_eq_true rfl, Nat.le_of_ble_eq_true rfl⟩) ?_
  exact g_zret X F dX4_isPending_14 (by omega) (by omega) (bI_nar _) ⟨rfl, rfl⟩
