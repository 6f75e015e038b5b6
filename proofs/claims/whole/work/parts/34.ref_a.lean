set_option maxRecDepth 100000 in
set_option maxHeartbeats 4000000 in
theorem c_X4_isBetween (l : Launch) (hl : l.stackTraces = false) (Γ : Gm) (M : Hp) (v : Int32) (lo : Int32) (hi : Int32)  : Ct l Γ yX4_isBetween cX4_isBetween 3 (some .boolean) 0 0 0 [.int v, .int lo, .int hi] M (Rd (some (.int (bI (btw v lo hi)))) M) := by
  refine Ct.of hl (by decide) (Nat.le_of_ble_eq_true rfl) rfl ?_
  intro κ e1 e2 hnL hRm X F hlt
  subst e1 e2
  refine g_iload_n X dX4_isBetween_0 rfl 0 rfl ?_
  refine g_iload_n X dX4_isBetween_1 rfl 1 rfl ?_
  refine g_icmp_lt (tgt := 14) X dX4_isBetween_2 (by decide) (fun c1 => ?_) (fun c1 => ?_)
  · refine g_iconst (v := 0) X dX4_isBetween_14 (by decide) ?_
    exact g_zret X F dX4_isBetween_15 (by omega) (by omega) rfl ⟨by rw [bI_f (by first | exact c1 | exact (fun h => h c1) | (simp only [btw, isDig, hasM, hasB, hasP, isC, isW, inS, hQuor, cN, hRust, hAhd, Int32.lt_iff_toInt_lt, Int32.le_iff_toInt_le, Int32.reduceToInt] at c1 ⊢; omega) | (simp_all [btw, isDig, hasM, hasB, hasP, isC, isW, inS, hQuor, cN, hRust, hAhd]; done))], rfl⟩
  · refine g_iload_n X dX4_isBetween_5 rfl 0 rfl ?_
    refine g_iload_n X dX4_isBetween_6 rfl 2 rfl ?_
    refine g_icmp_gt (tgt := 14) X dX4_isBetween_7 (by decide) (fun c2 => ?_) (fun c2 => ?_)
    · refine g_iconst (v := 0) X dX4_isBetween_14 (by decide) ?_
      exact g_zret X F dX4_isBetween_15 (by omega) (by omega) rfl ⟨by rw [bI_f (by first | exact c2 | exact (fun h => h c2) | exact c1 | exact (fun h => h c1) | (simp only [btw, isDig, hasM, hasB, hasP, isC, isW, inS, hQuor, cN, hRust, hAhd, Int32.lt_iff_toInt_lt, Int32.le_iff_toInt_le, Int32.reduceToInt] at c1 c2 ⊢; omega) | (simp_all [btw, isDig, hasM, hasB, hasP, isC, isW, inS, hQuor, cN, hRust, hAhd]; done))], rfl⟩
    · refine g_iconst (v := 1) X dX4_isBetween_10 (by decide) ?_
      refine g_goto (tgt := 15) X dX4_isBetween_11 (by decide) ?_
      exact g_zret X F dX4_isBetween_15 (by omega) (by omega) rfl ⟨by rw [bI_t (by first | exact c2 | exact (fun h => h c2) | exact c1 | exact (fun h => h c1) | (simp only [btw, isDig, hasM, hasB, hasP, isC, isW, inS, hQuor, cN, hRust, hAhd, Int32.lt_iff_toInt_lt, Int32.le_iff_toInt_le, Int32.reduceToInt] at c1 c2 ⊢; omega) | (simp_all [btw, isDig, hasM, hasB, hasP, isC, isW, inS, hQuor, cN, hRust, hAhd]; done))], rfl⟩
set_option maxRecDepth 100000 in
set_option maxHeartbeats 4000000 in
theorem c_X4_isWard (l : Launch) (hl : l.stackTraces = false) (Γ : Gm) (M : Hp) (x : Int32)  : Ct l Γ yX4_isWard cX4_isWard 1 (some .boolean) 1 0 0 [.int x] M (Rd (some (.int (bI (btw x 0 3)))) M) := by
  refine Ct.of hl (by decide) (Nat.le_of_ble_eq_true rfl) rfl ?_
  intro κ e1 e2 hnL hRm X F hlt
  subst e1 e2
  refine g_iload_n X dX4_isWard_0 rfl 0 rfl ?_
  refine g_iconst (v := 0) X dX4_isWard_1 (by decide) ?_
  refine g_iconst (v := 3) X dX4_isWard_2 (by decide) ?_
  refine g_callS_rd (As := [.int x, .int 0, .int 3]) (v := some (.int (bI (btw x 0 3)))) X dX4_isWard_3 (c_X4_isBetween κ.l hl κ.Γ M x 0 3) k1161 k1162 k5 k1163 ⟨by decide, by decide, (show (parseMethodDescriptor yX4_isBetween.desc).map (fun d => d.parameters.length) = some 3 by decide +kernel)⟩ rfl (Nat.le_of_ble_eq_true rfl) (by rw [hRm]; decide) (by rw [hRm]; exact ⟨Nat.le_of_ble_eq_true rfl, Nat.le_of_ble_eq_true rfl⟩) ?_
  exact g_zret X F dX4_isWard_6 (by omega) (by omega) (bI_nar _) ⟨rfl, rfl⟩
set_option maxRecDepth 100000 in
set_option maxHeartbeats 4000000 in
theorem c_X4_isClause (l : Launch) (hl : l.stackTraces = false) (Γ : Gm) (M : Hp) (x : Int32)  : Ct l Γ yX4_isClause cX4_isClause 1 (some .boolean) 1 0 0 [.int x] M (Rd (some (.int (bI (btw x 0 63)))) M) := by
  refine Ct.of hl (by decide) (Nat.le_of_ble_eq_true rfl) rfl ?_
  intro κ e1 e2 hnL hRm X F hlt
  subst e1 e2
  refine g_iload_n X dX4_isClause_0 rfl 0 rfl ?_
  refine g_iconst (v := 0) X dX4_isClause_1 (by decide) ?_
  refine g_bipush (v := 63) X dX4_isClause_2 (by decide) ?_
  refine g_callS_rd (As := [.int x, .int 0, .int 63]) (v := some (.int (bI (btw x 0 63)))) X dX4_isClause_4 (c_X4_isBetween κ.l hl κ.Γ M x 0 63) k1161 k1162 k5 k1163 ⟨by decide, by decide, (show (parseMethodDescriptor yX4_isBetween.desc).map (fun d => d.parameters.length) = some 3 by decide +kernel)⟩ rfl (Nat.le_of_ble_eq_true rfl) (by rw [hRm]; decide) (by rw [hRm]; exact ⟨Nat.le_of_ble_eq_true rfl, Nat.le_of_ble_eq_true rfl⟩) ?_
  exact g_zret X F dX4_isClause_7 (by omega) (by omega) (bI_nar _) ⟨rfl, rfl⟩
