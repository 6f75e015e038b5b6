/-! the machine's count is this one -/
theorem jbc_pc {n : Nat} (hn : n < 4294967296) : jbc (nI n) = nI (pc32 n) := by
  have hA : nI n - (ush (nI n) 1 &&& 1431655765) = nI (wsA n) := by
    have e : ush (nI n) 1 = nI (n / 2) := n_ush (k := 1) hn (by decide)
    have e2 : nI (n / 2) &&& 1431655765 = nI (n / 2 &&& 1431655765) := n_and _ 1431655765
    rw [e, e2, n_sub (Nat.le_trans Nat.and_le_left (Nat.div_le_self n 2))]
    rfl
  have lA9 : wsA n < 4294967296 := Nat.lt_of_le_of_lt (wsA_le n) hn
  have hB : (nI (wsA n) &&& 858993459) + (ush (nI (wsA n)) 2 &&& 858993459) = nI (wsB (wsA n)) := by
    have e : ush (nI (wsA n)) 2 = nI (wsA n / 4) := n_ush (k := 2) lA9 (by decide)
    have e2 : nI (wsA n / 4) &&& 858993459 = nI (wsA n / 4 &&& 858993459) := n_and _ 858993459
    have e3 : nI (wsA n) &&& 858993459 = nI (wsA n &&& 858993459) := n_and _ 858993459
    rw [e, e2, e3, nI_add]
    rfl
  have lB9 := wsB_le (wsA n)
  obtain ⟨b, hb⟩ : ∃ b, b = wsB (wsA n) := ⟨_, rfl⟩
  rw [← hb] at hB lB9
  have hC : (nI b + ush (nI b) 4) &&& 252645135 = nI (wsC b) := by
    have e : ush (nI b) 4 = nI (b / 16) := n_ush (k := 4) (by omega) (by decide)
    rw [e, nI_add]
    exact n_and _ 252645135
  have lC9 : wsC b ≤ 252645135 := Nat.and_le_right
  have hD : nI (wsC b) + ush (nI (wsC b)) 8 = nI (wsD (wsC b)) := by
    have e : ush (nI (wsC b)) 8 = nI (wsC b / 256) := n_ush (k := 8) (by omega) (by decide)
    rw [e, nI_add]
    rfl
  have lD9 : wsD (wsC b) < 4294967296 := by unfold wsD; omega
  have hE : nI (wsD (wsC b)) + ush (nI (wsD (wsC b))) 16 = nI (wsE (wsD (wsC b))) := by
    have e : ush (nI (wsD (wsC b))) 16 = nI (wsD (wsC b) / 65536) := n_ush (k := 16) lD9 (by decide)
    rw [e, nI_add]
    rfl
  unfold jbc
  dsimp only
  rw [hA, hB, hC, hD, hE]
  show nI (wsE (wsD (wsC b))) &&& nI 63 = _
  rw [n_and]
  have e6 : wsE (wsD (wsC b)) &&& 63 = wsE (wsD (wsC b)) % 64 := Nat.and_two_pow_sub_one_eq_mod _ 6
  rw [e6, hb]
  rfl
theorem jbl_pc {n : Nat} (hn : n < 18446744073709551616) (hb6 : wlB (wlA n) < 18446744073709551616) (hc6 : wlC (wlB (wlA n)) < 1152921504606846976) : jbl (lN n) = nI (pc64 n) := by
  have hA : lN n - (lus (lN n) 1 &&& 6148914691236517205) = lN (wlA n) := by
    have e : lus (lN n) 1 = lN (n / 2) := n_lus (k := 1) hn (by decide)
    have e2 : lN (n / 2) &&& 6148914691236517205 = lN (n / 2 &&& 6148914691236517205) := ln_and _ 6148914691236517205
    rw [e, e2, lN_sub (Nat.le_trans Nat.and_le_left (Nat.div_le_self n 2))]
    rfl
  have lA9 : wlA n < 18446744073709551616 := Nat.lt_of_le_of_lt (Nat.sub_le _ _) hn
  have hB : (lN (wlA n) &&& 3689348814741910323) + (lus (lN (wlA n)) 2 &&& 3689348814741910323) = lN (wlB (wlA n)) := by
    have e : lus (lN (wlA n)) 2 = lN (wlA n / 4) := n_lus (k := 2) lA9 (by decide)
    have e2 : lN (wlA n / 4) &&& 3689348814741910323 = lN (wlA n / 4 &&& 3689348814741910323) := ln_and _ 3689348814741910323
    have e3 : lN (wlA n) &&& 3689348814741910323 = lN (wlA n &&& 3689348814741910323) := ln_and _ 3689348814741910323
    rw [e, e2, e3, lN_add]
    rfl
  obtain ⟨b, hb⟩ : ∃ b, b = wlB (wlA n) := ⟨_, rfl⟩
  rw [← hb] at hB hb6 hc6
  have hC : (lN b + lus (lN b) 4) &&& 1085102592571150095 = lN (wlC b) := by
    have e : lus (lN b) 4 = lN (b / 16) := n_lus (k := 4) hb6 (by decide)
    rw [e, lN_add]
    exact ln_and _ 1085102592571150095
  have hD : lN (wlC b) + lus (lN (wlC b)) 8 = lN (wsD (wlC b)) := by
    have e : lus (lN (wlC b)) 8 = lN (wlC b / 256) := n_lus (k := 8) (Nat.lt_trans hc6 (by decide)) (by decide)
    rw [e, lN_add]
    rfl
  have lD9 : wsD (wlC b) < 2305843009213693952 := by unfold wsD; omega
  have hE : lN (wsD (wlC b)) + lus (lN (wsD (wlC b))) 16 = lN (wsE (wsD (wlC b))) := by
    have e : lus (lN (wsD (wlC b))) 16 = lN (wsD (wlC b) / 65536) := n_lus (k := 16) (Nat.lt_trans lD9 (by decide)) (by decide)
    rw [e, lN_add]
    rfl
  have lE9 : wsE (wsD (wlC b)) < 4611686018427387904 := by unfold wsE; omega
  have hF : lN (wsE (wsD (wlC b))) + lus (lN (wsE (wsD (wlC b)))) 32 = lN (wlF (wsE (wsD (wlC b)))) := by
    have e : lus (lN (wsE (wsD (wlC b)))) 32 = lN (wsE (wsD (wlC b)) / 4294967296) := n_lus (k := 32) (Nat.lt_trans lE9 (by decide)) (by decide)
    rw [e, lN_add]
    rfl
  unfold jbl
  dsimp only
  rw [hA, hB, hC, hD, hE, hF]
  show (lN (wlF (wsE (wsD (wlC b))))).toInt32 &&& nI 127 = _
  rw [lN_i, n_and]
  have e6 : wlF (wsE (wsD (wlC b))) &&& 127 = wlF (wsE (wsD (wlC b))) % 128 := Nat.and_two_pow_sub_one_eq_mod _ 7
  rw [e6, hb]
  rfl
theorem cl64_n {H L : Nat} (hL : L < 4294967296) : cl64 (nI H) (nI L) = lN (4294967296 * H + L) := l_ext fun i hi => by
  rw [cl64_bl _ _ hi, n_bl _ hi, show 4294967296 * H + L = 2 ^ 32 * H + L from rfl, Nat.testBit_two_pow_mul_add _ hL]
  by_cases c : i < 32
  · rw [if_pos c, if_pos c, n_bt _ c]
  · rw [if_neg c, if_neg c, n_bt _ (by omega)]
theorem of32 (x : Int32) : ∃ n, n < 4294967296 ∧ x = nI n := ⟨x.toBitVec.toNat, x.toBitVec.isLt, Int32.toBitVec_inj.mp (by show _ = BitVec.ofNat 32 _; simp)⟩
theorem jbl_cl (hi lo : Int32) : jbl (cl64 hi lo) = jbc hi + jbc lo := by
  obtain ⟨H, hH, rfl⟩ := of32 hi
  obtain ⟨L, hL, rfl⟩ := of32 lo
  rw [cl64_n hL, jbc_pc hH, jbc_pc hL, nI_add, ← pc_sum H L hL]
  have e1 : wlB (wlA (4294967296 * H + L)) = 4294967296 * wsB (wsA H) + wsB (wsA L) := by rw [t_A hL, t_B (Nat.lt_of_le_of_lt (wsA_le L) hL)]
  have b1 := wsB_le (wsA H)
  have b2 := wsB_le (wsA L)
  refine jbl_pc (by omega) (by rw [e1]; omega) ?_
  rw [e1, t_C (wsB_16 _) b2]
  have c1 : wsC (wsB (wsA H)) ≤ 252645135 := Nat.and_le_right
  have c2 : wsC (wsB (wsA L)) ≤ 252645135 := Nat.and_le_right
  omega
theorem i_add_comm (x y : Int32) : x + y = y + x := Int32.add_comm x y
theorem sc_clauseCount {w : PV} {u : HV} (h : Rel w u) : SC_clauseCount Rel w u := fun x =>
  sm_b1 h x (f := fun k => jbl ((w.1 0).2.2 k)) (g := fun k => jbc (u.2.1 1 (53 + 16 * k + 1)) + jbc (u.2.1 1 (53 + 16 * k + 2))) fun m n q k hk => by
    show jbl ((w.1 0).2.2 k) = _
    rw [(q.bl hk).2.1, jbl_cl, i_add_comm]
