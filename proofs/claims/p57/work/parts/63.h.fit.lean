set_option maxRecDepth 100000 in
set_option maxHeartbeats 4000000 in
theorem c_L_isFit (l : Launch) (hl : l.stackTraces = false) (Γ : Gm) (M : Hp) (A : Nat → Nat) (w : PV) (hB : BRep Γ A w M) (hJ : J w) : Ct l Γ yL_isFit cL_isFit 3 (some .boolean) 8 81000 486000 [.ref (A 313)] M (LwP Γ A M (fun v w' => v = some (.int 1) ∧ J w' ∧ KQ w w')) := by
  refine Ct.of hl (by decide) (Nat.le_of_ble_eq_true rfl) rfl ?_
  intro κ e1 e2 hnL hRm X F hlt
  subst e1 e2
  obtain ⟨m, n, u, q⟩ := hJ.hs
  have en : (w.1 0).1 3 = nI n := q.2.2.1.1
  obtain ⟨hm, hn⟩ := q.1
  refine g_aload_n X dL_isFit_0 rfl 0 rfl ?_
  refine g_cS X dL_isFit_1 (As := [.ref (A 313)]) (A := A) (c_L_areMembers' κ.l hl κ.Γ M A w hB hJ) (Fr.rf : Fr A 315 M M) k5128 k5129 k0 k5130 ⟨by decide, by decide, (show (parseMethodDescriptor yL_areMembers.desc).map (fun d => d.parameters.length) = some 1 by decide +kernel)⟩ rfl (Nat.le_of_ble_eq_true rfl) (by rw [hRm]; decide) (by rw [hRm]; exact ⟨by (show _ ≤ 81000); omega, by (show _ ≤ 486000); omega⟩) (fun v9 w9 M1 h9 hB hF => ?_)
  obtain ⟨rfl, e9w⟩ := h9
  rw [e9w] at hB
  refine g_if_eq (tgt := 18) X dL_isFit_4 (by decide) (fun c1 => absurd c1 (by decide)) (fun c1 => ?_)
  refine g_aload_n X dL_isFit_7 rfl 0 rfl ?_
  refine g_cS X dL_isFit_8 (As := [.ref (A 313)]) (A := A) (c_L_areBills κ.l hl κ.Γ M1 A w hB hJ) hF k5099 k5100 k0 k5101 ⟨by decide, by decide, (show (parseMethodDescriptor yL_areBills.desc).map (fun d => d.parameters.length) = some 1 by decide +kernel)⟩ rfl (Nat.le_of_ble_eq_true rfl) (by rw [hRm]; decide) (by rw [hRm]; exact ⟨by (show _ ≤ 81000); omega, by (show _ ≤ 486000); omega⟩) (fun v9 w9 M1 h9 hB hF => ?_)
  obtain ⟨rfl, Z2, rfl, hJZ2⟩ := h9
  refine g_if_eq (tgt := 18) X dL_isFit_11 (by decide) (fun c3 => absurd c3 (by decide)) (fun c3 => ?_)
  refine g_iconst (v := 1) X dL_isFit_14 (by decide) ?_
  refine g_goto (tgt := 19) X dL_isFit_15 (by decide) ?_
  refine g_istore_n (L' := [(1, .int 1), (0, .ref (A 313))]) X dL_isFit_19 rfl (by rw [hnL]; decide) rfl ?_
  refine g_iconst (v := 0) X dL_isFit_20 (by decide) ?_
  refine g_istore_n (L' := [(2, .int 0), (1, .int 1), (0, .ref (A 313))]) X dL_isFit_21 rfl (by rw [hnL]; decide) rfl ?_
  have lp4 : ∀ (n9 : Nat) (j : Nat) (v : PV) (M1 : Hp), n - j < n9 → j ≤ n → J v → KQ w v → BRep κ.Γ A v M1 → Fr A 315 M M1 → G κ M1 (2200 + 9803 * j) (13200 + 58818 * j) [(2, .int (nI j)), (1, .int 1), (0, .ref (A 313))] 22 [] := by
    intro n9
    induction n9 with
    | zero => intro j v M1 h9; exact absurd h9 (Nat.not_lt_zero _)
    | succ n9 ih22 =>
      intro j v M1 hn9_22 hj hJv hKv hB hF
      refine g_iload_n X dL_isFit_22 rfl 1 rfl ?_
      refine g_if_eq (tgt := 62) X dL_isFit_23 (by decide) (fun c5 => absurd c5 (by decide)) (fun c5 => ?_)
      refine g_iload_n X dL_isFit_26 rfl 0 rfl ?_
      refine g_aload_n X dL_isFit_27 rfl 2 rfl ?_
      refine g_cV X dL_isFit_28 (As := []) (A := A) (w := v) (w' := v) (v := .int ((v.1 0).1 3)) (c_X3_billCount κ.l hl κ.Γ M1 A v hB hJv.inv) hB hF k5003 k227 k228 k1 k229 ⟨rfl, by decide, by decide, (show (parseMethodDescriptor yX3_billCount.desc).map (fun d => d.parameters.length) = some 0 by decide +kernel)⟩ rfl (Nat.le_of_ble_eq_true rfl) (by rw [hRm]; decide) (by rw [hRm]; exact ⟨by (show _ ≤ 81000); omega, by (show _ ≤ 486000); omega⟩) (fun M1 hB hF => ?_)
      refine g_icmp_ge (tgt := 62) X dL_isFit_31 (by decide) (fun c6 => ?_) (fun c6 => ?_)
      · refine g_iload_n X dL_isFit_62 rfl 1 rfl ?_
        exact g_zret X F dL_isFit_63 (by omega) (by omega) rfl ⟨_, _, rfl, ⟨rfl, hJv, hKv⟩, hB, hF⟩
      · have hlj : j < n := lt_N (by omega) (by omega) (show (v.1 0).1 3 = nI n by rw [hKv.1]; exact en) c6
        have hgb : hasB (w.1 0) (nI j) := gB_N en hn hlj
        refine g_aload_n X dL_isFit_34 rfl 2 rfl ?_
        refine g_iload_n X dL_isFit_35 rfl 0 rfl ?_
        have hbR : hasB (v.1 0) (nI j) := by rw [hKv.1]; exact hgb
        refine g_cS X dL_isFit_36 (As := [.ref (A 313), .int (nI j)]) (A := A) (c_L_isRidden κ.l hl κ.Γ M1 A v hB hJv j (by omega) hbR) hF k5140 k5141 k0 k5142 ⟨by decide, by decide, (show (parseMethodDescriptor yL_isRidden.desc).map (fun d => d.parameters.length) = some 2 by decide +kernel)⟩ rfl (Nat.le_of_ble_eq_true rfl) (by rw [hRm]; decide) (by rw [hRm]; exact ⟨by (show _ ≤ 81000); omega, by (show _ ≤ 486000); omega⟩) (fun v9 vR M1 h9 hB hF => ?_)
        obtain ⟨rfl, hJR, hKR⟩ := h9
        have hKR := hKv.tr hKR
        refine g_if_eq (tgt := 54) X dL_isFit_39 (by decide) (fun c7 => absurd c7 (by decide)) (fun c7 => ?_)
        refine g_aload_n X dL_isFit_42 rfl 2 rfl ?_
        refine g_iload_n X dL_isFit_43 rfl 0 rfl ?_
        have hbD : hasB (vR.1 0) (nI j) := by rw [hKR.1]; exact hgb
        refine g_cS X dL_isFit_44 (As := [.ref (A 313), .int (nI j)]) (A := A) (c_L_isDecided κ.l hl κ.Γ M1 A vR hB hJR j (by omega) hbD) hF k5146 k5147 k0 k5148 ⟨by decide, by decide, (show (parseMethodDescriptor yL_isDecided.desc).map (fun d => d.parameters.length) = some 2 by decide +kernel)⟩ rfl (Nat.le_of_ble_eq_true rfl) (by rw [hRm]; decide) (by rw [hRm]; exact ⟨by (show _ ≤ 81000); omega, by (show _ ≤ 486000); omega⟩) (fun v9 vD M1 h9 hB hF => ?_)
        obtain ⟨rfl, hJD, hKD⟩ := h9
        have hKD := hKR.tr hKD
        refine g_if_eq (tgt := 54) X dL_isFit_47 (by decide) (fun c8 => absurd c8 (by decide)) (fun c8 => ?_)
        refine g_iconst (v := 1) X dL_isFit_50 (by decide) ?_
        refine g_goto (tgt := 55) X dL_isFit_51 (by decide) ?_
        refine g_istore_n (L' := [(1, .int 1), (2, .int (nI j)), (0, .ref (A 313))]) X dL_isFit_55 rfl (by rw [hnL]; decide) rfl ?_
        refine g_iinc (k := 1) (v := (nI (j + 1))) (L' := [(2, .int (nI (j + 1))), (1, .int 1), (0, .ref (A 313))]) X dL_isFit_56 rfl (nI_1 _) (by rw [hnL]; decide) rfl ?_
        refine g_goto (tgt := 22) X dL_isFit_59 (by decide) ?_
        refine g_locs [0, 1, 2] (L' := [(2, .int (nI (j + 1))), (1, .int 1), (0, .ref (A 313))]) rfl ?_
        refine g_widen (k := 2200 + 9803 * (j + 1)) (n := 13200 + 58818 * (j + 1)) (by omega) (by omega) ?_
        exact ih22 (j + 1) vD M1 (by omega) (by omega) hJD hKD hB hF
  refine g_locs [0, 1, 2] (L' := [(2, .int 0), (1, .int 1), (0, .ref (A 313))]) rfl ?_
  refine g_widen (k := 2200 + 9803 * 0) (n := 13200 + 58818 * 0) (by omega) (by omega) ?_
  exact lp4 _ 0 (wL w Z2) M1 (Nat.lt_succ_self _) (Nat.zero_le _) hJZ2 (⟨rfl, rfl, rfl⟩) hB hF
