set_option maxRecDepth 100000 in
set_option maxHeartbeats 4000000 in
theorem c_L_areBills (l : Launch) (hl : l.stackTraces = false) (Γ : Gm) (M : Hp) (A : Nat → Nat) (w : PV) (hB : BRep Γ A w M) (hJ : J w) : Ct l Γ yL_areBills cL_areBills 9 (some .boolean) 6 1600 9600 [.ref (A 313)] M (LwP Γ A M (fun v w' => v = some (.int 1) ∧ ∃ Z, w' = wL w Z ∧ J (wL w Z))) := by
  refine Ct.of hl (by decide) (Nat.le_of_ble_eq_true rfl) rfl ?_
  intro κ e1 e2 hnL hRm X F hlt
  subst e1 e2
  obtain ⟨m, n, u, q⟩ := hJ.hs
  have en : (w.1 0).1 3 = nI n := q.2.2.1.1
  have hn := q.1.2
  refine g_iconst (v := 0) X dL_areBills_0 (by decide) ?_
  refine g_istore_n (L' := [(1, .int 0), (0, .ref (A 313))]) X dL_areBills_1 rfl (by rw [hnL]; decide) rfl ?_
  refine g_iconst (v := 0) X dL_areBills_2 (by decide) ?_
  refine g_istore_n (L' := [(2, .int 0), (1, .int 0), (0, .ref (A 313))]) X dL_areBills_3 rfl (by rw [hnL]; decide) rfl ?_
  refine g_aload_n X dL_areBills_4 rfl 2 rfl ?_
  refine g_aload_n X dL_areBills_5 rfl 2 rfl ?_
  refine g_cV X dL_areBills_6 (As := []) (A := A) (w := w) (w' := w) (v := .int ((w.1 0).1 3)) (c_X3_billCount κ.l hl κ.Γ M A w hB hJ.inv) hB (Fr.rf : Fr A 315 M M) k5003 k227 k228 k1 k229 ⟨rfl, by decide, by decide, (show (parseMethodDescriptor yX3_billCount.desc).map (fun d => d.parameters.length) = some 0 by decide +kernel)⟩ rfl (Nat.le_of_ble_eq_true rfl) (by rw [hRm]; decide) (by rw [hRm]; exact ⟨by (show _ ≤ 1600); omega, by (show _ ≤ 9600); omega⟩) (fun M1 hB hF => ?_)
  refine g_cW X dL_areBills_9 (As := [.ref (A 313), .int ((w.1 0).1 3)]) (A := A) (w' := w) (v := .int (wI (-1000) (pBillAtRank w ((w.1 0).1 3)).1)) (c_L_billAtRank' κ.l hl κ.Γ M1 A w hB hJ.inv ((w.1 0).1 3) (j_billAtRank hJ ((w.1 0).1 3))) hF k5102 k645 k0 k5103 ⟨by decide, by decide, (show (parseMethodDescriptor yL_billAtRank.desc).map (fun d => d.parameters.length) = some 2 by decide +kernel)⟩ rfl (Nat.le_of_ble_eq_true rfl) (by rw [hRm]; decide) (by rw [hRm]; exact ⟨by (show _ ≤ 1600); omega, by (show _ ≤ 9600); omega⟩) (fun M1 hB hF => ?_)
  refine g_sipush (v := (-1000)) X dL_areBills_12 (by decide) ?_
  refine g_icmp_ne (tgt := 33) X dL_areBills_15 (by decide) (fun c1 => absurd c1 (pN (wI_n (fun z => Int32.lt_irrefl z.2)))) (fun c1 => ?_)
  refine g_aload_n X dL_areBills_18 rfl 2 rfl ?_
  refine g_iconst (v := (-1)) X dL_areBills_19 (by decide) ?_
  refine g_cW X dL_areBills_20 (As := [.ref (A 313), .int (-1)]) (A := A) (w' := w) (v := .int (wI (-1000) (pBillAtRank w (-1)).1)) (c_L_billAtRank' κ.l hl κ.Γ M1 A w hB hJ.inv (-1) (j_billAtRank hJ (-1))) hF k5102 k645 k0 k5103 ⟨by decide, by decide, (show (parseMethodDescriptor yL_billAtRank.desc).map (fun d => d.parameters.length) = some 2 by decide +kernel)⟩ rfl (Nat.le_of_ble_eq_true rfl) (by rw [hRm]; decide) (by rw [hRm]; exact ⟨by (show _ ≤ 1600); omega, by (show _ ≤ 9600); omega⟩) (fun M1 hB hF => ?_)
  refine g_sipush (v := (-1000)) X dL_areBills_23 (by decide) ?_
  refine g_icmp_ne (tgt := 33) X dL_areBills_26 (by decide) (fun c2 => absurd c2 (pN (wI_n (fun z => absurd z.1 (by decide))))) (fun c2 => ?_)
  refine g_iconst (v := 1) X dL_areBills_29 (by decide) ?_
  refine g_goto (tgt := 34) X dL_areBills_30 (by decide) ?_
  refine g_istore_n (L' := [(3, .int 1), (2, .int 0), (1, .int 0), (0, .ref (A 313))]) X dL_areBills_34 rfl (by rw [hnL]; decide) rfl ?_
  refine g_iconst (v := 0) X dL_areBills_35 (by decide) ?_
  refine g_istore (L' := [(4, .int 0), (3, .int 1), (2, .int 0), (1, .int 0), (0, .ref (A 313))]) X dL_areBills_36 (by rw [hnL]; decide) rfl ?_
  have lp3 : ∀ (n9 : Nat) (j : Nat) (Z : HV) (M1 : Hp), n - j < n9 → j ≤ n → J (wL w Z) → BRep κ.Γ A (wL w Z) M1 → Fr A 315 M M1 → G κ M1 (20 + 140 * j) (120 + 840 * j) [(4, .int (nI j)), (3, .int 1), (2, .int (cntS ((w.1 0).2.1 3) 2 j)), (1, .int (cntS ((w.1 0).2.1 3) 1 j)), (0, .ref (A 313))] 38 [] := by
    intro n9
    induction n9 with
    | zero => intro j Z M1 h9; exact absurd h9 (Nat.not_lt_zero _)
    | succ n9 ih38 =>
      intro j Z M1 hn9_38 hj hJ hB hF
      refine g_iload_n X dL_areBills_38 rfl 1 rfl ?_
      refine g_if_eq (tgt := 107) X dL_areBills_39 (by decide) (fun c4 => absurd c4 (by decide)) (fun c4 => ?_)
      refine g_iload X dL_areBills_42 0 rfl ?_
      refine g_aload_n X dL_areBills_44 rfl 4 rfl ?_
      refine g_cV X dL_areBills_45 (As := []) (A := A) (w := (wL w Z)) (w' := (wL w Z)) (v := .int ((w.1 0).1 3)) (c_X3_billCount κ.l hl κ.Γ M1 A (wL w Z) hB hJ.inv) hB hF k5003 k227 k228 k1 k229 ⟨rfl, by decide, by decide, (show (parseMethodDescriptor yX3_billCount.desc).map (fun d => d.parameters.length) = some 0 by decide +kernel)⟩ rfl (Nat.le_of_ble_eq_true rfl) (by rw [hRm]; decide) (by rw [hRm]; exact ⟨by (show _ ≤ 1600); omega, by (show _ ≤ 9600); omega⟩) (fun M1 hB hF => ?_)
      refine g_icmp_ge (tgt := 107) X dL_areBills_48 (by decide) (fun c5 => ?_) (fun c5 => ?_)
      · have hge : j = n := Nat.le_antisymm hj (ge_N (by omega) (by omega) en c5)
        subst hge
        refine g_iconst (v := 1) X dL_areBills_107 (by decide) ?_
        refine g_istore (L' := [(4, .int 1), (3, .int 1), (2, .int (cntS ((w.1 0).2.1 3) 2 j)), (1, .int (cntS ((w.1 0).2.1 3) 1 j)), (0, .ref (A 313))]) X dL_areBills_108 (by rw [hnL]; decide) rfl ?_
        have lp6 : ∀ (n9 : Nat) (r : Nat) (M1 : Hp), j + 1 - r < n9 → 1 ≤ r → r ≤ j + 1 → BRep κ.Γ A (wL w Z) M1 → Fr A 315 M M1 → G κ M1 (1200 + 25 * r) (7200 + 150 * r) [(4, .int (nI r)), (3, .int 1), (2, .int (cntS ((w.1 0).2.1 3) 2 j)), (1, .int (cntS ((w.1 0).2.1 3) 1 j)), (0, .ref (A 313))] 110 [] := by
          intro n9
          induction n9 with
          | zero => intro r M1 h9; exact absurd h9 (Nat.not_lt_zero _)
          | succ n9 ih110 =>
            intro r M1 hn9_110 hr1 hr2 hB hF
            refine g_iload_n X dL_areBills_110 rfl 1 rfl ?_
            refine g_if_eq (tgt := 210) X dL_areBills_111 (by decide) (fun c7 => absurd c7 (by decide)) (fun c7 => ?_)
            refine g_iload X dL_areBills_114 0 rfl ?_
            refine g_aload_n X dL_areBills_116 rfl 4 rfl ?_
            refine g_cV X dL_areBills_117 (As := []) (A := A) (w := (wL w Z)) (w' := (wL w Z)) (v := .int ((w.1 0).1 3)) (c_X3_billCount κ.l hl κ.Γ M1 A (wL w Z) hB hJ.inv) hB hF k5003 k227 k228 k1 k229 ⟨rfl, by decide, by decide, (show (parseMethodDescriptor yX3_billCount.desc).map (fun d => d.parameters.length) = some 0 by decide +kernel)⟩ rfl (Nat.le_of_ble_eq_true rfl) (by rw [hRm]; decide) (by rw [hRm]; exact ⟨by (show _ ≤ 1600); omega, by (show _ ≤ 9600); omega⟩) (fun M1 hB hF => ?_)
            refine g_icmp_ge (tgt := 210) X dL_areBills_120 (by decide) (fun c8 => ?_) (fun c8 => ?_)
            · refine g_iload_n X dL_areBills_210 rfl 1 rfl ?_
              refine g_if_eq (tgt := 234) X dL_areBills_211 (by decide) (fun c9 => absurd c9 (by decide)) (fun c9 => ?_)
              refine g_aload_n X dL_areBills_214 rfl 4 rfl ?_
              refine g_cV X dL_areBills_215 (As := []) (A := A) (w := (wL w Z)) (w' := (wL w Z)) (v := .int (cntS ((w.1 0).2.1 3) 1 (cN ((w.1 0).1 3)))) (c_X3_passedCount κ.l hl κ.Γ M1 A (wL w Z) hB hJ.inv) hB hF k5123 k231 k232 k1 k233 ⟨rfl, by decide, by decide, (show (parseMethodDescriptor yX3_passedCount.desc).map (fun d => d.parameters.length) = some 0 by decide +kernel)⟩ rfl (Nat.le_of_ble_eq_true rfl) (by rw [hRm]; decide) (by rw [hRm]; exact ⟨by (show _ ≤ 1600); omega, by (show _ ≤ 9600); omega⟩) (fun M1 hB hF => ?_)
              refine g_iload_n X dL_areBills_218 rfl 3 rfl ?_
              refine g_icmp_ne (tgt := 234) X dL_areBills_219 (by decide) (fun c10 => absurd c10 (pN (by rw [en, cN_nI (by omega)]))) (fun c10 => ?_)
              refine g_aload_n X dL_areBills_222 rfl 4 rfl ?_
              refine g_cV X dL_areBills_223 (As := []) (A := A) (w := (wL w Z)) (w' := (wL w Z)) (v := .int (cntS ((w.1 0).2.1 3) 2 (cN ((w.1 0).1 3)))) (c_X3_fallenCount κ.l hl κ.Γ M1 A (wL w Z) hB hJ.inv) hB hF k5124 k239 k240 k1 k241 ⟨rfl, by decide, by decide, (show (parseMethodDescriptor yX3_fallenCount.desc).map (fun d => d.parameters.length) = some 0 by decide +kernel)⟩ rfl (Nat.le_of_ble_eq_true rfl) (by rw [hRm]; decide) (by rw [hRm]; exact ⟨by (show _ ≤ 1600); omega, by (show _ ≤ 9600); omega⟩) (fun M1 hB hF => ?_)
              refine g_iload_n X dL_areBills_226 rfl 2 rfl ?_
              refine g_icmp_ne (tgt := 234) X dL_areBills_227 (by decide) (fun c11 => absurd c11 (pN (by rw [en, cN_nI (by omega)]))) (fun c11 => ?_)
              refine g_iconst (v := 1) X dL_areBills_230 (by decide) ?_
              refine g_goto (tgt := 235) X dL_areBills_231 (by decide) ?_
              exact g_zret X F dL_areBills_235 (by omega) (by omega) rfl ⟨_, _, rfl, ⟨rfl, _, rfl, hJ⟩, hB, hF⟩
            · have hlr : r < j := lt_N (by omega) (by omega) en c8
              obtain ⟨x, y, hx, hy, ex, ey, hah⟩ := rk_at (w := wL w Z) q (r := r - 1) (by omega)
              have er1 : r - 1 + 1 = r := by omega
              rw [er1] at ey
              have hgx : hasB (w.1 0) (nI x) := gB_N en hn hx
              have hgy : hasB (w.1 0) (nI y) := gB_N en hn hy
              refine g_aload_n X dL_areBills_123 rfl 4 rfl ?_
              refine g_iload X dL_areBills_124 0 rfl ?_
              refine g_iconst (v := 1) X dL_areBills_126 (by decide) ?_
              refine g_isub X dL_areBills_127 ?_
              refine g_lit (y := nI (r - 1)) (nI_sub1 hr1) ?_
              refine g_cW X dL_areBills_128 (As := [.ref (A 313), .int (nI (r - 1))]) (A := A) (w' := (wL w Z)) (v := .int (wI (-1000) (pBillAtRank (wL w Z) (nI (r - 1))).1)) (c_L_billAtRank' κ.l hl κ.Γ M1 A (wL w Z) hB hJ.inv (nI (r - 1)) (j_billAtRank hJ (nI (r - 1)))) hF k5102 k645 k0 k5103 ⟨by decide, by decide, (show (parseMethodDescriptor yL_billAtRank.desc).map (fun d => d.parameters.length) = some 2 by decide +kernel)⟩ rfl (Nat.le_of_ble_eq_true rfl) (by rw [hRm]; decide) (by rw [hRm]; exact ⟨by (show _ ≤ 1600); omega, by (show _ ≤ 9600); omega⟩) (fun M1 hB hF => ?_)
              refine g_lit (y := nI x) ex ?_
              refine g_istore (L' := [(5, .int (nI x)), (4, .int (nI r)), (3, .int 1), (2, .int (cntS ((w.1 0).2.1 3) 2 j)), (1, .int (cntS ((w.1 0).2.1 3) 1 j)), (0, .ref (A 313))]) X dL_areBills_131 (by rw [hnL]; decide) rfl ?_
              refine g_aload_n X dL_areBills_133 rfl 5 rfl ?_
              refine g_iload X dL_areBills_134 1 rfl ?_
              refine g_cW X dL_areBills_136 (As := [.ref (A 313), .int (nI r)]) (A := A) (w' := (wL w Z)) (v := .int (wI (-1000) (pBillAtRank (wL w Z) (nI r)).1)) (c_L_billAtRank' κ.l hl κ.Γ M1 A (wL w Z) hB hJ.inv (nI r) (j_billAtRank hJ (nI r))) hF k5102 k645 k0 k5103 ⟨by decide, by decide, (show (parseMethodDescriptor yL_billAtRank.desc).map (fun d => d.parameters.length) = some 2 by decide +kernel)⟩ rfl (Nat.le_of_ble_eq_true rfl) (by rw [hRm]; decide) (by rw [hRm]; exact ⟨by (show _ ≤ 1600); omega, by (show _ ≤ 9600); omega⟩) (fun M1 hB hF => ?_)
              refine g_lit (y := nI y) ey ?_
              refine g_istore (L' := [(6, .int (nI y)), (5, .int (nI x)), (4, .int (nI r)), (3, .int 1), (2, .int (cntS ((w.1 0).2.1 3) 2 j)), (1, .int (cntS ((w.1 0).2.1 3) 1 j)), (0, .ref (A 313))]) X dL_areBills_139 (by rw [hnL]; decide) rfl ?_
              refine g_aload_n X dL_areBills_141 rfl 6 rfl ?_
              refine g_iload X dL_areBills_142 1 rfl ?_
              refine g_cV X dL_areBills_144 (As := [.int (nI x)]) (A := A) (w := (wL w Z)) (w' := (wL w Z)) (v := .int ((w.1 0).2.1 4 (cN (nI x)))) (Ct.gy hgx (c_X3_readings κ.l hl κ.Γ M1 A (wL w Z) hB hJ.inv (nI x))) hB hF k5090 k607 k608 k1 k609 ⟨rfl, by decide, by decide, (show (parseMethodDescriptor yX3_readings.desc).map (fun d => d.parameters.length) = some 1 by decide +kernel)⟩ rfl (Nat.le_of_ble_eq_true rfl) (by rw [hRm]; decide) (by rw [hRm]; exact ⟨by (show _ ≤ 1600); omega, by (show _ ≤ 9600); omega⟩) (fun M1 hB hF => ?_)
              refine g_aload_n X dL_areBills_147 rfl 6 rfl ?_
              refine g_iload X dL_areBills_148 0 rfl ?_
              refine g_cV X dL_areBills_150 (As := [.int (nI y)]) (A := A) (w := (wL w Z)) (w' := (wL w Z)) (v := .int ((w.1 0).2.1 4 (cN (nI y)))) (Ct.gy hgy (c_X3_readings κ.l hl κ.Γ M1 A (wL w Z) hB hJ.inv (nI y))) hB hF k5090 k607 k608 k1 k609 ⟨rfl, by decide, by decide, (show (parseMethodDescriptor yX3_readings.desc).map (fun d => d.parameters.length) = some 1 by decide +kernel)⟩ rfl (Nat.le_of_ble_eq_true rfl) (by rw [hRm]; decide) (by rw [hRm]; exact ⟨by (show _ ≤ 1600); omega, by (show _ ≤ 9600); omega⟩) (fun M1 hB hF => ?_)
              refine g_isub X dL_areBills_153 ?_
              refine g_istore (L' := [(7, .int (((w.1 0).2.1 4 (cN (nI x))) - ((w.1 0).2.1 4 (cN (nI y))))), (6, .int (nI y)), (5, .int (nI x)), (4, .int (nI r)), (3, .int 1), (2, .int (cntS ((w.1 0).2.1 3) 2 j)), (1, .int (cntS ((w.1 0).2.1 3) 1 j)), (0, .ref (A 313))]) X dL_areBills_154 (by rw [hnL]; decide) rfl ?_
              refine g_aload_n X dL_areBills_156 rfl 7 rfl ?_
              refine g_iload X dL_areBills_157 1 rfl ?_
              refine g_cV X dL_areBills_159 (As := [.int (nI y)]) (A := A) (w := (wL w Z)) (w' := (wL w Z)) (v := .int (hRust (w.1 0) (cN (nI y)))) (Ct.gy hgy (c_X3_rust κ.l hl κ.Γ M1 A (wL w Z) hB hJ.inv (nI y))) hB hF k5119 k834 k835 k1 k836 ⟨rfl, by decide, by decide, (show (parseMethodDescriptor yX3_rust.desc).map (fun d => d.parameters.length) = some 1 by decide +kernel)⟩ rfl (Nat.le_of_ble_eq_true rfl) (by rw [hRm]; decide) (by rw [hRm]; exact ⟨by (show _ ≤ 1600); omega, by (show _ ≤ 9600); omega⟩) (fun M1 hB hF => ?_)
              refine g_aload_n X dL_areBills_162 rfl 7 rfl ?_
              refine g_iload X dL_areBills_163 2 rfl ?_
              refine g_cV X dL_areBills_165 (As := [.int (nI x)]) (A := A) (w := (wL w Z)) (w' := (wL w Z)) (v := .int (hRust (w.1 0) (cN (nI x)))) (Ct.gy hgx (c_X3_rust κ.l hl κ.Γ M1 A (wL w Z) hB hJ.inv (nI x))) hB hF k5119 k834 k835 k1 k836 ⟨rfl, by decide, by decide, (show (parseMethodDescriptor yX3_rust.desc).map (fun d => d.parameters.length) = some 1 by decide +kernel)⟩ rfl (Nat.le_of_ble_eq_true rfl) (by rw [hRm]; decide) (by rw [hRm]; exact ⟨by (show _ ≤ 1600); omega, by (show _ ≤ 9600); omega⟩) (fun M1 hB hF => ?_)
              refine g_isub X dL_areBills_168 ?_
              refine g_istore (L' := [(8, .int ((hRust (w.1 0) (cN (nI y))) - (hRust (w.1 0) (cN (nI x))))), (7, .int (((w.1 0).2.1 4 (cN (nI x))) - ((w.1 0).2.1 4 (cN (nI y))))), (6, .int (nI y)), (5, .int (nI x)), (4, .int (nI r)), (3, .int 1), (2, .int (cntS ((w.1 0).2.1 3) 2 j)), (1, .int (cntS ((w.1 0).2.1 3) 1 j)), (0, .ref (A 313))]) X dL_areBills_169 (by rw [hnL]; decide) rfl ?_
              have jn12 : ∀ M1 : Hp, BRep κ.Γ A (wL w Z) M1 → Fr A 315 M M1 → G κ M1 (1200 + 25 * r + 21) (7200 + 150 * r + 126) [(8, .int ((hRust (w.1 0) (cN (nI y))) - (hRust (w.1 0) (cN (nI x))))), (7, .int (((w.1 0).2.1 4 (cN (nI x))) - ((w.1 0).2.1 4 (cN (nI y))))), (6, .int (nI y)), (5, .int (nI x)), (4, .int (nI r)), (3, .int 1), (2, .int (cntS ((w.1 0).2.1 3) 2 j)), (1, .int (cntS ((w.1 0).2.1 3) 1 j)), (0, .ref (A 313))] 198 [] := by
                intro M1 hB hF
                refine g_iconst (v := 1) X dL_areBills_198 (by decide) ?_
                refine g_goto (tgt := 203) X dL_areBills_199 (by decide) ?_
                refine g_istore_n (L' := [(3, .int 1), (8, .int ((hRust (w.1 0) (cN (nI y))) - (hRust (w.1 0) (cN (nI x))))), (7, .int (((w.1 0).2.1 4 (cN (nI x))) - ((w.1 0).2.1 4 (cN (nI y))))), (6, .int (nI y)), (5, .int (nI x)), (4, .int (nI r)), (2, .int (cntS ((w.1 0).2.1 3) 2 j)), (1, .int (cntS ((w.1 0).2.1 3) 1 j)), (0, .ref (A 313))]) X dL_areBills_203 rfl (by rw [hnL]; decide) rfl ?_
                refine g_iinc (k := 5) (v := (nI (r + 1))) (L' := [(4, .int (nI (r + 1))), (3, .int 1), (8, .int ((hRust (w.1 0) (cN (nI y))) - (hRust (w.1 0) (cN (nI x))))), (7, .int (((w.1 0).2.1 4 (cN (nI x))) - ((w.1 0).2.1 4 (cN (nI y))))), (6, .int (nI y)), (5, .int (nI x)), (2, .int (cntS ((w.1 0).2.1 3) 2 j)), (1, .int (cntS ((w.1 0).2.1 3) 1 j)), (0, .ref (A 313))]) X dL_areBills_204 rfl (nI_1 _) (by rw [hnL]; decide) rfl ?_
                refine g_goto (tgt := 110) X dL_areBills_207 (by decide) ?_
                refine g_locs [0, 1, 6, 7, 8] (L' := [(4, .int (nI (r + 1))), (3, .int 1), (2, .int (cntS ((w.1 0).2.1 3) 2 j)), (1, .int (cntS ((w.1 0).2.1 3) 1 j)), (0, .ref (A 313))]) rfl ?_
                refine g_widen (k := 1200 + 25 * (r + 1)) (n := 7200 + 150 * (r + 1)) (by omega) (by omega) ?_
                exact ih110 (r + 1) M1 (by omega) (by omega) (by omega) hB hF
              have hord := ah_ord2 q (x := x) (y := y) (by omega) (by omega) hah
              rcases hord with o1 | ⟨o1, o2 | ⟨o2, o3⟩⟩
              · refine g_iload X dL_areBills_171 1 rfl ?_
                refine g_if_gt (tgt := 198) X dL_areBills_173 (by decide) (fun c13 => ?_) (fun c13 => absurd o1 c13)
                refine g_widen (k := 1200 + 25 * r + 21) (n := 7200 + 150 * r + 126) (by omega) (by omega) ?_
                exact jn12 M1 hB hF
              · refine g_iload X dL_areBills_171 1 rfl ?_
                refine g_if_gt (tgt := 198) X dL_areBills_173 (by decide) (fun c14 => absurd c14 (by rw [o1]; decide)) (fun c14 => ?_)
                refine g_iload X dL_areBills_176 1 rfl ?_
                refine g_if_ne (tgt := 202) X dL_areBills_178 (by decide) (fun c15 => absurd c15 (pN o1)) (fun c15 => ?_)
                refine g_iload X dL_areBills_181 0 rfl ?_
                refine g_if_gt (tgt := 198) X dL_areBills_183 (by decide) (fun c16 => ?_) (fun c16 => absurd o2 c16)
                refine g_widen (k := 1200 + 25 * r + 21) (n := 7200 + 150 * r + 126) (by omega) (by omega) ?_
                exact jn12 M1 hB hF
              · refine g_iload X dL_areBills_171 1 rfl ?_
                refine g_if_gt (tgt := 198) X dL_areBills_173 (by decide) (fun c17 => absurd c17 (by rw [o1]; decide)) (fun c17 => ?_)
                refine g_iload X dL_areBills_176 1 rfl ?_
                refine g_if_ne (tgt := 202) X dL_areBills_178 (by decide) (fun c18 => absurd c18 (pN o1)) (fun c18 => ?_)
                refine g_iload X dL_areBills_181 0 rfl ?_
                refine g_if_gt (tgt := 198) X dL_areBills_183 (by decide) (fun c19 => absurd c19 (by rw [o2]; decide)) (fun c19 => ?_)
                refine g_iload X dL_areBills_186 0 rfl ?_
                refine g_if_ne (tgt := 202) X dL_areBills_188 (by decide) (fun c20 => absurd c20 (pN o2)) (fun c20 => ?_)
                refine g_iload X dL_areBills_191 3 rfl ?_
                refine g_iload X dL_areBills_193 2 rfl ?_
                refine g_icmp_ge (tgt := 202) X dL_areBills_195 (by decide) (fun c21 => absurd c21 (Int32.not_le.mpr o3)) (fun c21 => ?_)
                refine g_widen (k := 1200 + 25 * r + 21) (n := 7200 + 150 * r + 126) (by omega) (by omega) ?_
                exact jn12 M1 hB hF
        refine g_locs [0, 1, 2, 3, 4] (L' := [(4, .int 1), (3, .int 1), (2, .int (cntS ((w.1 0).2.1 3) 2 j)), (1, .int (cntS ((w.1 0).2.1 3) 1 j)), (0, .ref (A 313))]) rfl ?_
        refine g_widen (k := 1200 + 25 * 1) (n := 7200 + 150 * 1) (by omega) (by omega) ?_
        exact lp6 _ 1 M1 (Nat.lt_succ_self _) (Nat.le_refl _) (by omega) hB hF
      · have hlj : j < n := lt_N (by omega) (by omega) en c5
        have hgb : hasB (w.1 0) (nI j) := gB_N en hn hlj
        have ecj : cN (nI j) = j := cN_nI (by omega)
        have hst : (w.1 0).2.1 3 (cN (nI j)) = 0 ∨ (w.1 0).2.1 3 (cN (nI j)) = 1 ∨ (w.1 0).2.1 3 (cN (nI j)) = 2 := by rw [ecj]; exact (q.bl (b := j) (by omega)).2.2.2.1
        have jn22 : ∀ M1 : Hp, BRep κ.Γ A (wL w Z) M1 → Fr A 315 M M1 → G κ M1 (20 + 140 * j + 6) (120 + 840 * j + 36) [(4, .int (nI j)), (3, .int 1), (2, .int (cntS ((w.1 0).2.1 3) 2 j)), (1, .int (cntS ((w.1 0).2.1 3) 1 j)), (0, .ref (A 313))] 67 [.int (cntS ((w.1 0).2.1 3) 1 (j + 1))] := by
          intro M1 hB hF
          refine g_istore_n (L' := [(1, .int (cntS ((w.1 0).2.1 3) 1 (j + 1))), (4, .int (nI j)), (3, .int 1), (2, .int (cntS ((w.1 0).2.1 3) 2 j)), (0, .ref (A 313))]) X dL_areBills_67 rfl (by rw [hnL]; decide) rfl ?_
          have jn23 : ∀ M1 : Hp, BRep κ.Γ A (wL w Z) M1 → Fr A 315 M M1 → G κ M1 (20 + 140 * j + 14) (120 + 840 * j + 84) [(1, .int (cntS ((w.1 0).2.1 3) 1 (j + 1))), (4, .int (nI j)), (3, .int 1), (2, .int (cntS ((w.1 0).2.1 3) 2 j)), (0, .ref (A 313))] 93 [.int (cntS ((w.1 0).2.1 3) 2 (j + 1))] := by
            intro M1 hB hF
            refine g_istore_n (L' := [(2, .int (cntS ((w.1 0).2.1 3) 2 (j + 1))), (1, .int (cntS ((w.1 0).2.1 3) 1 (j + 1))), (4, .int (nI j)), (3, .int 1), (0, .ref (A 313))]) X dL_areBills_93 rfl (by rw [hnL]; decide) rfl ?_
            refine g_aload_n X dL_areBills_94 rfl 4 rfl ?_
            refine g_iload X dL_areBills_95 2 rfl ?_
            refine g_cS X dL_areBills_97 (As := [.ref (A 313), .int (nI j)]) (A := A) (c_L_isBill κ.l hl κ.Γ M1 A (wL w Z) hB hJ j (by omega) hgb) hF k5105 k5106 k0 k5107 ⟨by decide, by decide, (show (parseMethodDescriptor yL_isBill.desc).map (fun d => d.parameters.length) = some 2 by decide +kernel)⟩ rfl (Nat.le_of_ble_eq_true rfl) (by rw [hRm]; decide) (by rw [hRm]; exact ⟨by (show _ ≤ 1600); omega, by (show _ ≤ 9600); omega⟩) (fun v9 w9 M1 h9 hB hF => ?_)
            obtain ⟨rfl, rfl⟩ := h9
            have hJ2 := j_line hJ hgb
            refine g_istore_n (L' := [(3, .int 1), (2, .int (cntS ((w.1 0).2.1 3) 2 (j + 1))), (1, .int (cntS ((w.1 0).2.1 3) 1 (j + 1))), (4, .int (nI j)), (0, .ref (A 313))]) X dL_areBills_100 rfl (by rw [hnL]; decide) rfl ?_
            refine g_iinc (k := 3) (v := (nI (j + 1))) (L' := [(4, .int (nI (j + 1))), (3, .int 1), (2, .int (cntS ((w.1 0).2.1 3) 2 (j + 1))), (1, .int (cntS ((w.1 0).2.1 3) 1 (j + 1))), (0, .ref (A 313))]) X dL_areBills_101 rfl (nI_1 _) (by rw [hnL]; decide) rfl ?_
            refine g_goto (tgt := 38) X dL_areBills_104 (by decide) ?_
            refine g_locs [0, 1, 2, 3, 4] (L' := [(4, .int (nI (j + 1))), (3, .int 1), (2, .int (cntS ((w.1 0).2.1 3) 2 (j + 1))), (1, .int (cntS ((w.1 0).2.1 3) 1 (j + 1))), (0, .ref (A 313))]) rfl ?_
            refine g_widen (k := 20 + 140 * (j + 1)) (n := 120 + 840 * (j + 1)) (by omega) (by omega) ?_
            exact ih38 (j + 1) (dL (w.1 0) Z (nI j)) M1 (by omega) (by omega) hJ2 hB hF
          refine g_iload_n X dL_areBills_68 rfl 3 rfl ?_
          refine g_aload_n X dL_areBills_69 rfl 4 rfl ?_
          refine g_iload X dL_areBills_70 1 rfl ?_
          refine g_cV X dL_areBills_72 (As := [.int (nI j)]) (A := A) (w := (wL w Z)) (w' := (wL w Z)) (v := .int (bI ((w.1 0).2.1 3 (cN (nI j)) = 1))) (Ct.gy hgb (c_X3_isPassed κ.l hl κ.Γ M1 A (wL w Z) hB hJ.inv (nI j))) hB hF k5093 k600 k601 k1 k602 ⟨rfl, by decide, by decide, (show (parseMethodDescriptor yX3_isPassed.desc).map (fun d => d.parameters.length) = some 1 by decide +kernel)⟩ rfl (Nat.le_of_ble_eq_true rfl) (by rw [hRm]; decide) (by rw [hRm]; exact ⟨by (show _ ≤ 1600); omega, by (show _ ≤ 9600); omega⟩) (fun M1 hB hF => ?_)
          refine g_ifb_ne (tgt := 91) X dL_areBills_75 (by decide) (fun c24 => ?_) (fun c24 => ?_)
          · refine g_iconst (v := 0) X dL_areBills_91 (by decide) ?_
            refine g_iadd X dL_areBills_92 ?_
            refine g_lit (y := cntS ((w.1 0).2.1 3) 2 (j + 1)) (cs_n ecj (fun z => absurd (c24.symm.trans z) (by decide))) ?_
            refine g_widen (k := 20 + 140 * j + 14) (n := 120 + 840 * j + 84) (by omega) (by omega) ?_
            exact jn23 M1 hB hF
          · refine g_aload_n X dL_areBills_78 rfl 4 rfl ?_
            refine g_iload X dL_areBills_79 1 rfl ?_
            refine g_cV X dL_areBills_81 (As := [.int (nI j)]) (A := A) (w := (wL w Z)) (w' := (wL w Z)) (v := .int (bI ((w.1 0).2.1 3 (cN (nI j)) = 0))) (Ct.gy hgb (c_X3_isOpen κ.l hl κ.Γ M1 A (wL w Z) hB hJ.inv (nI j))) hB hF k5092 k585 k586 k1 k587 ⟨rfl, by decide, by decide, (show (parseMethodDescriptor yX3_isOpen.desc).map (fun d => d.parameters.length) = some 1 by decide +kernel)⟩ rfl (Nat.le_of_ble_eq_true rfl) (by rw [hRm]; decide) (by rw [hRm]; exact ⟨by (show _ ≤ 1600); omega, by (show _ ≤ 9600); omega⟩) (fun M1 hB hF => ?_)
            refine g_ifb_ne (tgt := 91) X dL_areBills_84 (by decide) (fun c25 => ?_) (fun c25 => ?_)
            · refine g_iconst (v := 0) X dL_areBills_91 (by decide) ?_
              refine g_iadd X dL_areBills_92 ?_
              refine g_lit (y := cntS ((w.1 0).2.1 3) 2 (j + 1)) (cs_n ecj (fun z => absurd (c25.symm.trans z) (by decide))) ?_
              refine g_widen (k := 20 + 140 * j + 14) (n := 120 + 840 * j + 84) (by omega) (by omega) ?_
              exact jn23 M1 hB hF
            · refine g_iconst (v := 1) X dL_areBills_87 (by decide) ?_
              refine g_goto (tgt := 92) X dL_areBills_88 (by decide) ?_
              refine g_iadd X dL_areBills_92 ?_
              refine g_lit (y := cntS ((w.1 0).2.1 3) 2 (j + 1)) (cs_y ecj ((hst.resolve_left c25).resolve_left c24)) ?_
              refine g_widen (k := 20 + 140 * j + 14) (n := 120 + 840 * j + 84) (by omega) (by omega) ?_
              exact jn23 M1 hB hF
        refine g_iload_n X dL_areBills_51 rfl 3 rfl ?_
        refine g_aload_n X dL_areBills_52 rfl 4 rfl ?_
        refine g_iload X dL_areBills_53 0 rfl ?_
        refine g_cV X dL_areBills_55 (As := [.int (nI j)]) (A := A) (w := (wL w Z)) (w' := (wL w Z)) (v := .int (bI ((w.1 0).2.1 3 (cN (nI j)) = 1))) (Ct.gy hgb (c_X3_isPassed κ.l hl κ.Γ M1 A (wL w Z) hB hJ.inv (nI j))) hB hF k5093 k600 k601 k1 k602 ⟨rfl, by decide, by decide, (show (parseMethodDescriptor yX3_isPassed.desc).map (fun d => d.parameters.length) = some 1 by decide +kernel)⟩ rfl (Nat.le_of_ble_eq_true rfl) (by rw [hRm]; decide) (by rw [hRm]; exact ⟨by (show _ ≤ 1600); omega, by (show _ ≤ 9600); omega⟩) (fun M1 hB hF => ?_)
        refine g_ifb_eq (tgt := 65) X dL_areBills_58 (by decide) (fun c26 => ?_) (fun c26 => ?_)
        · refine g_iconst (v := 0) X dL_areBills_65 (by decide) ?_
          refine g_iadd X dL_areBills_66 ?_
          refine g_lit (y := cntS ((w.1 0).2.1 3) 1 (j + 1)) (cs_n ecj c26) ?_
          refine g_widen (k := 20 + 140 * j + 6) (n := 120 + 840 * j + 36) (by omega) (by omega) ?_
          exact jn22 M1 hB hF
        · refine g_iconst (v := 1) X dL_areBills_61 (by decide) ?_
          refine g_goto (tgt := 66) X dL_areBills_62 (by decide) ?_
          refine g_iadd X dL_areBills_66 ?_
          refine g_lit (y := cntS ((w.1 0).2.1 3) 1 (j + 1)) (cs_y ecj c26) ?_
          refine g_widen (k := 20 + 140 * j + 6) (n := 120 + 840 * j + 36) (by omega) (by omega) ?_
          exact jn22 M1 hB hF
  refine g_locs [0, 1, 2, 3, 4] (L' := [(4, .int 0), (3, .int 1), (2, .int 0), (1, .int 0), (0, .ref (A 313))]) rfl ?_
  refine g_widen (k := 20 + 140 * 0) (n := 120 + 840 * 0) (by omega) (by omega) ?_
  exact lp3 _ 0 w.2.2.2.1 M1 (Nat.lt_succ_self _) (Nat.zero_le _) hJ hB hF
