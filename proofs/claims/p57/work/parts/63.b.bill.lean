set_option maxRecDepth 100000 in
set_option maxHeartbeats 4000000 in
theorem c_L_isBill (l : Launch) (hl : l.stackTraces = false) (Γ : Gm) (M : Hp) (A : Nat → Nat) (w : PV) (hB : BRep Γ A w M) (hJ : J w) (k : Nat) (hk8 : k < 8) (hb : hasB (w.1 0) (nI k)) : Ct l Γ yL_isBill cL_isBill 11 (some .boolean) 5 120 720 [.ref (A 313), .int (nI k)] M (LwP Γ A M (fun v w' => v = some (.int 1) ∧ w' = wL w (dL (w.1 0) w.2.2.2.1 (nI k)))) := by
  refine Ct.of hl (by decide) (Nat.le_of_ble_eq_true rfl) rfl ?_
  intro κ e1 e2 hnL hRm X F hlt
  subst e1 e2
  obtain ⟨m, n, u, q⟩ := hJ.hs
  have ec : cN (nI k) = k := cN_nI (by omega)
  obtain ⟨-, -, ⟨p, hp, ep, -⟩, hst, ⟨g, hg, eg, hg0⟩, ⟨d, hd, ed, hd0⟩, -, -⟩ := q.bl hk8
  have hx := hJ.x0.2.1 k hk8
  have er : hRust (w.1 0) (cN (nI k)) = nI (d / 60) := by (show (w.1 0).2.1 5 (cN (nI k)) / 60 = _); rw [ec, ed]; exact nI_div (b := 60) (by omega) (by decide)
  have hr3 : (w.1 0).2.1 3 (cN (nI k)) = 1 ↔ (w.1 0).2.1 4 (cN (nI k)) = 3 := by rw [ec]; exact rd3 hx hst (fun z => by rw [eg]; exact n3_ne g (hg0 z))
  obtain ⟨jl, hj1, hj2, hj3, ejl⟩ := ll_all (h := w.1 0) (L := w.2.2.2.1) (b := nI k) (r := d / 60) (by omega) er
  refine g_aload_n X dL_isBill_0 rfl 0 rfl ?_
  refine g_iload_n X dL_isBill_1 rfl 1 rfl ?_
  refine g_cV X dL_isBill_2 (As := [.int (nI k)]) (A := A) (w := w) (w' := w) (v := .long ((w.1 0).2.2 (cN (nI k)))) (Ct.gy hb (c_X3_clauses κ.l hl κ.Γ M A w hB hJ.inv (nI k))) hB (Fr.rf : Fr A 315 M M) k5089 k614 k615 k1 k616 ⟨rfl, by decide, by decide, (show (parseMethodDescriptor yX3_clauses.desc).map (fun d => d.parameters.length) = some 1 by decide +kernel)⟩ rfl (Nat.le_of_ble_eq_true rfl) (by rw [hRm]; decide) (by rw [hRm]; exact ⟨by (show _ ≤ 120); omega, by (show _ ≤ 720); omega⟩) (fun M1 hB hF => ?_)
  refine g_lstore_n (L' := [(2, .long ((w.1 0).2.2 (cN (nI k)))), (0, .ref (A 313)), (1, .int (nI k))]) X dL_isBill_5 rfl (by rw [hnL]; decide) rfl ?_
  refine g_iconst (v := 0) X dL_isBill_6 (by decide) ?_
  refine g_istore (L' := [(4, .int 0), (2, .long ((w.1 0).2.2 (cN (nI k)))), (0, .ref (A 313)), (1, .int (nI k))]) X dL_isBill_7 (by rw [hnL]; decide) rfl ?_
  refine g_iconst (v := 0) X dL_isBill_9 (by decide) ?_
  refine g_istore (L' := [(5, .int 0), (4, .int 0), (2, .long ((w.1 0).2.2 (cN (nI k)))), (0, .ref (A 313)), (1, .int (nI k))]) X dL_isBill_10 (by rw [hnL]; decide) rfl ?_
  refine g_iconst (v := 0) X dL_isBill_12 (by decide) ?_
  refine g_istore (L' := [(6, .int 0), (5, .int 0), (4, .int 0), (2, .long ((w.1 0).2.2 (cN (nI k)))), (0, .ref (A 313)), (1, .int (nI k))]) X dL_isBill_13 (by rw [hnL]; decide) rfl ?_
  have lp1 : ∀ (n9 : Nat) (i : Nat), 64 - i < n9 → i ≤ 64 → G κ M1 (3) (18) [(6, .int (nI i)), (5, .int (runL ((w.1 0).2.2 (cN (nI k))) i)), (4, .int (runM ((w.1 0).2.2 (cN (nI k))) i)), (2, .long ((w.1 0).2.2 (cN (nI k)))), (1, .int (nI k)), (0, .ref (A 313))] 15 [] := by
    intro n9
    induction n9 with
    | zero => intro i h9; exact absurd h9 (Nat.not_lt_zero _)
    | succ n9 ih15 =>
      intro i hn9_15 hi
      refine g_iload X dL_isBill_15 0 rfl ?_
      refine g_bipush (v := 64) X dL_isBill_17 (by decide) ?_
      refine g_icmp_ge (tgt := 58) X dL_isBill_19 (by decide) (fun c2 => ?_) (fun c2 => ?_)
      · have hge : i = 64 := Nat.le_antisymm hi (ge_N (a := 64) (by decide) (by omega) rfl c2)
        subst hge
        refine g_aload_n X dL_isBill_58 rfl 5 rfl ?_
        refine g_iload_n X dL_isBill_59 rfl 4 rfl ?_
        refine g_cV X dL_isBill_60 (As := [.int (nI k)]) (A := A) (w := w) (w' := w) (v := .int (bI ((w.1 0).2.1 3 (cN (nI k)) = 0))) (Ct.gy hb (c_X3_isOpen κ.l hl κ.Γ M1 A w hB hJ.inv (nI k))) hB hF k5092 k585 k586 k1 k587 ⟨rfl, by decide, by decide, (show (parseMethodDescriptor yX3_isOpen.desc).map (fun d => d.parameters.length) = some 1 by decide +kernel)⟩ rfl (Nat.le_of_ble_eq_true rfl) (by rw [hRm]; decide) (by rw [hRm]; exact ⟨by (show _ ≤ 120); omega, by (show _ ≤ 720); omega⟩) (fun M1 hB hF => ?_)
        refine g_istore (L' := [(6, .int (bI ((w.1 0).2.1 3 (cN (nI k)) = 0))), (5, .int (runL ((w.1 0).2.2 (cN (nI k))) 64)), (4, .int (runM ((w.1 0).2.2 (cN (nI k))) 64)), (2, .long ((w.1 0).2.2 (cN (nI k)))), (1, .int (nI k)), (0, .ref (A 313))]) X dL_isBill_63 (by rw [hnL]; decide) rfl ?_
        refine g_aload_n X dL_isBill_65 rfl 5 rfl ?_
        refine g_iload_n X dL_isBill_66 rfl 4 rfl ?_
        refine g_cV X dL_isBill_67 (As := [.int (nI k)]) (A := A) (w := w) (w' := w) (v := .int (hW (w.1 0) ((w.1 0).2.1 6 (cN (nI k))))) (Ct.gy hb (c_X3_weightFor κ.l hl κ.Γ M1 A w hB hJ.inv (nI k))) hB hF k5094 k696 k697 k1 k698 ⟨rfl, by decide, by decide, (show (parseMethodDescriptor yX3_weightFor.desc).map (fun d => d.parameters.length) = some 1 by decide +kernel)⟩ rfl (Nat.le_of_ble_eq_true rfl) (by rw [hRm]; decide) (by rw [hRm]; exact ⟨by (show _ ≤ 120); omega, by (show _ ≤ 720); omega⟩) (fun M1 hB hF => ?_)
        refine g_istore (L' := [(7, .int (hW (w.1 0) ((w.1 0).2.1 6 (cN (nI k))))), (6, .int (bI ((w.1 0).2.1 3 (cN (nI k)) = 0))), (5, .int (runL ((w.1 0).2.2 (cN (nI k))) 64)), (4, .int (runM ((w.1 0).2.2 (cN (nI k))) 64)), (2, .long ((w.1 0).2.2 (cN (nI k)))), (1, .int (nI k)), (0, .ref (A 313))]) X dL_isBill_70 (by rw [hnL]; decide) rfl ?_
        refine g_aload_n X dL_isBill_72 rfl 6 rfl ?_
        refine g_iload_n X dL_isBill_73 rfl 5 rfl ?_
        refine g_cV X dL_isBill_74 (As := [.int (nI k)]) (A := A) (w := w) (w' := w) (v := .int (hW (w.1 0) ((w.1 0).2.1 7 (cN (nI k))))) (Ct.gy hb (c_X3_weightAgainst κ.l hl κ.Γ M1 A w hB hJ.inv (nI k))) hB hF k5095 k710 k711 k1 k712 ⟨rfl, by decide, by decide, (show (parseMethodDescriptor yX3_weightAgainst.desc).map (fun d => d.parameters.length) = some 1 by decide +kernel)⟩ rfl (Nat.le_of_ble_eq_true rfl) (by rw [hRm]; decide) (by rw [hRm]; exact ⟨by (show _ ≤ 120); omega, by (show _ ≤ 720); omega⟩) (fun M1 hB hF => ?_)
        refine g_istore (L' := [(8, .int (hW (w.1 0) ((w.1 0).2.1 7 (cN (nI k))))), (7, .int (hW (w.1 0) ((w.1 0).2.1 6 (cN (nI k))))), (6, .int (bI ((w.1 0).2.1 3 (cN (nI k)) = 0))), (5, .int (runL ((w.1 0).2.2 (cN (nI k))) 64)), (4, .int (runM ((w.1 0).2.2 (cN (nI k))) 64)), (2, .long ((w.1 0).2.2 (cN (nI k)))), (1, .int (nI k)), (0, .ref (A 313))]) X dL_isBill_77 (by rw [hnL]; decide) rfl ?_
        have jn3 : ∀ M1 : Hp, BRep κ.Γ A w M1 → Fr A 315 M M1 → G κ M1 (12) (72) [(8, .int (hW (w.1 0) ((w.1 0).2.1 7 (cN (nI k))))), (7, .int (hW (w.1 0) ((w.1 0).2.1 6 (cN (nI k))))), (6, .int (bI ((w.1 0).2.1 3 (cN (nI k)) = 0))), (5, .int (runL ((w.1 0).2.2 (cN (nI k))) 64)), (4, .int (runM ((w.1 0).2.2 (cN (nI k))) 64)), (2, .long ((w.1 0).2.2 (cN (nI k)))), (1, .int (nI k)), (0, .ref (A 313))] 106 [.int (wI (-1000) (pShareBits w (nI k)).1)] := by
          intro M1 hB hF
          refine g_istore (L' := [(9, .int (wI (-1000) (pShareBits w (nI k)).1)), (8, .int (hW (w.1 0) ((w.1 0).2.1 7 (cN (nI k))))), (7, .int (hW (w.1 0) ((w.1 0).2.1 6 (cN (nI k))))), (6, .int (bI ((w.1 0).2.1 3 (cN (nI k)) = 0))), (5, .int (runL ((w.1 0).2.2 (cN (nI k))) 64)), (4, .int (runM ((w.1 0).2.2 (cN (nI k))) 64)), (2, .long ((w.1 0).2.2 (cN (nI k)))), (1, .int (nI k)), (0, .ref (A 313))]) X dL_isBill_106 (by rw [hnL]; decide) rfl ?_
          refine g_aload_n X dL_isBill_108 rfl 8 rfl ?_
          refine g_iload_n X dL_isBill_109 rfl 7 rfl ?_
          refine g_cV X dL_isBill_110 (As := [.int (nI k)]) (A := A) (w := w) (w' := w) (v := .int (jbl ((w.1 0).2.2 (cN (nI k))))) (Ct.gy hb (c_X3_clauseCount κ.l hl κ.Γ M1 A w hB hJ.inv (nI k))) hB hF k5110 k621 k622 k1 k623 ⟨rfl, by decide, by decide, (show (parseMethodDescriptor yX3_clauseCount.desc).map (fun d => d.parameters.length) = some 1 by decide +kernel)⟩ rfl (Nat.le_of_ble_eq_true rfl) (by rw [hRm]; decide) (by rw [hRm]; exact ⟨by (show _ ≤ 120); omega, by (show _ ≤ 720); omega⟩) (fun M1 hB hF => ?_)
          refine g_lload_n X dL_isBill_113 rfl 6 rfl ?_
          refine g_callS_rd (As := [.long ((w.1 0).2.2 (cN (nI k)))]) (v := some (.int (jbl ((w.1 0).2.2 (cN (nI k)))))) X dL_isBill_114 (c_jbl κ.l hl κ.Γ M1 ((w.1 0).2.2 (cN (nI k)))) k5111 k625 k20 k626 ⟨by decide, by decide, (show (parseMethodDescriptor yJ13_bitCount_95d88.desc).map (fun d => d.parameters.length) = some 1 by decide +kernel)⟩ rfl (Nat.le_of_ble_eq_true rfl) (by rw [hRm]; decide) (by rw [hRm]; exact ⟨by (show _ ≤ 120); omega, by (show _ ≤ 720); omega⟩) ?_
          refine g_icmp_ne (tgt := 180) X dL_isBill_117 (by decide) (fun c4 => absurd c4 (pN rfl)) (fun c4 => ?_)
          refine g_aload_n X dL_isBill_120 rfl 8 rfl ?_
          refine g_iload_n X dL_isBill_121 rfl 7 rfl ?_
          refine g_cV X dL_isBill_122 (As := [.int (nI k)]) (A := A) (w := w) (w' := w) (v := .int (runM ((w.1 0).2.2 (cN (nI k))) 64)) (Ct.gy hb (c_X3_longestRun κ.l hl κ.Γ M1 A w hB hJ.inv (nI k))) hB hF k5112 k634 k635 k1 k636 ⟨rfl, by decide, by decide, (show (parseMethodDescriptor yX3_longestRun.desc).map (fun d => d.parameters.length) = some 1 by decide +kernel)⟩ rfl (Nat.le_of_ble_eq_true rfl) (by rw [hRm]; decide) (by rw [hRm]; exact ⟨by (show _ ≤ 120); omega, by (show _ ≤ 720); omega⟩) (fun M1 hB hF => ?_)
          refine g_iload X dL_isBill_125 5 rfl ?_
          refine g_icmp_ne (tgt := 180) X dL_isBill_127 (by decide) (fun c5 => absurd c5 (pN rfl)) (fun c5 => ?_)
          refine g_aload_n X dL_isBill_130 rfl 8 rfl ?_
          refine g_iload_n X dL_isBill_131 rfl 7 rfl ?_
          refine g_cV X dL_isBill_132 (As := [.int (nI k)]) (A := A) (w := w) (w' := w) (v := .int (runF ((w.1 0).2.2 (cN (nI k))) 64 0)) (Ct.gy hb (c_X3_longestRunByShift κ.l hl κ.Γ M1 A w hB hJ.inv (nI k))) hB hF k5113 k641 k642 k1 k643 ⟨rfl, by decide, by decide, (show (parseMethodDescriptor yX3_longestRunByShift.desc).map (fun d => d.parameters.length) = some 1 by decide +kernel)⟩ rfl (Nat.le_of_ble_eq_true rfl) (by rw [hRm]; decide) (by rw [hRm]; exact ⟨by (show _ ≤ 120); omega, by (show _ ≤ 720); omega⟩) (fun M1 hB hF => ?_)
          refine g_iload X dL_isBill_135 5 rfl ?_
          refine g_icmp_ne (tgt := 180) X dL_isBill_137 (by decide) (fun c6 => absurd c6 (pN (runFM _))) (fun c6 => ?_)
          refine g_aload_n X dL_isBill_140 rfl 8 rfl ?_
          refine g_iload_n X dL_isBill_141 rfl 7 rfl ?_
          refine g_cV X dL_isBill_142 (As := [.int (nI k)]) (A := A) (w := w) (w' := w) (v := .int (wDig ((w.1 0).2.1 2) ((w.1 0).2.1 6 (cN (nI k))) 3)) (Ct.gy hb (c_X3_weightForByDigits κ.l hl κ.Γ M1 A w hB hJ.inv (nI k))) hB hF k5114 k703 k704 k1 k705 ⟨rfl, by decide, by decide, (show (parseMethodDescriptor yX3_weightForByDigits.desc).map (fun d => d.parameters.length) = some 1 by decide +kernel)⟩ rfl (Nat.le_of_ble_eq_true rfl) (by rw [hRm]; decide) (by rw [hRm]; exact ⟨by (show _ ≤ 120); omega, by (show _ ≤ 720); omega⟩) (fun M1 hB hF => ?_)
          refine g_iload X dL_isBill_145 2 rfl ?_
          refine g_icmp_ne (tgt := 180) X dL_isBill_147 (by decide) (fun c7 => absurd c7 (pN (q.dig _))) (fun c7 => ?_)
          refine g_aload_n X dL_isBill_150 rfl 8 rfl ?_
          refine g_iload_n X dL_isBill_151 rfl 7 rfl ?_
          refine g_cW X dL_isBill_152 (As := [.ref (A 313), .int (nI k)]) (A := A) (w' := w) (v := .int (wI (-1000) (pShareBits w (nI k)).1)) (c_L_shareBits' κ.l hl κ.Γ M1 A w hB hJ.inv (nI k) (hJ.sh (nI k)) (j_shareBits hJ (nI k))) hF k5115 k1057 k0 k5116 ⟨by decide, by decide, (show (parseMethodDescriptor yL_shareBits.desc).map (fun d => d.parameters.length) = some 2 by decide +kernel)⟩ rfl (Nat.le_of_ble_eq_true rfl) (by rw [hRm]; decide) (by rw [hRm]; exact ⟨by (show _ ≤ 120); omega, by (show _ ≤ 720); omega⟩) (fun M1 hB hF => ?_)
          refine g_iload X dL_isBill_155 0 rfl ?_
          refine g_icmp_ne (tgt := 180) X dL_isBill_157 (by decide) (fun c8 => absurd c8 (pN rfl)) (fun c8 => ?_)
          refine g_aload_n X dL_isBill_160 rfl 8 rfl ?_
          refine g_iload_n X dL_isBill_161 rfl 7 rfl ?_
          refine g_cV X dL_isBill_162 (As := [.int (nI k)]) (A := A) (w := w) (w' := w) (v := .int (hRust (w.1 0) (cN (nI k)))) (Ct.gy hb (c_X3_rust κ.l hl κ.Γ M1 A w hB hJ.inv (nI k))) hB hF k5119 k834 k835 k1 k836 ⟨rfl, by decide, by decide, (show (parseMethodDescriptor yX3_rust.desc).map (fun d => d.parameters.length) = some 1 by decide +kernel)⟩ rfl (Nat.le_of_ble_eq_true rfl) (by rw [hRm]; decide) (by rw [hRm]; exact ⟨by (show _ ≤ 120); omega, by (show _ ≤ 720); omega⟩) (fun M1 hB hF => ?_)
          refine g_aload_n X dL_isBill_165 rfl 8 rfl ?_
          refine g_iload_n X dL_isBill_166 rfl 7 rfl ?_
          refine g_cV X dL_isBill_167 (As := [.int (nI k)]) (A := A) (w := w) (w' := w) (v := .int ((w.1 0).2.1 5 (cN (nI k)))) (Ct.gy hb (c_X3_delay κ.l hl κ.Γ M1 A w hB hJ.inv (nI k))) hB hF k5091 k827 k828 k1 k829 ⟨rfl, by decide, by decide, (show (parseMethodDescriptor yX3_delay.desc).map (fun d => d.parameters.length) = some 1 by decide +kernel)⟩ rfl (Nat.le_of_ble_eq_true rfl) (by rw [hRm]; decide) (by rw [hRm]; exact ⟨by (show _ ≤ 120); omega, by (show _ ≤ 720); omega⟩) (fun M1 hB hF => ?_)
          refine g_bipush (v := 60) X dL_isBill_170 (by decide) ?_
          refine g_idiv X dL_isBill_172 (by decide) ?_
          refine g_icmp_ne (tgt := 180) X dL_isBill_173 (by decide) (fun c9 => absurd c9 (pN rfl)) (fun c9 => ?_)
          refine g_iconst (v := 1) X dL_isBill_176 (by decide) ?_
          refine g_goto (tgt := 181) X dL_isBill_177 (by decide) ?_
          refine g_istore (L' := [(10, .int 1), (9, .int (wI (-1000) (pShareBits w (nI k)).1)), (8, .int (hW (w.1 0) ((w.1 0).2.1 7 (cN (nI k))))), (7, .int (hW (w.1 0) ((w.1 0).2.1 6 (cN (nI k))))), (6, .int (bI ((w.1 0).2.1 3 (cN (nI k)) = 0))), (5, .int (runL ((w.1 0).2.2 (cN (nI k))) 64)), (4, .int (runM ((w.1 0).2.2 (cN (nI k))) 64)), (2, .long ((w.1 0).2.2 (cN (nI k)))), (1, .int (nI k)), (0, .ref (A 313))]) X dL_isBill_181 (by rw [hnL]; decide) rfl ?_
          refine g_iload X dL_isBill_183 0 rfl ?_
          refine g_if_eq (tgt := 256) X dL_isBill_185 (by decide) (fun c10 => absurd c10 (by decide)) (fun c10 => ?_)
          have jn11 : ∀ M1 : Hp, BRep κ.Γ A w M1 → Fr A 315 M M1 → G κ M1 (80) (480) [(10, .int 1), (9, .int (wI (-1000) (pShareBits w (nI k)).1)), (8, .int (hW (w.1 0) ((w.1 0).2.1 7 (cN (nI k))))), (7, .int (hW (w.1 0) ((w.1 0).2.1 6 (cN (nI k))))), (6, .int (bI ((w.1 0).2.1 3 (cN (nI k)) = 0))), (5, .int (runL ((w.1 0).2.2 (cN (nI k))) 64)), (4, .int (runM ((w.1 0).2.2 (cN (nI k))) 64)), (2, .long ((w.1 0).2.2 (cN (nI k)))), (1, .int (nI k)), (0, .ref (A 313))] 259 [] := by
            intro M1 hB hF
            refine g_iload X dL_isBill_259 0 rfl ?_
            refine g_if_eq (tgt := 319) X dL_isBill_261 (by decide) (fun c12 => absurd c12 (by decide)) (fun c12 => ?_)
            refine g_aload_n X dL_isBill_264 rfl 9 rfl ?_
            refine g_iload_n X dL_isBill_265 rfl 8 rfl ?_
            refine g_aload_n X dL_isBill_266 rfl 9 rfl ?_
            refine g_iload_n X dL_isBill_267 rfl 8 rfl ?_
            refine g_cV X dL_isBill_268 (As := [.int (nI k)]) (A := A) (w := w) (w' := w) (v := .int ((w.1 0).2.1 8 (cN (nI k)))) (Ct.gy hb (c_X3_pendingCount κ.l hl κ.Γ M1 A w hB hJ.inv (nI k))) hB hF k5096 k786 k787 k1 k788 ⟨rfl, by decide, by decide, (show (parseMethodDescriptor yX3_pendingCount.desc).map (fun d => d.parameters.length) = some 1 by decide +kernel)⟩ rfl (Nat.le_of_ble_eq_true rfl) (by rw [hRm]; decide) (by rw [hRm]; exact ⟨by (show _ ≤ 120); omega, by (show _ ≤ 720); omega⟩) (fun M1 hB hF => ?_)
            refine g_cW X dL_isBill_271 (As := [.ref (A 313), .int (nI k), .int ((w.1 0).2.1 8 (cN (nI k)))]) (A := A) (w' := w) (v := .int (wI (-1000) (pAmendedClause w (nI k) ((w.1 0).2.1 8 (cN (nI k)))).1)) (c_L_amendedClause' κ.l hl κ.Γ M1 A w hB hJ.inv (nI k) ((w.1 0).2.1 8 (cN (nI k))) (j_amendedClause hJ (nI k) ((w.1 0).2.1 8 (cN (nI k))))) hF k5120 k790 k0 k5121 ⟨by decide, by decide, (show (parseMethodDescriptor yL_amendedClause.desc).map (fun d => d.parameters.length) = some 3 by decide +kernel)⟩ rfl (Nat.le_of_ble_eq_true rfl) (by rw [hRm]; decide) (by rw [hRm]; exact ⟨by (show _ ≤ 120); omega, by (show _ ≤ 720); omega⟩) (fun M1 hB hF => ?_)
            refine g_sipush (v := (-1000)) X dL_isBill_274 (by decide) ?_
            refine g_icmp_ne (tgt := 319) X dL_isBill_277 (by decide) (fun c13 => absurd c13 (pN (wI_n (fun z => Int32.lt_irrefl z.2.2)))) (fun c13 => ?_)
            refine g_aload_n X dL_isBill_280 rfl 9 rfl ?_
            refine g_iload_n X dL_isBill_281 rfl 8 rfl ?_
            refine g_cV X dL_isBill_282 (As := [.int (nI k)]) (A := A) (w := w) (w' := w) (v := .int ((w.1 0).2.1 8 (cN (nI k)))) (Ct.gy hb (c_X3_pendingCount κ.l hl κ.Γ M1 A w hB hJ.inv (nI k))) hB hF k5096 k786 k787 k1 k788 ⟨rfl, by decide, by decide, (show (parseMethodDescriptor yX3_pendingCount.desc).map (fun d => d.parameters.length) = some 1 by decide +kernel)⟩ rfl (Nat.le_of_ble_eq_true rfl) (by rw [hRm]; decide) (by rw [hRm]; exact ⟨by (show _ ≤ 120); omega, by (show _ ≤ 720); omega⟩) (fun M1 hB hF => ?_)
            refine g_iconst (v := 4) X dL_isBill_285 (by decide) ?_
            refine g_icmp_gt (tgt := 319) X dL_isBill_286 (by decide) (fun c14 => absurd c14 (by rw [ec, ep]; exact fun z => by have := (nI_ltI (a := 4) (by decide) (by omega)).mp z; omega)) (fun c14 => ?_)
            refine g_aload_n X dL_isBill_289 rfl 9 rfl ?_
            refine g_iload_n X dL_isBill_290 rfl 8 rfl ?_
            refine g_cV X dL_isBill_291 (As := [.int (nI k)]) (A := A) (w := w) (w' := wL w (dL (w.1 0) w.2.2.2.1 (nI k))) (v := .int ((dL (w.1 0) w.2.2.2.1 (nI k)).1 0)) (Ct.gy hb (c_X3_describeBill κ.l hl κ.Γ M1 A w hB hJ.inv (nI k))) hB hF k5122 k1003 k1004 k1 k1005 ⟨rfl, by decide, by decide, (show (parseMethodDescriptor yX3_describeBill.desc).map (fun d => d.parameters.length) = some 1 by decide +kernel)⟩ rfl (Nat.le_of_ble_eq_true rfl) (by rw [hRm]; decide) (by rw [hRm]; exact ⟨by (show _ ≤ 120); omega, by (show _ ≤ 720); omega⟩) (fun M1 hB hF => ?_)
            have hJ2 := j_line hJ hb
            refine g_iconst (v := 5) X dL_isBill_294 (by decide) ?_
            refine g_aload_n X dL_isBill_295 rfl 9 rfl ?_
            refine g_iload_n X dL_isBill_296 rfl 8 rfl ?_
            refine g_cV X dL_isBill_297 (As := [.int (nI k)]) (A := A) (w := (wL w (dL (w.1 0) w.2.2.2.1 (nI k)))) (w' := (wL w (dL (w.1 0) w.2.2.2.1 (nI k)))) (v := .int (hRust ((wL w (dL (w.1 0) w.2.2.2.1 (nI k))).1 0) (cN (nI k)))) (Ct.gy hb (c_X3_rust κ.l hl κ.Γ M1 A (wL w (dL (w.1 0) w.2.2.2.1 (nI k))) hB hJ2.inv (nI k))) hB hF k5119 k834 k835 k1 k836 ⟨rfl, by decide, by decide, (show (parseMethodDescriptor yX3_rust.desc).map (fun d => d.parameters.length) = some 1 by decide +kernel)⟩ rfl (Nat.le_of_ble_eq_true rfl) (by rw [hRm]; decide) (by rw [hRm]; exact ⟨by (show _ ≤ 120); omega, by (show _ ≤ 720); omega⟩) (fun M1 hB hF => ?_)
            refine g_iadd X dL_isBill_300 ?_
            refine g_iload X dL_isBill_301 4 rfl ?_
            refine g_ifb_eq (tgt := 310) X dL_isBill_303 (by decide) (fun c15 => ?_) (fun c15 => ?_)
            · refine g_iconst (v := 0) X dL_isBill_310 (by decide) ?_
              refine g_iadd X dL_isBill_311 ?_
              refine g_icmp_lt (tgt := 319) X dL_isBill_312 (by decide) (fun c16 => absurd c16 (by rw [ejl]; (show ¬ nI jl < nI 5 + hRust (w.1 0) (cN (nI k)) + nI 0); rw [er, nI_add, nI_add]; exact fun z => by have := (nI_ltI (by omega) (by omega)).mp z; omega)) (fun c16 => ?_)
              refine g_iconst (v := 1) X dL_isBill_315 (by decide) ?_
              refine g_goto (tgt := 320) X dL_isBill_316 (by decide) ?_
              exact g_zret X F dL_isBill_320 (by omega) (by omega) rfl ⟨_, _, rfl, ⟨rfl, rfl⟩, hB, hF⟩
            · refine g_iconst (v := 4) X dL_isBill_306 (by decide) ?_
              refine g_goto (tgt := 311) X dL_isBill_307 (by decide) ?_
              refine g_iadd X dL_isBill_311 ?_
              refine g_icmp_lt (tgt := 319) X dL_isBill_312 (by decide) (fun c17 => absurd c17 (by rw [ejl]; (show ¬ nI jl < nI 5 + hRust (w.1 0) (cN (nI k)) + nI 4); rw [er, nI_add, nI_add]; exact fun z => by have := (nI_ltI (by omega) (by omega)).mp z; have := hj1 c15; omega)) (fun c17 => ?_)
              refine g_iconst (v := 1) X dL_isBill_315 (by decide) ?_
              refine g_goto (tgt := 320) X dL_isBill_316 (by decide) ?_
              exact g_zret X F dL_isBill_320 (by omega) (by omega) rfl ⟨_, _, rfl, ⟨rfl, rfl⟩, hB, hF⟩
          have jn18 : ∀ M1 : Hp, BRep κ.Γ A w M1 → Fr A 315 M M1 → G κ M1 (60) (360) [(10, .int 1), (9, .int (wI (-1000) (pShareBits w (nI k)).1)), (8, .int (hW (w.1 0) ((w.1 0).2.1 7 (cN (nI k))))), (7, .int (hW (w.1 0) ((w.1 0).2.1 6 (cN (nI k))))), (6, .int (bI ((w.1 0).2.1 3 (cN (nI k)) = 0))), (5, .int (runL ((w.1 0).2.2 (cN (nI k))) 64)), (4, .int (runM ((w.1 0).2.2 (cN (nI k))) 64)), (2, .long ((w.1 0).2.2 (cN (nI k)))), (1, .int (nI k)), (0, .ref (A 313))] 230 [] := by
            intro M1 hB hF
            refine g_aload_n X dL_isBill_230 rfl 9 rfl ?_
            refine g_iload_n X dL_isBill_231 rfl 8 rfl ?_
            refine g_cV X dL_isBill_232 (As := [.int (nI k)]) (A := A) (w := w) (w' := w) (v := .int (bI ((w.1 0).2.1 3 (cN (nI k)) = 1))) (Ct.gy hb (c_X3_isPassed κ.l hl κ.Γ M1 A w hB hJ.inv (nI k))) hB hF k5093 k600 k601 k1 k602 ⟨rfl, by decide, by decide, (show (parseMethodDescriptor yX3_isPassed.desc).map (fun d => d.parameters.length) = some 1 by decide +kernel)⟩ rfl (Nat.le_of_ble_eq_true rfl) (by rw [hRm]; decide) (by rw [hRm]; exact ⟨by (show _ ≤ 120); omega, by (show _ ≤ 720); omega⟩) (fun M1 hB hF => ?_)
            refine g_aload_n X dL_isBill_235 rfl 9 rfl ?_
            refine g_iload_n X dL_isBill_236 rfl 8 rfl ?_
            refine g_cV X dL_isBill_237 (As := [.int (nI k)]) (A := A) (w := w) (w' := w) (v := .int ((w.1 0).2.1 4 (cN (nI k)))) (Ct.gy hb (c_X3_readings κ.l hl κ.Γ M1 A w hB hJ.inv (nI k))) hB hF k5090 k607 k608 k1 k609 ⟨rfl, by decide, by decide, (show (parseMethodDescriptor yX3_readings.desc).map (fun d => d.parameters.length) = some 1 by decide +kernel)⟩ rfl (Nat.le_of_ble_eq_true rfl) (by rw [hRm]; decide) (by rw [hRm]; exact ⟨by (show _ ≤ 120); omega, by (show _ ≤ 720); omega⟩) (fun M1 hB hF => ?_)
            refine g_iconst (v := 3) X dL_isBill_240 (by decide) ?_
            refine g_icmp_ne (tgt := 248) X dL_isBill_241 (by decide) (fun c19 => ?_) (fun c19 => ?_)
            · refine g_iconst (v := 0) X dL_isBill_248 (by decide) ?_
              refine g_icmp_ne (tgt := 256) X dL_isBill_249 (by decide) (fun c20 => absurd c20 (pN (bI_f (fun z => c19 (hr3.mp z))))) (fun c20 => ?_)
              refine g_iconst (v := 1) X dL_isBill_252 (by decide) ?_
              refine g_goto (tgt := 257) X dL_isBill_253 (by decide) ?_
              refine g_istore (L' := [(10, .int 1), (9, .int (wI (-1000) (pShareBits w (nI k)).1)), (8, .int (hW (w.1 0) ((w.1 0).2.1 7 (cN (nI k))))), (7, .int (hW (w.1 0) ((w.1 0).2.1 6 (cN (nI k))))), (6, .int (bI ((w.1 0).2.1 3 (cN (nI k)) = 0))), (5, .int (runL ((w.1 0).2.2 (cN (nI k))) 64)), (4, .int (runM ((w.1 0).2.2 (cN (nI k))) 64)), (2, .long ((w.1 0).2.2 (cN (nI k)))), (1, .int (nI k)), (0, .ref (A 313))]) X dL_isBill_257 (by rw [hnL]; decide) rfl ?_
              refine g_widen (k := 80) (n := 480) (by omega) (by omega) ?_
              exact jn11 M1 hB hF
            · refine g_iconst (v := 1) X dL_isBill_244 (by decide) ?_
              refine g_goto (tgt := 249) X dL_isBill_245 (by decide) ?_
              refine g_icmp_ne (tgt := 256) X dL_isBill_249 (by decide) (fun c21 => absurd c21 (pN (bI_t (hr3.mpr c19)))) (fun c21 => ?_)
              refine g_iconst (v := 1) X dL_isBill_252 (by decide) ?_
              refine g_goto (tgt := 257) X dL_isBill_253 (by decide) ?_
              refine g_istore (L' := [(10, .int 1), (9, .int (wI (-1000) (pShareBits w (nI k)).1)), (8, .int (hW (w.1 0) ((w.1 0).2.1 7 (cN (nI k))))), (7, .int (hW (w.1 0) ((w.1 0).2.1 6 (cN (nI k))))), (6, .int (bI ((w.1 0).2.1 3 (cN (nI k)) = 0))), (5, .int (runL ((w.1 0).2.2 (cN (nI k))) 64)), (4, .int (runM ((w.1 0).2.2 (cN (nI k))) 64)), (2, .long ((w.1 0).2.2 (cN (nI k)))), (1, .int (nI k)), (0, .ref (A 313))]) X dL_isBill_257 (by rw [hnL]; decide) rfl ?_
              refine g_widen (k := 80) (n := 480) (by omega) (by omega) ?_
              exact jn11 M1 hB hF
          refine g_iload X dL_isBill_188 4 rfl ?_
          refine g_ifb_eq (tgt := 214) X dL_isBill_190 (by decide) (fun c22 => ?_) (fun c22 => ?_)
          · obtain ⟨v6, v7, v8⟩ := hx.1 (by have z := c22; rw [ec] at z; exact z)
            refine g_iload X dL_isBill_214 3 rfl ?_
            refine g_iload X dL_isBill_216 2 rfl ?_
            refine g_iadd X dL_isBill_218 ?_
            refine g_if_ne (tgt := 256) X dL_isBill_219 (by decide) (fun c23 => absurd c23 (pN (by rw [ec, v6, v7, hW_z]; rfl))) (fun c23 => ?_)
            refine g_aload_n X dL_isBill_222 rfl 9 rfl ?_
            refine g_iload_n X dL_isBill_223 rfl 8 rfl ?_
            refine g_cV X dL_isBill_224 (As := [.int (nI k)]) (A := A) (w := w) (w' := w) (v := .int ((w.1 0).2.1 8 (cN (nI k)))) (Ct.gy hb (c_X3_pendingCount κ.l hl κ.Γ M1 A w hB hJ.inv (nI k))) hB hF k5096 k786 k787 k1 k788 ⟨rfl, by decide, by decide, (show (parseMethodDescriptor yX3_pendingCount.desc).map (fun d => d.parameters.length) = some 1 by decide +kernel)⟩ rfl (Nat.le_of_ble_eq_true rfl) (by rw [hRm]; decide) (by rw [hRm]; exact ⟨by (show _ ≤ 120); omega, by (show _ ≤ 720); omega⟩) (fun M1 hB hF => ?_)
            refine g_if_ne (tgt := 256) X dL_isBill_227 (by decide) (fun c24 => absurd c24 (pN (by rw [ec]; exact v8))) (fun c24 => ?_)
            refine g_widen (k := 60) (n := 360) (by omega) (by omega) ?_
            exact jn18 M1 hB hF
          · have s0 : (w.1 0).2.1 3 k = 0 := by have z := c22; rw [ec] at z; exact z
            refine g_aload_n X dL_isBill_193 rfl 9 rfl ?_
            refine g_iload_n X dL_isBill_194 rfl 8 rfl ?_
            refine g_cV X dL_isBill_195 (As := [.int (nI k)]) (A := A) (w := w) (w' := w) (v := .int (hRust (w.1 0) (cN (nI k)))) (Ct.gy hb (c_X3_rust κ.l hl κ.Γ M1 A w hB hJ.inv (nI k))) hB hF k5119 k834 k835 k1 k836 ⟨rfl, by decide, by decide, (show (parseMethodDescriptor yX3_rust.desc).map (fun d => d.parameters.length) = some 1 by decide +kernel)⟩ rfl (Nat.le_of_ble_eq_true rfl) (by rw [hRm]; decide) (by rw [hRm]; exact ⟨by (show _ ≤ 120); omega, by (show _ ≤ 720); omega⟩) (fun M1 hB hF => ?_)
            refine g_iconst (v := 3) X dL_isBill_198 (by decide) ?_
            refine g_icmp_ge (tgt := 256) X dL_isBill_199 (by decide) (fun c25 => absurd c25 (by rw [er]; exact fun z => by have := (nI_leI (a := 3) (by decide) (by omega)).mp z; have := hd0 s0; omega)) (fun c25 => ?_)
            refine g_aload_n X dL_isBill_202 rfl 9 rfl ?_
            refine g_iload_n X dL_isBill_203 rfl 8 rfl ?_
            refine g_cV X dL_isBill_204 (As := [.int (nI k)]) (A := A) (w := w) (w' := w) (v := .int ((w.1 0).2.1 4 (cN (nI k)))) (Ct.gy hb (c_X3_readings κ.l hl κ.Γ M1 A w hB hJ.inv (nI k))) hB hF k5090 k607 k608 k1 k609 ⟨rfl, by decide, by decide, (show (parseMethodDescriptor yX3_readings.desc).map (fun d => d.parameters.length) = some 1 by decide +kernel)⟩ rfl (Nat.le_of_ble_eq_true rfl) (by rw [hRm]; decide) (by rw [hRm]; exact ⟨by (show _ ≤ 120); omega, by (show _ ≤ 720); omega⟩) (fun M1 hB hF => ?_)
            refine g_iconst (v := 3) X dL_isBill_207 (by decide) ?_
            refine g_icmp_ge (tgt := 256) X dL_isBill_208 (by decide) (fun c26 => absurd c26 (by rw [ec, eg]; exact fun z => by have := (nI_leI (a := 3) (by decide) (by omega)).mp z; have := hg0 s0; omega)) (fun c26 => ?_)
            refine g_goto (tgt := 230) X dL_isBill_211 (by decide) ?_
            refine g_widen (k := 60) (n := 360) (by omega) (by omega) ?_
            exact jn18 M1 hB hF
        refine g_iload X dL_isBill_79 1 rfl ?_
        refine g_iload X dL_isBill_81 0 rfl ?_
        refine g_iadd X dL_isBill_83 ?_
        refine g_if_ne (tgt := 93) X dL_isBill_84 (by decide) (fun c27 => ?_) (fun c27 => ?_)
        · have hsh := sh_all q hk8 c27
          refine g_iload X dL_isBill_93 1 rfl ?_
          refine g_i2f X dL_isBill_95 ?_
          refine g_iload X dL_isBill_96 1 rfl ?_
          refine g_iload X dL_isBill_98 0 rfl ?_
          refine g_iadd X dL_isBill_100 ?_
          refine g_i2f X dL_isBill_101 ?_
          refine g_fdiv X dL_isBill_102 hsh.1 ?_
          refine g_callS_rd (As := [.float (FP.fdiv (FP.i2f (hW (w.1 0) ((w.1 0).2.1 6 (cN (nI k))))) (FP.i2f ((hW (w.1 0) ((w.1 0).2.1 6 (cN (nI k)))) + (hW (w.1 0) ((w.1 0).2.1 7 (cN (nI k)))))))]) (v := some (.int (FP.fdiv (FP.i2f (hW (w.1 0) ((w.1 0).2.1 6 (cN (nI k))))) (FP.i2f ((hW (w.1 0) ((w.1 0).2.1 6 (cN (nI k)))) + (hW (w.1 0) ((w.1 0).2.1 7 (cN (nI k))))))).toInt32)) X dL_isBill_103 (c_f2ib κ.l hl κ.Γ M1 (FP.fdiv (FP.i2f (hW (w.1 0) ((w.1 0).2.1 6 (cN (nI k))))) (FP.i2f ((hW (w.1 0) ((w.1 0).2.1 6 (cN (nI k)))) + (hW (w.1 0) ((w.1 0).2.1 7 (cN (nI k))))))) hsh.2.1) k5109 k1371 k25 k1372 ⟨by decide, by decide, (show (parseMethodDescriptor yJxf58ca_floatToIntBits_5c35a.desc).map (fun d => d.parameters.length) = some 1 by decide +kernel)⟩ rfl (Nat.le_of_ble_eq_true rfl) (by rw [hRm]; decide) (by rw [hRm]; exact ⟨by (show _ ≤ 120); omega, by (show _ ≤ 720); omega⟩) ?_
          refine g_lit (y := wI (-1000) (pShareBits w (nI k)).1) (by rw [show pShareBits w (nI k) = _ from pG_y hb, pG_y (show ¬ shB (w.1 0) (nI k) = 0 from c27)]; exact hsh.2.2.symm) ?_
          refine g_widen (k := 12) (n := 72) (by omega) (by omega) ?_
          exact jn3 M1 hB hF
        · refine g_sipush (v := (-1000)) X dL_isBill_87 (by decide) ?_
          refine g_lit (y := wI (-1000) (pShareBits w (nI k)).1) (by rw [show pShareBits w (nI k) = _ from pG_y hb, pG_n (pN (show shB (w.1 0) (nI k) = 0 from c27))]; rfl) ?_
          refine g_goto (tgt := 106) X dL_isBill_90 (by decide) ?_
          refine g_widen (k := 12) (n := 72) (by omega) (by omega) ?_
          exact jn3 M1 hB hF
      · have hlt : i < 64 := lt_N (a := 64) (by decide) (by omega) rfl c2
        refine g_lload_n X dL_isBill_22 rfl 3 rfl ?_
        refine g_iload X dL_isBill_23 0 rfl ?_
        refine g_lushr X dL_isBill_25 ?_
        refine g_lconst (v := 1) X dL_isBill_26 rfl ?_
        refine g_land X dL_isBill_27 ?_
        refine g_lconst (v := 1) X dL_isBill_28 rfl ?_
        refine g_lcmp X dL_isBill_29 ?_
        refine g_if_ne (tgt := 40) X dL_isBill_30 (by decide) (fun c28 => ?_) (fun c28 => ?_)
        · refine g_iconst (v := 0) X dL_isBill_40 (by decide) ?_
          refine g_lit (y := runL ((w.1 0).2.2 (cN (nI k))) (i + 1)) (rl_0 c28) ?_
          refine g_istore (L' := [(5, .int (runL ((w.1 0).2.2 (cN (nI k))) (i + 1))), (6, .int (nI i)), (4, .int (runM ((w.1 0).2.2 (cN (nI k))) i)), (2, .long ((w.1 0).2.2 (cN (nI k)))), (1, .int (nI k)), (0, .ref (A 313))]) X dL_isBill_41 (by rw [hnL]; decide) rfl ?_
          refine g_iload X dL_isBill_43 2 rfl ?_
          refine g_iload X dL_isBill_45 0 rfl ?_
          refine g_max X dL_isBill_47 k5108 (by rw [hRm]; decide) (by rw [hRm]; exact Nat.le_of_ble_eq_true rfl) (by rw [hRm]; (show _ ≤ 120); omega) (by rw [hRm]; (show _ ≤ 720); omega) ?_
          refine g_istore (L' := [(4, .int (if runM ((w.1 0).2.2 (cN (nI k))) i < runL ((w.1 0).2.2 (cN (nI k))) (i + 1) then runL ((w.1 0).2.2 (cN (nI k))) (i + 1) else runM ((w.1 0).2.2 (cN (nI k))) i)), (5, .int (runL ((w.1 0).2.2 (cN (nI k))) (i + 1))), (6, .int (nI i)), (2, .long ((w.1 0).2.2 (cN (nI k)))), (1, .int (nI k)), (0, .ref (A 313))]) X dL_isBill_50 (by rw [hnL]; decide) rfl ?_
          refine g_iinc (k := 2) (v := (nI (i + 1))) (L' := [(6, .int (nI (i + 1))), (4, .int (if runM ((w.1 0).2.2 (cN (nI k))) i < runL ((w.1 0).2.2 (cN (nI k))) (i + 1) then runL ((w.1 0).2.2 (cN (nI k))) (i + 1) else runM ((w.1 0).2.2 (cN (nI k))) i)), (5, .int (runL ((w.1 0).2.2 (cN (nI k))) (i + 1))), (2, .long ((w.1 0).2.2 (cN (nI k)))), (1, .int (nI k)), (0, .ref (A 313))]) X dL_isBill_52 rfl (nI_1 _) (by rw [hnL]; decide) rfl ?_
          refine g_goto (tgt := 15) X dL_isBill_55 (by decide) ?_
          refine g_locs [0, 2, 1, 3, 4, 5] (L' := [(6, .int (nI (i + 1))), (5, .int (runL ((w.1 0).2.2 (cN (nI k))) (i + 1))), (4, .int (if runM ((w.1 0).2.2 (cN (nI k))) i < runL ((w.1 0).2.2 (cN (nI k))) (i + 1) then runL ((w.1 0).2.2 (cN (nI k))) (i + 1) else runM ((w.1 0).2.2 (cN (nI k))) i)), (2, .long ((w.1 0).2.2 (cN (nI k)))), (1, .int (nI k)), (0, .ref (A 313))]) rfl ?_
          refine g_widen (k := 3) (n := 18) (by omega) (by omega) ?_
          exact ih15 (i + 1) (by omega) (by omega)
        · refine g_iload X dL_isBill_33 1 rfl ?_
          refine g_iconst (v := 1) X dL_isBill_35 (by decide) ?_
          refine g_iadd X dL_isBill_36 ?_
          refine g_goto (tgt := 41) X dL_isBill_37 (by decide) ?_
          refine g_lit (y := runL ((w.1 0).2.2 (cN (nI k))) (i + 1)) (rl_1 c28) ?_
          refine g_istore (L' := [(5, .int (runL ((w.1 0).2.2 (cN (nI k))) (i + 1))), (6, .int (nI i)), (4, .int (runM ((w.1 0).2.2 (cN (nI k))) i)), (2, .long ((w.1 0).2.2 (cN (nI k)))), (1, .int (nI k)), (0, .ref (A 313))]) X dL_isBill_41 (by rw [hnL]; decide) rfl ?_
          refine g_iload X dL_isBill_43 2 rfl ?_
          refine g_iload X dL_isBill_45 0 rfl ?_
          refine g_max X dL_isBill_47 k5108 (by rw [hRm]; decide) (by rw [hRm]; exact Nat.le_of_ble_eq_true rfl) (by rw [hRm]; (show _ ≤ 120); omega) (by rw [hRm]; (show _ ≤ 720); omega) ?_
          refine g_istore (L' := [(4, .int (if runM ((w.1 0).2.2 (cN (nI k))) i < runL ((w.1 0).2.2 (cN (nI k))) (i + 1) then runL ((w.1 0).2.2 (cN (nI k))) (i + 1) else runM ((w.1 0).2.2 (cN (nI k))) i)), (5, .int (runL ((w.1 0).2.2 (cN (nI k))) (i + 1))), (6, .int (nI i)), (2, .long ((w.1 0).2.2 (cN (nI k)))), (1, .int (nI k)), (0, .ref (A 313))]) X dL_isBill_50 (by rw [hnL]; decide) rfl ?_
          refine g_iinc (k := 2) (v := (nI (i + 1))) (L' := [(6, .int (nI (i + 1))), (4, .int (if runM ((w.1 0).2.2 (cN (nI k))) i < runL ((w.1 0).2.2 (cN (nI k))) (i + 1) then runL ((w.1 0).2.2 (cN (nI k))) (i + 1) else runM ((w.1 0).2.2 (cN (nI k))) i)), (5, .int (runL ((w.1 0).2.2 (cN (nI k))) (i + 1))), (2, .long ((w.1 0).2.2 (cN (nI k)))), (1, .int (nI k)), (0, .ref (A 313))]) X dL_isBill_52 rfl (nI_1 _) (by rw [hnL]; decide) rfl ?_
          refine g_goto (tgt := 15) X dL_isBill_55 (by decide) ?_
          refine g_locs [0, 2, 1, 3, 4, 5] (L' := [(6, .int (nI (i + 1))), (5, .int (runL ((w.1 0).2.2 (cN (nI k))) (i + 1))), (4, .int (if runM ((w.1 0).2.2 (cN (nI k))) i < runL ((w.1 0).2.2 (cN (nI k))) (i + 1) then runL ((w.1 0).2.2 (cN (nI k))) (i + 1) else runM ((w.1 0).2.2 (cN (nI k))) i)), (2, .long ((w.1 0).2.2 (cN (nI k)))), (1, .int (nI k)), (0, .ref (A 313))]) rfl ?_
          refine g_widen (k := 3) (n := 18) (by omega) (by omega) ?_
          exact ih15 (i + 1) (by omega) (by omega)
  refine g_locs [0, 1, 2, 3, 5, 4] (L' := [(6, .int 0), (5, .int 0), (4, .int 0), (2, .long ((w.1 0).2.2 (cN (nI k)))), (1, .int (nI k)), (0, .ref (A 313))]) rfl ?_
  refine g_widen (k := 3) (n := 18) (by omega) (by omega) ?_
  exact lp1 _ 0 (Nat.lt_succ_self _) (Nat.zero_le _)
