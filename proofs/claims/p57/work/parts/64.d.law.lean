set_option maxRecDepth 100000 in
set_option maxHeartbeats 8000000 in
theorem law_pro {κ : KT} {tab : List ExceptionTableEntry} {nm : String} (X : Cx κ RL cL_law (some .boolean) tab nm) (hl : κ.l.stackTraces = false) (hnL : κ.nL = 9) (hRm : κ.R = room_1) (fin : ∀ M cells slots L, cells ≤ 672955 → slots ≤ 7069343 → G κ M cells slots L 437 [.int 1]) : G κ (fun _ => none) 0 0 [(0, .ref (scA κ.Γ))] 0 [] := by
  refine g_new (ci := 3) X dL_law_0 rfl k5000 k27 k1 (fun ty hty j hj => zf_3 ty hty j hj) (by rw [hRm]; exact Nat.le_of_ble_eq_true rfl) (by rw [hRm]; exact Nat.le_of_ble_eq_true rfl) (fun q1 hq1 => ?_)
  refine g_dup X dL_law_3 rfl ?_
  refine g_callI (As := []) X dL_law_4 (c_X3_init κ.l hl κ.Γ (hup (fun _ => none) q1 obZ3) q1 (hup_s ..)) k5001 k29 k1 k30 rfl ⟨by decide, by decide, (show (parseMethodDescriptor yX3_init.desc).map (fun d => d.parameters.length) = some 0 by decide +kernel)⟩ rfl (Nat.le_of_ble_eq_true rfl) (by rw [hRm]; decide) (by rw [hRm]; exact ⟨Nat.le_of_ble_eq_true rfl, Nat.le_of_ble_eq_true rfl⟩) (fun v9 M9 h9 => ?_) (fun _ _ h9 => by cases h9.1)
  obtain ⟨e9, A, hA0, hB, hF1, hn1⟩ := h9
  cases e9
  subst hA0
  refine g_gen (P := fun M8 => BRep κ.Γ A bZ M8) hB (fun M1 hB => ?_)
  refine g_astore_n (L' := [(1, .ref (A 313)), (0, .ref (scA κ.Γ))]) X dL_law_7 rfl (by rw [hnL]; decide) rfl ?_
  have hJ := j_z
  refine g_iconst (v := 0) X dL_law_8 (by decide) ?_
  refine g_istore_n (L' := [(2, .int 0), (1, .ref (A 313)), (0, .ref (scA κ.Γ))]) X dL_law_9 rfl (by rw [hnL]; decide) rfl ?_
  have lp1 : ∀ (n9 : Nat) (k : Nat) (v : PV) (M1 : Hp), 6 - k < n9 → k ≤ 6 → J v → BRep κ.Γ A v M1 → G κ M1 (1000 + 10 * k) (10000 + 60 * k) [(2, .int (nI k)), (1, .ref (A 313)), (0, .ref (scA κ.Γ))] 10 [] := by
    intro n9
    induction n9 with
    | zero => intro k v M1 h9; exact absurd h9 (Nat.not_lt_zero _)
    | succ n9 ih10 =>
      intro k v M1 hn9_10 hk hJv hB
      refine g_iload_n X dL_law_10 rfl 0 rfl ?_
      refine g_bipush (v := 6) X dL_law_11 (by decide) ?_
      refine g_icmp_ge (tgt := 58) X dL_law_13 (by decide) (fun c2 => ?_) (fun c2 => ?_)
      · refine g_iconst (v := 0) X dL_law_58 (by decide) ?_
        refine g_istore_n (L' := [(2, .int 0), (1, .ref (A 313)), (0, .ref (scA κ.Γ))]) X dL_law_59 rfl (by rw [hnL]; decide) rfl ?_
        have lp3 : ∀ (n9 : Nat) (j : Nat) (v : PV) (M1 : Hp), 2 - j < n9 → j ≤ 2 → J v → BRep κ.Γ A v M1 → G κ M1 (1100 + 20 * j) (10600 + 120 * j) [(2, .int (nI j)), (1, .ref (A 313)), (0, .ref (scA κ.Γ))] 60 [] := by
          intro n9
          induction n9 with
          | zero => intro j v M1 h9; exact absurd h9 (Nat.not_lt_zero _)
          | succ n9 ih60 =>
            intro j v M1 hn9_60 hj hJv hB
            refine g_iload_n X dL_law_60 rfl 0 rfl ?_
            refine g_iconst (v := 2) X dL_law_61 (by decide) ?_
            refine g_icmp_ge (tgt := 128) X dL_law_62 (by decide) (fun c4 => ?_) (fun c4 => ?_)
            · have acts : ∀ (a : Nat) (v : PV) (M1 : Hp), a ≤ 36 → J v → BRep κ.Γ A v M1 → G κ M1 2000 16000 [(2, .int (nI a)), (1, .ref (A 313)), (0, .ref (scA κ.Γ))] 143 [] := by
                intro a v M1 ha hJv hB
                refine g_iconst (v := 0) X dL_law_143 (by decide) ?_
                refine g_istore_n (L' := [(3, .int 0), (2, .int (nI a)), (1, .ref (A 313)), (0, .ref (scA κ.Γ))]) X dL_law_144 rfl (by rw [hnL]; decide) rfl ?_
                have lp5 : ∀ (n9 : Nat) (i : Nat) (v : PV) (M1 : Hp), a - i < n9 → i ≤ a → J v → BRep κ.Γ A v M1 → G κ M1 (2000 + 2800 * i) (16000 + 16800 * i) [(3, .int (nI i)), (2, .int (nI a)), (1, .ref (A 313)), (0, .ref (scA κ.Γ))] 145 [] := by
                  intro n9
                  induction n9 with
                  | zero => intro i v M1 h9; exact absurd h9 (Nat.not_lt_zero _)
                  | succ n9 ih145 =>
                    intro i v M1 hn9_145 hi hJv hB
                    refine g_iload_n X dL_law_145 rfl 0 rfl ?_
                    refine g_iload_n X dL_law_146 rfl 1 rfl ?_
                    refine g_icmp_ge (tgt := 188) X dL_law_147 (by decide) (fun c6 => ?_) (fun c6 => ?_)
                    · refine g_aload_n X dL_law_188 rfl 2 rfl ?_
                      refine g_cS X dL_law_189 (As := [.ref (A 313)]) (A := A) (c_L_isFit κ.l hl κ.Γ M1 A v hB hJv) Fr.rf k5125 k5126 k0 k5127 ⟨by decide, by decide, (show (parseMethodDescriptor yL_isFit.desc).map (fun d => d.parameters.length) = some 1 by decide +kernel)⟩ rfl (Nat.le_of_ble_eq_true rfl) (by rw [hRm]; decide) (by rw [hRm]; exact ⟨by (show _ ≤ 672955); omega, by (show _ ≤ 7069343); omega⟩) (fun v9 vf M1 h9 hB hF => ?_)
                      obtain ⟨rfl, hJf, hKf⟩ := h9
                      refine g_istore_n (L' := [(3, .int 1), (2, .int (nI a)), (1, .ref (A 313)), (0, .ref (scA κ.Γ))]) X dL_law_192 rfl (by rw [hnL]; decide) rfl ?_
                      refine g_aload_n X dL_law_193 rfl 2 rfl ?_
                      refine g_cW X dL_law_194 (As := [.ref (A 313)]) (A := A) (w' := ((pRun vf).2)) (v := .int (wI (-100000000) (pRun vf).1)) (c_L_run κ.l hl κ.Γ M1 A vf hB hJf.inv (j_run hJf).1) Fr.rf k5033 k861 k0 k5034 ⟨by decide, by decide, (show (parseMethodDescriptor yL_run.desc).map (fun d => d.parameters.length) = some 1 by decide +kernel)⟩ rfl (Nat.le_of_ble_eq_true rfl) (by rw [hRm]; decide) (by rw [hRm]; exact ⟨by (show _ ≤ 672955); omega, by (show _ ≤ 7069343); omega⟩) (fun M1 hB hF => ?_)
                      refine g_pop X dL_law_197 rfl ?_
                      refine g_ex (P := fun v => J v ∧ v.2.2.1.1 0 = 0 ∧ BRep κ.Γ A v M1) ⟨(j_run hJf).2, run_t, hB⟩ (fun v1 ⟨hJ1, ht1, hB⟩ => ?_)
                      refine g_aload_n X dL_law_198 rfl 2 rfl ?_
                      refine g_cS X dL_law_199 (As := [.ref (A 313)]) (A := A) (c_L_digest' κ.l hl κ.Γ M1 A v1 hB hJ1) Fr.rf k5077 k5078 k0 k5079 ⟨by decide, by decide, (show (parseMethodDescriptor yL_digest.desc).map (fun d => d.parameters.length) = some 1 by decide +kernel)⟩ rfl (Nat.le_of_ble_eq_true rfl) (by rw [hRm]; decide) (by rw [hRm]; exact ⟨by (show _ ≤ 672955); omega, by (show _ ≤ 7069343); omega⟩) (fun vd wd M1 h9 hB hF => ?_)
                      obtain ⟨rfl, e9w⟩ := h9
                      rw [e9w] at hB
                      refine g_lstore (L' := [(4, .long (dgH (v1.1 0))), (3, .int 1), (2, .int (nI a)), (1, .ref (A 313)), (0, .ref (scA κ.Γ))]) X dL_law_202 (by rw [hnL]; decide) rfl ?_
                      refine g_aload_n X dL_law_204 rfl 3 rfl ?_
                      refine g_cV X dL_law_205 (As := []) (A := A) (w := v1) (w' := (pSave v1).2) (v := .int ((v1.1 0).1 3)) (c_X3_save κ.l hl κ.Γ M1 A v1 hB hJ1.inv) hB Fr.rf k5004 k276 k277 k1 k278 ⟨rfl, by decide, by decide, (show (parseMethodDescriptor yX3_save.desc).map (fun d => d.parameters.length) = some 0 by decide +kernel)⟩ rfl (Nat.le_of_ble_eq_true rfl) (by rw [hRm]; decide) (by rw [hRm]; exact ⟨by (show _ ≤ 672955); omega, by (show _ ≤ 7069343); omega⟩) (fun M1 hB hF => ?_)
                      refine g_istore (L' := [(6, .int ((v1.1 0).1 3)), (4, .long (dgH (v1.1 0))), (3, .int 1), (2, .int (nI a)), (1, .ref (A 313)), (0, .ref (scA κ.Γ))]) X dL_law_208 (by rw [hnL]; decide) rfl ?_
                      refine g_iconst (v := 0) X dL_law_210 (by decide) ?_
                      refine g_istore (L' := [(7, .int 0), (6, .int ((v1.1 0).1 3)), (4, .long (dgH (v1.1 0))), (3, .int 1), (2, .int (nI a)), (1, .ref (A 313)), (0, .ref (scA κ.Γ))]) X dL_law_211 (by rw [hnL]; decide) rfl ?_
                      have lp7 : ∀ (n9 : Nat) (t : Nat) (v : PV) (M1 : Hp), 31 - t < n9 → t ≤ 31 → J v → TT (v1.1 0) v → BRep κ.Γ A v M1 → G κ M1 (190000 + 3100 * t) (1200000 + 18600 * t) [(7, .int (nI t)), (6, .int ((v1.1 0).1 3)), (4, .long (dgH (v1.1 0))), (3, .int 1), (1, .ref (A 313)), (0, .ref (scA κ.Γ))] 213 [] := by
                        intro n9
                        induction n9 with
                        | zero => intro t v M1 h9; exact absurd h9 (Nat.not_lt_zero _)
                        | succ n9 ih213 =>
                          intro t v M1 hn9_213 ht hJv hTT hB
                          refine g_iload_n X dL_law_213 rfl 3 rfl ?_
                          refine g_if_eq (tgt := 294) X dL_law_214 (by decide) (fun c8 => absurd c8 (by decide)) (fun c8 => ?_)
                          refine g_iload X dL_law_217 0 rfl ?_
                          refine g_txs X dL_law_219 k5076 ?_
                          refine g_txlen X dL_law_222 ?_
                          refine g_icmp_ge (tgt := 294) X dL_law_223 (by decide) (fun c9 => ?_) (fun c9 => ?_)
                          · have hSN : SN (v1.1 0) v := ⟨hTT.2.1, hTT.2.2.1⟩
                            refine g_widen (k := 290000) (n := 1800000) (by omega) (by omega) ?_
                            refine g_iconst (v := 0) X dL_law_294 (by decide) ?_
                            refine g_istore (L' := [(7, .int 0), (6, .int ((v1.1 0).1 3)), (4, .long (dgH (v1.1 0))), (3, .int 1), (1, .ref (A 313)), (0, .ref (scA κ.Γ))]) X dL_law_295 (by rw [hnL]; decide) rfl ?_
                            have lp10 : ∀ (n9 : Nat) (t2 : Nat) (v : PV) (M1 : Hp), 2 - t2 < n9 → t2 ≤ 2 → J v → SN (v1.1 0) v → BRep κ.Γ A v M1 → G κ M1 (290000 + 81100 * t2) (1800000 + 486600 * t2) [(7, .int (nI t2)), (6, .int ((v1.1 0).1 3)), (4, .long (dgH (v1.1 0))), (3, .int 1), (1, .ref (A 313)), (0, .ref (scA κ.Γ))] 297 [] := by
                              intro n9
                              induction n9 with
                              | zero => intro t2 v M1 h9; exact absurd h9 (Nat.not_lt_zero _)
                              | succ n9 ih297 =>
                                intro t2 v M1 hn9_297 ht2 hJv hSN hB
                                refine g_iload_n X dL_law_297 rfl 3 rfl ?_
                                refine g_if_eq (tgt := 400) X dL_law_298 (by decide) (fun c11 => absurd c11 (by decide)) (fun c11 => ?_)
                                refine g_iload X dL_law_301 0 rfl ?_
                                refine g_iconst (v := 2) X dL_law_303 (by decide) ?_
                                refine g_icmp_ge (tgt := 400) X dL_law_304 (by decide) (fun c12 => ?_) (fun c12 => ?_)
                                · refine g_iload_n X dL_law_400 rfl 3 rfl ?_
                                  refine g_if_eq (tgt := 436) X dL_law_401 (by decide) (fun c13 => absurd c13 (by decide)) (fun c13 => ?_)
                                  refine g_aload_n X dL_law_404 rfl 4 rfl ?_
                                  have er : pRestore v = (rI ((v.1 2).1 3), wS (wH v 0 (v.1 2)) 2 0) := pG_y (by rw [hSN.2]; decide)
                                  have hjr := j_restore hJv
                                  have hcr := c_L_restore κ.l hl κ.Γ M1 A v hB hJv.inv hjr.1
                                  have hjr := hjr.2
                                  rw [er] at hjr hcr
                                  refine g_cW X dL_law_405 (As := [.ref (A 313)]) (A := A) (w' := (wS (wH v 0 (v.1 2)) 2 0)) (v := .int ((v.1 2).1 3)) hcr Fr.rf k5043 k1076 k0 k5044 ⟨by decide, by decide, (show (parseMethodDescriptor yL_restore.desc).map (fun d => d.parameters.length) = some 1 by decide +kernel)⟩ rfl (Nat.le_of_ble_eq_true rfl) (by rw [hRm]; decide) (by rw [hRm]; exact ⟨by (show _ ≤ 672955); omega, by (show _ ≤ 7069343); omega⟩) (fun M1 hB hF => ?_)
                                  refine g_iload X dL_law_408 1 rfl ?_
                                  refine g_icmp_ne (tgt := 436) X dL_law_410 (by decide) (fun c14 => absurd c14 (pN (by rw [hSN.1]))) (fun c14 => ?_)
                                  refine g_aload_n X dL_law_413 rfl 4 rfl ?_
                                  refine g_cS X dL_law_414 (As := [.ref (A 313)]) (A := A) (c_L_digest' κ.l hl κ.Γ M1 A (wS (wH v 0 (v.1 2)) 2 0) hB hjr) Fr.rf k5077 k5078 k0 k5079 ⟨by decide, by decide, (show (parseMethodDescriptor yL_digest.desc).map (fun d => d.parameters.length) = some 1 by decide +kernel)⟩ rfl (Nat.le_of_ble_eq_true rfl) (by rw [hRm]; decide) (by rw [hRm]; exact ⟨by (show _ ≤ 672955); omega, by (show _ ≤ 7069343); omega⟩) (fun vd wd M1 h9 hB hF => ?_)
                                  obtain ⟨rfl, e9w⟩ := h9
                                  rw [e9w] at hB
                                  refine g_lload X dL_law_417 2 rfl ?_
                                  refine g_lcmp X dL_law_419 ?_
                                  refine g_if_ne (tgt := 436) X dL_law_420 (by decide) (fun c15 => absurd c15 (pN (by (show lg_cmp (dgH (v.1 2)) _ = 0); rw [hSN.1]; exact lg_cmp_self _))) (fun c15 => ?_)
                                  refine g_aload_n X dL_law_423 rfl 4 rfl ?_
                                  have eu : pUndo (wS (wH v 0 (v.1 2)) 2 0) = (.inr eSta, wS (wH v 0 (v.1 2)) 2 0) := pG_n (fun z => z rfl)
                                  have hcu := c_L_undo κ.l hl κ.Γ M1 A (wS (wH v 0 (v.1 2)) 2 0) hB hjr.inv (j_undo hjr).1
                                  rw [eu] at hcu
                                  refine g_cW X dL_law_424 (As := [.ref (A 313)]) (A := A) (w' := (wS (wH v 0 (v.1 2)) 2 0)) (v := .int (-100000000)) hcu Fr.rf k5040 k1069 k0 k5041 ⟨by decide, by decide, (show (parseMethodDescriptor yL_undo.desc).map (fun d => d.parameters.length) = some 1 by decide +kernel)⟩ rfl (Nat.le_of_ble_eq_true rfl) (by rw [hRm]; decide) (by rw [hRm]; exact ⟨by (show _ ≤ 672955); omega, by (show _ ≤ 7069343); omega⟩) (fun M1 hB hF => ?_)
                                  refine g_ldc (v := (-100000000)) X dL_law_427 k5015 ?_
                                  refine g_icmp_ne (tgt := 436) X dL_law_429 (by decide) (fun c16 => absurd c16 (by decide)) (fun c16 => ?_)
                                  refine g_iconst (v := 1) X dL_law_432 (by decide) ?_
                                  refine g_goto (tgt := 437) X dL_law_433 (by decide) ?_
                                  exact fin _ _ _ _ (by omega) (by omega)
                                · have hlt2 : t2 < 2 := lt_N (a := 2) (by decide) (by omega) rfl c12
                                  refine g_aload_n X dL_law_307 rfl 4 rfl ?_
                                  refine g_iload X dL_law_308 0 rfl ?_
                                  refine g_bipush (v := 7) X dL_law_310 (by decide) ?_
                                  refine g_cW X dL_law_312 (As := [.ref (A 313), .int (nI t2), .int 7]) (A := A) (w' := ((pAddMember v (nI t2) 7).2)) (v := .int (wI (-100000000) (pAddMember v (nI t2) 7).1)) (c_L_addMember κ.l hl κ.Γ M1 A v hB hJv.inv (nI t2) 7 (j_addMember hJv (nI t2) 7).1) Fr.rf k5009 k287 k0 k5010 ⟨by decide, by decide, (show (parseMethodDescriptor yL_addMember.desc).map (fun d => d.parameters.length) = some 3 by decide +kernel)⟩ rfl (Nat.le_of_ble_eq_true rfl) (by rw [hRm]; decide) (by rw [hRm]; exact ⟨by (show _ ≤ 672955); omega, by (show _ ≤ 7069343); omega⟩) (fun M1 hB hF => ?_)
                                  refine g_pop X dL_law_315 rfl ?_
                                  refine g_ex (P := fun v => J v ∧ SN (v1.1 0) v ∧ BRep κ.Γ A v M1) ⟨(j_addMember hJv (nI t2) 7).2, hSN.ks (ks_addMember hJv (nI t2) 7), hB⟩ (fun v ⟨hJv, hSN, hB⟩ => ?_)
                                  refine g_aload_n X dL_law_316 rfl 4 rfl ?_
                                  refine g_aload_n X dL_law_317 rfl 4 rfl ?_
                                  refine g_cV X dL_law_318 (As := []) (A := A) (w := v) (w' := v) (v := .int ((v.1 0).1 0)) (c_X3_memberCount κ.l hl κ.Γ M1 A v hB hJv.inv) hB Fr.rf k5002 k189 k190 k1 k191 ⟨rfl, by decide, by decide, (show (parseMethodDescriptor yX3_memberCount.desc).map (fun d => d.parameters.length) = some 0 by decide +kernel)⟩ rfl (Nat.le_of_ble_eq_true rfl) (by rw [hRm]; decide) (by rw [hRm]; exact ⟨by (show _ ≤ 672955); omega, by (show _ ≤ 7069343); omega⟩) (fun M1 hB hF => ?_)
                                  refine g_iconst (v := 1) X dL_law_321 (by decide) ?_
                                  refine g_isub X dL_law_322 ?_
                                  refine g_cW X dL_law_323 (As := [.ref (A 313), .int (((v.1 0).1 0) - 1)]) (A := A) (w' := ((pEnter v (((v.1 0).1 0) - 1)).2)) (v := .int (wI (-100000000) (pEnter v (((v.1 0).1 0) - 1)).1)) (c_L_enter κ.l hl κ.Γ M1 A v hB hJv.inv (((v.1 0).1 0) - 1) (j_enter hJv (((v.1 0).1 0) - 1)).1) Fr.rf k5017 k478 k0 k5018 ⟨by decide, by decide, (show (parseMethodDescriptor yL_enter.desc).map (fun d => d.parameters.length) = some 2 by decide +kernel)⟩ rfl (Nat.le_of_ble_eq_true rfl) (by rw [hRm]; decide) (by rw [hRm]; exact ⟨by (show _ ≤ 672955); omega, by (show _ ≤ 7069343); omega⟩) (fun M1 hB hF => ?_)
                                  refine g_pop X dL_law_326 rfl ?_
                                  refine g_ex (P := fun v => J v ∧ SN (v1.1 0) v ∧ BRep κ.Γ A v M1) ⟨(j_enter hJv (((v.1 0).1 0) - 1)).2, hSN.ks (ks_enter hJv (((v.1 0).1 0) - 1)), hB⟩ (fun v ⟨hJv, hSN, hB⟩ => ?_)
                                  refine g_aload_n X dL_law_327 rfl 4 rfl ?_
                                  refine g_aload_n X dL_law_328 rfl 4 rfl ?_
                                  refine g_cV X dL_law_329 (As := []) (A := A) (w := v) (w' := v) (v := .int ((v.1 0).1 0)) (c_X3_memberCount κ.l hl κ.Γ M1 A v hB hJv.inv) hB Fr.rf k5002 k189 k190 k1 k191 ⟨rfl, by decide, by decide, (show (parseMethodDescriptor yX3_memberCount.desc).map (fun d => d.parameters.length) = some 0 by decide +kernel)⟩ rfl (Nat.le_of_ble_eq_true rfl) (by rw [hRm]; decide) (by rw [hRm]; exact ⟨by (show _ ≤ 672955); omega, by (show _ ≤ 7069343); omega⟩) (fun M1 hB hF => ?_)
                                  refine g_iconst (v := 1) X dL_law_332 (by decide) ?_
                                  refine g_isub X dL_law_333 ?_
                                  refine g_iconst (v := 3) X dL_law_334 (by decide) ?_
                                  refine g_iload X dL_law_335 0 rfl ?_
                                  refine g_imul X dL_law_337 ?_
                                  refine g_bipush (v := 40) X dL_law_338 (by decide) ?_
                                  refine g_cW X dL_law_340 (As := [.ref (A 313), .int (((v.1 0).1 0) - 1), .int (3 * (nI t2)), .int 40]) (A := A) (w' := ((pIntroduce v (((v.1 0).1 0) - 1) (3 * (nI t2)) 40).2)) (v := .int (wI (-100000000) (pIntroduce v (((v.1 0).1 0) - 1) (3 * (nI t2)) 40).1)) (c_L_introduce κ.l hl κ.Γ M1 A v hB hJv.inv (((v.1 0).1 0) - 1) (3 * (nI t2)) 40 (j_introduce hJv (((v.1 0).1 0) - 1) (3 * (nI t2)) 40).1) Fr.rf k5023 k562 k0 k5024 ⟨by decide, by decide, (show (parseMethodDescriptor yL_introduce.desc).map (fun d => d.parameters.length) = some 4 by decide +kernel)⟩ rfl (Nat.le_of_ble_eq_true rfl) (by rw [hRm]; decide) (by rw [hRm]; exact ⟨by (show _ ≤ 672955); omega, by (show _ ≤ 7069343); omega⟩) (fun M1 hB hF => ?_)
                                  refine g_pop X dL_law_343 rfl ?_
                                  refine g_ex (P := fun v => J v ∧ SN (v1.1 0) v ∧ BRep κ.Γ A v M1) ⟨(j_introduce hJv (((v.1 0).1 0) - 1) (3 * (nI t2)) 40).2, hSN.ks (ks_introduce hJv (((v.1 0).1 0) - 1) (3 * (nI t2)) 40), hB⟩ (fun v ⟨hJv, hSN, hB⟩ => ?_)
                                  refine g_aload_n X dL_law_344 rfl 4 rfl ?_
                                  refine g_aload_n X dL_law_345 rfl 4 rfl ?_
                                  refine g_cV X dL_law_346 (As := []) (A := A) (w := v) (w' := v) (v := .int ((v.1 0).1 3)) (c_X3_billCount κ.l hl κ.Γ M1 A v hB hJv.inv) hB Fr.rf k5003 k227 k228 k1 k229 ⟨rfl, by decide, by decide, (show (parseMethodDescriptor yX3_billCount.desc).map (fun d => d.parameters.length) = some 0 by decide +kernel)⟩ rfl (Nat.le_of_ble_eq_true rfl) (by rw [hRm]; decide) (by rw [hRm]; exact ⟨by (show _ ≤ 672955); omega, by (show _ ≤ 7069343); omega⟩) (fun M1 hB hF => ?_)
                                  refine g_iconst (v := 1) X dL_law_349 (by decide) ?_
                                  refine g_isub X dL_law_350 ?_
                                  refine g_aload_n X dL_law_351 rfl 4 rfl ?_
                                  refine g_cV X dL_law_352 (As := []) (A := A) (w := v) (w' := v) (v := .int ((v.1 0).1 0)) (c_X3_memberCount κ.l hl κ.Γ M1 A v hB hJv.inv) hB Fr.rf k5002 k189 k190 k1 k191 ⟨rfl, by decide, by decide, (show (parseMethodDescriptor yX3_memberCount.desc).map (fun d => d.parameters.length) = some 0 by decide +kernel)⟩ rfl (Nat.le_of_ble_eq_true rfl) (by rw [hRm]; decide) (by rw [hRm]; exact ⟨by (show _ ≤ 672955); omega, by (show _ ≤ 7069343); omega⟩) (fun M1 hB hF => ?_)
                                  refine g_iconst (v := 1) X dL_law_355 (by decide) ?_
                                  refine g_isub X dL_law_356 ?_
                                  refine g_bipush (v := 9) X dL_law_357 (by decide) ?_
                                  refine g_cW X dL_law_359 (As := [.ref (A 313), .int (((v.1 0).1 3) - 1), .int (((v.1 0).1 0) - 1), .int 9]) (A := A) (w' := ((pPropose v (((v.1 0).1 3) - 1) (((v.1 0).1 0) - 1) 9).2)) (v := .int (wI (-100000000) (pPropose v (((v.1 0).1 3) - 1) (((v.1 0).1 0) - 1) 9).1)) (c_L_propose κ.l hl κ.Γ M1 A v hB hJv.inv (((v.1 0).1 3) - 1) (((v.1 0).1 0) - 1) 9 (j_propose hJv (((v.1 0).1 3) - 1) (((v.1 0).1 0) - 1) 9).1) Fr.rf k5030 k734 k0 k5031 ⟨by decide, by decide, (show (parseMethodDescriptor yL_propose.desc).map (fun d => d.parameters.length) = some 4 by decide +kernel)⟩ rfl (Nat.le_of_ble_eq_true rfl) (by rw [hRm]; decide) (by rw [hRm]; exact ⟨by (show _ ≤ 672955); omega, by (show _ ≤ 7069343); omega⟩) (fun M1 hB hF => ?_)
                                  refine g_pop X dL_law_362 rfl ?_
                                  refine g_ex (P := fun v => J v ∧ SN (v1.1 0) v ∧ BRep κ.Γ A v M1) ⟨(j_propose hJv (((v.1 0).1 3) - 1) (((v.1 0).1 0) - 1) 9).2, hSN.ks (ks_propose hJv (((v.1 0).1 3) - 1) (((v.1 0).1 0) - 1) 9), hB⟩ (fun v ⟨hJv, hSN, hB⟩ => ?_)
                                  refine g_aload_n X dL_law_363 rfl 4 rfl ?_
                                  refine g_aload_n X dL_law_364 rfl 4 rfl ?_
                                  refine g_cV X dL_law_365 (As := []) (A := A) (w := v) (w' := v) (v := .int ((v.1 0).1 3)) (c_X3_billCount κ.l hl κ.Γ M1 A v hB hJv.inv) hB Fr.rf k5003 k227 k228 k1 k229 ⟨rfl, by decide, by decide, (show (parseMethodDescriptor yX3_billCount.desc).map (fun d => d.parameters.length) = some 0 by decide +kernel)⟩ rfl (Nat.le_of_ble_eq_true rfl) (by rw [hRm]; decide) (by rw [hRm]; exact ⟨by (show _ ≤ 672955); omega, by (show _ ≤ 7069343); omega⟩) (fun M1 hB hF => ?_)
                                  refine g_iconst (v := 1) X dL_law_368 (by decide) ?_
                                  refine g_isub X dL_law_369 ?_
                                  refine g_aload_n X dL_law_370 rfl 4 rfl ?_
                                  refine g_cV X dL_law_371 (As := []) (A := A) (w := v) (w' := v) (v := .int ((v.1 0).1 0)) (c_X3_memberCount κ.l hl κ.Γ M1 A v hB hJv.inv) hB Fr.rf k5002 k189 k190 k1 k191 ⟨rfl, by decide, by decide, (show (parseMethodDescriptor yX3_memberCount.desc).map (fun d => d.parameters.length) = some 0 by decide +kernel)⟩ rfl (Nat.le_of_ble_eq_true rfl) (by rw [hRm]; decide) (by rw [hRm]; exact ⟨by (show _ ≤ 672955); omega, by (show _ ≤ 7069343); omega⟩) (fun M1 hB hF => ?_)
                                  refine g_iconst (v := 1) X dL_law_374 (by decide) ?_
                                  refine g_isub X dL_law_375 ?_
                                  refine g_cW X dL_law_376 (As := [.ref (A 313), .int (((v.1 0).1 3) - 1), .int (((v.1 0).1 0) - 1)]) (A := A) (w' := ((pVoteFor v (((v.1 0).1 3) - 1) (((v.1 0).1 0) - 1)).2)) (v := .int (wI (-100000000) (pVoteFor v (((v.1 0).1 3) - 1) (((v.1 0).1 0) - 1)).1)) (c_L_voteFor κ.l hl κ.Γ M1 A v hB hJv.inv (((v.1 0).1 3) - 1) (((v.1 0).1 0) - 1) (j_voteFor hJv (((v.1 0).1 3) - 1) (((v.1 0).1 0) - 1)).1) Fr.rf k5027 k665 k0 k5028 ⟨by decide, by decide, (show (parseMethodDescriptor yL_voteFor.desc).map (fun d => d.parameters.length) = some 3 by decide +kernel)⟩ rfl (Nat.le_of_ble_eq_true rfl) (by rw [hRm]; decide) (by rw [hRm]; exact ⟨by (show _ ≤ 672955); omega, by (show _ ≤ 7069343); omega⟩) (fun M1 hB hF => ?_)
                                  refine g_pop X dL_law_379 rfl ?_
                                  refine g_ex (P := fun v => J v ∧ SN (v1.1 0) v ∧ BRep κ.Γ A v M1) ⟨(j_voteFor hJv (((v.1 0).1 3) - 1) (((v.1 0).1 0) - 1)).2, hSN.ks (ks_voteFor hJv (((v.1 0).1 3) - 1) (((v.1 0).1 0) - 1)), hB⟩ (fun v ⟨hJv, hSN, hB⟩ => ?_)
                                  refine g_aload_n X dL_law_380 rfl 4 rfl ?_
                                  refine g_iconst (v := 1) X dL_law_381 (by decide) ?_
                                  refine g_iload X dL_law_382 0 rfl ?_
                                  refine g_iadd X dL_law_384 ?_
                                  refine g_cW X dL_law_385 (As := [.ref (A 313), .int (1 + (nI t2))]) (A := A) (w' := ((pSetQuorum v (1 + (nI t2))).2)) (v := .int (wI (-100000000) (pSetQuorum v (1 + (nI t2))).1)) (c_L_setQuorum κ.l hl κ.Γ M1 A v hB hJv.inv (1 + (nI t2)) (j_setQuorum hJv (1 + (nI t2))).1) Fr.rf k5020 k512 k0 k5021 ⟨by decide, by decide, (show (parseMethodDescriptor yL_setQuorum.desc).map (fun d => d.parameters.length) = some 2 by decide +kernel)⟩ rfl (Nat.le_of_ble_eq_true rfl) (by rw [hRm]; decide) (by rw [hRm]; exact ⟨by (show _ ≤ 672955); omega, by (show _ ≤ 7069343); omega⟩) (fun M1 hB hF => ?_)
                                  refine g_pop X dL_law_388 rfl ?_
                                  refine g_ex (P := fun v => J v ∧ SN (v1.1 0) v ∧ BRep κ.Γ A v M1) ⟨(j_setQuorum hJv (1 + (nI t2))).2, hSN.ks (ks_setQuorum hJv (1 + (nI t2))), hB⟩ (fun v ⟨hJv, hSN, hB⟩ => ?_)
                                  refine g_aload_n X dL_law_389 rfl 4 rfl ?_
                                  refine g_cS X dL_law_390 (As := [.ref (A 313)]) (A := A) (c_L_isFit κ.l hl κ.Γ M1 A v hB hJv) Fr.rf k5125 k5126 k0 k5127 ⟨by decide, by decide, (show (parseMethodDescriptor yL_isFit.desc).map (fun d => d.parameters.length) = some 1 by decide +kernel)⟩ rfl (Nat.le_of_ble_eq_true rfl) (by rw [hRm]; decide) (by rw [hRm]; exact ⟨by (show _ ≤ 672955); omega, by (show _ ≤ 7069343); omega⟩) (fun v9 vf M1 h9 hB hF => ?_)
                                  obtain ⟨rfl, hJf, hKf⟩ := h9
                                  refine g_istore_n (L' := [(3, .int 1), (7, .int (nI t2)), (6, .int ((v1.1 0).1 3)), (4, .long (dgH (v1.1 0))), (1, .ref (A 313)), (0, .ref (scA κ.Γ))]) X dL_law_393 rfl (by rw [hnL]; decide) rfl ?_
                                  refine g_iinc (k := 1) (v := (nI (t2 + 1))) (L' := [(7, .int (nI (t2 + 1))), (3, .int 1), (6, .int ((v1.1 0).1 3)), (4, .long (dgH (v1.1 0))), (1, .ref (A 313)), (0, .ref (scA κ.Γ))]) X dL_law_394 rfl (nI_1 _) (by rw [hnL]; decide) rfl ?_
                                  refine g_goto (tgt := 297) X dL_law_397 (by decide) ?_
                                  refine g_locs [0, 2, 3, 1, 4, 5] (L' := [(7, .int (nI (t2 + 1))), (6, .int ((v1.1 0).1 3)), (4, .long (dgH (v1.1 0))), (3, .int 1), (1, .ref (A 313)), (0, .ref (scA κ.Γ))]) rfl ?_
                                  refine g_widen (k := 290000 + 81100 * (t2 + 1)) (n := 1800000 + 486600 * (t2 + 1)) (by omega) (by omega) ?_
                                  exact ih297 (t2 + 1) vf M1 (by omega) (by omega) hJf (hSN.ks hKf.2) hB
                            refine g_locs [0, 1, 2, 3, 4, 5] (L' := [(7, .int 0), (6, .int ((v1.1 0).1 3)), (4, .long (dgH (v1.1 0))), (3, .int 1), (1, .ref (A 313)), (0, .ref (scA κ.Γ))]) rfl ?_
                            refine g_widen (k := 290000 + 81100 * 0) (n := 1800000 + 486600 * 0) (by omega) (by omega) ?_
                            exact lp10 _ 0 v M1 (Nat.lt_succ_self _) (Nat.zero_le _) hJv hSN hB
                          · have ht31 : t < 31 := lt_N (a := 31) (by decide) (by omega) rfl c9
                            have jn : ∀ (v : PV) (M1 : Hp), J v → TT (v1.1 0) v → BRep κ.Γ A v M1 → G κ M1 (190000 + 3100 * t + 1780) (1200000 + 18600 * t + 10680) [(7, .int (nI t)), (6, .int ((v1.1 0).1 3)), (4, .long (dgH (v1.1 0))), (3, .int 1), (1, .ref (A 313)), (0, .ref (scA κ.Γ))] 272 [] := by
                              intro v M1 hJv hTT hB
                              refine g_aload_n X dL_law_272 rfl 4 rfl ?_
                              refine g_cS X dL_law_273 (As := [.ref (A 313)]) (A := A) (c_L_digest' κ.l hl κ.Γ M1 A v hB hJv) Fr.rf k5077 k5078 k0 k5079 ⟨by decide, by decide, (show (parseMethodDescriptor yL_digest.desc).map (fun d => d.parameters.length) = some 1 by decide +kernel)⟩ rfl (Nat.le_of_ble_eq_true rfl) (by rw [hRm]; decide) (by rw [hRm]; exact ⟨by (show _ ≤ 672955); omega, by (show _ ≤ 7069343); omega⟩) (fun vd wd M1 h9 hB hF => ?_)
                              obtain ⟨rfl, e9w⟩ := h9
                              rw [e9w] at hB
                              refine g_lload X dL_law_276 2 rfl ?_
                              refine g_lcmp X dL_law_278 ?_
                              refine g_if_ne (tgt := 286) X dL_law_279 (by decide) (fun c17 => absurd c17 (pN (by rw [hTT.1]; exact lg_cmp_self _))) (fun c17 => ?_)
                              refine g_iconst (v := 1) X dL_law_282 (by decide) ?_
                              refine g_goto (tgt := 287) X dL_law_283 (by decide) ?_
                              refine g_istore_n (L' := [(3, .int 1), (7, .int (nI t)), (6, .int ((v1.1 0).1 3)), (4, .long (dgH (v1.1 0))), (1, .ref (A 313)), (0, .ref (scA κ.Γ))]) X dL_law_287 rfl (by rw [hnL]; decide) rfl ?_
                              refine g_iinc (k := 1) (v := (nI (t + 1))) (L' := [(7, .int (nI (t + 1))), (3, .int 1), (6, .int ((v1.1 0).1 3)), (4, .long (dgH (v1.1 0))), (1, .ref (A 313)), (0, .ref (scA κ.Γ))]) X dL_law_288 rfl (nI_1 _) (by rw [hnL]; decide) rfl ?_
                              refine g_goto (tgt := 213) X dL_law_291 (by decide) ?_
                              refine g_locs [0, 2, 3, 1, 4, 5] (L' := [(7, .int (nI (t + 1))), (6, .int ((v1.1 0).1 3)), (4, .long (dgH (v1.1 0))), (3, .int 1), (1, .ref (A 313)), (0, .ref (scA κ.Γ))]) rfl ?_
                              refine g_widen (k := 190000 + 3100 * (t + 1)) (n := 1200000 + 18600 * (t + 1)) (by omega) (by omega) ?_
                              exact ih213 (t + 1) v M1 (by omega) (by omega) hJv hTT hB
                            refine g_aload_n X dL_law_226 rfl 4 rfl ?_
                            refine g_txs X dL_law_227 k5076 ?_
                            refine g_iload X dL_law_230 0 rfl ?_
                            refine g_txt X ht31 dL_law_232 ?_
                            refine g_cS X dL_law_233 (As := [.ref (A 313), .ref (sK κ.Γ (13 + t))]) (A := A) (c_L_write κ.l hl κ.Γ M1 A v hB hJv (13 + t) (by omega)) Fr.rf k5046 k5047 k0 k5048 ⟨by decide, by decide, (show (parseMethodDescriptor yL_write.desc).map (fun d => d.parameters.length) = some 2 by decide +kernel)⟩ rfl (Nat.le_of_ble_eq_true rfl) (by rw [hRm]; decide) (by rw [hRm]; exact ⟨by (show _ ≤ 672955); omega, by (show _ ≤ 7069343); omega⟩) (fun v9 w9 M1 h9 hB hF => ?_)
                            obtain ⟨rfl, e9, hJ9⟩ := h9
                            rcases tx_run ht31 hTT hJ9 e9 with ⟨v2, epr, hJ2, hTT2, hfc⟩ | ⟨nn, v2, epr, hJ2, hnn, hDp, hs2, hs0, hst0⟩
                            · have hcr := c_L_run κ.l hl κ.Γ M1 A w9 hB hJ9.inv (j_run hJ9).1
                              rw [epr] at hcr
                              refine g_cW X dL_law_236 (As := [.ref (A 313)]) (A := A) (w' := v2) (v := .int (-100000000)) hcr Fr.rf k5033 k861 k0 k5034 ⟨by decide, by decide, (show (parseMethodDescriptor yL_run.desc).map (fun d => d.parameters.length) = some 1 by decide +kernel)⟩ rfl (Nat.le_of_ble_eq_true rfl) (by rw [hRm]; decide) (by rw [hRm]; exact ⟨by (show _ ≤ 672955); omega, by (show _ ≤ 7069343); omega⟩) (fun M1 hB hF => ?_)
                              refine g_istore (L' := [(8, .int (-100000000)), (7, .int (nI t)), (6, .int ((v1.1 0).1 3)), (4, .long (dgH (v1.1 0))), (3, .int 1), (1, .ref (A 313)), (0, .ref (scA κ.Γ))]) X dL_law_239 (by rw [hnL]; decide) rfl ?_
                              refine g_iload X dL_law_241 0 rfl ?_
                              refine g_ldc (v := (-100000000)) X dL_law_243 k5015 ?_
                              refine g_icmp_ne (tgt := 258) X dL_law_245 (by decide) (fun c18 => absurd c18 (by decide)) (fun c18 => ?_)
                              refine g_aload_n X dL_law_248 rfl 5 rfl ?_
                              refine g_cW X dL_law_249 (As := [.ref (A 313)]) (A := A) (w' := v2) (v := .int (wI (-1000) (pFailedCommand v2).1)) (c_L_failedCommand' κ.l hl κ.Γ M1 A v2 hB hJ2.inv (j_failedCommand hJ2)) Fr.rf k5036 k993 k0 k5037 ⟨by decide, by decide, (show (parseMethodDescriptor yL_failedCommand.desc).map (fun d => d.parameters.length) = some 1 by decide +kernel)⟩ rfl (Nat.le_of_ble_eq_true rfl) (by rw [hRm]; decide) (by rw [hRm]; exact ⟨by (show _ ≤ 672955); omega, by (show _ ≤ 7069343); omega⟩) (fun M1 hB hF => ?_)
                              refine g_if_lt (tgt := 286) X dL_law_252 (by decide) (fun c19 => absurd c19 (Int32.not_lt.mpr hfc)) (fun c19 => ?_)
                              refine g_goto (tgt := 272) X dL_law_255 (by decide) ?_
                              refine g_locs [1, 2, 3, 4, 5, 6] (L' := [(7, .int (nI t)), (6, .int ((v1.1 0).1 3)), (4, .long (dgH (v1.1 0))), (3, .int 1), (1, .ref (A 313)), (0, .ref (scA κ.Γ))]) rfl ?_
                              refine g_widen (k := 190000 + 3100 * t + 1780) (n := 1200000 + 18600 * t + 10680) (by omega) (by omega) ?_
                              exact jn v2 M1 hJ2 hTT2 hB
                            · have hcr := c_L_run κ.l hl κ.Γ M1 A w9 hB hJ9.inv (j_run hJ9).1
                              rw [epr] at hcr
                              refine g_cW X dL_law_236 (As := [.ref (A 313)]) (A := A) (w' := v2) (v := .int nn) hcr Fr.rf k5033 k861 k0 k5034 ⟨by decide, by decide, (show (parseMethodDescriptor yL_run.desc).map (fun d => d.parameters.length) = some 1 by decide +kernel)⟩ rfl (Nat.le_of_ble_eq_true rfl) (by rw [hRm]; decide) (by rw [hRm]; exact ⟨by (show _ ≤ 672955); omega, by (show _ ≤ 7069343); omega⟩) (fun M1 hB hF => ?_)
                              refine g_istore (L' := [(8, .int nn), (7, .int (nI t)), (6, .int ((v1.1 0).1 3)), (4, .long (dgH (v1.1 0))), (3, .int 1), (1, .ref (A 313)), (0, .ref (scA κ.Γ))]) X dL_law_239 (by rw [hnL]; decide) rfl ?_
                              refine g_iload X dL_law_241 0 rfl ?_
                              refine g_ldc (v := (-100000000)) X dL_law_243 k5015 ?_
                              refine g_icmp_ne (tgt := 258) X dL_law_245 (by decide) (fun c20 => ?_) (fun c20 => absurd c20 (fun z => by rw [z] at hnn; exact absurd hnn (by decide)))
                              refine g_aload_n X dL_law_258 rfl 5 rfl ?_
                              refine g_cS X dL_law_259 (As := [.ref (A 313)]) (A := A) (c_L_areBills κ.l hl κ.Γ M1 A v2 hB hJ2) Fr.rf k5099 k5100 k0 k5101 ⟨by decide, by decide, (show (parseMethodDescriptor yL_areBills.desc).map (fun d => d.parameters.length) = some 1 by decide +kernel)⟩ rfl (Nat.le_of_ble_eq_true rfl) (by rw [hRm]; decide) (by rw [hRm]; exact ⟨by (show _ ≤ 672955); omega, by (show _ ≤ 7069343); omega⟩) (fun v9 w9 M1 h9 hB hF => ?_)
                              obtain ⟨rfl, Z21, rfl, hJZ21⟩ := h9
                              refine g_if_eq (tgt := 286) X dL_law_262 (by decide) (fun c22 => absurd c22 (by decide)) (fun c22 => ?_)
                              refine g_aload_n X dL_law_265 rfl 5 rfl ?_
                              have hDq : Dp (0 + 1) (wL v2 Z21) (v1.1 0) := hDp
                              obtain ⟨eu, hu0, hud⟩ := Dp.undo hDq
                              have hju := j_undo hJZ21
                              have hcu := c_L_undo κ.l hl κ.Γ M1 A (wL v2 Z21) hB hJZ21.inv hju.1
                              have hju := hju.2
                              rw [eu] at hju hcu
                              refine g_cW X dL_law_266 (As := [.ref (A 313)]) (A := A) (w' := (wUndo (wL v2 Z21))) (v := .int ((wL v2 Z21).2.2.2.2 2 - 1)) hcu Fr.rf k5040 k1069 k0 k5041 ⟨by decide, by decide, (show (parseMethodDescriptor yL_undo.desc).map (fun d => d.parameters.length) = some 1 by decide +kernel)⟩ rfl (Nat.le_of_ble_eq_true rfl) (by rw [hRm]; decide) (by rw [hRm]; exact ⟨by (show _ ≤ 672955); omega, by (show _ ≤ 7069343); omega⟩) (fun M1 hB hF => ?_)
                              refine g_if_lt (tgt := 286) X dL_law_269 (by decide) (fun c23 => absurd c23 (Int32.not_lt.mpr hu0)) (fun c23 => ?_)
                              refine g_locs [1, 2, 3, 4, 5, 6] (L' := [(7, .int (nI t)), (6, .int ((v1.1 0).1 3)), (4, .long (dgH (v1.1 0))), (3, .int 1), (1, .ref (A 313)), (0, .ref (scA κ.Γ))]) rfl ?_
                              refine g_widen (k := 190000 + 3100 * t + 1780) (n := 1200000 + 18600 * t + 10680) (by omega) (by omega) ?_
                              exact jn _ M1 hju ⟨hud.zero, hs2, hs0, hst0⟩ hB
                      refine g_locs [0, 1, 2, 3, 5, 6] (L' := [(7, .int 0), (6, .int ((v1.1 0).1 3)), (4, .long (dgH (v1.1 0))), (3, .int 1), (1, .ref (A 313)), (0, .ref (scA κ.Γ))]) rfl ?_
                      refine g_widen (k := 190000 + 3100 * 0) (n := 1200000 + 18600 * 0) (by omega) (by omega) ?_
                      exact lp7 _ 0 (pSave v1).2 M1 (Nat.lt_succ_self _) (Nat.zero_le _) (j_save hJ1) (⟨rfl, rfl, rfl, ht1⟩) hB
                    · have hlt : i < a := lt_N (by omega) (by omega) rfl c6
                      refine g_aload_n X dL_law_150 rfl 2 rfl ?_
                      refine g_cS X dL_law_151 (As := [.ref (A 313)]) (A := A) (c_L_digest' κ.l hl κ.Γ M1 A v hB hJv) Fr.rf k5077 k5078 k0 k5079 ⟨by decide, by decide, (show (parseMethodDescriptor yL_digest.desc).map (fun d => d.parameters.length) = some 1 by decide +kernel)⟩ rfl (Nat.le_of_ble_eq_true rfl) (by rw [hRm]; decide) (by rw [hRm]; exact ⟨by (show _ ≤ 672955); omega, by (show _ ≤ 7069343); omega⟩) (fun vd wd M1 h9 hB hF => ?_)
                      obtain ⟨rfl, e9w⟩ := h9
                      rw [e9w] at hB
                      refine g_lstore (L' := [(4, .long (dgH (v.1 0))), (3, .int (nI i)), (2, .int (nI a)), (1, .ref (A 313)), (0, .ref (scA κ.Γ))]) X dL_law_154 (by rw [hnL]; decide) rfl ?_
                      refine g_aload_n X dL_law_156 rfl 3 rfl ?_
                      refine g_aload_n X dL_law_157 rfl 4 rfl ?_
                      refine g_iload_n X dL_law_158 rfl 1 rfl ?_
                      refine g_cC X dL_law_159 hl k5005 k5006 k0 k5007 ⟨by decide, by decide, (show (parseMethodDescriptor yL_cell.desc).map (fun d => d.parameters.length) = some 2 by decide +kernel)⟩ rfl (Nat.le_of_ble_eq_true rfl) (by rw [hRm]; decide) (by rw [hRm]; exact ⟨by (show _ ≤ 672955); omega, by (show _ ≤ 7069343); omega⟩) (fun z24 => ?_)
                      refine g_cS X dL_law_162 (As := [.ref (A 313), .int z24]) (A := A) (c_L_act κ.l hl κ.Γ M1 A v hB hJv z24) Fr.rf k5055 k5056 k0 k5057 ⟨by decide, by decide, (show (parseMethodDescriptor yL_act.desc).map (fun d => d.parameters.length) = some 2 by decide +kernel)⟩ rfl (Nat.le_of_ble_eq_true rfl) (by rw [hRm]; decide) (by rw [hRm]; exact ⟨by (show _ ≤ 672955); omega, by (show _ ≤ 7069343); omega⟩) (fun v9 w9 M1 h9 hB hF => ?_)
                      obtain ⟨hJ9, n9, rfl, hn9⟩ := h9
                      refine g_ldc (v := (-100000000)) X dL_law_165 k5015 ?_
                      refine g_icmp_ne (tgt := 182) X dL_law_167 (by decide) (fun c25 => ?_) (fun c25 => ?_)
                      · refine g_iinc (k := 1) (v := (nI (i + 1))) (L' := [(3, .int (nI (i + 1))), (4, .long (dgH (v.1 0))), (2, .int (nI a)), (1, .ref (A 313)), (0, .ref (scA κ.Γ))]) X dL_law_182 rfl (nI_1 _) (by rw [hnL]; decide) rfl ?_
                        refine g_goto (tgt := 145) X dL_law_185 (by decide) ?_
                        refine g_locs [0, 2, 3, 4] (L' := [(3, .int (nI (i + 1))), (2, .int (nI a)), (1, .ref (A 313)), (0, .ref (scA κ.Γ))]) rfl ?_
                        refine g_widen (k := 2000 + 2800 * (i + 1)) (n := 16000 + 16800 * (i + 1)) (by omega) (by omega) ?_
                        exact ih145 (i + 1) w9 M1 (by omega) (by omega) hJ9 hB
                      · refine g_aload_n X dL_law_170 rfl 3 rfl ?_
                        refine g_cS X dL_law_171 (As := [.ref (A 313)]) (A := A) (c_L_digest' κ.l hl κ.Γ M1 A w9 hB hJ9) Fr.rf k5077 k5078 k0 k5079 ⟨by decide, by decide, (show (parseMethodDescriptor yL_digest.desc).map (fun d => d.parameters.length) = some 1 by decide +kernel)⟩ rfl (Nat.le_of_ble_eq_true rfl) (by rw [hRm]; decide) (by rw [hRm]; exact ⟨by (show _ ≤ 672955); omega, by (show _ ≤ 7069343); omega⟩) (fun vd wd M1 h9 hB hF => ?_)
                        obtain ⟨rfl, e9w⟩ := h9
                        rw [e9w] at hB
                        refine g_lload X dL_law_174 0 rfl ?_
                        refine g_lcmp X dL_law_176 ?_
                        refine g_if_eq (tgt := 182) X dL_law_177 (by decide) (fun c26 => ?_) (fun c26 => absurd (by rw [hn9 c25]; exact lg_cmp_self _) c26)
                        refine g_iinc (k := 1) (v := (nI (i + 1))) (L' := [(3, .int (nI (i + 1))), (4, .long (dgH (v.1 0))), (2, .int (nI a)), (1, .ref (A 313)), (0, .ref (scA κ.Γ))]) X dL_law_182 rfl (nI_1 _) (by rw [hnL]; decide) rfl ?_
                        refine g_goto (tgt := 145) X dL_law_185 (by decide) ?_
                        refine g_locs [0, 2, 3, 4] (L' := [(3, .int (nI (i + 1))), (2, .int (nI a)), (1, .ref (A 313)), (0, .ref (scA κ.Γ))]) rfl ?_
                        refine g_widen (k := 2000 + 2800 * (i + 1)) (n := 16000 + 16800 * (i + 1)) (by omega) (by omega) ?_
                        exact ih145 (i + 1) w9 M1 (by omega) (by omega) hJ9 hB
                refine g_locs [0, 1, 2, 3] (L' := [(3, .int 0), (2, .int (nI a)), (1, .ref (A 313)), (0, .ref (scA κ.Γ))]) rfl ?_
                refine g_widen (k := 2000 + 2800 * 0) (n := 16000 + 16800 * 0) (by omega) (by omega) ?_
                exact lp5 _ 0 v M1 (Nat.lt_succ_self _) (Nat.zero_le _) hJv hB
              refine g_aload_n X dL_law_128 rfl 2 rfl ?_
              refine g_scrN X dL_law_129 ?_
              refine g_bipush (v := 36) X dL_law_130 (by decide) ?_
              refine g_icmp_ge (tgt := 140) X dL_law_132 (by decide) (fun c27 => ?_) (fun c27 => ?_)
              · refine g_bipush (v := 36) X dL_law_140 (by decide) ?_
                refine g_istore_n (L' := [(2, .int 36), (1, .ref (A 313)), (0, .ref (scA κ.Γ))]) X dL_law_142 rfl (by rw [hnL]; decide) rfl ?_
                refine g_locs [0, 1, 2] (L' := [(2, .int (nI 36)), (1, .ref (A 313)), (0, .ref (scA κ.Γ))]) rfl ?_
                refine g_widen (k := 2000) (n := 16000) (by omega) (by omega) ?_
                exact acts 36 v M1 (by decide) hJv hB
              · refine g_aload_n X dL_law_135 rfl 2 rfl ?_
                refine g_scrN X dL_law_136 ?_
                refine g_goto (tgt := 142) X dL_law_137 (by decide) ?_
                refine g_istore_n (L' := [(2, .int (nI (scN κ.Γ))), (1, .ref (A 313)), (0, .ref (scA κ.Γ))]) X dL_law_142 rfl (by rw [hnL]; decide) rfl ?_
                refine g_locs [0, 1, 2] (L' := [(2, .int (nI (scN κ.Γ))), (1, .ref (A 313)), (0, .ref (scA κ.Γ))]) rfl ?_
                refine g_widen (k := 2000) (n := 16000) (by omega) (by omega) ?_
                exact acts (scN κ.Γ) v M1 (by have h260 : scN κ.Γ ≤ 260 := (cx_txs X).2.2.2; have h36 : ¬ (36 : Nat) ≤ scN κ.Γ := fun z => c27 ((nI_leI (a := 36) (by decide) (by omega)).mpr z); omega) hJv hB
            · have hlt : j < 2 := lt_N (a := 2) (by decide) (by omega) rfl c4
              refine g_aload_n X dL_law_65 rfl 1 rfl ?_
              refine g_iload_n X dL_law_66 rfl 0 rfl ?_
              refine g_aload_n X dL_law_67 rfl 2 rfl ?_
              refine g_iload_n X dL_law_68 rfl 0 rfl ?_
              refine g_cC X dL_law_69 hl k5005 k5006 k0 k5007 ⟨by decide, by decide, (show (parseMethodDescriptor yL_cell.desc).map (fun d => d.parameters.length) = some 2 by decide +kernel)⟩ rfl (Nat.le_of_ble_eq_true rfl) (by rw [hRm]; decide) (by rw [hRm]; exact ⟨by (show _ ≤ 672955); omega, by (show _ ≤ 7069343); omega⟩) (fun z28 => ?_)
              refine g_iconst (v := 5) X dL_law_72 (by decide) ?_
              refine g_ishr X dL_law_73 ?_
              refine g_bipush (v := 31) X dL_law_74 (by decide) ?_
              refine g_iand X dL_law_76 ?_
              refine g_bipush (v := 31) X dL_law_77 (by decide) ?_
              refine g_aload_n X dL_law_79 rfl 2 rfl ?_
              refine g_iload_n X dL_law_80 rfl 0 rfl ?_
              refine g_iconst (v := 1) X dL_law_81 (by decide) ?_
              refine g_iadd X dL_law_82 ?_
              refine g_cC X dL_law_83 hl k5005 k5006 k0 k5007 ⟨by decide, by decide, (show (parseMethodDescriptor yL_cell.desc).map (fun d => d.parameters.length) = some 2 by decide +kernel)⟩ rfl (Nat.le_of_ble_eq_true rfl) (by rw [hRm]; decide) (by rw [hRm]; exact ⟨by (show _ ≤ 672955); omega, by (show _ ≤ 7069343); omega⟩) (fun z29 => ?_)
              refine g_iconst (v := 4) X dL_law_86 (by decide) ?_
              refine g_ishr X dL_law_87 ?_
              refine g_bipush (v := 31) X dL_law_88 (by decide) ?_
              refine g_iand X dL_law_90 ?_
              refine g_iadd X dL_law_91 ?_
              refine g_cW X dL_law_92 (As := [.ref (A 313), .int (nI j), .int ((shr z28 5) &&& 31), .int (31 + ((shr z29 4) &&& 31))]) (A := A) (w' := ((pIntroduce v (nI j) ((shr z28 5) &&& 31) (31 + ((shr z29 4) &&& 31))).2)) (v := .int (wI (-100000000) (pIntroduce v (nI j) ((shr z28 5) &&& 31) (31 + ((shr z29 4) &&& 31))).1)) (c_L_introduce κ.l hl κ.Γ M1 A v hB hJv.inv (nI j) ((shr z28 5) &&& 31) (31 + ((shr z29 4) &&& 31)) (j_introduce hJv (nI j) ((shr z28 5) &&& 31) (31 + ((shr z29 4) &&& 31))).1) Fr.rf k5023 k562 k0 k5024 ⟨by decide, by decide, (show (parseMethodDescriptor yL_introduce.desc).map (fun d => d.parameters.length) = some 4 by decide +kernel)⟩ rfl (Nat.le_of_ble_eq_true rfl) (by rw [hRm]; decide) (by rw [hRm]; exact ⟨by (show _ ≤ 672955); omega, by (show _ ≤ 7069343); omega⟩) (fun M1 hB hF => ?_)
              refine g_pop X dL_law_95 rfl ?_
              refine g_ex (P := fun v => J v ∧ BRep κ.Γ A v M1) ⟨(j_introduce hJv (nI j) ((shr z28 5) &&& 31) (31 + ((shr z29 4) &&& 31))).2, hB⟩ (fun v ⟨hJv, hB⟩ => ?_)
              refine g_aload_n X dL_law_96 rfl 1 rfl ?_
              refine g_iload_n X dL_law_97 rfl 0 rfl ?_
              refine g_iload_n X dL_law_98 rfl 0 rfl ?_
              refine g_iconst (v := 1) X dL_law_99 (by decide) ?_
              refine g_iadd X dL_law_100 ?_
              refine g_aload_n X dL_law_101 rfl 2 rfl ?_
              refine g_iload_n X dL_law_102 rfl 0 rfl ?_
              refine g_cC X dL_law_103 hl k5005 k5006 k0 k5007 ⟨by decide, by decide, (show (parseMethodDescriptor yL_cell.desc).map (fun d => d.parameters.length) = some 2 by decide +kernel)⟩ rfl (Nat.le_of_ble_eq_true rfl) (by rw [hRm]; decide) (by rw [hRm]; exact ⟨by (show _ ≤ 672955); omega, by (show _ ≤ 7069343); omega⟩) (fun z30 => ?_)
              refine g_iconst (v := 3) X dL_law_106 (by decide) ?_
              refine g_ishr X dL_law_107 ?_
              refine g_bipush (v := 63) X dL_law_108 (by decide) ?_
              refine g_iand X dL_law_110 ?_
              refine g_cW X dL_law_111 (As := [.ref (A 313), .int (nI j), .int ((nI j) + 1), .int ((shr z30 3) &&& 63)]) (A := A) (w' := ((pPropose v (nI j) ((nI j) + 1) ((shr z30 3) &&& 63)).2)) (v := .int (wI (-100000000) (pPropose v (nI j) ((nI j) + 1) ((shr z30 3) &&& 63)).1)) (c_L_propose κ.l hl κ.Γ M1 A v hB hJv.inv (nI j) ((nI j) + 1) ((shr z30 3) &&& 63) (j_propose hJv (nI j) ((nI j) + 1) ((shr z30 3) &&& 63)).1) Fr.rf k5030 k734 k0 k5031 ⟨by decide, by decide, (show (parseMethodDescriptor yL_propose.desc).map (fun d => d.parameters.length) = some 4 by decide +kernel)⟩ rfl (Nat.le_of_ble_eq_true rfl) (by rw [hRm]; decide) (by rw [hRm]; exact ⟨by (show _ ≤ 672955); omega, by (show _ ≤ 7069343); omega⟩) (fun M1 hB hF => ?_)
              refine g_pop X dL_law_114 rfl ?_
              refine g_ex (P := fun v => J v ∧ BRep κ.Γ A v M1) ⟨(j_propose hJv (nI j) ((nI j) + 1) ((shr z30 3) &&& 63)).2, hB⟩ (fun v ⟨hJv, hB⟩ => ?_)
              refine g_aload_n X dL_law_115 rfl 1 rfl ?_
              refine g_iload_n X dL_law_116 rfl 0 rfl ?_
              refine g_iconst (v := 2) X dL_law_117 (by decide) ?_
              refine g_cW X dL_law_118 (As := [.ref (A 313), .int (nI j), .int 2]) (A := A) (w' := ((pVoteFor v (nI j) 2).2)) (v := .int (wI (-100000000) (pVoteFor v (nI j) 2).1)) (c_L_voteFor κ.l hl κ.Γ M1 A v hB hJv.inv (nI j) 2 (j_voteFor hJv (nI j) 2).1) Fr.rf k5027 k665 k0 k5028 ⟨by decide, by decide, (show (parseMethodDescriptor yL_voteFor.desc).map (fun d => d.parameters.length) = some 3 by decide +kernel)⟩ rfl (Nat.le_of_ble_eq_true rfl) (by rw [hRm]; decide) (by rw [hRm]; exact ⟨by (show _ ≤ 672955); omega, by (show _ ≤ 7069343); omega⟩) (fun M1 hB hF => ?_)
              refine g_pop X dL_law_121 rfl ?_
              refine g_ex (P := fun v => J v ∧ BRep κ.Γ A v M1) ⟨(j_voteFor hJv (nI j) 2).2, hB⟩ (fun v ⟨hJv, hB⟩ => ?_)
              refine g_iinc (k := 0) (v := (nI (j + 1))) (L' := [(2, .int (nI (j + 1))), (1, .ref (A 313)), (0, .ref (scA κ.Γ))]) X dL_law_122 rfl (nI_1 _) (by rw [hnL]; decide) rfl ?_
              refine g_goto (tgt := 60) X dL_law_125 (by decide) ?_
              refine g_locs [0, 1, 2] (L' := [(2, .int (nI (j + 1))), (1, .ref (A 313)), (0, .ref (scA κ.Γ))]) rfl ?_
              refine g_widen (k := 1100 + 20 * (j + 1)) (n := 10600 + 120 * (j + 1)) (by omega) (by omega) ?_
              exact ih60 (j + 1) v M1 (by omega) (by omega) hJv hB
        refine g_locs [0, 1, 2] (L' := [(2, .int 0), (1, .ref (A 313)), (0, .ref (scA κ.Γ))]) rfl ?_
        refine g_widen (k := 1100 + 20 * 0) (n := 10600 + 120 * 0) (by omega) (by omega) ?_
        exact lp3 _ 0 v M1 (Nat.lt_succ_self _) (Nat.zero_le _) hJv hB
      · have hlt : k < 6 := lt_N (a := 6) (by decide) (by omega) rfl c2
        refine g_aload_n X dL_law_16 rfl 1 rfl ?_
        refine g_aload_n X dL_law_17 rfl 2 rfl ?_
        refine g_iload_n X dL_law_18 rfl 0 rfl ?_
        refine g_cC X dL_law_19 hl k5005 k5006 k0 k5007 ⟨by decide, by decide, (show (parseMethodDescriptor yL_cell.desc).map (fun d => d.parameters.length) = some 2 by decide +kernel)⟩ rfl (Nat.le_of_ble_eq_true rfl) (by rw [hRm]; decide) (by rw [hRm]; exact ⟨by (show _ ≤ 672955); omega, by (show _ ≤ 7069343); omega⟩) (fun z31 => ?_)
        refine g_iconst (v := 4) X dL_law_22 (by decide) ?_
        refine g_ishr X dL_law_23 ?_
        refine g_iconst (v := 3) X dL_law_24 (by decide) ?_
        refine g_iand X dL_law_25 ?_
        refine g_iconst (v := 1) X dL_law_26 (by decide) ?_
        refine g_aload_n X dL_law_27 rfl 2 rfl ?_
        refine g_iload_n X dL_law_28 rfl 0 rfl ?_
        refine g_cC X dL_law_29 hl k5005 k5006 k0 k5007 ⟨by decide, by decide, (show (parseMethodDescriptor yL_cell.desc).map (fun d => d.parameters.length) = some 2 by decide +kernel)⟩ rfl (Nat.le_of_ble_eq_true rfl) (by rw [hRm]; decide) (by rw [hRm]; exact ⟨by (show _ ≤ 672955); omega, by (show _ ≤ 7069343); omega⟩) (fun z32 => ?_)
        refine g_bipush (v := 6) X dL_law_32 (by decide) ?_
        refine g_ishr X dL_law_34 ?_
        refine g_bipush (v := 63) X dL_law_35 (by decide) ?_
        refine g_iand X dL_law_37 ?_
        refine g_bipush (v := 7) X dL_law_38 (by decide) ?_
        refine g_irem X dL_law_40 (by decide) ?_
        refine g_iadd X dL_law_41 ?_
        refine g_cW X dL_law_42 (As := [.ref (A 313), .int ((shr z31 4) &&& 3), .int (1 + (irm ((shr z32 6) &&& 63) 7))]) (A := A) (w' := ((pAddMember v ((shr z31 4) &&& 3) (1 + (irm ((shr z32 6) &&& 63) 7))).2)) (v := .int (wI (-100000000) (pAddMember v ((shr z31 4) &&& 3) (1 + (irm ((shr z32 6) &&& 63) 7))).1)) (c_L_addMember κ.l hl κ.Γ M1 A v hB hJv.inv ((shr z31 4) &&& 3) (1 + (irm ((shr z32 6) &&& 63) 7)) (j_addMember hJv ((shr z31 4) &&& 3) (1 + (irm ((shr z32 6) &&& 63) 7))).1) Fr.rf k5009 k287 k0 k5010 ⟨by decide, by decide, (show (parseMethodDescriptor yL_addMember.desc).map (fun d => d.parameters.length) = some 3 by decide +kernel)⟩ rfl (Nat.le_of_ble_eq_true rfl) (by rw [hRm]; decide) (by rw [hRm]; exact ⟨by (show _ ≤ 672955); omega, by (show _ ≤ 7069343); omega⟩) (fun M1 hB hF => ?_)
        refine g_pop X dL_law_45 rfl ?_
        refine g_ex (P := fun v => J v ∧ BRep κ.Γ A v M1) ⟨(j_addMember hJv ((shr z31 4) &&& 3) (1 + (irm ((shr z32 6) &&& 63) 7))).2, hB⟩ (fun v ⟨hJv, hB⟩ => ?_)
        refine g_aload_n X dL_law_46 rfl 1 rfl ?_
        refine g_iload_n X dL_law_47 rfl 0 rfl ?_
        refine g_cW X dL_law_48 (As := [.ref (A 313), .int (nI k)]) (A := A) (w' := ((pEnter v (nI k)).2)) (v := .int (wI (-100000000) (pEnter v (nI k)).1)) (c_L_enter κ.l hl κ.Γ M1 A v hB hJv.inv (nI k) (j_enter hJv (nI k)).1) Fr.rf k5017 k478 k0 k5018 ⟨by decide, by decide, (show (parseMethodDescriptor yL_enter.desc).map (fun d => d.parameters.length) = some 2 by decide +kernel)⟩ rfl (Nat.le_of_ble_eq_true rfl) (by rw [hRm]; decide) (by rw [hRm]; exact ⟨by (show _ ≤ 672955); omega, by (show _ ≤ 7069343); omega⟩) (fun M1 hB hF => ?_)
        refine g_pop X dL_law_51 rfl ?_
        refine g_ex (P := fun v => J v ∧ BRep κ.Γ A v M1) ⟨(j_enter hJv (nI k)).2, hB⟩ (fun v ⟨hJv, hB⟩ => ?_)
        refine g_iinc (k := 0) (v := (nI (k + 1))) (L' := [(2, .int (nI (k + 1))), (1, .ref (A 313)), (0, .ref (scA κ.Γ))]) X dL_law_52 rfl (nI_1 _) (by rw [hnL]; decide) rfl ?_
        refine g_goto (tgt := 10) X dL_law_55 (by decide) ?_
        refine g_locs [0, 1, 2] (L' := [(2, .int (nI (k + 1))), (1, .ref (A 313)), (0, .ref (scA κ.Γ))]) rfl ?_
        refine g_widen (k := 1000 + 10 * (k + 1)) (n := 10000 + 60 * (k + 1)) (by omega) (by omega) ?_
        exact ih10 (k + 1) v M1 (by omega) (by omega) hJv hB
  refine g_locs [0, 1, 2] (L' := [(2, .int 0), (1, .ref (A 313)), (0, .ref (scA κ.Γ))]) rfl ?_
  refine g_widen (k := 1000 + 10 * 0) (n := 10000 + 60 * 0) (by omega) (by omega) ?_
  exact lp1 _ 0 bZ M1 (Nat.lt_succ_self _) (Nat.zero_le _) hJ hB
