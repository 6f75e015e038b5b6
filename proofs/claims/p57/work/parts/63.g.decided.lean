theorem nI_sub {p s : Nat} (h : s ≤ p) : nI p - nI s = nI (p - s) := by
  have e := nI_add (p - s) s
  rw [show p - s + s = p by omega] at e
  rw [← e]
  exact Int32.add_sub_cancel _ _
set_option maxRecDepth 100000 in
set_option maxHeartbeats 4000000 in
theorem c_L_isDecided (l : Launch) (hl : l.stackTraces = false) (Γ : Gm) (M : Hp) (A : Nat → Nat) (w : PV) (hB : BRep Γ A w M) (hJ : J w) (k : Nat) (hk8 : k < 8) (hb : hasB (w.1 0) (nI k)) : Ct l Γ yL_isDecided cL_isDecided 13 (some .boolean) 7 5100 30600 [.ref (A 313), .int (nI k)] M (LwP Γ A M (fun v w' => v = some (.int 1) ∧ J w' ∧ KQ w w')) := by
  refine Ct.of hl (by decide) (Nat.le_of_ble_eq_true rfl) rfl ?_
  intro κ e1 e2 hnL hRm X F hlt
  subst e1 e2
  obtain ⟨m, n, u, q⟩ := hJ.hs
  have en : (w.1 0).1 3 = nI n := q.2.2.1.1
  obtain ⟨hm, hn⟩ := q.1
  have ec : cN (nI k) = k := cN_nI (by omega)
  obtain ⟨-, -, ⟨p, hp, ep, -⟩, -⟩ := q.bl hk8
  have hal := al_e q
  refine g_aload_n X dL_isDecided_0 rfl 0 rfl ?_
  refine g_cS X dL_isDecided_1 (As := [.ref (A 313)]) (A := A) (c_L_digest' κ.l hl κ.Γ M A w hB hJ) (Fr.rf : Fr A 315 M M) k5077 k5078 k0 k5079 ⟨by decide, by decide, (show (parseMethodDescriptor yL_digest.desc).map (fun d => d.parameters.length) = some 1 by decide +kernel)⟩ rfl (Nat.le_of_ble_eq_true rfl) (by rw [hRm]; decide) (by rw [hRm]; exact ⟨by (show _ ≤ 5100); omega, by (show _ ≤ 30600); omega⟩) (fun vd wd M1 h9 hB hF => ?_)
  obtain ⟨rfl, e9w⟩ := h9
  rw [e9w] at hB
  refine g_lstore_n (L' := [(2, .long (dgH (w.1 0))), (0, .ref (A 313)), (1, .int (nI k))]) X dL_isDecided_4 rfl (by rw [hnL]; decide) rfl ?_
  refine g_aload_n X dL_isDecided_5 rfl 1 rfl ?_
  refine g_iload_n X dL_isDecided_6 rfl 2 rfl ?_
  refine g_cV X dL_isDecided_7 (As := [.int (nI k)]) (A := A) (w := w) (w' := w) (v := .int ((w.1 0).2.1 8 (cN (nI k)))) (Ct.gy hb (c_X3_pendingCount κ.l hl κ.Γ M1 A w hB hJ.inv (nI k))) hB hF k5096 k786 k787 k1 k788 ⟨rfl, by decide, by decide, (show (parseMethodDescriptor yX3_pendingCount.desc).map (fun d => d.parameters.length) = some 1 by decide +kernel)⟩ rfl (Nat.le_of_ble_eq_true rfl) (by rw [hRm]; decide) (by rw [hRm]; exact ⟨by (show _ ≤ 5100); omega, by (show _ ≤ 30600); omega⟩) (fun M1 hB hF => ?_)
  refine g_lit (y := nI p) (by rw [ec]; exact ep) ?_
  refine g_istore (L' := [(4, .int (nI p)), (2, .long (dgH (w.1 0))), (0, .ref (A 313)), (1, .int (nI k))]) X dL_isDecided_10 (by rw [hnL]; decide) rfl ?_
  refine g_iconst (v := 0) X dL_isDecided_12 (by decide) ?_
  refine g_istore (L' := [(5, .int 0), (4, .int (nI p)), (2, .long (dgH (w.1 0))), (0, .ref (A 313)), (1, .int (nI k))]) X dL_isDecided_13 (by rw [hnL]; decide) rfl ?_
  refine g_iconst (v := 0) X dL_isDecided_15 (by decide) ?_
  refine g_istore (L' := [(6, .int 0), (5, .int 0), (4, .int (nI p)), (2, .long (dgH (w.1 0))), (0, .ref (A 313)), (1, .int (nI k))]) X dL_isDecided_16 (by rw [hnL]; decide) rfl ?_
  refine g_iconst (v := 1) X dL_isDecided_18 (by decide) ?_
  refine g_istore (L' := [(7, .int 1), (6, .int 0), (5, .int 0), (4, .int (nI p)), (2, .long (dgH (w.1 0))), (0, .ref (A 313)), (1, .int (nI k))]) X dL_isDecided_19 (by rw [hnL]; decide) rfl ?_
  refine g_iconst (v := 0) X dL_isDecided_21 (by decide) ?_
  refine g_istore (L' := [(8, .int 0), (7, .int 1), (6, .int 0), (5, .int 0), (4, .int (nI p)), (2, .long (dgH (w.1 0))), (0, .ref (A 313)), (1, .int (nI k))]) X dL_isDecided_22 (by rw [hnL]; decide) rfl ?_
  have lp1 : ∀ (n9 : Nat) (t : Nat) (M1 : Hp), 4 - t < n9 → t ≤ 4 → BRep κ.Γ A w M1 → Fr A 315 M M1 → G κ M1 (1310 + 3 * t) (7860 + 18 * t) [(8, .int (nI t)), (7, .int 1), (6, .int (alN (w.1 0) t)), (5, .int 0), (4, .int (nI p)), (2, .long (dgH (w.1 0))), (1, .int (nI k)), (0, .ref (A 313))] 24 [] := by
    intro n9
    induction n9 with
    | zero => intro t M1 h9; exact absurd h9 (Nat.not_lt_zero _)
    | succ n9 ih24 =>
      intro t M1 hn9_24 ht hB hF
      refine g_iload X dL_isDecided_24 0 rfl ?_
      refine g_iconst (v := 4) X dL_isDecided_26 (by decide) ?_
      refine g_icmp_ge (tgt := 47) X dL_isDecided_27 (by decide) (fun c2 => ?_) (fun c2 => ?_)
      · have hte : t = 4 := Nat.le_antisymm ht (ge_N (a := 4) (by decide) (by omega) rfl c2)
        subst hte
        have fin2 : ∀ (mk : Nat) (v : PV) (M1 : Hp), mk ≤ 5 → J v → KS w v → Dp mk v (w.1 0) → BRep κ.Γ A v M1 → Fr A 315 M M1 → G κ M1 3600 21600 [(5, .int (nI mk)), (7, .int 1), (2, .long (dgH (w.1 0))), (1, .int (nI k)), (0, .ref (A 313))] 364 [] := by
          intro mk v M1 hmk hJv hKS0 hDp0 hB hF
          refine g_iconst (v := 0) X dL_isDecided_364 (by decide) ?_
          refine g_istore (L' := [(12, .int 0), (5, .int (nI mk)), (7, .int 1), (2, .long (dgH (w.1 0))), (1, .int (nI k)), (0, .ref (A 313))]) X dL_isDecided_365 (by rw [hnL]; decide) rfl ?_
          have lp3 : ∀ (n9 : Nat) (r : Nat) (v : PV) (M1 : Hp), mk - r < n9 → r ≤ mk → J v → KS w v → Dp (mk - r) v (w.1 0) → BRep κ.Γ A v M1 → Fr A 315 M M1 → G κ M1 (3600 + 3 * r) (21600 + 18 * r) [(12, .int (nI r)), (7, .int 1), (5, .int (nI mk)), (2, .long (dgH (w.1 0))), (1, .int (nI k)), (0, .ref (A 313))] 367 [] := by
            intro n9
            induction n9 with
            | zero => intro r v M1 h9; exact absurd h9 (Nat.not_lt_zero _)
            | succ n9 ih367 =>
              intro r v M1 hn9_367 hrm hJv hKS hDp hB hF
              refine g_iload X dL_isDecided_367 0 rfl ?_
              refine g_iload X dL_isDecided_369 2 rfl ?_
              refine g_icmp_ge (tgt := 399) X dL_isDecided_371 (by decide) (fun c4 => ?_) (fun c4 => ?_)
              · have hse : r = mk := Nat.le_antisymm hrm (ge_N (by omega) (by omega) rfl c4)
                subst hse
                rw [Nat.sub_self] at hDp
                have hH := hDp.zero
                refine g_iload X dL_isDecided_399 1 rfl ?_
                refine g_if_eq (tgt := 417) X dL_isDecided_401 (by decide) (fun c5 => absurd c5 (by decide)) (fun c5 => ?_)
                refine g_aload_n X dL_isDecided_404 rfl 5 rfl ?_
                refine g_cS X dL_isDecided_405 (As := [.ref (A 313)]) (A := A) (c_L_digest' κ.l hl κ.Γ M1 A v hB hJv) hF k5077 k5078 k0 k5079 ⟨by decide, by decide, (show (parseMethodDescriptor yL_digest.desc).map (fun d => d.parameters.length) = some 1 by decide +kernel)⟩ rfl (Nat.le_of_ble_eq_true rfl) (by rw [hRm]; decide) (by rw [hRm]; exact ⟨by (show _ ≤ 5100); omega, by (show _ ≤ 30600); omega⟩) (fun vd wd M1 h9 hB hF => ?_)
                obtain ⟨rfl, e9w⟩ := h9
                rw [e9w] at hB
                refine g_lload_n X dL_isDecided_408 rfl 3 rfl ?_
                refine g_lcmp X dL_isDecided_409 ?_
                refine g_if_ne (tgt := 417) X dL_isDecided_410 (by decide) (fun c6 => absurd c6 (pN (by rw [hH]; exact lg_cmp_self _))) (fun c6 => ?_)
                refine g_iconst (v := 1) X dL_isDecided_413 (by decide) ?_
                refine g_goto (tgt := 418) X dL_isDecided_414 (by decide) ?_
                exact g_zret X F dL_isDecided_418 (by omega) (by omega) rfl ⟨_, _, rfl, ⟨rfl, hJv, hH, hKS⟩, hB, hF⟩
              · have hls : r < mk := lt_N (by omega) (by omega) rfl c4
                have hDq : Dp (mk - r - 1 + 1) v (w.1 0) := by rw [show mk - r - 1 + 1 = mk - r by omega]; exact hDp
                refine g_iload X dL_isDecided_374 1 rfl ?_
                refine g_if_eq (tgt := 390) X dL_isDecided_376 (by decide) (fun c7 => absurd c7 (by decide)) (fun c7 => ?_)
                refine g_aload_n X dL_isDecided_379 rfl 5 rfl ?_
                obtain ⟨eu, hu0, hud⟩ := Dp.undo hDq
                have hju := j_undo hJv
                have hcu := c_L_undo κ.l hl κ.Γ M1 A v hB hJv.inv hju.1
                have hju := hju.2
                rw [eu] at hju hcu
                refine g_cW X dL_isDecided_380 (As := [.ref (A 313)]) (A := A) (w' := wUndo v) (v := .int (v.2.2.2.2 2 - 1)) hcu hF k5040 k1069 k0 k5041 ⟨by decide, by decide, (show (parseMethodDescriptor yL_undo.desc).map (fun d => d.parameters.length) = some 1 by decide +kernel)⟩ rfl (Nat.le_of_ble_eq_true rfl) (by rw [hRm]; decide) (by rw [hRm]; exact ⟨by (show _ ≤ 5100); omega, by (show _ ≤ 30600); omega⟩) (fun M1 hB hF => ?_)
                refine g_if_lt (tgt := 390) X dL_isDecided_383 (by decide) (fun c8 => absurd c8 (Int32.not_lt.mpr hu0)) (fun c8 => ?_)
                refine g_iconst (v := 1) X dL_isDecided_386 (by decide) ?_
                refine g_goto (tgt := 391) X dL_isDecided_387 (by decide) ?_
                refine g_istore (L' := [(7, .int 1), (12, .int (nI r)), (5, .int (nI mk)), (2, .long (dgH (w.1 0))), (1, .int (nI k)), (0, .ref (A 313))]) X dL_isDecided_391 (by rw [hnL]; decide) rfl ?_
                refine g_iinc (k := 1) (v := (nI (r + 1))) (L' := [(12, .int (nI (r + 1))), (7, .int 1), (5, .int (nI mk)), (2, .long (dgH (w.1 0))), (1, .int (nI k)), (0, .ref (A 313))]) X dL_isDecided_393 rfl (nI_1 _) (by rw [hnL]; decide) rfl ?_
                refine g_goto (tgt := 367) X dL_isDecided_396 (by decide) ?_
                refine g_locs [0, 1, 2, 3, 4, 5] (L' := [(12, .int (nI (r + 1))), (7, .int 1), (5, .int (nI mk)), (2, .long (dgH (w.1 0))), (1, .int (nI k)), (0, .ref (A 313))]) rfl ?_
                refine g_widen (k := 3600 + 3 * (r + 1)) (n := 21600 + 18 * (r + 1)) (by omega) (by omega) ?_
                exact ih367 (r + 1) (wUndo v) M1 (by omega) (by omega) hju (hKS.tr ks_undo) (by rw [show mk - (r + 1) = mk - r - 1 by omega]; exact hud) hB hF
          refine g_locs [0, 2, 1, 3, 4, 5] (L' := [(12, .int 0), (7, .int 1), (5, .int (nI mk)), (2, .long (dgH (w.1 0))), (1, .int (nI k)), (0, .ref (A 313))]) rfl ?_
          refine g_widen (k := 3600 + 3 * 0) (n := 21600 + 18 * 0) (by omega) (by omega) ?_
          exact lp3 _ 0 v M1 (Nat.lt_succ_self _) (Nat.zero_le _) hJv hKS0 hDp0 hB hF
        have fin : ∀ (s : Nat) (v : PV) (M1 : Hp), s ≤ p → J v → DD w v k p s → ((v.1 0).2.1 3 (cN (nI k)) = 0 → hQuor (v.1 0) → s = p) → BRep κ.Γ A v M1 → Fr A 315 M M1 → G κ M1 1700 10200 [(7, .int 1), (5, .int (nI s)), (4, .int (nI p)), (2, .long (dgH (w.1 0))), (1, .int (nI k)), (0, .ref (A 313))] 200 [] := by
          intro s v M1 hsp hJv hDD hex hB hF
          have hbv : hasB (v.1 0) (nI k) := ⟨hb.1, by rw [hDD.2.2.1.2.2.2]; exact hb.2⟩
          refine g_aload_n X dL_isDecided_200 rfl 5 rfl ?_
          refine g_iload_n X dL_isDecided_201 rfl 4 rfl ?_
          refine g_cV X dL_isDecided_202 (As := [.int (nI k)]) (A := A) (w := v) (w' := v) (v := .int (bI ((v.1 0).2.1 3 (cN (nI k)) = 0))) (Ct.gy hbv (c_X3_isOpen κ.l hl κ.Γ M1 A v hB hJv.inv (nI k))) hB hF k5092 k585 k586 k1 k587 ⟨rfl, by decide, by decide, (show (parseMethodDescriptor yX3_isOpen.desc).map (fun d => d.parameters.length) = some 1 by decide +kernel)⟩ rfl (Nat.le_of_ble_eq_true rfl) (by rw [hRm]; decide) (by rw [hRm]; exact ⟨by (show _ ≤ 5100); omega, by (show _ ≤ 30600); omega⟩) (fun M1 hB hF => ?_)
          refine g_ifb_eq (tgt := 219) X dL_isDecided_205 (by decide) (fun c9 => ?_) (fun c9 => ?_)
          · refine g_iconst (v := 0) X dL_isDecided_219 (by decide) ?_
            refine g_istore (L' := [(8, .int 0), (7, .int 1), (5, .int (nI s)), (4, .int (nI p)), (2, .long (dgH (w.1 0))), (1, .int (nI k)), (0, .ref (A 313))]) X dL_isDecided_220 (by rw [hnL]; decide) rfl ?_
            refine g_aload_n X dL_isDecided_222 rfl 6 rfl ?_
            refine g_iload_n X dL_isDecided_223 rfl 5 rfl ?_
            refine g_cV X dL_isDecided_224 (As := [.int (nI k)]) (A := A) (w := v) (w' := v) (v := .int (hW (v.1 0) ((v.1 0).2.1 6 (cN (nI k))))) (Ct.gy hbv (c_X3_weightFor κ.l hl κ.Γ M1 A v hB hJv.inv (nI k))) hB hF k5094 k696 k697 k1 k698 ⟨rfl, by decide, by decide, (show (parseMethodDescriptor yX3_weightFor.desc).map (fun d => d.parameters.length) = some 1 by decide +kernel)⟩ rfl (Nat.le_of_ble_eq_true rfl) (by rw [hRm]; decide) (by rw [hRm]; exact ⟨by (show _ ≤ 5100); omega, by (show _ ≤ 30600); omega⟩) (fun M1 hB hF => ?_)
            refine g_aload_n X dL_isDecided_227 rfl 6 rfl ?_
            refine g_iload_n X dL_isDecided_228 rfl 5 rfl ?_
            refine g_cV X dL_isDecided_229 (As := [.int (nI k)]) (A := A) (w := v) (w' := v) (v := .int (hW (v.1 0) ((v.1 0).2.1 7 (cN (nI k))))) (Ct.gy hbv (c_X3_weightAgainst κ.l hl κ.Γ M1 A v hB hJv.inv (nI k))) hB hF k5095 k710 k711 k1 k712 ⟨rfl, by decide, by decide, (show (parseMethodDescriptor yX3_weightAgainst.desc).map (fun d => d.parameters.length) = some 1 by decide +kernel)⟩ rfl (Nat.le_of_ble_eq_true rfl) (by rw [hRm]; decide) (by rw [hRm]; exact ⟨by (show _ ≤ 5100); omega, by (show _ ≤ 30600); omega⟩) (fun M1 hB hF => ?_)
            refine g_icmp_le (tgt := 239) X dL_isDecided_232 (by decide) (fun c10 => ?_) (fun c10 => ?_)
            · have hns : ¬ sucE (v.1 0) (nI k) := Int32.not_lt.mpr c10
              refine g_iconst (v := 0) X dL_isDecided_239 (by decide) ?_
              refine g_istore (L' := [(9, .int 0), (8, .int 0), (7, .int 1), (5, .int (nI s)), (4, .int (nI p)), (2, .long (dgH (w.1 0))), (1, .int (nI k)), (0, .ref (A 313))]) X dL_isDecided_240 (by rw [hnL]; decide) rfl ?_
              refine g_aload_n X dL_isDecided_242 rfl 7 rfl ?_
              refine g_iload_n X dL_isDecided_243 rfl 6 rfl ?_
              refine g_cV X dL_isDecided_244 (As := [.int (nI k)]) (A := A) (w := v) (w' := v) (v := .int ((v.1 0).2.1 4 (cN (nI k)))) (Ct.gy hbv (c_X3_readings κ.l hl κ.Γ M1 A v hB hJv.inv (nI k))) hB hF k5090 k607 k608 k1 k609 ⟨rfl, by decide, by decide, (show (parseMethodDescriptor yX3_readings.desc).map (fun d => d.parameters.length) = some 1 by decide +kernel)⟩ rfl (Nat.le_of_ble_eq_true rfl) (by rw [hRm]; decide) (by rw [hRm]; exact ⟨by (show _ ≤ 5100); omega, by (show _ ≤ 30600); omega⟩) (fun M1 hB hF => ?_)
              refine g_istore (L' := [(10, .int ((v.1 0).2.1 4 (cN (nI k)))), (9, .int 0), (8, .int 0), (7, .int 1), (5, .int (nI s)), (4, .int (nI p)), (2, .long (dgH (w.1 0))), (1, .int (nI k)), (0, .ref (A 313))]) X dL_isDecided_247 (by rw [hnL]; decide) rfl ?_
              refine g_aload_n X dL_isDecided_249 rfl 8 rfl ?_
              refine g_iload_n X dL_isDecided_250 rfl 7 rfl ?_
              have hcc := c_L_closeReading κ.l hl κ.Γ M1 A v hB hJv.inv (nI k) (j_closeReading hJv (nI k)).1
              obtain ⟨ef1, ef2⟩ := cl_fail hk8 (fun z => c9 z.1) hbv
              rw [ef1, ef2] at hcc
              refine g_cW X dL_isDecided_251 (As := [.ref (A 313), .int (nI k)]) (A := A) (w' := v) (v := .int (-100000000)) hcc hF k5064 k714 k0 k5065 ⟨by decide, by decide, (show (parseMethodDescriptor yL_closeReading.desc).map (fun d => d.parameters.length) = some 2 by decide +kernel)⟩ rfl (Nat.le_of_ble_eq_true rfl) (by rw [hRm]; decide) (by rw [hRm]; exact ⟨by (show _ ≤ 5100); omega, by (show _ ≤ 30600); omega⟩) (fun M1 hB hF => ?_)
              refine g_istore (L' := [(11, .int (-100000000)), (10, .int ((v.1 0).2.1 4 (cN (nI k)))), (9, .int 0), (8, .int 0), (7, .int 1), (5, .int (nI s)), (4, .int (nI p)), (2, .long (dgH (w.1 0))), (1, .int (nI k)), (0, .ref (A 313))]) X dL_isDecided_254 (by rw [hnL]; decide) rfl ?_
              refine g_iload X dL_isDecided_256 4 rfl ?_
              refine g_if_eq (tgt := 346) X dL_isDecided_258 (by decide) (fun c11 => absurd c11 (by decide)) (fun c11 => ?_)
              refine g_iload X dL_isDecided_261 0 rfl ?_
              refine g_ldc (v := (-100000000)) X dL_isDecided_263 k5015 ?_
              refine g_icmp_eq (tgt := 272) X dL_isDecided_265 (by decide) (fun c12 => ?_) (fun c12 => absurd (by decide) c12)
              refine g_iconst (v := 0) X dL_isDecided_272 (by decide) ?_
              refine g_iload X dL_isDecided_273 3 rfl ?_
              refine g_icmp_ne (tgt := 346) X dL_isDecided_275 (by decide) (fun c13 => absurd c13 (by decide)) (fun c13 => ?_)
              refine g_iload X dL_isDecided_278 3 rfl ?_
              refine g_if_eq (tgt := 342) X dL_isDecided_280 (by decide) (fun c14 => ?_) (fun c14 => absurd (by decide) c14)
              refine g_iconst (v := 1) X dL_isDecided_342 (by decide) ?_
              refine g_goto (tgt := 347) X dL_isDecided_343 (by decide) ?_
              refine g_istore (L' := [(7, .int 1), (11, .int (-100000000)), (10, .int ((v.1 0).2.1 4 (cN (nI k)))), (9, .int 0), (8, .int 0), (5, .int (nI s)), (4, .int (nI p)), (2, .long (dgH (w.1 0))), (1, .int (nI k)), (0, .ref (A 313))]) X dL_isDecided_347 (by rw [hnL]; decide) rfl ?_
              refine g_iload X dL_isDecided_349 5 rfl ?_
              refine g_iload X dL_isDecided_351 4 rfl ?_
              refine g_if_eq (tgt := 360) X dL_isDecided_353 (by decide) (fun c15 => ?_) (fun c15 => absurd (by decide) c15)
              refine g_iconst (v := 0) X dL_isDecided_360 (by decide) ?_
              refine g_iadd X dL_isDecided_361 ?_
              refine g_lit (y := nI s) (Int32.add_zero _) ?_
              refine g_istore (L' := [(5, .int (nI s)), (7, .int 1), (11, .int (-100000000)), (10, .int ((v.1 0).2.1 4 (cN (nI k)))), (9, .int 0), (8, .int 0), (4, .int (nI p)), (2, .long (dgH (w.1 0))), (1, .int (nI k)), (0, .ref (A 313))]) X dL_isDecided_362 (by rw [hnL]; decide) rfl ?_
              refine g_locs [0, 1, 7, 8, 9] (L' := [(5, .int (nI s)), (7, .int 1), (2, .long (dgH (w.1 0))), (1, .int (nI k)), (0, .ref (A 313))]) rfl ?_
              refine g_widen (k := 3600) (n := 21600) (by omega) (by omega) ?_
              exact fin2 s v M1 (by omega) hJv hDD.1 hDD.2.1 hB hF
            · have hsu : sucE (v.1 0) (nI k) := Int32.not_le.mp c10
              refine g_iconst (v := 1) X dL_isDecided_235 (by decide) ?_
              refine g_goto (tgt := 240) X dL_isDecided_236 (by decide) ?_
              refine g_istore (L' := [(9, .int 1), (8, .int 0), (7, .int 1), (5, .int (nI s)), (4, .int (nI p)), (2, .long (dgH (w.1 0))), (1, .int (nI k)), (0, .ref (A 313))]) X dL_isDecided_240 (by rw [hnL]; decide) rfl ?_
              refine g_aload_n X dL_isDecided_242 rfl 7 rfl ?_
              refine g_iload_n X dL_isDecided_243 rfl 6 rfl ?_
              refine g_cV X dL_isDecided_244 (As := [.int (nI k)]) (A := A) (w := v) (w' := v) (v := .int ((v.1 0).2.1 4 (cN (nI k)))) (Ct.gy hbv (c_X3_readings κ.l hl κ.Γ M1 A v hB hJv.inv (nI k))) hB hF k5090 k607 k608 k1 k609 ⟨rfl, by decide, by decide, (show (parseMethodDescriptor yX3_readings.desc).map (fun d => d.parameters.length) = some 1 by decide +kernel)⟩ rfl (Nat.le_of_ble_eq_true rfl) (by rw [hRm]; decide) (by rw [hRm]; exact ⟨by (show _ ≤ 5100); omega, by (show _ ≤ 30600); omega⟩) (fun M1 hB hF => ?_)
              refine g_istore (L' := [(10, .int ((v.1 0).2.1 4 (cN (nI k)))), (9, .int 1), (8, .int 0), (7, .int 1), (5, .int (nI s)), (4, .int (nI p)), (2, .long (dgH (w.1 0))), (1, .int (nI k)), (0, .ref (A 313))]) X dL_isDecided_247 (by rw [hnL]; decide) rfl ?_
              refine g_aload_n X dL_isDecided_249 rfl 8 rfl ?_
              refine g_iload_n X dL_isDecided_250 rfl 7 rfl ?_
              have hcc := c_L_closeReading κ.l hl κ.Γ M1 A v hB hJv.inv (nI k) (j_closeReading hJv (nI k)).1
              obtain ⟨ef1, ef2⟩ := cl_fail hk8 (fun z => c9 z.1) hbv
              rw [ef1, ef2] at hcc
              refine g_cW X dL_isDecided_251 (As := [.ref (A 313), .int (nI k)]) (A := A) (w' := v) (v := .int (-100000000)) hcc hF k5064 k714 k0 k5065 ⟨by decide, by decide, (show (parseMethodDescriptor yL_closeReading.desc).map (fun d => d.parameters.length) = some 2 by decide +kernel)⟩ rfl (Nat.le_of_ble_eq_true rfl) (by rw [hRm]; decide) (by rw [hRm]; exact ⟨by (show _ ≤ 5100); omega, by (show _ ≤ 30600); omega⟩) (fun M1 hB hF => ?_)
              refine g_istore (L' := [(11, .int (-100000000)), (10, .int ((v.1 0).2.1 4 (cN (nI k)))), (9, .int 1), (8, .int 0), (7, .int 1), (5, .int (nI s)), (4, .int (nI p)), (2, .long (dgH (w.1 0))), (1, .int (nI k)), (0, .ref (A 313))]) X dL_isDecided_254 (by rw [hnL]; decide) rfl ?_
              refine g_iload X dL_isDecided_256 4 rfl ?_
              refine g_if_eq (tgt := 346) X dL_isDecided_258 (by decide) (fun c16 => absurd c16 (by decide)) (fun c16 => ?_)
              refine g_iload X dL_isDecided_261 0 rfl ?_
              refine g_ldc (v := (-100000000)) X dL_isDecided_263 k5015 ?_
              refine g_icmp_eq (tgt := 272) X dL_isDecided_265 (by decide) (fun c17 => ?_) (fun c17 => absurd (by decide) c17)
              refine g_iconst (v := 0) X dL_isDecided_272 (by decide) ?_
              refine g_iload X dL_isDecided_273 3 rfl ?_
              refine g_icmp_ne (tgt := 346) X dL_isDecided_275 (by decide) (fun c18 => absurd c18 (by decide)) (fun c18 => ?_)
              refine g_iload X dL_isDecided_278 3 rfl ?_
              refine g_if_eq (tgt := 342) X dL_isDecided_280 (by decide) (fun c19 => ?_) (fun c19 => absurd (by decide) c19)
              refine g_iconst (v := 1) X dL_isDecided_342 (by decide) ?_
              refine g_goto (tgt := 347) X dL_isDecided_343 (by decide) ?_
              refine g_istore (L' := [(7, .int 1), (11, .int (-100000000)), (10, .int ((v.1 0).2.1 4 (cN (nI k)))), (9, .int 1), (8, .int 0), (5, .int (nI s)), (4, .int (nI p)), (2, .long (dgH (w.1 0))), (1, .int (nI k)), (0, .ref (A 313))]) X dL_isDecided_347 (by rw [hnL]; decide) rfl ?_
              refine g_iload X dL_isDecided_349 5 rfl ?_
              refine g_iload X dL_isDecided_351 4 rfl ?_
              refine g_if_eq (tgt := 360) X dL_isDecided_353 (by decide) (fun c20 => ?_) (fun c20 => absurd (by decide) c20)
              refine g_iconst (v := 0) X dL_isDecided_360 (by decide) ?_
              refine g_iadd X dL_isDecided_361 ?_
              refine g_lit (y := nI s) (Int32.add_zero _) ?_
              refine g_istore (L' := [(5, .int (nI s)), (7, .int 1), (11, .int (-100000000)), (10, .int ((v.1 0).2.1 4 (cN (nI k)))), (9, .int 1), (8, .int 0), (4, .int (nI p)), (2, .long (dgH (w.1 0))), (1, .int (nI k)), (0, .ref (A 313))]) X dL_isDecided_362 (by rw [hnL]; decide) rfl ?_
              refine g_locs [0, 1, 7, 8, 9] (L' := [(5, .int (nI s)), (7, .int 1), (2, .long (dgH (w.1 0))), (1, .int (nI k)), (0, .ref (A 313))]) rfl ?_
              refine g_widen (k := 3600) (n := 21600) (by omega) (by omega) ?_
              exact fin2 s v M1 (by omega) hJv hDD.1 hDD.2.1 hB hF
          · refine g_aload_n X dL_isDecided_208 rfl 5 rfl ?_
            refine g_cV X dL_isDecided_209 (As := []) (A := A) (w := v) (w' := v) (v := .int (bI (hQuor (v.1 0)))) (c_X3_isQuorate κ.l hl κ.Γ M1 A v hB hJv.inv) hB hF k5134 k201 k202 k1 k203 ⟨rfl, by decide, by decide, (show (parseMethodDescriptor yX3_isQuorate.desc).map (fun d => d.parameters.length) = some 0 by decide +kernel)⟩ rfl (Nat.le_of_ble_eq_true rfl) (by rw [hRm]; decide) (by rw [hRm]; exact ⟨by (show _ ≤ 5100); omega, by (show _ ≤ 30600); omega⟩) (fun M1 hB hF => ?_)
            refine g_ifb_eq (tgt := 219) X dL_isDecided_212 (by decide) (fun c21 => ?_) (fun c21 => ?_)
            · refine g_iconst (v := 0) X dL_isDecided_219 (by decide) ?_
              refine g_istore (L' := [(8, .int 0), (7, .int 1), (5, .int (nI s)), (4, .int (nI p)), (2, .long (dgH (w.1 0))), (1, .int (nI k)), (0, .ref (A 313))]) X dL_isDecided_220 (by rw [hnL]; decide) rfl ?_
              refine g_aload_n X dL_isDecided_222 rfl 6 rfl ?_
              refine g_iload_n X dL_isDecided_223 rfl 5 rfl ?_
              refine g_cV X dL_isDecided_224 (As := [.int (nI k)]) (A := A) (w := v) (w' := v) (v := .int (hW (v.1 0) ((v.1 0).2.1 6 (cN (nI k))))) (Ct.gy hbv (c_X3_weightFor κ.l hl κ.Γ M1 A v hB hJv.inv (nI k))) hB hF k5094 k696 k697 k1 k698 ⟨rfl, by decide, by decide, (show (parseMethodDescriptor yX3_weightFor.desc).map (fun d => d.parameters.length) = some 1 by decide +kernel)⟩ rfl (Nat.le_of_ble_eq_true rfl) (by rw [hRm]; decide) (by rw [hRm]; exact ⟨by (show _ ≤ 5100); omega, by (show _ ≤ 30600); omega⟩) (fun M1 hB hF => ?_)
              refine g_aload_n X dL_isDecided_227 rfl 6 rfl ?_
              refine g_iload_n X dL_isDecided_228 rfl 5 rfl ?_
              refine g_cV X dL_isDecided_229 (As := [.int (nI k)]) (A := A) (w := v) (w' := v) (v := .int (hW (v.1 0) ((v.1 0).2.1 7 (cN (nI k))))) (Ct.gy hbv (c_X3_weightAgainst κ.l hl κ.Γ M1 A v hB hJv.inv (nI k))) hB hF k5095 k710 k711 k1 k712 ⟨rfl, by decide, by decide, (show (parseMethodDescriptor yX3_weightAgainst.desc).map (fun d => d.parameters.length) = some 1 by decide +kernel)⟩ rfl (Nat.le_of_ble_eq_true rfl) (by rw [hRm]; decide) (by rw [hRm]; exact ⟨by (show _ ≤ 5100); omega, by (show _ ≤ 30600); omega⟩) (fun M1 hB hF => ?_)
              refine g_icmp_le (tgt := 239) X dL_isDecided_232 (by decide) (fun c22 => ?_) (fun c22 => ?_)
              · have hns : ¬ sucE (v.1 0) (nI k) := Int32.not_lt.mpr c22
                refine g_iconst (v := 0) X dL_isDecided_239 (by decide) ?_
                refine g_istore (L' := [(9, .int 0), (8, .int 0), (7, .int 1), (5, .int (nI s)), (4, .int (nI p)), (2, .long (dgH (w.1 0))), (1, .int (nI k)), (0, .ref (A 313))]) X dL_isDecided_240 (by rw [hnL]; decide) rfl ?_
                refine g_aload_n X dL_isDecided_242 rfl 7 rfl ?_
                refine g_iload_n X dL_isDecided_243 rfl 6 rfl ?_
                refine g_cV X dL_isDecided_244 (As := [.int (nI k)]) (A := A) (w := v) (w' := v) (v := .int ((v.1 0).2.1 4 (cN (nI k)))) (Ct.gy hbv (c_X3_readings κ.l hl κ.Γ M1 A v hB hJv.inv (nI k))) hB hF k5090 k607 k608 k1 k609 ⟨rfl, by decide, by decide, (show (parseMethodDescriptor yX3_readings.desc).map (fun d => d.parameters.length) = some 1 by decide +kernel)⟩ rfl (Nat.le_of_ble_eq_true rfl) (by rw [hRm]; decide) (by rw [hRm]; exact ⟨by (show _ ≤ 5100); omega, by (show _ ≤ 30600); omega⟩) (fun M1 hB hF => ?_)
                refine g_istore (L' := [(10, .int ((v.1 0).2.1 4 (cN (nI k)))), (9, .int 0), (8, .int 0), (7, .int 1), (5, .int (nI s)), (4, .int (nI p)), (2, .long (dgH (w.1 0))), (1, .int (nI k)), (0, .ref (A 313))]) X dL_isDecided_247 (by rw [hnL]; decide) rfl ?_
                refine g_aload_n X dL_isDecided_249 rfl 8 rfl ?_
                refine g_iload_n X dL_isDecided_250 rfl 7 rfl ?_
                have hcc := c_L_closeReading κ.l hl κ.Γ M1 A v hB hJv.inv (nI k) (j_closeReading hJv (nI k)).1
                obtain ⟨ef1, ef2⟩ := cl_fail hk8 (fun z => c21 z.2) hbv
                rw [ef1, ef2] at hcc
                refine g_cW X dL_isDecided_251 (As := [.ref (A 313), .int (nI k)]) (A := A) (w' := v) (v := .int (-100000000)) hcc hF k5064 k714 k0 k5065 ⟨by decide, by decide, (show (parseMethodDescriptor yL_closeReading.desc).map (fun d => d.parameters.length) = some 2 by decide +kernel)⟩ rfl (Nat.le_of_ble_eq_true rfl) (by rw [hRm]; decide) (by rw [hRm]; exact ⟨by (show _ ≤ 5100); omega, by (show _ ≤ 30600); omega⟩) (fun M1 hB hF => ?_)
                refine g_istore (L' := [(11, .int (-100000000)), (10, .int ((v.1 0).2.1 4 (cN (nI k)))), (9, .int 0), (8, .int 0), (7, .int 1), (5, .int (nI s)), (4, .int (nI p)), (2, .long (dgH (w.1 0))), (1, .int (nI k)), (0, .ref (A 313))]) X dL_isDecided_254 (by rw [hnL]; decide) rfl ?_
                refine g_iload X dL_isDecided_256 4 rfl ?_
                refine g_if_eq (tgt := 346) X dL_isDecided_258 (by decide) (fun c23 => absurd c23 (by decide)) (fun c23 => ?_)
                refine g_iload X dL_isDecided_261 0 rfl ?_
                refine g_ldc (v := (-100000000)) X dL_isDecided_263 k5015 ?_
                refine g_icmp_eq (tgt := 272) X dL_isDecided_265 (by decide) (fun c24 => ?_) (fun c24 => absurd (by decide) c24)
                refine g_iconst (v := 0) X dL_isDecided_272 (by decide) ?_
                refine g_iload X dL_isDecided_273 3 rfl ?_
                refine g_icmp_ne (tgt := 346) X dL_isDecided_275 (by decide) (fun c25 => absurd c25 (by decide)) (fun c25 => ?_)
                refine g_iload X dL_isDecided_278 3 rfl ?_
                refine g_if_eq (tgt := 342) X dL_isDecided_280 (by decide) (fun c26 => ?_) (fun c26 => absurd (by decide) c26)
                refine g_iconst (v := 1) X dL_isDecided_342 (by decide) ?_
                refine g_goto (tgt := 347) X dL_isDecided_343 (by decide) ?_
                refine g_istore (L' := [(7, .int 1), (11, .int (-100000000)), (10, .int ((v.1 0).2.1 4 (cN (nI k)))), (9, .int 0), (8, .int 0), (5, .int (nI s)), (4, .int (nI p)), (2, .long (dgH (w.1 0))), (1, .int (nI k)), (0, .ref (A 313))]) X dL_isDecided_347 (by rw [hnL]; decide) rfl ?_
                refine g_iload X dL_isDecided_349 5 rfl ?_
                refine g_iload X dL_isDecided_351 4 rfl ?_
                refine g_if_eq (tgt := 360) X dL_isDecided_353 (by decide) (fun c27 => ?_) (fun c27 => absurd (by decide) c27)
                refine g_iconst (v := 0) X dL_isDecided_360 (by decide) ?_
                refine g_iadd X dL_isDecided_361 ?_
                refine g_lit (y := nI s) (Int32.add_zero _) ?_
                refine g_istore (L' := [(5, .int (nI s)), (7, .int 1), (11, .int (-100000000)), (10, .int ((v.1 0).2.1 4 (cN (nI k)))), (9, .int 0), (8, .int 0), (4, .int (nI p)), (2, .long (dgH (w.1 0))), (1, .int (nI k)), (0, .ref (A 313))]) X dL_isDecided_362 (by rw [hnL]; decide) rfl ?_
                refine g_locs [0, 1, 7, 8, 9] (L' := [(5, .int (nI s)), (7, .int 1), (2, .long (dgH (w.1 0))), (1, .int (nI k)), (0, .ref (A 313))]) rfl ?_
                refine g_widen (k := 3600) (n := 21600) (by omega) (by omega) ?_
                exact fin2 s v M1 (by omega) hJv hDD.1 hDD.2.1 hB hF
              · have hsu : sucE (v.1 0) (nI k) := Int32.not_le.mp c22
                refine g_iconst (v := 1) X dL_isDecided_235 (by decide) ?_
                refine g_goto (tgt := 240) X dL_isDecided_236 (by decide) ?_
                refine g_istore (L' := [(9, .int 1), (8, .int 0), (7, .int 1), (5, .int (nI s)), (4, .int (nI p)), (2, .long (dgH (w.1 0))), (1, .int (nI k)), (0, .ref (A 313))]) X dL_isDecided_240 (by rw [hnL]; decide) rfl ?_
                refine g_aload_n X dL_isDecided_242 rfl 7 rfl ?_
                refine g_iload_n X dL_isDecided_243 rfl 6 rfl ?_
                refine g_cV X dL_isDecided_244 (As := [.int (nI k)]) (A := A) (w := v) (w' := v) (v := .int ((v.1 0).2.1 4 (cN (nI k)))) (Ct.gy hbv (c_X3_readings κ.l hl κ.Γ M1 A v hB hJv.inv (nI k))) hB hF k5090 k607 k608 k1 k609 ⟨rfl, by decide, by decide, (show (parseMethodDescriptor yX3_readings.desc).map (fun d => d.parameters.length) = some 1 by decide +kernel)⟩ rfl (Nat.le_of_ble_eq_true rfl) (by rw [hRm]; decide) (by rw [hRm]; exact ⟨by (show _ ≤ 5100); omega, by (show _ ≤ 30600); omega⟩) (fun M1 hB hF => ?_)
                refine g_istore (L' := [(10, .int ((v.1 0).2.1 4 (cN (nI k)))), (9, .int 1), (8, .int 0), (7, .int 1), (5, .int (nI s)), (4, .int (nI p)), (2, .long (dgH (w.1 0))), (1, .int (nI k)), (0, .ref (A 313))]) X dL_isDecided_247 (by rw [hnL]; decide) rfl ?_
                refine g_aload_n X dL_isDecided_249 rfl 8 rfl ?_
                refine g_iload_n X dL_isDecided_250 rfl 7 rfl ?_
                have hcc := c_L_closeReading κ.l hl κ.Γ M1 A v hB hJv.inv (nI k) (j_closeReading hJv (nI k)).1
                obtain ⟨ef1, ef2⟩ := cl_fail hk8 (fun z => c21 z.2) hbv
                rw [ef1, ef2] at hcc
                refine g_cW X dL_isDecided_251 (As := [.ref (A 313), .int (nI k)]) (A := A) (w' := v) (v := .int (-100000000)) hcc hF k5064 k714 k0 k5065 ⟨by decide, by decide, (show (parseMethodDescriptor yL_closeReading.desc).map (fun d => d.parameters.length) = some 2 by decide +kernel)⟩ rfl (Nat.le_of_ble_eq_true rfl) (by rw [hRm]; decide) (by rw [hRm]; exact ⟨by (show _ ≤ 5100); omega, by (show _ ≤ 30600); omega⟩) (fun M1 hB hF => ?_)
                refine g_istore (L' := [(11, .int (-100000000)), (10, .int ((v.1 0).2.1 4 (cN (nI k)))), (9, .int 1), (8, .int 0), (7, .int 1), (5, .int (nI s)), (4, .int (nI p)), (2, .long (dgH (w.1 0))), (1, .int (nI k)), (0, .ref (A 313))]) X dL_isDecided_254 (by rw [hnL]; decide) rfl ?_
                refine g_iload X dL_isDecided_256 4 rfl ?_
                refine g_if_eq (tgt := 346) X dL_isDecided_258 (by decide) (fun c28 => absurd c28 (by decide)) (fun c28 => ?_)
                refine g_iload X dL_isDecided_261 0 rfl ?_
                refine g_ldc (v := (-100000000)) X dL_isDecided_263 k5015 ?_
                refine g_icmp_eq (tgt := 272) X dL_isDecided_265 (by decide) (fun c29 => ?_) (fun c29 => absurd (by decide) c29)
                refine g_iconst (v := 0) X dL_isDecided_272 (by decide) ?_
                refine g_iload X dL_isDecided_273 3 rfl ?_
                refine g_icmp_ne (tgt := 346) X dL_isDecided_275 (by decide) (fun c30 => absurd c30 (by decide)) (fun c30 => ?_)
                refine g_iload X dL_isDecided_278 3 rfl ?_
                refine g_if_eq (tgt := 342) X dL_isDecided_280 (by decide) (fun c31 => ?_) (fun c31 => absurd (by decide) c31)
                refine g_iconst (v := 1) X dL_isDecided_342 (by decide) ?_
                refine g_goto (tgt := 347) X dL_isDecided_343 (by decide) ?_
                refine g_istore (L' := [(7, .int 1), (11, .int (-100000000)), (10, .int ((v.1 0).2.1 4 (cN (nI k)))), (9, .int 1), (8, .int 0), (5, .int (nI s)), (4, .int (nI p)), (2, .long (dgH (w.1 0))), (1, .int (nI k)), (0, .ref (A 313))]) X dL_isDecided_347 (by rw [hnL]; decide) rfl ?_
                refine g_iload X dL_isDecided_349 5 rfl ?_
                refine g_iload X dL_isDecided_351 4 rfl ?_
                refine g_if_eq (tgt := 360) X dL_isDecided_353 (by decide) (fun c32 => ?_) (fun c32 => absurd (by decide) c32)
                refine g_iconst (v := 0) X dL_isDecided_360 (by decide) ?_
                refine g_iadd X dL_isDecided_361 ?_
                refine g_lit (y := nI s) (Int32.add_zero _) ?_
                refine g_istore (L' := [(5, .int (nI s)), (7, .int 1), (11, .int (-100000000)), (10, .int ((v.1 0).2.1 4 (cN (nI k)))), (9, .int 1), (8, .int 0), (4, .int (nI p)), (2, .long (dgH (w.1 0))), (1, .int (nI k)), (0, .ref (A 313))]) X dL_isDecided_362 (by rw [hnL]; decide) rfl ?_
                refine g_locs [0, 1, 7, 8, 9] (L' := [(5, .int (nI s)), (7, .int 1), (2, .long (dgH (w.1 0))), (1, .int (nI k)), (0, .ref (A 313))]) rfl ?_
                refine g_widen (k := 3600) (n := 21600) (by omega) (by omega) ?_
                exact fin2 s v M1 (by omega) hJv hDD.1 hDD.2.1 hB hF
            · refine g_iconst (v := 1) X dL_isDecided_215 (by decide) ?_
              refine g_goto (tgt := 220) X dL_isDecided_216 (by decide) ?_
              refine g_istore (L' := [(8, .int 1), (7, .int 1), (5, .int (nI s)), (4, .int (nI p)), (2, .long (dgH (w.1 0))), (1, .int (nI k)), (0, .ref (A 313))]) X dL_isDecided_220 (by rw [hnL]; decide) rfl ?_
              refine g_aload_n X dL_isDecided_222 rfl 6 rfl ?_
              refine g_iload_n X dL_isDecided_223 rfl 5 rfl ?_
              refine g_cV X dL_isDecided_224 (As := [.int (nI k)]) (A := A) (w := v) (w' := v) (v := .int (hW (v.1 0) ((v.1 0).2.1 6 (cN (nI k))))) (Ct.gy hbv (c_X3_weightFor κ.l hl κ.Γ M1 A v hB hJv.inv (nI k))) hB hF k5094 k696 k697 k1 k698 ⟨rfl, by decide, by decide, (show (parseMethodDescriptor yX3_weightFor.desc).map (fun d => d.parameters.length) = some 1 by decide +kernel)⟩ rfl (Nat.le_of_ble_eq_true rfl) (by rw [hRm]; decide) (by rw [hRm]; exact ⟨by (show _ ≤ 5100); omega, by (show _ ≤ 30600); omega⟩) (fun M1 hB hF => ?_)
              refine g_aload_n X dL_isDecided_227 rfl 6 rfl ?_
              refine g_iload_n X dL_isDecided_228 rfl 5 rfl ?_
              refine g_cV X dL_isDecided_229 (As := [.int (nI k)]) (A := A) (w := v) (w' := v) (v := .int (hW (v.1 0) ((v.1 0).2.1 7 (cN (nI k))))) (Ct.gy hbv (c_X3_weightAgainst κ.l hl κ.Γ M1 A v hB hJv.inv (nI k))) hB hF k5095 k710 k711 k1 k712 ⟨rfl, by decide, by decide, (show (parseMethodDescriptor yX3_weightAgainst.desc).map (fun d => d.parameters.length) = some 1 by decide +kernel)⟩ rfl (Nat.le_of_ble_eq_true rfl) (by rw [hRm]; decide) (by rw [hRm]; exact ⟨by (show _ ≤ 5100); omega, by (show _ ≤ 30600); omega⟩) (fun M1 hB hF => ?_)
              refine g_icmp_le (tgt := 239) X dL_isDecided_232 (by decide) (fun c33 => ?_) (fun c33 => ?_)
              · have hns : ¬ sucE (v.1 0) (nI k) := Int32.not_lt.mpr c33
                refine g_iconst (v := 0) X dL_isDecided_239 (by decide) ?_
                refine g_istore (L' := [(9, .int 0), (8, .int 1), (7, .int 1), (5, .int (nI s)), (4, .int (nI p)), (2, .long (dgH (w.1 0))), (1, .int (nI k)), (0, .ref (A 313))]) X dL_isDecided_240 (by rw [hnL]; decide) rfl ?_
                refine g_aload_n X dL_isDecided_242 rfl 7 rfl ?_
                refine g_iload_n X dL_isDecided_243 rfl 6 rfl ?_
                refine g_cV X dL_isDecided_244 (As := [.int (nI k)]) (A := A) (w := v) (w' := v) (v := .int ((v.1 0).2.1 4 (cN (nI k)))) (Ct.gy hbv (c_X3_readings κ.l hl κ.Γ M1 A v hB hJv.inv (nI k))) hB hF k5090 k607 k608 k1 k609 ⟨rfl, by decide, by decide, (show (parseMethodDescriptor yX3_readings.desc).map (fun d => d.parameters.length) = some 1 by decide +kernel)⟩ rfl (Nat.le_of_ble_eq_true rfl) (by rw [hRm]; decide) (by rw [hRm]; exact ⟨by (show _ ≤ 5100); omega, by (show _ ≤ 30600); omega⟩) (fun M1 hB hF => ?_)
                refine g_istore (L' := [(10, .int ((v.1 0).2.1 4 (cN (nI k)))), (9, .int 0), (8, .int 1), (7, .int 1), (5, .int (nI s)), (4, .int (nI p)), (2, .long (dgH (w.1 0))), (1, .int (nI k)), (0, .ref (A 313))]) X dL_isDecided_247 (by rw [hnL]; decide) rfl ?_
                refine g_aload_n X dL_isDecided_249 rfl 8 rfl ?_
                refine g_iload_n X dL_isDecided_250 rfl 7 rfl ?_
                have hcc := c_L_closeReading κ.l hl κ.Γ M1 A v hB hJv.inv (nI k) (j_closeReading hJv (nI k)).1
                have hpz : (v.1 0).2.1 8 k = 0 := by rw [hDD.2.2.2.2, hex c9 c21, Nat.sub_self]; rfl
                obtain ⟨v9, epc, hJ9, hKS9, hD9, hb9, er9, eo9⟩ := cl_step hJv hk8 hbv c9 c21 hpz
                rw [epc] at hcc
                refine g_cW X dL_isDecided_251 (As := [.ref (A 313), .int (nI k)]) (A := A) (w' := v9) (v := .int (bI (sucE (v.1 0) (nI k)))) hcc hF k5064 k714 k0 k5065 ⟨by decide, by decide, (show (parseMethodDescriptor yL_closeReading.desc).map (fun d => d.parameters.length) = some 2 by decide +kernel)⟩ rfl (Nat.le_of_ble_eq_true rfl) (by rw [hRm]; decide) (by rw [hRm]; exact ⟨by (show _ ≤ 5100); omega, by (show _ ≤ 30600); omega⟩) (fun M1 hB hF => ?_)
                refine g_lit (y := 0) (bI_f hns) ?_
                refine g_istore (L' := [(11, .int 0), (10, .int ((v.1 0).2.1 4 (cN (nI k)))), (9, .int 0), (8, .int 1), (7, .int 1), (5, .int (nI s)), (4, .int (nI p)), (2, .long (dgH (w.1 0))), (1, .int (nI k)), (0, .ref (A 313))]) X dL_isDecided_254 (by rw [hnL]; decide) rfl ?_
                refine g_iload X dL_isDecided_256 4 rfl ?_
                refine g_if_eq (tgt := 346) X dL_isDecided_258 (by decide) (fun c34 => absurd c34 (by decide)) (fun c34 => ?_)
                refine g_iload X dL_isDecided_261 0 rfl ?_
                refine g_ldc (v := (-100000000)) X dL_isDecided_263 k5015 ?_
                refine g_icmp_eq (tgt := 272) X dL_isDecided_265 (by decide) (fun c35 => absurd c35 (by decide)) (fun c35 => ?_)
                refine g_iconst (v := 1) X dL_isDecided_268 (by decide) ?_
                refine g_goto (tgt := 273) X dL_isDecided_269 (by decide) ?_
                refine g_iload X dL_isDecided_273 3 rfl ?_
                refine g_icmp_ne (tgt := 346) X dL_isDecided_275 (by decide) (fun c36 => absurd c36 (by decide)) (fun c36 => ?_)
                refine g_iload X dL_isDecided_278 3 rfl ?_
                refine g_if_eq (tgt := 342) X dL_isDecided_280 (by decide) (fun c37 => absurd c37 (by decide)) (fun c37 => ?_)
                refine g_iload X dL_isDecided_283 0 rfl ?_
                refine g_iload X dL_isDecided_285 2 rfl ?_
                refine g_if_eq (tgt := 294) X dL_isDecided_287 (by decide) (fun c38 => ?_) (fun c38 => absurd (by decide) c38)
                refine g_iconst (v := 0) X dL_isDecided_294 (by decide) ?_
                refine g_icmp_ne (tgt := 346) X dL_isDecided_295 (by decide) (fun c39 => absurd c39 (by decide)) (fun c39 => ?_)
                refine g_aload_n X dL_isDecided_298 rfl 9 rfl ?_
                refine g_iload_n X dL_isDecided_299 rfl 8 rfl ?_
                refine g_cV X dL_isDecided_300 (As := [.int (nI k)]) (A := A) (w := v9) (w' := v9) (v := .int ((v9.1 0).2.1 4 (cN (nI k)))) (Ct.gy hb9 (c_X3_readings κ.l hl κ.Γ M1 A v9 hB hJ9.inv (nI k))) hB hF k5090 k607 k608 k1 k609 ⟨rfl, by decide, by decide, (show (parseMethodDescriptor yX3_readings.desc).map (fun d => d.parameters.length) = some 1 by decide +kernel)⟩ rfl (Nat.le_of_ble_eq_true rfl) (by rw [hRm]; decide) (by rw [hRm]; exact ⟨by (show _ ≤ 5100); omega, by (show _ ≤ 30600); omega⟩) (fun M1 hB hF => ?_)
                refine g_iload X dL_isDecided_303 1 rfl ?_
                refine g_iload X dL_isDecided_305 0 rfl ?_
                refine g_iadd X dL_isDecided_307 ?_
                refine g_icmp_ne (tgt := 346) X dL_isDecided_308 (by decide) (fun c40 => absurd c40 (pN (by rw [er9, if_neg hns, Int32.add_zero]))) (fun c40 => ?_)
                refine g_aload_n X dL_isDecided_311 rfl 9 rfl ?_
                refine g_iload_n X dL_isDecided_312 rfl 8 rfl ?_
                refine g_cV X dL_isDecided_313 (As := [.int (nI k)]) (A := A) (w := v9) (w' := v9) (v := .int (bI ((v9.1 0).2.1 3 (cN (nI k)) = 0))) (Ct.gy hb9 (c_X3_isOpen κ.l hl κ.Γ M1 A v9 hB hJ9.inv (nI k))) hB hF k5092 k585 k586 k1 k587 ⟨rfl, by decide, by decide, (show (parseMethodDescriptor yX3_isOpen.desc).map (fun d => d.parameters.length) = some 1 by decide +kernel)⟩ rfl (Nat.le_of_ble_eq_true rfl) (by rw [hRm]; decide) (by rw [hRm]; exact ⟨by (show _ ≤ 5100); omega, by (show _ ≤ 30600); omega⟩) (fun M1 hB hF => ?_)
                refine g_iload X dL_isDecided_316 2 rfl ?_
                refine g_if_eq (tgt := 331) X dL_isDecided_318 (by decide) (fun c41 => ?_) (fun c41 => absurd (by decide) c41)
                refine g_iconst (v := 0) X dL_isDecided_331 (by decide) ?_
                refine g_icmp_ne (tgt := 346) X dL_isDecided_332 (by decide) (fun c42 => absurd c42 (pN (bI_f (fun z => hns (eo9.mp z).1)))) (fun c42 => ?_)
                refine g_aload_n X dL_isDecided_335 rfl 9 rfl ?_
                refine g_cS X dL_isDecided_336 (As := [.ref (A 313)]) (A := A) (c_L_areBills κ.l hl κ.Γ M1 A v9 hB hJ9) hF k5099 k5100 k0 k5101 ⟨by decide, by decide, (show (parseMethodDescriptor yL_areBills.desc).map (fun d => d.parameters.length) = some 1 by decide +kernel)⟩ rfl (Nat.le_of_ble_eq_true rfl) (by rw [hRm]; decide) (by rw [hRm]; exact ⟨by (show _ ≤ 5100); omega, by (show _ ≤ 30600); omega⟩) (fun v9 w9 M1 h9 hB hF => ?_)
                obtain ⟨rfl, Z43, rfl, hJZ43⟩ := h9
                refine g_if_eq (tgt := 346) X dL_isDecided_339 (by decide) (fun c44 => absurd c44 (by decide)) (fun c44 => ?_)
                refine g_iconst (v := 1) X dL_isDecided_342 (by decide) ?_
                refine g_goto (tgt := 347) X dL_isDecided_343 (by decide) ?_
                refine g_istore (L' := [(7, .int 1), (11, .int 0), (10, .int ((v.1 0).2.1 4 (cN (nI k)))), (9, .int 0), (8, .int 1), (5, .int (nI s)), (4, .int (nI p)), (2, .long (dgH (w.1 0))), (1, .int (nI k)), (0, .ref (A 313))]) X dL_isDecided_347 (by rw [hnL]; decide) rfl ?_
                refine g_iload X dL_isDecided_349 5 rfl ?_
                refine g_iload X dL_isDecided_351 4 rfl ?_
                refine g_if_eq (tgt := 360) X dL_isDecided_353 (by decide) (fun c45 => absurd c45 (by decide)) (fun c45 => ?_)
                refine g_iconst (v := 1) X dL_isDecided_356 (by decide) ?_
                refine g_goto (tgt := 361) X dL_isDecided_357 (by decide) ?_
                refine g_iadd X dL_isDecided_361 ?_
                refine g_lit (y := nI (s + 1)) (nI_1 s) ?_
                refine g_istore (L' := [(5, .int (nI (s + 1))), (7, .int 1), (11, .int 0), (10, .int ((v.1 0).2.1 4 (cN (nI k)))), (9, .int 0), (8, .int 1), (4, .int (nI p)), (2, .long (dgH (w.1 0))), (1, .int (nI k)), (0, .ref (A 313))]) X dL_isDecided_362 (by rw [hnL]; decide) rfl ?_
                refine g_locs [0, 1, 7, 8, 9] (L' := [(5, .int (nI (s + 1))), (7, .int 1), (2, .long (dgH (w.1 0))), (1, .int (nI k)), (0, .ref (A 313))]) rfl ?_
                refine g_widen (k := 3600) (n := 21600) (by omega) (by omega) ?_
                exact fin2 (s + 1) (wL v9 Z43) M1 (by omega) hJZ43 (hDD.1.tr hKS9) (hD9 s _ (by omega) hDD.2.1) hB hF
              · have hsu : sucE (v.1 0) (nI k) := Int32.not_le.mp c33
                refine g_iconst (v := 1) X dL_isDecided_235 (by decide) ?_
                refine g_goto (tgt := 240) X dL_isDecided_236 (by decide) ?_
                refine g_istore (L' := [(9, .int 1), (8, .int 1), (7, .int 1), (5, .int (nI s)), (4, .int (nI p)), (2, .long (dgH (w.1 0))), (1, .int (nI k)), (0, .ref (A 313))]) X dL_isDecided_240 (by rw [hnL]; decide) rfl ?_
                refine g_aload_n X dL_isDecided_242 rfl 7 rfl ?_
                refine g_iload_n X dL_isDecided_243 rfl 6 rfl ?_
                refine g_cV X dL_isDecided_244 (As := [.int (nI k)]) (A := A) (w := v) (w' := v) (v := .int ((v.1 0).2.1 4 (cN (nI k)))) (Ct.gy hbv (c_X3_readings κ.l hl κ.Γ M1 A v hB hJv.inv (nI k))) hB hF k5090 k607 k608 k1 k609 ⟨rfl, by decide, by decide, (show (parseMethodDescriptor yX3_readings.desc).map (fun d => d.parameters.length) = some 1 by decide +kernel)⟩ rfl (Nat.le_of_ble_eq_true rfl) (by rw [hRm]; decide) (by rw [hRm]; exact ⟨by (show _ ≤ 5100); omega, by (show _ ≤ 30600); omega⟩) (fun M1 hB hF => ?_)
                refine g_istore (L' := [(10, .int ((v.1 0).2.1 4 (cN (nI k)))), (9, .int 1), (8, .int 1), (7, .int 1), (5, .int (nI s)), (4, .int (nI p)), (2, .long (dgH (w.1 0))), (1, .int (nI k)), (0, .ref (A 313))]) X dL_isDecided_247 (by rw [hnL]; decide) rfl ?_
                refine g_aload_n X dL_isDecided_249 rfl 8 rfl ?_
                refine g_iload_n X dL_isDecided_250 rfl 7 rfl ?_
                have hcc := c_L_closeReading κ.l hl κ.Γ M1 A v hB hJv.inv (nI k) (j_closeReading hJv (nI k)).1
                have hpz : (v.1 0).2.1 8 k = 0 := by rw [hDD.2.2.2.2, hex c9 c21, Nat.sub_self]; rfl
                obtain ⟨v9, epc, hJ9, hKS9, hD9, hb9, er9, eo9⟩ := cl_step hJv hk8 hbv c9 c21 hpz
                rw [epc] at hcc
                refine g_cW X dL_isDecided_251 (As := [.ref (A 313), .int (nI k)]) (A := A) (w' := v9) (v := .int (bI (sucE (v.1 0) (nI k)))) hcc hF k5064 k714 k0 k5065 ⟨by decide, by decide, (show (parseMethodDescriptor yL_closeReading.desc).map (fun d => d.parameters.length) = some 2 by decide +kernel)⟩ rfl (Nat.le_of_ble_eq_true rfl) (by rw [hRm]; decide) (by rw [hRm]; exact ⟨by (show _ ≤ 5100); omega, by (show _ ≤ 30600); omega⟩) (fun M1 hB hF => ?_)
                refine g_lit (y := 1) (bI_t hsu) ?_
                refine g_istore (L' := [(11, .int 1), (10, .int ((v.1 0).2.1 4 (cN (nI k)))), (9, .int 1), (8, .int 1), (7, .int 1), (5, .int (nI s)), (4, .int (nI p)), (2, .long (dgH (w.1 0))), (1, .int (nI k)), (0, .ref (A 313))]) X dL_isDecided_254 (by rw [hnL]; decide) rfl ?_
                refine g_iload X dL_isDecided_256 4 rfl ?_
                refine g_if_eq (tgt := 346) X dL_isDecided_258 (by decide) (fun c46 => absurd c46 (by decide)) (fun c46 => ?_)
                refine g_iload X dL_isDecided_261 0 rfl ?_
                refine g_ldc (v := (-100000000)) X dL_isDecided_263 k5015 ?_
                refine g_icmp_eq (tgt := 272) X dL_isDecided_265 (by decide) (fun c47 => absurd c47 (by decide)) (fun c47 => ?_)
                refine g_iconst (v := 1) X dL_isDecided_268 (by decide) ?_
                refine g_goto (tgt := 273) X dL_isDecided_269 (by decide) ?_
                refine g_iload X dL_isDecided_273 3 rfl ?_
                refine g_icmp_ne (tgt := 346) X dL_isDecided_275 (by decide) (fun c48 => absurd c48 (by decide)) (fun c48 => ?_)
                refine g_iload X dL_isDecided_278 3 rfl ?_
                refine g_if_eq (tgt := 342) X dL_isDecided_280 (by decide) (fun c49 => absurd c49 (by decide)) (fun c49 => ?_)
                refine g_iload X dL_isDecided_283 0 rfl ?_
                refine g_iload X dL_isDecided_285 2 rfl ?_
                refine g_if_eq (tgt := 294) X dL_isDecided_287 (by decide) (fun c50 => absurd c50 (by decide)) (fun c50 => ?_)
                refine g_iconst (v := 1) X dL_isDecided_290 (by decide) ?_
                refine g_goto (tgt := 295) X dL_isDecided_291 (by decide) ?_
                refine g_icmp_ne (tgt := 346) X dL_isDecided_295 (by decide) (fun c51 => absurd c51 (by decide)) (fun c51 => ?_)
                refine g_aload_n X dL_isDecided_298 rfl 9 rfl ?_
                refine g_iload_n X dL_isDecided_299 rfl 8 rfl ?_
                refine g_cV X dL_isDecided_300 (As := [.int (nI k)]) (A := A) (w := v9) (w' := v9) (v := .int ((v9.1 0).2.1 4 (cN (nI k)))) (Ct.gy hb9 (c_X3_readings κ.l hl κ.Γ M1 A v9 hB hJ9.inv (nI k))) hB hF k5090 k607 k608 k1 k609 ⟨rfl, by decide, by decide, (show (parseMethodDescriptor yX3_readings.desc).map (fun d => d.parameters.length) = some 1 by decide +kernel)⟩ rfl (Nat.le_of_ble_eq_true rfl) (by rw [hRm]; decide) (by rw [hRm]; exact ⟨by (show _ ≤ 5100); omega, by (show _ ≤ 30600); omega⟩) (fun M1 hB hF => ?_)
                refine g_iload X dL_isDecided_303 1 rfl ?_
                refine g_iload X dL_isDecided_305 0 rfl ?_
                refine g_iadd X dL_isDecided_307 ?_
                refine g_icmp_ne (tgt := 346) X dL_isDecided_308 (by decide) (fun c52 => absurd c52 (pN (by rw [er9, if_pos hsu]))) (fun c52 => ?_)
                refine g_aload_n X dL_isDecided_311 rfl 9 rfl ?_
                refine g_iload_n X dL_isDecided_312 rfl 8 rfl ?_
                refine g_cV X dL_isDecided_313 (As := [.int (nI k)]) (A := A) (w := v9) (w' := v9) (v := .int (bI ((v9.1 0).2.1 3 (cN (nI k)) = 0))) (Ct.gy hb9 (c_X3_isOpen κ.l hl κ.Γ M1 A v9 hB hJ9.inv (nI k))) hB hF k5092 k585 k586 k1 k587 ⟨rfl, by decide, by decide, (show (parseMethodDescriptor yX3_isOpen.desc).map (fun d => d.parameters.length) = some 1 by decide +kernel)⟩ rfl (Nat.le_of_ble_eq_true rfl) (by rw [hRm]; decide) (by rw [hRm]; exact ⟨by (show _ ≤ 5100); omega, by (show _ ≤ 30600); omega⟩) (fun M1 hB hF => ?_)
                refine g_iload X dL_isDecided_316 2 rfl ?_
                refine g_if_eq (tgt := 331) X dL_isDecided_318 (by decide) (fun c53 => absurd c53 (by decide)) (fun c53 => ?_)
                refine g_iload X dL_isDecided_321 1 rfl ?_
                refine g_iconst (v := 2) X dL_isDecided_323 (by decide) ?_
                refine g_icmp_ge (tgt := 331) X dL_isDecided_324 (by decide) (fun c54 => ?_) (fun c54 => ?_)
                · refine g_iconst (v := 0) X dL_isDecided_331 (by decide) ?_
                  refine g_icmp_ne (tgt := 346) X dL_isDecided_332 (by decide) (fun c55 => absurd c55 (pN (bI_f (fun z => (eo9.mp z).2 c54)))) (fun c55 => ?_)
                  refine g_aload_n X dL_isDecided_335 rfl 9 rfl ?_
                  refine g_cS X dL_isDecided_336 (As := [.ref (A 313)]) (A := A) (c_L_areBills κ.l hl κ.Γ M1 A v9 hB hJ9) hF k5099 k5100 k0 k5101 ⟨by decide, by decide, (show (parseMethodDescriptor yL_areBills.desc).map (fun d => d.parameters.length) = some 1 by decide +kernel)⟩ rfl (Nat.le_of_ble_eq_true rfl) (by rw [hRm]; decide) (by rw [hRm]; exact ⟨by (show _ ≤ 5100); omega, by (show _ ≤ 30600); omega⟩) (fun v9 w9 M1 h9 hB hF => ?_)
                  obtain ⟨rfl, Z56, rfl, hJZ56⟩ := h9
                  refine g_if_eq (tgt := 346) X dL_isDecided_339 (by decide) (fun c57 => absurd c57 (by decide)) (fun c57 => ?_)
                  refine g_iconst (v := 1) X dL_isDecided_342 (by decide) ?_
                  refine g_goto (tgt := 347) X dL_isDecided_343 (by decide) ?_
                  refine g_istore (L' := [(7, .int 1), (11, .int 1), (10, .int ((v.1 0).2.1 4 (cN (nI k)))), (9, .int 1), (8, .int 1), (5, .int (nI s)), (4, .int (nI p)), (2, .long (dgH (w.1 0))), (1, .int (nI k)), (0, .ref (A 313))]) X dL_isDecided_347 (by rw [hnL]; decide) rfl ?_
                  refine g_iload X dL_isDecided_349 5 rfl ?_
                  refine g_iload X dL_isDecided_351 4 rfl ?_
                  refine g_if_eq (tgt := 360) X dL_isDecided_353 (by decide) (fun c58 => absurd c58 (by decide)) (fun c58 => ?_)
                  refine g_iconst (v := 1) X dL_isDecided_356 (by decide) ?_
                  refine g_goto (tgt := 361) X dL_isDecided_357 (by decide) ?_
                  refine g_iadd X dL_isDecided_361 ?_
                  refine g_lit (y := nI (s + 1)) (nI_1 s) ?_
                  refine g_istore (L' := [(5, .int (nI (s + 1))), (7, .int 1), (11, .int 1), (10, .int ((v.1 0).2.1 4 (cN (nI k)))), (9, .int 1), (8, .int 1), (4, .int (nI p)), (2, .long (dgH (w.1 0))), (1, .int (nI k)), (0, .ref (A 313))]) X dL_isDecided_362 (by rw [hnL]; decide) rfl ?_
                  refine g_locs [0, 1, 7, 8, 9] (L' := [(5, .int (nI (s + 1))), (7, .int 1), (2, .long (dgH (w.1 0))), (1, .int (nI k)), (0, .ref (A 313))]) rfl ?_
                  refine g_widen (k := 3600) (n := 21600) (by omega) (by omega) ?_
                  exact fin2 (s + 1) (wL v9 Z56) M1 (by omega) hJZ56 (hDD.1.tr hKS9) (hD9 s _ (by omega) hDD.2.1) hB hF
                · refine g_iconst (v := 1) X dL_isDecided_327 (by decide) ?_
                  refine g_goto (tgt := 332) X dL_isDecided_328 (by decide) ?_
                  refine g_icmp_ne (tgt := 346) X dL_isDecided_332 (by decide) (fun c59 => absurd c59 (pN (bI_t (eo9.mpr ⟨hsu, c54⟩)))) (fun c59 => ?_)
                  refine g_aload_n X dL_isDecided_335 rfl 9 rfl ?_
                  refine g_cS X dL_isDecided_336 (As := [.ref (A 313)]) (A := A) (c_L_areBills κ.l hl κ.Γ M1 A v9 hB hJ9) hF k5099 k5100 k0 k5101 ⟨by decide, by decide, (show (parseMethodDescriptor yL_areBills.desc).map (fun d => d.parameters.length) = some 1 by decide +kernel)⟩ rfl (Nat.le_of_ble_eq_true rfl) (by rw [hRm]; decide) (by rw [hRm]; exact ⟨by (show _ ≤ 5100); omega, by (show _ ≤ 30600); omega⟩) (fun v9 w9 M1 h9 hB hF => ?_)
                  obtain ⟨rfl, Z60, rfl, hJZ60⟩ := h9
                  refine g_if_eq (tgt := 346) X dL_isDecided_339 (by decide) (fun c61 => absurd c61 (by decide)) (fun c61 => ?_)
                  refine g_iconst (v := 1) X dL_isDecided_342 (by decide) ?_
                  refine g_goto (tgt := 347) X dL_isDecided_343 (by decide) ?_
                  refine g_istore (L' := [(7, .int 1), (11, .int 1), (10, .int ((v.1 0).2.1 4 (cN (nI k)))), (9, .int 1), (8, .int 1), (5, .int (nI s)), (4, .int (nI p)), (2, .long (dgH (w.1 0))), (1, .int (nI k)), (0, .ref (A 313))]) X dL_isDecided_347 (by rw [hnL]; decide) rfl ?_
                  refine g_iload X dL_isDecided_349 5 rfl ?_
                  refine g_iload X dL_isDecided_351 4 rfl ?_
                  refine g_if_eq (tgt := 360) X dL_isDecided_353 (by decide) (fun c62 => absurd c62 (by decide)) (fun c62 => ?_)
                  refine g_iconst (v := 1) X dL_isDecided_356 (by decide) ?_
                  refine g_goto (tgt := 361) X dL_isDecided_357 (by decide) ?_
                  refine g_iadd X dL_isDecided_361 ?_
                  refine g_lit (y := nI (s + 1)) (nI_1 s) ?_
                  refine g_istore (L' := [(5, .int (nI (s + 1))), (7, .int 1), (11, .int 1), (10, .int ((v.1 0).2.1 4 (cN (nI k)))), (9, .int 1), (8, .int 1), (4, .int (nI p)), (2, .long (dgH (w.1 0))), (1, .int (nI k)), (0, .ref (A 313))]) X dL_isDecided_362 (by rw [hnL]; decide) rfl ?_
                  refine g_locs [0, 1, 7, 8, 9] (L' := [(5, .int (nI (s + 1))), (7, .int 1), (2, .long (dgH (w.1 0))), (1, .int (nI k)), (0, .ref (A 313))]) rfl ?_
                  refine g_widen (k := 3600) (n := 21600) (by omega) (by omega) ?_
                  exact fin2 (s + 1) (wL v9 Z60) M1 (by omega) hJZ60 (hDD.1.tr hKS9) (hD9 s _ (by omega) hDD.2.1) hB hF
        have lp63 : ∀ (n9 : Nat) (s : Nat) (v : PV) (M1 : Hp), p - s < n9 → s ≤ p → J v → DD w v k p s → BRep κ.Γ A v M1 → Fr A 315 M M1 → G κ M1 (1330 + 30 * s) (7980 + 180 * s) [(7, .int 1), (6, .int (alN (w.1 0) 4)), (5, .int (nI s)), (4, .int (nI p)), (2, .long (dgH (w.1 0))), (1, .int (nI k)), (0, .ref (A 313))] 47 [] := by
          intro n9
          induction n9 with
          | zero => intro s v M1 h9; exact absurd h9 (Nat.not_lt_zero _)
          | succ n9 ih47 =>
            intro s v M1 hn9_47 hsp hJv hDD hB hF
            have hbv : hasB (v.1 0) (nI k) := ⟨hb.1, by rw [hDD.2.2.1.2.2.2]; exact hb.2⟩
            refine g_iload X dL_isDecided_47 0 rfl ?_
            refine g_if_eq (tgt := 200) X dL_isDecided_49 (by decide) (fun c64 => absurd c64 (by decide)) (fun c64 => ?_)
            refine g_iload X dL_isDecided_52 2 rfl ?_
            refine g_iload X dL_isDecided_54 3 rfl ?_
            refine g_icmp_ge (tgt := 200) X dL_isDecided_56 (by decide) (fun c65 => ?_) (fun c65 => ?_)
            · refine g_locs [0, 2, 3, 4, 5, 6] (L' := [(7, .int 1), (5, .int (nI s)), (4, .int (nI p)), (2, .long (dgH (w.1 0))), (1, .int (nI k)), (0, .ref (A 313))]) rfl ?_
              refine g_widen (k := 1700) (n := 10200) (by omega) (by omega) ?_
              exact fin s v M1 hsp hJv hDD (fun _ _ => Nat.le_antisymm hsp (ge_N (by omega) (by omega) rfl c65)) hB hF
            · refine g_aload_n X dL_isDecided_59 rfl 6 rfl ?_
              refine g_iload_n X dL_isDecided_60 rfl 5 rfl ?_
              refine g_cV X dL_isDecided_61 (As := [.int (nI k)]) (A := A) (w := v) (w' := v) (v := .int (bI ((v.1 0).2.1 3 (cN (nI k)) = 0))) (Ct.gy hbv (c_X3_isOpen κ.l hl κ.Γ M1 A v hB hJv.inv (nI k))) hB hF k5092 k585 k586 k1 k587 ⟨rfl, by decide, by decide, (show (parseMethodDescriptor yX3_isOpen.desc).map (fun d => d.parameters.length) = some 1 by decide +kernel)⟩ rfl (Nat.le_of_ble_eq_true rfl) (by rw [hRm]; decide) (by rw [hRm]; exact ⟨by (show _ ≤ 5100); omega, by (show _ ≤ 30600); omega⟩) (fun M1 hB hF => ?_)
              refine g_ifb_eq (tgt := 200) X dL_isDecided_64 (by decide) (fun c66 => ?_) (fun c66 => ?_)
              · refine g_locs [0, 2, 3, 4, 5, 6] (L' := [(7, .int 1), (5, .int (nI s)), (4, .int (nI p)), (2, .long (dgH (w.1 0))), (1, .int (nI k)), (0, .ref (A 313))]) rfl ?_
                refine g_widen (k := 1700) (n := 10200) (by omega) (by omega) ?_
                exact fin s v M1 hsp hJv hDD (fun z _ => absurd z c66) hB hF
              · refine g_aload_n X dL_isDecided_67 rfl 6 rfl ?_
                refine g_cV X dL_isDecided_68 (As := []) (A := A) (w := v) (w' := v) (v := .int (bI (hQuor (v.1 0)))) (c_X3_isQuorate κ.l hl κ.Γ M1 A v hB hJv.inv) hB hF k5134 k201 k202 k1 k203 ⟨rfl, by decide, by decide, (show (parseMethodDescriptor yX3_isQuorate.desc).map (fun d => d.parameters.length) = some 0 by decide +kernel)⟩ rfl (Nat.le_of_ble_eq_true rfl) (by rw [hRm]; decide) (by rw [hRm]; exact ⟨by (show _ ≤ 5100); omega, by (show _ ≤ 30600); omega⟩) (fun M1 hB hF => ?_)
                refine g_ifb_eq (tgt := 200) X dL_isDecided_71 (by decide) (fun c67 => ?_) (fun c67 => ?_)
                · refine g_locs [0, 2, 3, 4, 5, 6] (L' := [(7, .int 1), (5, .int (nI s)), (4, .int (nI p)), (2, .long (dgH (w.1 0))), (1, .int (nI k)), (0, .ref (A 313))]) rfl ?_
                  refine g_widen (k := 1700) (n := 10200) (by omega) (by omega) ?_
                  exact fin s v M1 hsp hJv hDD (fun _ z => absurd z c67) hB hF
                · have hls : s < p := lt_N (by omega) (by omega) rfl c65
                  obtain ⟨v9, epd, hJ9, hDD9, hb9, e22, eNX⟩ := de_step hJv hk8 hp hls hbv c66 c67 hDD
                  have hgp : hasB (v.1 0) (nI k) ∧ hasP (v.1 0) (nI k) 0 := ⟨hbv, by decide, by rw [ec, hDD.2.2.2.2]; exact (nI_ltI (a := 0) (by decide) (by omega)).mpr (by omega)⟩
                  have hal2 : alN (w.1 0) 4 = hW (v.1 0) ((v.1 0).1 1) := by (show _ = wSum ((v.1 0).2.1 2) ((v.1 0).1 1) 24); rw [hDD.2.2.2.1.2, hDD.2.2.1.2.1]; exact hal
                  refine g_aload_n X dL_isDecided_74 rfl 6 rfl ?_
                  refine g_iload_n X dL_isDecided_75 rfl 5 rfl ?_
                  refine g_iconst (v := 0) X dL_isDecided_76 (by decide) ?_
                  refine g_cV X dL_isDecided_77 (As := [.int (nI k), .int 0]) (A := A) (w := v) (w' := v) (v := .int ((v.1 0).2.1 (12 + cN (nI k)) (cN 0))) (Ct.gy hgp (c_X3_amendedClause κ.l hl κ.Γ M1 A v hB hJv.inv (nI k) 0)) hB hF k5097 k793 k794 k1 k795 ⟨rfl, by decide, by decide, (show (parseMethodDescriptor yX3_amendedClause.desc).map (fun d => d.parameters.length) = some 2 by decide +kernel)⟩ rfl (Nat.le_of_ble_eq_true rfl) (by rw [hRm]; decide) (by rw [hRm]; exact ⟨by (show _ ≤ 5100); omega, by (show _ ≤ 30600); omega⟩) (fun M1 hB hF => ?_)
                  refine g_istore (L' := [(8, .int ((v.1 0).2.1 (12 + cN (nI k)) (cN 0))), (7, .int 1), (6, .int (alN (w.1 0) 4)), (5, .int (nI s)), (4, .int (nI p)), (2, .long (dgH (w.1 0))), (1, .int (nI k)), (0, .ref (A 313))]) X dL_isDecided_80 (by rw [hnL]; decide) rfl ?_
                  refine g_iconst (v := 2) X dL_isDecided_82 (by decide) ?_
                  refine g_aload_n X dL_isDecided_83 rfl 7 rfl ?_
                  refine g_iload_n X dL_isDecided_84 rfl 6 rfl ?_
                  refine g_iconst (v := 0) X dL_isDecided_85 (by decide) ?_
                  refine g_cV X dL_isDecided_86 (As := [.int (nI k), .int 0]) (A := A) (w := v) (w' := v) (v := .int (hW (v.1 0) ((v.1 0).2.1 (20 + cN (nI k)) (cN 0)))) (Ct.gy hgp (c_X3_supportWeight κ.l hl κ.Γ M1 A v hB hJv.inv (nI k) 0)) hB hF k5098 k805 k806 k1 k807 ⟨rfl, by decide, by decide, (show (parseMethodDescriptor yX3_supportWeight.desc).map (fun d => d.parameters.length) = some 2 by decide +kernel)⟩ rfl (Nat.le_of_ble_eq_true rfl) (by rw [hRm]; decide) (by rw [hRm]; exact ⟨by (show _ ≤ 5100); omega, by (show _ ≤ 30600); omega⟩) (fun M1 hB hF => ?_)
                  refine g_imul X dL_isDecided_89 ?_
                  refine g_iload X dL_isDecided_90 2 rfl ?_
                  refine g_icmp_le (tgt := 99) X dL_isDecided_92 (by decide) (fun c68 => ?_) (fun c68 => ?_)
                  · have hna : ¬ accD (v.1 0) (nI k) := fun z => Int32.not_lt.mpr c68 (by rw [hal2]; exact z)
                    refine g_iconst (v := 0) X dL_isDecided_99 (by decide) ?_
                    refine g_istore (L' := [(9, .int 0), (8, .int ((v.1 0).2.1 (12 + cN (nI k)) (cN 0))), (7, .int 1), (6, .int (alN (w.1 0) 4)), (5, .int (nI s)), (4, .int (nI p)), (2, .long (dgH (w.1 0))), (1, .int (nI k)), (0, .ref (A 313))]) X dL_isDecided_100 (by rw [hnL]; decide) rfl ?_
                    refine g_aload_n X dL_isDecided_102 rfl 8 rfl ?_
                    refine g_iload_n X dL_isDecided_103 rfl 7 rfl ?_
                    refine g_cV X dL_isDecided_104 (As := [.int (nI k)]) (A := A) (w := v) (w' := v) (v := .long ((v.1 0).2.2 (cN (nI k)))) (Ct.gy hbv (c_X3_clauses κ.l hl κ.Γ M1 A v hB hJv.inv (nI k))) hB hF k5089 k614 k615 k1 k616 ⟨rfl, by decide, by decide, (show (parseMethodDescriptor yX3_clauses.desc).map (fun d => d.parameters.length) = some 1 by decide +kernel)⟩ rfl (Nat.le_of_ble_eq_true rfl) (by rw [hRm]; decide) (by rw [hRm]; exact ⟨by (show _ ≤ 5100); omega, by (show _ ≤ 30600); omega⟩) (fun M1 hB hF => ?_)
                    refine g_lstore (L' := [(10, .long ((v.1 0).2.2 (cN (nI k)))), (9, .int 0), (8, .int ((v.1 0).2.1 (12 + cN (nI k)) (cN 0))), (7, .int 1), (6, .int (alN (w.1 0) 4)), (5, .int (nI s)), (4, .int (nI p)), (2, .long (dgH (w.1 0))), (1, .int (nI k)), (0, .ref (A 313))]) X dL_isDecided_107 (by rw [hnL]; decide) rfl ?_
                    refine g_aload_n X dL_isDecided_109 rfl 9 rfl ?_
                    refine g_iload_n X dL_isDecided_110 rfl 8 rfl ?_
                    refine g_iconst (v := 1) X dL_isDecided_111 (by decide) ?_
                    refine g_cW X dL_isDecided_112 (As := [.ref (A 313), .int (nI k), .int 1]) (A := A) (w' := v) (v := .int (wI (-1000) (pAmendedClause v (nI k) 1).1)) (c_L_amendedClause' κ.l hl κ.Γ M1 A v hB hJv.inv (nI k) 1 (j_amendedClause hJv (nI k) 1)) hF k5120 k790 k0 k5121 ⟨by decide, by decide, (show (parseMethodDescriptor yL_amendedClause.desc).map (fun d => d.parameters.length) = some 3 by decide +kernel)⟩ rfl (Nat.le_of_ble_eq_true rfl) (by rw [hRm]; decide) (by rw [hRm]; exact ⟨by (show _ ≤ 5100); omega, by (show _ ≤ 30600); omega⟩) (fun M1 hB hF => ?_)
                    refine g_istore (L' := [(12, .int (wI (-1000) (pAmendedClause v (nI k) 1).1)), (10, .long ((v.1 0).2.2 (cN (nI k)))), (9, .int 0), (8, .int ((v.1 0).2.1 (12 + cN (nI k)) (cN 0))), (7, .int 1), (6, .int (alN (w.1 0) 4)), (5, .int (nI s)), (4, .int (nI p)), (2, .long (dgH (w.1 0))), (1, .int (nI k)), (0, .ref (A 313))]) X dL_isDecided_115 (by rw [hnL]; decide) rfl ?_
                    refine g_aload_n X dL_isDecided_117 rfl 10 rfl ?_
                    refine g_iload_n X dL_isDecided_118 rfl 9 rfl ?_
                    have hcd := c_L_decide κ.l hl κ.Γ M1 A v hB hJv.inv (nI k) (j_decide hJv (nI k)).1
                    rw [epd] at hcd
                    refine g_cW X dL_isDecided_119 (As := [.ref (A 313), .int (nI k)]) (A := A) (w' := v9) (v := .int (bI (accD (v.1 0) (nI k)))) hcd hF k5070 k768 k0 k5071 ⟨by decide, by decide, (show (parseMethodDescriptor yL_decide.desc).map (fun d => d.parameters.length) = some 2 by decide +kernel)⟩ rfl (Nat.le_of_ble_eq_true rfl) (by rw [hRm]; decide) (by rw [hRm]; exact ⟨by (show _ ≤ 5100); omega, by (show _ ≤ 30600); omega⟩) (fun M1 hB hF => ?_)
                    refine g_iload X dL_isDecided_122 2 rfl ?_
                    refine g_if_eq (tgt := 131) X dL_isDecided_124 (by decide) (fun c69 => ?_) (fun c69 => absurd (by decide) c69)
                    refine g_iconst (v := 0) X dL_isDecided_131 (by decide) ?_
                    refine g_icmp_ne (tgt := 191) X dL_isDecided_132 (by decide) (fun c70 => absurd c70 (pN (bI_f hna))) (fun c70 => ?_)
                    refine g_aload_n X dL_isDecided_135 rfl 10 rfl ?_
                    refine g_iload_n X dL_isDecided_136 rfl 9 rfl ?_
                    refine g_cV X dL_isDecided_137 (As := [.int (nI k)]) (A := A) (w := v9) (w' := v9) (v := .long ((v9.1 0).2.2 (cN (nI k)))) (Ct.gy hb9 (c_X3_clauses κ.l hl κ.Γ M1 A v9 hB hJ9.inv (nI k))) hB hF k5089 k614 k615 k1 k616 ⟨rfl, by decide, by decide, (show (parseMethodDescriptor yX3_clauses.desc).map (fun d => d.parameters.length) = some 1 by decide +kernel)⟩ rfl (Nat.le_of_ble_eq_true rfl) (by rw [hRm]; decide) (by rw [hRm]; exact ⟨by (show _ ≤ 5100); omega, by (show _ ≤ 30600); omega⟩) (fun M1 hB hF => ?_)
                    refine g_iload X dL_isDecided_140 2 rfl ?_
                    refine g_if_eq (tgt := 155) X dL_isDecided_142 (by decide) (fun c71 => ?_) (fun c71 => absurd (by decide) c71)
                    refine g_lload X dL_isDecided_155 1 rfl ?_
                    refine g_lcmp X dL_isDecided_157 ?_
                    refine g_if_ne (tgt := 191) X dL_isDecided_158 (by decide) (fun c72 => absurd c72 (pN (by rw [e22, if_neg hna]; exact lg_cmp_self _))) (fun c72 => ?_)
                    refine g_aload_n X dL_isDecided_161 rfl 10 rfl ?_
                    refine g_iload_n X dL_isDecided_162 rfl 9 rfl ?_
                    refine g_iconst (v := 0) X dL_isDecided_163 (by decide) ?_
                    refine g_cW X dL_isDecided_164 (As := [.ref (A 313), .int (nI k), .int 0]) (A := A) (w' := v9) (v := .int (wI (-1000) (pAmendedClause v9 (nI k) 0).1)) (c_L_amendedClause' κ.l hl κ.Γ M1 A v9 hB hJ9.inv (nI k) 0 (j_amendedClause hJ9 (nI k) 0)) hF k5120 k790 k0 k5121 ⟨by decide, by decide, (show (parseMethodDescriptor yL_amendedClause.desc).map (fun d => d.parameters.length) = some 3 by decide +kernel)⟩ rfl (Nat.le_of_ble_eq_true rfl) (by rw [hRm]; decide) (by rw [hRm]; exact ⟨by (show _ ≤ 5100); omega, by (show _ ≤ 30600); omega⟩) (fun M1 hB hF => ?_)
                    refine g_iload X dL_isDecided_167 0 rfl ?_
                    refine g_icmp_ne (tgt := 191) X dL_isDecided_169 (by decide) (fun c73 => absurd c73 (pN eNX)) (fun c73 => ?_)
                    refine g_aload_n X dL_isDecided_172 rfl 10 rfl ?_
                    refine g_iload_n X dL_isDecided_173 rfl 9 rfl ?_
                    refine g_cV X dL_isDecided_174 (As := [.int (nI k)]) (A := A) (w := v9) (w' := v9) (v := .int ((v9.1 0).2.1 8 (cN (nI k)))) (Ct.gy hb9 (c_X3_pendingCount κ.l hl κ.Γ M1 A v9 hB hJ9.inv (nI k))) hB hF k5096 k786 k787 k1 k788 ⟨rfl, by decide, by decide, (show (parseMethodDescriptor yX3_pendingCount.desc).map (fun d => d.parameters.length) = some 1 by decide +kernel)⟩ rfl (Nat.le_of_ble_eq_true rfl) (by rw [hRm]; decide) (by rw [hRm]; exact ⟨by (show _ ≤ 5100); omega, by (show _ ≤ 30600); omega⟩) (fun M1 hB hF => ?_)
                    refine g_iload X dL_isDecided_177 7 rfl ?_
                    refine g_iload X dL_isDecided_179 6 rfl ?_
                    refine g_isub X dL_isDecided_181 ?_
                    refine g_iconst (v := 1) X dL_isDecided_182 (by decide) ?_
                    refine g_isub X dL_isDecided_183 ?_
                    refine g_icmp_ne (tgt := 191) X dL_isDecided_184 (by decide) (fun c74 => absurd c74 (pN (by rw [ec, hDD9.2.2.2.2, nI_sub (by omega), nI_sub1 (by omega), show p - s - 1 = p - (s + 1) by omega]))) (fun c74 => ?_)
                    refine g_iconst (v := 1) X dL_isDecided_187 (by decide) ?_
                    refine g_goto (tgt := 192) X dL_isDecided_188 (by decide) ?_
                    refine g_istore (L' := [(7, .int 1), (12, .int (wI (-1000) (pAmendedClause v (nI k) 1).1)), (10, .long ((v.1 0).2.2 (cN (nI k)))), (9, .int 0), (8, .int ((v.1 0).2.1 (12 + cN (nI k)) (cN 0))), (6, .int (alN (w.1 0) 4)), (5, .int (nI s)), (4, .int (nI p)), (2, .long (dgH (w.1 0))), (1, .int (nI k)), (0, .ref (A 313))]) X dL_isDecided_192 (by rw [hnL]; decide) rfl ?_
                    refine g_iinc (k := 6) (v := (nI (s + 1))) (L' := [(5, .int (nI (s + 1))), (7, .int 1), (12, .int (wI (-1000) (pAmendedClause v (nI k) 1).1)), (10, .long ((v.1 0).2.2 (cN (nI k)))), (9, .int 0), (8, .int ((v.1 0).2.1 (12 + cN (nI k)) (cN 0))), (6, .int (alN (w.1 0) 4)), (4, .int (nI p)), (2, .long (dgH (w.1 0))), (1, .int (nI k)), (0, .ref (A 313))]) X dL_isDecided_194 rfl (nI_1 _) (by rw [hnL]; decide) rfl ?_
                    refine g_goto (tgt := 47) X dL_isDecided_197 (by decide) ?_
                    refine g_locs [1, 6, 0, 7, 8, 9, 10] (L' := [(7, .int 1), (6, .int (alN (w.1 0) 4)), (5, .int (nI (s + 1))), (4, .int (nI p)), (2, .long (dgH (w.1 0))), (1, .int (nI k)), (0, .ref (A 313))]) rfl ?_
                    refine g_widen (k := 1330 + 30 * (s + 1)) (n := 7980 + 180 * (s + 1)) (by omega) (by omega) ?_
                    exact ih47 (s + 1) v9 M1 (by omega) (by omega) hJ9 hDD9 hB hF
                  · have hya : accD (v.1 0) (nI k) := by (show hW (v.1 0) ((v.1 0).1 1) < 2 * hW (v.1 0) ((v.1 0).2.1 (20 + cN (nI k)) 0)); rw [← hal2]; exact Int32.not_le.mp c68
                    refine g_iconst (v := 1) X dL_isDecided_95 (by decide) ?_
                    refine g_goto (tgt := 100) X dL_isDecided_96 (by decide) ?_
                    refine g_istore (L' := [(9, .int 1), (8, .int ((v.1 0).2.1 (12 + cN (nI k)) (cN 0))), (7, .int 1), (6, .int (alN (w.1 0) 4)), (5, .int (nI s)), (4, .int (nI p)), (2, .long (dgH (w.1 0))), (1, .int (nI k)), (0, .ref (A 313))]) X dL_isDecided_100 (by rw [hnL]; decide) rfl ?_
                    refine g_aload_n X dL_isDecided_102 rfl 8 rfl ?_
                    refine g_iload_n X dL_isDecided_103 rfl 7 rfl ?_
                    refine g_cV X dL_isDecided_104 (As := [.int (nI k)]) (A := A) (w := v) (w' := v) (v := .long ((v.1 0).2.2 (cN (nI k)))) (Ct.gy hbv (c_X3_clauses κ.l hl κ.Γ M1 A v hB hJv.inv (nI k))) hB hF k5089 k614 k615 k1 k616 ⟨rfl, by decide, by decide, (show (parseMethodDescriptor yX3_clauses.desc).map (fun d => d.parameters.length) = some 1 by decide +kernel)⟩ rfl (Nat.le_of_ble_eq_true rfl) (by rw [hRm]; decide) (by rw [hRm]; exact ⟨by (show _ ≤ 5100); omega, by (show _ ≤ 30600); omega⟩) (fun M1 hB hF => ?_)
                    refine g_lstore (L' := [(10, .long ((v.1 0).2.2 (cN (nI k)))), (9, .int 1), (8, .int ((v.1 0).2.1 (12 + cN (nI k)) (cN 0))), (7, .int 1), (6, .int (alN (w.1 0) 4)), (5, .int (nI s)), (4, .int (nI p)), (2, .long (dgH (w.1 0))), (1, .int (nI k)), (0, .ref (A 313))]) X dL_isDecided_107 (by rw [hnL]; decide) rfl ?_
                    refine g_aload_n X dL_isDecided_109 rfl 9 rfl ?_
                    refine g_iload_n X dL_isDecided_110 rfl 8 rfl ?_
                    refine g_iconst (v := 1) X dL_isDecided_111 (by decide) ?_
                    refine g_cW X dL_isDecided_112 (As := [.ref (A 313), .int (nI k), .int 1]) (A := A) (w' := v) (v := .int (wI (-1000) (pAmendedClause v (nI k) 1).1)) (c_L_amendedClause' κ.l hl κ.Γ M1 A v hB hJv.inv (nI k) 1 (j_amendedClause hJv (nI k) 1)) hF k5120 k790 k0 k5121 ⟨by decide, by decide, (show (parseMethodDescriptor yL_amendedClause.desc).map (fun d => d.parameters.length) = some 3 by decide +kernel)⟩ rfl (Nat.le_of_ble_eq_true rfl) (by rw [hRm]; decide) (by rw [hRm]; exact ⟨by (show _ ≤ 5100); omega, by (show _ ≤ 30600); omega⟩) (fun M1 hB hF => ?_)
                    refine g_istore (L' := [(12, .int (wI (-1000) (pAmendedClause v (nI k) 1).1)), (10, .long ((v.1 0).2.2 (cN (nI k)))), (9, .int 1), (8, .int ((v.1 0).2.1 (12 + cN (nI k)) (cN 0))), (7, .int 1), (6, .int (alN (w.1 0) 4)), (5, .int (nI s)), (4, .int (nI p)), (2, .long (dgH (w.1 0))), (1, .int (nI k)), (0, .ref (A 313))]) X dL_isDecided_115 (by rw [hnL]; decide) rfl ?_
                    refine g_aload_n X dL_isDecided_117 rfl 10 rfl ?_
                    refine g_iload_n X dL_isDecided_118 rfl 9 rfl ?_
                    have hcd := c_L_decide κ.l hl κ.Γ M1 A v hB hJv.inv (nI k) (j_decide hJv (nI k)).1
                    rw [epd] at hcd
                    refine g_cW X dL_isDecided_119 (As := [.ref (A 313), .int (nI k)]) (A := A) (w' := v9) (v := .int (bI (accD (v.1 0) (nI k)))) hcd hF k5070 k768 k0 k5071 ⟨by decide, by decide, (show (parseMethodDescriptor yL_decide.desc).map (fun d => d.parameters.length) = some 2 by decide +kernel)⟩ rfl (Nat.le_of_ble_eq_true rfl) (by rw [hRm]; decide) (by rw [hRm]; exact ⟨by (show _ ≤ 5100); omega, by (show _ ≤ 30600); omega⟩) (fun M1 hB hF => ?_)
                    refine g_iload X dL_isDecided_122 2 rfl ?_
                    refine g_if_eq (tgt := 131) X dL_isDecided_124 (by decide) (fun c75 => absurd c75 (by decide)) (fun c75 => ?_)
                    refine g_iconst (v := 1) X dL_isDecided_127 (by decide) ?_
                    refine g_goto (tgt := 132) X dL_isDecided_128 (by decide) ?_
                    refine g_icmp_ne (tgt := 191) X dL_isDecided_132 (by decide) (fun c76 => absurd c76 (pN (bI_t hya))) (fun c76 => ?_)
                    refine g_aload_n X dL_isDecided_135 rfl 10 rfl ?_
                    refine g_iload_n X dL_isDecided_136 rfl 9 rfl ?_
                    refine g_cV X dL_isDecided_137 (As := [.int (nI k)]) (A := A) (w := v9) (w' := v9) (v := .long ((v9.1 0).2.2 (cN (nI k)))) (Ct.gy hb9 (c_X3_clauses κ.l hl κ.Γ M1 A v9 hB hJ9.inv (nI k))) hB hF k5089 k614 k615 k1 k616 ⟨rfl, by decide, by decide, (show (parseMethodDescriptor yX3_clauses.desc).map (fun d => d.parameters.length) = some 1 by decide +kernel)⟩ rfl (Nat.le_of_ble_eq_true rfl) (by rw [hRm]; decide) (by rw [hRm]; exact ⟨by (show _ ≤ 5100); omega, by (show _ ≤ 30600); omega⟩) (fun M1 hB hF => ?_)
                    refine g_iload X dL_isDecided_140 2 rfl ?_
                    refine g_if_eq (tgt := 155) X dL_isDecided_142 (by decide) (fun c77 => absurd c77 (by decide)) (fun c77 => ?_)
                    refine g_lload X dL_isDecided_145 1 rfl ?_
                    refine g_lconst (v := 1) X dL_isDecided_147 rfl ?_
                    refine g_iload X dL_isDecided_148 3 rfl ?_
                    refine g_lshl X dL_isDecided_150 ?_
                    refine g_lxor X dL_isDecided_151 ?_
                    refine g_goto (tgt := 157) X dL_isDecided_152 (by decide) ?_
                    refine g_lcmp X dL_isDecided_157 ?_
                    refine g_if_ne (tgt := 191) X dL_isDecided_158 (by decide) (fun c78 => absurd c78 (pN (by rw [e22, if_pos hya]; exact lg_cmp_self _))) (fun c78 => ?_)
                    refine g_aload_n X dL_isDecided_161 rfl 10 rfl ?_
                    refine g_iload_n X dL_isDecided_162 rfl 9 rfl ?_
                    refine g_iconst (v := 0) X dL_isDecided_163 (by decide) ?_
                    refine g_cW X dL_isDecided_164 (As := [.ref (A 313), .int (nI k), .int 0]) (A := A) (w' := v9) (v := .int (wI (-1000) (pAmendedClause v9 (nI k) 0).1)) (c_L_amendedClause' κ.l hl κ.Γ M1 A v9 hB hJ9.inv (nI k) 0 (j_amendedClause hJ9 (nI k) 0)) hF k5120 k790 k0 k5121 ⟨by decide, by decide, (show (parseMethodDescriptor yL_amendedClause.desc).map (fun d => d.parameters.length) = some 3 by decide +kernel)⟩ rfl (Nat.le_of_ble_eq_true rfl) (by rw [hRm]; decide) (by rw [hRm]; exact ⟨by (show _ ≤ 5100); omega, by (show _ ≤ 30600); omega⟩) (fun M1 hB hF => ?_)
                    refine g_iload X dL_isDecided_167 0 rfl ?_
                    refine g_icmp_ne (tgt := 191) X dL_isDecided_169 (by decide) (fun c79 => absurd c79 (pN eNX)) (fun c79 => ?_)
                    refine g_aload_n X dL_isDecided_172 rfl 10 rfl ?_
                    refine g_iload_n X dL_isDecided_173 rfl 9 rfl ?_
                    refine g_cV X dL_isDecided_174 (As := [.int (nI k)]) (A := A) (w := v9) (w' := v9) (v := .int ((v9.1 0).2.1 8 (cN (nI k)))) (Ct.gy hb9 (c_X3_pendingCount κ.l hl κ.Γ M1 A v9 hB hJ9.inv (nI k))) hB hF k5096 k786 k787 k1 k788 ⟨rfl, by decide, by decide, (show (parseMethodDescriptor yX3_pendingCount.desc).map (fun d => d.parameters.length) = some 1 by decide +kernel)⟩ rfl (Nat.le_of_ble_eq_true rfl) (by rw [hRm]; decide) (by rw [hRm]; exact ⟨by (show _ ≤ 5100); omega, by (show _ ≤ 30600); omega⟩) (fun M1 hB hF => ?_)
                    refine g_iload X dL_isDecided_177 7 rfl ?_
                    refine g_iload X dL_isDecided_179 6 rfl ?_
                    refine g_isub X dL_isDecided_181 ?_
                    refine g_iconst (v := 1) X dL_isDecided_182 (by decide) ?_
                    refine g_isub X dL_isDecided_183 ?_
                    refine g_icmp_ne (tgt := 191) X dL_isDecided_184 (by decide) (fun c80 => absurd c80 (pN (by rw [ec, hDD9.2.2.2.2, nI_sub (by omega), nI_sub1 (by omega), show p - s - 1 = p - (s + 1) by omega]))) (fun c80 => ?_)
                    refine g_iconst (v := 1) X dL_isDecided_187 (by decide) ?_
                    refine g_goto (tgt := 192) X dL_isDecided_188 (by decide) ?_
                    refine g_istore (L' := [(7, .int 1), (12, .int (wI (-1000) (pAmendedClause v (nI k) 1).1)), (10, .long ((v.1 0).2.2 (cN (nI k)))), (9, .int 1), (8, .int ((v.1 0).2.1 (12 + cN (nI k)) (cN 0))), (6, .int (alN (w.1 0) 4)), (5, .int (nI s)), (4, .int (nI p)), (2, .long (dgH (w.1 0))), (1, .int (nI k)), (0, .ref (A 313))]) X dL_isDecided_192 (by rw [hnL]; decide) rfl ?_
                    refine g_iinc (k := 6) (v := (nI (s + 1))) (L' := [(5, .int (nI (s + 1))), (7, .int 1), (12, .int (wI (-1000) (pAmendedClause v (nI k) 1).1)), (10, .long ((v.1 0).2.2 (cN (nI k)))), (9, .int 1), (8, .int ((v.1 0).2.1 (12 + cN (nI k)) (cN 0))), (6, .int (alN (w.1 0) 4)), (4, .int (nI p)), (2, .long (dgH (w.1 0))), (1, .int (nI k)), (0, .ref (A 313))]) X dL_isDecided_194 rfl (nI_1 _) (by rw [hnL]; decide) rfl ?_
                    refine g_goto (tgt := 47) X dL_isDecided_197 (by decide) ?_
                    refine g_locs [1, 6, 0, 7, 8, 9, 10] (L' := [(7, .int 1), (6, .int (alN (w.1 0) 4)), (5, .int (nI (s + 1))), (4, .int (nI p)), (2, .long (dgH (w.1 0))), (1, .int (nI k)), (0, .ref (A 313))]) rfl ?_
                    refine g_widen (k := 1330 + 30 * (s + 1)) (n := 7980 + 180 * (s + 1)) (by omega) (by omega) ?_
                    exact ih47 (s + 1) v9 M1 (by omega) (by omega) hJ9 hDD9 hB hF
        refine g_locs [1, 2, 3, 4, 5, 6, 7] (L' := [(7, .int 1), (6, .int (alN (w.1 0) 4)), (5, .int 0), (4, .int (nI p)), (2, .long (dgH (w.1 0))), (1, .int (nI k)), (0, .ref (A 313))]) rfl ?_
        refine g_widen (k := 1330 + 30 * 0) (n := 7980 + 180 * 0) (by omega) (by omega) ?_
        exact lp63 _ 0 w M1 (Nat.lt_succ_self _) (Nat.zero_le _) hJ (⟨KS.rf, Or.inl ⟨rfl, rfl⟩, ⟨rfl, rfl, rfl, rfl⟩, ⟨rfl, rfl⟩, ep⟩) hB hF
      · have hlt4 : t < 4 := lt_N (a := 4) (by decide) (by omega) rfl c2
        have hgw : isW (nI t) := ⟨nneg (by omega), (nI_ltI (b := 4) (by omega) (by decide)).mpr hlt4⟩
        refine g_iload X dL_isDecided_30 2 rfl ?_
        refine g_aload_n X dL_isDecided_32 rfl 7 rfl ?_
        refine g_iload X dL_isDecided_33 0 rfl ?_
        refine g_cV X dL_isDecided_35 (As := [.int (nI t)]) (A := A) (w := w) (w' := w) (v := .int (hWW (w.1 0) (nI t))) (Ct.gy hgw (c_X3_wardWeight κ.l hl κ.Γ M1 A w hB hJ.inv (nI t))) hB hF k5132 k557 k558 k1 k559 ⟨rfl, by decide, by decide, (show (parseMethodDescriptor yX3_wardWeight.desc).map (fun d => d.parameters.length) = some 1 by decide +kernel)⟩ rfl (Nat.le_of_ble_eq_true rfl) (by rw [hRm]; decide) (by rw [hRm]; exact ⟨by (show _ ≤ 5100); omega, by (show _ ≤ 30600); omega⟩) (fun M1 hB hF => ?_)
        refine g_iadd X dL_isDecided_38 ?_
        refine g_lit (y := alN (w.1 0) (t + 1)) rfl ?_
        refine g_istore (L' := [(6, .int (alN (w.1 0) (t + 1))), (8, .int (nI t)), (7, .int 1), (5, .int 0), (4, .int (nI p)), (2, .long (dgH (w.1 0))), (1, .int (nI k)), (0, .ref (A 313))]) X dL_isDecided_39 (by rw [hnL]; decide) rfl ?_
        refine g_iinc (k := 1) (v := (nI (t + 1))) (L' := [(8, .int (nI (t + 1))), (6, .int (alN (w.1 0) (t + 1))), (7, .int 1), (5, .int 0), (4, .int (nI p)), (2, .long (dgH (w.1 0))), (1, .int (nI k)), (0, .ref (A 313))]) X dL_isDecided_41 rfl (nI_1 _) (by rw [hnL]; decide) rfl ?_
        refine g_goto (tgt := 24) X dL_isDecided_44 (by decide) ?_
        refine g_locs [0, 2, 1, 3, 4, 5, 6, 7] (L' := [(8, .int (nI (t + 1))), (7, .int 1), (6, .int (alN (w.1 0) (t + 1))), (5, .int 0), (4, .int (nI p)), (2, .long (dgH (w.1 0))), (1, .int (nI k)), (0, .ref (A 313))]) rfl ?_
        refine g_widen (k := 1310 + 3 * (t + 1)) (n := 7860 + 18 * (t + 1)) (by omega) (by omega) ?_
        exact ih24 (t + 1) M1 (by omega) (by omega) hB hF
  refine g_locs [0, 1, 2, 3, 4, 5, 7, 6] (L' := [(8, .int 0), (7, .int 1), (6, .int 0), (5, .int 0), (4, .int (nI p)), (2, .long (dgH (w.1 0))), (1, .int (nI k)), (0, .ref (A 313))]) rfl ?_
  refine g_widen (k := 1310 + 3 * 0) (n := 7860 + 18 * 0) (by omega) (by omega) ?_
  exact lp1 _ 0 M1 (Nat.lt_succ_self _) (Nat.zero_le _) hB hF
