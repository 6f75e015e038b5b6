set_option maxRecDepth 100000 in
set_option maxHeartbeats 4000000 in
theorem c_L_isRidden (l : Launch) (hl : l.stackTraces = false) (Γ : Gm) (M : Hp) (A : Nat → Nat) (w : PV) (hB : BRep Γ A w M) (hJ : J w) (k : Nat) (hk8 : k < 8) (hb : hasB (w.1 0) (nI k)) : Ct l Γ yL_isRidden cL_isRidden 9 (some .boolean) 7 4700 28200 [.ref (A 313), .int (nI k)] M (LwP Γ A M (fun v w' => v = some (.int 1) ∧ J w' ∧ KQ w w')) := by
  refine Ct.of hl (by decide) (Nat.le_of_ble_eq_true rfl) rfl ?_
  intro κ e1 e2 hnL hRm X F hlt
  subst e1 e2
  obtain ⟨m, n, u, q⟩ := hJ.hs
  have em : (w.1 0).1 0 = nI m := q.2.1.1
  have en : (w.1 0).1 3 = nI n := q.2.2.1.1
  obtain ⟨hm, hn⟩ := q.1
  have ec : cN (nI k) = k := cN_nI (by omega)
  have hkn : k < n := by have z := hb.2; rw [en] at z; exact (nI_ltI (by omega) (by omega)).mp z
  obtain ⟨-, -, -, hst, -, ⟨d, hd, ed, hd0⟩, -, -⟩ := q.bl hk8
  refine g_iconst (v := 0) X dL_isRidden_0 (by decide) ?_
  refine g_istore_n (L' := [(2, .int 0), (0, .ref (A 313)), (1, .int (nI k))]) X dL_isRidden_1 rfl (by rw [hnL]; decide) rfl ?_
  have lp1 : ∀ (n9 : Nat) (i : Nat) (M1 : Hp), m - i < n9 → i ≤ m → BRep κ.Γ A w M1 → Fr A 315 M M1 → G κ M1 (6 * i) (36 * i) [(2, .int (nI i)), (1, .int (nI k)), (0, .ref (A 313))] 2 [] := by
    intro n9
    induction n9 with
    | zero => intro i M1 h9; exact absurd h9 (Nat.not_lt_zero _)
    | succ n9 ih2 =>
      intro i M1 hn9_2 hi hB hF
      refine g_iload_n X dL_isRidden_2 rfl 0 rfl ?_
      refine g_aload_n X dL_isRidden_3 rfl 2 rfl ?_
      refine g_cV X dL_isRidden_4 (As := []) (A := A) (w := w) (w' := w) (v := .int ((w.1 0).1 0)) (c_X3_memberCount κ.l hl κ.Γ M1 A w hB hJ.inv) hB hF k5002 k189 k190 k1 k191 ⟨rfl, by decide, by decide, (show (parseMethodDescriptor yX3_memberCount.desc).map (fun d => d.parameters.length) = some 0 by decide +kernel)⟩ rfl (Nat.le_of_ble_eq_true rfl) (by rw [hRm]; decide) (by rw [hRm]; exact ⟨by (show _ ≤ 4700); omega, by (show _ ≤ 28200); omega⟩) (fun M1 hB hF => ?_)
      refine g_icmp_ge (tgt := 24) X dL_isRidden_7 (by decide) (fun c2 => ?_) (fun c2 => ?_)
      · have hge : i = m := Nat.le_antisymm hi (ge_N (by omega) (by omega) em c2)
        refine g_widen (k := 160) (n := 960) (by omega) (by omega) ?_
        refine g_aload_n X dL_isRidden_24 rfl 2 rfl ?_
        refine g_iload_n X dL_isRidden_25 rfl 1 rfl ?_
        refine g_bipush (v := 30) X dL_isRidden_26 (by decide) ?_
        refine g_cW X dL_isRidden_28 (As := [.ref (A 313), .int (nI k), .int 30]) (A := A) (w' := w) (v := .int (wI (-1000) (pRidesUntilFall w (nI k) 30).1)) (c_L_ridesUntilFall' κ.l hl κ.Γ M1 A w hB hJ.inv (nI k) 30 (j_ridesUntilFall hJ (nI k) 30)) hF k5143 k839 k0 k5144 ⟨by decide, by decide, (show (parseMethodDescriptor yL_ridesUntilFall.desc).map (fun d => d.parameters.length) = some 3 by decide +kernel)⟩ rfl (Nat.le_of_ble_eq_true rfl) (by rw [hRm]; decide) (by rw [hRm]; exact ⟨by (show _ ≤ 4700); omega, by (show _ ≤ 28200); omega⟩) (fun M1 hB hF => ?_)
        by_cases so : (w.1 0).2.1 3 k = 0
        · have hd8 := hd0 so
          obtain ⟨R, hR⟩ : ∃ R, R = (209 - d) / 30 := ⟨_, rfl⟩
          refine g_lit (y := nI R) (by rw [hR]; exact ru_open hk8 hb ed hd8 so) ?_
          refine g_istore_n (L' := [(3, .int (nI R)), (2, .int (nI i)), (1, .int (nI k)), (0, .ref (A 313))]) X dL_isRidden_31 rfl (by rw [hnL]; decide) rfl ?_
          refine g_iload_n X dL_isRidden_32 rfl 0 rfl ?_
          refine g_sipush (v := (-1000)) X dL_isRidden_33 (by decide) ?_
          refine g_icmp_eq (tgt := 47) X dL_isRidden_36 (by decide) (fun c3 => absurd c3 (fun z => by have := nneg (k := R) (by omega); rw [z] at this; exact absurd this (by decide))) (fun c3 => ?_)
          refine g_iload_n X dL_isRidden_39 rfl 1 rfl ?_
          refine g_aload_n X dL_isRidden_40 rfl 3 rfl ?_
          refine g_cV X dL_isRidden_41 (As := []) (A := A) (w := w) (w' := w) (v := .int ((w.1 0).1 0)) (c_X3_memberCount κ.l hl κ.Γ M1 A w hB hJ.inv) hB hF k5002 k189 k190 k1 k191 ⟨rfl, by decide, by decide, (show (parseMethodDescriptor yX3_memberCount.desc).map (fun d => d.parameters.length) = some 0 by decide +kernel)⟩ rfl (Nat.le_of_ble_eq_true rfl) (by rw [hRm]; decide) (by rw [hRm]; exact ⟨by (show _ ≤ 4700); omega, by (show _ ≤ 28200); omega⟩) (fun M1 hB hF => ?_)
          refine g_icmp_ne (tgt := 68) X dL_isRidden_44 (by decide) (fun c4 => absurd c4 (pN (by rw [em, hge]))) (fun c4 => ?_)
          refine g_iload_n X dL_isRidden_47 rfl 0 rfl ?_
          refine g_sipush (v := (-1000)) X dL_isRidden_48 (by decide) ?_
          refine g_icmp_ne (tgt := 62) X dL_isRidden_51 (by decide) (fun c5 => ?_) (fun c5 => absurd c5 (fun z => by have := nneg (k := R) (by omega); rw [z] at this; exact absurd this (by decide)))
          refine g_iconst (v := 1) X dL_isRidden_62 (by decide) ?_
          refine g_goto (tgt := 67) X dL_isRidden_63 (by decide) ?_
          exact g_zret X F dL_isRidden_67 (by omega) (by omega) rfl ⟨_, _, rfl, ⟨rfl, hJ, rfl, KS.rf⟩, hB, hF⟩
        · refine g_lit (y := (-1000)) (ru_clos hk8 hb so) ?_
          refine g_istore_n (L' := [(3, .int (-1000)), (2, .int (nI i)), (1, .int (nI k)), (0, .ref (A 313))]) X dL_isRidden_31 rfl (by rw [hnL]; decide) rfl ?_
          refine g_iload_n X dL_isRidden_32 rfl 0 rfl ?_
          refine g_sipush (v := (-1000)) X dL_isRidden_33 (by decide) ?_
          refine g_icmp_eq (tgt := 47) X dL_isRidden_36 (by decide) (fun c6 => ?_) (fun c6 => absurd (by decide) c6)
          refine g_iload_n X dL_isRidden_47 rfl 0 rfl ?_
          refine g_sipush (v := (-1000)) X dL_isRidden_48 (by decide) ?_
          refine g_icmp_ne (tgt := 62) X dL_isRidden_51 (by decide) (fun c7 => absurd c7 (by decide)) (fun c7 => ?_)
          refine g_aload_n X dL_isRidden_54 rfl 3 rfl ?_
          refine g_iload_n X dL_isRidden_55 rfl 2 rfl ?_
          refine g_cV X dL_isRidden_56 (As := [.int (nI k)]) (A := A) (w := w) (w' := w) (v := .int (bI ((w.1 0).2.1 3 (cN (nI k)) = 0))) (Ct.gy hb (c_X3_isOpen κ.l hl κ.Γ M1 A w hB hJ.inv (nI k))) hB hF k5092 k585 k586 k1 k587 ⟨rfl, by decide, by decide, (show (parseMethodDescriptor yX3_isOpen.desc).map (fun d => d.parameters.length) = some 1 by decide +kernel)⟩ rfl (Nat.le_of_ble_eq_true rfl) (by rw [hRm]; decide) (by rw [hRm]; exact ⟨by (show _ ≤ 4700); omega, by (show _ ≤ 28200); omega⟩) (fun M1 hB hF => ?_)
          refine g_ifb_ne (tgt := 66) X dL_isRidden_59 (by decide) (fun c8 => absurd c8 (fun z => so (by rw [ec] at z; exact z))) (fun c8 => ?_)
          refine g_iconst (v := 1) X dL_isRidden_62 (by decide) ?_
          refine g_goto (tgt := 67) X dL_isRidden_63 (by decide) ?_
          exact g_zret X F dL_isRidden_67 (by omega) (by omega) rfl ⟨_, _, rfl, ⟨rfl, hJ, rfl, KS.rf⟩, hB, hF⟩
      · have hlt : i < m := lt_N (by omega) (by omega) em c2
        have hg : hasM (w.1 0) (nI i) := gM_N em hm hlt
        refine g_aload_n X dL_isRidden_10 rfl 2 rfl ?_
        refine g_iload_n X dL_isRidden_11 rfl 0 rfl ?_
        refine g_cV X dL_isRidden_12 (As := [.int (nI i)]) (A := A) (w := w) (w' := w) (v := .int (bI (inS ((w.1 0).1 1) (nI i)))) (Ct.gy hg (c_X3_isPresent κ.l hl κ.Γ M1 A w hB hJ.inv (nI i))) hB hF k5131 k549 k550 k1 k551 ⟨rfl, by decide, by decide, (show (parseMethodDescriptor yX3_isPresent.desc).map (fun d => d.parameters.length) = some 1 by decide +kernel)⟩ rfl (Nat.le_of_ble_eq_true rfl) (by rw [hRm]; decide) (by rw [hRm]; exact ⟨by (show _ ≤ 4700); omega, by (show _ ≤ 28200); omega⟩) (fun M1 hB hF => ?_)
        refine g_ifb_ne (tgt := 24) X dL_isRidden_15 (by decide) (fun c9 => ?_) (fun c9 => ?_)
        · have hpr : inS ((w.1 0).1 1) (nI i) := c9
          refine g_widen (k := 160) (n := 960) (by omega) (by omega) ?_
          refine g_aload_n X dL_isRidden_24 rfl 2 rfl ?_
          refine g_iload_n X dL_isRidden_25 rfl 1 rfl ?_
          refine g_bipush (v := 30) X dL_isRidden_26 (by decide) ?_
          refine g_cW X dL_isRidden_28 (As := [.ref (A 313), .int (nI k), .int 30]) (A := A) (w' := w) (v := .int (wI (-1000) (pRidesUntilFall w (nI k) 30).1)) (c_L_ridesUntilFall' κ.l hl κ.Γ M1 A w hB hJ.inv (nI k) 30 (j_ridesUntilFall hJ (nI k) 30)) hF k5143 k839 k0 k5144 ⟨by decide, by decide, (show (parseMethodDescriptor yL_ridesUntilFall.desc).map (fun d => d.parameters.length) = some 3 by decide +kernel)⟩ rfl (Nat.le_of_ble_eq_true rfl) (by rw [hRm]; decide) (by rw [hRm]; exact ⟨by (show _ ≤ 4700); omega, by (show _ ≤ 28200); omega⟩) (fun M1 hB hF => ?_)
          by_cases so : (w.1 0).2.1 3 k = 0
          · have hd8 := hd0 so
            obtain ⟨R, hR⟩ : ∃ R, R = (209 - d) / 30 := ⟨_, rfl⟩
            refine g_lit (y := nI R) (by rw [hR]; exact ru_open hk8 hb ed hd8 so) ?_
            refine g_istore_n (L' := [(3, .int (nI R)), (2, .int (nI i)), (1, .int (nI k)), (0, .ref (A 313))]) X dL_isRidden_31 rfl (by rw [hnL]; decide) rfl ?_
            refine g_iload_n X dL_isRidden_32 rfl 0 rfl ?_
            refine g_sipush (v := (-1000)) X dL_isRidden_33 (by decide) ?_
            refine g_icmp_eq (tgt := 47) X dL_isRidden_36 (by decide) (fun c10 => absurd c10 (fun z => by have := nneg (k := R) (by omega); rw [z] at this; exact absurd this (by decide))) (fun c10 => ?_)
            refine g_iload_n X dL_isRidden_39 rfl 1 rfl ?_
            refine g_aload_n X dL_isRidden_40 rfl 3 rfl ?_
            refine g_cV X dL_isRidden_41 (As := []) (A := A) (w := w) (w' := w) (v := .int ((w.1 0).1 0)) (c_X3_memberCount κ.l hl κ.Γ M1 A w hB hJ.inv) hB hF k5002 k189 k190 k1 k191 ⟨rfl, by decide, by decide, (show (parseMethodDescriptor yX3_memberCount.desc).map (fun d => d.parameters.length) = some 0 by decide +kernel)⟩ rfl (Nat.le_of_ble_eq_true rfl) (by rw [hRm]; decide) (by rw [hRm]; exact ⟨by (show _ ≤ 4700); omega, by (show _ ≤ 28200); omega⟩) (fun M1 hB hF => ?_)
            refine g_icmp_ne (tgt := 68) X dL_isRidden_44 (by decide) (fun c11 => ?_) (fun c11 => absurd c11 (fun z => by rw [em] at z; have := (nI_eq (by omega) (by omega)).mp z; omega))
            refine g_aload_n X dL_isRidden_68 rfl 3 rfl ?_
            refine g_cS X dL_isRidden_69 (As := [.ref (A 313)]) (A := A) (c_L_digest' κ.l hl κ.Γ M1 A w hB hJ) hF k5077 k5078 k0 k5079 ⟨by decide, by decide, (show (parseMethodDescriptor yL_digest.desc).map (fun d => d.parameters.length) = some 1 by decide +kernel)⟩ rfl (Nat.le_of_ble_eq_true rfl) (by rw [hRm]; decide) (by rw [hRm]; exact ⟨by (show _ ≤ 4700); omega, by (show _ ≤ 28200); omega⟩) (fun vd wd M1 h9 hB hF => ?_)
            obtain ⟨rfl, e9w⟩ := h9
            rw [e9w] at hB
            refine g_lstore (L' := [(4, .long (dgH (w.1 0))), (3, .int (nI R)), (2, .int (nI i)), (1, .int (nI k)), (0, .ref (A 313))]) X dL_isRidden_72 (by rw [hnL]; decide) rfl ?_
            refine g_aload_n X dL_isRidden_74 rfl 4 rfl ?_
            refine g_cV X dL_isRidden_75 (As := []) (A := A) (w := w) (w' := w) (v := .int (cntS ((w.1 0).2.1 3) 2 (cN ((w.1 0).1 3)))) (c_X3_fallenCount κ.l hl κ.Γ M1 A w hB hJ.inv) hB hF k5124 k239 k240 k1 k241 ⟨rfl, by decide, by decide, (show (parseMethodDescriptor yX3_fallenCount.desc).map (fun d => d.parameters.length) = some 0 by decide +kernel)⟩ rfl (Nat.le_of_ble_eq_true rfl) (by rw [hRm]; decide) (by rw [hRm]; exact ⟨by (show _ ≤ 4700); omega, by (show _ ≤ 28200); omega⟩) (fun M1 hB hF => ?_)
            refine g_istore (L' := [(6, .int (cntS ((w.1 0).2.1 3) 2 (cN ((w.1 0).1 3)))), (4, .long (dgH (w.1 0))), (3, .int (nI R)), (2, .int (nI i)), (1, .int (nI k)), (0, .ref (A 313))]) X dL_isRidden_78 (by rw [hnL]; decide) rfl ?_
            refine g_iload_n X dL_isRidden_80 rfl 2 rfl ?_
            refine g_iconst (v := 1) X dL_isRidden_81 (by decide) ?_
            refine g_icmp_lt (tgt := 95) X dL_isRidden_82 (by decide) (fun c12 => absurd c12 (fun z => by have := (nI_ltI (b := 1) (by omega) (by decide)).mp z; omega)) (fun c12 => ?_)
            refine g_iload_n X dL_isRidden_85 rfl 2 rfl ?_
            refine g_bipush (v := 6) X dL_isRidden_86 (by decide) ?_
            refine g_icmp_gt (tgt := 95) X dL_isRidden_88 (by decide) (fun c13 => absurd c13 (fun z => by have := (nI_ltI (a := 6) (by decide) (by omega)).mp z; omega)) (fun c13 => ?_)
            refine g_iconst (v := 1) X dL_isRidden_91 (by decide) ?_
            refine g_goto (tgt := 96) X dL_isRidden_92 (by decide) ?_
            refine g_istore (L' := [(7, .int 1), (6, .int (cntS ((w.1 0).2.1 3) 2 (cN ((w.1 0).1 3)))), (4, .long (dgH (w.1 0))), (3, .int (nI R)), (2, .int (nI i)), (1, .int (nI k)), (0, .ref (A 313))]) X dL_isRidden_96 (by rw [hnL]; decide) rfl ?_
            refine g_iconst (v := 1) X dL_isRidden_98 (by decide) ?_
            refine g_istore (L' := [(8, .int 1), (7, .int 1), (6, .int (cntS ((w.1 0).2.1 3) 2 (cN ((w.1 0).1 3)))), (4, .long (dgH (w.1 0))), (3, .int (nI R)), (2, .int (nI i)), (1, .int (nI k)), (0, .ref (A 313))]) X dL_isRidden_99 (by rw [hnL]; decide) rfl ?_
            have lp14 : ∀ (n9 : Nat) (r : Nat) (v : PV) (M1 : Hp), R + 1 - r < n9 → 1 ≤ r → r ≤ R + 1 → J v → RD w v k d R (r - 1) → BRep κ.Γ A v M1 → Fr A 315 M M1 → G κ M1 (1500 + 10 * r) (9000 + 60 * r) [(8, .int (nI r)), (7, .int 1), (6, .int (cntS ((w.1 0).2.1 3) 2 (cN ((w.1 0).1 3)))), (4, .long (dgH (w.1 0))), (3, .int (nI R)), (2, .int (nI i)), (1, .int (nI k)), (0, .ref (A 313))] 101 [] := by
              intro n9
              induction n9 with
              | zero => intro r v M1 h9; exact absurd h9 (Nat.not_lt_zero _)
              | succ n9 ih101 =>
                intro r v M1 hn9_101 hr1 hr2 hJv hRD hB hF
                refine g_iload X dL_isRidden_101 1 rfl ?_
                refine g_if_eq (tgt := 160) X dL_isRidden_103 (by decide) (fun c15 => absurd c15 (by decide)) (fun c15 => ?_)
                refine g_iload X dL_isRidden_106 0 rfl ?_
                refine g_iload_n X dL_isRidden_108 rfl 4 rfl ?_
                refine g_icmp_gt (tgt := 160) X dL_isRidden_109 (by decide) (fun c16 => ?_) (fun c16 => ?_)
                · have hre : r = R + 1 := by have := (nI_ltI (a := R) (by omega) (by omega)).mp c16; omega
                  subst hre
                  obtain ⟨p1, p2, ⟨p3, p4, p5⟩, p6, p7, p8⟩ := hRD
                  have er0 : R + 1 - 1 = R := by omega
                  rw [er0] at p2 p6 p7
                  rw [if_neg (Nat.lt_irrefl _)] at p7
                  have hbv : hasB (v.1 0) (nI k) := ⟨hb.1, by rw [p5]; exact hb.2⟩
                  refine g_widen (k := 1600) (n := 9600) (by omega) (by omega) ?_
                  refine g_iload X dL_isRidden_160 1 rfl ?_
                  refine g_if_eq (tgt := 196) X dL_isRidden_162 (by decide) (fun c17 => absurd c17 (by decide)) (fun c17 => ?_)
                  refine g_aload_n X dL_isRidden_165 rfl 7 rfl ?_
                  refine g_cV X dL_isRidden_166 (As := []) (A := A) (w := v) (w' := v) (v := .int (cntS ((v.1 0).2.1 3) 2 (cN ((v.1 0).1 3)))) (c_X3_fallenCount κ.l hl κ.Γ M1 A v hB hJv.inv) hB hF k5124 k239 k240 k1 k241 ⟨rfl, by decide, by decide, (show (parseMethodDescriptor yX3_fallenCount.desc).map (fun d => d.parameters.length) = some 0 by decide +kernel)⟩ rfl (Nat.le_of_ble_eq_true rfl) (by rw [hRm]; decide) (by rw [hRm]; exact ⟨by (show _ ≤ 4700); omega, by (show _ ≤ 28200); omega⟩) (fun M1 hB hF => ?_)
                  refine g_iload X dL_isRidden_169 2 rfl ?_
                  refine g_iconst (v := 1) X dL_isRidden_171 (by decide) ?_
                  refine g_iadd X dL_isRidden_172 ?_
                  refine g_icmp_ne (tgt := 196) X dL_isRidden_173 (by decide) (fun c18 => absurd c18 (pN (by rw [p5, en, cN_nI (by omega), cs_bump p8 so p7 n (by omega), if_pos hkn]))) (fun c18 => ?_)
                  refine g_aload_n X dL_isRidden_176 rfl 7 rfl ?_
                  refine g_iload_n X dL_isRidden_177 rfl 6 rfl ?_
                  refine g_cV X dL_isRidden_178 (As := [.int (nI k)]) (A := A) (w := v) (w' := v) (v := .int (hRust (v.1 0) (cN (nI k)))) (Ct.gy hbv (c_X3_rust κ.l hl κ.Γ M1 A v hB hJv.inv (nI k))) hB hF k5119 k834 k835 k1 k836 ⟨rfl, by decide, by decide, (show (parseMethodDescriptor yX3_rust.desc).map (fun d => d.parameters.length) = some 1 by decide +kernel)⟩ rfl (Nat.le_of_ble_eq_true rfl) (by rw [hRm]; decide) (by rw [hRm]; exact ⟨by (show _ ≤ 4700); omega, by (show _ ≤ 28200); omega⟩) (fun M1 hB hF => ?_)
                  refine g_iconst (v := 3) X dL_isRidden_181 (by decide) ?_
                  refine g_icmp_lt (tgt := 196) X dL_isRidden_182 (by decide) (fun c19 => absurd c19 (fun z => by rw [show hRust (v.1 0) (cN (nI k)) = (v.1 0).2.1 5 k / 60 from by rw [ec], p6] at z; have := (n60 (by omega)).mp z; omega)) (fun c19 => ?_)
                  refine g_aload_n X dL_isRidden_185 rfl 7 rfl ?_
                  refine g_cS X dL_isRidden_186 (As := [.ref (A 313)]) (A := A) (c_L_areBills κ.l hl κ.Γ M1 A v hB hJv) hF k5099 k5100 k0 k5101 ⟨by decide, by decide, (show (parseMethodDescriptor yL_areBills.desc).map (fun d => d.parameters.length) = some 1 by decide +kernel)⟩ rfl (Nat.le_of_ble_eq_true rfl) (by rw [hRm]; decide) (by rw [hRm]; exact ⟨by (show _ ≤ 4700); omega, by (show _ ≤ 28200); omega⟩) (fun v9 w9 M1 h9 hB hF => ?_)
                  obtain ⟨rfl, Z20, rfl, hJZ20⟩ := h9
                  refine g_if_eq (tgt := 196) X dL_isRidden_189 (by decide) (fun c21 => absurd c21 (by decide)) (fun c21 => ?_)
                  refine g_iconst (v := 1) X dL_isRidden_192 (by decide) ?_
                  refine g_goto (tgt := 197) X dL_isRidden_193 (by decide) ?_
                  refine g_istore (L' := [(7, .int 1), (8, .int (nI (R + 1))), (6, .int (cntS ((w.1 0).2.1 3) 2 (cN ((w.1 0).1 3)))), (4, .long (dgH (w.1 0))), (3, .int (nI R)), (2, .int (nI i)), (1, .int (nI k)), (0, .ref (A 313))]) X dL_isRidden_197 (by rw [hnL]; decide) rfl ?_
                  refine g_iconst (v := 0) X dL_isRidden_199 (by decide) ?_
                  refine g_istore (L' := [(8, .int 0), (7, .int 1), (6, .int (cntS ((w.1 0).2.1 3) 2 (cN ((w.1 0).1 3)))), (4, .long (dgH (w.1 0))), (3, .int (nI R)), (2, .int (nI i)), (1, .int (nI k)), (0, .ref (A 313))]) X dL_isRidden_200 (by rw [hnL]; decide) rfl ?_
                  have lp22 : ∀ (n9 : Nat) (s : Nat) (v : PV) (M1 : Hp), R - s < n9 → s ≤ R → J v → KS w v → Dp (R - s) v (w.1 0) → BRep κ.Γ A v M1 → Fr A 315 M M1 → G κ M1 (3300 + 3 * s) (19800 + 18 * s) [(8, .int (nI s)), (7, .int 1), (4, .long (dgH (w.1 0))), (3, .int (nI R)), (1, .int (nI k)), (0, .ref (A 313))] 202 [] := by
                    intro n9
                    induction n9 with
                    | zero => intro s v M1 h9; exact absurd h9 (Nat.not_lt_zero _)
                    | succ n9 ih202 =>
                      intro s v M1 hn9_202 hs hJv hKS hDp hB hF
                      refine g_iload X dL_isRidden_202 0 rfl ?_
                      refine g_iload_n X dL_isRidden_204 rfl 3 rfl ?_
                      refine g_icmp_ge (tgt := 233) X dL_isRidden_205 (by decide) (fun c23 => ?_) (fun c23 => ?_)
                      · have hse : s = R := Nat.le_antisymm hs (ge_N (by omega) (by omega) rfl c23)
                        subst hse
                        rw [Nat.sub_self] at hDp
                        have hH := hDp.zero
                        refine g_iload X dL_isRidden_233 1 rfl ?_
                        refine g_if_eq (tgt := 252) X dL_isRidden_235 (by decide) (fun c24 => absurd c24 (by decide)) (fun c24 => ?_)
                        refine g_aload_n X dL_isRidden_238 rfl 5 rfl ?_
                        refine g_cS X dL_isRidden_239 (As := [.ref (A 313)]) (A := A) (c_L_digest' κ.l hl κ.Γ M1 A v hB hJv) hF k5077 k5078 k0 k5079 ⟨by decide, by decide, (show (parseMethodDescriptor yL_digest.desc).map (fun d => d.parameters.length) = some 1 by decide +kernel)⟩ rfl (Nat.le_of_ble_eq_true rfl) (by rw [hRm]; decide) (by rw [hRm]; exact ⟨by (show _ ≤ 4700); omega, by (show _ ≤ 28200); omega⟩) (fun vd wd M1 h9 hB hF => ?_)
                        obtain ⟨rfl, e9w⟩ := h9
                        rw [e9w] at hB
                        refine g_lload X dL_isRidden_242 2 rfl ?_
                        refine g_lcmp X dL_isRidden_244 ?_
                        refine g_if_ne (tgt := 252) X dL_isRidden_245 (by decide) (fun c25 => absurd c25 (pN (by rw [hH]; exact lg_cmp_self _))) (fun c25 => ?_)
                        refine g_iconst (v := 1) X dL_isRidden_248 (by decide) ?_
                        refine g_goto (tgt := 253) X dL_isRidden_249 (by decide) ?_
                        exact g_zret X F dL_isRidden_253 (by omega) (by omega) rfl ⟨_, _, rfl, ⟨rfl, hJv, hH, hKS⟩, hB, hF⟩
                      · have hls : s < R := lt_N (by omega) (by omega) rfl c23
                        have hDq : Dp (R - s - 1 + 1) v (w.1 0) := by rw [show R - s - 1 + 1 = R - s by omega]; exact hDp
                        refine g_iload X dL_isRidden_208 1 rfl ?_
                        refine g_if_eq (tgt := 224) X dL_isRidden_210 (by decide) (fun c26 => absurd c26 (by decide)) (fun c26 => ?_)
                        refine g_aload_n X dL_isRidden_213 rfl 5 rfl ?_
                        obtain ⟨eu, hu0, hud⟩ := Dp.undo hDq
                        have hju := j_undo hJv
                        have hcu := c_L_undo κ.l hl κ.Γ M1 A v hB hJv.inv hju.1
                        have hju := hju.2
                        rw [eu] at hju hcu
                        refine g_cW X dL_isRidden_214 (As := [.ref (A 313)]) (A := A) (w' := wUndo v) (v := .int (v.2.2.2.2 2 - 1)) hcu hF k5040 k1069 k0 k5041 ⟨by decide, by decide, (show (parseMethodDescriptor yL_undo.desc).map (fun d => d.parameters.length) = some 1 by decide +kernel)⟩ rfl (Nat.le_of_ble_eq_true rfl) (by rw [hRm]; decide) (by rw [hRm]; exact ⟨by (show _ ≤ 4700); omega, by (show _ ≤ 28200); omega⟩) (fun M1 hB hF => ?_)
                        refine g_if_lt (tgt := 224) X dL_isRidden_217 (by decide) (fun c27 => absurd c27 (Int32.not_lt.mpr hu0)) (fun c27 => ?_)
                        refine g_iconst (v := 1) X dL_isRidden_220 (by decide) ?_
                        refine g_goto (tgt := 225) X dL_isRidden_221 (by decide) ?_
                        refine g_istore (L' := [(7, .int 1), (8, .int (nI s)), (4, .long (dgH (w.1 0))), (3, .int (nI R)), (1, .int (nI k)), (0, .ref (A 313))]) X dL_isRidden_225 (by rw [hnL]; decide) rfl ?_
                        refine g_iinc (k := 1) (v := (nI (s + 1))) (L' := [(8, .int (nI (s + 1))), (7, .int 1), (4, .long (dgH (w.1 0))), (3, .int (nI R)), (1, .int (nI k)), (0, .ref (A 313))]) X dL_isRidden_227 rfl (nI_1 _) (by rw [hnL]; decide) rfl ?_
                        refine g_goto (tgt := 202) X dL_isRidden_230 (by decide) ?_
                        refine g_locs [0, 1, 2, 3, 4, 5] (L' := [(8, .int (nI (s + 1))), (7, .int 1), (4, .long (dgH (w.1 0))), (3, .int (nI R)), (1, .int (nI k)), (0, .ref (A 313))]) rfl ?_
                        refine g_widen (k := 3300 + 3 * (s + 1)) (n := 19800 + 18 * (s + 1)) (by omega) (by omega) ?_
                        exact ih202 (s + 1) (wUndo v) M1 (by omega) (by omega) hju (hKS.tr ks_undo) (by rw [show R - (s + 1) = R - s - 1 by omega]; exact hud) hB hF
                  refine g_locs [0, 1, 3, 4, 6, 7] (L' := [(8, .int 0), (7, .int 1), (4, .long (dgH (w.1 0))), (3, .int (nI R)), (1, .int (nI k)), (0, .ref (A 313))]) rfl ?_
                  refine g_widen (k := 3300 + 3 * 0) (n := 19800 + 18 * 0) (by omega) (by omega) ?_
                  exact lp22 _ 0 (wL v Z20) M1 (Nat.lt_succ_self _) (Nat.zero_le _) hJZ20 p1 p2 hB hF
                · have hrl : r ≤ R := ltc_N (by omega) (by omega) rfl c16
                  have er1 : r - 1 + 1 = r := by omega
                  obtain ⟨v9, epr, hJ9, hRD9⟩ := rd_step (i := i) hJv hk8 hd8 hR (by omega) (by omega) hg hb hpr hRD
                  rw [er1] at hRD9
                  refine g_aload_n X dL_isRidden_112 rfl 7 rfl ?_
                  refine g_iload_n X dL_isRidden_113 rfl 5 rfl ?_
                  refine g_iload_n X dL_isRidden_114 rfl 6 rfl ?_
                  refine g_bipush (v := 30) X dL_isRidden_115 (by decide) ?_
                  have hcr := c_L_ride κ.l hl κ.Γ M1 A v hB hJv.inv (nI i) (nI k) 30 (j_ride hJv (nI i) (nI k) 30).1
                  rw [epr] at hcr
                  refine g_cW X dL_isRidden_117 (As := [.ref (A 313), .int (nI i), .int (nI k), .int 30]) (A := A) (w' := v9) (v := .int (hRust (v9.1 0) (cN (nI k)))) hcr hF k5073 k809 k0 k5074 ⟨by decide, by decide, (show (parseMethodDescriptor yL_ride.desc).map (fun d => d.parameters.length) = some 4 by decide +kernel)⟩ rfl (Nat.le_of_ble_eq_true rfl) (by rw [hRm]; decide) (by rw [hRm]; exact ⟨by (show _ ≤ 4700); omega, by (show _ ≤ 28200); omega⟩) (fun M1 hB hF => ?_)
                  have hbv : hasB (v9.1 0) (nI k) := ⟨hb.1, by rw [hRD9.2.2.1.2.2]; exact hb.2⟩
                  refine g_aload_n X dL_isRidden_120 rfl 7 rfl ?_
                  refine g_iload_n X dL_isRidden_121 rfl 6 rfl ?_
                  refine g_cV X dL_isRidden_122 (As := [.int (nI k)]) (A := A) (w := v9) (w' := v9) (v := .int (hRust (v9.1 0) (cN (nI k)))) (Ct.gy hbv (c_X3_rust κ.l hl κ.Γ M1 A v9 hB hJ9.inv (nI k))) hB hF k5119 k834 k835 k1 k836 ⟨rfl, by decide, by decide, (show (parseMethodDescriptor yX3_rust.desc).map (fun d => d.parameters.length) = some 1 by decide +kernel)⟩ rfl (Nat.le_of_ble_eq_true rfl) (by rw [hRm]; decide) (by rw [hRm]; exact ⟨by (show _ ≤ 4700); omega, by (show _ ≤ 28200); omega⟩) (fun M1 hB hF => ?_)
                  refine g_icmp_ne (tgt := 151) X dL_isRidden_125 (by decide) (fun c28 => absurd c28 (pN rfl)) (fun c28 => ?_)
                  refine g_aload_n X dL_isRidden_128 rfl 7 rfl ?_
                  refine g_iload_n X dL_isRidden_129 rfl 6 rfl ?_
                  refine g_cV X dL_isRidden_130 (As := [.int (nI k)]) (A := A) (w := v9) (w' := v9) (v := .int (bI ((v9.1 0).2.1 3 (cN (nI k)) = 0))) (Ct.gy hbv (c_X3_isOpen κ.l hl κ.Γ M1 A v9 hB hJ9.inv (nI k))) hB hF k5092 k585 k586 k1 k587 ⟨rfl, by decide, by decide, (show (parseMethodDescriptor yX3_isOpen.desc).map (fun d => d.parameters.length) = some 1 by decide +kernel)⟩ rfl (Nat.le_of_ble_eq_true rfl) (by rw [hRm]; decide) (by rw [hRm]; exact ⟨by (show _ ≤ 4700); omega, by (show _ ≤ 28200); omega⟩) (fun M1 hB hF => ?_)
                  refine g_iload X dL_isRidden_133 0 rfl ?_
                  refine g_iload_n X dL_isRidden_135 rfl 4 rfl ?_
                  refine g_icmp_ge (tgt := 143) X dL_isRidden_136 (by decide) (fun c29 => ?_) (fun c29 => ?_)
                  · refine g_iconst (v := 0) X dL_isRidden_143 (by decide) ?_
                    refine g_icmp_ne (tgt := 151) X dL_isRidden_144 (by decide) (fun c30 => absurd c30 (pN (bI_f (fun z => by rw [ec, hRD9.2.2.2.2.1, if_neg (by have := (nI_leI (a := R) (by omega) (by omega)).mp c29; omega)] at z; exact absurd z (by decide))))) (fun c30 => ?_)
                    refine g_iconst (v := 1) X dL_isRidden_147 (by decide) ?_
                    refine g_goto (tgt := 152) X dL_isRidden_148 (by decide) ?_
                    refine g_istore (L' := [(7, .int 1), (8, .int (nI r)), (6, .int (cntS ((w.1 0).2.1 3) 2 (cN ((w.1 0).1 3)))), (4, .long (dgH (w.1 0))), (3, .int (nI R)), (2, .int (nI i)), (1, .int (nI k)), (0, .ref (A 313))]) X dL_isRidden_152 (by rw [hnL]; decide) rfl ?_
                    refine g_iinc (k := 1) (v := (nI (r + 1))) (L' := [(8, .int (nI (r + 1))), (7, .int 1), (6, .int (cntS ((w.1 0).2.1 3) 2 (cN ((w.1 0).1 3)))), (4, .long (dgH (w.1 0))), (3, .int (nI R)), (2, .int (nI i)), (1, .int (nI k)), (0, .ref (A 313))]) X dL_isRidden_154 rfl (nI_1 _) (by rw [hnL]; decide) rfl ?_
                    refine g_goto (tgt := 101) X dL_isRidden_157 (by decide) ?_
                    refine g_locs [0, 1, 2, 3, 4, 5, 6, 7] (L' := [(8, .int (nI (r + 1))), (7, .int 1), (6, .int (cntS ((w.1 0).2.1 3) 2 (cN ((w.1 0).1 3)))), (4, .long (dgH (w.1 0))), (3, .int (nI R)), (2, .int (nI i)), (1, .int (nI k)), (0, .ref (A 313))]) rfl ?_
                    refine g_widen (k := 1500 + 10 * (r + 1)) (n := 9000 + 60 * (r + 1)) (by omega) (by omega) ?_
                    exact ih101 (r + 1) v9 M1 (by omega) (by omega) (by omega) hJ9 hRD9 hB hF
                  · refine g_iconst (v := 1) X dL_isRidden_139 (by decide) ?_
                    refine g_goto (tgt := 144) X dL_isRidden_140 (by decide) ?_
                    refine g_icmp_ne (tgt := 151) X dL_isRidden_144 (by decide) (fun c31 => absurd c31 (pN (bI_t (by rw [ec, hRD9.2.2.2.2.1, if_pos (Nat.not_le.mp fun z => c29 ((nI_leI (a := R) (by omega) (by omega)).mpr z))])))) (fun c31 => ?_)
                    refine g_iconst (v := 1) X dL_isRidden_147 (by decide) ?_
                    refine g_goto (tgt := 152) X dL_isRidden_148 (by decide) ?_
                    refine g_istore (L' := [(7, .int 1), (8, .int (nI r)), (6, .int (cntS ((w.1 0).2.1 3) 2 (cN ((w.1 0).1 3)))), (4, .long (dgH (w.1 0))), (3, .int (nI R)), (2, .int (nI i)), (1, .int (nI k)), (0, .ref (A 313))]) X dL_isRidden_152 (by rw [hnL]; decide) rfl ?_
                    refine g_iinc (k := 1) (v := (nI (r + 1))) (L' := [(8, .int (nI (r + 1))), (7, .int 1), (6, .int (cntS ((w.1 0).2.1 3) 2 (cN ((w.1 0).1 3)))), (4, .long (dgH (w.1 0))), (3, .int (nI R)), (2, .int (nI i)), (1, .int (nI k)), (0, .ref (A 313))]) X dL_isRidden_154 rfl (nI_1 _) (by rw [hnL]; decide) rfl ?_
                    refine g_goto (tgt := 101) X dL_isRidden_157 (by decide) ?_
                    refine g_locs [0, 1, 2, 3, 4, 5, 6, 7] (L' := [(8, .int (nI (r + 1))), (7, .int 1), (6, .int (cntS ((w.1 0).2.1 3) 2 (cN ((w.1 0).1 3)))), (4, .long (dgH (w.1 0))), (3, .int (nI R)), (2, .int (nI i)), (1, .int (nI k)), (0, .ref (A 313))]) rfl ?_
                    refine g_widen (k := 1500 + 10 * (r + 1)) (n := 9000 + 60 * (r + 1)) (by omega) (by omega) ?_
                    exact ih101 (r + 1) v9 M1 (by omega) (by omega) (by omega) hJ9 hRD9 hB hF
            refine g_locs [0, 1, 2, 3, 4, 5, 6, 7] (L' := [(8, .int 1), (7, .int 1), (6, .int (cntS ((w.1 0).2.1 3) 2 (cN ((w.1 0).1 3)))), (4, .long (dgH (w.1 0))), (3, .int (nI R)), (2, .int (nI i)), (1, .int (nI k)), (0, .ref (A 313))]) rfl ?_
            refine g_widen (k := 1500 + 10 * 1) (n := 9000 + 60 * 1) (by omega) (by omega) ?_
            exact lp14 _ 1 w M1 (Nat.lt_succ_self _) (Nat.le_refl _) (by omega) hJ (⟨KS.rf, Or.inl ⟨rfl, rfl⟩, ⟨rfl, rfl, rfl⟩, ed.trans (congrArg nI (by omega)), by (show (w.1 0).2.1 3 k = _); rw [so, if_pos (show 1 - 1 < R by omega)], fun c _ _ => rfl⟩) hB hF
          · refine g_lit (y := (-1000)) (ru_clos hk8 hb so) ?_
            refine g_istore_n (L' := [(3, .int (-1000)), (2, .int (nI i)), (1, .int (nI k)), (0, .ref (A 313))]) X dL_isRidden_31 rfl (by rw [hnL]; decide) rfl ?_
            refine g_iload_n X dL_isRidden_32 rfl 0 rfl ?_
            refine g_sipush (v := (-1000)) X dL_isRidden_33 (by decide) ?_
            refine g_icmp_eq (tgt := 47) X dL_isRidden_36 (by decide) (fun c32 => ?_) (fun c32 => absurd (by decide) c32)
            refine g_iload_n X dL_isRidden_47 rfl 0 rfl ?_
            refine g_sipush (v := (-1000)) X dL_isRidden_48 (by decide) ?_
            refine g_icmp_ne (tgt := 62) X dL_isRidden_51 (by decide) (fun c33 => absurd c33 (by decide)) (fun c33 => ?_)
            refine g_aload_n X dL_isRidden_54 rfl 3 rfl ?_
            refine g_iload_n X dL_isRidden_55 rfl 2 rfl ?_
            refine g_cV X dL_isRidden_56 (As := [.int (nI k)]) (A := A) (w := w) (w' := w) (v := .int (bI ((w.1 0).2.1 3 (cN (nI k)) = 0))) (Ct.gy hb (c_X3_isOpen κ.l hl κ.Γ M1 A w hB hJ.inv (nI k))) hB hF k5092 k585 k586 k1 k587 ⟨rfl, by decide, by decide, (show (parseMethodDescriptor yX3_isOpen.desc).map (fun d => d.parameters.length) = some 1 by decide +kernel)⟩ rfl (Nat.le_of_ble_eq_true rfl) (by rw [hRm]; decide) (by rw [hRm]; exact ⟨by (show _ ≤ 4700); omega, by (show _ ≤ 28200); omega⟩) (fun M1 hB hF => ?_)
            refine g_ifb_ne (tgt := 66) X dL_isRidden_59 (by decide) (fun c34 => absurd c34 (fun z => so (by rw [ec] at z; exact z))) (fun c34 => ?_)
            refine g_iconst (v := 1) X dL_isRidden_62 (by decide) ?_
            refine g_goto (tgt := 67) X dL_isRidden_63 (by decide) ?_
            exact g_zret X F dL_isRidden_67 (by omega) (by omega) rfl ⟨_, _, rfl, ⟨rfl, hJ, rfl, KS.rf⟩, hB, hF⟩
        · refine g_iinc (k := 0) (v := (nI (i + 1))) (L' := [(2, .int (nI (i + 1))), (1, .int (nI k)), (0, .ref (A 313))]) X dL_isRidden_18 rfl (nI_1 _) (by rw [hnL]; decide) rfl ?_
          refine g_goto (tgt := 2) X dL_isRidden_21 (by decide) ?_
          refine g_locs [0, 1, 2] (L' := [(2, .int (nI (i + 1))), (1, .int (nI k)), (0, .ref (A 313))]) rfl ?_
          refine g_widen (k := 6 * (i + 1)) (n := 36 * (i + 1)) (by omega) (by omega) ?_
          exact ih2 (i + 1) M1 (by omega) (by omega) hB hF
  refine g_locs [0, 2, 1] (L' := [(2, .int 0), (1, .int (nI k)), (0, .ref (A 313))]) rfl ?_
  refine g_widen (k := 6 * 0) (n := 36 * 0) (by omega) (by omega) ?_
  exact lp1 _ 0 M (Nat.lt_succ_self _) (Nat.zero_le _) hB Fr.rf
