theorem hd_sub {M : Hp} {o q : Nat} {e : va_E} (h : (if q = o then none else M q) = some e) : M q = some e := by
  by_cases c : q = o
  · rw [if_pos c] at h; cases h
  · rw [if_neg c] at h; exact h
set_option maxRecDepth 100000 in
set_option maxHeartbeats 4000000 in
theorem c_L_areMembers (l : Launch) (hl : l.stackTraces = false) (Γ : Gm) (M : Hp) (A : Nat → Nat) (w : PV) (hB : BRep Γ A w M) (hJ : J w) : Ct l Γ yL_areMembers cL_areMembers 7 (some .boolean) 5 520 3120 [.ref (A 313)] M (BMu Γ A (rI 1, w) M) := by
  refine Ct.of hl (by decide) (Nat.le_of_ble_eq_true rfl) rfl ?_
  intro κ e1 e2 hnL hRm X F hlt
  subst e1 e2
  obtain ⟨m, n, u, q⟩ := hJ.hs
  have em : (w.1 0).1 0 = nI m := q.2.1.1
  have hm := q.1.1
  refine g_iconst (v := 0) X dL_areMembers_0 (by decide) ?_
  refine g_istore_n (L' := [(1, .int 0), (0, .ref (A 313))]) X dL_areMembers_1 rfl (by rw [hnL]; decide) rfl ?_
  refine g_iconst (v := 0) X dL_areMembers_2 (by decide) ?_
  refine g_istore_n (L' := [(2, .int 0), (1, .int 0), (0, .ref (A 313))]) X dL_areMembers_3 rfl (by rw [hnL]; decide) rfl ?_
  refine g_iconst (v := 4) X dL_areMembers_4 (by decide) ?_
  refine g_newa (t0 := 0) (N := 4) (ty := .int) (a0 := (4, .inl (fun _ => 0))) X dL_areMembers_5 k107 rfl rfl (fun _ => rfl) (by decide) (by decide) (by decide) (by rw [hRm]; exact Nat.le_of_ble_eq_true rfl) (by rw [hRm]; exact Nat.le_of_ble_eq_true rfl) (fun o ho => ?_)
  have hoA : ∀ i, i < 315 → o ≠ A i := fun i hi => by obtain ⟨e, he⟩ := hB.some i hi; exact (ho.ne he).symm
  have hoN : M o = none := by
    cases hz : M o with
    | none => rfl
    | some e => exact absurd rfl (ho.ne hz)
  refine g_gen (P := fun M9 => BRep κ.Γ A w M9 ∧ Fr A 315 (hup M o (.inl (κ.Γ.2.1 0, 4, .inl fun _ => 0))) M9) ⟨hB.off hoA, Fr.rf⟩ (fun M1 ⟨hB, hF⟩ => ?_)
  refine g_astore_n (L' := [(3, .ref o), (2, .int 0), (1, .int 0), (0, .ref (A 313))]) X dL_areMembers_7 rfl (by rw [hnL]; decide) rfl ?_
  refine g_iconst (v := 1) X dL_areMembers_8 (by decide) ?_
  refine g_istore (L' := [(4, .int 1), (3, .ref o), (2, .int 0), (1, .int 0), (0, .ref (A 313))]) X dL_areMembers_9 (by rw [hnL]; decide) rfl ?_
  refine g_iconst (v := 0) X dL_areMembers_11 (by decide) ?_
  refine g_istore (L' := [(5, .int 0), (4, .int 1), (3, .ref o), (2, .int 0), (1, .int 0), (0, .ref (A 313))]) X dL_areMembers_12 (by rw [hnL]; decide) rfl ?_
  have lp1 : ∀ (n9 : Nat) (i : Nat) (f : Nat → Int32) (M1 : Hp), m - i < n9 → i ≤ m → (∀ x, x < 4 → f x = wWard ((w.1 0).2.1 1) ((w.1 0).2.1 2) ((w.1 0).1 1) (nI x) i) → BRep κ.Γ A w M1 → Fr A 315 (hup M o (.inl (κ.Γ.2.1 0, 4, .inl f))) M1 → G κ M1 (1 + 18 * i) (4 + 108 * i) [(5, .int (nI i)), (4, .int 1), (3, .ref o), (2, .int (suN ((w.1 0).2.1 2) i)), (1, .int (prN ((w.1 0).1 1) i)), (0, .ref (A 313))] 14 [] := by
    intro n9
    induction n9 with
    | zero => intro i f M1 h9; exact absurd h9 (Nat.not_lt_zero _)
    | succ n9 ih14 =>
      intro i f M1 hn9_14 hi hf hB hF
      refine g_iload X dL_areMembers_14 1 rfl ?_
      refine g_if_eq (tgt := 120) X dL_areMembers_16 (by decide) (fun c2 => absurd c2 (by decide)) (fun c2 => ?_)
      refine g_iload X dL_areMembers_19 0 rfl ?_
      refine g_aload_n X dL_areMembers_21 rfl 5 rfl ?_
      refine g_cV X dL_areMembers_22 (As := []) (A := A) (w := w) (w' := w) (v := .int ((w.1 0).1 0)) (c_X3_memberCount κ.l hl κ.Γ M1 A w hB hJ.inv) hB hF k5002 k189 k190 k1 k191 ⟨rfl, by decide, by decide, (show (parseMethodDescriptor yX3_memberCount.desc).map (fun d => d.parameters.length) = some 0 by decide +kernel)⟩ rfl (Nat.le_of_ble_eq_true rfl) (by rw [hRm]; decide) (by rw [hRm]; exact ⟨by (show _ ≤ 520); omega, by (show _ ≤ 3120); omega⟩) (fun M1 hB hF => ?_)
      refine g_icmp_ge (tgt := 120) X dL_areMembers_25 (by decide) (fun c3 => ?_) (fun c3 => ?_)
      · have hge : i = m := Nat.le_antisymm hi (ge_N (by omega) (by omega) em c3)
        subst hge
        have hff : ∀ x, x < 4 → hWW (w.1 0) (nI x) = f x := fun x hx => (ww_all q (nI x)).trans (hf x hx).symm
        have epj : prN ((w.1 0).1 1) i = jbc ((w.1 0).1 1) := pr_jbc hJ.x0 em hm
        refine g_iconst (v := 0) X dL_areMembers_120 (by decide) ?_
        refine g_istore (L' := [(5, .int 0), (4, .int 1), (3, .ref o), (2, .int (suN ((w.1 0).2.1 2) i)), (1, .int (prN ((w.1 0).1 1) i)), (0, .ref (A 313))]) X dL_areMembers_121 (by rw [hnL]; decide) rfl ?_
        refine g_iconst (v := 0) X dL_areMembers_123 (by decide) ?_
        refine g_istore (L' := [(6, .int 0), (5, .int 0), (4, .int 1), (3, .ref o), (2, .int (suN ((w.1 0).2.1 2) i)), (1, .int (prN ((w.1 0).1 1) i)), (0, .ref (A 313))]) X dL_areMembers_124 (by rw [hnL]; decide) rfl ?_
        have lp4 : ∀ (n9 : Nat) (t : Nat) (M1 : Hp), 4 - t < n9 → t ≤ 4 → BRep κ.Γ A w M1 → Fr A 315 (hup M o (.inl (κ.Γ.2.1 0, 4, .inl f))) M1 → G κ M1 (450 + 3 * t) (2700 + 18 * t) [(6, .int (nI t)), (5, .int (nI (bsN f t))), (4, .int 1), (3, .ref o), (2, .int (suN ((w.1 0).2.1 2) i)), (1, .int (prN ((w.1 0).1 1) i)), (0, .ref (A 313))] 126 [] := by
          intro n9
          induction n9 with
          | zero => intro t M1 h9; exact absurd h9 (Nat.not_lt_zero _)
          | succ n9 ih126 =>
            intro t M1 hn9_126 ht hB hF
            refine g_iload X dL_areMembers_126 2 rfl ?_
            refine g_if_eq (tgt := 183) X dL_areMembers_128 (by decide) (fun c5 => absurd c5 (by decide)) (fun c5 => ?_)
            refine g_iload X dL_areMembers_131 0 rfl ?_
            refine g_iconst (v := 4) X dL_areMembers_133 (by decide) ?_
            refine g_icmp_ge (tgt := 183) X dL_areMembers_134 (by decide) (fun c6 => ?_) (fun c6 => ?_)
            · have hge : t = 4 := Nat.le_antisymm ht (ge_N (a := 4) (by decide) (by omega) rfl c6)
              subst hge
              refine g_iload X dL_areMembers_183 2 rfl ?_
              refine g_if_eq (tgt := 257) X dL_areMembers_185 (by decide) (fun c7 => absurd c7 (by decide)) (fun c7 => ?_)
              refine g_aload_n X dL_areMembers_188 rfl 6 rfl ?_
              refine g_cV X dL_areMembers_189 (As := []) (A := A) (w := w) (w' := w) (v := .int (sw3 (w.1 0))) (c_X3_strongestWard κ.l hl κ.Γ M1 A w hB hJ.inv) hB hF k5133 k215 k216 k1 k217 ⟨rfl, by decide, by decide, (show (parseMethodDescriptor yX3_strongestWard.desc).map (fun d => d.parameters.length) = some 0 by decide +kernel)⟩ rfl (Nat.le_of_ble_eq_true rfl) (by rw [hRm]; decide) (by rw [hRm]; exact ⟨by (show _ ≤ 520); omega, by (show _ ≤ 3120); omega⟩) (fun M1 hB hF => ?_)
              refine g_iload X dL_areMembers_192 1 rfl ?_
              refine g_icmp_ne (tgt := 257) X dL_areMembers_194 (by decide) (fun c8 => absurd c8 (pN (sw_e hff))) (fun c8 => ?_)
              have jn9 : ∀ M1 : Hp, BRep κ.Γ A w M1 → Fr A 315 (hup M o (.inl (κ.Γ.2.1 0, 4, .inl f))) M1 → G κ M1 (480) (2880) [(6, .int (nI 4)), (5, .int (nI (bsN f 4))), (4, .int 1), (3, .ref o), (2, .int (suN ((w.1 0).2.1 2) i)), (1, .int (prN ((w.1 0).1 1) i)), (0, .ref (A 313))] 217 [] := by
                intro M1 hB hF
                refine g_aload_n X dL_areMembers_217 rfl 6 rfl ?_
                refine g_cW X dL_areMembers_218 (As := [.ref (A 313)]) (A := A) (w' := w) (v := .double (wD 13830554455654793216 (pMeanWeight w).1)) (c_L_meanWeight' κ.l hl κ.Γ M1 A w hB hJ.inv hJ.mw (j_meanWeight hJ)) hF k5135 k1027 k0 k5136 ⟨by decide, by decide, (show (parseMethodDescriptor yL_meanWeight.desc).map (fun d => d.parameters.length) = some 1 by decide +kernel)⟩ rfl (Nat.le_of_ble_eq_true rfl) (by rw [hRm]; decide) (by rw [hRm]; exact ⟨by (show _ ≤ 520); omega, by (show _ ≤ 3120); omega⟩) (fun M1 hB hF => ?_)
                refine g_aload_n X dL_areMembers_221 rfl 6 rfl ?_
                refine g_cV X dL_areMembers_222 (As := []) (A := A) (w := w) (w' := w) (v := .int ((w.1 0).1 0)) (c_X3_memberCount κ.l hl κ.Γ M1 A w hB hJ.inv) hB hF k5002 k189 k190 k1 k191 ⟨rfl, by decide, by decide, (show (parseMethodDescriptor yX3_memberCount.desc).map (fun d => d.parameters.length) = some 0 by decide +kernel)⟩ rfl (Nat.le_of_ble_eq_true rfl) (by rw [hRm]; decide) (by rw [hRm]; exact ⟨by (show _ ≤ 520); omega, by (show _ ≤ 3120); omega⟩) (fun M1 hB hF => ?_)
                refine g_if_ne (tgt := 234) X dL_areMembers_225 (by decide) (fun c10 => ?_) (fun c10 => ?_)
                · refine g_iload_n X dL_areMembers_234 rfl 4 rfl ?_
                  refine g_i2d X dL_areMembers_235 ?_
                  refine g_aload_n X dL_areMembers_236 rfl 6 rfl ?_
                  refine g_cV X dL_areMembers_237 (As := []) (A := A) (w := w) (w' := w) (v := .int ((w.1 0).1 0)) (c_X3_memberCount κ.l hl κ.Γ M1 A w hB hJ.inv) hB hF k5002 k189 k190 k1 k191 ⟨rfl, by decide, by decide, (show (parseMethodDescriptor yX3_memberCount.desc).map (fun d => d.parameters.length) = some 0 by decide +kernel)⟩ rfl (Nat.le_of_ble_eq_true rfl) (by rw [hRm]; decide) (by rw [hRm]; exact ⟨by (show _ ≤ 520); omega, by (show _ ≤ 3120); omega⟩) (fun M1 hB hF => ?_)
                  refine g_i2d X dL_areMembers_240 ?_
                  refine g_ddiv X dL_areMembers_241 (by rw [← (su_all q).1]; exact hJ.mw c10) ?_
                  refine g_dcmp X dL_areMembers_242 ?_
                  refine g_if_ne (tgt := 257) X dL_areMembers_243 (by decide) (fun c11 => absurd c11 (pN (by rw [show pMeanWeight w = _ from pG_y c10]; (show Op.cmpValue (FP.dcmp (FP.ddiv (FP.i2d (hW (w.1 0) (shl 1 ((w.1 0).1 0) - 1))) (FP.i2d ((w.1 0).1 0))) _) .l = 0); rw [(su_all q).1]; exact mw_e q c10))) (fun c11 => ?_)
                  refine g_aload_n X dL_areMembers_246 rfl 6 rfl ?_
                  refine g_cV X dL_areMembers_247 (As := []) (A := A) (w := w) (w' := w) (v := .int (bI (consP (w.1 0)))) (c_X3_isConsistent κ.l hl κ.Γ M1 A w hB hJ.inv) hB hF k5139 k247 k248 k1 k249 ⟨rfl, by decide, by decide, (show (parseMethodDescriptor yX3_isConsistent.desc).map (fun d => d.parameters.length) = some 0 by decide +kernel)⟩ rfl (Nat.le_of_ble_eq_true rfl) (by rw [hRm]; decide) (by rw [hRm]; exact ⟨by (show _ ≤ 520); omega, by (show _ ≤ 3120); omega⟩) (fun M1 hB hF => ?_)
                  refine g_ifb_eq (tgt := 257) X dL_areMembers_250 (by decide) (fun c12 => absurd c12 (pN (cons_all q))) (fun c12 => ?_)
                  refine g_iconst (v := 1) X dL_areMembers_253 (by decide) ?_
                  refine g_goto (tgt := 258) X dL_areMembers_254 (by decide) ?_
                  exact g_drop (M' := fun q9 => if q9 = o then none else M1 q9) (fun q9 e9 h9 => hd_sub h9) (g_zret X F dL_areMembers_258 (by omega) (by omega) rfl ⟨rfl, dr_B hB hoA, dr_F hF hoN⟩)
                · refine g_ldc2d (v := 13830554455654793216) X dL_areMembers_228 k5137 ?_
                  refine g_goto (tgt := 242) X dL_areMembers_231 (by decide) ?_
                  refine g_dcmp X dL_areMembers_242 ?_
                  refine g_if_ne (tgt := 257) X dL_areMembers_243 (by decide) (fun c13 => absurd c13 (pN (by rw [show pMeanWeight w = _ from pG_n (pN c10)]; (show Op.cmpValue (FP.dcmp 13830554455654793216 13830554455654793216) .l = 0); decide +kernel))) (fun c13 => ?_)
                  refine g_aload_n X dL_areMembers_246 rfl 6 rfl ?_
                  refine g_cV X dL_areMembers_247 (As := []) (A := A) (w := w) (w' := w) (v := .int (bI (consP (w.1 0)))) (c_X3_isConsistent κ.l hl κ.Γ M1 A w hB hJ.inv) hB hF k5139 k247 k248 k1 k249 ⟨rfl, by decide, by decide, (show (parseMethodDescriptor yX3_isConsistent.desc).map (fun d => d.parameters.length) = some 0 by decide +kernel)⟩ rfl (Nat.le_of_ble_eq_true rfl) (by rw [hRm]; decide) (by rw [hRm]; exact ⟨by (show _ ≤ 520); omega, by (show _ ≤ 3120); omega⟩) (fun M1 hB hF => ?_)
                  refine g_ifb_eq (tgt := 257) X dL_areMembers_250 (by decide) (fun c14 => absurd c14 (pN (cons_all q))) (fun c14 => ?_)
                  refine g_iconst (v := 1) X dL_areMembers_253 (by decide) ?_
                  refine g_goto (tgt := 258) X dL_areMembers_254 (by decide) ?_
                  exact g_drop (M' := fun q9 => if q9 = o then none else M1 q9) (fun q9 e9 h9 => hd_sub h9) (g_zret X F dL_areMembers_258 (by omega) (by omega) rfl ⟨rfl, dr_B hB hoA, dr_F hF hoN⟩)
              refine g_aload_n X dL_areMembers_197 rfl 6 rfl ?_
              refine g_cV X dL_areMembers_198 (As := []) (A := A) (w := w) (w' := w) (v := .int (bI (hQuor (w.1 0)))) (c_X3_isQuorate κ.l hl κ.Γ M1 A w hB hJ.inv) hB hF k5134 k201 k202 k1 k203 ⟨rfl, by decide, by decide, (show (parseMethodDescriptor yX3_isQuorate.desc).map (fun d => d.parameters.length) = some 0 by decide +kernel)⟩ rfl (Nat.le_of_ble_eq_true rfl) (by rw [hRm]; decide) (by rw [hRm]; exact ⟨by (show _ ≤ 520); omega, by (show _ ≤ 3120); omega⟩) (fun M1 hB hF => ?_)
              refine g_iload_n X dL_areMembers_201 rfl 5 rfl ?_
              refine g_aload_n X dL_areMembers_202 rfl 6 rfl ?_
              refine g_cV X dL_areMembers_203 (As := []) (A := A) (w := w) (w' := w) (v := .int ((w.1 0).1 2)) (c_X3_quorum κ.l hl κ.Γ M1 A w hB hJ.inv) hB hF k5083 k197 k198 k1 k199 ⟨rfl, by decide, by decide, (show (parseMethodDescriptor yX3_quorum.desc).map (fun d => d.parameters.length) = some 0 by decide +kernel)⟩ rfl (Nat.le_of_ble_eq_true rfl) (by rw [hRm]; decide) (by rw [hRm]; exact ⟨by (show _ ≤ 520); omega, by (show _ ≤ 3120); omega⟩) (fun M1 hB hF => ?_)
              refine g_icmp_lt (tgt := 213) X dL_areMembers_206 (by decide) (fun c15 => ?_) (fun c15 => ?_)
              · refine g_iconst (v := 0) X dL_areMembers_213 (by decide) ?_
                refine g_icmp_ne (tgt := 257) X dL_areMembers_214 (by decide) (fun c16 => absurd c16 (pN (bI_f (fun z => absurd c15 (Int32.not_lt.mpr (by rw [epj]; exact z)))))) (fun c16 => ?_)
                refine g_widen (k := 480) (n := 2880) (by omega) (by omega) ?_
                exact jn9 M1 hB hF
              · refine g_iconst (v := 1) X dL_areMembers_209 (by decide) ?_
                refine g_goto (tgt := 214) X dL_areMembers_210 (by decide) ?_
                refine g_icmp_ne (tgt := 257) X dL_areMembers_214 (by decide) (fun c17 => absurd c17 (pN (bI_t (by rw [show hQuor (w.1 0) = ((w.1 0).1 2 ≤ prN ((w.1 0).1 1) i) from by rw [epj]]; exact Int32.not_lt.mp c15)))) (fun c17 => ?_)
                refine g_widen (k := 480) (n := 2880) (by omega) (by omega) ?_
                exact jn9 M1 hB hF
            · have hlt4 : t < 4 := lt_N (a := 4) (by decide) (by omega) rfl c6
              have hgw : isW (nI t) := ⟨nneg (by omega), (nI_ltI (b := 4) (by omega) (by decide)).mpr hlt4⟩
              have jn18 : ∀ M1 : Hp, BRep κ.Γ A w M1 → Fr A 315 (hup M o (.inl (κ.Γ.2.1 0, 4, .inl f))) M1 → G κ M1 (450 + 3 * t) (2700 + 18 * t) [(6, .int (nI t)), (5, .int (nI (bsN f t))), (4, .int 1), (3, .ref o), (2, .int (suN ((w.1 0).2.1 2) i)), (1, .int (prN ((w.1 0).1 1) i)), (0, .ref (A 313))] 155 [.int (nI (bsN f (t + 1)))] := by
                intro M1 hB hF
                refine g_istore (L' := [(5, .int (nI (bsN f (t + 1)))), (6, .int (nI t)), (4, .int 1), (3, .ref o), (2, .int (suN ((w.1 0).2.1 2) i)), (1, .int (prN ((w.1 0).1 1) i)), (0, .ref (A 313))]) X dL_areMembers_155 (by rw [hnL]; decide) rfl ?_
                refine g_aload_n X dL_areMembers_157 rfl 6 rfl ?_
                refine g_iload X dL_areMembers_158 1 rfl ?_
                refine g_cV X dL_areMembers_160 (As := [.int (nI t)]) (A := A) (w := w) (w' := w) (v := .int (hWW (w.1 0) (nI t))) (Ct.gy hgw (c_X3_wardWeight κ.l hl κ.Γ M1 A w hB hJ.inv (nI t))) hB hF k5132 k557 k558 k1 k559 ⟨rfl, by decide, by decide, (show (parseMethodDescriptor yX3_wardWeight.desc).map (fun d => d.parameters.length) = some 1 by decide +kernel)⟩ rfl (Nat.le_of_ble_eq_true rfl) (by rw [hRm]; decide) (by rw [hRm]; exact ⟨by (show _ ≤ 520); omega, by (show _ ≤ 3120); omega⟩) (fun M1 hB hF => ?_)
                refine g_aload_n X dL_areMembers_163 rfl 3 rfl ?_
                refine g_iload X dL_areMembers_164 1 rfl ?_
                have hao : M1 o = some (.inl (κ.Γ.2.1 0, 4, .inl f)) := (hF o hoA).trans (hup_s ..)
                refine g_iaload X dL_areMembers_166 hao (vp_in_nI (by omega) (by decide)) ?_
                refine g_lit (y := f t) (by rw [cN_nI (Nat.lt_trans (by omega) (by decide))]) ?_
                refine g_icmp_ne (tgt := 174) X dL_areMembers_167 (by decide) (fun c19 => absurd c19 (pN (hff t hlt4))) (fun c19 => ?_)
                refine g_iconst (v := 1) X dL_areMembers_170 (by decide) ?_
                refine g_goto (tgt := 175) X dL_areMembers_171 (by decide) ?_
                refine g_istore (L' := [(4, .int 1), (5, .int (nI (bsN f (t + 1)))), (6, .int (nI t)), (3, .ref o), (2, .int (suN ((w.1 0).2.1 2) i)), (1, .int (prN ((w.1 0).1 1) i)), (0, .ref (A 313))]) X dL_areMembers_175 (by rw [hnL]; decide) rfl ?_
                refine g_iinc (k := 2) (v := (nI (t + 1))) (L' := [(6, .int (nI (t + 1))), (4, .int 1), (5, .int (nI (bsN f (t + 1)))), (3, .ref o), (2, .int (suN ((w.1 0).2.1 2) i)), (1, .int (prN ((w.1 0).1 1) i)), (0, .ref (A 313))]) X dL_areMembers_177 rfl (nI_1 _) (by rw [hnL]; decide) rfl ?_
                refine g_goto (tgt := 126) X dL_areMembers_180 (by decide) ?_
                refine g_locs [0, 2, 1, 3, 4, 5, 6] (L' := [(6, .int (nI (t + 1))), (5, .int (nI (bsN f (t + 1)))), (4, .int 1), (3, .ref o), (2, .int (suN ((w.1 0).2.1 2) i)), (1, .int (prN ((w.1 0).1 1) i)), (0, .ref (A 313))]) rfl ?_
                refine g_widen (k := 450 + 3 * (t + 1)) (n := 2700 + 18 * (t + 1)) (by omega) (by omega) ?_
                exact ih126 (t + 1) M1 (by omega) (by omega) hB hF
              refine g_aload_n X dL_areMembers_137 rfl 3 rfl ?_
              refine g_iload X dL_areMembers_138 0 rfl ?_
              have hao : M1 o = some (.inl (κ.Γ.2.1 0, 4, .inl f)) := (hF o hoA).trans (hup_s ..)
              refine g_iaload X dL_areMembers_140 hao (vp_in_nI (by omega) (by decide)) ?_
              refine g_lit (y := f t) (by rw [cN_nI (Nat.lt_trans (by omega) (by decide))]) ?_
              refine g_aload_n X dL_areMembers_141 rfl 3 rfl ?_
              refine g_iload X dL_areMembers_142 1 rfl ?_
              have hao : M1 o = some (.inl (κ.Γ.2.1 0, 4, .inl f)) := (hF o hoA).trans (hup_s ..)
              refine g_iaload X dL_areMembers_144 hao (vp_in_nI (bsN_lt f t (by omega)) (by decide)) ?_
              refine g_lit (y := f (bsN f t)) (by rw [cN_nI (Nat.lt_trans (bsN_lt f t (by omega)) (by decide))]) ?_
              refine g_icmp_le (tgt := 153) X dL_areMembers_145 (by decide) (fun c20 => ?_) (fun c20 => ?_)
              · refine g_iload X dL_areMembers_153 1 rfl ?_
                refine g_lit (y := nI (bsN f (t + 1))) (congrArg nI (if_pos c20).symm) ?_
                refine g_widen (k := 450 + 3 * t) (n := 2700 + 18 * t) (by omega) (by omega) ?_
                exact jn18 M1 hB hF
              · refine g_iload X dL_areMembers_148 0 rfl ?_
                refine g_goto (tgt := 155) X dL_areMembers_150 (by decide) ?_
                refine g_lit (y := nI (bsN f (t + 1))) (congrArg nI (if_neg c20).symm) ?_
                refine g_widen (k := 450 + 3 * t) (n := 2700 + 18 * t) (by omega) (by omega) ?_
                exact jn18 M1 hB hF
        refine g_locs [0, 1, 2, 3, 4, 5, 6] (L' := [(6, .int 0), (5, .int 0), (4, .int 1), (3, .ref o), (2, .int (suN ((w.1 0).2.1 2) i)), (1, .int (prN ((w.1 0).1 1) i)), (0, .ref (A 313))]) rfl ?_
        refine g_widen (k := 450 + 3 * 0) (n := 2700 + 18 * 0) (by omega) (by omega) ?_
        exact lp4 _ 0 M1 (Nat.lt_succ_self _) (Nat.zero_le _) hB hF
      · have hlt : i < m := lt_N (by omega) (by omega) em c3
        have hg : hasM (w.1 0) (nI i) := gM_N em hm hlt
        have eci : cN (nI i) = i := cN_nI (by omega)
        obtain ⟨dd, hdd, edd⟩ := (q.2.2.2.2.1 i (by omega)).2.2.2.1 hlt
        have hwd : vp_in ((w.1 0).2.1 1 (cN (nI i))) 4 := by rw [eci, edd]; exact vp_in_nI hdd (by decide)
        refine g_aload_n X dL_areMembers_28 rfl 5 rfl ?_
        refine g_iload X dL_areMembers_29 0 rfl ?_
        refine g_cV X dL_areMembers_31 (As := [.int (nI i)]) (A := A) (w := w) (w' := w) (v := .int (bI (inS ((w.1 0).1 1) (nI i)))) (Ct.gy hg (c_X3_isPresent κ.l hl κ.Γ M1 A w hB hJ.inv (nI i))) hB hF k5131 k549 k550 k1 k551 ⟨rfl, by decide, by decide, (show (parseMethodDescriptor yX3_isPresent.desc).map (fun d => d.parameters.length) = some 1 by decide +kernel)⟩ rfl (Nat.le_of_ble_eq_true rfl) (by rw [hRm]; decide) (by rw [hRm]; exact ⟨by (show _ ≤ 520); omega, by (show _ ≤ 3120); omega⟩) (fun M1 hB hF => ?_)
        refine g_istore (L' := [(6, .int (bI (inS ((w.1 0).1 1) (nI i)))), (5, .int (nI i)), (4, .int 1), (3, .ref o), (2, .int (suN ((w.1 0).2.1 2) i)), (1, .int (prN ((w.1 0).1 1) i)), (0, .ref (A 313))]) X dL_areMembers_34 (by rw [hnL]; decide) rfl ?_
        refine g_iload_n X dL_areMembers_36 rfl 5 rfl ?_
        refine g_iload X dL_areMembers_37 0 rfl ?_
        refine g_ifb_eq (tgt := 46) X dL_areMembers_39 (by decide) (fun c21 => ?_) (fun c21 => ?_)
        · refine g_iconst (v := 0) X dL_areMembers_46 (by decide) ?_
          refine g_iadd X dL_areMembers_47 ?_
          refine g_lit (y := prN ((w.1 0).1 1) (i + 1)) (if_neg c21).symm ?_
          refine g_istore_n (L' := [(1, .int (prN ((w.1 0).1 1) (i + 1))), (6, .int (bI (inS ((w.1 0).1 1) (nI i)))), (5, .int (nI i)), (4, .int 1), (3, .ref o), (2, .int (suN ((w.1 0).2.1 2) i)), (0, .ref (A 313))]) X dL_areMembers_48 rfl (by rw [hnL]; decide) rfl ?_
          refine g_iload_n X dL_areMembers_49 rfl 5 rfl ?_
          refine g_aload_n X dL_areMembers_50 rfl 6 rfl ?_
          refine g_iload X dL_areMembers_51 2 rfl ?_
          refine g_cV X dL_areMembers_53 (As := [.int (nI i)]) (A := A) (w := w) (w' := w) (v := .int ((w.1 0).2.1 2 (cN (nI i)))) (Ct.gy hg (c_X3_weightOf κ.l hl κ.Γ M1 A w hB hJ.inv (nI i))) hB hF k5088 k542 k543 k1 k544 ⟨rfl, by decide, by decide, (show (parseMethodDescriptor yX3_weightOf.desc).map (fun d => d.parameters.length) = some 1 by decide +kernel)⟩ rfl (Nat.le_of_ble_eq_true rfl) (by rw [hRm]; decide) (by rw [hRm]; exact ⟨by (show _ ≤ 520); omega, by (show _ ≤ 3120); omega⟩) (fun M1 hB hF => ?_)
          refine g_iadd X dL_areMembers_56 ?_
          refine g_lit (y := suN ((w.1 0).2.1 2) (i + 1)) rfl ?_
          refine g_istore_n (L' := [(2, .int (suN ((w.1 0).2.1 2) (i + 1))), (1, .int (prN ((w.1 0).1 1) (i + 1))), (6, .int (bI (inS ((w.1 0).1 1) (nI i)))), (5, .int (nI i)), (4, .int 1), (3, .ref o), (0, .ref (A 313))]) X dL_areMembers_57 rfl (by rw [hnL]; decide) rfl ?_
          refine g_aload_n X dL_areMembers_58 rfl 5 rfl ?_
          refine g_aload_n X dL_areMembers_59 rfl 6 rfl ?_
          refine g_iload X dL_areMembers_60 3 rfl ?_
          refine g_cV X dL_areMembers_62 (As := [.int (nI i)]) (A := A) (w := w) (w' := w) (v := .int ((w.1 0).2.1 1 (cN (nI i)))) (Ct.gy hg (c_X3_wardOf κ.l hl κ.Γ M1 A w hB hJ.inv (nI i))) hB hF k5087 k530 k531 k1 k532 ⟨rfl, by decide, by decide, (show (parseMethodDescriptor yX3_wardOf.desc).map (fun d => d.parameters.length) = some 1 by decide +kernel)⟩ rfl (Nat.le_of_ble_eq_true rfl) (by rw [hRm]; decide) (by rw [hRm]; exact ⟨by (show _ ≤ 520); omega, by (show _ ≤ 3120); omega⟩) (fun M1 hB hF => ?_)
          refine g_dup2 X dL_areMembers_65 rfl rfl ?_
          have hao : M1 o = some (.inl (κ.Γ.2.1 0, 4, .inl f)) := (hF o hoA).trans (hup_s ..)
          refine g_iaload X dL_areMembers_66 hao hwd ?_
          refine g_iload X dL_areMembers_67 2 rfl ?_
          refine g_ifb_eq (tgt := 81) X dL_areMembers_69 (by decide) (fun c22 => ?_) (fun c22 => absurd c22 c21)
          refine g_iconst (v := 0) X dL_areMembers_81 (by decide) ?_
          refine g_iadd X dL_areMembers_82 ?_
          have hao : M1 o = some (.inl (κ.Γ.2.1 0, 4, .inl f)) := (hF o hoA).trans (hup_s ..)
          refine g_iastore X dL_areMembers_83 hao hwd ?_
          refine g_gen (P := fun M9 => BRep κ.Γ A w M9 ∧ Fr A 315 (hup M o (.inl (κ.Γ.2.1 0, 4, .inl (upd f (cN ((w.1 0).2.1 1 (cN (nI i)))) ((f (cN ((w.1 0).2.1 1 (cN (nI i))))) + 0))))) M9) ⟨hB.off hoA, fr_put hF⟩ (fun M1 ⟨hB, hF⟩ => ?_)
          refine g_iload X dL_areMembers_84 2 rfl ?_
          refine g_aload_n X dL_areMembers_86 rfl 6 rfl ?_
          refine g_cV X dL_areMembers_87 (As := []) (A := A) (w := w) (w' := w) (v := .int ((w.1 0).1 1)) (c_X3_presentMask κ.l hl κ.Γ M1 A w hB hJ.inv) hB hF k5081 k193 k194 k1 k195 ⟨rfl, by decide, by decide, (show (parseMethodDescriptor yX3_presentMask.desc).map (fun d => d.parameters.length) = some 0 by decide +kernel)⟩ rfl (Nat.le_of_ble_eq_true rfl) (by rw [hRm]; decide) (by rw [hRm]; exact ⟨by (show _ ≤ 520); omega, by (show _ ≤ 3120); omega⟩) (fun M1 hB hF => ?_)
          refine g_iload X dL_areMembers_90 3 rfl ?_
          refine g_ishr X dL_areMembers_92 ?_
          refine g_iconst (v := 1) X dL_areMembers_93 (by decide) ?_
          refine g_iand X dL_areMembers_94 ?_
          refine g_iconst (v := 1) X dL_areMembers_95 (by decide) ?_
          refine g_icmp_ne (tgt := 103) X dL_areMembers_96 (by decide) (fun c23 => ?_) (fun c23 => absurd c23 (fun z => c21 ((inS_shr (by omega)).mpr z)))
          refine g_iconst (v := 0) X dL_areMembers_103 (by decide) ?_
          refine g_icmp_ne (tgt := 111) X dL_areMembers_104 (by decide) (fun c24 => absurd c24 (pN (bI_f c21))) (fun c24 => ?_)
          refine g_iconst (v := 1) X dL_areMembers_107 (by decide) ?_
          refine g_goto (tgt := 112) X dL_areMembers_108 (by decide) ?_
          refine g_istore (L' := [(4, .int 1), (2, .int (suN ((w.1 0).2.1 2) (i + 1))), (1, .int (prN ((w.1 0).1 1) (i + 1))), (6, .int (bI (inS ((w.1 0).1 1) (nI i)))), (5, .int (nI i)), (3, .ref o), (0, .ref (A 313))]) X dL_areMembers_112 (by rw [hnL]; decide) rfl ?_
          refine g_iinc (k := 4) (v := (nI (i + 1))) (L' := [(5, .int (nI (i + 1))), (4, .int 1), (2, .int (suN ((w.1 0).2.1 2) (i + 1))), (1, .int (prN ((w.1 0).1 1) (i + 1))), (6, .int (bI (inS ((w.1 0).1 1) (nI i)))), (3, .ref o), (0, .ref (A 313))]) X dL_areMembers_114 rfl (nI_1 _) (by rw [hnL]; decide) rfl ?_
          refine g_goto (tgt := 14) X dL_areMembers_117 (by decide) ?_
          refine g_locs [0, 1, 5, 2, 3, 6] (L' := [(5, .int (nI (i + 1))), (4, .int 1), (3, .ref o), (2, .int (suN ((w.1 0).2.1 2) (i + 1))), (1, .int (prN ((w.1 0).1 1) (i + 1))), (0, .ref (A 313))]) rfl ?_
          refine g_widen (k := 1 + 18 * (i + 1)) (n := 4 + 108 * (i + 1)) (by omega) (by omega) ?_
          exact ih14 (i + 1) (upd f (cN ((w.1 0).2.1 1 (cN (nI i)))) ((f (cN ((w.1 0).2.1 1 (cN (nI i))))) + 0)) M1 (by omega) (by omega) (wa_n (by omega) hf edd hdd c21) hB hF
        · refine g_iconst (v := 1) X dL_areMembers_42 (by decide) ?_
          refine g_goto (tgt := 47) X dL_areMembers_43 (by decide) ?_
          refine g_iadd X dL_areMembers_47 ?_
          refine g_lit (y := prN ((w.1 0).1 1) (i + 1)) (if_pos c21).symm ?_
          refine g_istore_n (L' := [(1, .int (prN ((w.1 0).1 1) (i + 1))), (6, .int (bI (inS ((w.1 0).1 1) (nI i)))), (5, .int (nI i)), (4, .int 1), (3, .ref o), (2, .int (suN ((w.1 0).2.1 2) i)), (0, .ref (A 313))]) X dL_areMembers_48 rfl (by rw [hnL]; decide) rfl ?_
          refine g_iload_n X dL_areMembers_49 rfl 5 rfl ?_
          refine g_aload_n X dL_areMembers_50 rfl 6 rfl ?_
          refine g_iload X dL_areMembers_51 2 rfl ?_
          refine g_cV X dL_areMembers_53 (As := [.int (nI i)]) (A := A) (w := w) (w' := w) (v := .int ((w.1 0).2.1 2 (cN (nI i)))) (Ct.gy hg (c_X3_weightOf κ.l hl κ.Γ M1 A w hB hJ.inv (nI i))) hB hF k5088 k542 k543 k1 k544 ⟨rfl, by decide, by decide, (show (parseMethodDescriptor yX3_weightOf.desc).map (fun d => d.parameters.length) = some 1 by decide +kernel)⟩ rfl (Nat.le_of_ble_eq_true rfl) (by rw [hRm]; decide) (by rw [hRm]; exact ⟨by (show _ ≤ 520); omega, by (show _ ≤ 3120); omega⟩) (fun M1 hB hF => ?_)
          refine g_iadd X dL_areMembers_56 ?_
          refine g_lit (y := suN ((w.1 0).2.1 2) (i + 1)) rfl ?_
          refine g_istore_n (L' := [(2, .int (suN ((w.1 0).2.1 2) (i + 1))), (1, .int (prN ((w.1 0).1 1) (i + 1))), (6, .int (bI (inS ((w.1 0).1 1) (nI i)))), (5, .int (nI i)), (4, .int 1), (3, .ref o), (0, .ref (A 313))]) X dL_areMembers_57 rfl (by rw [hnL]; decide) rfl ?_
          refine g_aload_n X dL_areMembers_58 rfl 5 rfl ?_
          refine g_aload_n X dL_areMembers_59 rfl 6 rfl ?_
          refine g_iload X dL_areMembers_60 3 rfl ?_
          refine g_cV X dL_areMembers_62 (As := [.int (nI i)]) (A := A) (w := w) (w' := w) (v := .int ((w.1 0).2.1 1 (cN (nI i)))) (Ct.gy hg (c_X3_wardOf κ.l hl κ.Γ M1 A w hB hJ.inv (nI i))) hB hF k5087 k530 k531 k1 k532 ⟨rfl, by decide, by decide, (show (parseMethodDescriptor yX3_wardOf.desc).map (fun d => d.parameters.length) = some 1 by decide +kernel)⟩ rfl (Nat.le_of_ble_eq_true rfl) (by rw [hRm]; decide) (by rw [hRm]; exact ⟨by (show _ ≤ 520); omega, by (show _ ≤ 3120); omega⟩) (fun M1 hB hF => ?_)
          refine g_dup2 X dL_areMembers_65 rfl rfl ?_
          have hao : M1 o = some (.inl (κ.Γ.2.1 0, 4, .inl f)) := (hF o hoA).trans (hup_s ..)
          refine g_iaload X dL_areMembers_66 hao hwd ?_
          refine g_iload X dL_areMembers_67 2 rfl ?_
          refine g_ifb_eq (tgt := 81) X dL_areMembers_69 (by decide) (fun c25 => absurd c25 (pN c21)) (fun c25 => ?_)
          refine g_aload_n X dL_areMembers_72 rfl 6 rfl ?_
          refine g_iload X dL_areMembers_73 3 rfl ?_
          refine g_cV X dL_areMembers_75 (As := [.int (nI i)]) (A := A) (w := w) (w' := w) (v := .int ((w.1 0).2.1 2 (cN (nI i)))) (Ct.gy hg (c_X3_weightOf κ.l hl κ.Γ M1 A w hB hJ.inv (nI i))) hB hF k5088 k542 k543 k1 k544 ⟨rfl, by decide, by decide, (show (parseMethodDescriptor yX3_weightOf.desc).map (fun d => d.parameters.length) = some 1 by decide +kernel)⟩ rfl (Nat.le_of_ble_eq_true rfl) (by rw [hRm]; decide) (by rw [hRm]; exact ⟨by (show _ ≤ 520); omega, by (show _ ≤ 3120); omega⟩) (fun M1 hB hF => ?_)
          refine g_goto (tgt := 82) X dL_areMembers_78 (by decide) ?_
          refine g_iadd X dL_areMembers_82 ?_
          have hao : M1 o = some (.inl (κ.Γ.2.1 0, 4, .inl f)) := (hF o hoA).trans (hup_s ..)
          refine g_iastore X dL_areMembers_83 hao hwd ?_
          refine g_gen (P := fun M9 => BRep κ.Γ A w M9 ∧ Fr A 315 (hup M o (.inl (κ.Γ.2.1 0, 4, .inl (upd f (cN ((w.1 0).2.1 1 (cN (nI i)))) ((f (cN ((w.1 0).2.1 1 (cN (nI i))))) + ((w.1 0).2.1 2 (cN (nI i)))))))) M9) ⟨hB.off hoA, fr_put hF⟩ (fun M1 ⟨hB, hF⟩ => ?_)
          refine g_iload X dL_areMembers_84 2 rfl ?_
          refine g_aload_n X dL_areMembers_86 rfl 6 rfl ?_
          refine g_cV X dL_areMembers_87 (As := []) (A := A) (w := w) (w' := w) (v := .int ((w.1 0).1 1)) (c_X3_presentMask κ.l hl κ.Γ M1 A w hB hJ.inv) hB hF k5081 k193 k194 k1 k195 ⟨rfl, by decide, by decide, (show (parseMethodDescriptor yX3_presentMask.desc).map (fun d => d.parameters.length) = some 0 by decide +kernel)⟩ rfl (Nat.le_of_ble_eq_true rfl) (by rw [hRm]; decide) (by rw [hRm]; exact ⟨by (show _ ≤ 520); omega, by (show _ ≤ 3120); omega⟩) (fun M1 hB hF => ?_)
          refine g_iload X dL_areMembers_90 3 rfl ?_
          refine g_ishr X dL_areMembers_92 ?_
          refine g_iconst (v := 1) X dL_areMembers_93 (by decide) ?_
          refine g_iand X dL_areMembers_94 ?_
          refine g_iconst (v := 1) X dL_areMembers_95 (by decide) ?_
          refine g_icmp_ne (tgt := 103) X dL_areMembers_96 (by decide) (fun c26 => absurd c26 (pN ((inS_shr (by omega)).mp c21))) (fun c26 => ?_)
          refine g_iconst (v := 1) X dL_areMembers_99 (by decide) ?_
          refine g_goto (tgt := 104) X dL_areMembers_100 (by decide) ?_
          refine g_icmp_ne (tgt := 111) X dL_areMembers_104 (by decide) (fun c27 => absurd c27 (pN (bI_t c21))) (fun c27 => ?_)
          refine g_iconst (v := 1) X dL_areMembers_107 (by decide) ?_
          refine g_goto (tgt := 112) X dL_areMembers_108 (by decide) ?_
          refine g_istore (L' := [(4, .int 1), (2, .int (suN ((w.1 0).2.1 2) (i + 1))), (1, .int (prN ((w.1 0).1 1) (i + 1))), (6, .int (bI (inS ((w.1 0).1 1) (nI i)))), (5, .int (nI i)), (3, .ref o), (0, .ref (A 313))]) X dL_areMembers_112 (by rw [hnL]; decide) rfl ?_
          refine g_iinc (k := 4) (v := (nI (i + 1))) (L' := [(5, .int (nI (i + 1))), (4, .int 1), (2, .int (suN ((w.1 0).2.1 2) (i + 1))), (1, .int (prN ((w.1 0).1 1) (i + 1))), (6, .int (bI (inS ((w.1 0).1 1) (nI i)))), (3, .ref o), (0, .ref (A 313))]) X dL_areMembers_114 rfl (nI_1 _) (by rw [hnL]; decide) rfl ?_
          refine g_goto (tgt := 14) X dL_areMembers_117 (by decide) ?_
          refine g_locs [0, 1, 5, 2, 3, 6] (L' := [(5, .int (nI (i + 1))), (4, .int 1), (3, .ref o), (2, .int (suN ((w.1 0).2.1 2) (i + 1))), (1, .int (prN ((w.1 0).1 1) (i + 1))), (0, .ref (A 313))]) rfl ?_
          refine g_widen (k := 1 + 18 * (i + 1)) (n := 4 + 108 * (i + 1)) (by omega) (by omega) ?_
          exact ih14 (i + 1) (upd f (cN ((w.1 0).2.1 1 (cN (nI i)))) ((f (cN ((w.1 0).2.1 1 (cN (nI i))))) + ((w.1 0).2.1 2 (cN (nI i))))) M1 (by omega) (by omega) (wa_y (by omega) hf edd hdd c21) hB hF
  refine g_locs [0, 1, 2, 3, 4, 5] (L' := [(5, .int 0), (4, .int 1), (3, .ref o), (2, .int 0), (1, .int 0), (0, .ref (A 313))]) rfl ?_
  refine g_widen (k := 1 + 18 * 0) (n := 4 + 108 * 0) (by omega) (by omega) ?_
  exact lp1 _ 0 (fun _ => 0) M1 (Nat.lt_succ_self _) (Nat.zero_le _) (fun x hx => rfl) hB hF
