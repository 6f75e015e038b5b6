section GF2
variable {κ : KT} {own : String} {cc : ByteArray} {rt : Option FieldType} {tab : List ExceptionTableEntry} {nm : String} {M : Hp} {cells slots pc : Nat} {L : List (Nat × Value)} {rest : List Value}
theorem g_dconst0 (X : Cx κ own cc rt tab nm) (d : decode cc pc = .ok (.dconst 0, 1)) (k9 : G κ M cells slots L (pc + 1) (.double FP.dconst0 :: rest)) : G κ M cells slots L pc rest := fun H locs ls hI hl => lv_dconst0 X.1 X.2.1 d (k9 H locs ls hI hl)
theorem g_f2ib (X : Cx κ own cc rt tab nm) {idx : Nat} {b : UInt32} (d : decode cc pc = .ok (.invokestatic idx, 3)) (h1 : Cond.methodLink own idx ⟨"java/lang/Float", "floatToRawIntBits", "(F)I"⟩ ∈ TG) (h2 : Cond.native ⟨"java/lang/Float", "floatToRawIntBits", "(F)I"⟩ ∈ TG) (h3 : Cond.static ⟨"java/lang/Float", "floatToRawIntBits", "(F)I"⟩ ∈ TG) (h4 : Cond.initialized "java/lang/Float" ∈ TG) (hf : 1 ≤ κ.R.frames) (hc : (rest.map fun v => v.category).sum + 15 ≤ κ.R.locals)
    (k9 : G κ M cells slots L (pc + 3) (.int b.toInt32 :: rest)) : G κ M cells slots L pc (.float b :: rest) := fun H locs ls hI hl => vn_f2i X.1 X.2.1 (X.2.2.1.trans hl.1.symm) X.2.2.2.2.2.1 (X.2.2.2.2.2.2.1 _ h1) (X.2.2.2.2.2.2.1 _ h2) (X.2.2.2.2.2.2.1 _ h3) (X.2.2.2.2.2.2.1 _ h4) hf hc d (k9 H locs ls hI hl)
end GF2
noncomputable def rLen (u : HV) (b : Nat) : Nat → Int32
  | 0 => 0
  | n + 1 => @ite Int32 (rHas u b (nI n)) (Classical.propDecidable _) (rLen u b n + 1) 0
theorem rLen_y {u : HV} {b n : Nat} (h : rHas u b (nI n)) : rLen u b (n + 1) = rLen u b n + 1 := @if_pos _ (Classical.propDecidable _) h _ _ _
theorem rLen_n {u : HV} {b n : Nat} (h : ¬ rHas u b (nI n)) : rLen u b (n + 1) = 0 := @if_neg _ (Classical.propDecidable _) h _ _ _
noncomputable def rMax (u : HV) (b : Nat) : Nat → Int32
  | 0 => 0
  | n + 1 => if rLen u b (n + 1) ≤ rMax u b n then rMax u b n else rLen u b (n + 1)
noncomputable def rRank (u : HV) (b : Nat) : Nat → Int32
  | 0 => 0
  | n + 1 => @ite Int32 (rAhd u n b) (Classical.propDecidable _) (rRank u b n + 1) (rRank u b n + 0)
theorem rRank_y {u : HV} {b n : Nat} (h : rAhd u n b) : rRank u b (n + 1) = rRank u b n + 1 := @if_pos _ (Classical.propDecidable _) h _ _ _
theorem rRank_n {u : HV} {b n : Nat} (h : ¬ rAhd u n b) : rRank u b (n + 1) = rRank u b n + 0 := @if_neg _ (Classical.propDecidable _) h _ _ _
noncomputable def rBar (u : HV) (r : Int32) (B : Nat) : Nat → Int32
  | 0 => -1
  | n + 1 => if rRank u n B = r then nI n else rBar u r B n
def rAll (u : HV) (b : Nat) : Int32 := rWt (u0 u) (rB u b 5 ||| rB u b 6)
def rShX (u : HV) (b : Nat) : UInt32 := FP.fdiv (FP.i2f (rWt (u0 u) (rB u b 5))) (FP.i2f (rAll u b))
def rMwX (u : HV) : UInt64 := FP.ddiv (FP.i2d (rWt (u0 u) (-1))) (FP.i2d (u.2.1 1 0))
theorem vx_ofWF {l : Launch} {y : MethodName} {ws ws' : List Cond} {rm : Room} {Pc : Array Value → State → Prop} {Qc : Array Value → State → Outcome → State → Prop} {XC : String → State → State → Prop} {mc ms : Nat} {free : Addr → Prop} {cc : ByteArray} {maxL : Nat} {ret : Option FieldType}
    (hy : plainFor y = true) (hw : ws = Cond.code y cc maxL ret :: ws')
    (body : ∀ p e s m args below meth c s₁, BodyLoose p l y (headSpec ws rm) cc maxL ret e s m args below meth c s₁ → c.maxLocals = maxL → (∀ x ∈ c.exceptionTable.toList, False) → Pc args s →
      W p l e (headSpec ws rm).room s m args below meth c s.heap [] 0 0 (vx_MQ below Qc XC args s mc ms free) (entryFrame m args maxL)) : vx_Met l y ws rm Pc Qc XC mc ms free := by
  refine MetFree.of_bodySF (code := cc) (maxLocals := maxL) (ret := ret) hy ?_ ?_
  · intro args s m h hn
    obtain ⟨meth, c, h1, h2, h3, h4, h5, h6, -, -⟩ := Cond.code_spec hn (atoms_spec (ws := ws) h _ (by rw [hw]; exact List.mem_cons_self))
    exact ⟨meth, c, h1, h2, h3, h4, h5, h6⟩
  · intro p e s m args below meth c s₁ B hml hP _
    have hh0 : s₁.heap = s.heap := by rw [B.state]; rfl
    have ht : ∀ x ∈ c.exceptionTable.toList, False := by
      obtain ⟨meth9, c9, h1, h2, -, -, -, -, h7, -⟩ := Cond.code_spec B.named (atoms_spec (ws := ws) B.pre _ (by rw [hw]; exact List.mem_cons_self))
      cases Option.some.inj (h1.symm.trans B.method)
      cases Option.some.inj (h2.symm.trans (Stand.of_body B).code)
      intro x hx
      rw [Array.isEmpty_iff.mp h7] at hx
      cases hx
    obtain ⟨t, a1, o, b1, b2, b3⟩ := body p e s m args below meth c s₁ B hml ht hP s₁ hh0 (Stand.of_body B)
    exact ⟨t, o, a1, b1, b2, b3⟩
theorem Ct.ofF {l : Launch} {Γ : Gm} {y : MethodName} {cc : ByteArray} {maxL : Nat} {rt : Option FieldType} {k mc ms : Nat} {as : List Value} {M : Hp} {post : Res → Hp → Prop} {L0 : List (Nat × Value)}
    (hl : l.stackTraces = false) (hy : plainFor y = true) (hn : (lg_sl as).length ≤ maxL) (hL : lv_args 0 as = L0)
    (body : ∀ κ : KT, κ.l = l → κ.Γ = Γ → κ.nL = maxL → κ.R = Rm k mc ms → Cx κ y.cls cc rt [] y.name → Fn κ M mc ms post → (∀ q e, M q = some e → q < κ.s.heap.size) → G κ M 0 0 L0 0 []) : Ct l Γ y cc maxL rt k mc ms as M post := by
  intro sz
  refine vx_ofWF (cc := cc) (maxL := maxL) (ret := rt) hy rfl ?_
  intro p e s m args below meth c s₁ B hml ht hv
  obtain ⟨rfl, hsz, hH, hE⟩ := hv
  subst hsz
  have hts := atoms_spec (ws := Cond.code y cc maxL rt :: TG) B.pre
  have hown : s.vm.findClass y.cls = some m.cls := findClass_of_methodNamed B.named
  have hl0 := lv_entry as (n := maxL) hn
  rw [lg_entry_eq]
  refine body (p, l, e, Rm k mc ms, s, m, as.toArray, below, meth, c, Γ, Af M s.heap.size, maxL, vx_MQ below (PostR Γ M s.heap.size post) (PostX Γ M s.heap.size post) as.toArray s mc ms (Af M s.heap.size)) rfl rfl rfl rfl ?_ ⟨rfl, rfl⟩ (fun q e h => hH.lt h) s.heap [] _ ⟨hH, fun q e h => Or.inl ⟨e, h⟩, va_S.rf⟩ (hL ▸ hl0)
  refine ⟨B.exec, B.bytes, hml, B.returns, B.notSynchronized, hown, fun w hw => hts w (List.mem_cons_of_mem _ hw), hE, fun q h => Or.inr h, hl, ?_, (name_of_methodNamed B.named B.method).1⟩
  rw [List.eq_nil_iff_forall_not_mem]
  exact fun x hx => ht x hx
set_option maxRecDepth 100000 in
set_option maxHeartbeats 4000000 in
theorem c_isNaN (l : Launch) (hl : l.stackTraces = false) (Γ : Gm) (M : Hp) (x : UInt32) (hq : Op.cmpValue (FP.fcmp x x) .l = 0) : Ct l Γ yJxf58ca_isNaN_12338 cJxf58ca_isNaN_12338 1 (some .boolean) 0 0 0 [.float x] M (Rd (some (.int 0)) M) := by
  refine Ct.ofF hl (by decide +kernel) (Nat.le_of_ble_eq_true rfl) rfl ?_
  intro κ e1 e2 hnL hRm X F hlt
  subst e1 e2
  refine g_fload_n X dJxf58ca_isNaN_12338_0 rfl 0 rfl ?_
  refine g_fload_n X dJxf58ca_isNaN_12338_1 rfl 0 rfl ?_
  refine g_fcmp X dJxf58ca_isNaN_12338_2 ?_
  refine g_if_eq (tgt := 10) X dJxf58ca_isNaN_12338_3 (by decide) (fun c1 => ?_) (fun c1 => ?_)
  · refine g_iconst (v := 0) X dJxf58ca_isNaN_12338_10 (by decide) ?_
    exact g_zret X F dJxf58ca_isNaN_12338_11 (by omega) (by omega) rfl ⟨rfl, rfl⟩
  · refine g_iconst (v := 1) X dJxf58ca_isNaN_12338_6 (by decide) ?_
    refine g_goto (tgt := 11) X dJxf58ca_isNaN_12338_7 (by decide) ?_
    exact absurd hq c1
set_option maxRecDepth 100000 in
set_option maxHeartbeats 4000000 in
theorem c_f2ib (l : Launch) (hl : l.stackTraces = false) (Γ : Gm) (M : Hp) (x : UInt32) (hq : Op.cmpValue (FP.fcmp x x) .l = 0) : Ct l Γ yJxf58ca_floatToIntBits_5c35a cJxf58ca_floatToIntBits_5c35a 1 (some .int) 1 0 0 [.float x] M (Rd (some (.int x.toInt32)) M) := by
  refine Ct.ofF hl (by decide +kernel) (Nat.le_of_ble_eq_true rfl) rfl ?_
  intro κ e1 e2 hnL hRm X F hlt
  subst e1 e2
  refine g_fload_n X dJxf58ca_floatToIntBits_5c35a_0 rfl 0 rfl ?_
  refine g_callS_rd (As := [.float x]) (v := some (.int 0)) X dJxf58ca_floatToIntBits_5c35a_1 (c_isNaN κ.l hl κ.Γ M x hq) k1373 k1374 k25 k1375 ⟨by decide, by decide, (show (parseMethodDescriptor yJxf58ca_isNaN_12338.desc).map (fun d => d.parameters.length) = some 1 by decide +kernel)⟩ rfl (Nat.le_of_ble_eq_true rfl) (by rw [hRm]; decide) (by rw [hRm]; exact ⟨Nat.le_of_ble_eq_true rfl, Nat.le_of_ble_eq_true rfl⟩) ?_
  refine g_if_ne (tgt := 12) X dJxf58ca_floatToIntBits_5c35a_4 (by decide) (fun c1 => absurd c1 (by decide)) (fun c1 => ?_)
  refine g_fload_n X dJxf58ca_floatToIntBits_5c35a_7 rfl 0 rfl ?_
  refine g_f2ib X dJxf58ca_floatToIntBits_5c35a_8 k1376 k1378 k1377 k25 (by rw [hRm]; decide) (by rw [hRm]; exact Nat.le_of_ble_eq_true rfl) ?_
  exact g_iret X F dJxf58ca_floatToIntBits_5c35a_11 (by omega) (by omega) ⟨rfl, rfl⟩
noncomputable def mLongestRun (u : HV) (b : Int32) : Res × HV := mG (¬ isBl u b) 1 zI u (rI (rMax (u0 u) (cN b) 64), u0 u)
set_option maxRecDepth 100000 in
set_option maxHeartbeats 4000000 in
theorem c_X4_longestRun (l : Launch) (hl : l.stackTraces = false) (Γ : Gm) (M : Hp) (a : Nat → Nat) (u : HV) (hR : MRep Γ a u M) (b : Int32) (hi : RInv (u.2.1 1)) : Ct l Γ yX4_longestRun cX4_longestRun 5 (some .int) 2 0 0 [.ref (a 0), .int b] M (MMu Γ a (mLongestRun u b) M) := by
  refine Ct.of hl (by decide) (Nat.le_of_ble_eq_true rfl) rfl ?_
  intro κ e1 e2 hnL hRm X F hlt
  subst e1 e2
  refine g_aload_n X dX4_longestRun_0 rfl 0 rfl ?_
  refine g_iconst (v := 1) X dX4_longestRun_1 (by decide) ?_
  refine g_aload_n X dX4_longestRun_2 rfl 0 rfl ?_
  refine g_iload_n X dX4_longestRun_3 rfl 1 rfl ?_
  refine g_callV_rd (As := [.int b]) (ci := 4) (v := some (.int (bI (btw b 0 (u.2.1 1 1 - 1))))) X dX4_longestRun_4 (c_X4_isBill κ.l hl κ.Γ M a u hR b) k1275 k1277 kp26 k5 k1278 rfl (MRep.obj hR) ⟨rfl, by decide, by decide, (show (parseMethodDescriptor yX4_isBill.desc).map (fun d => d.parameters.length) = some 1 by decide +kernel)⟩ rfl (Nat.le_of_ble_eq_true rfl) (by rw [hRm]; decide) (by rw [hRm]; exact ⟨Nat.le_of_ble_eq_true rfl, Nat.le_of_ble_eq_true rfl⟩) ?_
  refine g_ifb_ne (tgt := 14) X dX4_longestRun_7 (by decide) (fun c1 => ?_) (fun c1 => ?_)
  · refine g_iconst (v := 0) X dX4_longestRun_14 (by decide) ?_
    refine g_callV (As := [.int 1, .int 0]) (ci := 4) X dX4_longestRun_15 (c_X4_fails0 κ.l hl κ.Γ M a u hR 1) k1164 k1166 kp15 k5 k1167 rfl (MRep.obj hR) ⟨rfl, by decide, by decide, (show (parseMethodDescriptor yX4_fails.desc).map (fun d => d.parameters.length) = some 2 by decide +kernel)⟩ rfl (Nat.le_of_ble_eq_true rfl) (by rw [hRm]; decide) (by rw [hRm]; exact ⟨Nat.le_of_ble_eq_true rfl, Nat.le_of_ble_eq_true rfl⟩) (fun v2 M2 h2 => ?_) (fun _ _ h9 => by cases h9.1)
    obtain ⟨e2, hR2, hF2⟩ := h2
    have e2 : (Sum.inl v2 : Res) = rI 0 := e2
    cases e2
    obtain ⟨b9, hb9, hcb9, rfl⟩ := RInv.bil hi c1
    refine g_if_eq (tgt := 23) X dX4_longestRun_18 (by decide) (fun c3 => ?_) (fun c3 => absurd c3 (by decide))
    refine g_iconst (v := 0) X dX4_longestRun_23 (by decide) ?_
    refine g_istore_n (L' := [(2, .int 0), (0, .ref (a 0)), (1, .int (nI b9))]) X dX4_longestRun_24 rfl (by rw [hnL]; decide) rfl ?_
    refine g_iconst (v := 0) X dX4_longestRun_25 (by decide) ?_
    refine g_istore_n (L' := [(3, .int 0), (2, .int 0), (0, .ref (a 0)), (1, .int (nI b9))]) X dX4_longestRun_26 rfl (by rw [hnL]; decide) rfl ?_
    refine g_iconst (v := 0) X dX4_longestRun_27 (by decide) ?_
    refine g_istore (L' := [(4, .int 0), (3, .int 0), (2, .int 0), (0, .ref (a 0)), (1, .int (nI b9))]) X dX4_longestRun_28 (by rw [hnL]; decide) rfl ?_
    have lp : ∀ n i : Nat, 64 - i < n → i ≤ 64 → G κ M2 0 0 [(3, .int (rLen (u0 u) b9 i)), (2, .int (rMax (u0 u) b9 i)), (4, .int (nI i)), (1, .int (nI b9)), (0, .ref (a 0))] 30 [] := by
      intro n
      induction n with
      | zero => intro i h1 _; exact absurd h1 (Nat.not_lt_zero _)
      | succ n ih =>
        intro i hi1 hi2
        refine g_iload X dX4_longestRun_30 2 rfl ?_
        refine g_bipush (v := 64) X dX4_longestRun_32 (by decide) ?_
        refine g_icmp_ge (tgt := 72) X dX4_longestRun_34 (by decide) (fun c4 => ?_) (fun c4 => ?_)
        · have heq9 : i = 64 := eq_of_ge (N := 64) (by decide) (by omega) c4
          subst heq9
          refine g_iload_n X dX4_longestRun_72 rfl 1 rfl ?_
          exact g_iret X F dX4_longestRun_73 (by omega) (by omega) (by unfold mLongestRun; (try rw [hcb9]); exact (MMu.n (by first | exact c1 | exact fun q => q c1 | exact fun q => c1 q | exact Classical.not_not.mp c1) ⟨rfl, hR2, hF2⟩))
        · have hlt9 : i < 64 := lt_of_nge (N := 64) (by decide) (by omega) c4
          refine g_aload_n X dX4_longestRun_37 rfl 4 rfl ?_
          refine g_iload_n X dX4_longestRun_38 rfl 3 rfl ?_
          refine g_iload X dX4_longestRun_39 2 rfl ?_
          refine g_callV_rd (As := [.int (nI b9), .int (nI i)]) (ci := 4) (v := some (.int (bI (rHas (hsc u 0 0) b9 (nI i))))) X dX4_longestRun_41 (c_X4_hasClause κ.l hl κ.Γ M2 a (hsc u 0 0) hR2 b9 (nI i) (by omega)) k1304 k1306 kp28 k5 k1307 rfl (MRep.obj hR2) ⟨rfl, by decide, by decide, (show (parseMethodDescriptor yX4_hasClause.desc).map (fun d => d.parameters.length) = some 2 by decide +kernel)⟩ rfl (Nat.le_of_ble_eq_true rfl) (by rw [hRm]; decide) (by rw [hRm]; exact ⟨Nat.le_of_ble_eq_true rfl, Nat.le_of_ble_eq_true rfl⟩) ?_
          refine g_ifb_eq (tgt := 53) X dX4_longestRun_44 (by decide) (fun c5 => ?_) (fun c5 => ?_)
          · refine g_iconst (v := 0) X dX4_longestRun_53 (by decide) ?_
            refine g_lit (rLen (u0 u) b9 (i + 1)) (rLen_n c5).symm ?_
            refine g_istore_n (L' := [(3, .int (rLen (u0 u) b9 (i + 1))), (2, .int (rMax (u0 u) b9 i)), (4, .int (nI i)), (1, .int (nI b9)), (0, .ref (a 0))]) X dX4_longestRun_54 rfl (by rw [hnL]; decide) rfl ?_
            refine g_iload_n X dX4_longestRun_55 rfl 0 rfl ?_
            refine g_iload_n X dX4_longestRun_56 rfl 1 rfl ?_
            refine g_icmp_le (tgt := 64) X dX4_longestRun_57 (by decide) (fun c6 => ?_) (fun c6 => ?_)
            · refine g_iload_n X dX4_longestRun_64 rfl 1 rfl ?_
              refine g_lit (rMax (u0 u) b9 (i + 1)) (if_pos c6).symm ?_
              refine g_istore_n (L' := [(2, .int (rMax (u0 u) b9 (i + 1))), (3, .int (rLen (u0 u) b9 (i + 1))), (4, .int (nI i)), (1, .int (nI b9)), (0, .ref (a 0))]) X dX4_longestRun_65 rfl (by rw [hnL]; decide) rfl ?_
              refine g_iinc (k := 2) (v := (nI (i + 1))) (L' := [(4, .int (nI (i + 1))), (2, .int (rMax (u0 u) b9 (i + 1))), (3, .int (rLen (u0 u) b9 (i + 1))), (1, .int (nI b9)), (0, .ref (a 0))]) X dX4_longestRun_66 rfl (nI_1 _) (by rw [hnL]; decide) rfl ?_
              refine g_goto (tgt := 30) X dX4_longestRun_69 (by decide) ?_
              refine g_locs [2, 1, 0, 3, 4] (L' := [(3, .int (rLen (u0 u) b9 (i + 1))), (2, .int (rMax (u0 u) b9 (i + 1))), (4, .int (nI (i + 1))), (1, .int (nI b9)), (0, .ref (a 0))]) rfl ?_
              exact ih (i + 1) (by omega) (by omega)
            · refine g_iload_n X dX4_longestRun_60 rfl 0 rfl ?_
              refine g_goto (tgt := 65) X dX4_longestRun_61 (by decide) ?_
              refine g_lit (rMax (u0 u) b9 (i + 1)) (if_neg c6).symm ?_
              refine g_istore_n (L' := [(2, .int (rMax (u0 u) b9 (i + 1))), (3, .int (rLen (u0 u) b9 (i + 1))), (4, .int (nI i)), (1, .int (nI b9)), (0, .ref (a 0))]) X dX4_longestRun_65 rfl (by rw [hnL]; decide) rfl ?_
              refine g_iinc (k := 2) (v := (nI (i + 1))) (L' := [(4, .int (nI (i + 1))), (2, .int (rMax (u0 u) b9 (i + 1))), (3, .int (rLen (u0 u) b9 (i + 1))), (1, .int (nI b9)), (0, .ref (a 0))]) X dX4_longestRun_66 rfl (nI_1 _) (by rw [hnL]; decide) rfl ?_
              refine g_goto (tgt := 30) X dX4_longestRun_69 (by decide) ?_
              refine g_locs [2, 1, 0, 3, 4] (L' := [(3, .int (rLen (u0 u) b9 (i + 1))), (2, .int (rMax (u0 u) b9 (i + 1))), (4, .int (nI (i + 1))), (1, .int (nI b9)), (0, .ref (a 0))]) rfl ?_
              exact ih (i + 1) (by omega) (by omega)
          · refine g_iload_n X dX4_longestRun_47 rfl 0 rfl ?_
            refine g_iconst (v := 1) X dX4_longestRun_48 (by decide) ?_
            refine g_iadd X dX4_longestRun_49 ?_
            refine g_goto (tgt := 54) X dX4_longestRun_50 (by decide) ?_
            refine g_lit (rLen (u0 u) b9 (i + 1)) (rLen_y c5).symm ?_
            refine g_istore_n (L' := [(3, .int (rLen (u0 u) b9 (i + 1))), (2, .int (rMax (u0 u) b9 i)), (4, .int (nI i)), (1, .int (nI b9)), (0, .ref (a 0))]) X dX4_longestRun_54 rfl (by rw [hnL]; decide) rfl ?_
            refine g_iload_n X dX4_longestRun_55 rfl 0 rfl ?_
            refine g_iload_n X dX4_longestRun_56 rfl 1 rfl ?_
            refine g_icmp_le (tgt := 64) X dX4_longestRun_57 (by decide) (fun c7 => ?_) (fun c7 => ?_)
            · refine g_iload_n X dX4_longestRun_64 rfl 1 rfl ?_
              refine g_lit (rMax (u0 u) b9 (i + 1)) (if_pos c7).symm ?_
              refine g_istore_n (L' := [(2, .int (rMax (u0 u) b9 (i + 1))), (3, .int (rLen (u0 u) b9 (i + 1))), (4, .int (nI i)), (1, .int (nI b9)), (0, .ref (a 0))]) X dX4_longestRun_65 rfl (by rw [hnL]; decide) rfl ?_
              refine g_iinc (k := 2) (v := (nI (i + 1))) (L' := [(4, .int (nI (i + 1))), (2, .int (rMax (u0 u) b9 (i + 1))), (3, .int (rLen (u0 u) b9 (i + 1))), (1, .int (nI b9)), (0, .ref (a 0))]) X dX4_longestRun_66 rfl (nI_1 _) (by rw [hnL]; decide) rfl ?_
              refine g_goto (tgt := 30) X dX4_longestRun_69 (by decide) ?_
              refine g_locs [2, 1, 0, 3, 4] (L' := [(3, .int (rLen (u0 u) b9 (i + 1))), (2, .int (rMax (u0 u) b9 (i + 1))), (4, .int (nI (i + 1))), (1, .int (nI b9)), (0, .ref (a 0))]) rfl ?_
              exact ih (i + 1) (by omega) (by omega)
            · refine g_iload_n X dX4_longestRun_60 rfl 0 rfl ?_
              refine g_goto (tgt := 65) X dX4_longestRun_61 (by decide) ?_
              refine g_lit (rMax (u0 u) b9 (i + 1)) (if_neg c7).symm ?_
              refine g_istore_n (L' := [(2, .int (rMax (u0 u) b9 (i + 1))), (3, .int (rLen (u0 u) b9 (i + 1))), (4, .int (nI i)), (1, .int (nI b9)), (0, .ref (a 0))]) X dX4_longestRun_65 rfl (by rw [hnL]; decide) rfl ?_
              refine g_iinc (k := 2) (v := (nI (i + 1))) (L' := [(4, .int (nI (i + 1))), (2, .int (rMax (u0 u) b9 (i + 1))), (3, .int (rLen (u0 u) b9 (i + 1))), (1, .int (nI b9)), (0, .ref (a 0))]) X dX4_longestRun_66 rfl (nI_1 _) (by rw [hnL]; decide) rfl ?_
              refine g_goto (tgt := 30) X dX4_longestRun_69 (by decide) ?_
              refine g_locs [2, 1, 0, 3, 4] (L' := [(3, .int (rLen (u0 u) b9 (i + 1))), (2, .int (rMax (u0 u) b9 (i + 1))), (4, .int (nI (i + 1))), (1, .int (nI b9)), (0, .ref (a 0))]) rfl ?_
              exact ih (i + 1) (by omega) (by omega)
    refine g_locs [1, 2, 0, 4, 3] (L' := [(3, .int (rLen (u0 u) b9 0)), (2, .int (rMax (u0 u) b9 0)), (4, .int (nI 0)), (1, .int (nI b9)), (0, .ref (a 0))]) rfl ?_
    exact lp 65 0 (by omega) (by omega)
  · refine g_iconst (v := 1) X dX4_longestRun_10 (by decide) ?_
    refine g_goto (tgt := 15) X dX4_longestRun_11 (by decide) ?_
    refine g_callV (As := [.int 1, .int 1]) (ci := 4) X dX4_longestRun_15 (c_X4_fails1 κ.l hl κ.Γ M a u hR 1) k1164 k1166 kp15 k5 k1167 rfl (MRep.obj hR) ⟨rfl, by decide, by decide, (show (parseMethodDescriptor yX4_fails.desc).map (fun d => d.parameters.length) = some 2 by decide +kernel)⟩ rfl (Nat.le_of_ble_eq_true rfl) (by rw [hRm]; decide) (by rw [hRm]; exact ⟨Nat.le_of_ble_eq_true rfl, Nat.le_of_ble_eq_true rfl⟩) (fun v8 M8 h8 => ?_) (fun _ _ h9 => by cases h9.1)
    obtain ⟨e8, hR8, hF8⟩ := h8
    have e8 : (Sum.inl v8 : Res) = rI 1 := e8
    cases e8
    refine g_if_eq (tgt := 23) X dX4_longestRun_18 (by decide) (fun c9 => absurd c9 (by decide)) (fun c9 => ?_)
    refine g_iconst (v := 0) X dX4_longestRun_21 (by decide) ?_
    exact g_iret X F dX4_longestRun_22 (by omega) (by omega) (by unfold mLongestRun; exact (MMu.y (by first | exact c1 | exact fun q => q c1 | exact fun q => c1 q | exact Classical.not_not.mp c1) ⟨rfl, hR8, hF8⟩))
noncomputable def mLongestRunByShift (u : HV) (b : Int32) : Res × HV := mLongestRun u b
set_option maxRecDepth 100000 in
set_option maxHeartbeats 4000000 in
theorem c_X4_longestRunByShift (l : Launch) (hl : l.stackTraces = false) (Γ : Gm) (M : Hp) (a : Nat → Nat) (u : HV) (hR : MRep Γ a u M) (b : Int32) (hi : RInv (u.2.1 1)) : Ct l Γ yX4_longestRunByShift cX4_longestRunByShift 2 (some .int) 3 0 0 [.ref (a 0), .int b] M (MMu Γ a (mLongestRunByShift u b) M) := by
  refine Ct.of hl (by decide) (Nat.le_of_ble_eq_true rfl) rfl ?_
  intro κ e1 e2 hnL hRm X F hlt
  subst e1 e2
  refine g_aload_n X dX4_longestRunByShift_0 rfl 0 rfl ?_
  refine g_iload_n X dX4_longestRunByShift_1 rfl 1 rfl ?_
  refine g_callV (As := [.int b]) (ci := 4) X dX4_longestRunByShift_2 (c_X4_longestRun κ.l hl κ.Γ M a u hR b hi) k1312 k1301 k1302 k5 k1303 rfl (MRep.obj hR) ⟨rfl, by decide, by decide, (show (parseMethodDescriptor yX4_longestRun.desc).map (fun d => d.parameters.length) = some 1 by decide +kernel)⟩ rfl (Nat.le_of_ble_eq_true rfl) (by rw [hRm]; decide) (by rw [hRm]; exact ⟨Nat.le_of_ble_eq_true rfl, Nat.le_of_ble_eq_true rfl⟩) (fun v0 M0 h0 => ?_) (fun E0 M0 h0 => absurd h0.1 (by exact ansI.nx (by unfold mLongestRun; exact ansI.g ⟨_, rfl⟩)))
  obtain ⟨e0, hR0, hF0⟩ := h0
  obtain ⟨y0, e1⟩ : ∃ y : Int32, (mLongestRun u b).1 = rI y := (by unfold mLongestRun; exact ansI.g ⟨_, rfl⟩)
  rw [e1] at e0
  cases e0
  exact g_iret X F dX4_longestRunByShift_5 (by omega) (by omega) (by unfold mLongestRunByShift; exact ⟨e1.symm, hR0, hF0⟩)
noncomputable def mBillAtRank (u : HV) (r : Int32) : Res × HV := mG (¬ 0 ≤ rBar u r (cN (u.2.1 1 1)) (cN (u.2.1 1 1))) 1 zI u (rI (rBar u r (cN (u.2.1 1 1)) (cN (u.2.1 1 1))), u0 u)
set_option maxRecDepth 100000 in
set_option maxHeartbeats 4000000 in
theorem c_X4_billAtRank (l : Launch) (hl : l.stackTraces = false) (Γ : Gm) (M : Hp) (a : Nat → Nat) (u : HV) (hR : MRep Γ a u M) (r : Int32) (hi : RInv (u.2.1 1)) : Ct l Γ yX4_billAtRank cX4_billAtRank 6 (some .int) 3 0 0 [.ref (a 0), .int r] M (MMu Γ a (mBillAtRank u r) M) := by
  refine Ct.of hl (by decide) (Nat.le_of_ble_eq_true rfl) rfl ?_
  intro κ e1 e2 hnL hRm X F hlt
  subst e1 e2
  obtain ⟨B, hB8, eB⟩ := hi.2.1
  refine g_iconst (v := (-1)) X dX4_billAtRank_0 (by decide) ?_
  refine g_istore_n (L' := [(2, .int (-1)), (0, .ref (a 0)), (1, .int r)]) X dX4_billAtRank_1 rfl (by rw [hnL]; decide) rfl ?_
  refine g_iconst (v := 0) X dX4_billAtRank_2 (by decide) ?_
  refine g_istore_n (L' := [(3, .int 0), (2, .int (-1)), (0, .ref (a 0)), (1, .int r)]) X dX4_billAtRank_3 rfl (by rw [hnL]; decide) rfl ?_
  have lp : ∀ n i : Nat, B - i < n → i ≤ B → G κ M 0 0 [(2, .int (rBar u r B i)), (3, .int (nI i)), (1, .int r), (0, .ref (a 0))] 4 [] := by
    intro n
    induction n with
    | zero => intro i h1 _; exact absurd h1 (Nat.not_lt_zero _)
    | succ n ih =>
      intro i hi1 hi2
      refine g_iload_n X dX4_billAtRank_4 rfl 1 rfl ?_
      refine g_aload_n X dX4_billAtRank_5 rfl 3 rfl ?_
      refine g_get X dX4_billAtRank_6 (ci := 4) (k := 1) (v := .ref (a 1)) rfl k1090 (by decide) rfl (MRep.obj hR) rfl ?_
      refine g_iconst (v := 1) X dX4_billAtRank_9 (by decide) ?_
      refine g_iald (b := 1) X dX4_billAtRank_10 (MRep.row hR 1 (by decide) (by decide)) (by omega) (by decide) ?_
      refine g_icmp_ge (tgt := 75) X dX4_billAtRank_11 (by decide) (fun c1 => ?_) (fun c1 => ?_)
      · have heq9 : i = B := eq_of_ge (N := B) ⟨eB.symm, by omega⟩ (by omega) c1
        subst heq9
        refine g_aload_n X dX4_billAtRank_75 rfl 3 rfl ?_
        refine g_iconst (v := 1) X dX4_billAtRank_76 (by decide) ?_
        refine g_iload_n X dX4_billAtRank_77 rfl 0 rfl ?_
        refine g_if_ge (tgt := 85) X dX4_billAtRank_78 (by decide) (fun c2 => ?_) (fun c2 => ?_)
        · refine g_iconst (v := 0) X dX4_billAtRank_85 (by decide) ?_
          refine g_callV (As := [.int 1, .int 0]) (ci := 4) X dX4_billAtRank_86 (c_X4_fails0 κ.l hl κ.Γ M a u hR 1) k1164 k1166 kp15 k5 k1167 rfl (MRep.obj hR) ⟨rfl, by decide, by decide, (show (parseMethodDescriptor yX4_fails.desc).map (fun d => d.parameters.length) = some 2 by decide +kernel)⟩ rfl (Nat.le_of_ble_eq_true rfl) (by rw [hRm]; decide) (by rw [hRm]; exact ⟨Nat.le_of_ble_eq_true rfl, Nat.le_of_ble_eq_true rfl⟩) (fun v3 M3 h3 => ?_) (fun _ _ h9 => by cases h9.1)
          obtain ⟨e3, hR3, hF3⟩ := h3
          have e3 : (Sum.inl v3 : Res) = rI 0 := e3
          cases e3
          refine g_if_eq (tgt := 96) X dX4_billAtRank_89 (by decide) (fun c4 => ?_) (fun c4 => absurd c4 (by decide))
          refine g_iload_n X dX4_billAtRank_96 rfl 0 rfl ?_
          exact g_iret X F dX4_billAtRank_97 (by omega) (by omega) (by unfold mBillAtRank; rw [eB, cN_nI (by omega)]; exact (MMu.n (by first | exact c2 | exact fun q => q c2 | exact fun q => c2 q | exact Classical.not_not.mp c2) ⟨rfl, hR3, hF3⟩))
        · refine g_iconst (v := 1) X dX4_billAtRank_81 (by decide) ?_
          refine g_goto (tgt := 86) X dX4_billAtRank_82 (by decide) ?_
          refine g_callV (As := [.int 1, .int 1]) (ci := 4) X dX4_billAtRank_86 (c_X4_fails1 κ.l hl κ.Γ M a u hR 1) k1164 k1166 kp15 k5 k1167 rfl (MRep.obj hR) ⟨rfl, by decide, by decide, (show (parseMethodDescriptor yX4_fails.desc).map (fun d => d.parameters.length) = some 2 by decide +kernel)⟩ rfl (Nat.le_of_ble_eq_true rfl) (by rw [hRm]; decide) (by rw [hRm]; exact ⟨Nat.le_of_ble_eq_true rfl, Nat.le_of_ble_eq_true rfl⟩) (fun v5 M5 h5 => ?_) (fun _ _ h9 => by cases h9.1)
          obtain ⟨e5, hR5, hF5⟩ := h5
          have e5 : (Sum.inl v5 : Res) = rI 1 := e5
          cases e5
          refine g_if_eq (tgt := 96) X dX4_billAtRank_89 (by decide) (fun c6 => absurd c6 (by decide)) (fun c6 => ?_)
          refine g_iconst (v := 0) X dX4_billAtRank_92 (by decide) ?_
          refine g_goto (tgt := 97) X dX4_billAtRank_93 (by decide) ?_
          exact g_iret X F dX4_billAtRank_97 (by omega) (by omega) (by unfold mBillAtRank; rw [eB, cN_nI (by omega)]; exact (MMu.y (by first | exact c2 | exact fun q => q c2 | exact fun q => c2 q | exact Classical.not_not.mp c2) ⟨rfl, hR5, hF5⟩))
      · have hlt9 : i < B := lt_of_nge (N := B) ⟨eB.symm, by omega⟩ (by omega) c1
        refine g_iconst (v := 0) X dX4_billAtRank_14 (by decide) ?_
        refine g_istore (L' := [(4, .int 0), (2, .int (rBar u r B i)), (3, .int (nI i)), (1, .int r), (0, .ref (a 0))]) X dX4_billAtRank_15 (by rw [hnL]; decide) rfl ?_
        refine g_iconst (v := 0) X dX4_billAtRank_17 (by decide) ?_
        refine g_istore (L' := [(5, .int 0), (4, .int 0), (2, .int (rBar u r B i)), (3, .int (nI i)), (1, .int r), (0, .ref (a 0))]) X dX4_billAtRank_18 (by rw [hnL]; decide) rfl ?_
        have lp2 : ∀ n2 j : Nat, B - j < n2 → j ≤ B → G κ M 0 0 [(4, .int (rRank u i j)), (5, .int (nI j)), (2, .int (rBar u r B i)), (3, .int (nI i)), (1, .int r), (0, .ref (a 0))] 20 [] := by
          intro n2
          induction n2 with
          | zero => intro j h1 _; exact absurd h1 (Nat.not_lt_zero _)
          | succ n2 ih2 =>
            intro j hj1 hj2
            refine g_iload X dX4_billAtRank_20 1 rfl ?_
            refine g_aload_n X dX4_billAtRank_22 rfl 5 rfl ?_
            refine g_get X dX4_billAtRank_23 (ci := 4) (k := 1) (v := .ref (a 1)) rfl k1090 (by decide) rfl (MRep.obj hR) rfl ?_
            refine g_iconst (v := 1) X dX4_billAtRank_26 (by decide) ?_
            refine g_iald (b := 1) X dX4_billAtRank_27 (MRep.row hR 1 (by decide) (by decide)) (by omega) (by decide) ?_
            refine g_icmp_ge (tgt := 57) X dX4_billAtRank_28 (by decide) (fun c7 => ?_) (fun c7 => ?_)
            · have heq8 : j = B := eq_of_ge (N := B) ⟨eB.symm, by omega⟩ (by omega) c7
              rw [heq8]
              refine g_iload X dX4_billAtRank_57 0 rfl ?_
              refine g_iload_n X dX4_billAtRank_59 rfl 4 rfl ?_
              refine g_icmp_ne (tgt := 67) X dX4_billAtRank_60 (by decide) (fun c8 => ?_) (fun c8 => ?_)
              · refine g_iload_n X dX4_billAtRank_67 rfl 2 rfl ?_
                refine g_lit (rBar u r B (i + 1)) (if_neg c8).symm ?_
                refine g_istore_n (L' := [(2, .int (rBar u r B (i + 1))), (4, .int (rRank u i B)), (5, .int (nI B)), (3, .int (nI i)), (1, .int r), (0, .ref (a 0))]) X dX4_billAtRank_68 rfl (by rw [hnL]; decide) rfl ?_
                refine g_iinc (k := 3) (v := (nI (i + 1))) (L' := [(3, .int (nI (i + 1))), (2, .int (rBar u r B (i + 1))), (4, .int (rRank u i B)), (5, .int (nI B)), (1, .int r), (0, .ref (a 0))]) X dX4_billAtRank_69 rfl (nI_1 _) (by rw [hnL]; decide) rfl ?_
                refine g_goto (tgt := 4) X dX4_billAtRank_72 (by decide) ?_
                refine g_locs [1, 0, 4, 5] (L' := [(2, .int (rBar u r B (i + 1))), (3, .int (nI (i + 1))), (1, .int r), (0, .ref (a 0))]) rfl ?_
                exact ih (i + 1) (by omega) (by omega)
              · refine g_iload_n X dX4_billAtRank_63 rfl 3 rfl ?_
                refine g_goto (tgt := 68) X dX4_billAtRank_64 (by decide) ?_
                refine g_lit (rBar u r B (i + 1)) (if_pos c8).symm ?_
                refine g_istore_n (L' := [(2, .int (rBar u r B (i + 1))), (4, .int (rRank u i B)), (5, .int (nI B)), (3, .int (nI i)), (1, .int r), (0, .ref (a 0))]) X dX4_billAtRank_68 rfl (by rw [hnL]; decide) rfl ?_
                refine g_iinc (k := 3) (v := (nI (i + 1))) (L' := [(3, .int (nI (i + 1))), (2, .int (rBar u r B (i + 1))), (4, .int (rRank u i B)), (5, .int (nI B)), (1, .int r), (0, .ref (a 0))]) X dX4_billAtRank_69 rfl (nI_1 _) (by rw [hnL]; decide) rfl ?_
                refine g_goto (tgt := 4) X dX4_billAtRank_72 (by decide) ?_
                refine g_locs [1, 0, 4, 5] (L' := [(2, .int (rBar u r B (i + 1))), (3, .int (nI (i + 1))), (1, .int r), (0, .ref (a 0))]) rfl ?_
                exact ih (i + 1) (by omega) (by omega)
            · have hlt8 : j < B := lt_of_nge (N := B) ⟨eB.symm, by omega⟩ (by omega) c7
              refine g_iload X dX4_billAtRank_31 0 rfl ?_
              refine g_aload_n X dX4_billAtRank_33 rfl 5 rfl ?_
              refine g_iload X dX4_billAtRank_34 1 rfl ?_
              refine g_iload_n X dX4_billAtRank_36 rfl 3 rfl ?_
              refine g_callV_rd (As := [.int (nI j), .int (nI i)]) (ci := 4) (v := some (.int (bI (rAhd u j i)))) X dX4_billAtRank_37 (c_X4_isAhead κ.l hl κ.Γ M a u hR j i (by omega) (by omega)) k1317 k1319 kp29 k5 k1320 rfl (MRep.obj hR) ⟨rfl, by decide, by decide, (show (parseMethodDescriptor yX4_isAhead.desc).map (fun d => d.parameters.length) = some 2 by decide +kernel)⟩ rfl (Nat.le_of_ble_eq_true rfl) (by rw [hRm]; decide) (by rw [hRm]; exact ⟨Nat.le_of_ble_eq_true rfl, Nat.le_of_ble_eq_true rfl⟩) ?_
              refine g_ifb_eq (tgt := 47) X dX4_billAtRank_40 (by decide) (fun c9 => ?_) (fun c9 => ?_)
              · refine g_iconst (v := 0) X dX4_billAtRank_47 (by decide) ?_
                refine g_iadd X dX4_billAtRank_48 ?_
                refine g_lit (rRank u i (j + 1)) (rRank_n c9).symm ?_
                refine g_istore (L' := [(4, .int (rRank u i (j + 1))), (5, .int (nI j)), (2, .int (rBar u r B i)), (3, .int (nI i)), (1, .int r), (0, .ref (a 0))]) X dX4_billAtRank_49 (by rw [hnL]; decide) rfl ?_
                refine g_iinc (k := 1) (v := (nI (j + 1))) (L' := [(5, .int (nI (j + 1))), (4, .int (rRank u i (j + 1))), (2, .int (rBar u r B i)), (3, .int (nI i)), (1, .int r), (0, .ref (a 0))]) X dX4_billAtRank_51 rfl (nI_1 _) (by rw [hnL]; decide) rfl ?_
                refine g_goto (tgt := 20) X dX4_billAtRank_54 (by decide) ?_
                refine g_locs [1, 0, 2, 3, 4, 5] (L' := [(4, .int (rRank u i (j + 1))), (5, .int (nI (j + 1))), (2, .int (rBar u r B i)), (3, .int (nI i)), (1, .int r), (0, .ref (a 0))]) rfl ?_
                exact ih2 (j + 1) (by omega) (by omega)
              · refine g_iconst (v := 1) X dX4_billAtRank_43 (by decide) ?_
                refine g_goto (tgt := 48) X dX4_billAtRank_44 (by decide) ?_
                refine g_iadd X dX4_billAtRank_48 ?_
                refine g_lit (rRank u i (j + 1)) (rRank_y c9).symm ?_
                refine g_istore (L' := [(4, .int (rRank u i (j + 1))), (5, .int (nI j)), (2, .int (rBar u r B i)), (3, .int (nI i)), (1, .int r), (0, .ref (a 0))]) X dX4_billAtRank_49 (by rw [hnL]; decide) rfl ?_
                refine g_iinc (k := 1) (v := (nI (j + 1))) (L' := [(5, .int (nI (j + 1))), (4, .int (rRank u i (j + 1))), (2, .int (rBar u r B i)), (3, .int (nI i)), (1, .int r), (0, .ref (a 0))]) X dX4_billAtRank_51 rfl (nI_1 _) (by rw [hnL]; decide) rfl ?_
                refine g_goto (tgt := 20) X dX4_billAtRank_54 (by decide) ?_
                refine g_locs [1, 0, 2, 3, 4, 5] (L' := [(4, .int (rRank u i (j + 1))), (5, .int (nI (j + 1))), (2, .int (rBar u r B i)), (3, .int (nI i)), (1, .int r), (0, .ref (a 0))]) rfl ?_
                exact ih2 (j + 1) (by omega) (by omega)
        refine g_locs [1, 0, 2, 3, 4, 5] (L' := [(4, .int (rRank u i 0)), (5, .int (nI 0)), (2, .int (rBar u r B i)), (3, .int (nI i)), (1, .int r), (0, .ref (a 0))]) rfl ?_
        exact lp2 (B + 1) 0 (by omega) (by omega)
  refine g_locs [1, 0, 3, 2] (L' := [(2, .int (rBar u r B 0)), (3, .int (nI 0)), (1, .int r), (0, .ref (a 0))]) rfl ?_
  exact lp (B + 1) 0 (by omega) (by omega)
noncomputable def mMeanWeight (u : HV) : Res × HV := mG (u.2.1 1 0 = 0) 1 (some (.double FP.dconst0)) u ((.inl (some (.double (rMwX u))) : Res), u0 u)
set_option maxRecDepth 100000 in
set_option maxHeartbeats 4000000 in
theorem c_X4_meanWeight (l : Launch) (hl : l.stackTraces = false) (Γ : Gm) (M : Hp) (a : Nat → Nat) (u : HV) (hR : MRep Γ a u M) (hi : RInv (u.2.1 1)) (hm : ¬ u.2.1 1 0 = 0 → vf_n64 (rMwX u)) : Ct l Γ yX4_meanWeight cX4_meanWeight 1 (some .double) 2 0 0 [.ref (a 0)] M (MMu Γ a (mMeanWeight u) M) := by
  refine Ct.of hl (by decide) (Nat.le_of_ble_eq_true rfl) rfl ?_
  intro κ e1 e2 hnL hRm X F hlt
  subst e1 e2
  refine g_aload_n X dX4_meanWeight_0 rfl 0 rfl ?_
  refine g_iconst (v := 1) X dX4_meanWeight_1 (by decide) ?_
  refine g_aload_n X dX4_meanWeight_2 rfl 0 rfl ?_
  refine g_get X dX4_meanWeight_3 (ci := 4) (k := 1) (v := .ref (a 1)) rfl k1090 (by decide) rfl (MRep.obj hR) rfl ?_
  refine g_iconst (v := 0) X dX4_meanWeight_6 (by decide) ?_
  refine g_iald (b := 0) X dX4_meanWeight_7 (MRep.row hR 1 (by decide) (by decide)) (by omega) (by decide) ?_
  refine g_if_ne (tgt := 15) X dX4_meanWeight_8 (by decide) (fun c1 => ?_) (fun c1 => ?_)
  · refine g_iconst (v := 0) X dX4_meanWeight_15 (by decide) ?_
    refine g_callV (As := [.int 1, .int 0]) (ci := 4) X dX4_meanWeight_16 (c_X4_fails0 κ.l hl κ.Γ M a u hR 1) k1164 k1166 kp15 k5 k1167 rfl (MRep.obj hR) ⟨rfl, by decide, by decide, (show (parseMethodDescriptor yX4_fails.desc).map (fun d => d.parameters.length) = some 2 by decide +kernel)⟩ rfl (Nat.le_of_ble_eq_true rfl) (by rw [hRm]; decide) (by rw [hRm]; exact ⟨Nat.le_of_ble_eq_true rfl, Nat.le_of_ble_eq_true rfl⟩) (fun v2 M2 h2 => ?_) (fun _ _ h9 => by cases h9.1)
    obtain ⟨e2, hR2, hF2⟩ := h2
    have e2 : (Sum.inl v2 : Res) = rI 0 := e2
    cases e2
    refine g_if_eq (tgt := 26) X dX4_meanWeight_19 (by decide) (fun c3 => ?_) (fun c3 => absurd c3 (by decide))
    have hm2 := hm c1
    refine g_aload_n X dX4_meanWeight_26 rfl 0 rfl ?_
    refine g_iconst (v := (-1)) X dX4_meanWeight_27 (by decide) ?_
    refine g_callV_rd (As := [.int (-1)]) (ci := 4) (v := some (.int (rSum (hsc u 0 0) (-1) (cN (u.2.1 1 0))))) X dX4_meanWeight_28 (c_X4_weigh κ.l hl κ.Γ M2 a (hsc u 0 0) hR2 (-1) hi) k1333 k1335 kp32 k5 k1336 rfl (MRep.obj hR2) ⟨rfl, by decide, by decide, (show (parseMethodDescriptor yX4_weigh.desc).map (fun d => d.parameters.length) = some 1 by decide +kernel)⟩ rfl (Nat.le_of_ble_eq_true rfl) (by rw [hRm]; decide) (by rw [hRm]; exact ⟨Nat.le_of_ble_eq_true rfl, Nat.le_of_ble_eq_true rfl⟩) ?_
    refine g_i2d X dX4_meanWeight_31 ?_
    refine g_aload_n X dX4_meanWeight_32 rfl 0 rfl ?_
    refine g_get X dX4_meanWeight_33 (ci := 4) (k := 1) (v := .ref (a 1)) rfl k1090 (by decide) rfl (MRep.obj hR2) rfl ?_
    refine g_iconst (v := 0) X dX4_meanWeight_36 (by decide) ?_
    refine g_iald (b := 0) X dX4_meanWeight_37 (MRep.row hR2 1 (by decide) (by decide)) (by omega) (by decide) ?_
    refine g_i2d X dX4_meanWeight_38 ?_
    refine g_ddiv X dX4_meanWeight_39 hm2 ?_
    exact g_dret X F dX4_meanWeight_40 (by omega) (by omega) (by unfold mMeanWeight; exact (MMu.n (by first | exact c1 | exact fun q => q c1 | exact fun q => c1 q | exact Classical.not_not.mp c1) ⟨rfl, hR2, hF2⟩))
  · refine g_iconst (v := 1) X dX4_meanWeight_11 (by decide) ?_
    refine g_goto (tgt := 16) X dX4_meanWeight_12 (by decide) ?_
    refine g_callV (As := [.int 1, .int 1]) (ci := 4) X dX4_meanWeight_16 (c_X4_fails1 κ.l hl κ.Γ M a u hR 1) k1164 k1166 kp15 k5 k1167 rfl (MRep.obj hR) ⟨rfl, by decide, by decide, (show (parseMethodDescriptor yX4_fails.desc).map (fun d => d.parameters.length) = some 2 by decide +kernel)⟩ rfl (Nat.le_of_ble_eq_true rfl) (by rw [hRm]; decide) (by rw [hRm]; exact ⟨Nat.le_of_ble_eq_true rfl, Nat.le_of_ble_eq_true rfl⟩) (fun v4 M4 h4 => ?_) (fun _ _ h9 => by cases h9.1)
    obtain ⟨e4, hR4, hF4⟩ := h4
    have e4 : (Sum.inl v4 : Res) = rI 1 := e4
    cases e4
    refine g_if_eq (tgt := 26) X dX4_meanWeight_19 (by decide) (fun c5 => absurd c5 (by decide)) (fun c5 => ?_)
    refine g_dconst0 X dX4_meanWeight_22 ?_
    refine g_goto (tgt := 40) X dX4_meanWeight_23 (by decide) ?_
    exact g_dret X F dX4_meanWeight_40 (by omega) (by omega) (by unfold mMeanWeight; exact (MMu.y (by first | exact c1 | exact fun q => q c1 | exact fun q => c1 q | exact Classical.not_not.mp c1) ⟨rfl, hR4, hF4⟩))
noncomputable def mShareBits (u : HV) (b : Int32) : Res × HV := mG (¬ isBl u b) 1 zI u (mG (rAll u (cN b) = 0) 2 zI u (rI ((rShX u (cN b)).toInt32), u0 u))
set_option maxRecDepth 100000 in
set_option maxHeartbeats 4000000 in
theorem c_X4_shareBits (l : Launch) (hl : l.stackTraces = false) (Γ : Gm) (M : Hp) (a : Nat → Nat) (u : HV) (hR : MRep Γ a u M) (b : Int32) (hi : RInv (u.2.1 1)) (hs : ∀ b : Nat, b < 8 → ¬ rAll u b = 0 → vf_n32 (rShX u b) ∧ Op.cmpValue (FP.fcmp (rShX u b) (rShX u b)) .l = 0) : Ct l Γ yX4_shareBits cX4_shareBits 3 (some .int) 2 0 0 [.ref (a 0), .int b] M (MMu Γ a (mShareBits u b) M) := by
  refine Ct.of hl (by decide) (Nat.le_of_ble_eq_true rfl) rfl ?_
  intro κ e1 e2 hnL hRm X F hlt
  subst e1 e2
  refine g_aload_n X dX4_shareBits_0 rfl 0 rfl ?_
  refine g_iconst (v := 1) X dX4_shareBits_1 (by decide) ?_
  refine g_aload_n X dX4_shareBits_2 rfl 0 rfl ?_
  refine g_iload_n X dX4_shareBits_3 rfl 1 rfl ?_
  refine g_callV_rd (As := [.int b]) (ci := 4) (v := some (.int (bI (btw b 0 (u.2.1 1 1 - 1))))) X dX4_shareBits_4 (c_X4_isBill κ.l hl κ.Γ M a u hR b) k1275 k1277 kp26 k5 k1278 rfl (MRep.obj hR) ⟨rfl, by decide, by decide, (show (parseMethodDescriptor yX4_isBill.desc).map (fun d => d.parameters.length) = some 1 by decide +kernel)⟩ rfl (Nat.le_of_ble_eq_true rfl) (by rw [hRm]; decide) (by rw [hRm]; exact ⟨Nat.le_of_ble_eq_true rfl, Nat.le_of_ble_eq_true rfl⟩) ?_
  refine g_ifb_ne (tgt := 14) X dX4_shareBits_7 (by decide) (fun c1 => ?_) (fun c1 => ?_)
  · refine g_iconst (v := 0) X dX4_shareBits_14 (by decide) ?_
    refine g_callV (As := [.int 1, .int 0]) (ci := 4) X dX4_shareBits_15 (c_X4_fails0 κ.l hl κ.Γ M a u hR 1) k1164 k1166 kp15 k5 k1167 rfl (MRep.obj hR) ⟨rfl, by decide, by decide, (show (parseMethodDescriptor yX4_fails.desc).map (fun d => d.parameters.length) = some 2 by decide +kernel)⟩ rfl (Nat.le_of_ble_eq_true rfl) (by rw [hRm]; decide) (by rw [hRm]; exact ⟨Nat.le_of_ble_eq_true rfl, Nat.le_of_ble_eq_true rfl⟩) (fun v2 M2 h2 => ?_) (fun _ _ h9 => by cases h9.1)
    obtain ⟨e2, hR2, hF2⟩ := h2
    have e2 : (Sum.inl v2 : Res) = rI 0 := e2
    cases e2
    obtain ⟨b9, hb9, hcb9, rfl⟩ := RInv.bil hi c1
    refine g_if_eq (tgt := 23) X dX4_shareBits_18 (by decide) (fun c3 => ?_) (fun c3 => absurd c3 (by decide))
    refine g_aload_n X dX4_shareBits_23 rfl 0 rfl ?_
    refine g_aload_n X dX4_shareBits_24 rfl 0 rfl ?_
    refine g_iload_n X dX4_shareBits_25 rfl 1 rfl ?_
    refine g_iconst (v := 5) X dX4_shareBits_26 (by decide) ?_
    refine g_callV_rd (As := [.int (nI b9), .int 5]) (ci := 4) (v := some (.int (u.2.1 1 (53 + 16 * b9 + 5)))) X dX4_shareBits_27 (c_X4_of κ.l hl κ.Γ M2 a (hsc u 0 0) hR2 b9 5 (by omega) (by omega)) k1263 k1265 kp25 k5 k1266 rfl (MRep.obj hR2) ⟨rfl, by decide, by decide, (show (parseMethodDescriptor yX4_of.desc).map (fun d => d.parameters.length) = some 2 by decide +kernel)⟩ rfl (Nat.le_of_ble_eq_true rfl) (by rw [hRm]; decide) (by rw [hRm]; exact ⟨Nat.le_of_ble_eq_true rfl, Nat.le_of_ble_eq_true rfl⟩) ?_
    refine g_aload_n X dX4_shareBits_30 rfl 0 rfl ?_
    refine g_iload_n X dX4_shareBits_31 rfl 1 rfl ?_
    refine g_bipush (v := 6) X dX4_shareBits_32 (by decide) ?_
    refine g_callV_rd (As := [.int (nI b9), .int 6]) (ci := 4) (v := some (.int (u.2.1 1 (53 + 16 * b9 + 6)))) X dX4_shareBits_34 (c_X4_of κ.l hl κ.Γ M2 a (hsc u 0 0) hR2 b9 6 (by omega) (by omega)) k1263 k1265 kp25 k5 k1266 rfl (MRep.obj hR2) ⟨rfl, by decide, by decide, (show (parseMethodDescriptor yX4_of.desc).map (fun d => d.parameters.length) = some 2 by decide +kernel)⟩ rfl (Nat.le_of_ble_eq_true rfl) (by rw [hRm]; decide) (by rw [hRm]; exact ⟨Nat.le_of_ble_eq_true rfl, Nat.le_of_ble_eq_true rfl⟩) ?_
    refine g_ior X dX4_shareBits_37 ?_
    refine g_callV_rd (As := [.int ((u.2.1 1 (53 + 16 * b9 + 5)) ||| (u.2.1 1 (53 + 16 * b9 + 6)))]) (ci := 4) (v := some (.int (rSum (hsc u 0 0) ((u.2.1 1 (53 + 16 * b9 + 5)) ||| (u.2.1 1 (53 + 16 * b9 + 6))) (cN (u.2.1 1 0))))) X dX4_shareBits_38 (c_X4_weigh κ.l hl κ.Γ M2 a (hsc u 0 0) hR2 ((u.2.1 1 (53 + 16 * b9 + 5)) ||| (u.2.1 1 (53 + 16 * b9 + 6))) hi) k1333 k1335 kp32 k5 k1336 rfl (MRep.obj hR2) ⟨rfl, by decide, by decide, (show (parseMethodDescriptor yX4_weigh.desc).map (fun d => d.parameters.length) = some 1 by decide +kernel)⟩ rfl (Nat.le_of_ble_eq_true rfl) (by rw [hRm]; decide) (by rw [hRm]; exact ⟨Nat.le_of_ble_eq_true rfl, Nat.le_of_ble_eq_true rfl⟩) ?_
    refine g_istore_n (L' := [(2, .int (rSum (hsc u 0 0) ((u.2.1 1 (53 + 16 * b9 + 5)) ||| (u.2.1 1 (53 + 16 * b9 + 6))) (cN (u.2.1 1 0)))), (0, .ref (a 0)), (1, .int (nI b9))]) X dX4_shareBits_41 rfl (by rw [hnL]; decide) rfl ?_
    refine g_aload_n X dX4_shareBits_42 rfl 1 rfl ?_
    refine g_iconst (v := 2) X dX4_shareBits_43 (by decide) ?_
    refine g_iload_n X dX4_shareBits_44 rfl 0 rfl ?_
    refine g_if_ne (tgt := 52) X dX4_shareBits_45 (by decide) (fun c4 => ?_) (fun c4 => ?_)
    · refine g_iconst (v := 0) X dX4_shareBits_52 (by decide) ?_
      refine g_callV (As := [.int 2, .int 0]) (ci := 4) X dX4_shareBits_53 (c_X4_fails0 κ.l hl κ.Γ M2 a (hsc u 0 0) hR2 2) k1164 k1166 kp15 k5 k1167 rfl (MRep.obj hR2) ⟨rfl, by decide, by decide, (show (parseMethodDescriptor yX4_fails.desc).map (fun d => d.parameters.length) = some 2 by decide +kernel)⟩ rfl (Nat.le_of_ble_eq_true rfl) (by rw [hRm]; decide) (by rw [hRm]; exact ⟨Nat.le_of_ble_eq_true rfl, Nat.le_of_ble_eq_true rfl⟩) (fun v5 M5 h5 => ?_) (fun _ _ h9 => by cases h9.1)
      obtain ⟨e5, hR5, hF5⟩ := h5
      have e5 : (Sum.inl v5 : Res) = rI 0 := e5
      cases e5
      have hR5 : MRep κ.Γ a (hsc u 0 0) M5 := by rw [← hsc_hsc (x := 0)]; exact hR5
      have hF5 := Fr.tr hF2 hF5
      refine g_if_eq (tgt := 63) X dX4_shareBits_56 (by decide) (fun c6 => ?_) (fun c6 => absurd c6 (by decide))
      have hs2 := hs b9 hb9 c4
      refine g_aload_n X dX4_shareBits_63 rfl 1 rfl ?_
      refine g_aload_n X dX4_shareBits_64 rfl 1 rfl ?_
      refine g_iload_n X dX4_shareBits_65 rfl 2 rfl ?_
      refine g_iconst (v := 5) X dX4_shareBits_66 (by decide) ?_
      refine g_callV_rd (As := [.int (nI b9), .int 5]) (ci := 4) (v := some (.int (u.2.1 1 (53 + 16 * b9 + 5)))) X dX4_shareBits_67 (c_X4_of κ.l hl κ.Γ M5 a (hsc u 0 0) hR5 b9 5 (by omega) (by omega)) k1263 k1265 kp25 k5 k1266 rfl (MRep.obj hR5) ⟨rfl, by decide, by decide, (show (parseMethodDescriptor yX4_of.desc).map (fun d => d.parameters.length) = some 2 by decide +kernel)⟩ rfl (Nat.le_of_ble_eq_true rfl) (by rw [hRm]; decide) (by rw [hRm]; exact ⟨Nat.le_of_ble_eq_true rfl, Nat.le_of_ble_eq_true rfl⟩) ?_
      refine g_callV_rd (As := [.int (u.2.1 1 (53 + 16 * b9 + 5))]) (ci := 4) (v := some (.int (rSum (hsc u 0 0) (u.2.1 1 (53 + 16 * b9 + 5)) (cN (u.2.1 1 0))))) X dX4_shareBits_70 (c_X4_weigh κ.l hl κ.Γ M5 a (hsc u 0 0) hR5 (u.2.1 1 (53 + 16 * b9 + 5)) hi) k1333 k1335 kp32 k5 k1336 rfl (MRep.obj hR5) ⟨rfl, by decide, by decide, (show (parseMethodDescriptor yX4_weigh.desc).map (fun d => d.parameters.length) = some 1 by decide +kernel)⟩ rfl (Nat.le_of_ble_eq_true rfl) (by rw [hRm]; decide) (by rw [hRm]; exact ⟨Nat.le_of_ble_eq_true rfl, Nat.le_of_ble_eq_true rfl⟩) ?_
      refine g_i2f X dX4_shareBits_73 ?_
      refine g_iload_n X dX4_shareBits_74 rfl 0 rfl ?_
      refine g_i2f X dX4_shareBits_75 ?_
      refine g_fdiv X dX4_shareBits_76 hs2.1 ?_
      refine g_callS_rd (As := [.float (FP.fdiv (FP.i2f (rSum (hsc u 0 0) (u.2.1 1 (53 + 16 * b9 + 5)) (cN (u.2.1 1 0)))) (FP.i2f (rSum (hsc u 0 0) ((u.2.1 1 (53 + 16 * b9 + 5)) ||| (u.2.1 1 (53 + 16 * b9 + 6))) (cN (u.2.1 1 0)))))]) (v := some (.int ((FP.fdiv (FP.i2f (rSum (hsc u 0 0) (u.2.1 1 (53 + 16 * b9 + 5)) (cN (u.2.1 1 0)))) (FP.i2f (rSum (hsc u 0 0) ((u.2.1 1 (53 + 16 * b9 + 5)) ||| (u.2.1 1 (53 + 16 * b9 + 6))) (cN (u.2.1 1 0))))).toInt32))) X dX4_shareBits_77 (c_f2ib κ.l hl κ.Γ M5 (FP.fdiv (FP.i2f (rSum (hsc u 0 0) (u.2.1 1 (53 + 16 * b9 + 5)) (cN (u.2.1 1 0)))) (FP.i2f (rSum (hsc u 0 0) ((u.2.1 1 (53 + 16 * b9 + 5)) ||| (u.2.1 1 (53 + 16 * b9 + 6))) (cN (u.2.1 1 0))))) hs2.2) k1370 k1371 k25 k1372 ⟨by decide, by decide, (show (parseMethodDescriptor yJxf58ca_floatToIntBits_5c35a.desc).map (fun d => d.parameters.length) = some 1 by decide +kernel)⟩ rfl (Nat.le_of_ble_eq_true rfl) (by rw [hRm]; decide) (by rw [hRm]; exact ⟨Nat.le_of_ble_eq_true rfl, Nat.le_of_ble_eq_true rfl⟩) ?_
      exact g_iret X F dX4_shareBits_80 (by omega) (by omega) (by unfold mShareBits; (try rw [hcb9]); exact (MMu.n (by first | exact c1 | exact fun q => q c1 | exact fun q => c1 q | exact Classical.not_not.mp c1) (MMu.n (by first | exact c4 | exact fun q => q c4 | exact fun q => c4 q | exact Classical.not_not.mp c4) ⟨rfl, hR5, hF5⟩)))
    · refine g_iconst (v := 1) X dX4_shareBits_48 (by decide) ?_
      refine g_goto (tgt := 53) X dX4_shareBits_49 (by decide) ?_
      refine g_callV (As := [.int 2, .int 1]) (ci := 4) X dX4_shareBits_53 (c_X4_fails1 κ.l hl κ.Γ M2 a (hsc u 0 0) hR2 2) k1164 k1166 kp15 k5 k1167 rfl (MRep.obj hR2) ⟨rfl, by decide, by decide, (show (parseMethodDescriptor yX4_fails.desc).map (fun d => d.parameters.length) = some 2 by decide +kernel)⟩ rfl (Nat.le_of_ble_eq_true rfl) (by rw [hRm]; decide) (by rw [hRm]; exact ⟨Nat.le_of_ble_eq_true rfl, Nat.le_of_ble_eq_true rfl⟩) (fun v7 M7 h7 => ?_) (fun _ _ h9 => by cases h9.1)
      obtain ⟨e7, hR7, hF7⟩ := h7
      have e7 : (Sum.inl v7 : Res) = rI 1 := e7
      cases e7
      have hR7 : MRep κ.Γ a (hsc u 0 2) M7 := by rw [← hsc_hsc (x := 0)]; exact hR7
      have hF7 := Fr.tr hF2 hF7
      refine g_if_eq (tgt := 63) X dX4_shareBits_56 (by decide) (fun c8 => absurd c8 (by decide)) (fun c8 => ?_)
      refine g_iconst (v := 0) X dX4_shareBits_59 (by decide) ?_
      refine g_goto (tgt := 80) X dX4_shareBits_60 (by decide) ?_
      exact g_iret X F dX4_shareBits_80 (by omega) (by omega) (by unfold mShareBits; (try rw [hcb9]); exact (MMu.n (by first | exact c1 | exact fun q => q c1 | exact fun q => c1 q | exact Classical.not_not.mp c1) (MMu.y (by first | exact c4 | exact fun q => q c4 | exact fun q => c4 q | exact Classical.not_not.mp c4) ⟨rfl, hR7, hF7⟩)))
  · refine g_iconst (v := 1) X dX4_shareBits_10 (by decide) ?_
    refine g_goto (tgt := 15) X dX4_shareBits_11 (by decide) ?_
    refine g_callV (As := [.int 1, .int 1]) (ci := 4) X dX4_shareBits_15 (c_X4_fails1 κ.l hl κ.Γ M a u hR 1) k1164 k1166 kp15 k5 k1167 rfl (MRep.obj hR) ⟨rfl, by decide, by decide, (show (parseMethodDescriptor yX4_fails.desc).map (fun d => d.parameters.length) = some 2 by decide +kernel)⟩ rfl (Nat.le_of_ble_eq_true rfl) (by rw [hRm]; decide) (by rw [hRm]; exact ⟨Nat.le_of_ble_eq_true rfl, Nat.le_of_ble_eq_true rfl⟩) (fun v9 M9 h9 => ?_) (fun _ _ h9 => by cases h9.1)
    obtain ⟨e9, hR9, hF9⟩ := h9
    have e9 : (Sum.inl v9 : Res) = rI 1 := e9
    cases e9
    refine g_if_eq (tgt := 23) X dX4_shareBits_18 (by decide) (fun c10 => absurd c10 (by decide)) (fun c10 => ?_)
    refine g_iconst (v := 0) X dX4_shareBits_21 (by decide) ?_
    exact g_iret X F dX4_shareBits_22 (by omega) (by omega) (by unfold mShareBits; exact (MMu.y (by first | exact c1 | exact fun q => q c1 | exact fun q => c1 q | exact Classical.not_not.mp c1) ⟨rfl, hR9, hF9⟩))
noncomputable def mLineAt (u : HV) (x : Int32) : Res × HV := mG (¬ btw x 0 (u.1 4 - 1)) 1 (some (.int 32)) u (rI (u.2.1 13 (cN x)), u0 u)
set_option maxRecDepth 100000 in
set_option maxHeartbeats 4000000 in
theorem c_X4_lineAt (l : Launch) (hl : l.stackTraces = false) (Γ : Gm) (M : Hp) (a : Nat → Nat) (u : HV) (hR : MRep Γ a u M) (x : Int32) (hw : ∃ W : Nat, W ≤ 40 ∧ u.1 4 = nI W) (hc : ∀ j, j < 40 → narrow .char (.int (u.2.1 13 j)) = .int (u.2.1 13 j)) : Ct l Γ yX4_lineAt cX4_lineAt 2 (some .char) 1 0 0 [.ref (a 0), .int x] M (MMu Γ a (mLineAt u x) M) := by
  refine Ct.of hl (by decide) (Nat.le_of_ble_eq_true rfl) rfl ?_
  intro κ e1 e2 hnL hRm X F hlt
  subst e1 e2
  refine g_aload_n X dX4_lineAt_0 rfl 0 rfl ?_
  refine g_iconst (v := 1) X dX4_lineAt_1 (by decide) ?_
  refine g_iload_n X dX4_lineAt_2 rfl 1 rfl ?_
  refine g_iconst (v := 0) X dX4_lineAt_3 (by decide) ?_
  refine g_aload_n X dX4_lineAt_4 rfl 0 rfl ?_
  refine g_get X dX4_lineAt_5 (ci := 4) (k := 9) (v := .int (u.1 4)) rfl k1098 (by decide) rfl (MRep.obj hR) rfl ?_
  refine g_iconst (v := 1) X dX4_lineAt_8 (by decide) ?_
  refine g_isub X dX4_lineAt_9 ?_
  refine g_callS_rd (As := [.int x, .int 0, .int ((u.1 4) - 1)]) (v := some (.int (bI (btw x 0 ((u.1 4) - 1))))) X dX4_lineAt_10 (c_X4_isBetween κ.l hl κ.Γ M x 0 ((u.1 4) - 1)) k1161 k1162 k5 k1163 ⟨by decide, by decide, (show (parseMethodDescriptor yX4_isBetween.desc).map (fun d => d.parameters.length) = some 3 by decide +kernel)⟩ rfl (Nat.le_of_ble_eq_true rfl) (by rw [hRm]; decide) (by rw [hRm]; exact ⟨Nat.le_of_ble_eq_true rfl, Nat.le_of_ble_eq_true rfl⟩) ?_
  refine g_ifb_ne (tgt := 20) X dX4_lineAt_13 (by decide) (fun c1 => ?_) (fun c1 => ?_)
  · refine g_iconst (v := 0) X dX4_lineAt_20 (by decide) ?_
    refine g_callV (As := [.int 1, .int 0]) (ci := 4) X dX4_lineAt_21 (c_X4_fails0 κ.l hl κ.Γ M a u hR 1) k1164 k1166 kp15 k5 k1167 rfl (MRep.obj hR) ⟨rfl, by decide, by decide, (show (parseMethodDescriptor yX4_fails.desc).map (fun d => d.parameters.length) = some 2 by decide +kernel)⟩ rfl (Nat.le_of_ble_eq_true rfl) (by rw [hRm]; decide) (by rw [hRm]; exact ⟨Nat.le_of_ble_eq_true rfl, Nat.le_of_ble_eq_true rfl⟩) (fun v2 M2 h2 => ?_) (fun _ _ h9 => by cases h9.1)
    obtain ⟨e2, hR2, hF2⟩ := h2
    have e2 : (Sum.inl v2 : Res) = rI 0 := e2
    cases e2
    refine g_if_eq (tgt := 32) X dX4_lineAt_24 (by decide) (fun c3 => ?_) (fun c3 => absurd c3 (by decide))
    obtain ⟨W, hW, eW⟩ := hw
    rw [eW] at c1
    obtain ⟨x9, hx1, hx2, rfl⟩ := btw_nat (by omega) c1
    have hx9 : x9 < 40 := by omega
    refine g_aload_n X dX4_lineAt_32 rfl 0 rfl ?_
    refine g_get X dX4_lineAt_33 (ci := 4) (k := 8) (v := .ref (a 13)) rfl k1097 (by decide) rfl (MRep.obj hR2) rfl ?_
    refine g_iload_n X dX4_lineAt_36 rfl 1 rfl ?_
    refine g_caload X dX4_lineAt_37 (MRep.line hR2) (vp_in_nI (by omega) (by decide)) ?_
    refine g_lit (u.2.1 13 x9) (congrArg (u.2.1 13) (cN_nI (by omega))) ?_
    exact g_zret X F dX4_lineAt_38 (by omega) (by omega) (hc x9 hx9) (by unfold mLineAt; exact (MMu.n (fun q => q (by rw [eW]; exact c1)) ⟨by rw [hx2], hR2, hF2⟩))
  · refine g_iconst (v := 1) X dX4_lineAt_16 (by decide) ?_
    refine g_goto (tgt := 21) X dX4_lineAt_17 (by decide) ?_
    refine g_callV (As := [.int 1, .int 1]) (ci := 4) X dX4_lineAt_21 (c_X4_fails1 κ.l hl κ.Γ M a u hR 1) k1164 k1166 kp15 k5 k1167 rfl (MRep.obj hR) ⟨rfl, by decide, by decide, (show (parseMethodDescriptor yX4_fails.desc).map (fun d => d.parameters.length) = some 2 by decide +kernel)⟩ rfl (Nat.le_of_ble_eq_true rfl) (by rw [hRm]; decide) (by rw [hRm]; exact ⟨Nat.le_of_ble_eq_true rfl, Nat.le_of_ble_eq_true rfl⟩) (fun v4 M4 h4 => ?_) (fun _ _ h9 => by cases h9.1)
    obtain ⟨e4, hR4, hF4⟩ := h4
    have e4 : (Sum.inl v4 : Res) = rI 1 := e4
    cases e4
    refine g_if_eq (tgt := 32) X dX4_lineAt_24 (by decide) (fun c5 => absurd c5 (by decide)) (fun c5 => ?_)
    refine g_bipush (v := 32) X dX4_lineAt_27 (by decide) ?_
    refine g_goto (tgt := 38) X dX4_lineAt_29 (by decide) ?_
    exact g_zret X F dX4_lineAt_38 (by omega) (by omega) rfl (by unfold mLineAt; exact (MMu.y (by first | exact c1 | exact fun q => q c1 | exact fun q => c1 q | exact Classical.not_not.mp c1) ⟨rfl, hR4, hF4⟩))
