section GF2
variable {κ : KT} {own : String} {cc : ByteArray} {rt : Option FieldType} {tab : List ExceptionTableEntry} {nm : String} {M : Hp} {cells slots pc : Nat} {L : List (Nat × Value)} {rest : List Value}
theorem g_f2ib (X : Cx κ own cc rt tab nm) {idx : Nat} {b : UInt32} (d : decode cc pc = .ok (.invokestatic idx, 3)) (h1 : Cond.methodLink own idx ⟨"java/lang/Float", "floatToRawIntBits", "(F)I"⟩ ∈ TG) (h2 : Cond.native ⟨"java/lang/Float", "floatToRawIntBits", "(F)I"⟩ ∈ TG) (h3 : Cond.static ⟨"java/lang/Float", "floatToRawIntBits", "(F)I"⟩ ∈ TG) (h4 : Cond.initialized "java/lang/Float" ∈ TG) (hf : 1 ≤ κ.R.frames) (hc : (rest.map fun v => v.category).sum + 15 ≤ κ.R.locals)
    (k9 : G κ M cells slots L (pc + 3) (.int b.toInt32 :: rest)) : G κ M cells slots L pc (.float b :: rest) := fun H locs ls hI hl => vn_f2i X.1 X.2.1 (X.2.2.1.trans hl.1.symm) X.2.2.2.2.2.1 (X.2.2.2.2.2.2.1 _ h1) (X.2.2.2.2.2.2.1 _ h2) (X.2.2.2.2.2.2.1 _ h3) (X.2.2.2.2.2.2.1 _ h4) hf hc d (k9 H locs ls hI hl)
end GF2
theorem vx_ofWF {l : Launch} {y : MethodName} {ws ws' : List Cond} {rm : Room} {Pc : Array Value → State → Prop} {Qc : Array Value → State → Outcome → State → Prop} {XC : String → State → State → Prop} {mc ms : Nat} {free : Addr → Prop} {cc : ByteArray} {maxL : Nat} {ret : Option FieldType}
    (hy : plainFor y = true) (hw : ws = Cond.code y cc maxL ret :: ws')
    (body : ∀ p e s m args below meth c s₁, BodyLoose p l y (headSpec ws rm) cc maxL ret e s m args below meth c s₁ → c.maxLocals = maxL → (∀ x ∈ c.exceptionTable.toList, False) → Pc args s →
      W p l e (headSpec ws rm).room s m args below meth c s.heap [] 0 0 (vx_MQ below Qc XC args s mc ms free) (entryFrame m args maxL)) : vx_Met l y ws rm Pc Qc XC mc ms free := by
  refine MetFree.of_bodySF (code := cc) (maxLocals := maxL) (ret := ret) hy ?_ ?_
  · intro args s m h hn
    obtain ⟨meth, c, h1, h2, h3, h4, h5, h6, -, -⟩ := Cond.code_spec hn (atoms_spec (ws := ws) h _ (by rw [hw]; exact List.mem_cons_self))
    exact ⟨meth, c, h1, h2, h3, h4, h5, h6⟩
  · intro p e s m args below meth c s₁ B hml hP _
    have hh0 : s₁.heap = s.heap := by rw [B.state]; rfl
    have ht : ∀ x ∈ c.exceptionTable.toList, False := by
      obtain ⟨meth9, c9, h1, h2, -, -, -, -, h7, -⟩ := Cond.code_spec B.named (atoms_spec (ws := ws) B.pre _ (by rw [hw]; exact List.mem_cons_self))
      cases Option.some.inj (h1.symm.trans B.method)
      cases Option.some.inj (h2.symm.trans (Stand.of_body B).code)
      intro x hx
      rw [Array.isEmpty_iff.mp h7] at hx
      cases hx
    obtain ⟨t, a1, o, b1, b2, b3⟩ := body p e s m args below meth c s₁ B hml ht hP s₁ hh0 (Stand.of_body B)
    exact ⟨t, o, a1, b1, b2, b3⟩
theorem Ct.ofF {l : Launch} {Γ : Gm} {y : MethodName} {cc : ByteArray} {maxL : Nat} {rt : Option FieldType} {k mc ms : Nat} {as : List Value} {M : Hp} {post : Res → Hp → Prop} {L0 : List (Nat × Value)}
    (hl : l.stackTraces = false) (hy : plainFor y = true) (hn : (lg_sl as).length ≤ maxL) (hL : lv_args 0 as = L0)
    (body : ∀ κ : KT, κ.l = l → κ.Γ = Γ → κ.nL = maxL → κ.R = Rm k mc ms → Cx κ y.cls cc rt [] y.name → Fn κ M mc ms post → (∀ q e, M q = some e → q < κ.s.heap.size) → G κ M 0 0 L0 0 []) : Ct l Γ y cc maxL rt k mc ms as M post := by
  intro sz
  refine vx_ofWF (cc := cc) (maxL := maxL) (ret := rt) hy rfl ?_
  intro p e s m args below meth c s₁ B hml ht hv
  obtain ⟨rfl, hsz, hH, hE⟩ := hv
  subst hsz
  have hts := atoms_spec (ws := Cond.code y cc maxL rt :: TG) B.pre
  have hown : s.vm.findClass y.cls = some m.cls := findClass_of_methodNamed B.named
  have hl0 := lv_entry as (n := maxL) hn
  rw [lg_entry_eq]
  refine body (p, l, e, Rm k mc ms, s, m, as.toArray, below, meth, c, Γ, Af M s.heap.size, maxL, vx_MQ below (PostR Γ M s.heap.size post) (PostX Γ M s.heap.size post) as.toArray s mc ms (Af M s.heap.size)) rfl rfl rfl rfl ?_ ⟨rfl, rfl⟩ (fun q e h => hH.lt h) s.heap [] _ ⟨hH, fun q e h => Or.inl ⟨e, h⟩, va_S.rf⟩ (hL ▸ hl0)
  refine ⟨B.exec, B.bytes, hml, B.returns, B.notSynchronized, hown, fun w hw => hts w (List.mem_cons_of_mem _ hw), hE, fun q h => Or.inr h, hl, ?_, (name_of_methodNamed B.named B.method).1⟩
  rw [List.eq_nil_iff_forall_not_mem]
  exact fun x hx => ht x hx
set_option maxRecDepth 100000 in
set_option maxHeartbeats 4000000 in
theorem c_isNaN (l : Launch) (hl : l.stackTraces = false) (Γ : Gm) (M : Hp) (x : UInt32) (hq : Op.cmpValue (FP.fcmp x x) .l = 0) : Ct l Γ yJxf58ca_isNaN_12338 cJxf58ca_isNaN_12338 1 (some .boolean) 0 0 0 [.float x] M (Rd (some (.int 0)) M) := by
  refine Ct.ofF hl (by decide +kernel) (Nat.le_of_ble_eq_true rfl) rfl ?_
  intro κ e1 e2 hnL hRm X F hlt
  subst e1 e2
  refine g_fload_n X dJxf58ca_isNaN_12338_0 rfl 0 rfl ?_
  refine g_fload_n X dJxf58ca_isNaN_12338_1 rfl 0 rfl ?_
  refine g_fcmp X dJxf58ca_isNaN_12338_2 ?_
  refine g_if_eq (tgt := 10) X dJxf58ca_isNaN_12338_3 (by decide) (fun c1 => ?_) (fun c1 => ?_)
  · refine g_iconst (v := 0) X dJxf58ca_isNaN_12338_10 (by decide) ?_
    exact g_zret X F dJxf58ca_isNaN_12338_11 (by omega) (by omega) rfl ⟨rfl, rfl⟩
  · refine g_iconst (v := 1) X dJxf58ca_isNaN_12338_6 (by decide) ?_
    refine g_goto (tgt := 11) X dJxf58ca_isNaN_12338_7 (by decide) ?_
    exact absurd hq c1
set_option maxRecDepth 100000 in
set_option maxHeartbeats 4000000 in
theorem c_f2ib (l : Launch) (hl : l.stackTraces = false) (Γ : Gm) (M : Hp) (x : UInt32) (hq : Op.cmpValue (FP.fcmp x x) .l = 0) : Ct l Γ yJxf58ca_floatToIntBits_5c35a cJxf58ca_floatToIntBits_5c35a 1 (some .int) 1 0 0 [.float x] M (Rd (some (.int x.toInt32)) M) := by
  refine Ct.ofF hl (by decide +kernel) (Nat.le_of_ble_eq_true rfl) rfl ?_
  intro κ e1 e2 hnL hRm X F hlt
  subst e1 e2
  refine g_fload_n X dJxf58ca_floatToIntBits_5c35a_0 rfl 0 rfl ?_
  refine g_callS_rd (As := [.float x]) (v := some (.int 0)) X dJxf58ca_floatToIntBits_5c35a_1 (c_isNaN κ.l hl κ.Γ M x hq) k1373 k1374 k25 k1375 ⟨by decide, by decide, (show (parseMethodDescriptor yJxf58ca_isNaN_12338.desc).map (fun d => d.parameters.length) = some 1 by decide +kernel)⟩ rfl (Nat.le_of_ble_eq_true rfl) (by rw [hRm]; decide) (by rw [hRm]; exact ⟨Nat.le_of_ble_eq_true rfl, Nat.le_of_ble_eq_true rfl⟩) ?_
  refine g_if_ne (tgt := 12) X dJxf58ca_floatToIntBits_5c35a_4 (by decide) (fun c1 => absurd c1 (by decide)) (fun c1 => ?_)
  refine g_fload_n X dJxf58ca_floatToIntBits_5c35a_7 rfl 0 rfl ?_
  refine g_f2ib X dJxf58ca_floatToIntBits_5c35a_8 k1376 k1378 k1377 k25 (by rw [hRm]; decide) (by rw [hRm]; exact Nat.le_of_ble_eq_true rfl) ?_
  exact g_iret X F dJxf58ca_floatToIntBits_5c35a_11 (by omega) (by omega) ⟨rfl, rfl⟩
