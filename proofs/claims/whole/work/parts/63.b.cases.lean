set_option maxRecDepth 100000 in
set_option maxHeartbeats 4000000 in
theorem lc_addMember {κ : KT} {tab : List ExceptionTableEntry} {nm : String} {M : Hp} {cells slots : Nat} {sb Ls o od i : Nat} {xs : Nat → Int32} {A a : Nat → Nat} (X : Cx κ RL cL_law (some .boolean) tab nm) (hl : κ.l.stackTraces = false) (hnL : κ.nL = 9) (hRm : κ.R = room_1) (D : LD κ sb Ls xs A a o od) {w : PV} {u : HV} (hW : LW κ A a o od w u M) (hG : LG w u) (hi : i + 3 < Ls) (hc : cells + 3 ≤ 603072) (hs : slots + 18 ≤ 7182442) (hS : SmV isI [eIdx, eArg, eSta] (pAddMember w (xs (i + 1)) (xs (i + 2))) (mAddMember u (xs (i + 1)) (xs (i + 2)))) (k9 : ∀ M', LW κ A a o od (pAddMember w (xs (i + 1)) (xs (i + 2))).2 (mAddMember u (xs (i + 1)) (xs (i + 2))).2 M' → G κ M' (cells + 3) (slots + 18) (LL sb A a o od i) 2980 []) : G κ M cells slots (LL sb A a o od i) 276 [] := by
  obtain ⟨hBR, hMR, ⟨fo, ho⟩, ⟨fd, hod⟩⟩ := hW
  refine g_aload_n X dL_law_276 rfl 4 rfl ?_
  refine g_arg X D 1 5 0 dL_law_277 dL_law_278 dL_law_280 dL_law_281 dL_law_282 (by decide) rfl rfl (by omega) ?_
  refine g_arg X D 2 5 0 dL_law_283 dL_law_284 dL_law_286 dL_law_287 dL_law_288 (by decide) rfl rfl (by omega) ?_
  refine g_aload_n X dL_law_289 rfl 2 rfl ?_
  refine g_callSX (As := [.ref (A 313), .int (xs (i + 1)), .int (xs (i + 2)), .ref o]) X dL_law_290 (c_L_addMember κ.l hl κ.Γ M A w hBR hG.1 (xs (i + 1)) (xs (i + 2))  o fo ho D.2.2.1.1 hS.inn) k286 k287 k0 k288 ⟨by decide, by decide, (show (parseMethodDescriptor yL_addMember.desc).map (fun d => d.parameters.length) = some 4 by decide +kernel)⟩ rfl (Nat.le_of_ble_eq_true rfl) (by rw [hRm]; decide) (by rw [hRm]; exact ⟨by (show _ ≤ 603072); omega, by (show _ ≤ 7182442); omega⟩) (fun v1 M1 h1 => ?_) (fun E9 M9 h9 => ?_)
  rotate_left
  · obtain ⟨f1, -, -, -, hA1⟩ := h9
    obtain ⟨k1, z1, -, e1, -, -, -⟩ := hS.ans hA1 (by decide +kernel) (by decide)
    cases e1
  obtain ⟨f1, hBR1, ho1, hF1, hA1⟩ := h1
  obtain ⟨k1, z1, ⟨n1, rfl⟩, e1, e2, e3, e4⟩ := hS.ans hA1 (by decide +kernel) (by decide)
  cases e1
  have hMR1 := D.m hMR hF1
  have hx1 := D.odW hod hF1
  refine g_istore (L' := [(6, .int k1), (5, .int (nI i)), (4, .ref od), (3, .ref o), (2, .ref (a 0)), (1, .ref (A 313)), (0, .ref sb)]) X dL_law_293 (by rw [hnL]; decide) rfl ?_
  refine g_aload_n X dL_law_295 rfl 4 rfl ?_
  refine g_arg X D 1 6 1 dL_law_296 dL_law_297 dL_law_299 dL_law_300 dL_law_301 (by decide) rfl rfl (by omega) ?_
  refine g_arg X D 2 6 1 dL_law_302 dL_law_303 dL_law_305 dL_law_306 dL_law_307 (by decide) rfl rfl (by omega) ?_
  refine g_callV (As := [.int (xs (i + 1)), .int (xs (i + 2))]) (ci := 4) X dL_law_308 (c_X4_addMember κ.l hl κ.Γ M1 a u hMR1 (xs (i + 1)) (xs (i + 2)) hG.2.1 hG.2.2.1) k1154 k1155 k1156 k5 k1157 rfl (MRep.obj hMR1) ⟨rfl, by decide, by decide, (show (parseMethodDescriptor yX4_addMember.desc).map (fun d => d.parameters.length) = some 2 by decide +kernel)⟩ rfl (Nat.le_of_ble_eq_true rfl) (by rw [hRm]; decide) (by rw [hRm]; exact ⟨by (show _ ≤ 603072); omega, by (show _ ≤ 7182442); omega⟩) (fun v2 M2 h2 => ?_) (fun E9 M9 h9 => by have := h9.1.trans e2; cases this)
  obtain ⟨g2, hMR2, hF2⟩ := h2
  have g2 := g2.trans e2
  cases g2
  refine g_istore (L' := [(7, .int n1), (6, .int k1), (5, .int (nI i)), (4, .ref od), (3, .ref o), (2, .ref (a 0)), (1, .ref (A 313)), (0, .ref sb)]) X dL_law_311 (by rw [hnL]; decide) rfl ?_
  refine g_aload_n X dL_law_313 rfl 5 rfl ?_
  refine g_callV_rd (As := []) (ci := 4) (v := some (.int ((mAddMember u (xs (i + 1)) (xs (i + 2))).2.1 0))) X dL_law_314 (c_X4_thrown κ.l hl κ.Γ M2 a _ hMR2) k1150 k1151 k1152 k5 k1153 rfl (MRep.obj hMR2) ⟨rfl, by decide, by decide, (show (parseMethodDescriptor yX4_thrown.desc).map (fun d => d.parameters.length) = some 0 by decide +kernel)⟩ rfl (Nat.le_of_ble_eq_true rfl) (by rw [hRm]; decide) (by rw [hRm]; exact ⟨by (show _ ≤ 603072); omega, by (show _ ≤ 7182442); omega⟩) ?_
  refine g_lit (y := k1) e3 ?_
  refine g_iload X dL_law_317 1 rfl ?_
  refine g_icmp_eq (tgt := 324) X dL_law_319 (by decide) (fun _ => ?_) (fun h => absurd rfl h)
  refine g_iload X dL_law_324 1 rfl ?_
  have hW2 : LW κ A a o od (pAddMember w (xs (i + 1)) (xs (i + 2))).2 (mAddMember u (xs (i + 1)) (xs (i + 2))).2 M2 := ⟨D.b hBR1 hF2, hMR2, ⟨f1, D.oM ho1 hF2⟩, ⟨fd, D.odM hx1 hF2⟩⟩
  have kE : G κ M2 (cells + 3) (slots + 18) [(7, .int n1), (6, .int k1), (5, .int (nI i)), (4, .ref od), (3, .ref o), (2, .ref (a 0)), (1, .ref (A 313)), (0, .ref sb)] 341 [] := by
    refine g_goto (tgt := 2980) X dL_law_341 (by decide) ?_
    refine g_locs [2, 3, 4, 5, 6, 7] (L' := LL sb A a o od i) rfl ?_
    exact k9 _ hW2
  refine g_if_ne (tgt := 341) X dL_law_326 (by decide) (fun _ => kE) (fun z0 => ?_)
  have e5 := e4 z0
  refine g_aload_n X dL_law_329 rfl 4 rfl ?_
  refine g_iconst (v := 0) X dL_law_330 (by decide) ?_
  refine g_laload X dL_law_331 (D.oM ho1 hF2) vin01 ?_
  show G κ M2 _ _ _ _ (.long (f1 0) :: _)
  refine g_iload X dL_law_332 0 rfl ?_
  refine g_i2l X dL_law_334 ?_
  refine g_lcmp0 X dL_law_335 e5 ?_
  exact g_if_eq (tgt := 341) X dL_law_336 (by decide) (fun _ => kE) (fun h => absurd rfl h)
set_option maxRecDepth 100000 in
set_option maxHeartbeats 4000000 in
theorem lc_enter {κ : KT} {tab : List ExceptionTableEntry} {nm : String} {M : Hp} {cells slots : Nat} {sb Ls o od i : Nat} {xs : Nat → Int32} {A a : Nat → Nat} (X : Cx κ RL cL_law (some .boolean) tab nm) (hl : κ.l.stackTraces = false) (hnL : κ.nL = 9) (hRm : κ.R = room_1) (D : LD κ sb Ls xs A a o od) {w : PV} {u : HV} (hW : LW κ A a o od w u M) (hG : LG w u) (hi : i + 3 < Ls) (hc : cells + 3 ≤ 603072) (hs : slots + 18 ≤ 7182442) (hS : SmV isI [eIdx, eSta] (pEnter w (xs (i + 1))) (mEnter u (xs (i + 1)))) (k9 : ∀ M', LW κ A a o od (pEnter w (xs (i + 1))).2 (mEnter u (xs (i + 1))).2 M' → G κ M' (cells + 3) (slots + 18) (LL sb A a o od i) 2980 []) : G κ M cells slots (LL sb A a o od i) 344 [] := by
  obtain ⟨hBR, hMR, ⟨fo, ho⟩, ⟨fd, hod⟩⟩ := hW
  refine g_aload_n X dL_law_344 rfl 4 rfl ?_
  refine g_arg X D 1 5 0 dL_law_345 dL_law_346 dL_law_348 dL_law_349 dL_law_350 (by decide) rfl rfl (by omega) ?_
  refine g_aload_n X dL_law_351 rfl 2 rfl ?_
  refine g_callSX (As := [.ref (A 313), .int (xs (i + 1)), .ref o]) X dL_law_352 (c_L_enter κ.l hl κ.Γ M A w hBR hG.1 (xs (i + 1))  o fo ho D.2.2.1.1 hS.inn) k477 k478 k0 k479 ⟨by decide, by decide, (show (parseMethodDescriptor yL_enter.desc).map (fun d => d.parameters.length) = some 3 by decide +kernel)⟩ rfl (Nat.le_of_ble_eq_true rfl) (by rw [hRm]; decide) (by rw [hRm]; exact ⟨by (show _ ≤ 603072); omega, by (show _ ≤ 7182442); omega⟩) (fun v1 M1 h1 => ?_) (fun E9 M9 h9 => ?_)
  rotate_left
  · obtain ⟨f1, -, -, -, hA1⟩ := h9
    obtain ⟨k1, z1, -, e1, -, -, -⟩ := hS.ans hA1 (by decide +kernel) (by decide)
    cases e1
  obtain ⟨f1, hBR1, ho1, hF1, hA1⟩ := h1
  obtain ⟨k1, z1, ⟨n1, rfl⟩, e1, e2, e3, e4⟩ := hS.ans hA1 (by decide +kernel) (by decide)
  cases e1
  have hMR1 := D.m hMR hF1
  have hx1 := D.odW hod hF1
  refine g_istore (L' := [(6, .int k1), (5, .int (nI i)), (4, .ref od), (3, .ref o), (2, .ref (a 0)), (1, .ref (A 313)), (0, .ref sb)]) X dL_law_355 (by rw [hnL]; decide) rfl ?_
  refine g_aload_n X dL_law_357 rfl 4 rfl ?_
  refine g_arg X D 1 6 1 dL_law_358 dL_law_359 dL_law_361 dL_law_362 dL_law_363 (by decide) rfl rfl (by omega) ?_
  refine g_callV (As := [.int (xs (i + 1))]) (ci := 4) X dL_law_364 (c_X4_enter κ.l hl κ.Γ M1 a u hMR1 (xs (i + 1)) hG.2.1 hG.2.2.1) k1179 k1180 k1181 k5 k1182 rfl (MRep.obj hMR1) ⟨rfl, by decide, by decide, (show (parseMethodDescriptor yX4_enter.desc).map (fun d => d.parameters.length) = some 1 by decide +kernel)⟩ rfl (Nat.le_of_ble_eq_true rfl) (by rw [hRm]; decide) (by rw [hRm]; exact ⟨by (show _ ≤ 603072); omega, by (show _ ≤ 7182442); omega⟩) (fun v2 M2 h2 => ?_) (fun E9 M9 h9 => by have := h9.1.trans e2; cases this)
  obtain ⟨g2, hMR2, hF2⟩ := h2
  have g2 := g2.trans e2
  cases g2
  refine g_istore (L' := [(7, .int n1), (6, .int k1), (5, .int (nI i)), (4, .ref od), (3, .ref o), (2, .ref (a 0)), (1, .ref (A 313)), (0, .ref sb)]) X dL_law_367 (by rw [hnL]; decide) rfl ?_
  refine g_aload_n X dL_law_369 rfl 5 rfl ?_
  refine g_callV_rd (As := []) (ci := 4) (v := some (.int ((mEnter u (xs (i + 1))).2.1 0))) X dL_law_370 (c_X4_thrown κ.l hl κ.Γ M2 a _ hMR2) k1150 k1151 k1152 k5 k1153 rfl (MRep.obj hMR2) ⟨rfl, by decide, by decide, (show (parseMethodDescriptor yX4_thrown.desc).map (fun d => d.parameters.length) = some 0 by decide +kernel)⟩ rfl (Nat.le_of_ble_eq_true rfl) (by rw [hRm]; decide) (by rw [hRm]; exact ⟨by (show _ ≤ 603072); omega, by (show _ ≤ 7182442); omega⟩) ?_
  refine g_lit (y := k1) e3 ?_
  refine g_iload X dL_law_373 1 rfl ?_
  refine g_icmp_eq (tgt := 380) X dL_law_375 (by decide) (fun _ => ?_) (fun h => absurd rfl h)
  refine g_iload X dL_law_380 1 rfl ?_
  have hW2 : LW κ A a o od (pEnter w (xs (i + 1))).2 (mEnter u (xs (i + 1))).2 M2 := ⟨D.b hBR1 hF2, hMR2, ⟨f1, D.oM ho1 hF2⟩, ⟨fd, D.odM hx1 hF2⟩⟩
  have kE : G κ M2 (cells + 3) (slots + 18) [(7, .int n1), (6, .int k1), (5, .int (nI i)), (4, .ref od), (3, .ref o), (2, .ref (a 0)), (1, .ref (A 313)), (0, .ref sb)] 397 [] := by
    refine g_goto (tgt := 2980) X dL_law_397 (by decide) ?_
    refine g_locs [2, 3, 4, 5, 6, 7] (L' := LL sb A a o od i) rfl ?_
    exact k9 _ hW2
  refine g_if_ne (tgt := 397) X dL_law_382 (by decide) (fun _ => kE) (fun z0 => ?_)
  have e5 := e4 z0
  refine g_aload_n X dL_law_385 rfl 4 rfl ?_
  refine g_iconst (v := 0) X dL_law_386 (by decide) ?_
  refine g_laload X dL_law_387 (D.oM ho1 hF2) vin01 ?_
  show G κ M2 _ _ _ _ (.long (f1 0) :: _)
  refine g_iload X dL_law_388 0 rfl ?_
  refine g_i2l X dL_law_390 ?_
  refine g_lcmp0 X dL_law_391 e5 ?_
  exact g_if_eq (tgt := 397) X dL_law_392 (by decide) (fun _ => kE) (fun h => absurd rfl h)
set_option maxRecDepth 100000 in
set_option maxHeartbeats 4000000 in
theorem lc_leave {κ : KT} {tab : List ExceptionTableEntry} {nm : String} {M : Hp} {cells slots : Nat} {sb Ls o od i : Nat} {xs : Nat → Int32} {A a : Nat → Nat} (X : Cx κ RL cL_law (some .boolean) tab nm) (hl : κ.l.stackTraces = false) (hnL : κ.nL = 9) (hRm : κ.R = room_1) (D : LD κ sb Ls xs A a o od) {w : PV} {u : HV} (hW : LW κ A a o od w u M) (hG : LG w u) (hi : i + 3 < Ls) (hc : cells + 3 ≤ 603072) (hs : slots + 18 ≤ 7182442) (hS : SmV isI [eIdx, eSta] (pLeave w (xs (i + 1))) (mLeave u (xs (i + 1)))) (k9 : ∀ M', LW κ A a o od (pLeave w (xs (i + 1))).2 (mLeave u (xs (i + 1))).2 M' → G κ M' (cells + 3) (slots + 18) (LL sb A a o od i) 2980 []) : G κ M cells slots (LL sb A a o od i) 400 [] := by
  obtain ⟨hBR, hMR, ⟨fo, ho⟩, ⟨fd, hod⟩⟩ := hW
  refine g_aload_n X dL_law_400 rfl 4 rfl ?_
  refine g_arg X D 1 5 0 dL_law_401 dL_law_402 dL_law_404 dL_law_405 dL_law_406 (by decide) rfl rfl (by omega) ?_
  refine g_aload_n X dL_law_407 rfl 2 rfl ?_
  refine g_callSX (As := [.ref (A 313), .int (xs (i + 1)), .ref o]) X dL_law_408 (c_L_leave κ.l hl κ.Γ M A w hBR hG.1 (xs (i + 1))  o fo ho D.2.2.1.1 hS.inn) k496 k497 k0 k498 ⟨by decide, by decide, (show (parseMethodDescriptor yL_leave.desc).map (fun d => d.parameters.length) = some 3 by decide +kernel)⟩ rfl (Nat.le_of_ble_eq_true rfl) (by rw [hRm]; decide) (by rw [hRm]; exact ⟨by (show _ ≤ 603072); omega, by (show _ ≤ 7182442); omega⟩) (fun v1 M1 h1 => ?_) (fun E9 M9 h9 => ?_)
  rotate_left
  · obtain ⟨f1, -, -, -, hA1⟩ := h9
    obtain ⟨k1, z1, -, e1, -, -, -⟩ := hS.ans hA1 (by decide +kernel) (by decide)
    cases e1
  obtain ⟨f1, hBR1, ho1, hF1, hA1⟩ := h1
  obtain ⟨k1, z1, ⟨n1, rfl⟩, e1, e2, e3, e4⟩ := hS.ans hA1 (by decide +kernel) (by decide)
  cases e1
  have hMR1 := D.m hMR hF1
  have hx1 := D.odW hod hF1
  refine g_istore (L' := [(6, .int k1), (5, .int (nI i)), (4, .ref od), (3, .ref o), (2, .ref (a 0)), (1, .ref (A 313)), (0, .ref sb)]) X dL_law_411 (by rw [hnL]; decide) rfl ?_
  refine g_aload_n X dL_law_413 rfl 4 rfl ?_
  refine g_arg X D 1 6 1 dL_law_414 dL_law_415 dL_law_417 dL_law_418 dL_law_419 (by decide) rfl rfl (by omega) ?_
  refine g_callV (As := [.int (xs (i + 1))]) (ci := 4) X dL_law_420 (c_X4_leave κ.l hl κ.Γ M1 a u hMR1 (xs (i + 1)) hG.2.1 hG.2.2.1) k1192 k1193 k1194 k5 k1195 rfl (MRep.obj hMR1) ⟨rfl, by decide, by decide, (show (parseMethodDescriptor yX4_leave.desc).map (fun d => d.parameters.length) = some 1 by decide +kernel)⟩ rfl (Nat.le_of_ble_eq_true rfl) (by rw [hRm]; decide) (by rw [hRm]; exact ⟨by (show _ ≤ 603072); omega, by (show _ ≤ 7182442); omega⟩) (fun v2 M2 h2 => ?_) (fun E9 M9 h9 => by have := h9.1.trans e2; cases this)
  obtain ⟨g2, hMR2, hF2⟩ := h2
  have g2 := g2.trans e2
  cases g2
  refine g_istore (L' := [(7, .int n1), (6, .int k1), (5, .int (nI i)), (4, .ref od), (3, .ref o), (2, .ref (a 0)), (1, .ref (A 313)), (0, .ref sb)]) X dL_law_423 (by rw [hnL]; decide) rfl ?_
  refine g_aload_n X dL_law_425 rfl 5 rfl ?_
  refine g_callV_rd (As := []) (ci := 4) (v := some (.int ((mLeave u (xs (i + 1))).2.1 0))) X dL_law_426 (c_X4_thrown κ.l hl κ.Γ M2 a _ hMR2) k1150 k1151 k1152 k5 k1153 rfl (MRep.obj hMR2) ⟨rfl, by decide, by decide, (show (parseMethodDescriptor yX4_thrown.desc).map (fun d => d.parameters.length) = some 0 by decide +kernel)⟩ rfl (Nat.le_of_ble_eq_true rfl) (by rw [hRm]; decide) (by rw [hRm]; exact ⟨by (show _ ≤ 603072); omega, by (show _ ≤ 7182442); omega⟩) ?_
  refine g_lit (y := k1) e3 ?_
  refine g_iload X dL_law_429 1 rfl ?_
  refine g_icmp_eq (tgt := 436) X dL_law_431 (by decide) (fun _ => ?_) (fun h => absurd rfl h)
  refine g_iload X dL_law_436 1 rfl ?_
  have hW2 : LW κ A a o od (pLeave w (xs (i + 1))).2 (mLeave u (xs (i + 1))).2 M2 := ⟨D.b hBR1 hF2, hMR2, ⟨f1, D.oM ho1 hF2⟩, ⟨fd, D.odM hx1 hF2⟩⟩
  have kE : G κ M2 (cells + 3) (slots + 18) [(7, .int n1), (6, .int k1), (5, .int (nI i)), (4, .ref od), (3, .ref o), (2, .ref (a 0)), (1, .ref (A 313)), (0, .ref sb)] 453 [] := by
    refine g_goto (tgt := 2980) X dL_law_453 (by decide) ?_
    refine g_locs [2, 3, 4, 5, 6, 7] (L' := LL sb A a o od i) rfl ?_
    exact k9 _ hW2
  refine g_if_ne (tgt := 453) X dL_law_438 (by decide) (fun _ => kE) (fun z0 => ?_)
  have e5 := e4 z0
  refine g_aload_n X dL_law_441 rfl 4 rfl ?_
  refine g_iconst (v := 0) X dL_law_442 (by decide) ?_
  refine g_laload X dL_law_443 (D.oM ho1 hF2) vin01 ?_
  show G κ M2 _ _ _ _ (.long (f1 0) :: _)
  refine g_iload X dL_law_444 0 rfl ?_
  refine g_i2l X dL_law_446 ?_
  refine g_lcmp0 X dL_law_447 e5 ?_
  exact g_if_eq (tgt := 453) X dL_law_448 (by decide) (fun _ => kE) (fun h => absurd rfl h)
set_option maxRecDepth 100000 in
set_option maxHeartbeats 4000000 in
theorem lc_setQuorum {κ : KT} {tab : List ExceptionTableEntry} {nm : String} {M : Hp} {cells slots : Nat} {sb Ls o od i : Nat} {xs : Nat → Int32} {A a : Nat → Nat} (X : Cx κ RL cL_law (some .boolean) tab nm) (hl : κ.l.stackTraces = false) (hnL : κ.nL = 9) (hRm : κ.R = room_1) (D : LD κ sb Ls xs A a o od) {w : PV} {u : HV} (hW : LW κ A a o od w u M) (hG : LG w u) (hi : i + 3 < Ls) (hc : cells + 3 ≤ 603072) (hs : slots + 18 ≤ 7182442) (hS : SmV isI [eArg] (pSetQuorum w (xs (i + 1))) (mSetQuorum u (xs (i + 1)))) (k9 : ∀ M', LW κ A a o od (pSetQuorum w (xs (i + 1))).2 (mSetQuorum u (xs (i + 1))).2 M' → G κ M' (cells + 3) (slots + 18) (LL sb A a o od i) 2980 []) : G κ M cells slots (LL sb A a o od i) 456 [] := by
  obtain ⟨hBR, hMR, ⟨fo, ho⟩, ⟨fd, hod⟩⟩ := hW
  refine g_aload_n X dL_law_456 rfl 4 rfl ?_
  refine g_arg X D 1 5 0 dL_law_457 dL_law_458 dL_law_460 dL_law_461 dL_law_462 (by decide) rfl rfl (by omega) ?_
  refine g_aload_n X dL_law_463 rfl 2 rfl ?_
  refine g_callSX (As := [.ref (A 313), .int (xs (i + 1)), .ref o]) X dL_law_464 (c_L_setQuorum κ.l hl κ.Γ M A w hBR hG.1 (xs (i + 1))  o fo ho D.2.2.1.1 hS.inn) k511 k512 k0 k513 ⟨by decide, by decide, (show (parseMethodDescriptor yL_setQuorum.desc).map (fun d => d.parameters.length) = some 3 by decide +kernel)⟩ rfl (Nat.le_of_ble_eq_true rfl) (by rw [hRm]; decide) (by rw [hRm]; exact ⟨by (show _ ≤ 603072); omega, by (show _ ≤ 7182442); omega⟩) (fun v1 M1 h1 => ?_) (fun E9 M9 h9 => ?_)
  rotate_left
  · obtain ⟨f1, -, -, -, hA1⟩ := h9
    obtain ⟨k1, z1, -, e1, -, -, -⟩ := hS.ans hA1 (by decide +kernel) (by decide)
    cases e1
  obtain ⟨f1, hBR1, ho1, hF1, hA1⟩ := h1
  obtain ⟨k1, z1, ⟨n1, rfl⟩, e1, e2, e3, e4⟩ := hS.ans hA1 (by decide +kernel) (by decide)
  cases e1
  have hMR1 := D.m hMR hF1
  have hx1 := D.odW hod hF1
  refine g_istore (L' := [(6, .int k1), (5, .int (nI i)), (4, .ref od), (3, .ref o), (2, .ref (a 0)), (1, .ref (A 313)), (0, .ref sb)]) X dL_law_467 (by rw [hnL]; decide) rfl ?_
  refine g_aload_n X dL_law_469 rfl 4 rfl ?_
  refine g_arg X D 1 6 1 dL_law_470 dL_law_471 dL_law_473 dL_law_474 dL_law_475 (by decide) rfl rfl (by omega) ?_
  refine g_callV (As := [.int (xs (i + 1))]) (ci := 4) X dL_law_476 (c_X4_setQuorum κ.l hl κ.Γ M1 a u hMR1 (xs (i + 1)) hG.2.1 hG.2.2.1) k1196 k1197 k1198 k5 k1199 rfl (MRep.obj hMR1) ⟨rfl, by decide, by decide, (show (parseMethodDescriptor yX4_setQuorum.desc).map (fun d => d.parameters.length) = some 1 by decide +kernel)⟩ rfl (Nat.le_of_ble_eq_true rfl) (by rw [hRm]; decide) (by rw [hRm]; exact ⟨by (show _ ≤ 603072); omega, by (show _ ≤ 7182442); omega⟩) (fun v2 M2 h2 => ?_) (fun E9 M9 h9 => by have := h9.1.trans e2; cases this)
  obtain ⟨g2, hMR2, hF2⟩ := h2
  have g2 := g2.trans e2
  cases g2
  refine g_istore (L' := [(7, .int n1), (6, .int k1), (5, .int (nI i)), (4, .ref od), (3, .ref o), (2, .ref (a 0)), (1, .ref (A 313)), (0, .ref sb)]) X dL_law_479 (by rw [hnL]; decide) rfl ?_
  refine g_aload_n X dL_law_481 rfl 5 rfl ?_
  refine g_callV_rd (As := []) (ci := 4) (v := some (.int ((mSetQuorum u (xs (i + 1))).2.1 0))) X dL_law_482 (c_X4_thrown κ.l hl κ.Γ M2 a _ hMR2) k1150 k1151 k1152 k5 k1153 rfl (MRep.obj hMR2) ⟨rfl, by decide, by decide, (show (parseMethodDescriptor yX4_thrown.desc).map (fun d => d.parameters.length) = some 0 by decide +kernel)⟩ rfl (Nat.le_of_ble_eq_true rfl) (by rw [hRm]; decide) (by rw [hRm]; exact ⟨by (show _ ≤ 603072); omega, by (show _ ≤ 7182442); omega⟩) ?_
  refine g_lit (y := k1) e3 ?_
  refine g_iload X dL_law_485 1 rfl ?_
  refine g_icmp_eq (tgt := 492) X dL_law_487 (by decide) (fun _ => ?_) (fun h => absurd rfl h)
  refine g_iload X dL_law_492 1 rfl ?_
  have hW2 : LW κ A a o od (pSetQuorum w (xs (i + 1))).2 (mSetQuorum u (xs (i + 1))).2 M2 := ⟨D.b hBR1 hF2, hMR2, ⟨f1, D.oM ho1 hF2⟩, ⟨fd, D.odM hx1 hF2⟩⟩
  have kE : G κ M2 (cells + 3) (slots + 18) [(7, .int n1), (6, .int k1), (5, .int (nI i)), (4, .ref od), (3, .ref o), (2, .ref (a 0)), (1, .ref (A 313)), (0, .ref sb)] 509 [] := by
    refine g_goto (tgt := 2980) X dL_law_509 (by decide) ?_
    refine g_locs [2, 3, 4, 5, 6, 7] (L' := LL sb A a o od i) rfl ?_
    exact k9 _ hW2
  refine g_if_ne (tgt := 509) X dL_law_494 (by decide) (fun _ => kE) (fun z0 => ?_)
  have e5 := e4 z0
  refine g_aload_n X dL_law_497 rfl 4 rfl ?_
  refine g_iconst (v := 0) X dL_law_498 (by decide) ?_
  refine g_laload X dL_law_499 (D.oM ho1 hF2) vin01 ?_
  show G κ M2 _ _ _ _ (.long (f1 0) :: _)
  refine g_iload X dL_law_500 0 rfl ?_
  refine g_i2l X dL_law_502 ?_
  refine g_lcmp0 X dL_law_503 e5 ?_
  exact g_if_eq (tgt := 509) X dL_law_504 (by decide) (fun _ => kE) (fun h => absurd rfl h)
set_option maxRecDepth 100000 in
set_option maxHeartbeats 4000000 in
theorem lc_memberCount {κ : KT} {tab : List ExceptionTableEntry} {nm : String} {M : Hp} {cells slots : Nat} {sb Ls o od i : Nat} {xs : Nat → Int32} {A a : Nat → Nat} (X : Cx κ RL cL_law (some .boolean) tab nm) (hl : κ.l.stackTraces = false) (hnL : κ.nL = 9) (hRm : κ.R = room_1) (D : LD κ sb Ls xs A a o od) {w : PV} {u : HV} (hW : LW κ A a o od w u M) (hG : LG w u) (hi : i + 3 < Ls) (hc : cells + 3 ≤ 603072) (hs : slots + 18 ≤ 7182442) (hS : SmQ (pMemberCount w) (mMemberCount u)) (k9 : ∀ M', LW κ A a o od (pMemberCount w).2 (mMemberCount u).2 M' → G κ M' (cells + 3) (slots + 18) (LL sb A a o od i) 2980 []) : G κ M cells slots (LL sb A a o od i) 512 [] := by
  obtain ⟨hBR, hMR, ⟨fo, ho⟩, ⟨fd, hod⟩⟩ := hW
  obtain ⟨z1, e1, e2⟩ := hS
  refine g_aload_n X dL_law_512 rfl 4 rfl ?_
  refine g_callV (As := []) (ci := 3) X dL_law_513 (c_X3_memberCount κ.l hl κ.Γ M A w hBR hG.1) k188 k189 k190 k1 k191 rfl (BRep.obj hBR) ⟨rfl, by decide, by decide, (show (parseMethodDescriptor yX3_memberCount.desc).map (fun d => d.parameters.length) = some 0 by decide +kernel)⟩ rfl (Nat.le_of_ble_eq_true rfl) (by rw [hRm]; decide) (by rw [hRm]; exact ⟨by (show _ ≤ 603072); omega, by (show _ ≤ 7182442); omega⟩) (fun v1 M1 h1 => ?_) (fun E9 M9 h9 => by have := h9.1.trans e1; cases this)
  obtain ⟨g1, hBR1, hF1⟩ := h1
  have g1 := g1.trans e1
  cases g1
  have hMR1 := D.m2 hMR hF1
  refine g_aload_n X dL_law_516 rfl 3 rfl ?_
  refine g_callV (As := []) (ci := 4) X dL_law_517 (c_X4_memberCount κ.l hl κ.Γ M1 a u hMR1 ) k1200 k1201 k1202 k5 k1203 rfl (MRep.obj hMR1) ⟨rfl, by decide, by decide, (show (parseMethodDescriptor yX4_memberCount.desc).map (fun d => d.parameters.length) = some 0 by decide +kernel)⟩ rfl (Nat.le_of_ble_eq_true rfl) (by rw [hRm]; decide) (by rw [hRm]; exact ⟨by (show _ ≤ 603072); omega, by (show _ ≤ 7182442); omega⟩) (fun v2 M2 h2 => ?_) (fun E9 M9 h9 => by have := h9.1.trans e2; cases this)
  obtain ⟨g2, hMR2, hF2⟩ := h2
  have g2 := g2.trans e2
  cases g2
  refine g_icmp_eq (tgt := 2980) X dL_law_520 (by decide) (fun _ => ?_) (fun h => absurd rfl h)
  exact k9 _ ⟨D.b hBR1 hF2, hMR2, ⟨fo, D.oM (D.oA ho hF1) hF2⟩, ⟨fd, D.odM (D.odA hod hF1) hF2⟩⟩
set_option maxRecDepth 100000 in
set_option maxHeartbeats 4000000 in
theorem lc_wardOf {κ : KT} {tab : List ExceptionTableEntry} {nm : String} {M : Hp} {cells slots : Nat} {sb Ls o od i : Nat} {xs : Nat → Int32} {A a : Nat → Nat} (X : Cx κ RL cL_law (some .boolean) tab nm) (hl : κ.l.stackTraces = false) (hnL : κ.nL = 9) (hRm : κ.R = room_1) (D : LD κ sb Ls xs A a o od) {w : PV} {u : HV} (hW : LW κ A a o od w u M) (hG : LG w u) (hi : i + 3 < Ls) (hc : cells + 3 ≤ 603072) (hs : slots + 18 ≤ 7182442) (hS : SmV isI [eIdx] (pWardOf w (xs (i + 1))) (mWardOf u (xs (i + 1)))) (k9 : ∀ M', LW κ A a o od (pWardOf w (xs (i + 1))).2 (mWardOf u (xs (i + 1))).2 M' → G κ M' (cells + 3) (slots + 18) (LL sb A a o od i) 2980 []) : G κ M cells slots (LL sb A a o od i) 525 [] := by
  obtain ⟨hBR, hMR, ⟨fo, ho⟩, ⟨fd, hod⟩⟩ := hW
  refine g_aload_n X dL_law_525 rfl 4 rfl ?_
  refine g_arg X D 1 5 0 dL_law_526 dL_law_527 dL_law_529 dL_law_530 dL_law_531 (by decide) rfl rfl (by omega) ?_
  refine g_aload_n X dL_law_532 rfl 2 rfl ?_
  refine g_callSX (As := [.ref (A 313), .int (xs (i + 1)), .ref o]) X dL_law_533 (c_L_wardOf κ.l hl κ.Γ M A w hBR hG.1 (xs (i + 1))  o fo ho D.2.2.1.1 hS.inn) k526 k527 k0 k528 ⟨by decide, by decide, (show (parseMethodDescriptor yL_wardOf.desc).map (fun d => d.parameters.length) = some 3 by decide +kernel)⟩ rfl (Nat.le_of_ble_eq_true rfl) (by rw [hRm]; decide) (by rw [hRm]; exact ⟨by (show _ ≤ 603072); omega, by (show _ ≤ 7182442); omega⟩) (fun v1 M1 h1 => ?_) (fun E9 M9 h9 => ?_)
  rotate_left
  · obtain ⟨f1, -, -, -, hA1⟩ := h9
    obtain ⟨k1, z1, -, e1, -, -, -⟩ := hS.ans hA1 (by decide +kernel) (by decide)
    cases e1
  obtain ⟨f1, hBR1, ho1, hF1, hA1⟩ := h1
  obtain ⟨k1, z1, ⟨n1, rfl⟩, e1, e2, e3, e4⟩ := hS.ans hA1 (by decide +kernel) (by decide)
  cases e1
  have hMR1 := D.m hMR hF1
  have hx1 := D.odW hod hF1
  refine g_istore (L' := [(6, .int k1), (5, .int (nI i)), (4, .ref od), (3, .ref o), (2, .ref (a 0)), (1, .ref (A 313)), (0, .ref sb)]) X dL_law_536 (by rw [hnL]; decide) rfl ?_
  refine g_aload_n X dL_law_538 rfl 4 rfl ?_
  refine g_arg X D 1 6 1 dL_law_539 dL_law_540 dL_law_542 dL_law_543 dL_law_544 (by decide) rfl rfl (by omega) ?_
  refine g_callV (As := [.int (xs (i + 1))]) (ci := 4) X dL_law_545 (c_X4_wardOf κ.l hl κ.Γ M1 a u hMR1 (xs (i + 1)) hG.2.1) k1204 k1205 k1206 k5 k1207 rfl (MRep.obj hMR1) ⟨rfl, by decide, by decide, (show (parseMethodDescriptor yX4_wardOf.desc).map (fun d => d.parameters.length) = some 1 by decide +kernel)⟩ rfl (Nat.le_of_ble_eq_true rfl) (by rw [hRm]; decide) (by rw [hRm]; exact ⟨by (show _ ≤ 603072); omega, by (show _ ≤ 7182442); omega⟩) (fun v2 M2 h2 => ?_) (fun E9 M9 h9 => by have := h9.1.trans e2; cases this)
  obtain ⟨g2, hMR2, hF2⟩ := h2
  have g2 := g2.trans e2
  cases g2
  refine g_istore (L' := [(7, .int n1), (6, .int k1), (5, .int (nI i)), (4, .ref od), (3, .ref o), (2, .ref (a 0)), (1, .ref (A 313)), (0, .ref sb)]) X dL_law_548 (by rw [hnL]; decide) rfl ?_
  refine g_aload_n X dL_law_550 rfl 5 rfl ?_
  refine g_callV_rd (As := []) (ci := 4) (v := some (.int ((mWardOf u (xs (i + 1))).2.1 0))) X dL_law_551 (c_X4_thrown κ.l hl κ.Γ M2 a _ hMR2) k1150 k1151 k1152 k5 k1153 rfl (MRep.obj hMR2) ⟨rfl, by decide, by decide, (show (parseMethodDescriptor yX4_thrown.desc).map (fun d => d.parameters.length) = some 0 by decide +kernel)⟩ rfl (Nat.le_of_ble_eq_true rfl) (by rw [hRm]; decide) (by rw [hRm]; exact ⟨by (show _ ≤ 603072); omega, by (show _ ≤ 7182442); omega⟩) ?_
  refine g_lit (y := k1) e3 ?_
  refine g_iload X dL_law_554 1 rfl ?_
  refine g_icmp_eq (tgt := 561) X dL_law_556 (by decide) (fun _ => ?_) (fun h => absurd rfl h)
  refine g_iload X dL_law_561 1 rfl ?_
  have hW2 : LW κ A a o od (pWardOf w (xs (i + 1))).2 (mWardOf u (xs (i + 1))).2 M2 := ⟨D.b hBR1 hF2, hMR2, ⟨f1, D.oM ho1 hF2⟩, ⟨fd, D.odM hx1 hF2⟩⟩
  have kE : G κ M2 (cells + 3) (slots + 18) [(7, .int n1), (6, .int k1), (5, .int (nI i)), (4, .ref od), (3, .ref o), (2, .ref (a 0)), (1, .ref (A 313)), (0, .ref sb)] 578 [] := by
    refine g_goto (tgt := 2980) X dL_law_578 (by decide) ?_
    refine g_locs [2, 3, 4, 5, 6, 7] (L' := LL sb A a o od i) rfl ?_
    exact k9 _ hW2
  refine g_if_ne (tgt := 578) X dL_law_563 (by decide) (fun _ => kE) (fun z0 => ?_)
  have e5 := e4 z0
  refine g_aload_n X dL_law_566 rfl 4 rfl ?_
  refine g_iconst (v := 0) X dL_law_567 (by decide) ?_
  refine g_laload X dL_law_568 (D.oM ho1 hF2) vin01 ?_
  show G κ M2 _ _ _ _ (.long (f1 0) :: _)
  refine g_iload X dL_law_569 0 rfl ?_
  refine g_i2l X dL_law_571 ?_
  refine g_lcmp0 X dL_law_572 e5 ?_
  exact g_if_eq (tgt := 578) X dL_law_573 (by decide) (fun _ => kE) (fun h => absurd rfl h)
set_option maxRecDepth 100000 in
set_option maxHeartbeats 4000000 in
theorem lc_weightOf {κ : KT} {tab : List ExceptionTableEntry} {nm : String} {M : Hp} {cells slots : Nat} {sb Ls o od i : Nat} {xs : Nat → Int32} {A a : Nat → Nat} (X : Cx κ RL cL_law (some .boolean) tab nm) (hl : κ.l.stackTraces = false) (hnL : κ.nL = 9) (hRm : κ.R = room_1) (D : LD κ sb Ls xs A a o od) {w : PV} {u : HV} (hW : LW κ A a o od w u M) (hG : LG w u) (hi : i + 3 < Ls) (hc : cells + 3 ≤ 603072) (hs : slots + 18 ≤ 7182442) (hS : SmV isI [eIdx] (pWeightOf w (xs (i + 1))) (mWeightOf u (xs (i + 1)))) (k9 : ∀ M', LW κ A a o od (pWeightOf w (xs (i + 1))).2 (mWeightOf u (xs (i + 1))).2 M' → G κ M' (cells + 3) (slots + 18) (LL sb A a o od i) 2980 []) : G κ M cells slots (LL sb A a o od i) 581 [] := by
  obtain ⟨hBR, hMR, ⟨fo, ho⟩, ⟨fd, hod⟩⟩ := hW
  refine g_aload_n X dL_law_581 rfl 4 rfl ?_
  refine g_arg X D 1 5 0 dL_law_582 dL_law_583 dL_law_585 dL_law_586 dL_law_587 (by decide) rfl rfl (by omega) ?_
  refine g_aload_n X dL_law_588 rfl 2 rfl ?_
  refine g_callSX (As := [.ref (A 313), .int (xs (i + 1)), .ref o]) X dL_law_589 (c_L_weightOf κ.l hl κ.Γ M A w hBR hG.1 (xs (i + 1))  o fo ho D.2.2.1.1 hS.inn) k538 k539 k0 k540 ⟨by decide, by decide, (show (parseMethodDescriptor yL_weightOf.desc).map (fun d => d.parameters.length) = some 3 by decide +kernel)⟩ rfl (Nat.le_of_ble_eq_true rfl) (by rw [hRm]; decide) (by rw [hRm]; exact ⟨by (show _ ≤ 603072); omega, by (show _ ≤ 7182442); omega⟩) (fun v1 M1 h1 => ?_) (fun E9 M9 h9 => ?_)
  rotate_left
  · obtain ⟨f1, -, -, -, hA1⟩ := h9
    obtain ⟨k1, z1, -, e1, -, -, -⟩ := hS.ans hA1 (by decide +kernel) (by decide)
    cases e1
  obtain ⟨f1, hBR1, ho1, hF1, hA1⟩ := h1
  obtain ⟨k1, z1, ⟨n1, rfl⟩, e1, e2, e3, e4⟩ := hS.ans hA1 (by decide +kernel) (by decide)
  cases e1
  have hMR1 := D.m hMR hF1
  have hx1 := D.odW hod hF1
  refine g_istore (L' := [(6, .int k1), (5, .int (nI i)), (4, .ref od), (3, .ref o), (2, .ref (a 0)), (1, .ref (A 313)), (0, .ref sb)]) X dL_law_592 (by rw [hnL]; decide) rfl ?_
  refine g_aload_n X dL_law_594 rfl 4 rfl ?_
  refine g_arg X D 1 6 1 dL_law_595 dL_law_596 dL_law_598 dL_law_599 dL_law_600 (by decide) rfl rfl (by omega) ?_
  refine g_callV (As := [.int (xs (i + 1))]) (ci := 4) X dL_law_601 (c_X4_weightOf κ.l hl κ.Γ M1 a u hMR1 (xs (i + 1)) hG.2.1) k1212 k1213 k1214 k5 k1215 rfl (MRep.obj hMR1) ⟨rfl, by decide, by decide, (show (parseMethodDescriptor yX4_weightOf.desc).map (fun d => d.parameters.length) = some 1 by decide +kernel)⟩ rfl (Nat.le_of_ble_eq_true rfl) (by rw [hRm]; decide) (by rw [hRm]; exact ⟨by (show _ ≤ 603072); omega, by (show _ ≤ 7182442); omega⟩) (fun v2 M2 h2 => ?_) (fun E9 M9 h9 => by have := h9.1.trans e2; cases this)
  obtain ⟨g2, hMR2, hF2⟩ := h2
  have g2 := g2.trans e2
  cases g2
  refine g_istore (L' := [(7, .int n1), (6, .int k1), (5, .int (nI i)), (4, .ref od), (3, .ref o), (2, .ref (a 0)), (1, .ref (A 313)), (0, .ref sb)]) X dL_law_604 (by rw [hnL]; decide) rfl ?_
  refine g_aload_n X dL_law_606 rfl 5 rfl ?_
  refine g_callV_rd (As := []) (ci := 4) (v := some (.int ((mWeightOf u (xs (i + 1))).2.1 0))) X dL_law_607 (c_X4_thrown κ.l hl κ.Γ M2 a _ hMR2) k1150 k1151 k1152 k5 k1153 rfl (MRep.obj hMR2) ⟨rfl, by decide, by decide, (show (parseMethodDescriptor yX4_thrown.desc).map (fun d => d.parameters.length) = some 0 by decide +kernel)⟩ rfl (Nat.le_of_ble_eq_true rfl) (by rw [hRm]; decide) (by rw [hRm]; exact ⟨by (show _ ≤ 603072); omega, by (show _ ≤ 7182442); omega⟩) ?_
  refine g_lit (y := k1) e3 ?_
  refine g_iload X dL_law_610 1 rfl ?_
  refine g_icmp_eq (tgt := 617) X dL_law_612 (by decide) (fun _ => ?_) (fun h => absurd rfl h)
  refine g_iload X dL_law_617 1 rfl ?_
  have hW2 : LW κ A a o od (pWeightOf w (xs (i + 1))).2 (mWeightOf u (xs (i + 1))).2 M2 := ⟨D.b hBR1 hF2, hMR2, ⟨f1, D.oM ho1 hF2⟩, ⟨fd, D.odM hx1 hF2⟩⟩
  have kE : G κ M2 (cells + 3) (slots + 18) [(7, .int n1), (6, .int k1), (5, .int (nI i)), (4, .ref od), (3, .ref o), (2, .ref (a 0)), (1, .ref (A 313)), (0, .ref sb)] 634 [] := by
    refine g_goto (tgt := 2980) X dL_law_634 (by decide) ?_
    refine g_locs [2, 3, 4, 5, 6, 7] (L' := LL sb A a o od i) rfl ?_
    exact k9 _ hW2
  refine g_if_ne (tgt := 634) X dL_law_619 (by decide) (fun _ => kE) (fun z0 => ?_)
  have e5 := e4 z0
  refine g_aload_n X dL_law_622 rfl 4 rfl ?_
  refine g_iconst (v := 0) X dL_law_623 (by decide) ?_
  refine g_laload X dL_law_624 (D.oM ho1 hF2) vin01 ?_
  show G κ M2 _ _ _ _ (.long (f1 0) :: _)
  refine g_iload X dL_law_625 0 rfl ?_
  refine g_i2l X dL_law_627 ?_
  refine g_lcmp0 X dL_law_628 e5 ?_
  exact g_if_eq (tgt := 634) X dL_law_629 (by decide) (fun _ => kE) (fun h => absurd rfl h)
set_option maxRecDepth 100000 in
set_option maxHeartbeats 4000000 in
theorem lc_isPresent {κ : KT} {tab : List ExceptionTableEntry} {nm : String} {M : Hp} {cells slots : Nat} {sb Ls o od i : Nat} {xs : Nat → Int32} {A a : Nat → Nat} (X : Cx κ RL cL_law (some .boolean) tab nm) (hl : κ.l.stackTraces = false) (hnL : κ.nL = 9) (hRm : κ.R = room_1) (D : LD κ sb Ls xs A a o od) {w : PV} {u : HV} (hW : LW κ A a o od w u M) (hG : LG w u) (hi : i + 3 < Ls) (hc : cells + 3 ≤ 603072) (hs : slots + 18 ≤ 7182442) (hS : SmV isI [eIdx] (pIsPresent w (xs (i + 1))) (mIsPresent u (xs (i + 1)))) (k9 : ∀ M', LW κ A a o od (pIsPresent w (xs (i + 1))).2 (mIsPresent u (xs (i + 1))).2 M' → G κ M' (cells + 3) (slots + 18) (LL sb A a o od i) 2980 []) : G κ M cells slots (LL sb A a o od i) 637 [] := by
  obtain ⟨hBR, hMR, ⟨fo, ho⟩, ⟨fd, hod⟩⟩ := hW
  refine g_aload_n X dL_law_637 rfl 4 rfl ?_
  refine g_arg X D 1 5 0 dL_law_638 dL_law_639 dL_law_641 dL_law_642 dL_law_643 (by decide) rfl rfl (by omega) ?_
  refine g_aload_n X dL_law_644 rfl 2 rfl ?_
  refine g_callSX (As := [.ref (A 313), .int (xs (i + 1)), .ref o]) X dL_law_645 (c_L_isPresent κ.l hl κ.Γ M A w hBR hG.1 (xs (i + 1))  o fo ho D.2.2.1.1 hS.inn) k545 k546 k0 k547 ⟨by decide, by decide, (show (parseMethodDescriptor yL_isPresent.desc).map (fun d => d.parameters.length) = some 3 by decide +kernel)⟩ rfl (Nat.le_of_ble_eq_true rfl) (by rw [hRm]; decide) (by rw [hRm]; exact ⟨by (show _ ≤ 603072); omega, by (show _ ≤ 7182442); omega⟩) (fun v1 M1 h1 => ?_) (fun E9 M9 h9 => ?_)
  rotate_left
  · obtain ⟨f1, -, -, -, hA1⟩ := h9
    obtain ⟨k1, z1, -, e1, -, -, -⟩ := hS.ans hA1 (by decide +kernel) (by decide)
    cases e1
  obtain ⟨f1, hBR1, ho1, hF1, hA1⟩ := h1
  obtain ⟨k1, z1, ⟨n1, rfl⟩, e1, e2, e3, e4⟩ := hS.ans hA1 (by decide +kernel) (by decide)
  cases e1
  have hMR1 := D.m hMR hF1
  have hx1 := D.odW hod hF1
  refine g_istore (L' := [(6, .int k1), (5, .int (nI i)), (4, .ref od), (3, .ref o), (2, .ref (a 0)), (1, .ref (A 313)), (0, .ref sb)]) X dL_law_648 (by rw [hnL]; decide) rfl ?_
  refine g_aload_n X dL_law_650 rfl 4 rfl ?_
  refine g_arg X D 1 6 1 dL_law_651 dL_law_652 dL_law_654 dL_law_655 dL_law_656 (by decide) rfl rfl (by omega) ?_
  refine g_callV (As := [.int (xs (i + 1))]) (ci := 4) X dL_law_657 (c_X4_isPresent κ.l hl κ.Γ M1 a u hMR1 (xs (i + 1)) ) k1216 k1217 k1218 k5 k1219 rfl (MRep.obj hMR1) ⟨rfl, by decide, by decide, (show (parseMethodDescriptor yX4_isPresent.desc).map (fun d => d.parameters.length) = some 1 by decide +kernel)⟩ rfl (Nat.le_of_ble_eq_true rfl) (by rw [hRm]; decide) (by rw [hRm]; exact ⟨by (show _ ≤ 603072); omega, by (show _ ≤ 7182442); omega⟩) (fun v2 M2 h2 => ?_) (fun E9 M9 h9 => by have := h9.1.trans e2; cases this)
  obtain ⟨g2, hMR2, hF2⟩ := h2
  have g2 := g2.trans e2
  cases g2
  refine g_istore (L' := [(7, .int n1), (6, .int k1), (5, .int (nI i)), (4, .ref od), (3, .ref o), (2, .ref (a 0)), (1, .ref (A 313)), (0, .ref sb)]) X dL_law_660 (by rw [hnL]; decide) rfl ?_
  refine g_aload_n X dL_law_662 rfl 5 rfl ?_
  refine g_callV_rd (As := []) (ci := 4) (v := some (.int ((mIsPresent u (xs (i + 1))).2.1 0))) X dL_law_663 (c_X4_thrown κ.l hl κ.Γ M2 a _ hMR2) k1150 k1151 k1152 k5 k1153 rfl (MRep.obj hMR2) ⟨rfl, by decide, by decide, (show (parseMethodDescriptor yX4_thrown.desc).map (fun d => d.parameters.length) = some 0 by decide +kernel)⟩ rfl (Nat.le_of_ble_eq_true rfl) (by rw [hRm]; decide) (by rw [hRm]; exact ⟨by (show _ ≤ 603072); omega, by (show _ ≤ 7182442); omega⟩) ?_
  refine g_lit (y := k1) e3 ?_
  refine g_iload X dL_law_666 1 rfl ?_
  refine g_icmp_eq (tgt := 673) X dL_law_668 (by decide) (fun _ => ?_) (fun h => absurd rfl h)
  refine g_iload X dL_law_673 1 rfl ?_
  have hW2 : LW κ A a o od (pIsPresent w (xs (i + 1))).2 (mIsPresent u (xs (i + 1))).2 M2 := ⟨D.b hBR1 hF2, hMR2, ⟨f1, D.oM ho1 hF2⟩, ⟨fd, D.odM hx1 hF2⟩⟩
  have kE : G κ M2 (cells + 3) (slots + 18) [(7, .int n1), (6, .int k1), (5, .int (nI i)), (4, .ref od), (3, .ref o), (2, .ref (a 0)), (1, .ref (A 313)), (0, .ref sb)] 697 [] := by
    refine g_goto (tgt := 2980) X dL_law_697 (by decide) ?_
    refine g_locs [2, 3, 4, 5, 6, 7] (L' := LL sb A a o od i) rfl ?_
    exact k9 _ hW2
  refine g_if_ne (tgt := 697) X dL_law_675 (by decide) (fun _ => kE) (fun z0 => ?_)
  have e5 := e4 z0
  refine g_aload_n X dL_law_678 rfl 4 rfl ?_
  refine g_iconst (v := 0) X dL_law_679 (by decide) ?_
  refine g_laload X dL_law_680 (D.oM ho1 hF2) vin01 ?_
  show G κ M2 _ _ _ _ (.long (f1 0) :: _)
  refine g_iload X dL_law_681 0 rfl ?_
  refine g_if_eq (tgt := 690) X dL_law_683 (by decide) (fun y0 => ?_) (fun y0 => ?_)
  · refine g_lconst (v := 0) X dL_law_690 rfl ?_
    refine g_lcmp0 X dL_law_691 (e5.trans (if_pos y0)) ?_
    exact g_if_eq (tgt := 697) X dL_law_692 (by decide) (fun _ => kE) (fun h => absurd rfl h)
  · refine g_lconst (v := 1) X dL_law_686 rfl ?_
    refine g_goto (tgt := 691) X dL_law_687 (by decide) ?_
    refine g_lcmp0 X dL_law_691 (e5.trans (if_neg y0)) ?_
    exact g_if_eq (tgt := 697) X dL_law_692 (by decide) (fun _ => kE) (fun h => absurd rfl h)
set_option maxRecDepth 100000 in
set_option maxHeartbeats 4000000 in
theorem lc_presentMask {κ : KT} {tab : List ExceptionTableEntry} {nm : String} {M : Hp} {cells slots : Nat} {sb Ls o od i : Nat} {xs : Nat → Int32} {A a : Nat → Nat} (X : Cx κ RL cL_law (some .boolean) tab nm) (hl : κ.l.stackTraces = false) (hnL : κ.nL = 9) (hRm : κ.R = room_1) (D : LD κ sb Ls xs A a o od) {w : PV} {u : HV} (hW : LW κ A a o od w u M) (hG : LG w u) (hi : i + 3 < Ls) (hc : cells + 3 ≤ 603072) (hs : slots + 18 ≤ 7182442) (hS : SmQ (pPresentMask w) (mPresentMask u)) (k9 : ∀ M', LW κ A a o od (pPresentMask w).2 (mPresentMask u).2 M' → G κ M' (cells + 3) (slots + 18) (LL sb A a o od i) 2980 []) : G κ M cells slots (LL sb A a o od i) 700 [] := by
  obtain ⟨hBR, hMR, ⟨fo, ho⟩, ⟨fd, hod⟩⟩ := hW
  obtain ⟨z1, e1, e2⟩ := hS
  refine g_aload_n X dL_law_700 rfl 4 rfl ?_
  refine g_callV (As := []) (ci := 3) X dL_law_701 (c_X3_presentMask κ.l hl κ.Γ M A w hBR hG.1) k192 k193 k194 k1 k195 rfl (BRep.obj hBR) ⟨rfl, by decide, by decide, (show (parseMethodDescriptor yX3_presentMask.desc).map (fun d => d.parameters.length) = some 0 by decide +kernel)⟩ rfl (Nat.le_of_ble_eq_true rfl) (by rw [hRm]; decide) (by rw [hRm]; exact ⟨by (show _ ≤ 603072); omega, by (show _ ≤ 7182442); omega⟩) (fun v1 M1 h1 => ?_) (fun E9 M9 h9 => by have := h9.1.trans e1; cases this)
  obtain ⟨g1, hBR1, hF1⟩ := h1
  have g1 := g1.trans e1
  cases g1
  have hMR1 := D.m2 hMR hF1
  refine g_aload_n X dL_law_704 rfl 3 rfl ?_
  refine g_callV (As := []) (ci := 4) X dL_law_705 (c_X4_presentMask κ.l hl κ.Γ M1 a u hMR1 ) k1220 k1221 k1222 k5 k1223 rfl (MRep.obj hMR1) ⟨rfl, by decide, by decide, (show (parseMethodDescriptor yX4_presentMask.desc).map (fun d => d.parameters.length) = some 0 by decide +kernel)⟩ rfl (Nat.le_of_ble_eq_true rfl) (by rw [hRm]; decide) (by rw [hRm]; exact ⟨by (show _ ≤ 603072); omega, by (show _ ≤ 7182442); omega⟩) (fun v2 M2 h2 => ?_) (fun E9 M9 h9 => by have := h9.1.trans e2; cases this)
  obtain ⟨g2, hMR2, hF2⟩ := h2
  have g2 := g2.trans e2
  cases g2
  refine g_icmp_eq (tgt := 2980) X dL_law_708 (by decide) (fun _ => ?_) (fun h => absurd rfl h)
  exact k9 _ ⟨D.b hBR1 hF2, hMR2, ⟨fo, D.oM (D.oA ho hF1) hF2⟩, ⟨fd, D.odM (D.odA hod hF1) hF2⟩⟩
set_option maxRecDepth 100000 in
set_option maxHeartbeats 4000000 in
theorem lc_quorum {κ : KT} {tab : List ExceptionTableEntry} {nm : String} {M : Hp} {cells slots : Nat} {sb Ls o od i : Nat} {xs : Nat → Int32} {A a : Nat → Nat} (X : Cx κ RL cL_law (some .boolean) tab nm) (hl : κ.l.stackTraces = false) (hnL : κ.nL = 9) (hRm : κ.R = room_1) (D : LD κ sb Ls xs A a o od) {w : PV} {u : HV} (hW : LW κ A a o od w u M) (hG : LG w u) (hi : i + 3 < Ls) (hc : cells + 3 ≤ 603072) (hs : slots + 18 ≤ 7182442) (hS : SmQ (pQuorum w) (mQuorum u)) (k9 : ∀ M', LW κ A a o od (pQuorum w).2 (mQuorum u).2 M' → G κ M' (cells + 3) (slots + 18) (LL sb A a o od i) 2980 []) : G κ M cells slots (LL sb A a o od i) 713 [] := by
  obtain ⟨hBR, hMR, ⟨fo, ho⟩, ⟨fd, hod⟩⟩ := hW
  obtain ⟨z1, e1, e2⟩ := hS
  refine g_aload_n X dL_law_713 rfl 4 rfl ?_
  refine g_callV (As := []) (ci := 3) X dL_law_714 (c_X3_quorum κ.l hl κ.Γ M A w hBR hG.1) k196 k197 k198 k1 k199 rfl (BRep.obj hBR) ⟨rfl, by decide, by decide, (show (parseMethodDescriptor yX3_quorum.desc).map (fun d => d.parameters.length) = some 0 by decide +kernel)⟩ rfl (Nat.le_of_ble_eq_true rfl) (by rw [hRm]; decide) (by rw [hRm]; exact ⟨by (show _ ≤ 603072); omega, by (show _ ≤ 7182442); omega⟩) (fun v1 M1 h1 => ?_) (fun E9 M9 h9 => by have := h9.1.trans e1; cases this)
  obtain ⟨g1, hBR1, hF1⟩ := h1
  have g1 := g1.trans e1
  cases g1
  have hMR1 := D.m2 hMR hF1
  refine g_aload_n X dL_law_717 rfl 3 rfl ?_
  refine g_callV (As := []) (ci := 4) X dL_law_718 (c_X4_quorum κ.l hl κ.Γ M1 a u hMR1 ) k1224 k1225 k1226 k5 k1227 rfl (MRep.obj hMR1) ⟨rfl, by decide, by decide, (show (parseMethodDescriptor yX4_quorum.desc).map (fun d => d.parameters.length) = some 0 by decide +kernel)⟩ rfl (Nat.le_of_ble_eq_true rfl) (by rw [hRm]; decide) (by rw [hRm]; exact ⟨by (show _ ≤ 603072); omega, by (show _ ≤ 7182442); omega⟩) (fun v2 M2 h2 => ?_) (fun E9 M9 h9 => by have := h9.1.trans e2; cases this)
  obtain ⟨g2, hMR2, hF2⟩ := h2
  have g2 := g2.trans e2
  cases g2
  refine g_icmp_eq (tgt := 2980) X dL_law_721 (by decide) (fun _ => ?_) (fun h => absurd rfl h)
  exact k9 _ ⟨D.b hBR1 hF2, hMR2, ⟨fo, D.oM (D.oA ho hF1) hF2⟩, ⟨fd, D.odM (D.odA hod hF1) hF2⟩⟩
set_option maxRecDepth 100000 in
set_option maxHeartbeats 4000000 in
theorem lc_isQuorate {κ : KT} {tab : List ExceptionTableEntry} {nm : String} {M : Hp} {cells slots : Nat} {sb Ls o od i : Nat} {xs : Nat → Int32} {A a : Nat → Nat} (X : Cx κ RL cL_law (some .boolean) tab nm) (hl : κ.l.stackTraces = false) (hnL : κ.nL = 9) (hRm : κ.R = room_1) (D : LD κ sb Ls xs A a o od) {w : PV} {u : HV} (hW : LW κ A a o od w u M) (hG : LG w u) (hi : i + 3 < Ls) (hc : cells + 3 ≤ 603072) (hs : slots + 18 ≤ 7182442) (hS : SmQ (pIsQuorate w) (mIsQuorate u)) (k9 : ∀ M', LW κ A a o od (pIsQuorate w).2 (mIsQuorate u).2 M' → G κ M' (cells + 3) (slots + 18) (LL sb A a o od i) 2980 []) : G κ M cells slots (LL sb A a o od i) 726 [] := by
  obtain ⟨hBR, hMR, ⟨fo, ho⟩, ⟨fd, hod⟩⟩ := hW
  obtain ⟨z1, e1, e2⟩ := hS
  refine g_aload_n X dL_law_726 rfl 4 rfl ?_
  refine g_callV (As := []) (ci := 3) X dL_law_727 (c_X3_isQuorate κ.l hl κ.Γ M A w hBR hG.1) k200 k201 k202 k1 k203 rfl (BRep.obj hBR) ⟨rfl, by decide, by decide, (show (parseMethodDescriptor yX3_isQuorate.desc).map (fun d => d.parameters.length) = some 0 by decide +kernel)⟩ rfl (Nat.le_of_ble_eq_true rfl) (by rw [hRm]; decide) (by rw [hRm]; exact ⟨by (show _ ≤ 603072); omega, by (show _ ≤ 7182442); omega⟩) (fun v1 M1 h1 => ?_) (fun E9 M9 h9 => by have := h9.1.trans e1; cases this)
  obtain ⟨g1, hBR1, hF1⟩ := h1
  have g1 := g1.trans e1
  cases g1
  have hMR1 := D.m2 hMR hF1
  refine g_aload_n X dL_law_730 rfl 3 rfl ?_
  refine g_callV (As := []) (ci := 4) X dL_law_731 (c_X4_isQuorate κ.l hl κ.Γ M1 a u hMR1 ) k1228 k1229 k1230 k5 k1231 rfl (MRep.obj hMR1) ⟨rfl, by decide, by decide, (show (parseMethodDescriptor yX4_isQuorate.desc).map (fun d => d.parameters.length) = some 0 by decide +kernel)⟩ rfl (Nat.le_of_ble_eq_true rfl) (by rw [hRm]; decide) (by rw [hRm]; exact ⟨by (show _ ≤ 603072); omega, by (show _ ≤ 7182442); omega⟩) (fun v2 M2 h2 => ?_) (fun E9 M9 h9 => by have := h9.1.trans e2; cases this)
  obtain ⟨g2, hMR2, hF2⟩ := h2
  have g2 := g2.trans e2
  cases g2
  refine g_icmp_eq (tgt := 2980) X dL_law_734 (by decide) (fun _ => ?_) (fun h => absurd rfl h)
  exact k9 _ ⟨D.b hBR1 hF2, hMR2, ⟨fo, D.oM (D.oA ho hF1) hF2⟩, ⟨fd, D.odM (D.odA hod hF1) hF2⟩⟩
set_option maxRecDepth 100000 in
set_option maxHeartbeats 4000000 in
theorem lc_wardWeight {κ : KT} {tab : List ExceptionTableEntry} {nm : String} {M : Hp} {cells slots : Nat} {sb Ls o od i : Nat} {xs : Nat → Int32} {A a : Nat → Nat} (X : Cx κ RL cL_law (some .boolean) tab nm) (hl : κ.l.stackTraces = false) (hnL : κ.nL = 9) (hRm : κ.R = room_1) (D : LD κ sb Ls xs A a o od) {w : PV} {u : HV} (hW : LW κ A a o od w u M) (hG : LG w u) (hi : i + 3 < Ls) (hc : cells + 3 ≤ 603072) (hs : slots + 18 ≤ 7182442) (hS : SmV isI [eIdx] (pWardWeight w (xs (i + 1))) (mWardWeight u (xs (i + 1)))) (k9 : ∀ M', LW κ A a o od (pWardWeight w (xs (i + 1))).2 (mWardWeight u (xs (i + 1))).2 M' → G κ M' (cells + 3) (slots + 18) (LL sb A a o od i) 2980 []) : G κ M cells slots (LL sb A a o od i) 739 [] := by
  obtain ⟨hBR, hMR, ⟨fo, ho⟩, ⟨fd, hod⟩⟩ := hW
  refine g_aload_n X dL_law_739 rfl 4 rfl ?_
  refine g_arg X D 1 5 0 dL_law_740 dL_law_741 dL_law_743 dL_law_744 dL_law_745 (by decide) rfl rfl (by omega) ?_
  refine g_aload_n X dL_law_746 rfl 2 rfl ?_
  refine g_callSX (As := [.ref (A 313), .int (xs (i + 1)), .ref o]) X dL_law_747 (c_L_wardWeight κ.l hl κ.Γ M A w hBR hG.1 (xs (i + 1))  o fo ho D.2.2.1.1 hS.inn) k553 k554 k0 k555 ⟨by decide, by decide, (show (parseMethodDescriptor yL_wardWeight.desc).map (fun d => d.parameters.length) = some 3 by decide +kernel)⟩ rfl (Nat.le_of_ble_eq_true rfl) (by rw [hRm]; decide) (by rw [hRm]; exact ⟨by (show _ ≤ 603072); omega, by (show _ ≤ 7182442); omega⟩) (fun v1 M1 h1 => ?_) (fun E9 M9 h9 => ?_)
  rotate_left
  · obtain ⟨f1, -, -, -, hA1⟩ := h9
    obtain ⟨k1, z1, -, e1, -, -, -⟩ := hS.ans hA1 (by decide +kernel) (by decide)
    cases e1
  obtain ⟨f1, hBR1, ho1, hF1, hA1⟩ := h1
  obtain ⟨k1, z1, ⟨n1, rfl⟩, e1, e2, e3, e4⟩ := hS.ans hA1 (by decide +kernel) (by decide)
  cases e1
  have hMR1 := D.m hMR hF1
  have hx1 := D.odW hod hF1
  refine g_istore (L' := [(6, .int k1), (5, .int (nI i)), (4, .ref od), (3, .ref o), (2, .ref (a 0)), (1, .ref (A 313)), (0, .ref sb)]) X dL_law_750 (by rw [hnL]; decide) rfl ?_
  refine g_aload_n X dL_law_752 rfl 4 rfl ?_
  refine g_arg X D 1 6 1 dL_law_753 dL_law_754 dL_law_756 dL_law_757 dL_law_758 (by decide) rfl rfl (by omega) ?_
  refine g_callV (As := [.int (xs (i + 1))]) (ci := 4) X dL_law_759 (c_X4_wardWeight κ.l hl κ.Γ M1 a u hMR1 (xs (i + 1)) hG.2.1) k1236 k1237 k1238 k5 k1239 rfl (MRep.obj hMR1) ⟨rfl, by decide, by decide, (show (parseMethodDescriptor yX4_wardWeight.desc).map (fun d => d.parameters.length) = some 1 by decide +kernel)⟩ rfl (Nat.le_of_ble_eq_true rfl) (by rw [hRm]; decide) (by rw [hRm]; exact ⟨by (show _ ≤ 603072); omega, by (show _ ≤ 7182442); omega⟩) (fun v2 M2 h2 => ?_) (fun E9 M9 h9 => by have := h9.1.trans e2; cases this)
  obtain ⟨g2, hMR2, hF2⟩ := h2
  have g2 := g2.trans e2
  cases g2
  refine g_istore (L' := [(7, .int n1), (6, .int k1), (5, .int (nI i)), (4, .ref od), (3, .ref o), (2, .ref (a 0)), (1, .ref (A 313)), (0, .ref sb)]) X dL_law_762 (by rw [hnL]; decide) rfl ?_
  refine g_aload_n X dL_law_764 rfl 5 rfl ?_
  refine g_callV_rd (As := []) (ci := 4) (v := some (.int ((mWardWeight u (xs (i + 1))).2.1 0))) X dL_law_765 (c_X4_thrown κ.l hl κ.Γ M2 a _ hMR2) k1150 k1151 k1152 k5 k1153 rfl (MRep.obj hMR2) ⟨rfl, by decide, by decide, (show (parseMethodDescriptor yX4_thrown.desc).map (fun d => d.parameters.length) = some 0 by decide +kernel)⟩ rfl (Nat.le_of_ble_eq_true rfl) (by rw [hRm]; decide) (by rw [hRm]; exact ⟨by (show _ ≤ 603072); omega, by (show _ ≤ 7182442); omega⟩) ?_
  refine g_lit (y := k1) e3 ?_
  refine g_iload X dL_law_768 1 rfl ?_
  refine g_icmp_eq (tgt := 775) X dL_law_770 (by decide) (fun _ => ?_) (fun h => absurd rfl h)
  refine g_iload X dL_law_775 1 rfl ?_
  have hW2 : LW κ A a o od (pWardWeight w (xs (i + 1))).2 (mWardWeight u (xs (i + 1))).2 M2 := ⟨D.b hBR1 hF2, hMR2, ⟨f1, D.oM ho1 hF2⟩, ⟨fd, D.odM hx1 hF2⟩⟩
  have kE : G κ M2 (cells + 3) (slots + 18) [(7, .int n1), (6, .int k1), (5, .int (nI i)), (4, .ref od), (3, .ref o), (2, .ref (a 0)), (1, .ref (A 313)), (0, .ref sb)] 792 [] := by
    refine g_goto (tgt := 2980) X dL_law_792 (by decide) ?_
    refine g_locs [2, 3, 4, 5, 6, 7] (L' := LL sb A a o od i) rfl ?_
    exact k9 _ hW2
  refine g_if_ne (tgt := 792) X dL_law_777 (by decide) (fun _ => kE) (fun z0 => ?_)
  have e5 := e4 z0
  refine g_aload_n X dL_law_780 rfl 4 rfl ?_
  refine g_iconst (v := 0) X dL_law_781 (by decide) ?_
  refine g_laload X dL_law_782 (D.oM ho1 hF2) vin01 ?_
  show G κ M2 _ _ _ _ (.long (f1 0) :: _)
  refine g_iload X dL_law_783 0 rfl ?_
  refine g_i2l X dL_law_785 ?_
  refine g_lcmp0 X dL_law_786 e5 ?_
  exact g_if_eq (tgt := 792) X dL_law_787 (by decide) (fun _ => kE) (fun h => absurd rfl h)
set_option maxRecDepth 100000 in
set_option maxHeartbeats 4000000 in
theorem lc_strongestWard {κ : KT} {tab : List ExceptionTableEntry} {nm : String} {M : Hp} {cells slots : Nat} {sb Ls o od i : Nat} {xs : Nat → Int32} {A a : Nat → Nat} (X : Cx κ RL cL_law (some .boolean) tab nm) (hl : κ.l.stackTraces = false) (hnL : κ.nL = 9) (hRm : κ.R = room_1) (D : LD κ sb Ls xs A a o od) {w : PV} {u : HV} (hW : LW κ A a o od w u M) (hG : LG w u) (hi : i + 3 < Ls) (hc : cells + 3 ≤ 603072) (hs : slots + 18 ≤ 7182442) (hS : SmQ (pStrongestWard w) (mStrongestWard u)) (k9 : ∀ M', LW κ A a o od (pStrongestWard w).2 (mStrongestWard u).2 M' → G κ M' (cells + 3) (slots + 18) (LL sb A a o od i) 2980 []) : G κ M cells slots (LL sb A a o od i) 795 [] := by
  obtain ⟨hBR, hMR, ⟨fo, ho⟩, ⟨fd, hod⟩⟩ := hW
  obtain ⟨z1, e1, e2⟩ := hS
  refine g_aload_n X dL_law_795 rfl 4 rfl ?_
  refine g_callV (As := []) (ci := 3) X dL_law_796 (c_X3_strongestWard κ.l hl κ.Γ M A w hBR hG.1) k214 k215 k216 k1 k217 rfl (BRep.obj hBR) ⟨rfl, by decide, by decide, (show (parseMethodDescriptor yX3_strongestWard.desc).map (fun d => d.parameters.length) = some 0 by decide +kernel)⟩ rfl (Nat.le_of_ble_eq_true rfl) (by rw [hRm]; decide) (by rw [hRm]; exact ⟨by (show _ ≤ 603072); omega, by (show _ ≤ 7182442); omega⟩) (fun v1 M1 h1 => ?_) (fun E9 M9 h9 => by have := h9.1.trans e1; cases this)
  obtain ⟨g1, hBR1, hF1⟩ := h1
  have g1 := g1.trans e1
  cases g1
  have hMR1 := D.m2 hMR hF1
  refine g_aload_n X dL_law_799 rfl 3 rfl ?_
  refine g_callV (As := []) (ci := 4) X dL_law_800 (c_X4_strongestWard κ.l hl κ.Γ M1 a u hMR1 hG.2.1) k1244 k1245 k1246 k5 k1247 rfl (MRep.obj hMR1) ⟨rfl, by decide, by decide, (show (parseMethodDescriptor yX4_strongestWard.desc).map (fun d => d.parameters.length) = some 0 by decide +kernel)⟩ rfl (Nat.le_of_ble_eq_true rfl) (by rw [hRm]; decide) (by rw [hRm]; exact ⟨by (show _ ≤ 603072); omega, by (show _ ≤ 7182442); omega⟩) (fun v2 M2 h2 => ?_) (fun E9 M9 h9 => by have := h9.1.trans e2; cases this)
  obtain ⟨g2, hMR2, hF2⟩ := h2
  have g2 := g2.trans e2
  cases g2
  refine g_icmp_eq (tgt := 2980) X dL_law_803 (by decide) (fun _ => ?_) (fun h => absurd rfl h)
  exact k9 _ ⟨D.b hBR1 hF2, hMR2, ⟨fo, D.oM (D.oA ho hF1) hF2⟩, ⟨fd, D.odM (D.odA hod hF1) hF2⟩⟩
set_option maxRecDepth 100000 in
set_option maxHeartbeats 4000000 in
theorem lc_introduce {κ : KT} {tab : List ExceptionTableEntry} {nm : String} {M : Hp} {cells slots : Nat} {sb Ls o od i : Nat} {xs : Nat → Int32} {A a : Nat → Nat} (X : Cx κ RL cL_law (some .boolean) tab nm) (hl : κ.l.stackTraces = false) (hnL : κ.nL = 9) (hRm : κ.R = room_1) (D : LD κ sb Ls xs A a o od) {w : PV} {u : HV} (hW : LW κ A a o od w u M) (hG : LG w u) (hi : i + 3 < Ls) (hc : cells + 3 ≤ 603072) (hs : slots + 18 ≤ 7182442) (hS : SmV isI [eIdx, eArg, eSta, eUns] (pIntroduce w (xs (i + 1)) (xs (i + 2)) (xs (i + 3))) (mIntroduce u (xs (i + 1)) (xs (i + 2)) (xs (i + 3)))) (k9 : ∀ M', LW κ A a o od (pIntroduce w (xs (i + 1)) (xs (i + 2)) (xs (i + 3))).2 (mIntroduce u (xs (i + 1)) (xs (i + 2)) (xs (i + 3))).2 M' → G κ M' (cells + 3) (slots + 18) (LL sb A a o od i) 2980 []) : G κ M cells slots (LL sb A a o od i) 808 [] := by
  obtain ⟨hBR, hMR, ⟨fo, ho⟩, ⟨fd, hod⟩⟩ := hW
  refine g_aload_n X dL_law_808 rfl 4 rfl ?_
  refine g_arg X D 1 5 0 dL_law_809 dL_law_810 dL_law_812 dL_law_813 dL_law_814 (by decide) rfl rfl (by omega) ?_
  refine g_arg X D 2 5 0 dL_law_815 dL_law_816 dL_law_818 dL_law_819 dL_law_820 (by decide) rfl rfl (by omega) ?_
  refine g_arg X D 3 5 0 dL_law_821 dL_law_822 dL_law_824 dL_law_825 dL_law_826 (by decide) rfl rfl (by omega) ?_
  refine g_aload_n X dL_law_827 rfl 2 rfl ?_
  refine g_callSX (As := [.ref (A 313), .int (xs (i + 1)), .int (xs (i + 2)), .int (xs (i + 3)), .ref o]) X dL_law_828 (c_L_introduce κ.l hl κ.Γ M A w hBR hG.1 (xs (i + 1)) (xs (i + 2)) (xs (i + 3))  o fo ho D.2.2.1.1 hS.inn) k561 k562 k0 k563 ⟨by decide, by decide, (show (parseMethodDescriptor yL_introduce.desc).map (fun d => d.parameters.length) = some 5 by decide +kernel)⟩ rfl (Nat.le_of_ble_eq_true rfl) (by rw [hRm]; decide) (by rw [hRm]; exact ⟨by (show _ ≤ 603072); omega, by (show _ ≤ 7182442); omega⟩) (fun v1 M1 h1 => ?_) (fun E9 M9 h9 => ?_)
  rotate_left
  · obtain ⟨f1, -, -, -, hA1⟩ := h9
    obtain ⟨k1, z1, -, e1, -, -, -⟩ := hS.ans hA1 (by decide +kernel) (by decide)
    cases e1
  obtain ⟨f1, hBR1, ho1, hF1, hA1⟩ := h1
  obtain ⟨k1, z1, ⟨n1, rfl⟩, e1, e2, e3, e4⟩ := hS.ans hA1 (by decide +kernel) (by decide)
  cases e1
  have hMR1 := D.m hMR hF1
  have hx1 := D.odW hod hF1
  refine g_istore (L' := [(6, .int k1), (5, .int (nI i)), (4, .ref od), (3, .ref o), (2, .ref (a 0)), (1, .ref (A 313)), (0, .ref sb)]) X dL_law_831 (by rw [hnL]; decide) rfl ?_
  refine g_aload_n X dL_law_833 rfl 4 rfl ?_
  refine g_arg X D 1 6 1 dL_law_834 dL_law_835 dL_law_837 dL_law_838 dL_law_839 (by decide) rfl rfl (by omega) ?_
  refine g_arg X D 2 6 1 dL_law_840 dL_law_841 dL_law_843 dL_law_844 dL_law_845 (by decide) rfl rfl (by omega) ?_
  refine g_arg X D 3 6 1 dL_law_846 dL_law_847 dL_law_849 dL_law_850 dL_law_851 (by decide) rfl rfl (by omega) ?_
  refine g_callV (As := [.int (xs (i + 1)), .int (xs (i + 2)), .int (xs (i + 3))]) (ci := 4) X dL_law_852 (c_X4_introduce κ.l hl κ.Γ M1 a u hMR1 (xs (i + 1)) (xs (i + 2)) (xs (i + 3)) hG.2.1 hG.2.2.1) k1248 k1249 k1250 k5 k1251 rfl (MRep.obj hMR1) ⟨rfl, by decide, by decide, (show (parseMethodDescriptor yX4_introduce.desc).map (fun d => d.parameters.length) = some 3 by decide +kernel)⟩ rfl (Nat.le_of_ble_eq_true rfl) (by rw [hRm]; decide) (by rw [hRm]; exact ⟨by (show _ ≤ 603072); omega, by (show _ ≤ 7182442); omega⟩) (fun v2 M2 h2 => ?_) (fun E9 M9 h9 => by have := h9.1.trans e2; cases this)
  obtain ⟨g2, hMR2, hF2⟩ := h2
  have g2 := g2.trans e2
  cases g2
  refine g_istore (L' := [(7, .int n1), (6, .int k1), (5, .int (nI i)), (4, .ref od), (3, .ref o), (2, .ref (a 0)), (1, .ref (A 313)), (0, .ref sb)]) X dL_law_855 (by rw [hnL]; decide) rfl ?_
  refine g_aload_n X dL_law_857 rfl 5 rfl ?_
  refine g_callV_rd (As := []) (ci := 4) (v := some (.int ((mIntroduce u (xs (i + 1)) (xs (i + 2)) (xs (i + 3))).2.1 0))) X dL_law_858 (c_X4_thrown κ.l hl κ.Γ M2 a _ hMR2) k1150 k1151 k1152 k5 k1153 rfl (MRep.obj hMR2) ⟨rfl, by decide, by decide, (show (parseMethodDescriptor yX4_thrown.desc).map (fun d => d.parameters.length) = some 0 by decide +kernel)⟩ rfl (Nat.le_of_ble_eq_true rfl) (by rw [hRm]; decide) (by rw [hRm]; exact ⟨by (show _ ≤ 603072); omega, by (show _ ≤ 7182442); omega⟩) ?_
  refine g_lit (y := k1) e3 ?_
  refine g_iload X dL_law_861 1 rfl ?_
  refine g_icmp_eq (tgt := 868) X dL_law_863 (by decide) (fun _ => ?_) (fun h => absurd rfl h)
  refine g_iload X dL_law_868 1 rfl ?_
  have hW2 : LW κ A a o od (pIntroduce w (xs (i + 1)) (xs (i + 2)) (xs (i + 3))).2 (mIntroduce u (xs (i + 1)) (xs (i + 2)) (xs (i + 3))).2 M2 := ⟨D.b hBR1 hF2, hMR2, ⟨f1, D.oM ho1 hF2⟩, ⟨fd, D.odM hx1 hF2⟩⟩
  have kE : G κ M2 (cells + 3) (slots + 18) [(7, .int n1), (6, .int k1), (5, .int (nI i)), (4, .ref od), (3, .ref o), (2, .ref (a 0)), (1, .ref (A 313)), (0, .ref sb)] 885 [] := by
    refine g_goto (tgt := 2980) X dL_law_885 (by decide) ?_
    refine g_locs [2, 3, 4, 5, 6, 7] (L' := LL sb A a o od i) rfl ?_
    exact k9 _ hW2
  refine g_if_ne (tgt := 885) X dL_law_870 (by decide) (fun _ => kE) (fun z0 => ?_)
  have e5 := e4 z0
  refine g_aload_n X dL_law_873 rfl 4 rfl ?_
  refine g_iconst (v := 0) X dL_law_874 (by decide) ?_
  refine g_laload X dL_law_875 (D.oM ho1 hF2) vin01 ?_
  show G κ M2 _ _ _ _ (.long (f1 0) :: _)
  refine g_iload X dL_law_876 0 rfl ?_
  refine g_i2l X dL_law_878 ?_
  refine g_lcmp0 X dL_law_879 e5 ?_
  exact g_if_eq (tgt := 885) X dL_law_880 (by decide) (fun _ => kE) (fun h => absurd rfl h)
set_option maxRecDepth 100000 in
set_option maxHeartbeats 4000000 in
theorem lc_billCount {κ : KT} {tab : List ExceptionTableEntry} {nm : String} {M : Hp} {cells slots : Nat} {sb Ls o od i : Nat} {xs : Nat → Int32} {A a : Nat → Nat} (X : Cx κ RL cL_law (some .boolean) tab nm) (hl : κ.l.stackTraces = false) (hnL : κ.nL = 9) (hRm : κ.R = room_1) (D : LD κ sb Ls xs A a o od) {w : PV} {u : HV} (hW : LW κ A a o od w u M) (hG : LG w u) (hi : i + 3 < Ls) (hc : cells + 3 ≤ 603072) (hs : slots + 18 ≤ 7182442) (hS : SmQ (pBillCount w) (mBillCount u)) (k9 : ∀ M', LW κ A a o od (pBillCount w).2 (mBillCount u).2 M' → G κ M' (cells + 3) (slots + 18) (LL sb A a o od i) 2980 []) : G κ M cells slots (LL sb A a o od i) 888 [] := by
  obtain ⟨hBR, hMR, ⟨fo, ho⟩, ⟨fd, hod⟩⟩ := hW
  obtain ⟨z1, e1, e2⟩ := hS
  refine g_aload_n X dL_law_888 rfl 4 rfl ?_
  refine g_callV (As := []) (ci := 3) X dL_law_889 (c_X3_billCount κ.l hl κ.Γ M A w hBR hG.1) k226 k227 k228 k1 k229 rfl (BRep.obj hBR) ⟨rfl, by decide, by decide, (show (parseMethodDescriptor yX3_billCount.desc).map (fun d => d.parameters.length) = some 0 by decide +kernel)⟩ rfl (Nat.le_of_ble_eq_true rfl) (by rw [hRm]; decide) (by rw [hRm]; exact ⟨by (show _ ≤ 603072); omega, by (show _ ≤ 7182442); omega⟩) (fun v1 M1 h1 => ?_) (fun E9 M9 h9 => by have := h9.1.trans e1; cases this)
  obtain ⟨g1, hBR1, hF1⟩ := h1
  have g1 := g1.trans e1
  cases g1
  have hMR1 := D.m2 hMR hF1
  refine g_aload_n X dL_law_892 rfl 3 rfl ?_
  refine g_callV (As := []) (ci := 4) X dL_law_893 (c_X4_billCount κ.l hl κ.Γ M1 a u hMR1 ) k1267 k1268 k1269 k5 k1270 rfl (MRep.obj hMR1) ⟨rfl, by decide, by decide, (show (parseMethodDescriptor yX4_billCount.desc).map (fun d => d.parameters.length) = some 0 by decide +kernel)⟩ rfl (Nat.le_of_ble_eq_true rfl) (by rw [hRm]; decide) (by rw [hRm]; exact ⟨by (show _ ≤ 603072); omega, by (show _ ≤ 7182442); omega⟩) (fun v2 M2 h2 => ?_) (fun E9 M9 h9 => by have := h9.1.trans e2; cases this)
  obtain ⟨g2, hMR2, hF2⟩ := h2
  have g2 := g2.trans e2
  cases g2
  refine g_icmp_eq (tgt := 2980) X dL_law_896 (by decide) (fun _ => ?_) (fun h => absurd rfl h)
  exact k9 _ ⟨D.b hBR1 hF2, hMR2, ⟨fo, D.oM (D.oA ho hF1) hF2⟩, ⟨fd, D.odM (D.odA hod hF1) hF2⟩⟩
set_option maxRecDepth 100000 in
set_option maxHeartbeats 4000000 in
theorem lc_isOpen {κ : KT} {tab : List ExceptionTableEntry} {nm : String} {M : Hp} {cells slots : Nat} {sb Ls o od i : Nat} {xs : Nat → Int32} {A a : Nat → Nat} (X : Cx κ RL cL_law (some .boolean) tab nm) (hl : κ.l.stackTraces = false) (hnL : κ.nL = 9) (hRm : κ.R = room_1) (D : LD κ sb Ls xs A a o od) {w : PV} {u : HV} (hW : LW κ A a o od w u M) (hG : LG w u) (hi : i + 3 < Ls) (hc : cells + 3 ≤ 603072) (hs : slots + 18 ≤ 7182442) (hS : SmV isI [eIdx] (pIsOpen w (xs (i + 1))) (mIsOpen u (xs (i + 1)))) (k9 : ∀ M', LW κ A a o od (pIsOpen w (xs (i + 1))).2 (mIsOpen u (xs (i + 1))).2 M' → G κ M' (cells + 3) (slots + 18) (LL sb A a o od i) 2980 []) : G κ M cells slots (LL sb A a o od i) 901 [] := by
  obtain ⟨hBR, hMR, ⟨fo, ho⟩, ⟨fd, hod⟩⟩ := hW
  refine g_aload_n X dL_law_901 rfl 4 rfl ?_
  refine g_arg X D 1 5 0 dL_law_902 dL_law_903 dL_law_905 dL_law_906 dL_law_907 (by decide) rfl rfl (by omega) ?_
  refine g_aload_n X dL_law_908 rfl 2 rfl ?_
  refine g_callSX (As := [.ref (A 313), .int (xs (i + 1)), .ref o]) X dL_law_909 (c_L_isOpen κ.l hl κ.Γ M A w hBR hG.1 (xs (i + 1))  o fo ho D.2.2.1.1 hS.inn) k581 k582 k0 k583 ⟨by decide, by decide, (show (parseMethodDescriptor yL_isOpen.desc).map (fun d => d.parameters.length) = some 3 by decide +kernel)⟩ rfl (Nat.le_of_ble_eq_true rfl) (by rw [hRm]; decide) (by rw [hRm]; exact ⟨by (show _ ≤ 603072); omega, by (show _ ≤ 7182442); omega⟩) (fun v1 M1 h1 => ?_) (fun E9 M9 h9 => ?_)
  rotate_left
  · obtain ⟨f1, -, -, -, hA1⟩ := h9
    obtain ⟨k1, z1, -, e1, -, -, -⟩ := hS.ans hA1 (by decide +kernel) (by decide)
    cases e1
  obtain ⟨f1, hBR1, ho1, hF1, hA1⟩ := h1
  obtain ⟨k1, z1, ⟨n1, rfl⟩, e1, e2, e3, e4⟩ := hS.ans hA1 (by decide +kernel) (by decide)
  cases e1
  have hMR1 := D.m hMR hF1
  have hx1 := D.odW hod hF1
  refine g_istore (L' := [(6, .int k1), (5, .int (nI i)), (4, .ref od), (3, .ref o), (2, .ref (a 0)), (1, .ref (A 313)), (0, .ref sb)]) X dL_law_912 (by rw [hnL]; decide) rfl ?_
  refine g_aload_n X dL_law_914 rfl 4 rfl ?_
  refine g_arg X D 1 6 1 dL_law_915 dL_law_916 dL_law_918 dL_law_919 dL_law_920 (by decide) rfl rfl (by omega) ?_
  refine g_callV (As := [.int (xs (i + 1))]) (ci := 4) X dL_law_921 (c_X4_isOpen κ.l hl κ.Γ M1 a u hMR1 (xs (i + 1)) hG.2.1) k1271 k1272 k1273 k5 k1274 rfl (MRep.obj hMR1) ⟨rfl, by decide, by decide, (show (parseMethodDescriptor yX4_isOpen.desc).map (fun d => d.parameters.length) = some 1 by decide +kernel)⟩ rfl (Nat.le_of_ble_eq_true rfl) (by rw [hRm]; decide) (by rw [hRm]; exact ⟨by (show _ ≤ 603072); omega, by (show _ ≤ 7182442); omega⟩) (fun v2 M2 h2 => ?_) (fun E9 M9 h9 => by have := h9.1.trans e2; cases this)
  obtain ⟨g2, hMR2, hF2⟩ := h2
  have g2 := g2.trans e2
  cases g2
  refine g_istore (L' := [(7, .int n1), (6, .int k1), (5, .int (nI i)), (4, .ref od), (3, .ref o), (2, .ref (a 0)), (1, .ref (A 313)), (0, .ref sb)]) X dL_law_924 (by rw [hnL]; decide) rfl ?_
  refine g_aload_n X dL_law_926 rfl 5 rfl ?_
  refine g_callV_rd (As := []) (ci := 4) (v := some (.int ((mIsOpen u (xs (i + 1))).2.1 0))) X dL_law_927 (c_X4_thrown κ.l hl κ.Γ M2 a _ hMR2) k1150 k1151 k1152 k5 k1153 rfl (MRep.obj hMR2) ⟨rfl, by decide, by decide, (show (parseMethodDescriptor yX4_thrown.desc).map (fun d => d.parameters.length) = some 0 by decide +kernel)⟩ rfl (Nat.le_of_ble_eq_true rfl) (by rw [hRm]; decide) (by rw [hRm]; exact ⟨by (show _ ≤ 603072); omega, by (show _ ≤ 7182442); omega⟩) ?_
  refine g_lit (y := k1) e3 ?_
  refine g_iload X dL_law_930 1 rfl ?_
  refine g_icmp_eq (tgt := 937) X dL_law_932 (by decide) (fun _ => ?_) (fun h => absurd rfl h)
  refine g_iload X dL_law_937 1 rfl ?_
  have hW2 : LW κ A a o od (pIsOpen w (xs (i + 1))).2 (mIsOpen u (xs (i + 1))).2 M2 := ⟨D.b hBR1 hF2, hMR2, ⟨f1, D.oM ho1 hF2⟩, ⟨fd, D.odM hx1 hF2⟩⟩
  have kE : G κ M2 (cells + 3) (slots + 18) [(7, .int n1), (6, .int k1), (5, .int (nI i)), (4, .ref od), (3, .ref o), (2, .ref (a 0)), (1, .ref (A 313)), (0, .ref sb)] 961 [] := by
    refine g_goto (tgt := 2980) X dL_law_961 (by decide) ?_
    refine g_locs [2, 3, 4, 5, 6, 7] (L' := LL sb A a o od i) rfl ?_
    exact k9 _ hW2
  refine g_if_ne (tgt := 961) X dL_law_939 (by decide) (fun _ => kE) (fun z0 => ?_)
  have e5 := e4 z0
  refine g_aload_n X dL_law_942 rfl 4 rfl ?_
  refine g_iconst (v := 0) X dL_law_943 (by decide) ?_
  refine g_laload X dL_law_944 (D.oM ho1 hF2) vin01 ?_
  show G κ M2 _ _ _ _ (.long (f1 0) :: _)
  refine g_iload X dL_law_945 0 rfl ?_
  refine g_if_eq (tgt := 954) X dL_law_947 (by decide) (fun y0 => ?_) (fun y0 => ?_)
  · refine g_lconst (v := 0) X dL_law_954 rfl ?_
    refine g_lcmp0 X dL_law_955 (e5.trans (if_pos y0)) ?_
    exact g_if_eq (tgt := 961) X dL_law_956 (by decide) (fun _ => kE) (fun h => absurd rfl h)
  · refine g_lconst (v := 1) X dL_law_950 rfl ?_
    refine g_goto (tgt := 955) X dL_law_951 (by decide) ?_
    refine g_lcmp0 X dL_law_955 (e5.trans (if_neg y0)) ?_
    exact g_if_eq (tgt := 961) X dL_law_956 (by decide) (fun _ => kE) (fun h => absurd rfl h)
set_option maxRecDepth 100000 in
set_option maxHeartbeats 4000000 in
theorem lc_isPassed {κ : KT} {tab : List ExceptionTableEntry} {nm : String} {M : Hp} {cells slots : Nat} {sb Ls o od i : Nat} {xs : Nat → Int32} {A a : Nat → Nat} (X : Cx κ RL cL_law (some .boolean) tab nm) (hl : κ.l.stackTraces = false) (hnL : κ.nL = 9) (hRm : κ.R = room_1) (D : LD κ sb Ls xs A a o od) {w : PV} {u : HV} (hW : LW κ A a o od w u M) (hG : LG w u) (hi : i + 3 < Ls) (hc : cells + 3 ≤ 603072) (hs : slots + 18 ≤ 7182442) (hS : SmV isI [eIdx] (pIsPassed w (xs (i + 1))) (mIsPassed u (xs (i + 1)))) (k9 : ∀ M', LW κ A a o od (pIsPassed w (xs (i + 1))).2 (mIsPassed u (xs (i + 1))).2 M' → G κ M' (cells + 3) (slots + 18) (LL sb A a o od i) 2980 []) : G κ M cells slots (LL sb A a o od i) 964 [] := by
  obtain ⟨hBR, hMR, ⟨fo, ho⟩, ⟨fd, hod⟩⟩ := hW
  refine g_aload_n X dL_law_964 rfl 4 rfl ?_
  refine g_arg X D 1 5 0 dL_law_965 dL_law_966 dL_law_968 dL_law_969 dL_law_970 (by decide) rfl rfl (by omega) ?_
  refine g_aload_n X dL_law_971 rfl 2 rfl ?_
  refine g_callSX (As := [.ref (A 313), .int (xs (i + 1)), .ref o]) X dL_law_972 (c_L_isPassed κ.l hl κ.Γ M A w hBR hG.1 (xs (i + 1))  o fo ho D.2.2.1.1 hS.inn) k596 k597 k0 k598 ⟨by decide, by decide, (show (parseMethodDescriptor yL_isPassed.desc).map (fun d => d.parameters.length) = some 3 by decide +kernel)⟩ rfl (Nat.le_of_ble_eq_true rfl) (by rw [hRm]; decide) (by rw [hRm]; exact ⟨by (show _ ≤ 603072); omega, by (show _ ≤ 7182442); omega⟩) (fun v1 M1 h1 => ?_) (fun E9 M9 h9 => ?_)
  rotate_left
  · obtain ⟨f1, -, -, -, hA1⟩ := h9
    obtain ⟨k1, z1, -, e1, -, -, -⟩ := hS.ans hA1 (by decide +kernel) (by decide)
    cases e1
  obtain ⟨f1, hBR1, ho1, hF1, hA1⟩ := h1
  obtain ⟨k1, z1, ⟨n1, rfl⟩, e1, e2, e3, e4⟩ := hS.ans hA1 (by decide +kernel) (by decide)
  cases e1
  have hMR1 := D.m hMR hF1
  have hx1 := D.odW hod hF1
  refine g_istore (L' := [(6, .int k1), (5, .int (nI i)), (4, .ref od), (3, .ref o), (2, .ref (a 0)), (1, .ref (A 313)), (0, .ref sb)]) X dL_law_975 (by rw [hnL]; decide) rfl ?_
  refine g_aload_n X dL_law_977 rfl 4 rfl ?_
  refine g_arg X D 1 6 1 dL_law_978 dL_law_979 dL_law_981 dL_law_982 dL_law_983 (by decide) rfl rfl (by omega) ?_
  refine g_callV (As := [.int (xs (i + 1))]) (ci := 4) X dL_law_984 (c_X4_isPassed κ.l hl κ.Γ M1 a u hMR1 (xs (i + 1)) hG.2.1) k1279 k1280 k1281 k5 k1282 rfl (MRep.obj hMR1) ⟨rfl, by decide, by decide, (show (parseMethodDescriptor yX4_isPassed.desc).map (fun d => d.parameters.length) = some 1 by decide +kernel)⟩ rfl (Nat.le_of_ble_eq_true rfl) (by rw [hRm]; decide) (by rw [hRm]; exact ⟨by (show _ ≤ 603072); omega, by (show _ ≤ 7182442); omega⟩) (fun v2 M2 h2 => ?_) (fun E9 M9 h9 => by have := h9.1.trans e2; cases this)
  obtain ⟨g2, hMR2, hF2⟩ := h2
  have g2 := g2.trans e2
  cases g2
  refine g_istore (L' := [(7, .int n1), (6, .int k1), (5, .int (nI i)), (4, .ref od), (3, .ref o), (2, .ref (a 0)), (1, .ref (A 313)), (0, .ref sb)]) X dL_law_987 (by rw [hnL]; decide) rfl ?_
  refine g_aload_n X dL_law_989 rfl 5 rfl ?_
  refine g_callV_rd (As := []) (ci := 4) (v := some (.int ((mIsPassed u (xs (i + 1))).2.1 0))) X dL_law_990 (c_X4_thrown κ.l hl κ.Γ M2 a _ hMR2) k1150 k1151 k1152 k5 k1153 rfl (MRep.obj hMR2) ⟨rfl, by decide, by decide, (show (parseMethodDescriptor yX4_thrown.desc).map (fun d => d.parameters.length) = some 0 by decide +kernel)⟩ rfl (Nat.le_of_ble_eq_true rfl) (by rw [hRm]; decide) (by rw [hRm]; exact ⟨by (show _ ≤ 603072); omega, by (show _ ≤ 7182442); omega⟩) ?_
  refine g_lit (y := k1) e3 ?_
  refine g_iload X dL_law_993 1 rfl ?_
  refine g_icmp_eq (tgt := 1000) X dL_law_995 (by decide) (fun _ => ?_) (fun h => absurd rfl h)
  refine g_iload X dL_law_1000 1 rfl ?_
  have hW2 : LW κ A a o od (pIsPassed w (xs (i + 1))).2 (mIsPassed u (xs (i + 1))).2 M2 := ⟨D.b hBR1 hF2, hMR2, ⟨f1, D.oM ho1 hF2⟩, ⟨fd, D.odM hx1 hF2⟩⟩
  have kE : G κ M2 (cells + 3) (slots + 18) [(7, .int n1), (6, .int k1), (5, .int (nI i)), (4, .ref od), (3, .ref o), (2, .ref (a 0)), (1, .ref (A 313)), (0, .ref sb)] 1024 [] := by
    refine g_goto (tgt := 2980) X dL_law_1024 (by decide) ?_
    refine g_locs [2, 3, 4, 5, 6, 7] (L' := LL sb A a o od i) rfl ?_
    exact k9 _ hW2
  refine g_if_ne (tgt := 1024) X dL_law_1002 (by decide) (fun _ => kE) (fun z0 => ?_)
  have e5 := e4 z0
  refine g_aload_n X dL_law_1005 rfl 4 rfl ?_
  refine g_iconst (v := 0) X dL_law_1006 (by decide) ?_
  refine g_laload X dL_law_1007 (D.oM ho1 hF2) vin01 ?_
  show G κ M2 _ _ _ _ (.long (f1 0) :: _)
  refine g_iload X dL_law_1008 0 rfl ?_
  refine g_if_eq (tgt := 1017) X dL_law_1010 (by decide) (fun y0 => ?_) (fun y0 => ?_)
  · refine g_lconst (v := 0) X dL_law_1017 rfl ?_
    refine g_lcmp0 X dL_law_1018 (e5.trans (if_pos y0)) ?_
    exact g_if_eq (tgt := 1024) X dL_law_1019 (by decide) (fun _ => kE) (fun h => absurd rfl h)
  · refine g_lconst (v := 1) X dL_law_1013 rfl ?_
    refine g_goto (tgt := 1018) X dL_law_1014 (by decide) ?_
    refine g_lcmp0 X dL_law_1018 (e5.trans (if_neg y0)) ?_
    exact g_if_eq (tgt := 1024) X dL_law_1019 (by decide) (fun _ => kE) (fun h => absurd rfl h)
set_option maxRecDepth 100000 in
set_option maxHeartbeats 4000000 in
theorem lc_readings {κ : KT} {tab : List ExceptionTableEntry} {nm : String} {M : Hp} {cells slots : Nat} {sb Ls o od i : Nat} {xs : Nat → Int32} {A a : Nat → Nat} (X : Cx κ RL cL_law (some .boolean) tab nm) (hl : κ.l.stackTraces = false) (hnL : κ.nL = 9) (hRm : κ.R = room_1) (D : LD κ sb Ls xs A a o od) {w : PV} {u : HV} (hW : LW κ A a o od w u M) (hG : LG w u) (hi : i + 3 < Ls) (hc : cells + 3 ≤ 603072) (hs : slots + 18 ≤ 7182442) (hS : SmV isI [eIdx] (pReadings w (xs (i + 1))) (mReadings u (xs (i + 1)))) (k9 : ∀ M', LW κ A a o od (pReadings w (xs (i + 1))).2 (mReadings u (xs (i + 1))).2 M' → G κ M' (cells + 3) (slots + 18) (LL sb A a o od i) 2980 []) : G κ M cells slots (LL sb A a o od i) 1027 [] := by
  obtain ⟨hBR, hMR, ⟨fo, ho⟩, ⟨fd, hod⟩⟩ := hW
  refine g_aload_n X dL_law_1027 rfl 4 rfl ?_
  refine g_arg X D 1 5 0 dL_law_1028 dL_law_1029 dL_law_1031 dL_law_1032 dL_law_1033 (by decide) rfl rfl (by omega) ?_
  refine g_aload_n X dL_law_1034 rfl 2 rfl ?_
  refine g_callSX (As := [.ref (A 313), .int (xs (i + 1)), .ref o]) X dL_law_1035 (c_L_readings κ.l hl κ.Γ M A w hBR hG.1 (xs (i + 1))  o fo ho D.2.2.1.1 hS.inn) k603 k604 k0 k605 ⟨by decide, by decide, (show (parseMethodDescriptor yL_readings.desc).map (fun d => d.parameters.length) = some 3 by decide +kernel)⟩ rfl (Nat.le_of_ble_eq_true rfl) (by rw [hRm]; decide) (by rw [hRm]; exact ⟨by (show _ ≤ 603072); omega, by (show _ ≤ 7182442); omega⟩) (fun v1 M1 h1 => ?_) (fun E9 M9 h9 => ?_)
  rotate_left
  · obtain ⟨f1, -, -, -, hA1⟩ := h9
    obtain ⟨k1, z1, -, e1, -, -, -⟩ := hS.ans hA1 (by decide +kernel) (by decide)
    cases e1
  obtain ⟨f1, hBR1, ho1, hF1, hA1⟩ := h1
  obtain ⟨k1, z1, ⟨n1, rfl⟩, e1, e2, e3, e4⟩ := hS.ans hA1 (by decide +kernel) (by decide)
  cases e1
  have hMR1 := D.m hMR hF1
  have hx1 := D.odW hod hF1
  refine g_istore (L' := [(6, .int k1), (5, .int (nI i)), (4, .ref od), (3, .ref o), (2, .ref (a 0)), (1, .ref (A 313)), (0, .ref sb)]) X dL_law_1038 (by rw [hnL]; decide) rfl ?_
  refine g_aload_n X dL_law_1040 rfl 4 rfl ?_
  refine g_arg X D 1 6 1 dL_law_1041 dL_law_1042 dL_law_1044 dL_law_1045 dL_law_1046 (by decide) rfl rfl (by omega) ?_
  refine g_callV (As := [.int (xs (i + 1))]) (ci := 4) X dL_law_1047 (c_X4_readings κ.l hl κ.Γ M1 a u hMR1 (xs (i + 1)) hG.2.1) k1283 k1284 k1285 k5 k1286 rfl (MRep.obj hMR1) ⟨rfl, by decide, by decide, (show (parseMethodDescriptor yX4_readings.desc).map (fun d => d.parameters.length) = some 1 by decide +kernel)⟩ rfl (Nat.le_of_ble_eq_true rfl) (by rw [hRm]; decide) (by rw [hRm]; exact ⟨by (show _ ≤ 603072); omega, by (show _ ≤ 7182442); omega⟩) (fun v2 M2 h2 => ?_) (fun E9 M9 h9 => by have := h9.1.trans e2; cases this)
  obtain ⟨g2, hMR2, hF2⟩ := h2
  have g2 := g2.trans e2
  cases g2
  refine g_istore (L' := [(7, .int n1), (6, .int k1), (5, .int (nI i)), (4, .ref od), (3, .ref o), (2, .ref (a 0)), (1, .ref (A 313)), (0, .ref sb)]) X dL_law_1050 (by rw [hnL]; decide) rfl ?_
  refine g_aload_n X dL_law_1052 rfl 5 rfl ?_
  refine g_callV_rd (As := []) (ci := 4) (v := some (.int ((mReadings u (xs (i + 1))).2.1 0))) X dL_law_1053 (c_X4_thrown κ.l hl κ.Γ M2 a _ hMR2) k1150 k1151 k1152 k5 k1153 rfl (MRep.obj hMR2) ⟨rfl, by decide, by decide, (show (parseMethodDescriptor yX4_thrown.desc).map (fun d => d.parameters.length) = some 0 by decide +kernel)⟩ rfl (Nat.le_of_ble_eq_true rfl) (by rw [hRm]; decide) (by rw [hRm]; exact ⟨by (show _ ≤ 603072); omega, by (show _ ≤ 7182442); omega⟩) ?_
  refine g_lit (y := k1) e3 ?_
  refine g_iload X dL_law_1056 1 rfl ?_
  refine g_icmp_eq (tgt := 1063) X dL_law_1058 (by decide) (fun _ => ?_) (fun h => absurd rfl h)
  refine g_iload X dL_law_1063 1 rfl ?_
  have hW2 : LW κ A a o od (pReadings w (xs (i + 1))).2 (mReadings u (xs (i + 1))).2 M2 := ⟨D.b hBR1 hF2, hMR2, ⟨f1, D.oM ho1 hF2⟩, ⟨fd, D.odM hx1 hF2⟩⟩
  have kE : G κ M2 (cells + 3) (slots + 18) [(7, .int n1), (6, .int k1), (5, .int (nI i)), (4, .ref od), (3, .ref o), (2, .ref (a 0)), (1, .ref (A 313)), (0, .ref sb)] 1080 [] := by
    refine g_goto (tgt := 2980) X dL_law_1080 (by decide) ?_
    refine g_locs [2, 3, 4, 5, 6, 7] (L' := LL sb A a o od i) rfl ?_
    exact k9 _ hW2
  refine g_if_ne (tgt := 1080) X dL_law_1065 (by decide) (fun _ => kE) (fun z0 => ?_)
  have e5 := e4 z0
  refine g_aload_n X dL_law_1068 rfl 4 rfl ?_
  refine g_iconst (v := 0) X dL_law_1069 (by decide) ?_
  refine g_laload X dL_law_1070 (D.oM ho1 hF2) vin01 ?_
  show G κ M2 _ _ _ _ (.long (f1 0) :: _)
  refine g_iload X dL_law_1071 0 rfl ?_
  refine g_i2l X dL_law_1073 ?_
  refine g_lcmp0 X dL_law_1074 e5 ?_
  exact g_if_eq (tgt := 1080) X dL_law_1075 (by decide) (fun _ => kE) (fun h => absurd rfl h)
