set_option maxRecDepth 100000 in
set_option maxHeartbeats 4000000 in
theorem lc_delay {κ : KT} {tab : List ExceptionTableEntry} {nm : String} {M : Hp} {cells slots : Nat} {sb Ls o od i : Nat} {xs : Nat → Int32} {A a : Nat → Nat} (X : Cx κ RL cL_law (some .boolean) tab nm) (hl : κ.l.stackTraces = false) (hnL : κ.nL = 9) (hRm : κ.R = room_1) (D : LD κ sb Ls xs A a o od) {w : PV} {u : HV} (hW : LW κ A a o od w u M) (hG : LG w u) (hi : i + 3 < Ls) (hc : cells + 3 ≤ 603072) (hs : slots + 18 ≤ 7182442) (hS : SmV isI [eIdx] (pDelay w (xs (i + 1))) (mDelay u (xs (i + 1)))) (k9 : ∀ M', LW κ A a o od (pDelay w (xs (i + 1))).2 (mDelay u (xs (i + 1))).2 M' → G κ M' (cells + 3) (slots + 18) (LL sb A a o od i) 2980 []) : G κ M cells slots (LL sb A a o od i) 2224 [] := by
  obtain ⟨hBR, hMR, ⟨fo, ho⟩, ⟨fd, hod⟩⟩ := hW
  refine g_aload_n X dL_law_2224 rfl 4 rfl ?_
  refine g_arg X D 1 5 0 dL_law_2225 dL_law_2226 dL_law_2228 dL_law_2229 dL_law_2230 (by decide) rfl rfl (by omega) ?_
  refine g_aload_n X dL_law_2231 rfl 2 rfl ?_
  refine g_callSX (As := [.ref (A 313), .int (xs (i + 1)), .ref o]) X dL_law_2232 (c_L_delay κ.l hl κ.Γ M A w hBR hG.1 (xs (i + 1))  o fo ho D.2.2.1.1 hS.inn) k823 k824 k0 k825 ⟨by decide, by decide, (show (parseMethodDescriptor yL_delay.desc).map (fun d => d.parameters.length) = some 3 by decide +kernel)⟩ rfl (Nat.le_of_ble_eq_true rfl) (by rw [hRm]; decide) (by rw [hRm]; exact ⟨by (show _ ≤ 603072); omega, by (show _ ≤ 7182442); omega⟩) (fun v1 M1 h1 => ?_) (fun E9 M9 h9 => ?_)
  rotate_left
  · obtain ⟨f1, -, -, -, hA1⟩ := h9
    obtain ⟨k1, z1, -, e1, -, -, -⟩ := hS.ans hA1 (by decide +kernel) (by decide)
    cases e1
  obtain ⟨f1, hBR1, ho1, hF1, hA1⟩ := h1
  obtain ⟨k1, z1, ⟨n1, rfl⟩, e1, e2, e3, e4⟩ := hS.ans hA1 (by decide +kernel) (by decide)
  cases e1
  have hMR1 := D.m hMR hF1
  have hx1 := D.odW hod hF1
  refine g_istore (L' := [(6, .int k1), (5, .int (nI i)), (4, .ref od), (3, .ref o), (2, .ref (a 0)), (1, .ref (A 313)), (0, .ref sb)]) X dL_law_2235 (by rw [hnL]; decide) rfl ?_
  refine g_aload_n X dL_law_2237 rfl 4 rfl ?_
  refine g_arg X D 1 6 1 dL_law_2238 dL_law_2239 dL_law_2241 dL_law_2242 dL_law_2243 (by decide) rfl rfl (by omega) ?_
  refine g_callV (As := [.int (xs (i + 1))]) (ci := 4) X dL_law_2244 (c_X4_delay κ.l hl κ.Γ M1 a u hMR1 (xs (i + 1)) hG.2.1) k1420 k1421 k1422 k5 k1423 rfl (MRep.obj hMR1) ⟨rfl, by decide, by decide, (show (parseMethodDescriptor yX4_delay.desc).map (fun d => d.parameters.length) = some 1 by decide +kernel)⟩ rfl (Nat.le_of_ble_eq_true rfl) (by rw [hRm]; decide) (by rw [hRm]; exact ⟨by (show _ ≤ 603072); omega, by (show _ ≤ 7182442); omega⟩) (fun v2 M2 h2 => ?_) (fun E9 M9 h9 => by have := h9.1.trans e2; cases this)
  obtain ⟨g2, hMR2, hF2⟩ := h2
  have g2 := g2.trans e2
  cases g2
  refine g_istore (L' := [(7, .int n1), (6, .int k1), (5, .int (nI i)), (4, .ref od), (3, .ref o), (2, .ref (a 0)), (1, .ref (A 313)), (0, .ref sb)]) X dL_law_2247 (by rw [hnL]; decide) rfl ?_
  refine g_aload_n X dL_law_2249 rfl 5 rfl ?_
  refine g_callV_rd (As := []) (ci := 4) (v := some (.int ((mDelay u (xs (i + 1))).2.1 0))) X dL_law_2250 (c_X4_thrown κ.l hl κ.Γ M2 a _ hMR2) k1150 k1151 k1152 k5 k1153 rfl (MRep.obj hMR2) ⟨rfl, by decide, by decide, (show (parseMethodDescriptor yX4_thrown.desc).map (fun d => d.parameters.length) = some 0 by decide +kernel)⟩ rfl (Nat.le_of_ble_eq_true rfl) (by rw [hRm]; decide) (by rw [hRm]; exact ⟨by (show _ ≤ 603072); omega, by (show _ ≤ 7182442); omega⟩) ?_
  refine g_lit (y := k1) e3 ?_
  refine g_iload X dL_law_2253 1 rfl ?_
  refine g_icmp_eq (tgt := 2260) X dL_law_2255 (by decide) (fun _ => ?_) (fun h => absurd rfl h)
  refine g_iload X dL_law_2260 1 rfl ?_
  have hW2 : LW κ A a o od (pDelay w (xs (i + 1))).2 (mDelay u (xs (i + 1))).2 M2 := ⟨D.b hBR1 hF2, hMR2, ⟨f1, D.oM ho1 hF2⟩, ⟨fd, D.odM hx1 hF2⟩⟩
  have kE : G κ M2 (cells + 3) (slots + 18) [(7, .int n1), (6, .int k1), (5, .int (nI i)), (4, .ref od), (3, .ref o), (2, .ref (a 0)), (1, .ref (A 313)), (0, .ref sb)] 2277 [] := by
    refine g_goto (tgt := 2980) X dL_law_2277 (by decide) ?_
    refine g_locs [2, 3, 4, 5, 6, 7] (L' := LL sb A a o od i) rfl ?_
    exact k9 _ hW2
  refine g_if_ne (tgt := 2277) X dL_law_2262 (by decide) (fun _ => kE) (fun z0 => ?_)
  have e5 := e4 z0
  refine g_aload_n X dL_law_2265 rfl 4 rfl ?_
  refine g_iconst (v := 0) X dL_law_2266 (by decide) ?_
  refine g_laload X dL_law_2267 (D.oM ho1 hF2) vin01 ?_
  show G κ M2 _ _ _ _ (.long (f1 0) :: _)
  refine g_iload X dL_law_2268 0 rfl ?_
  refine g_i2l X dL_law_2270 ?_
  refine g_lcmp0 X dL_law_2271 e5 ?_
  exact g_if_eq (tgt := 2277) X dL_law_2272 (by decide) (fun _ => kE) (fun h => absurd rfl h)
set_option maxRecDepth 100000 in
set_option maxHeartbeats 4000000 in
theorem lc_rust {κ : KT} {tab : List ExceptionTableEntry} {nm : String} {M : Hp} {cells slots : Nat} {sb Ls o od i : Nat} {xs : Nat → Int32} {A a : Nat → Nat} (X : Cx κ RL cL_law (some .boolean) tab nm) (hl : κ.l.stackTraces = false) (hnL : κ.nL = 9) (hRm : κ.R = room_1) (D : LD κ sb Ls xs A a o od) {w : PV} {u : HV} (hW : LW κ A a o od w u M) (hG : LG w u) (hi : i + 3 < Ls) (hc : cells + 3 ≤ 603072) (hs : slots + 18 ≤ 7182442) (hS : SmV isI [eIdx] (pRust w (xs (i + 1))) (mRust u (xs (i + 1)))) (k9 : ∀ M', LW κ A a o od (pRust w (xs (i + 1))).2 (mRust u (xs (i + 1))).2 M' → G κ M' (cells + 3) (slots + 18) (LL sb A a o od i) 2980 []) : G κ M cells slots (LL sb A a o od i) 2280 [] := by
  obtain ⟨hBR, hMR, ⟨fo, ho⟩, ⟨fd, hod⟩⟩ := hW
  refine g_aload_n X dL_law_2280 rfl 4 rfl ?_
  refine g_arg X D 1 5 0 dL_law_2281 dL_law_2282 dL_law_2284 dL_law_2285 dL_law_2286 (by decide) rfl rfl (by omega) ?_
  refine g_aload_n X dL_law_2287 rfl 2 rfl ?_
  refine g_callSX (As := [.ref (A 313), .int (xs (i + 1)), .ref o]) X dL_law_2288 (c_L_rust κ.l hl κ.Γ M A w hBR hG.1 (xs (i + 1))  o fo ho D.2.2.1.1 hS.inn) k830 k831 k0 k832 ⟨by decide, by decide, (show (parseMethodDescriptor yL_rust.desc).map (fun d => d.parameters.length) = some 3 by decide +kernel)⟩ rfl (Nat.le_of_ble_eq_true rfl) (by rw [hRm]; decide) (by rw [hRm]; exact ⟨by (show _ ≤ 603072); omega, by (show _ ≤ 7182442); omega⟩) (fun v1 M1 h1 => ?_) (fun E9 M9 h9 => ?_)
  rotate_left
  · obtain ⟨f1, -, -, -, hA1⟩ := h9
    obtain ⟨k1, z1, -, e1, -, -, -⟩ := hS.ans hA1 (by decide +kernel) (by decide)
    cases e1
  obtain ⟨f1, hBR1, ho1, hF1, hA1⟩ := h1
  obtain ⟨k1, z1, ⟨n1, rfl⟩, e1, e2, e3, e4⟩ := hS.ans hA1 (by decide +kernel) (by decide)
  cases e1
  have hMR1 := D.m hMR hF1
  have hx1 := D.odW hod hF1
  refine g_istore (L' := [(6, .int k1), (5, .int (nI i)), (4, .ref od), (3, .ref o), (2, .ref (a 0)), (1, .ref (A 313)), (0, .ref sb)]) X dL_law_2291 (by rw [hnL]; decide) rfl ?_
  refine g_aload_n X dL_law_2293 rfl 4 rfl ?_
  refine g_arg X D 1 6 1 dL_law_2294 dL_law_2295 dL_law_2297 dL_law_2298 dL_law_2299 (by decide) rfl rfl (by omega) ?_
  refine g_callV (As := [.int (xs (i + 1))]) (ci := 4) X dL_law_2300 (c_X4_rust κ.l hl κ.Γ M1 a u hMR1 (xs (i + 1)) hG.2.1) k1424 k1425 k1426 k5 k1427 rfl (MRep.obj hMR1) ⟨rfl, by decide, by decide, (show (parseMethodDescriptor yX4_rust.desc).map (fun d => d.parameters.length) = some 1 by decide +kernel)⟩ rfl (Nat.le_of_ble_eq_true rfl) (by rw [hRm]; decide) (by rw [hRm]; exact ⟨by (show _ ≤ 603072); omega, by (show _ ≤ 7182442); omega⟩) (fun v2 M2 h2 => ?_) (fun E9 M9 h9 => by have := h9.1.trans e2; cases this)
  obtain ⟨g2, hMR2, hF2⟩ := h2
  have g2 := g2.trans e2
  cases g2
  refine g_istore (L' := [(7, .int n1), (6, .int k1), (5, .int (nI i)), (4, .ref od), (3, .ref o), (2, .ref (a 0)), (1, .ref (A 313)), (0, .ref sb)]) X dL_law_2303 (by rw [hnL]; decide) rfl ?_
  refine g_aload_n X dL_law_2305 rfl 5 rfl ?_
  refine g_callV_rd (As := []) (ci := 4) (v := some (.int ((mRust u (xs (i + 1))).2.1 0))) X dL_law_2306 (c_X4_thrown κ.l hl κ.Γ M2 a _ hMR2) k1150 k1151 k1152 k5 k1153 rfl (MRep.obj hMR2) ⟨rfl, by decide, by decide, (show (parseMethodDescriptor yX4_thrown.desc).map (fun d => d.parameters.length) = some 0 by decide +kernel)⟩ rfl (Nat.le_of_ble_eq_true rfl) (by rw [hRm]; decide) (by rw [hRm]; exact ⟨by (show _ ≤ 603072); omega, by (show _ ≤ 7182442); omega⟩) ?_
  refine g_lit (y := k1) e3 ?_
  refine g_iload X dL_law_2309 1 rfl ?_
  refine g_icmp_eq (tgt := 2316) X dL_law_2311 (by decide) (fun _ => ?_) (fun h => absurd rfl h)
  refine g_iload X dL_law_2316 1 rfl ?_
  have hW2 : LW κ A a o od (pRust w (xs (i + 1))).2 (mRust u (xs (i + 1))).2 M2 := ⟨D.b hBR1 hF2, hMR2, ⟨f1, D.oM ho1 hF2⟩, ⟨fd, D.odM hx1 hF2⟩⟩
  have kE : G κ M2 (cells + 3) (slots + 18) [(7, .int n1), (6, .int k1), (5, .int (nI i)), (4, .ref od), (3, .ref o), (2, .ref (a 0)), (1, .ref (A 313)), (0, .ref sb)] 2333 [] := by
    refine g_goto (tgt := 2980) X dL_law_2333 (by decide) ?_
    refine g_locs [2, 3, 4, 5, 6, 7] (L' := LL sb A a o od i) rfl ?_
    exact k9 _ hW2
  refine g_if_ne (tgt := 2333) X dL_law_2318 (by decide) (fun _ => kE) (fun z0 => ?_)
  have e5 := e4 z0
  refine g_aload_n X dL_law_2321 rfl 4 rfl ?_
  refine g_iconst (v := 0) X dL_law_2322 (by decide) ?_
  refine g_laload X dL_law_2323 (D.oM ho1 hF2) vin01 ?_
  show G κ M2 _ _ _ _ (.long (f1 0) :: _)
  refine g_iload X dL_law_2324 0 rfl ?_
  refine g_i2l X dL_law_2326 ?_
  refine g_lcmp0 X dL_law_2327 e5 ?_
  exact g_if_eq (tgt := 2333) X dL_law_2328 (by decide) (fun _ => kE) (fun h => absurd rfl h)
set_option maxRecDepth 100000 in
set_option maxHeartbeats 4000000 in
theorem lc_ridesUntilFall {κ : KT} {tab : List ExceptionTableEntry} {nm : String} {M : Hp} {cells slots : Nat} {sb Ls o od i : Nat} {xs : Nat → Int32} {A a : Nat → Nat} (X : Cx κ RL cL_law (some .boolean) tab nm) (hl : κ.l.stackTraces = false) (hnL : κ.nL = 9) (hRm : κ.R = room_1) (D : LD κ sb Ls xs A a o od) {w : PV} {u : HV} (hW : LW κ A a o od w u M) (hG : LG w u) (hi : i + 3 < Ls) (hc : cells + 3 ≤ 603072) (hs : slots + 18 ≤ 7182442) (hS : SmV isI [eIdx, eArg, eSta] (pRidesUntilFall w (xs (i + 1)) (xs (i + 2))) (mRidesUntilFall u (xs (i + 1)) (xs (i + 2)))) (k9 : ∀ M', LW κ A a o od (pRidesUntilFall w (xs (i + 1)) (xs (i + 2))).2 (mRidesUntilFall u (xs (i + 1)) (xs (i + 2))).2 M' → G κ M' (cells + 3) (slots + 18) (LL sb A a o od i) 2980 []) : G κ M cells slots (LL sb A a o od i) 2336 [] := by
  obtain ⟨hBR, hMR, ⟨fo, ho⟩, ⟨fd, hod⟩⟩ := hW
  refine g_aload_n X dL_law_2336 rfl 4 rfl ?_
  refine g_arg X D 1 5 0 dL_law_2337 dL_law_2338 dL_law_2340 dL_law_2341 dL_law_2342 (by decide) rfl rfl (by omega) ?_
  refine g_arg X D 2 5 0 dL_law_2343 dL_law_2344 dL_law_2346 dL_law_2347 dL_law_2348 (by decide) rfl rfl (by omega) ?_
  refine g_aload_n X dL_law_2349 rfl 2 rfl ?_
  refine g_callSX (As := [.ref (A 313), .int (xs (i + 1)), .int (xs (i + 2)), .ref o]) X dL_law_2350 (c_L_ridesUntilFall κ.l hl κ.Γ M A w hBR hG.1 (xs (i + 1)) (xs (i + 2))  o fo ho D.2.2.1.1 hS.inn) k838 k839 k0 k840 ⟨by decide, by decide, (show (parseMethodDescriptor yL_ridesUntilFall.desc).map (fun d => d.parameters.length) = some 4 by decide +kernel)⟩ rfl (Nat.le_of_ble_eq_true rfl) (by rw [hRm]; decide) (by rw [hRm]; exact ⟨by (show _ ≤ 603072); omega, by (show _ ≤ 7182442); omega⟩) (fun v1 M1 h1 => ?_) (fun E9 M9 h9 => ?_)
  rotate_left
  · obtain ⟨f1, -, -, -, hA1⟩ := h9
    obtain ⟨k1, z1, -, e1, -, -, -⟩ := hS.ans hA1 (by decide +kernel) (by decide)
    cases e1
  obtain ⟨f1, hBR1, ho1, hF1, hA1⟩ := h1
  obtain ⟨k1, z1, ⟨n1, rfl⟩, e1, e2, e3, e4⟩ := hS.ans hA1 (by decide +kernel) (by decide)
  cases e1
  have hMR1 := D.m hMR hF1
  have hx1 := D.odW hod hF1
  refine g_istore (L' := [(6, .int k1), (5, .int (nI i)), (4, .ref od), (3, .ref o), (2, .ref (a 0)), (1, .ref (A 313)), (0, .ref sb)]) X dL_law_2353 (by rw [hnL]; decide) rfl ?_
  refine g_aload_n X dL_law_2355 rfl 4 rfl ?_
  refine g_arg X D 1 6 1 dL_law_2356 dL_law_2357 dL_law_2359 dL_law_2360 dL_law_2361 (by decide) rfl rfl (by omega) ?_
  refine g_arg X D 2 6 1 dL_law_2362 dL_law_2363 dL_law_2365 dL_law_2366 dL_law_2367 (by decide) rfl rfl (by omega) ?_
  refine g_callV (As := [.int (xs (i + 1)), .int (xs (i + 2))]) (ci := 4) X dL_law_2368 (c_X4_ridesUntilFall κ.l hl κ.Γ M1 a u hMR1 (xs (i + 1)) (xs (i + 2)) hG.2.1) k1428 k1429 k1430 k5 k1431 rfl (MRep.obj hMR1) ⟨rfl, by decide, by decide, (show (parseMethodDescriptor yX4_ridesUntilFall.desc).map (fun d => d.parameters.length) = some 2 by decide +kernel)⟩ rfl (Nat.le_of_ble_eq_true rfl) (by rw [hRm]; decide) (by rw [hRm]; exact ⟨by (show _ ≤ 603072); omega, by (show _ ≤ 7182442); omega⟩) (fun v2 M2 h2 => ?_) (fun E9 M9 h9 => by have := h9.1.trans e2; cases this)
  obtain ⟨g2, hMR2, hF2⟩ := h2
  have g2 := g2.trans e2
  cases g2
  refine g_istore (L' := [(7, .int n1), (6, .int k1), (5, .int (nI i)), (4, .ref od), (3, .ref o), (2, .ref (a 0)), (1, .ref (A 313)), (0, .ref sb)]) X dL_law_2371 (by rw [hnL]; decide) rfl ?_
  refine g_aload_n X dL_law_2373 rfl 5 rfl ?_
  refine g_callV_rd (As := []) (ci := 4) (v := some (.int ((mRidesUntilFall u (xs (i + 1)) (xs (i + 2))).2.1 0))) X dL_law_2374 (c_X4_thrown κ.l hl κ.Γ M2 a _ hMR2) k1150 k1151 k1152 k5 k1153 rfl (MRep.obj hMR2) ⟨rfl, by decide, by decide, (show (parseMethodDescriptor yX4_thrown.desc).map (fun d => d.parameters.length) = some 0 by decide +kernel)⟩ rfl (Nat.le_of_ble_eq_true rfl) (by rw [hRm]; decide) (by rw [hRm]; exact ⟨by (show _ ≤ 603072); omega, by (show _ ≤ 7182442); omega⟩) ?_
  refine g_lit (y := k1) e3 ?_
  refine g_iload X dL_law_2377 1 rfl ?_
  refine g_icmp_eq (tgt := 2384) X dL_law_2379 (by decide) (fun _ => ?_) (fun h => absurd rfl h)
  refine g_iload X dL_law_2384 1 rfl ?_
  have hW2 : LW κ A a o od (pRidesUntilFall w (xs (i + 1)) (xs (i + 2))).2 (mRidesUntilFall u (xs (i + 1)) (xs (i + 2))).2 M2 := ⟨D.b hBR1 hF2, hMR2, ⟨f1, D.oM ho1 hF2⟩, ⟨fd, D.odM hx1 hF2⟩⟩
  have kE : G κ M2 (cells + 3) (slots + 18) [(7, .int n1), (6, .int k1), (5, .int (nI i)), (4, .ref od), (3, .ref o), (2, .ref (a 0)), (1, .ref (A 313)), (0, .ref sb)] 2401 [] := by
    refine g_goto (tgt := 2980) X dL_law_2401 (by decide) ?_
    refine g_locs [2, 3, 4, 5, 6, 7] (L' := LL sb A a o od i) rfl ?_
    exact k9 _ hW2
  refine g_if_ne (tgt := 2401) X dL_law_2386 (by decide) (fun _ => kE) (fun z0 => ?_)
  have e5 := e4 z0
  refine g_aload_n X dL_law_2389 rfl 4 rfl ?_
  refine g_iconst (v := 0) X dL_law_2390 (by decide) ?_
  refine g_laload X dL_law_2391 (D.oM ho1 hF2) vin01 ?_
  show G κ M2 _ _ _ _ (.long (f1 0) :: _)
  refine g_iload X dL_law_2392 0 rfl ?_
  refine g_i2l X dL_law_2394 ?_
  refine g_lcmp0 X dL_law_2395 e5 ?_
  exact g_if_eq (tgt := 2401) X dL_law_2396 (by decide) (fun _ => kE) (fun h => absurd rfl h)
set_option maxRecDepth 100000 in
set_option maxHeartbeats 4000000 in
theorem lc_passedCount {κ : KT} {tab : List ExceptionTableEntry} {nm : String} {M : Hp} {cells slots : Nat} {sb Ls o od i : Nat} {xs : Nat → Int32} {A a : Nat → Nat} (X : Cx κ RL cL_law (some .boolean) tab nm) (hl : κ.l.stackTraces = false) (hnL : κ.nL = 9) (hRm : κ.R = room_1) (D : LD κ sb Ls xs A a o od) {w : PV} {u : HV} (hW : LW κ A a o od w u M) (hG : LG w u) (hi : i + 3 < Ls) (hc : cells + 3 ≤ 603072) (hs : slots + 18 ≤ 7182442) (hS : SmQ (pPassedCount w) (mPassedCount u)) (k9 : ∀ M', LW κ A a o od (pPassedCount w).2 (mPassedCount u).2 M' → G κ M' (cells + 3) (slots + 18) (LL sb A a o od i) 2980 []) : G κ M cells slots (LL sb A a o od i) 2404 [] := by
  obtain ⟨hBR, hMR, ⟨fo, ho⟩, ⟨fd, hod⟩⟩ := hW
  obtain ⟨z1, e1, e2⟩ := hS
  refine g_aload_n X dL_law_2404 rfl 4 rfl ?_
  refine g_callV (As := []) (ci := 3) X dL_law_2405 (c_X3_passedCount κ.l hl κ.Γ M A w hBR hG.1) k230 k231 k232 k1 k233 rfl (BRep.obj hBR) ⟨rfl, by decide, by decide, (show (parseMethodDescriptor yX3_passedCount.desc).map (fun d => d.parameters.length) = some 0 by decide +kernel)⟩ rfl (Nat.le_of_ble_eq_true rfl) (by rw [hRm]; decide) (by rw [hRm]; exact ⟨by (show _ ≤ 603072); omega, by (show _ ≤ 7182442); omega⟩) (fun v1 M1 h1 => ?_) (fun E9 M9 h9 => by have := h9.1.trans e1; cases this)
  obtain ⟨g1, hBR1, hF1⟩ := h1
  have g1 := g1.trans e1
  cases g1
  have hMR1 := D.m2 hMR hF1
  refine g_aload_n X dL_law_2408 rfl 3 rfl ?_
  refine g_callV (As := []) (ci := 4) X dL_law_2409 (c_X4_passedCount κ.l hl κ.Γ M1 a u hMR1 hG.2.1) k1432 k1433 k1434 k5 k1435 rfl (MRep.obj hMR1) ⟨rfl, by decide, by decide, (show (parseMethodDescriptor yX4_passedCount.desc).map (fun d => d.parameters.length) = some 0 by decide +kernel)⟩ rfl (Nat.le_of_ble_eq_true rfl) (by rw [hRm]; decide) (by rw [hRm]; exact ⟨by (show _ ≤ 603072); omega, by (show _ ≤ 7182442); omega⟩) (fun v2 M2 h2 => ?_) (fun E9 M9 h9 => by have := h9.1.trans e2; cases this)
  obtain ⟨g2, hMR2, hF2⟩ := h2
  have g2 := g2.trans e2
  cases g2
  refine g_icmp_eq (tgt := 2980) X dL_law_2412 (by decide) (fun _ => ?_) (fun h => absurd rfl h)
  exact k9 _ ⟨D.b hBR1 hF2, hMR2, ⟨fo, D.oM (D.oA ho hF1) hF2⟩, ⟨fd, D.odM (D.odA hod hF1) hF2⟩⟩
set_option maxRecDepth 100000 in
set_option maxHeartbeats 4000000 in
theorem lc_fallenCount {κ : KT} {tab : List ExceptionTableEntry} {nm : String} {M : Hp} {cells slots : Nat} {sb Ls o od i : Nat} {xs : Nat → Int32} {A a : Nat → Nat} (X : Cx κ RL cL_law (some .boolean) tab nm) (hl : κ.l.stackTraces = false) (hnL : κ.nL = 9) (hRm : κ.R = room_1) (D : LD κ sb Ls xs A a o od) {w : PV} {u : HV} (hW : LW κ A a o od w u M) (hG : LG w u) (hi : i + 3 < Ls) (hc : cells + 3 ≤ 603072) (hs : slots + 18 ≤ 7182442) (hS : SmQ (pFallenCount w) (mFallenCount u)) (k9 : ∀ M', LW κ A a o od (pFallenCount w).2 (mFallenCount u).2 M' → G κ M' (cells + 3) (slots + 18) (LL sb A a o od i) 2980 []) : G κ M cells slots (LL sb A a o od i) 2417 [] := by
  obtain ⟨hBR, hMR, ⟨fo, ho⟩, ⟨fd, hod⟩⟩ := hW
  obtain ⟨z1, e1, e2⟩ := hS
  refine g_aload_n X dL_law_2417 rfl 4 rfl ?_
  refine g_callV (As := []) (ci := 3) X dL_law_2418 (c_X3_fallenCount κ.l hl κ.Γ M A w hBR hG.1) k238 k239 k240 k1 k241 rfl (BRep.obj hBR) ⟨rfl, by decide, by decide, (show (parseMethodDescriptor yX3_fallenCount.desc).map (fun d => d.parameters.length) = some 0 by decide +kernel)⟩ rfl (Nat.le_of_ble_eq_true rfl) (by rw [hRm]; decide) (by rw [hRm]; exact ⟨by (show _ ≤ 603072); omega, by (show _ ≤ 7182442); omega⟩) (fun v1 M1 h1 => ?_) (fun E9 M9 h9 => by have := h9.1.trans e1; cases this)
  obtain ⟨g1, hBR1, hF1⟩ := h1
  have g1 := g1.trans e1
  cases g1
  have hMR1 := D.m2 hMR hF1
  refine g_aload_n X dL_law_2421 rfl 3 rfl ?_
  refine g_callV (As := []) (ci := 4) X dL_law_2422 (c_X4_fallenCount κ.l hl κ.Γ M1 a u hMR1 hG.2.1) k1440 k1441 k1442 k5 k1443 rfl (MRep.obj hMR1) ⟨rfl, by decide, by decide, (show (parseMethodDescriptor yX4_fallenCount.desc).map (fun d => d.parameters.length) = some 0 by decide +kernel)⟩ rfl (Nat.le_of_ble_eq_true rfl) (by rw [hRm]; decide) (by rw [hRm]; exact ⟨by (show _ ≤ 603072); omega, by (show _ ≤ 7182442); omega⟩) (fun v2 M2 h2 => ?_) (fun E9 M9 h9 => by have := h9.1.trans e2; cases this)
  obtain ⟨g2, hMR2, hF2⟩ := h2
  have g2 := g2.trans e2
  cases g2
  refine g_icmp_eq (tgt := 2980) X dL_law_2425 (by decide) (fun _ => ?_) (fun h => absurd rfl h)
  exact k9 _ ⟨D.b hBR1 hF2, hMR2, ⟨fo, D.oM (D.oA ho hF1) hF2⟩, ⟨fd, D.odM (D.odA hod hF1) hF2⟩⟩
set_option maxRecDepth 100000 in
set_option maxHeartbeats 4000000 in
theorem lc_acceptedCount {κ : KT} {tab : List ExceptionTableEntry} {nm : String} {M : Hp} {cells slots : Nat} {sb Ls o od i : Nat} {xs : Nat → Int32} {A a : Nat → Nat} (X : Cx κ RL cL_law (some .boolean) tab nm) (hl : κ.l.stackTraces = false) (hnL : κ.nL = 9) (hRm : κ.R = room_1) (D : LD κ sb Ls xs A a o od) {w : PV} {u : HV} (hW : LW κ A a o od w u M) (hG : LG w u) (hi : i + 3 < Ls) (hc : cells + 3 ≤ 603072) (hs : slots + 18 ≤ 7182442) (hS : SmQ (pAcceptedCount w) (mAcceptedCount u)) (k9 : ∀ M', LW κ A a o od (pAcceptedCount w).2 (mAcceptedCount u).2 M' → G κ M' (cells + 3) (slots + 18) (LL sb A a o od i) 2980 []) : G κ M cells slots (LL sb A a o od i) 2430 [] := by
  obtain ⟨hBR, hMR, ⟨fo, ho⟩, ⟨fd, hod⟩⟩ := hW
  obtain ⟨z1, e1, e2⟩ := hS
  refine g_aload_n X dL_law_2430 rfl 4 rfl ?_
  refine g_callV (As := []) (ci := 3) X dL_law_2431 (c_X3_acceptedCount κ.l hl κ.Γ M A w hBR hG.1) k242 k243 k244 k1 k245 rfl (BRep.obj hBR) ⟨rfl, by decide, by decide, (show (parseMethodDescriptor yX3_acceptedCount.desc).map (fun d => d.parameters.length) = some 0 by decide +kernel)⟩ rfl (Nat.le_of_ble_eq_true rfl) (by rw [hRm]; decide) (by rw [hRm]; exact ⟨by (show _ ≤ 603072); omega, by (show _ ≤ 7182442); omega⟩) (fun v1 M1 h1 => ?_) (fun E9 M9 h9 => by have := h9.1.trans e1; cases this)
  obtain ⟨g1, hBR1, hF1⟩ := h1
  have g1 := g1.trans e1
  cases g1
  have hMR1 := D.m2 hMR hF1
  refine g_aload_n X dL_law_2434 rfl 3 rfl ?_
  refine g_callV (As := []) (ci := 4) X dL_law_2435 (c_X4_acceptedCount κ.l hl κ.Γ M1 a u hMR1 ) k1444 k1445 k1446 k5 k1447 rfl (MRep.obj hMR1) ⟨rfl, by decide, by decide, (show (parseMethodDescriptor yX4_acceptedCount.desc).map (fun d => d.parameters.length) = some 0 by decide +kernel)⟩ rfl (Nat.le_of_ble_eq_true rfl) (by rw [hRm]; decide) (by rw [hRm]; exact ⟨by (show _ ≤ 603072); omega, by (show _ ≤ 7182442); omega⟩) (fun v2 M2 h2 => ?_) (fun E9 M9 h9 => by have := h9.1.trans e2; cases this)
  obtain ⟨g2, hMR2, hF2⟩ := h2
  have g2 := g2.trans e2
  cases g2
  refine g_icmp_eq (tgt := 2980) X dL_law_2438 (by decide) (fun _ => ?_) (fun h => absurd rfl h)
  exact k9 _ ⟨D.b hBR1 hF2, hMR2, ⟨fo, D.oM (D.oA ho hF1) hF2⟩, ⟨fd, D.odM (D.odA hod hF1) hF2⟩⟩
set_option maxRecDepth 100000 in
set_option maxHeartbeats 4000000 in
theorem lc_append {κ : KT} {tab : List ExceptionTableEntry} {nm : String} {M : Hp} {cells slots : Nat} {sb Ls o od i : Nat} {xs : Nat → Int32} {A a : Nat → Nat} (X : Cx κ RL cL_law (some .boolean) tab nm) (hl : κ.l.stackTraces = false) (hnL : κ.nL = 9) (hRm : κ.R = room_1) (D : LD κ sb Ls xs A a o od) {w : PV} {u : HV} (hW : LW κ A a o od w u M) (hG : LG w u) (hi : i + 3 < Ls) (hc : cells + 3 ≤ 603072) (hs : slots + 18 ≤ 7182442) (hS : SmV isI [eArg, eSta] (pAppend w (i2cc (xs (i + 1)))) (mAppend u (i2cc (xs (i + 1))))) (k9 : ∀ M', LW κ A a o od (pAppend w (i2cc (xs (i + 1)))).2 (mAppend u (i2cc (xs (i + 1)))).2 M' → G κ M' (cells + 3) (slots + 18) (LL sb A a o od i) 2980 []) : G κ M cells slots (LL sb A a o od i) 2443 [] := by
  obtain ⟨hBR, hMR, ⟨fo, ho⟩, ⟨fd, hod⟩⟩ := hW
  refine g_aload_n X dL_law_2443 rfl 4 rfl ?_
  refine g_arg X D 1 5 0 dL_law_2444 dL_law_2445 dL_law_2447 dL_law_2448 dL_law_2449 (by decide) rfl rfl (by omega) ?_
  refine g_i2c X dL_law_2450 ?_
  refine g_aload_n X dL_law_2451 rfl 2 rfl ?_
  refine g_callSX (As := [.ref (A 313), .int (i2cc (xs (i + 1))), .ref o]) X dL_law_2452 (c_L_append κ.l hl κ.Γ M A w hBR hG.1 (i2cc (xs (i + 1)))  o fo ho D.2.2.1.1 hS.inn) k845 k846 k0 k847 ⟨by decide, by decide, (show (parseMethodDescriptor yL_append.desc).map (fun d => d.parameters.length) = some 3 by decide +kernel)⟩ rfl (Nat.le_of_ble_eq_true rfl) (by rw [hRm]; decide) (by rw [hRm]; exact ⟨by (show _ ≤ 603072); omega, by (show _ ≤ 7182442); omega⟩) (fun v1 M1 h1 => ?_) (fun E9 M9 h9 => ?_)
  rotate_left
  · obtain ⟨f1, -, -, -, hA1⟩ := h9
    obtain ⟨k1, z1, -, e1, -, -, -⟩ := hS.ans hA1 (by decide +kernel) (by decide)
    cases e1
  obtain ⟨f1, hBR1, ho1, hF1, hA1⟩ := h1
  obtain ⟨k1, z1, ⟨n1, rfl⟩, e1, e2, e3, e4⟩ := hS.ans hA1 (by decide +kernel) (by decide)
  cases e1
  have hMR1 := D.m hMR hF1
  have hx1 := D.odW hod hF1
  refine g_istore (L' := [(6, .int k1), (5, .int (nI i)), (4, .ref od), (3, .ref o), (2, .ref (a 0)), (1, .ref (A 313)), (0, .ref sb)]) X dL_law_2455 (by rw [hnL]; decide) rfl ?_
  refine g_aload_n X dL_law_2457 rfl 4 rfl ?_
  refine g_arg X D 1 6 1 dL_law_2458 dL_law_2459 dL_law_2461 dL_law_2462 dL_law_2463 (by decide) rfl rfl (by omega) ?_
  refine g_i2c X dL_law_2464 ?_
  refine g_callV (As := [.int (i2cc (xs (i + 1)))]) (ci := 4) X dL_law_2465 (c_X4_append κ.l hl κ.Γ M1 a u hMR1 (i2cc (xs (i + 1))) hG.2.2.2.1.1) k1472 k1473 k1474 k5 k1475 rfl (MRep.obj hMR1) ⟨rfl, by decide, by decide, (show (parseMethodDescriptor yX4_append.desc).map (fun d => d.parameters.length) = some 1 by decide +kernel)⟩ rfl (Nat.le_of_ble_eq_true rfl) (by rw [hRm]; decide) (by rw [hRm]; exact ⟨by (show _ ≤ 603072); omega, by (show _ ≤ 7182442); omega⟩) (fun v2 M2 h2 => ?_) (fun E9 M9 h9 => by have := h9.1.trans e2; cases this)
  obtain ⟨g2, hMR2, hF2⟩ := h2
  have g2 := g2.trans e2
  cases g2
  refine g_istore (L' := [(7, .int n1), (6, .int k1), (5, .int (nI i)), (4, .ref od), (3, .ref o), (2, .ref (a 0)), (1, .ref (A 313)), (0, .ref sb)]) X dL_law_2468 (by rw [hnL]; decide) rfl ?_
  refine g_aload_n X dL_law_2470 rfl 5 rfl ?_
  refine g_callV_rd (As := []) (ci := 4) (v := some (.int ((mAppend u (i2cc (xs (i + 1)))).2.1 0))) X dL_law_2471 (c_X4_thrown κ.l hl κ.Γ M2 a _ hMR2) k1150 k1151 k1152 k5 k1153 rfl (MRep.obj hMR2) ⟨rfl, by decide, by decide, (show (parseMethodDescriptor yX4_thrown.desc).map (fun d => d.parameters.length) = some 0 by decide +kernel)⟩ rfl (Nat.le_of_ble_eq_true rfl) (by rw [hRm]; decide) (by rw [hRm]; exact ⟨by (show _ ≤ 603072); omega, by (show _ ≤ 7182442); omega⟩) ?_
  refine g_lit (y := k1) e3 ?_
  refine g_iload X dL_law_2474 1 rfl ?_
  refine g_icmp_eq (tgt := 2481) X dL_law_2476 (by decide) (fun _ => ?_) (fun h => absurd rfl h)
  refine g_iload X dL_law_2481 1 rfl ?_
  have hW2 : LW κ A a o od (pAppend w (i2cc (xs (i + 1)))).2 (mAppend u (i2cc (xs (i + 1)))).2 M2 := ⟨D.b hBR1 hF2, hMR2, ⟨f1, D.oM ho1 hF2⟩, ⟨fd, D.odM hx1 hF2⟩⟩
  have kE : G κ M2 (cells + 3) (slots + 18) [(7, .int n1), (6, .int k1), (5, .int (nI i)), (4, .ref od), (3, .ref o), (2, .ref (a 0)), (1, .ref (A 313)), (0, .ref sb)] 2498 [] := by
    refine g_goto (tgt := 2980) X dL_law_2498 (by decide) ?_
    refine g_locs [2, 3, 4, 5, 6, 7] (L' := LL sb A a o od i) rfl ?_
    exact k9 _ hW2
  refine g_if_ne (tgt := 2498) X dL_law_2483 (by decide) (fun _ => kE) (fun z0 => ?_)
  have e5 := e4 z0
  refine g_aload_n X dL_law_2486 rfl 4 rfl ?_
  refine g_iconst (v := 0) X dL_law_2487 (by decide) ?_
  refine g_laload X dL_law_2488 (D.oM ho1 hF2) vin01 ?_
  show G κ M2 _ _ _ _ (.long (f1 0) :: _)
  refine g_iload X dL_law_2489 0 rfl ?_
  refine g_i2l X dL_law_2491 ?_
  refine g_lcmp0 X dL_law_2492 e5 ?_
  exact g_if_eq (tgt := 2498) X dL_law_2493 (by decide) (fun _ => kE) (fun h => absurd rfl h)
set_option maxRecDepth 100000 in
set_option maxHeartbeats 4000000 in
theorem lc_run {κ : KT} {tab : List ExceptionTableEntry} {nm : String} {M : Hp} {cells slots : Nat} {sb Ls o od i : Nat} {xs : Nat → Int32} {A a : Nat → Nat} (X : Cx κ RL cL_law (some .boolean) tab nm) (hl : κ.l.stackTraces = false) (hnL : κ.nL = 9) (hRm : κ.R = room_1) (D : LD κ sb Ls xs A a o od) {w : PV} {u : HV} (hW : LW κ A a o od w u M) (hG : LG w u) (hi : i + 3 < Ls) (hc : cells + 3 ≤ 603072) (hs : slots + 18 ≤ 7182442) (hS : SmV isI [eArg, eSta] (pRun w) (mRun u)) (k9 : ∀ M', LW κ A a o od (pRun w).2 (mRun u).2 M' → G κ M' (cells + 3) (slots + 18) (LL sb A a o od i) 2980 []) : G κ M cells slots (LL sb A a o od i) 2501 [] := by
  obtain ⟨hBR, hMR, ⟨fo, ho⟩, ⟨fd, hod⟩⟩ := hW
  refine g_aload_n X dL_law_2501 rfl 4 rfl ?_
  refine g_aload_n X dL_law_2502 rfl 2 rfl ?_
  refine g_callSX (As := [.ref (A 313), .ref o]) X dL_law_2503 (c_L_run κ.l hl κ.Γ M A w hBR hG.1   o fo ho D.2.2.1.1 hS.inn) k860 k861 k0 k862 ⟨by decide, by decide, (show (parseMethodDescriptor yL_run.desc).map (fun d => d.parameters.length) = some 2 by decide +kernel)⟩ rfl (Nat.le_of_ble_eq_true rfl) (by rw [hRm]; decide) (by rw [hRm]; exact ⟨by (show _ ≤ 603072); omega, by (show _ ≤ 7182442); omega⟩) (fun v1 M1 h1 => ?_) (fun E9 M9 h9 => ?_)
  rotate_left
  · obtain ⟨f1, -, -, -, hA1⟩ := h9
    obtain ⟨k1, z1, -, e1, -, -, -⟩ := hS.ans hA1 (by decide +kernel) (by decide)
    cases e1
  obtain ⟨f1, hBR1, ho1, hF1, hA1⟩ := h1
  obtain ⟨k1, z1, ⟨n1, rfl⟩, e1, e2, e3, e4⟩ := hS.ans hA1 (by decide +kernel) (by decide)
  cases e1
  have hMR1 := D.m hMR hF1
  have hx1 := D.odW hod hF1
  refine g_istore (L' := [(6, .int k1), (5, .int (nI i)), (4, .ref od), (3, .ref o), (2, .ref (a 0)), (1, .ref (A 313)), (0, .ref sb)]) X dL_law_2506 (by rw [hnL]; decide) rfl ?_
  refine g_aload_n X dL_law_2508 rfl 4 rfl ?_
  refine g_callV (As := []) (ci := 4) X dL_law_2509 (c_X4_run κ.l hl κ.Γ M1 a u hMR1  hG.2.2.2.1 hG.2.1 hG.2.2.1) k1476 k1477 k1478 k5 k1479 rfl (MRep.obj hMR1) ⟨rfl, by decide, by decide, (show (parseMethodDescriptor yX4_run.desc).map (fun d => d.parameters.length) = some 0 by decide +kernel)⟩ rfl (Nat.le_of_ble_eq_true rfl) (by rw [hRm]; decide) (by rw [hRm]; exact ⟨by (show _ ≤ 603072); omega, by (show _ ≤ 7182442); omega⟩) (fun v2 M2 h2 => ?_) (fun E9 M9 h9 => by have := h9.1.trans e2; cases this)
  obtain ⟨g2, hMR2, hF2⟩ := h2
  have g2 := g2.trans e2
  cases g2
  refine g_istore (L' := [(7, .int n1), (6, .int k1), (5, .int (nI i)), (4, .ref od), (3, .ref o), (2, .ref (a 0)), (1, .ref (A 313)), (0, .ref sb)]) X dL_law_2512 (by rw [hnL]; decide) rfl ?_
  refine g_aload_n X dL_law_2514 rfl 5 rfl ?_
  refine g_callV_rd (As := []) (ci := 4) (v := some (.int ((mRun u).2.1 0))) X dL_law_2515 (c_X4_thrown κ.l hl κ.Γ M2 a _ hMR2) k1150 k1151 k1152 k5 k1153 rfl (MRep.obj hMR2) ⟨rfl, by decide, by decide, (show (parseMethodDescriptor yX4_thrown.desc).map (fun d => d.parameters.length) = some 0 by decide +kernel)⟩ rfl (Nat.le_of_ble_eq_true rfl) (by rw [hRm]; decide) (by rw [hRm]; exact ⟨by (show _ ≤ 603072); omega, by (show _ ≤ 7182442); omega⟩) ?_
  refine g_lit (y := k1) e3 ?_
  refine g_iload X dL_law_2518 1 rfl ?_
  refine g_icmp_eq (tgt := 2525) X dL_law_2520 (by decide) (fun _ => ?_) (fun h => absurd rfl h)
  refine g_iload X dL_law_2525 1 rfl ?_
  have hW2 : LW κ A a o od (pRun w).2 (mRun u).2 M2 := ⟨D.b hBR1 hF2, hMR2, ⟨f1, D.oM ho1 hF2⟩, ⟨fd, D.odM hx1 hF2⟩⟩
  have kE : G κ M2 (cells + 3) (slots + 18) [(7, .int n1), (6, .int k1), (5, .int (nI i)), (4, .ref od), (3, .ref o), (2, .ref (a 0)), (1, .ref (A 313)), (0, .ref sb)] 2542 [] := by
    refine g_goto (tgt := 2980) X dL_law_2542 (by decide) ?_
    refine g_locs [2, 3, 4, 5, 6, 7] (L' := LL sb A a o od i) rfl ?_
    exact k9 _ hW2
  refine g_if_ne (tgt := 2542) X dL_law_2527 (by decide) (fun _ => kE) (fun z0 => ?_)
  have e5 := e4 z0
  refine g_aload_n X dL_law_2530 rfl 4 rfl ?_
  refine g_iconst (v := 0) X dL_law_2531 (by decide) ?_
  refine g_laload X dL_law_2532 (D.oM ho1 hF2) vin01 ?_
  show G κ M2 _ _ _ _ (.long (f1 0) :: _)
  refine g_iload X dL_law_2533 0 rfl ?_
  refine g_i2l X dL_law_2535 ?_
  refine g_lcmp0 X dL_law_2536 e5 ?_
  exact g_if_eq (tgt := 2542) X dL_law_2537 (by decide) (fun _ => kE) (fun h => absurd rfl h)
set_option maxRecDepth 100000 in
set_option maxHeartbeats 4000000 in
theorem lc_errorPosition {κ : KT} {tab : List ExceptionTableEntry} {nm : String} {M : Hp} {cells slots : Nat} {sb Ls o od i : Nat} {xs : Nat → Int32} {A a : Nat → Nat} (X : Cx κ RL cL_law (some .boolean) tab nm) (hl : κ.l.stackTraces = false) (hnL : κ.nL = 9) (hRm : κ.R = room_1) (D : LD κ sb Ls xs A a o od) {w : PV} {u : HV} (hW : LW κ A a o od w u M) (hG : LG w u) (hi : i + 3 < Ls) (hc : cells + 3 ≤ 603072) (hs : slots + 18 ≤ 7182442) (hS : SmV isI [eEle] (pErrorPosition w) (mErrorPosition u)) (k9 : ∀ M', LW κ A a o od (pErrorPosition w).2 (mErrorPosition u).2 M' → G κ M' (cells + 3) (slots + 18) (LL sb A a o od i) 2980 []) : G κ M cells slots (LL sb A a o od i) 2545 [] := by
  obtain ⟨hBR, hMR, ⟨fo, ho⟩, ⟨fd, hod⟩⟩ := hW
  refine g_aload_n X dL_law_2545 rfl 4 rfl ?_
  refine g_aload_n X dL_law_2546 rfl 2 rfl ?_
  refine g_callSX (As := [.ref (A 313), .ref o]) X dL_law_2547 (c_L_errorPosition κ.l hl κ.Γ M A w hBR hG.1   o fo ho D.2.2.1.1 hS.inn) k985 k986 k0 k987 ⟨by decide, by decide, (show (parseMethodDescriptor yL_errorPosition.desc).map (fun d => d.parameters.length) = some 2 by decide +kernel)⟩ rfl (Nat.le_of_ble_eq_true rfl) (by rw [hRm]; decide) (by rw [hRm]; exact ⟨by (show _ ≤ 603072); omega, by (show _ ≤ 7182442); omega⟩) (fun v1 M1 h1 => ?_) (fun E9 M9 h9 => ?_)
  rotate_left
  · obtain ⟨f1, -, -, -, hA1⟩ := h9
    obtain ⟨k1, z1, -, e1, -, -, -⟩ := hS.ans hA1 (by decide +kernel) (by decide)
    cases e1
  obtain ⟨f1, hBR1, ho1, hF1, hA1⟩ := h1
  obtain ⟨k1, z1, ⟨n1, rfl⟩, e1, e2, e3, e4⟩ := hS.ans hA1 (by decide +kernel) (by decide)
  cases e1
  have hMR1 := D.m hMR hF1
  have hx1 := D.odW hod hF1
  refine g_istore (L' := [(6, .int k1), (5, .int (nI i)), (4, .ref od), (3, .ref o), (2, .ref (a 0)), (1, .ref (A 313)), (0, .ref sb)]) X dL_law_2550 (by rw [hnL]; decide) rfl ?_
  refine g_aload_n X dL_law_2552 rfl 4 rfl ?_
  refine g_callV (As := []) (ci := 4) X dL_law_2553 (c_X4_errorPosition κ.l hl κ.Γ M1 a u hMR1  ) k1546 k1547 k1548 k5 k1549 rfl (MRep.obj hMR1) ⟨rfl, by decide, by decide, (show (parseMethodDescriptor yX4_errorPosition.desc).map (fun d => d.parameters.length) = some 0 by decide +kernel)⟩ rfl (Nat.le_of_ble_eq_true rfl) (by rw [hRm]; decide) (by rw [hRm]; exact ⟨by (show _ ≤ 603072); omega, by (show _ ≤ 7182442); omega⟩) (fun v2 M2 h2 => ?_) (fun E9 M9 h9 => by have := h9.1.trans e2; cases this)
  obtain ⟨g2, hMR2, hF2⟩ := h2
  have g2 := g2.trans e2
  cases g2
  refine g_istore (L' := [(7, .int n1), (6, .int k1), (5, .int (nI i)), (4, .ref od), (3, .ref o), (2, .ref (a 0)), (1, .ref (A 313)), (0, .ref sb)]) X dL_law_2556 (by rw [hnL]; decide) rfl ?_
  refine g_aload_n X dL_law_2558 rfl 5 rfl ?_
  refine g_callV_rd (As := []) (ci := 4) (v := some (.int ((mErrorPosition u).2.1 0))) X dL_law_2559 (c_X4_thrown κ.l hl κ.Γ M2 a _ hMR2) k1150 k1151 k1152 k5 k1153 rfl (MRep.obj hMR2) ⟨rfl, by decide, by decide, (show (parseMethodDescriptor yX4_thrown.desc).map (fun d => d.parameters.length) = some 0 by decide +kernel)⟩ rfl (Nat.le_of_ble_eq_true rfl) (by rw [hRm]; decide) (by rw [hRm]; exact ⟨by (show _ ≤ 603072); omega, by (show _ ≤ 7182442); omega⟩) ?_
  refine g_lit (y := k1) e3 ?_
  refine g_iload X dL_law_2562 1 rfl ?_
  refine g_icmp_eq (tgt := 2569) X dL_law_2564 (by decide) (fun _ => ?_) (fun h => absurd rfl h)
  refine g_iload X dL_law_2569 1 rfl ?_
  have hW2 : LW κ A a o od (pErrorPosition w).2 (mErrorPosition u).2 M2 := ⟨D.b hBR1 hF2, hMR2, ⟨f1, D.oM ho1 hF2⟩, ⟨fd, D.odM hx1 hF2⟩⟩
  have kE : G κ M2 (cells + 3) (slots + 18) [(7, .int n1), (6, .int k1), (5, .int (nI i)), (4, .ref od), (3, .ref o), (2, .ref (a 0)), (1, .ref (A 313)), (0, .ref sb)] 2586 [] := by
    refine g_goto (tgt := 2980) X dL_law_2586 (by decide) ?_
    refine g_locs [2, 3, 4, 5, 6, 7] (L' := LL sb A a o od i) rfl ?_
    exact k9 _ hW2
  refine g_if_ne (tgt := 2586) X dL_law_2571 (by decide) (fun _ => kE) (fun z0 => ?_)
  have e5 := e4 z0
  refine g_aload_n X dL_law_2574 rfl 4 rfl ?_
  refine g_iconst (v := 0) X dL_law_2575 (by decide) ?_
  refine g_laload X dL_law_2576 (D.oM ho1 hF2) vin01 ?_
  show G κ M2 _ _ _ _ (.long (f1 0) :: _)
  refine g_iload X dL_law_2577 0 rfl ?_
  refine g_i2l X dL_law_2579 ?_
  refine g_lcmp0 X dL_law_2580 e5 ?_
  exact g_if_eq (tgt := 2586) X dL_law_2581 (by decide) (fun _ => kE) (fun h => absurd rfl h)
set_option maxRecDepth 100000 in
set_option maxHeartbeats 4000000 in
theorem lc_failedCommand {κ : KT} {tab : List ExceptionTableEntry} {nm : String} {M : Hp} {cells slots : Nat} {sb Ls o od i : Nat} {xs : Nat → Int32} {A a : Nat → Nat} (X : Cx κ RL cL_law (some .boolean) tab nm) (hl : κ.l.stackTraces = false) (hnL : κ.nL = 9) (hRm : κ.R = room_1) (D : LD κ sb Ls xs A a o od) {w : PV} {u : HV} (hW : LW κ A a o od w u M) (hG : LG w u) (hi : i + 3 < Ls) (hc : cells + 3 ≤ 603072) (hs : slots + 18 ≤ 7182442) (hS : SmV isI [eEle] (pFailedCommand w) (mFailedCommand u)) (k9 : ∀ M', LW κ A a o od (pFailedCommand w).2 (mFailedCommand u).2 M' → G κ M' (cells + 3) (slots + 18) (LL sb A a o od i) 2980 []) : G κ M cells slots (LL sb A a o od i) 2589 [] := by
  obtain ⟨hBR, hMR, ⟨fo, ho⟩, ⟨fd, hod⟩⟩ := hW
  refine g_aload_n X dL_law_2589 rfl 4 rfl ?_
  refine g_aload_n X dL_law_2590 rfl 2 rfl ?_
  refine g_callSX (As := [.ref (A 313), .ref o]) X dL_law_2591 (c_L_failedCommand κ.l hl κ.Γ M A w hBR hG.1   o fo ho D.2.2.1.1 hS.inn) k992 k993 k0 k994 ⟨by decide, by decide, (show (parseMethodDescriptor yL_failedCommand.desc).map (fun d => d.parameters.length) = some 2 by decide +kernel)⟩ rfl (Nat.le_of_ble_eq_true rfl) (by rw [hRm]; decide) (by rw [hRm]; exact ⟨by (show _ ≤ 603072); omega, by (show _ ≤ 7182442); omega⟩) (fun v1 M1 h1 => ?_) (fun E9 M9 h9 => ?_)
  rotate_left
  · obtain ⟨f1, -, -, -, hA1⟩ := h9
    obtain ⟨k1, z1, -, e1, -, -, -⟩ := hS.ans hA1 (by decide +kernel) (by decide)
    cases e1
  obtain ⟨f1, hBR1, ho1, hF1, hA1⟩ := h1
  obtain ⟨k1, z1, ⟨n1, rfl⟩, e1, e2, e3, e4⟩ := hS.ans hA1 (by decide +kernel) (by decide)
  cases e1
  have hMR1 := D.m hMR hF1
  have hx1 := D.odW hod hF1
  refine g_istore (L' := [(6, .int k1), (5, .int (nI i)), (4, .ref od), (3, .ref o), (2, .ref (a 0)), (1, .ref (A 313)), (0, .ref sb)]) X dL_law_2594 (by rw [hnL]; decide) rfl ?_
  refine g_aload_n X dL_law_2596 rfl 4 rfl ?_
  refine g_callV (As := []) (ci := 4) X dL_law_2597 (c_X4_failedCommand κ.l hl κ.Γ M1 a u hMR1  ) k1550 k1551 k1552 k5 k1553 rfl (MRep.obj hMR1) ⟨rfl, by decide, by decide, (show (parseMethodDescriptor yX4_failedCommand.desc).map (fun d => d.parameters.length) = some 0 by decide +kernel)⟩ rfl (Nat.le_of_ble_eq_true rfl) (by rw [hRm]; decide) (by rw [hRm]; exact ⟨by (show _ ≤ 603072); omega, by (show _ ≤ 7182442); omega⟩) (fun v2 M2 h2 => ?_) (fun E9 M9 h9 => by have := h9.1.trans e2; cases this)
  obtain ⟨g2, hMR2, hF2⟩ := h2
  have g2 := g2.trans e2
  cases g2
  refine g_istore (L' := [(7, .int n1), (6, .int k1), (5, .int (nI i)), (4, .ref od), (3, .ref o), (2, .ref (a 0)), (1, .ref (A 313)), (0, .ref sb)]) X dL_law_2600 (by rw [hnL]; decide) rfl ?_
  refine g_aload_n X dL_law_2602 rfl 5 rfl ?_
  refine g_callV_rd (As := []) (ci := 4) (v := some (.int ((mFailedCommand u).2.1 0))) X dL_law_2603 (c_X4_thrown κ.l hl κ.Γ M2 a _ hMR2) k1150 k1151 k1152 k5 k1153 rfl (MRep.obj hMR2) ⟨rfl, by decide, by decide, (show (parseMethodDescriptor yX4_thrown.desc).map (fun d => d.parameters.length) = some 0 by decide +kernel)⟩ rfl (Nat.le_of_ble_eq_true rfl) (by rw [hRm]; decide) (by rw [hRm]; exact ⟨by (show _ ≤ 603072); omega, by (show _ ≤ 7182442); omega⟩) ?_
  refine g_lit (y := k1) e3 ?_
  refine g_iload X dL_law_2606 1 rfl ?_
  refine g_icmp_eq (tgt := 2613) X dL_law_2608 (by decide) (fun _ => ?_) (fun h => absurd rfl h)
  refine g_iload X dL_law_2613 1 rfl ?_
  have hW2 : LW κ A a o od (pFailedCommand w).2 (mFailedCommand u).2 M2 := ⟨D.b hBR1 hF2, hMR2, ⟨f1, D.oM ho1 hF2⟩, ⟨fd, D.odM hx1 hF2⟩⟩
  have kE : G κ M2 (cells + 3) (slots + 18) [(7, .int n1), (6, .int k1), (5, .int (nI i)), (4, .ref od), (3, .ref o), (2, .ref (a 0)), (1, .ref (A 313)), (0, .ref sb)] 2630 [] := by
    refine g_goto (tgt := 2980) X dL_law_2630 (by decide) ?_
    refine g_locs [2, 3, 4, 5, 6, 7] (L' := LL sb A a o od i) rfl ?_
    exact k9 _ hW2
  refine g_if_ne (tgt := 2630) X dL_law_2615 (by decide) (fun _ => kE) (fun z0 => ?_)
  have e5 := e4 z0
  refine g_aload_n X dL_law_2618 rfl 4 rfl ?_
  refine g_iconst (v := 0) X dL_law_2619 (by decide) ?_
  refine g_laload X dL_law_2620 (D.oM ho1 hF2) vin01 ?_
  show G κ M2 _ _ _ _ (.long (f1 0) :: _)
  refine g_iload X dL_law_2621 0 rfl ?_
  refine g_i2l X dL_law_2623 ?_
  refine g_lcmp0 X dL_law_2624 e5 ?_
  exact g_if_eq (tgt := 2630) X dL_law_2625 (by decide) (fun _ => kE) (fun h => absurd rfl h)
set_option maxRecDepth 100000 in
set_option maxHeartbeats 4000000 in
theorem lc_describeBill {κ : KT} {tab : List ExceptionTableEntry} {nm : String} {M : Hp} {cells slots : Nat} {sb Ls o od i : Nat} {xs : Nat → Int32} {A a : Nat → Nat} (X : Cx κ RL cL_law (some .boolean) tab nm) (hl : κ.l.stackTraces = false) (hnL : κ.nL = 9) (hRm : κ.R = room_1) (D : LD κ sb Ls xs A a o od) {w : PV} {u : HV} (hW : LW κ A a o od w u M) (hG : LG w u) (hi : i + 3 < Ls) (hc : cells + 3 ≤ 603072) (hs : slots + 18 ≤ 7182442) (hS : SmV isI [eIdx] (pDescribeBill w (xs (i + 1))) (mDescribeBill u (xs (i + 1)))) (k9 : ∀ M', LW κ A a o od (pDescribeBill w (xs (i + 1))).2 (mDescribeBill u (xs (i + 1))).2 M' → G κ M' (cells + 3) (slots + 18) (LL sb A a o od i) 2980 []) : G κ M cells slots (LL sb A a o od i) 2633 [] := by
  obtain ⟨hBR, hMR, ⟨fo, ho⟩, ⟨fd, hod⟩⟩ := hW
  refine g_aload_n X dL_law_2633 rfl 4 rfl ?_
  refine g_arg X D 1 5 0 dL_law_2634 dL_law_2635 dL_law_2637 dL_law_2638 dL_law_2639 (by decide) rfl rfl (by omega) ?_
  refine g_aload_n X dL_law_2640 rfl 2 rfl ?_
  refine g_callSX (As := [.ref (A 313), .int (xs (i + 1)), .ref o]) X dL_law_2641 (c_L_describeBill κ.l hl κ.Γ M A w hBR hG.1 (xs (i + 1))  o fo ho D.2.2.1.1 hS.inn) k999 k1000 k0 k1001 ⟨by decide, by decide, (show (parseMethodDescriptor yL_describeBill.desc).map (fun d => d.parameters.length) = some 3 by decide +kernel)⟩ rfl (Nat.le_of_ble_eq_true rfl) (by rw [hRm]; decide) (by rw [hRm]; exact ⟨by (show _ ≤ 603072); omega, by (show _ ≤ 7182442); omega⟩) (fun v1 M1 h1 => ?_) (fun E9 M9 h9 => ?_)
  rotate_left
  · obtain ⟨f1, -, -, -, hA1⟩ := h9
    obtain ⟨k1, z1, -, e1, -, -, -⟩ := hS.ans hA1 (by decide +kernel) (by decide)
    cases e1
  obtain ⟨f1, hBR1, ho1, hF1, hA1⟩ := h1
  obtain ⟨k1, z1, ⟨n1, rfl⟩, e1, e2, e3, e4⟩ := hS.ans hA1 (by decide +kernel) (by decide)
  cases e1
  have hMR1 := D.m hMR hF1
  have hx1 := D.odW hod hF1
  refine g_istore (L' := [(6, .int k1), (5, .int (nI i)), (4, .ref od), (3, .ref o), (2, .ref (a 0)), (1, .ref (A 313)), (0, .ref sb)]) X dL_law_2644 (by rw [hnL]; decide) rfl ?_
  refine g_aload_n X dL_law_2646 rfl 4 rfl ?_
  refine g_arg X D 1 6 1 dL_law_2647 dL_law_2648 dL_law_2650 dL_law_2651 dL_law_2652 (by decide) rfl rfl (by omega) ?_
  refine g_callV (As := [.int (xs (i + 1))]) (ci := 4) X dL_law_2653 (c_X4_describeBill κ.l hl κ.Γ M1 a u hMR1 (xs (i + 1)) hG.2.1 hG.2.2.2.2.2.2.1) k1452 k1453 k1454 k5 k1455 rfl (MRep.obj hMR1) ⟨rfl, by decide, by decide, (show (parseMethodDescriptor yX4_describeBill.desc).map (fun d => d.parameters.length) = some 1 by decide +kernel)⟩ rfl (Nat.le_of_ble_eq_true rfl) (by rw [hRm]; decide) (by rw [hRm]; exact ⟨by (show _ ≤ 603072); omega, by (show _ ≤ 7182442); omega⟩) (fun v2 M2 h2 => ?_) (fun E9 M9 h9 => by have := h9.1.trans e2; cases this)
  obtain ⟨g2, hMR2, hF2⟩ := h2
  have g2 := g2.trans e2
  cases g2
  refine g_istore (L' := [(7, .int n1), (6, .int k1), (5, .int (nI i)), (4, .ref od), (3, .ref o), (2, .ref (a 0)), (1, .ref (A 313)), (0, .ref sb)]) X dL_law_2656 (by rw [hnL]; decide) rfl ?_
  refine g_aload_n X dL_law_2658 rfl 5 rfl ?_
  refine g_callV_rd (As := []) (ci := 4) (v := some (.int ((mDescribeBill u (xs (i + 1))).2.1 0))) X dL_law_2659 (c_X4_thrown κ.l hl κ.Γ M2 a _ hMR2) k1150 k1151 k1152 k5 k1153 rfl (MRep.obj hMR2) ⟨rfl, by decide, by decide, (show (parseMethodDescriptor yX4_thrown.desc).map (fun d => d.parameters.length) = some 0 by decide +kernel)⟩ rfl (Nat.le_of_ble_eq_true rfl) (by rw [hRm]; decide) (by rw [hRm]; exact ⟨by (show _ ≤ 603072); omega, by (show _ ≤ 7182442); omega⟩) ?_
  refine g_lit (y := k1) e3 ?_
  refine g_iload X dL_law_2662 1 rfl ?_
  refine g_icmp_eq (tgt := 2669) X dL_law_2664 (by decide) (fun _ => ?_) (fun h => absurd rfl h)
  refine g_iload X dL_law_2669 1 rfl ?_
  have hW2 : LW κ A a o od (pDescribeBill w (xs (i + 1))).2 (mDescribeBill u (xs (i + 1))).2 M2 := ⟨D.b hBR1 hF2, hMR2, ⟨f1, D.oM ho1 hF2⟩, ⟨fd, D.odM hx1 hF2⟩⟩
  have kE : G κ M2 (cells + 3) (slots + 18) [(7, .int n1), (6, .int k1), (5, .int (nI i)), (4, .ref od), (3, .ref o), (2, .ref (a 0)), (1, .ref (A 313)), (0, .ref sb)] 2686 [] := by
    refine g_goto (tgt := 2980) X dL_law_2686 (by decide) ?_
    refine g_locs [2, 3, 4, 5, 6, 7] (L' := LL sb A a o od i) rfl ?_
    exact k9 _ hW2
  refine g_if_ne (tgt := 2686) X dL_law_2671 (by decide) (fun _ => kE) (fun z0 => ?_)
  have e5 := e4 z0
  refine g_aload_n X dL_law_2674 rfl 4 rfl ?_
  refine g_iconst (v := 0) X dL_law_2675 (by decide) ?_
  refine g_laload X dL_law_2676 (D.oM ho1 hF2) vin01 ?_
  show G κ M2 _ _ _ _ (.long (f1 0) :: _)
  refine g_iload X dL_law_2677 0 rfl ?_
  refine g_i2l X dL_law_2679 ?_
  refine g_lcmp0 X dL_law_2680 e5 ?_
  exact g_if_eq (tgt := 2686) X dL_law_2681 (by decide) (fun _ => kE) (fun h => absurd rfl h)
set_option maxRecDepth 100000 in
set_option maxHeartbeats 4000000 in
theorem lc_lineAt {κ : KT} {tab : List ExceptionTableEntry} {nm : String} {M : Hp} {cells slots : Nat} {sb Ls o od i : Nat} {xs : Nat → Int32} {A a : Nat → Nat} (X : Cx κ RL cL_law (some .boolean) tab nm) (hl : κ.l.stackTraces = false) (hnL : κ.nL = 9) (hRm : κ.R = room_1) (D : LD κ sb Ls xs A a o od) {w : PV} {u : HV} (hW : LW κ A a o od w u M) (hG : LG w u) (hi : i + 3 < Ls) (hc : cells + 3 ≤ 603072) (hs : slots + 18 ≤ 7182442) (hS : SmV isI [eIdx] (pLineAt w (xs (i + 1))) (mLineAt u (xs (i + 1)))) (k9 : ∀ M', LW κ A a o od (pLineAt w (xs (i + 1))).2 (mLineAt u (xs (i + 1))).2 M' → G κ M' (cells + 3) (slots + 18) (LL sb A a o od i) 2980 []) : G κ M cells slots (LL sb A a o od i) 2689 [] := by
  obtain ⟨hBR, hMR, ⟨fo, ho⟩, ⟨fd, hod⟩⟩ := hW
  refine g_aload_n X dL_law_2689 rfl 4 rfl ?_
  refine g_arg X D 1 5 0 dL_law_2690 dL_law_2691 dL_law_2693 dL_law_2694 dL_law_2695 (by decide) rfl rfl (by omega) ?_
  refine g_aload_n X dL_law_2696 rfl 2 rfl ?_
  refine g_callSX (As := [.ref (A 313), .int (xs (i + 1)), .ref o]) X dL_law_2697 (c_L_lineAt κ.l hl κ.Γ M A w hBR hG.1 (xs (i + 1))  o fo ho D.2.2.1.1 hS.inn) k1019 k1020 k0 k1021 ⟨by decide, by decide, (show (parseMethodDescriptor yL_lineAt.desc).map (fun d => d.parameters.length) = some 3 by decide +kernel)⟩ rfl (Nat.le_of_ble_eq_true rfl) (by rw [hRm]; decide) (by rw [hRm]; exact ⟨by (show _ ≤ 603072); omega, by (show _ ≤ 7182442); omega⟩) (fun v1 M1 h1 => ?_) (fun E9 M9 h9 => ?_)
  rotate_left
  · obtain ⟨f1, -, -, -, hA1⟩ := h9
    obtain ⟨k1, z1, -, e1, -, -, -⟩ := hS.ans hA1 (by decide +kernel) (by decide)
    cases e1
  obtain ⟨f1, hBR1, ho1, hF1, hA1⟩ := h1
  obtain ⟨k1, z1, ⟨n1, rfl⟩, e1, e2, e3, e4⟩ := hS.ans hA1 (by decide +kernel) (by decide)
  cases e1
  have hMR1 := D.m hMR hF1
  have hx1 := D.odW hod hF1
  refine g_istore (L' := [(6, .int k1), (5, .int (nI i)), (4, .ref od), (3, .ref o), (2, .ref (a 0)), (1, .ref (A 313)), (0, .ref sb)]) X dL_law_2700 (by rw [hnL]; decide) rfl ?_
  refine g_aload_n X dL_law_2702 rfl 4 rfl ?_
  refine g_arg X D 1 6 1 dL_law_2703 dL_law_2704 dL_law_2706 dL_law_2707 dL_law_2708 (by decide) rfl rfl (by omega) ?_
  refine g_callV (As := [.int (xs (i + 1))]) (ci := 4) X dL_law_2709 (c_X4_lineAt κ.l hl κ.Γ M1 a u hMR1 (xs (i + 1)) hG.2.2.2.2.1 hG.2.2.2.2.2.1) k1468 k1469 k1470 k5 k1471 rfl (MRep.obj hMR1) ⟨rfl, by decide, by decide, (show (parseMethodDescriptor yX4_lineAt.desc).map (fun d => d.parameters.length) = some 1 by decide +kernel)⟩ rfl (Nat.le_of_ble_eq_true rfl) (by rw [hRm]; decide) (by rw [hRm]; exact ⟨by (show _ ≤ 603072); omega, by (show _ ≤ 7182442); omega⟩) (fun v2 M2 h2 => ?_) (fun E9 M9 h9 => by have := h9.1.trans e2; cases this)
  obtain ⟨g2, hMR2, hF2⟩ := h2
  have g2 := g2.trans e2
  cases g2
  refine g_istore (L' := [(7, .int n1), (6, .int k1), (5, .int (nI i)), (4, .ref od), (3, .ref o), (2, .ref (a 0)), (1, .ref (A 313)), (0, .ref sb)]) X dL_law_2712 (by rw [hnL]; decide) rfl ?_
  refine g_aload_n X dL_law_2714 rfl 5 rfl ?_
  refine g_callV_rd (As := []) (ci := 4) (v := some (.int ((mLineAt u (xs (i + 1))).2.1 0))) X dL_law_2715 (c_X4_thrown κ.l hl κ.Γ M2 a _ hMR2) k1150 k1151 k1152 k5 k1153 rfl (MRep.obj hMR2) ⟨rfl, by decide, by decide, (show (parseMethodDescriptor yX4_thrown.desc).map (fun d => d.parameters.length) = some 0 by decide +kernel)⟩ rfl (Nat.le_of_ble_eq_true rfl) (by rw [hRm]; decide) (by rw [hRm]; exact ⟨by (show _ ≤ 603072); omega, by (show _ ≤ 7182442); omega⟩) ?_
  refine g_lit (y := k1) e3 ?_
  refine g_iload X dL_law_2718 1 rfl ?_
  refine g_icmp_eq (tgt := 2725) X dL_law_2720 (by decide) (fun _ => ?_) (fun h => absurd rfl h)
  refine g_iload X dL_law_2725 1 rfl ?_
  have hW2 : LW κ A a o od (pLineAt w (xs (i + 1))).2 (mLineAt u (xs (i + 1))).2 M2 := ⟨D.b hBR1 hF2, hMR2, ⟨f1, D.oM ho1 hF2⟩, ⟨fd, D.odM hx1 hF2⟩⟩
  have kE : G κ M2 (cells + 3) (slots + 18) [(7, .int n1), (6, .int k1), (5, .int (nI i)), (4, .ref od), (3, .ref o), (2, .ref (a 0)), (1, .ref (A 313)), (0, .ref sb)] 2742 [] := by
    refine g_goto (tgt := 2980) X dL_law_2742 (by decide) ?_
    refine g_locs [2, 3, 4, 5, 6, 7] (L' := LL sb A a o od i) rfl ?_
    exact k9 _ hW2
  refine g_if_ne (tgt := 2742) X dL_law_2727 (by decide) (fun _ => kE) (fun z0 => ?_)
  have e5 := e4 z0
  refine g_aload_n X dL_law_2730 rfl 4 rfl ?_
  refine g_iconst (v := 0) X dL_law_2731 (by decide) ?_
  refine g_laload X dL_law_2732 (D.oM ho1 hF2) vin01 ?_
  show G κ M2 _ _ _ _ (.long (f1 0) :: _)
  refine g_iload X dL_law_2733 0 rfl ?_
  refine g_i2l X dL_law_2735 ?_
  refine g_lcmp0 X dL_law_2736 e5 ?_
  exact g_if_eq (tgt := 2742) X dL_law_2737 (by decide) (fun _ => kE) (fun h => absurd rfl h)
set_option maxRecDepth 100000 in
set_option maxHeartbeats 4000000 in
theorem lc_meanWeight {κ : KT} {tab : List ExceptionTableEntry} {nm : String} {M : Hp} {cells slots : Nat} {sb Ls o od i : Nat} {xs : Nat → Int32} {A a : Nat → Nat} (X : Cx κ RL cL_law (some .boolean) tab nm) (hl : κ.l.stackTraces = false) (hnL : κ.nL = 9) (hRm : κ.R = room_1) (D : LD κ sb Ls xs A a o od) {w : PV} {u : HV} (hW : LW κ A a o od w u M) (hG : LG w u) (hi : i + 3 < Ls) (hc : cells + 3 ≤ 603072) (hs : slots + 18 ≤ 7182442) (hS : SmV isD [eAri] (pMeanWeight w) (mMeanWeight u)) (k9 : ∀ M', LW κ A a o od (pMeanWeight w).2 (mMeanWeight u).2 M' → G κ M' (cells + 3) (slots + 18) (LL sb A a o od i) 2980 []) : G κ M cells slots (LL sb A a o od i) 2745 [] := by
  obtain ⟨hBR, hMR, ⟨fo, ho⟩, ⟨fd, hod⟩⟩ := hW
  refine g_aload_n X dL_law_2745 rfl 4 rfl ?_
  refine g_aload X dL_law_2746 1 rfl ?_
  refine g_callSX (As := [.ref (A 313), .ref od]) X dL_law_2748 (c_L_meanWeight κ.l hl κ.Γ M A w hBR hG.1  hG.2.2.2.2.2.2.2.2.2.2 od fd hod D.2.2.1.2 hS.inn) k1026 k1027 k0 k1028 ⟨by decide, by decide, (show (parseMethodDescriptor yL_meanWeight.desc).map (fun d => d.parameters.length) = some 2 by decide +kernel)⟩ rfl (Nat.le_of_ble_eq_true rfl) (by rw [hRm]; decide) (by rw [hRm]; exact ⟨by (show _ ≤ 603072); omega, by (show _ ≤ 7182442); omega⟩) (fun v1 M1 h1 => ?_) (fun E9 M9 h9 => ?_)
  rotate_left
  · obtain ⟨f1, -, -, -, hA1⟩ := h9
    obtain ⟨k1, z1, -, e1, -, -, -⟩ := hS.ans hA1 (by decide +kernel) (by decide)
    cases e1
  obtain ⟨f1, hBR1, ho1, hF1, hA1⟩ := h1
  obtain ⟨k1, z1, ⟨n1, rfl⟩, e1, e2, e3, e4⟩ := hS.ans hA1 (by decide +kernel) (by decide)
  cases e1
  have hMR1 := D.mD hMR hF1
  have hx1 := D.oW ho hF1
  refine g_istore (L' := [(6, .int k1), (5, .int (nI i)), (4, .ref od), (3, .ref o), (2, .ref (a 0)), (1, .ref (A 313)), (0, .ref sb)]) X dL_law_2751 (by rw [hnL]; decide) rfl ?_
  refine g_aload_n X dL_law_2753 rfl 4 rfl ?_
  refine g_callV (As := []) (ci := 4) X dL_law_2754 (c_X4_meanWeight κ.l hl κ.Γ M1 a u hMR1  hG.2.1 hG.2.2.2.2.2.2.2.2.1) k1362 k1363 k1364 k5 k1365 rfl (MRep.obj hMR1) ⟨rfl, by decide, by decide, (show (parseMethodDescriptor yX4_meanWeight.desc).map (fun d => d.parameters.length) = some 0 by decide +kernel)⟩ rfl (Nat.le_of_ble_eq_true rfl) (by rw [hRm]; decide) (by rw [hRm]; exact ⟨by (show _ ≤ 603072); omega, by (show _ ≤ 7182442); omega⟩) (fun v2 M2 h2 => ?_) (fun E9 M9 h9 => by have := h9.1.trans e2; cases this)
  obtain ⟨g2, hMR2, hF2⟩ := h2
  have g2 := g2.trans e2
  cases g2
  refine g_dstore (L' := [(7, .double n1), (6, .int k1), (5, .int (nI i)), (4, .ref od), (3, .ref o), (2, .ref (a 0)), (1, .ref (A 313)), (0, .ref sb)]) X dL_law_2757 (by rw [hnL]; decide) rfl ?_
  refine g_aload_n X dL_law_2759 rfl 5 rfl ?_
  refine g_callV_rd (As := []) (ci := 4) (v := some (.int ((mMeanWeight u).2.1 0))) X dL_law_2760 (c_X4_thrown κ.l hl κ.Γ M2 a _ hMR2) k1150 k1151 k1152 k5 k1153 rfl (MRep.obj hMR2) ⟨rfl, by decide, by decide, (show (parseMethodDescriptor yX4_thrown.desc).map (fun d => d.parameters.length) = some 0 by decide +kernel)⟩ rfl (Nat.le_of_ble_eq_true rfl) (by rw [hRm]; decide) (by rw [hRm]; exact ⟨by (show _ ≤ 603072); omega, by (show _ ≤ 7182442); omega⟩) ?_
  refine g_lit (y := k1) e3 ?_
  refine g_iload X dL_law_2763 1 rfl ?_
  refine g_icmp_eq (tgt := 2770) X dL_law_2765 (by decide) (fun _ => ?_) (fun h => absurd rfl h)
  refine g_iload X dL_law_2770 1 rfl ?_
  have hW2 : LW κ A a o od (pMeanWeight w).2 (mMeanWeight u).2 M2 := ⟨D.b hBR1 hF2, hMR2, ⟨fo, D.oM hx1 hF2⟩, ⟨f1, D.odM ho1 hF2⟩⟩
  have kE : G κ M2 (cells + 3) (slots + 18) [(7, .double n1), (6, .int k1), (5, .int (nI i)), (4, .ref od), (3, .ref o), (2, .ref (a 0)), (1, .ref (A 313)), (0, .ref sb)] 2807 [] := by
    refine g_goto (tgt := 2980) X dL_law_2807 (by decide) ?_
    refine g_locs [2, 3, 4, 5, 6, 7] (L' := LL sb A a o od i) rfl ?_
    exact k9 _ hW2
  refine g_if_ne (tgt := 2807) X dL_law_2772 (by decide) (fun _ => kE) (fun z0 => ?_)
  have e5 := e4 z0
  have hod2 := D.odM ho1 hF2
  have e5 : f1 0 = n1 := by cases e5; rfl
  subst e5
  refine g_aload X dL_law_2775 3 rfl ?_
  refine g_iconst (v := 0) X dL_law_2777 (by decide) ?_
  refine g_daload X dL_law_2778 hod2 vin01 ?_
  show G κ M2 _ _ _ _ (.double (f1 0) :: _)
  refine g_dload X dL_law_2779 0 rfl ?_
  refine g_dcmp X dL_law_2781 ?_
  refine g_if_eq (tgt := 2807) X dL_law_2782 (by decide) (fun _ => kE) (fun y0 => ?_)
  refine g_aload X dL_law_2785 3 rfl ?_
  refine g_iconst (v := 0) X dL_law_2787 (by decide) ?_
  refine g_daload X dL_law_2788 hod2 vin01 ?_
  show G κ M2 _ _ _ _ (.double (f1 0) :: _)
  refine g_aload X dL_law_2789 3 rfl ?_
  refine g_iconst (v := 0) X dL_law_2791 (by decide) ?_
  refine g_daload X dL_law_2792 hod2 vin01 ?_
  show G κ M2 _ _ _ _ (.double (f1 0) :: _)
  refine g_dcmp X dL_law_2793 ?_
  refine g_if_eq (tgt := 2805) X dL_law_2794 (by decide) (fun y1 => absurd y1 y0) (fun _ => ?_)
  refine g_dload X dL_law_2797 0 rfl ?_
  refine g_dload X dL_law_2799 0 rfl ?_
  refine g_dcmp X dL_law_2801 ?_
  exact g_if_ne (tgt := 2807) X dL_law_2802 (by decide) (fun _ => kE) (fun y1 => absurd y1 y0)
set_option maxRecDepth 100000 in
set_option maxHeartbeats 4000000 in
theorem lc_shareBits {κ : KT} {tab : List ExceptionTableEntry} {nm : String} {M : Hp} {cells slots : Nat} {sb Ls o od i : Nat} {xs : Nat → Int32} {A a : Nat → Nat} (X : Cx κ RL cL_law (some .boolean) tab nm) (hl : κ.l.stackTraces = false) (hnL : κ.nL = 9) (hRm : κ.R = room_1) (D : LD κ sb Ls xs A a o od) {w : PV} {u : HV} (hW : LW κ A a o od w u M) (hG : LG w u) (hi : i + 3 < Ls) (hc : cells + 3 ≤ 603072) (hs : slots + 18 ≤ 7182442) (hS : SmV isI [eIdx, eAri] (pShareBits w (xs (i + 1))) (mShareBits u (xs (i + 1)))) (k9 : ∀ M', LW κ A a o od (pShareBits w (xs (i + 1))).2 (mShareBits u (xs (i + 1))).2 M' → G κ M' (cells + 3) (slots + 18) (LL sb A a o od i) 2980 []) : G κ M cells slots (LL sb A a o od i) 2810 [] := by
  obtain ⟨hBR, hMR, ⟨fo, ho⟩, ⟨fd, hod⟩⟩ := hW
  refine g_aload_n X dL_law_2810 rfl 4 rfl ?_
  refine g_arg X D 1 5 0 dL_law_2811 dL_law_2812 dL_law_2814 dL_law_2815 dL_law_2816 (by decide) rfl rfl (by omega) ?_
  refine g_aload_n X dL_law_2817 rfl 2 rfl ?_
  refine g_callSX (As := [.ref (A 313), .int (xs (i + 1)), .ref o]) X dL_law_2818 (c_L_shareBits κ.l hl κ.Γ M A w hBR hG.1 (xs (i + 1)) (hG.2.2.2.2.2.2.2.2.2.1 _) o fo ho D.2.2.1.1 hS.inn) k1056 k1057 k0 k1058 ⟨by decide, by decide, (show (parseMethodDescriptor yL_shareBits.desc).map (fun d => d.parameters.length) = some 3 by decide +kernel)⟩ rfl (Nat.le_of_ble_eq_true rfl) (by rw [hRm]; decide) (by rw [hRm]; exact ⟨by (show _ ≤ 603072); omega, by (show _ ≤ 7182442); omega⟩) (fun v1 M1 h1 => ?_) (fun E9 M9 h9 => ?_)
  rotate_left
  · obtain ⟨f1, -, -, -, hA1⟩ := h9
    obtain ⟨k1, z1, -, e1, -, -, -⟩ := hS.ans hA1 (by decide +kernel) (by decide)
    cases e1
  obtain ⟨f1, hBR1, ho1, hF1, hA1⟩ := h1
  obtain ⟨k1, z1, ⟨n1, rfl⟩, e1, e2, e3, e4⟩ := hS.ans hA1 (by decide +kernel) (by decide)
  cases e1
  have hMR1 := D.m hMR hF1
  have hx1 := D.odW hod hF1
  refine g_istore (L' := [(6, .int k1), (5, .int (nI i)), (4, .ref od), (3, .ref o), (2, .ref (a 0)), (1, .ref (A 313)), (0, .ref sb)]) X dL_law_2821 (by rw [hnL]; decide) rfl ?_
  refine g_aload_n X dL_law_2823 rfl 4 rfl ?_
  refine g_arg X D 1 6 1 dL_law_2824 dL_law_2825 dL_law_2827 dL_law_2828 dL_law_2829 (by decide) rfl rfl (by omega) ?_
  refine g_callV (As := [.int (xs (i + 1))]) (ci := 4) X dL_law_2830 (c_X4_shareBits κ.l hl κ.Γ M1 a u hMR1 (xs (i + 1)) hG.2.1 hG.2.2.2.2.2.2.2.1) k1366 k1367 k1368 k5 k1369 rfl (MRep.obj hMR1) ⟨rfl, by decide, by decide, (show (parseMethodDescriptor yX4_shareBits.desc).map (fun d => d.parameters.length) = some 1 by decide +kernel)⟩ rfl (Nat.le_of_ble_eq_true rfl) (by rw [hRm]; decide) (by rw [hRm]; exact ⟨by (show _ ≤ 603072); omega, by (show _ ≤ 7182442); omega⟩) (fun v2 M2 h2 => ?_) (fun E9 M9 h9 => by have := h9.1.trans e2; cases this)
  obtain ⟨g2, hMR2, hF2⟩ := h2
  have g2 := g2.trans e2
  cases g2
  refine g_istore (L' := [(7, .int n1), (6, .int k1), (5, .int (nI i)), (4, .ref od), (3, .ref o), (2, .ref (a 0)), (1, .ref (A 313)), (0, .ref sb)]) X dL_law_2833 (by rw [hnL]; decide) rfl ?_
  refine g_aload_n X dL_law_2835 rfl 5 rfl ?_
  refine g_callV_rd (As := []) (ci := 4) (v := some (.int ((mShareBits u (xs (i + 1))).2.1 0))) X dL_law_2836 (c_X4_thrown κ.l hl κ.Γ M2 a _ hMR2) k1150 k1151 k1152 k5 k1153 rfl (MRep.obj hMR2) ⟨rfl, by decide, by decide, (show (parseMethodDescriptor yX4_thrown.desc).map (fun d => d.parameters.length) = some 0 by decide +kernel)⟩ rfl (Nat.le_of_ble_eq_true rfl) (by rw [hRm]; decide) (by rw [hRm]; exact ⟨by (show _ ≤ 603072); omega, by (show _ ≤ 7182442); omega⟩) ?_
  refine g_lit (y := k1) e3 ?_
  refine g_iload X dL_law_2839 1 rfl ?_
  refine g_icmp_eq (tgt := 2846) X dL_law_2841 (by decide) (fun _ => ?_) (fun h => absurd rfl h)
  refine g_iload X dL_law_2846 1 rfl ?_
  have hW2 : LW κ A a o od (pShareBits w (xs (i + 1))).2 (mShareBits u (xs (i + 1))).2 M2 := ⟨D.b hBR1 hF2, hMR2, ⟨f1, D.oM ho1 hF2⟩, ⟨fd, D.odM hx1 hF2⟩⟩
  have kE : G κ M2 (cells + 3) (slots + 18) [(7, .int n1), (6, .int k1), (5, .int (nI i)), (4, .ref od), (3, .ref o), (2, .ref (a 0)), (1, .ref (A 313)), (0, .ref sb)] 2863 [] := by
    refine g_goto (tgt := 2980) X dL_law_2863 (by decide) ?_
    refine g_locs [2, 3, 4, 5, 6, 7] (L' := LL sb A a o od i) rfl ?_
    exact k9 _ hW2
  refine g_if_ne (tgt := 2863) X dL_law_2848 (by decide) (fun _ => kE) (fun z0 => ?_)
  have e5 := e4 z0
  refine g_aload_n X dL_law_2851 rfl 4 rfl ?_
  refine g_iconst (v := 0) X dL_law_2852 (by decide) ?_
  refine g_laload X dL_law_2853 (D.oM ho1 hF2) vin01 ?_
  show G κ M2 _ _ _ _ (.long (f1 0) :: _)
  refine g_iload X dL_law_2854 0 rfl ?_
  refine g_i2l X dL_law_2856 ?_
  refine g_lcmp0 X dL_law_2857 e5 ?_
  exact g_if_eq (tgt := 2863) X dL_law_2858 (by decide) (fun _ => kE) (fun h => absurd rfl h)
set_option maxRecDepth 100000 in
set_option maxHeartbeats 4000000 in
theorem lc_isConsistent {κ : KT} {tab : List ExceptionTableEntry} {nm : String} {M : Hp} {cells slots : Nat} {sb Ls o od i : Nat} {xs : Nat → Int32} {A a : Nat → Nat} (X : Cx κ RL cL_law (some .boolean) tab nm) (hl : κ.l.stackTraces = false) (hnL : κ.nL = 9) (hRm : κ.R = room_1) (D : LD κ sb Ls xs A a o od) {w : PV} {u : HV} (hW : LW κ A a o od w u M) (hG : LG w u) (hi : i + 3 < Ls) (hc : cells + 3 ≤ 603072) (hs : slots + 18 ≤ 7182442) (hS : SmQ (pIsConsistent w) (mIsConsistent u)) (k9 : ∀ M', LW κ A a o od (pIsConsistent w).2 (mIsConsistent u).2 M' → G κ M' (cells + 3) (slots + 18) (LL sb A a o od i) 2980 []) : G κ M cells slots (LL sb A a o od i) 2866 [] := by
  obtain ⟨hBR, hMR, ⟨fo, ho⟩, ⟨fd, hod⟩⟩ := hW
  obtain ⟨z1, e1, e2⟩ := hS
  refine g_aload_n X dL_law_2866 rfl 4 rfl ?_
  refine g_callV (As := []) (ci := 3) X dL_law_2867 (c_X3_isConsistent κ.l hl κ.Γ M A w hBR hG.1) k246 k247 k248 k1 k249 rfl (BRep.obj hBR) ⟨rfl, by decide, by decide, (show (parseMethodDescriptor yX3_isConsistent.desc).map (fun d => d.parameters.length) = some 0 by decide +kernel)⟩ rfl (Nat.le_of_ble_eq_true rfl) (by rw [hRm]; decide) (by rw [hRm]; exact ⟨by (show _ ≤ 603072); omega, by (show _ ≤ 7182442); omega⟩) (fun v1 M1 h1 => ?_) (fun E9 M9 h9 => by have := h9.1.trans e1; cases this)
  obtain ⟨g1, hBR1, hF1⟩ := h1
  have g1 := g1.trans e1
  cases g1
  have hMR1 := D.m2 hMR hF1
  refine g_aload_n X dL_law_2870 rfl 3 rfl ?_
  refine g_callV (As := []) (ci := 4) X dL_law_2871 (c_X4_isConsistent κ.l hl κ.Γ M1 a u hMR1 ) k1448 k1449 k1450 k5 k1451 rfl (MRep.obj hMR1) ⟨rfl, by decide, by decide, (show (parseMethodDescriptor yX4_isConsistent.desc).map (fun d => d.parameters.length) = some 0 by decide +kernel)⟩ rfl (Nat.le_of_ble_eq_true rfl) (by rw [hRm]; decide) (by rw [hRm]; exact ⟨by (show _ ≤ 603072); omega, by (show _ ≤ 7182442); omega⟩) (fun v2 M2 h2 => ?_) (fun E9 M9 h9 => by have := h9.1.trans e2; cases this)
  obtain ⟨g2, hMR2, hF2⟩ := h2
  have g2 := g2.trans e2
  cases g2
  refine g_icmp_eq (tgt := 2980) X dL_law_2874 (by decide) (fun _ => ?_) (fun h => absurd rfl h)
  exact k9 _ ⟨D.b hBR1 hF2, hMR2, ⟨fo, D.oM (D.oA ho hF1) hF2⟩, ⟨fd, D.odM (D.odA hod hF1) hF2⟩⟩
set_option maxRecDepth 100000 in
set_option maxHeartbeats 4000000 in
theorem lc_undo {κ : KT} {tab : List ExceptionTableEntry} {nm : String} {M : Hp} {cells slots : Nat} {sb Ls o od i : Nat} {xs : Nat → Int32} {A a : Nat → Nat} (X : Cx κ RL cL_law (some .boolean) tab nm) (hl : κ.l.stackTraces = false) (hnL : κ.nL = 9) (hRm : κ.R = room_1) (D : LD κ sb Ls xs A a o od) {w : PV} {u : HV} (hW : LW κ A a o od w u M) (hG : LG w u) (hi : i + 3 < Ls) (hc : cells + 3 ≤ 603072) (hs : slots + 18 ≤ 7182442) (hS : SmV isI [eSta] (pUndo w) (mUndo u)) (k9 : ∀ M', LW κ A a o od (pUndo w).2 (mUndo u).2 M' → G κ M' (cells + 3) (slots + 18) (LL sb A a o od i) 2980 []) : G κ M cells slots (LL sb A a o od i) 2879 [] := by
  obtain ⟨hBR, hMR, ⟨fo, ho⟩, ⟨fd, hod⟩⟩ := hW
  refine g_aload_n X dL_law_2879 rfl 4 rfl ?_
  refine g_aload_n X dL_law_2880 rfl 2 rfl ?_
  refine g_callSX (As := [.ref (A 313), .ref o]) X dL_law_2881 (c_L_undo κ.l hl κ.Γ M A w hBR hG.1   o fo ho D.2.2.1.1 hS.inn) k1068 k1069 k0 k1070 ⟨by decide, by decide, (show (parseMethodDescriptor yL_undo.desc).map (fun d => d.parameters.length) = some 2 by decide +kernel)⟩ rfl (Nat.le_of_ble_eq_true rfl) (by rw [hRm]; decide) (by rw [hRm]; exact ⟨by (show _ ≤ 603072); omega, by (show _ ≤ 7182442); omega⟩) (fun v1 M1 h1 => ?_) (fun E9 M9 h9 => ?_)
  rotate_left
  · obtain ⟨f1, -, -, -, hA1⟩ := h9
    obtain ⟨k1, z1, -, e1, -, -, -⟩ := hS.ans hA1 (by decide +kernel) (by decide)
    cases e1
  obtain ⟨f1, hBR1, ho1, hF1, hA1⟩ := h1
  obtain ⟨k1, z1, ⟨n1, rfl⟩, e1, e2, e3, e4⟩ := hS.ans hA1 (by decide +kernel) (by decide)
  cases e1
  have hMR1 := D.m hMR hF1
  have hx1 := D.odW hod hF1
  refine g_istore (L' := [(6, .int k1), (5, .int (nI i)), (4, .ref od), (3, .ref o), (2, .ref (a 0)), (1, .ref (A 313)), (0, .ref sb)]) X dL_law_2884 (by rw [hnL]; decide) rfl ?_
  refine g_aload_n X dL_law_2886 rfl 4 rfl ?_
  refine g_callV (As := []) (ci := 4) X dL_law_2887 (c_X4_undo κ.l hl κ.Γ M1 a u hMR1  hG.2.2.1) k1554 k1555 k1556 k5 k1557 rfl (MRep.obj hMR1) ⟨rfl, by decide, by decide, (show (parseMethodDescriptor yX4_undo.desc).map (fun d => d.parameters.length) = some 0 by decide +kernel)⟩ rfl (Nat.le_of_ble_eq_true rfl) (by rw [hRm]; decide) (by rw [hRm]; exact ⟨by (show _ ≤ 603072); omega, by (show _ ≤ 7182442); omega⟩) (fun v2 M2 h2 => ?_) (fun E9 M9 h9 => by have := h9.1.trans e2; cases this)
  obtain ⟨g2, hMR2, hF2⟩ := h2
  have g2 := g2.trans e2
  cases g2
  refine g_istore (L' := [(7, .int n1), (6, .int k1), (5, .int (nI i)), (4, .ref od), (3, .ref o), (2, .ref (a 0)), (1, .ref (A 313)), (0, .ref sb)]) X dL_law_2890 (by rw [hnL]; decide) rfl ?_
  refine g_aload_n X dL_law_2892 rfl 5 rfl ?_
  refine g_callV_rd (As := []) (ci := 4) (v := some (.int ((mUndo u).2.1 0))) X dL_law_2893 (c_X4_thrown κ.l hl κ.Γ M2 a _ hMR2) k1150 k1151 k1152 k5 k1153 rfl (MRep.obj hMR2) ⟨rfl, by decide, by decide, (show (parseMethodDescriptor yX4_thrown.desc).map (fun d => d.parameters.length) = some 0 by decide +kernel)⟩ rfl (Nat.le_of_ble_eq_true rfl) (by rw [hRm]; decide) (by rw [hRm]; exact ⟨by (show _ ≤ 603072); omega, by (show _ ≤ 7182442); omega⟩) ?_
  refine g_lit (y := k1) e3 ?_
  refine g_iload X dL_law_2896 1 rfl ?_
  refine g_icmp_eq (tgt := 2903) X dL_law_2898 (by decide) (fun _ => ?_) (fun h => absurd rfl h)
  refine g_iload X dL_law_2903 1 rfl ?_
  have hW2 : LW κ A a o od (pUndo w).2 (mUndo u).2 M2 := ⟨D.b hBR1 hF2, hMR2, ⟨f1, D.oM ho1 hF2⟩, ⟨fd, D.odM hx1 hF2⟩⟩
  have kE : G κ M2 (cells + 3) (slots + 18) [(7, .int n1), (6, .int k1), (5, .int (nI i)), (4, .ref od), (3, .ref o), (2, .ref (a 0)), (1, .ref (A 313)), (0, .ref sb)] 2920 [] := by
    refine g_goto (tgt := 2980) X dL_law_2920 (by decide) ?_
    refine g_locs [2, 3, 4, 5, 6, 7] (L' := LL sb A a o od i) rfl ?_
    exact k9 _ hW2
  refine g_if_ne (tgt := 2920) X dL_law_2905 (by decide) (fun _ => kE) (fun z0 => ?_)
  have e5 := e4 z0
  refine g_aload_n X dL_law_2908 rfl 4 rfl ?_
  refine g_iconst (v := 0) X dL_law_2909 (by decide) ?_
  refine g_laload X dL_law_2910 (D.oM ho1 hF2) vin01 ?_
  show G κ M2 _ _ _ _ (.long (f1 0) :: _)
  refine g_iload X dL_law_2911 0 rfl ?_
  refine g_i2l X dL_law_2913 ?_
  refine g_lcmp0 X dL_law_2914 e5 ?_
  exact g_if_eq (tgt := 2920) X dL_law_2915 (by decide) (fun _ => kE) (fun h => absurd rfl h)
set_option maxRecDepth 100000 in
set_option maxHeartbeats 4000000 in
theorem lc_save {κ : KT} {tab : List ExceptionTableEntry} {nm : String} {M : Hp} {cells slots : Nat} {sb Ls o od i : Nat} {xs : Nat → Int32} {A a : Nat → Nat} (X : Cx κ RL cL_law (some .boolean) tab nm) (hl : κ.l.stackTraces = false) (hnL : κ.nL = 9) (hRm : κ.R = room_1) (D : LD κ sb Ls xs A a o od) {w : PV} {u : HV} (hW : LW κ A a o od w u M) (hG : LG w u) (hi : i + 3 < Ls) (hc : cells + 3 ≤ 603072) (hs : slots + 18 ≤ 7182442) (hS : SmQ (pSave w) (mSave u)) (k9 : ∀ M', LW κ A a o od (pSave w).2 (mSave u).2 M' → G κ M' (cells + 3) (slots + 18) (LL sb A a o od i) 2980 []) : G κ M cells slots (LL sb A a o od i) 2923 [] := by
  obtain ⟨hBR, hMR, ⟨fo, ho⟩, ⟨fd, hod⟩⟩ := hW
  obtain ⟨z1, e1, e2⟩ := hS
  refine g_aload_n X dL_law_2923 rfl 4 rfl ?_
  refine g_callV (As := []) (ci := 3) X dL_law_2924 (c_X3_save κ.l hl κ.Γ M A w hBR hG.1) k275 k276 k277 k1 k278 rfl (BRep.obj hBR) ⟨rfl, by decide, by decide, (show (parseMethodDescriptor yX3_save.desc).map (fun d => d.parameters.length) = some 0 by decide +kernel)⟩ rfl (Nat.le_of_ble_eq_true rfl) (by rw [hRm]; decide) (by rw [hRm]; exact ⟨by (show _ ≤ 603072); omega, by (show _ ≤ 7182442); omega⟩) (fun v1 M1 h1 => ?_) (fun E9 M9 h9 => by have := h9.1.trans e1; cases this)
  obtain ⟨g1, hBR1, hF1⟩ := h1
  have g1 := g1.trans e1
  cases g1
  have hMR1 := D.m2 hMR hF1
  refine g_aload_n X dL_law_2927 rfl 3 rfl ?_
  refine g_callV (As := []) (ci := 4) X dL_law_2928 (c_X4_save κ.l hl κ.Γ M1 a u hMR1 ) k1558 k1559 k1560 k5 k1561 rfl (MRep.obj hMR1) ⟨rfl, by decide, by decide, (show (parseMethodDescriptor yX4_save.desc).map (fun d => d.parameters.length) = some 0 by decide +kernel)⟩ rfl (Nat.le_of_ble_eq_true rfl) (by rw [hRm]; decide) (by rw [hRm]; exact ⟨by (show _ ≤ 603072); omega, by (show _ ≤ 7182442); omega⟩) (fun v2 M2 h2 => ?_) (fun E9 M9 h9 => by have := h9.1.trans e2; cases this)
  obtain ⟨g2, hMR2, hF2⟩ := h2
  have g2 := g2.trans e2
  cases g2
  refine g_icmp_eq (tgt := 2980) X dL_law_2931 (by decide) (fun _ => ?_) (fun h => absurd rfl h)
  exact k9 _ ⟨D.b hBR1 hF2, hMR2, ⟨fo, D.oM (D.oA ho hF1) hF2⟩, ⟨fd, D.odM (D.odA hod hF1) hF2⟩⟩
set_option maxRecDepth 100000 in
set_option maxHeartbeats 4000000 in
theorem lc_restore {κ : KT} {tab : List ExceptionTableEntry} {nm : String} {M : Hp} {cells slots : Nat} {sb Ls o od i : Nat} {xs : Nat → Int32} {A a : Nat → Nat} (X : Cx κ RL cL_law (some .boolean) tab nm) (hl : κ.l.stackTraces = false) (hnL : κ.nL = 9) (hRm : κ.R = room_1) (D : LD κ sb Ls xs A a o od) {w : PV} {u : HV} (hW : LW κ A a o od w u M) (hG : LG w u) (hi : i + 3 < Ls) (hc : cells + 3 ≤ 603072) (hs : slots + 18 ≤ 7182442) (hS : SmV isI [eSta] (pRestore w) (mRestore u)) (k9 : ∀ M', LW κ A a o od (pRestore w).2 (mRestore u).2 M' → G κ M' (cells + 3) (slots + 18) (LL sb A a o od i) 2980 []) : G κ M cells slots (LL sb A a o od i) 2936 [] := by
  obtain ⟨hBR, hMR, ⟨fo, ho⟩, ⟨fd, hod⟩⟩ := hW
  refine g_aload_n X dL_law_2936 rfl 4 rfl ?_
  refine g_aload_n X dL_law_2937 rfl 2 rfl ?_
  refine g_callSX (As := [.ref (A 313), .ref o]) X dL_law_2938 (c_L_restore κ.l hl κ.Γ M A w hBR hG.1   o fo ho D.2.2.1.1 hS.inn) k1075 k1076 k0 k1077 ⟨by decide, by decide, (show (parseMethodDescriptor yL_restore.desc).map (fun d => d.parameters.length) = some 2 by decide +kernel)⟩ rfl (Nat.le_of_ble_eq_true rfl) (by rw [hRm]; decide) (by rw [hRm]; exact ⟨by (show _ ≤ 603072); omega, by (show _ ≤ 7182442); omega⟩) (fun v1 M1 h1 => ?_) (fun E9 M9 h9 => ?_)
  rotate_left
  · obtain ⟨f1, -, -, -, hA1⟩ := h9
    obtain ⟨k1, z1, -, e1, -, -, -⟩ := hS.ans hA1 (by decide +kernel) (by decide)
    cases e1
  obtain ⟨f1, hBR1, ho1, hF1, hA1⟩ := h1
  obtain ⟨k1, z1, ⟨n1, rfl⟩, e1, e2, e3, e4⟩ := hS.ans hA1 (by decide +kernel) (by decide)
  cases e1
  have hMR1 := D.m hMR hF1
  have hx1 := D.odW hod hF1
  refine g_istore (L' := [(6, .int k1), (5, .int (nI i)), (4, .ref od), (3, .ref o), (2, .ref (a 0)), (1, .ref (A 313)), (0, .ref sb)]) X dL_law_2941 (by rw [hnL]; decide) rfl ?_
  refine g_aload_n X dL_law_2943 rfl 4 rfl ?_
  refine g_callV (As := []) (ci := 4) X dL_law_2944 (c_X4_restore κ.l hl κ.Γ M1 a u hMR1  ) k1562 k1563 k1564 k5 k1565 rfl (MRep.obj hMR1) ⟨rfl, by decide, by decide, (show (parseMethodDescriptor yX4_restore.desc).map (fun d => d.parameters.length) = some 0 by decide +kernel)⟩ rfl (Nat.le_of_ble_eq_true rfl) (by rw [hRm]; decide) (by rw [hRm]; exact ⟨by (show _ ≤ 603072); omega, by (show _ ≤ 7182442); omega⟩) (fun v2 M2 h2 => ?_) (fun E9 M9 h9 => by have := h9.1.trans e2; cases this)
  obtain ⟨g2, hMR2, hF2⟩ := h2
  have g2 := g2.trans e2
  cases g2
  refine g_istore (L' := [(7, .int n1), (6, .int k1), (5, .int (nI i)), (4, .ref od), (3, .ref o), (2, .ref (a 0)), (1, .ref (A 313)), (0, .ref sb)]) X dL_law_2947 (by rw [hnL]; decide) rfl ?_
  refine g_aload_n X dL_law_2949 rfl 5 rfl ?_
  refine g_callV_rd (As := []) (ci := 4) (v := some (.int ((mRestore u).2.1 0))) X dL_law_2950 (c_X4_thrown κ.l hl κ.Γ M2 a _ hMR2) k1150 k1151 k1152 k5 k1153 rfl (MRep.obj hMR2) ⟨rfl, by decide, by decide, (show (parseMethodDescriptor yX4_thrown.desc).map (fun d => d.parameters.length) = some 0 by decide +kernel)⟩ rfl (Nat.le_of_ble_eq_true rfl) (by rw [hRm]; decide) (by rw [hRm]; exact ⟨by (show _ ≤ 603072); omega, by (show _ ≤ 7182442); omega⟩) ?_
  refine g_lit (y := k1) e3 ?_
  refine g_iload X dL_law_2953 1 rfl ?_
  refine g_icmp_eq (tgt := 2960) X dL_law_2955 (by decide) (fun _ => ?_) (fun h => absurd rfl h)
  refine g_iload X dL_law_2960 1 rfl ?_
  have hW2 : LW κ A a o od (pRestore w).2 (mRestore u).2 M2 := ⟨D.b hBR1 hF2, hMR2, ⟨f1, D.oM ho1 hF2⟩, ⟨fd, D.odM hx1 hF2⟩⟩
  have kE : G κ M2 (cells + 3) (slots + 18) [(7, .int n1), (6, .int k1), (5, .int (nI i)), (4, .ref od), (3, .ref o), (2, .ref (a 0)), (1, .ref (A 313)), (0, .ref sb)] 2977 [] := by
    refine g_goto (tgt := 2980) X dL_law_2977 (by decide) ?_
    refine g_locs [2, 3, 4, 5, 6, 7] (L' := LL sb A a o od i) rfl ?_
    exact k9 _ hW2
  refine g_if_ne (tgt := 2977) X dL_law_2962 (by decide) (fun _ => kE) (fun z0 => ?_)
  have e5 := e4 z0
  refine g_aload_n X dL_law_2965 rfl 4 rfl ?_
  refine g_iconst (v := 0) X dL_law_2966 (by decide) ?_
  refine g_laload X dL_law_2967 (D.oM ho1 hF2) vin01 ?_
  show G κ M2 _ _ _ _ (.long (f1 0) :: _)
  refine g_iload X dL_law_2968 0 rfl ?_
  refine g_i2l X dL_law_2970 ?_
  refine g_lcmp0 X dL_law_2971 e5 ?_
  exact g_if_eq (tgt := 2977) X dL_law_2972 (by decide) (fun _ => kE) (fun h => absurd rfl h)
