set_option maxRecDepth 100000 in
set_option maxHeartbeats 4000000 in
theorem lc_clauses {κ : KT} {tab : List ExceptionTableEntry} {nm : String} {M : Hp} {cells slots : Nat} {sb Ls o od i : Nat} {xs : Nat → Int32} {A a : Nat → Nat} (X : Cx κ RL cL_law (some .boolean) tab nm) (hl : κ.l.stackTraces = false) (hnL : κ.nL = 9) (hRm : κ.R = room_1) (D : LD κ sb Ls xs A a o od) {w : PV} {u : HV} (hW : LW κ A a o od w u M) (hG : LG w u) (hi : i + 3 < Ls) (hc : cells + 3 ≤ 603072) (hs : slots + 18 ≤ 7182442) (hS : SmV isL [eIdx] (pClauses w (xs (i + 1))) (mClauses u (xs (i + 1)))) (k9 : ∀ M', LW κ A a o od (pClauses w (xs (i + 1))).2 (mClauses u (xs (i + 1))).2 M' → G κ M' (cells + 3) (slots + 18) (LL sb A a o od i) 2980 []) : G κ M cells slots (LL sb A a o od i) 1083 [] := by
  obtain ⟨hBR, hMR, ⟨fo, ho⟩, ⟨fd, hod⟩⟩ := hW
  refine g_aload_n X dL_law_1083 rfl 4 rfl ?_
  refine g_arg X D 1 5 0 dL_law_1084 dL_law_1085 dL_law_1087 dL_law_1088 dL_law_1089 (by decide) rfl rfl (by omega) ?_
  refine g_aload_n X dL_law_1090 rfl 2 rfl ?_
  refine g_callSX (As := [.ref (A 313), .int (xs (i + 1)), .ref o]) X dL_law_1091 (c_L_clauses κ.l hl κ.Γ M A w hBR hG.1 (xs (i + 1))  o fo ho D.2.2.1.1 hS.inn) k610 k611 k0 k612 ⟨by decide, by decide, (show (parseMethodDescriptor yL_clauses.desc).map (fun d => d.parameters.length) = some 3 by decide +kernel)⟩ rfl (Nat.le_of_ble_eq_true rfl) (by rw [hRm]; decide) (by rw [hRm]; exact ⟨by (show _ ≤ 603072); omega, by (show _ ≤ 7182442); omega⟩) (fun v1 M1 h1 => ?_) (fun E9 M9 h9 => ?_)
  rotate_left
  · obtain ⟨f1, -, -, -, hA1⟩ := h9
    obtain ⟨k1, z1, -, e1, -, -, -⟩ := hS.ans hA1 (by decide +kernel) (by decide)
    cases e1
  obtain ⟨f1, hBR1, ho1, hF1, hA1⟩ := h1
  obtain ⟨k1, z1, ⟨n1, rfl⟩, e1, e2, e3, e4⟩ := hS.ans hA1 (by decide +kernel) (by decide)
  cases e1
  have hMR1 := D.m hMR hF1
  have hx1 := D.odW hod hF1
  refine g_istore (L' := [(6, .int k1), (5, .int (nI i)), (4, .ref od), (3, .ref o), (2, .ref (a 0)), (1, .ref (A 313)), (0, .ref sb)]) X dL_law_1094 (by rw [hnL]; decide) rfl ?_
  refine g_aload_n X dL_law_1096 rfl 4 rfl ?_
  refine g_arg X D 1 6 1 dL_law_1097 dL_law_1098 dL_law_1100 dL_law_1101 dL_law_1102 (by decide) rfl rfl (by omega) ?_
  refine g_callV (As := [.int (xs (i + 1))]) (ci := 4) X dL_law_1103 (c_X4_clauses κ.l hl κ.Γ M1 a u hMR1 (xs (i + 1)) hG.2.1) k1287 k1288 k1289 k5 k1290 rfl (MRep.obj hMR1) ⟨rfl, by decide, by decide, (show (parseMethodDescriptor yX4_clauses.desc).map (fun d => d.parameters.length) = some 1 by decide +kernel)⟩ rfl (Nat.le_of_ble_eq_true rfl) (by rw [hRm]; decide) (by rw [hRm]; exact ⟨by (show _ ≤ 603072); omega, by (show _ ≤ 7182442); omega⟩) (fun v2 M2 h2 => ?_) (fun E9 M9 h9 => by have := h9.1.trans e2; cases this)
  obtain ⟨g2, hMR2, hF2⟩ := h2
  have g2 := g2.trans e2
  cases g2
  refine g_lstore (L' := [(7, .long n1), (6, .int k1), (5, .int (nI i)), (4, .ref od), (3, .ref o), (2, .ref (a 0)), (1, .ref (A 313)), (0, .ref sb)]) X dL_law_1106 (by rw [hnL]; decide) rfl ?_
  refine g_aload_n X dL_law_1108 rfl 5 rfl ?_
  refine g_callV_rd (As := []) (ci := 4) (v := some (.int ((mClauses u (xs (i + 1))).2.1 0))) X dL_law_1109 (c_X4_thrown κ.l hl κ.Γ M2 a _ hMR2) k1150 k1151 k1152 k5 k1153 rfl (MRep.obj hMR2) ⟨rfl, by decide, by decide, (show (parseMethodDescriptor yX4_thrown.desc).map (fun d => d.parameters.length) = some 0 by decide +kernel)⟩ rfl (Nat.le_of_ble_eq_true rfl) (by rw [hRm]; decide) (by rw [hRm]; exact ⟨by (show _ ≤ 603072); omega, by (show _ ≤ 7182442); omega⟩) ?_
  refine g_lit (y := k1) e3 ?_
  refine g_iload X dL_law_1112 1 rfl ?_
  refine g_icmp_eq (tgt := 1119) X dL_law_1114 (by decide) (fun _ => ?_) (fun h => absurd rfl h)
  refine g_iload X dL_law_1119 1 rfl ?_
  have hW2 : LW κ A a o od (pClauses w (xs (i + 1))).2 (mClauses u (xs (i + 1))).2 M2 := ⟨D.b hBR1 hF2, hMR2, ⟨f1, D.oM ho1 hF2⟩, ⟨fd, D.odM hx1 hF2⟩⟩
  have kE : G κ M2 (cells + 3) (slots + 18) [(7, .long n1), (6, .int k1), (5, .int (nI i)), (4, .ref od), (3, .ref o), (2, .ref (a 0)), (1, .ref (A 313)), (0, .ref sb)] 1135 [] := by
    refine g_goto (tgt := 2980) X dL_law_1135 (by decide) ?_
    refine g_locs [2, 3, 4, 5, 6, 7] (L' := LL sb A a o od i) rfl ?_
    exact k9 _ hW2
  refine g_if_ne (tgt := 1135) X dL_law_1121 (by decide) (fun _ => kE) (fun z0 => ?_)
  have e5 := e4 z0
  refine g_aload_n X dL_law_1124 rfl 4 rfl ?_
  refine g_iconst (v := 0) X dL_law_1125 (by decide) ?_
  refine g_laload X dL_law_1126 (D.oM ho1 hF2) vin01 ?_
  show G κ M2 _ _ _ _ (.long (f1 0) :: _)
  refine g_lload X dL_law_1127 0 rfl ?_
  refine g_lcmp0 X dL_law_1129 e5 ?_
  exact g_if_eq (tgt := 1135) X dL_law_1130 (by decide) (fun _ => kE) (fun h => absurd rfl h)
set_option maxRecDepth 100000 in
set_option maxHeartbeats 4000000 in
theorem lc_clauseCount {κ : KT} {tab : List ExceptionTableEntry} {nm : String} {M : Hp} {cells slots : Nat} {sb Ls o od i : Nat} {xs : Nat → Int32} {A a : Nat → Nat} (X : Cx κ RL cL_law (some .boolean) tab nm) (hl : κ.l.stackTraces = false) (hnL : κ.nL = 9) (hRm : κ.R = room_1) (D : LD κ sb Ls xs A a o od) {w : PV} {u : HV} (hW : LW κ A a o od w u M) (hG : LG w u) (hi : i + 3 < Ls) (hc : cells + 3 ≤ 603072) (hs : slots + 18 ≤ 7182442) (hS : SmV isI [eIdx] (pClauseCount w (xs (i + 1))) (mClauseCount u (xs (i + 1)))) (k9 : ∀ M', LW κ A a o od (pClauseCount w (xs (i + 1))).2 (mClauseCount u (xs (i + 1))).2 M' → G κ M' (cells + 3) (slots + 18) (LL sb A a o od i) 2980 []) : G κ M cells slots (LL sb A a o od i) 1138 [] := by
  obtain ⟨hBR, hMR, ⟨fo, ho⟩, ⟨fd, hod⟩⟩ := hW
  refine g_aload_n X dL_law_1138 rfl 4 rfl ?_
  refine g_arg X D 1 5 0 dL_law_1139 dL_law_1140 dL_law_1142 dL_law_1143 dL_law_1144 (by decide) rfl rfl (by omega) ?_
  refine g_aload_n X dL_law_1145 rfl 2 rfl ?_
  refine g_callSX (As := [.ref (A 313), .int (xs (i + 1)), .ref o]) X dL_law_1146 (c_L_clauseCount κ.l hl κ.Γ M A w hBR hG.1 (xs (i + 1))  o fo ho D.2.2.1.1 hS.inn) k617 k618 k0 k619 ⟨by decide, by decide, (show (parseMethodDescriptor yL_clauseCount.desc).map (fun d => d.parameters.length) = some 3 by decide +kernel)⟩ rfl (Nat.le_of_ble_eq_true rfl) (by rw [hRm]; decide) (by rw [hRm]; exact ⟨by (show _ ≤ 603072); omega, by (show _ ≤ 7182442); omega⟩) (fun v1 M1 h1 => ?_) (fun E9 M9 h9 => ?_)
  rotate_left
  · obtain ⟨f1, -, -, -, hA1⟩ := h9
    obtain ⟨k1, z1, -, e1, -, -, -⟩ := hS.ans hA1 (by decide +kernel) (by decide)
    cases e1
  obtain ⟨f1, hBR1, ho1, hF1, hA1⟩ := h1
  obtain ⟨k1, z1, ⟨n1, rfl⟩, e1, e2, e3, e4⟩ := hS.ans hA1 (by decide +kernel) (by decide)
  cases e1
  have hMR1 := D.m hMR hF1
  have hx1 := D.odW hod hF1
  refine g_istore (L' := [(6, .int k1), (5, .int (nI i)), (4, .ref od), (3, .ref o), (2, .ref (a 0)), (1, .ref (A 313)), (0, .ref sb)]) X dL_law_1149 (by rw [hnL]; decide) rfl ?_
  refine g_aload_n X dL_law_1151 rfl 4 rfl ?_
  refine g_arg X D 1 6 1 dL_law_1152 dL_law_1153 dL_law_1155 dL_law_1156 dL_law_1157 (by decide) rfl rfl (by omega) ?_
  refine g_callV (As := [.int (xs (i + 1))]) (ci := 4) X dL_law_1158 (c_X4_clauseCount κ.l hl κ.Γ M1 a u hMR1 (xs (i + 1)) hG.2.1) k1292 k1293 k1294 k5 k1295 rfl (MRep.obj hMR1) ⟨rfl, by decide, by decide, (show (parseMethodDescriptor yX4_clauseCount.desc).map (fun d => d.parameters.length) = some 1 by decide +kernel)⟩ rfl (Nat.le_of_ble_eq_true rfl) (by rw [hRm]; decide) (by rw [hRm]; exact ⟨by (show _ ≤ 603072); omega, by (show _ ≤ 7182442); omega⟩) (fun v2 M2 h2 => ?_) (fun E9 M9 h9 => by have := h9.1.trans e2; cases this)
  obtain ⟨g2, hMR2, hF2⟩ := h2
  have g2 := g2.trans e2
  cases g2
  refine g_istore (L' := [(7, .int n1), (6, .int k1), (5, .int (nI i)), (4, .ref od), (3, .ref o), (2, .ref (a 0)), (1, .ref (A 313)), (0, .ref sb)]) X dL_law_1161 (by rw [hnL]; decide) rfl ?_
  refine g_aload_n X dL_law_1163 rfl 5 rfl ?_
  refine g_callV_rd (As := []) (ci := 4) (v := some (.int ((mClauseCount u (xs (i + 1))).2.1 0))) X dL_law_1164 (c_X4_thrown κ.l hl κ.Γ M2 a _ hMR2) k1150 k1151 k1152 k5 k1153 rfl (MRep.obj hMR2) ⟨rfl, by decide, by decide, (show (parseMethodDescriptor yX4_thrown.desc).map (fun d => d.parameters.length) = some 0 by decide +kernel)⟩ rfl (Nat.le_of_ble_eq_true rfl) (by rw [hRm]; decide) (by rw [hRm]; exact ⟨by (show _ ≤ 603072); omega, by (show _ ≤ 7182442); omega⟩) ?_
  refine g_lit (y := k1) e3 ?_
  refine g_iload X dL_law_1167 1 rfl ?_
  refine g_icmp_eq (tgt := 1174) X dL_law_1169 (by decide) (fun _ => ?_) (fun h => absurd rfl h)
  refine g_iload X dL_law_1174 1 rfl ?_
  have hW2 : LW κ A a o od (pClauseCount w (xs (i + 1))).2 (mClauseCount u (xs (i + 1))).2 M2 := ⟨D.b hBR1 hF2, hMR2, ⟨f1, D.oM ho1 hF2⟩, ⟨fd, D.odM hx1 hF2⟩⟩
  have kE : G κ M2 (cells + 3) (slots + 18) [(7, .int n1), (6, .int k1), (5, .int (nI i)), (4, .ref od), (3, .ref o), (2, .ref (a 0)), (1, .ref (A 313)), (0, .ref sb)] 1191 [] := by
    refine g_goto (tgt := 2980) X dL_law_1191 (by decide) ?_
    refine g_locs [2, 3, 4, 5, 6, 7] (L' := LL sb A a o od i) rfl ?_
    exact k9 _ hW2
  refine g_if_ne (tgt := 1191) X dL_law_1176 (by decide) (fun _ => kE) (fun z0 => ?_)
  have e5 := e4 z0
  refine g_aload_n X dL_law_1179 rfl 4 rfl ?_
  refine g_iconst (v := 0) X dL_law_1180 (by decide) ?_
  refine g_laload X dL_law_1181 (D.oM ho1 hF2) vin01 ?_
  show G κ M2 _ _ _ _ (.long (f1 0) :: _)
  refine g_iload X dL_law_1182 0 rfl ?_
  refine g_i2l X dL_law_1184 ?_
  refine g_lcmp0 X dL_law_1185 e5 ?_
  exact g_if_eq (tgt := 1191) X dL_law_1186 (by decide) (fun _ => kE) (fun h => absurd rfl h)
set_option maxRecDepth 100000 in
set_option maxHeartbeats 4000000 in
theorem lc_longestRun {κ : KT} {tab : List ExceptionTableEntry} {nm : String} {M : Hp} {cells slots : Nat} {sb Ls o od i : Nat} {xs : Nat → Int32} {A a : Nat → Nat} (X : Cx κ RL cL_law (some .boolean) tab nm) (hl : κ.l.stackTraces = false) (hnL : κ.nL = 9) (hRm : κ.R = room_1) (D : LD κ sb Ls xs A a o od) {w : PV} {u : HV} (hW : LW κ A a o od w u M) (hG : LG w u) (hi : i + 3 < Ls) (hc : cells + 3 ≤ 603072) (hs : slots + 18 ≤ 7182442) (hS : SmV isI [eIdx] (pLongestRun w (xs (i + 1))) (mLongestRun u (xs (i + 1)))) (k9 : ∀ M', LW κ A a o od (pLongestRun w (xs (i + 1))).2 (mLongestRun u (xs (i + 1))).2 M' → G κ M' (cells + 3) (slots + 18) (LL sb A a o od i) 2980 []) : G κ M cells slots (LL sb A a o od i) 1194 [] := by
  obtain ⟨hBR, hMR, ⟨fo, ho⟩, ⟨fd, hod⟩⟩ := hW
  refine g_aload_n X dL_law_1194 rfl 4 rfl ?_
  refine g_arg X D 1 5 0 dL_law_1195 dL_law_1196 dL_law_1198 dL_law_1199 dL_law_1200 (by decide) rfl rfl (by omega) ?_
  refine g_aload_n X dL_law_1201 rfl 2 rfl ?_
  refine g_callSX (As := [.ref (A 313), .int (xs (i + 1)), .ref o]) X dL_law_1202 (c_L_longestRun κ.l hl κ.Γ M A w hBR hG.1 (xs (i + 1))  o fo ho D.2.2.1.1 hS.inn) k630 k631 k0 k632 ⟨by decide, by decide, (show (parseMethodDescriptor yL_longestRun.desc).map (fun d => d.parameters.length) = some 3 by decide +kernel)⟩ rfl (Nat.le_of_ble_eq_true rfl) (by rw [hRm]; decide) (by rw [hRm]; exact ⟨by (show _ ≤ 603072); omega, by (show _ ≤ 7182442); omega⟩) (fun v1 M1 h1 => ?_) (fun E9 M9 h9 => ?_)
  rotate_left
  · obtain ⟨f1, -, -, -, hA1⟩ := h9
    obtain ⟨k1, z1, -, e1, -, -, -⟩ := hS.ans hA1 (by decide +kernel) (by decide)
    cases e1
  obtain ⟨f1, hBR1, ho1, hF1, hA1⟩ := h1
  obtain ⟨k1, z1, ⟨n1, rfl⟩, e1, e2, e3, e4⟩ := hS.ans hA1 (by decide +kernel) (by decide)
  cases e1
  have hMR1 := D.m hMR hF1
  have hx1 := D.odW hod hF1
  refine g_istore (L' := [(6, .int k1), (5, .int (nI i)), (4, .ref od), (3, .ref o), (2, .ref (a 0)), (1, .ref (A 313)), (0, .ref sb)]) X dL_law_1205 (by rw [hnL]; decide) rfl ?_
  refine g_aload_n X dL_law_1207 rfl 4 rfl ?_
  refine g_arg X D 1 6 1 dL_law_1208 dL_law_1209 dL_law_1211 dL_law_1212 dL_law_1213 (by decide) rfl rfl (by omega) ?_
  refine g_callV (As := [.int (xs (i + 1))]) (ci := 4) X dL_law_1214 (c_X4_longestRun κ.l hl κ.Γ M1 a u hMR1 (xs (i + 1)) hG.2.1) k1300 k1301 k1302 k5 k1303 rfl (MRep.obj hMR1) ⟨rfl, by decide, by decide, (show (parseMethodDescriptor yX4_longestRun.desc).map (fun d => d.parameters.length) = some 1 by decide +kernel)⟩ rfl (Nat.le_of_ble_eq_true rfl) (by rw [hRm]; decide) (by rw [hRm]; exact ⟨by (show _ ≤ 603072); omega, by (show _ ≤ 7182442); omega⟩) (fun v2 M2 h2 => ?_) (fun E9 M9 h9 => by have := h9.1.trans e2; cases this)
  obtain ⟨g2, hMR2, hF2⟩ := h2
  have g2 := g2.trans e2
  cases g2
  refine g_istore (L' := [(7, .int n1), (6, .int k1), (5, .int (nI i)), (4, .ref od), (3, .ref o), (2, .ref (a 0)), (1, .ref (A 313)), (0, .ref sb)]) X dL_law_1217 (by rw [hnL]; decide) rfl ?_
  refine g_aload_n X dL_law_1219 rfl 5 rfl ?_
  refine g_callV_rd (As := []) (ci := 4) (v := some (.int ((mLongestRun u (xs (i + 1))).2.1 0))) X dL_law_1220 (c_X4_thrown κ.l hl κ.Γ M2 a _ hMR2) k1150 k1151 k1152 k5 k1153 rfl (MRep.obj hMR2) ⟨rfl, by decide, by decide, (show (parseMethodDescriptor yX4_thrown.desc).map (fun d => d.parameters.length) = some 0 by decide +kernel)⟩ rfl (Nat.le_of_ble_eq_true rfl) (by rw [hRm]; decide) (by rw [hRm]; exact ⟨by (show _ ≤ 603072); omega, by (show _ ≤ 7182442); omega⟩) ?_
  refine g_lit (y := k1) e3 ?_
  refine g_iload X dL_law_1223 1 rfl ?_
  refine g_icmp_eq (tgt := 1230) X dL_law_1225 (by decide) (fun _ => ?_) (fun h => absurd rfl h)
  refine g_iload X dL_law_1230 1 rfl ?_
  have hW2 : LW κ A a o od (pLongestRun w (xs (i + 1))).2 (mLongestRun u (xs (i + 1))).2 M2 := ⟨D.b hBR1 hF2, hMR2, ⟨f1, D.oM ho1 hF2⟩, ⟨fd, D.odM hx1 hF2⟩⟩
  have kE : G κ M2 (cells + 3) (slots + 18) [(7, .int n1), (6, .int k1), (5, .int (nI i)), (4, .ref od), (3, .ref o), (2, .ref (a 0)), (1, .ref (A 313)), (0, .ref sb)] 1247 [] := by
    refine g_goto (tgt := 2980) X dL_law_1247 (by decide) ?_
    refine g_locs [2, 3, 4, 5, 6, 7] (L' := LL sb A a o od i) rfl ?_
    exact k9 _ hW2
  refine g_if_ne (tgt := 1247) X dL_law_1232 (by decide) (fun _ => kE) (fun z0 => ?_)
  have e5 := e4 z0
  refine g_aload_n X dL_law_1235 rfl 4 rfl ?_
  refine g_iconst (v := 0) X dL_law_1236 (by decide) ?_
  refine g_laload X dL_law_1237 (D.oM ho1 hF2) vin01 ?_
  show G κ M2 _ _ _ _ (.long (f1 0) :: _)
  refine g_iload X dL_law_1238 0 rfl ?_
  refine g_i2l X dL_law_1240 ?_
  refine g_lcmp0 X dL_law_1241 e5 ?_
  exact g_if_eq (tgt := 1247) X dL_law_1242 (by decide) (fun _ => kE) (fun h => absurd rfl h)
set_option maxRecDepth 100000 in
set_option maxHeartbeats 4000000 in
theorem lc_longestRunByShift {κ : KT} {tab : List ExceptionTableEntry} {nm : String} {M : Hp} {cells slots : Nat} {sb Ls o od i : Nat} {xs : Nat → Int32} {A a : Nat → Nat} (X : Cx κ RL cL_law (some .boolean) tab nm) (hl : κ.l.stackTraces = false) (hnL : κ.nL = 9) (hRm : κ.R = room_1) (D : LD κ sb Ls xs A a o od) {w : PV} {u : HV} (hW : LW κ A a o od w u M) (hG : LG w u) (hi : i + 3 < Ls) (hc : cells + 3 ≤ 603072) (hs : slots + 18 ≤ 7182442) (hS : SmV isI [eIdx] (pLongestRunByShift w (xs (i + 1))) (mLongestRunByShift u (xs (i + 1)))) (k9 : ∀ M', LW κ A a o od (pLongestRunByShift w (xs (i + 1))).2 (mLongestRunByShift u (xs (i + 1))).2 M' → G κ M' (cells + 3) (slots + 18) (LL sb A a o od i) 2980 []) : G κ M cells slots (LL sb A a o od i) 1250 [] := by
  obtain ⟨hBR, hMR, ⟨fo, ho⟩, ⟨fd, hod⟩⟩ := hW
  refine g_aload_n X dL_law_1250 rfl 4 rfl ?_
  refine g_arg X D 1 5 0 dL_law_1251 dL_law_1252 dL_law_1254 dL_law_1255 dL_law_1256 (by decide) rfl rfl (by omega) ?_
  refine g_aload_n X dL_law_1257 rfl 2 rfl ?_
  refine g_callSX (As := [.ref (A 313), .int (xs (i + 1)), .ref o]) X dL_law_1258 (c_L_longestRunByShift κ.l hl κ.Γ M A w hBR hG.1 (xs (i + 1))  o fo ho D.2.2.1.1 hS.inn) k637 k638 k0 k639 ⟨by decide, by decide, (show (parseMethodDescriptor yL_longestRunByShift.desc).map (fun d => d.parameters.length) = some 3 by decide +kernel)⟩ rfl (Nat.le_of_ble_eq_true rfl) (by rw [hRm]; decide) (by rw [hRm]; exact ⟨by (show _ ≤ 603072); omega, by (show _ ≤ 7182442); omega⟩) (fun v1 M1 h1 => ?_) (fun E9 M9 h9 => ?_)
  rotate_left
  · obtain ⟨f1, -, -, -, hA1⟩ := h9
    obtain ⟨k1, z1, -, e1, -, -, -⟩ := hS.ans hA1 (by decide +kernel) (by decide)
    cases e1
  obtain ⟨f1, hBR1, ho1, hF1, hA1⟩ := h1
  obtain ⟨k1, z1, ⟨n1, rfl⟩, e1, e2, e3, e4⟩ := hS.ans hA1 (by decide +kernel) (by decide)
  cases e1
  have hMR1 := D.m hMR hF1
  have hx1 := D.odW hod hF1
  refine g_istore (L' := [(6, .int k1), (5, .int (nI i)), (4, .ref od), (3, .ref o), (2, .ref (a 0)), (1, .ref (A 313)), (0, .ref sb)]) X dL_law_1261 (by rw [hnL]; decide) rfl ?_
  refine g_aload_n X dL_law_1263 rfl 4 rfl ?_
  refine g_arg X D 1 6 1 dL_law_1264 dL_law_1265 dL_law_1267 dL_law_1268 dL_law_1269 (by decide) rfl rfl (by omega) ?_
  refine g_callV (As := [.int (xs (i + 1))]) (ci := 4) X dL_law_1270 (c_X4_longestRunByShift κ.l hl κ.Γ M1 a u hMR1 (xs (i + 1)) hG.2.1) k1308 k1309 k1310 k5 k1311 rfl (MRep.obj hMR1) ⟨rfl, by decide, by decide, (show (parseMethodDescriptor yX4_longestRunByShift.desc).map (fun d => d.parameters.length) = some 1 by decide +kernel)⟩ rfl (Nat.le_of_ble_eq_true rfl) (by rw [hRm]; decide) (by rw [hRm]; exact ⟨by (show _ ≤ 603072); omega, by (show _ ≤ 7182442); omega⟩) (fun v2 M2 h2 => ?_) (fun E9 M9 h9 => by have := h9.1.trans e2; cases this)
  obtain ⟨g2, hMR2, hF2⟩ := h2
  have g2 := g2.trans e2
  cases g2
  refine g_istore (L' := [(7, .int n1), (6, .int k1), (5, .int (nI i)), (4, .ref od), (3, .ref o), (2, .ref (a 0)), (1, .ref (A 313)), (0, .ref sb)]) X dL_law_1273 (by rw [hnL]; decide) rfl ?_
  refine g_aload_n X dL_law_1275 rfl 5 rfl ?_
  refine g_callV_rd (As := []) (ci := 4) (v := some (.int ((mLongestRunByShift u (xs (i + 1))).2.1 0))) X dL_law_1276 (c_X4_thrown κ.l hl κ.Γ M2 a _ hMR2) k1150 k1151 k1152 k5 k1153 rfl (MRep.obj hMR2) ⟨rfl, by decide, by decide, (show (parseMethodDescriptor yX4_thrown.desc).map (fun d => d.parameters.length) = some 0 by decide +kernel)⟩ rfl (Nat.le_of_ble_eq_true rfl) (by rw [hRm]; decide) (by rw [hRm]; exact ⟨by (show _ ≤ 603072); omega, by (show _ ≤ 7182442); omega⟩) ?_
  refine g_lit (y := k1) e3 ?_
  refine g_iload X dL_law_1279 1 rfl ?_
  refine g_icmp_eq (tgt := 1286) X dL_law_1281 (by decide) (fun _ => ?_) (fun h => absurd rfl h)
  refine g_iload X dL_law_1286 1 rfl ?_
  have hW2 : LW κ A a o od (pLongestRunByShift w (xs (i + 1))).2 (mLongestRunByShift u (xs (i + 1))).2 M2 := ⟨D.b hBR1 hF2, hMR2, ⟨f1, D.oM ho1 hF2⟩, ⟨fd, D.odM hx1 hF2⟩⟩
  have kE : G κ M2 (cells + 3) (slots + 18) [(7, .int n1), (6, .int k1), (5, .int (nI i)), (4, .ref od), (3, .ref o), (2, .ref (a 0)), (1, .ref (A 313)), (0, .ref sb)] 1303 [] := by
    refine g_goto (tgt := 2980) X dL_law_1303 (by decide) ?_
    refine g_locs [2, 3, 4, 5, 6, 7] (L' := LL sb A a o od i) rfl ?_
    exact k9 _ hW2
  refine g_if_ne (tgt := 1303) X dL_law_1288 (by decide) (fun _ => kE) (fun z0 => ?_)
  have e5 := e4 z0
  refine g_aload_n X dL_law_1291 rfl 4 rfl ?_
  refine g_iconst (v := 0) X dL_law_1292 (by decide) ?_
  refine g_laload X dL_law_1293 (D.oM ho1 hF2) vin01 ?_
  show G κ M2 _ _ _ _ (.long (f1 0) :: _)
  refine g_iload X dL_law_1294 0 rfl ?_
  refine g_i2l X dL_law_1296 ?_
  refine g_lcmp0 X dL_law_1297 e5 ?_
  exact g_if_eq (tgt := 1303) X dL_law_1298 (by decide) (fun _ => kE) (fun h => absurd rfl h)
set_option maxRecDepth 100000 in
set_option maxHeartbeats 4000000 in
theorem lc_billAtRank {κ : KT} {tab : List ExceptionTableEntry} {nm : String} {M : Hp} {cells slots : Nat} {sb Ls o od i : Nat} {xs : Nat → Int32} {A a : Nat → Nat} (X : Cx κ RL cL_law (some .boolean) tab nm) (hl : κ.l.stackTraces = false) (hnL : κ.nL = 9) (hRm : κ.R = room_1) (D : LD κ sb Ls xs A a o od) {w : PV} {u : HV} (hW : LW κ A a o od w u M) (hG : LG w u) (hi : i + 3 < Ls) (hc : cells + 3 ≤ 603072) (hs : slots + 18 ≤ 7182442) (hS : SmV isI [eEle] (pBillAtRank w (xs (i + 1))) (mBillAtRank u (xs (i + 1)))) (k9 : ∀ M', LW κ A a o od (pBillAtRank w (xs (i + 1))).2 (mBillAtRank u (xs (i + 1))).2 M' → G κ M' (cells + 3) (slots + 18) (LL sb A a o od i) 2980 []) : G κ M cells slots (LL sb A a o od i) 1306 [] := by
  obtain ⟨hBR, hMR, ⟨fo, ho⟩, ⟨fd, hod⟩⟩ := hW
  refine g_aload_n X dL_law_1306 rfl 4 rfl ?_
  refine g_arg X D 1 5 0 dL_law_1307 dL_law_1308 dL_law_1310 dL_law_1311 dL_law_1312 (by decide) rfl rfl (by omega) ?_
  refine g_aload_n X dL_law_1313 rfl 2 rfl ?_
  refine g_callSX (As := [.ref (A 313), .int (xs (i + 1)), .ref o]) X dL_law_1314 (c_L_billAtRank κ.l hl κ.Γ M A w hBR hG.1 (xs (i + 1))  o fo ho D.2.2.1.1 hS.inn) k644 k645 k0 k646 ⟨by decide, by decide, (show (parseMethodDescriptor yL_billAtRank.desc).map (fun d => d.parameters.length) = some 3 by decide +kernel)⟩ rfl (Nat.le_of_ble_eq_true rfl) (by rw [hRm]; decide) (by rw [hRm]; exact ⟨by (show _ ≤ 603072); omega, by (show _ ≤ 7182442); omega⟩) (fun v1 M1 h1 => ?_) (fun E9 M9 h9 => ?_)
  rotate_left
  · obtain ⟨f1, -, -, -, hA1⟩ := h9
    obtain ⟨k1, z1, -, e1, -, -, -⟩ := hS.ans hA1 (by decide +kernel) (by decide)
    cases e1
  obtain ⟨f1, hBR1, ho1, hF1, hA1⟩ := h1
  obtain ⟨k1, z1, ⟨n1, rfl⟩, e1, e2, e3, e4⟩ := hS.ans hA1 (by decide +kernel) (by decide)
  cases e1
  have hMR1 := D.m hMR hF1
  have hx1 := D.odW hod hF1
  refine g_istore (L' := [(6, .int k1), (5, .int (nI i)), (4, .ref od), (3, .ref o), (2, .ref (a 0)), (1, .ref (A 313)), (0, .ref sb)]) X dL_law_1317 (by rw [hnL]; decide) rfl ?_
  refine g_aload_n X dL_law_1319 rfl 4 rfl ?_
  refine g_arg X D 1 6 1 dL_law_1320 dL_law_1321 dL_law_1323 dL_law_1324 dL_law_1325 (by decide) rfl rfl (by omega) ?_
  refine g_callV (As := [.int (xs (i + 1))]) (ci := 4) X dL_law_1326 (c_X4_billAtRank κ.l hl κ.Γ M1 a u hMR1 (xs (i + 1)) hG.2.1) k1313 k1314 k1315 k5 k1316 rfl (MRep.obj hMR1) ⟨rfl, by decide, by decide, (show (parseMethodDescriptor yX4_billAtRank.desc).map (fun d => d.parameters.length) = some 1 by decide +kernel)⟩ rfl (Nat.le_of_ble_eq_true rfl) (by rw [hRm]; decide) (by rw [hRm]; exact ⟨by (show _ ≤ 603072); omega, by (show _ ≤ 7182442); omega⟩) (fun v2 M2 h2 => ?_) (fun E9 M9 h9 => by have := h9.1.trans e2; cases this)
  obtain ⟨g2, hMR2, hF2⟩ := h2
  have g2 := g2.trans e2
  cases g2
  refine g_istore (L' := [(7, .int n1), (6, .int k1), (5, .int (nI i)), (4, .ref od), (3, .ref o), (2, .ref (a 0)), (1, .ref (A 313)), (0, .ref sb)]) X dL_law_1329 (by rw [hnL]; decide) rfl ?_
  refine g_aload_n X dL_law_1331 rfl 5 rfl ?_
  refine g_callV_rd (As := []) (ci := 4) (v := some (.int ((mBillAtRank u (xs (i + 1))).2.1 0))) X dL_law_1332 (c_X4_thrown κ.l hl κ.Γ M2 a _ hMR2) k1150 k1151 k1152 k5 k1153 rfl (MRep.obj hMR2) ⟨rfl, by decide, by decide, (show (parseMethodDescriptor yX4_thrown.desc).map (fun d => d.parameters.length) = some 0 by decide +kernel)⟩ rfl (Nat.le_of_ble_eq_true rfl) (by rw [hRm]; decide) (by rw [hRm]; exact ⟨by (show _ ≤ 603072); omega, by (show _ ≤ 7182442); omega⟩) ?_
  refine g_lit (y := k1) e3 ?_
  refine g_iload X dL_law_1335 1 rfl ?_
  refine g_icmp_eq (tgt := 1342) X dL_law_1337 (by decide) (fun _ => ?_) (fun h => absurd rfl h)
  refine g_iload X dL_law_1342 1 rfl ?_
  have hW2 : LW κ A a o od (pBillAtRank w (xs (i + 1))).2 (mBillAtRank u (xs (i + 1))).2 M2 := ⟨D.b hBR1 hF2, hMR2, ⟨f1, D.oM ho1 hF2⟩, ⟨fd, D.odM hx1 hF2⟩⟩
  have kE : G κ M2 (cells + 3) (slots + 18) [(7, .int n1), (6, .int k1), (5, .int (nI i)), (4, .ref od), (3, .ref o), (2, .ref (a 0)), (1, .ref (A 313)), (0, .ref sb)] 1359 [] := by
    refine g_goto (tgt := 2980) X dL_law_1359 (by decide) ?_
    refine g_locs [2, 3, 4, 5, 6, 7] (L' := LL sb A a o od i) rfl ?_
    exact k9 _ hW2
  refine g_if_ne (tgt := 1359) X dL_law_1344 (by decide) (fun _ => kE) (fun z0 => ?_)
  have e5 := e4 z0
  refine g_aload_n X dL_law_1347 rfl 4 rfl ?_
  refine g_iconst (v := 0) X dL_law_1348 (by decide) ?_
  refine g_laload X dL_law_1349 (D.oM ho1 hF2) vin01 ?_
  show G κ M2 _ _ _ _ (.long (f1 0) :: _)
  refine g_iload X dL_law_1350 0 rfl ?_
  refine g_i2l X dL_law_1352 ?_
  refine g_lcmp0 X dL_law_1353 e5 ?_
  exact g_if_eq (tgt := 1359) X dL_law_1354 (by decide) (fun _ => kE) (fun h => absurd rfl h)
set_option maxRecDepth 100000 in
set_option maxHeartbeats 4000000 in
theorem lc_voteFor {κ : KT} {tab : List ExceptionTableEntry} {nm : String} {M : Hp} {cells slots : Nat} {sb Ls o od i : Nat} {xs : Nat → Int32} {A a : Nat → Nat} (X : Cx κ RL cL_law (some .boolean) tab nm) (hl : κ.l.stackTraces = false) (hnL : κ.nL = 9) (hRm : κ.R = room_1) (D : LD κ sb Ls xs A a o od) {w : PV} {u : HV} (hW : LW κ A a o od w u M) (hG : LG w u) (hi : i + 3 < Ls) (hc : cells + 3 ≤ 603072) (hs : slots + 18 ≤ 7182442) (hS : SmV isI [eIdx, eSta, eUns] (pVoteFor w (xs (i + 1)) (xs (i + 2))) (mVoteFor u (xs (i + 1)) (xs (i + 2)))) (k9 : ∀ M', LW κ A a o od (pVoteFor w (xs (i + 1)) (xs (i + 2))).2 (mVoteFor u (xs (i + 1)) (xs (i + 2))).2 M' → G κ M' (cells + 3) (slots + 18) (LL sb A a o od i) 2980 []) : G κ M cells slots (LL sb A a o od i) 1362 [] := by
  obtain ⟨hBR, hMR, ⟨fo, ho⟩, ⟨fd, hod⟩⟩ := hW
  refine g_aload_n X dL_law_1362 rfl 4 rfl ?_
  refine g_arg X D 1 5 0 dL_law_1363 dL_law_1364 dL_law_1366 dL_law_1367 dL_law_1368 (by decide) rfl rfl (by omega) ?_
  refine g_arg X D 2 5 0 dL_law_1369 dL_law_1370 dL_law_1372 dL_law_1373 dL_law_1374 (by decide) rfl rfl (by omega) ?_
  refine g_aload_n X dL_law_1375 rfl 2 rfl ?_
  refine g_callSX (As := [.ref (A 313), .int (xs (i + 1)), .int (xs (i + 2)), .ref o]) X dL_law_1376 (c_L_voteFor κ.l hl κ.Γ M A w hBR hG.1 (xs (i + 1)) (xs (i + 2))  o fo ho D.2.2.1.1 hS.inn) k664 k665 k0 k666 ⟨by decide, by decide, (show (parseMethodDescriptor yL_voteFor.desc).map (fun d => d.parameters.length) = some 4 by decide +kernel)⟩ rfl (Nat.le_of_ble_eq_true rfl) (by rw [hRm]; decide) (by rw [hRm]; exact ⟨by (show _ ≤ 603072); omega, by (show _ ≤ 7182442); omega⟩) (fun v1 M1 h1 => ?_) (fun E9 M9 h9 => ?_)
  rotate_left
  · obtain ⟨f1, -, -, -, hA1⟩ := h9
    obtain ⟨k1, z1, -, e1, -, -, -⟩ := hS.ans hA1 (by decide +kernel) (by decide)
    cases e1
  obtain ⟨f1, hBR1, ho1, hF1, hA1⟩ := h1
  obtain ⟨k1, z1, ⟨n1, rfl⟩, e1, e2, e3, e4⟩ := hS.ans hA1 (by decide +kernel) (by decide)
  cases e1
  have hMR1 := D.m hMR hF1
  have hx1 := D.odW hod hF1
  refine g_istore (L' := [(6, .int k1), (5, .int (nI i)), (4, .ref od), (3, .ref o), (2, .ref (a 0)), (1, .ref (A 313)), (0, .ref sb)]) X dL_law_1379 (by rw [hnL]; decide) rfl ?_
  refine g_aload_n X dL_law_1381 rfl 4 rfl ?_
  refine g_arg X D 1 6 1 dL_law_1382 dL_law_1383 dL_law_1385 dL_law_1386 dL_law_1387 (by decide) rfl rfl (by omega) ?_
  refine g_arg X D 2 6 1 dL_law_1388 dL_law_1389 dL_law_1391 dL_law_1392 dL_law_1393 (by decide) rfl rfl (by omega) ?_
  refine g_callV (As := [.int (xs (i + 1)), .int (xs (i + 2))]) (ci := 4) X dL_law_1394 (c_X4_voteFor κ.l hl κ.Γ M1 a u hMR1 (xs (i + 1)) (xs (i + 2)) hG.2.1 hG.2.2.1) k1325 k1326 k1327 k5 k1328 rfl (MRep.obj hMR1) ⟨rfl, by decide, by decide, (show (parseMethodDescriptor yX4_voteFor.desc).map (fun d => d.parameters.length) = some 2 by decide +kernel)⟩ rfl (Nat.le_of_ble_eq_true rfl) (by rw [hRm]; decide) (by rw [hRm]; exact ⟨by (show _ ≤ 603072); omega, by (show _ ≤ 7182442); omega⟩) (fun v2 M2 h2 => ?_) (fun E9 M9 h9 => by have := h9.1.trans e2; cases this)
  obtain ⟨g2, hMR2, hF2⟩ := h2
  have g2 := g2.trans e2
  cases g2
  refine g_istore (L' := [(7, .int n1), (6, .int k1), (5, .int (nI i)), (4, .ref od), (3, .ref o), (2, .ref (a 0)), (1, .ref (A 313)), (0, .ref sb)]) X dL_law_1397 (by rw [hnL]; decide) rfl ?_
  refine g_aload_n X dL_law_1399 rfl 5 rfl ?_
  refine g_callV_rd (As := []) (ci := 4) (v := some (.int ((mVoteFor u (xs (i + 1)) (xs (i + 2))).2.1 0))) X dL_law_1400 (c_X4_thrown κ.l hl κ.Γ M2 a _ hMR2) k1150 k1151 k1152 k5 k1153 rfl (MRep.obj hMR2) ⟨rfl, by decide, by decide, (show (parseMethodDescriptor yX4_thrown.desc).map (fun d => d.parameters.length) = some 0 by decide +kernel)⟩ rfl (Nat.le_of_ble_eq_true rfl) (by rw [hRm]; decide) (by rw [hRm]; exact ⟨by (show _ ≤ 603072); omega, by (show _ ≤ 7182442); omega⟩) ?_
  refine g_lit (y := k1) e3 ?_
  refine g_iload X dL_law_1403 1 rfl ?_
  refine g_icmp_eq (tgt := 1410) X dL_law_1405 (by decide) (fun _ => ?_) (fun h => absurd rfl h)
  refine g_iload X dL_law_1410 1 rfl ?_
  have hW2 : LW κ A a o od (pVoteFor w (xs (i + 1)) (xs (i + 2))).2 (mVoteFor u (xs (i + 1)) (xs (i + 2))).2 M2 := ⟨D.b hBR1 hF2, hMR2, ⟨f1, D.oM ho1 hF2⟩, ⟨fd, D.odM hx1 hF2⟩⟩
  have kE : G κ M2 (cells + 3) (slots + 18) [(7, .int n1), (6, .int k1), (5, .int (nI i)), (4, .ref od), (3, .ref o), (2, .ref (a 0)), (1, .ref (A 313)), (0, .ref sb)] 1427 [] := by
    refine g_goto (tgt := 2980) X dL_law_1427 (by decide) ?_
    refine g_locs [2, 3, 4, 5, 6, 7] (L' := LL sb A a o od i) rfl ?_
    exact k9 _ hW2
  refine g_if_ne (tgt := 1427) X dL_law_1412 (by decide) (fun _ => kE) (fun z0 => ?_)
  have e5 := e4 z0
  refine g_aload_n X dL_law_1415 rfl 4 rfl ?_
  refine g_iconst (v := 0) X dL_law_1416 (by decide) ?_
  refine g_laload X dL_law_1417 (D.oM ho1 hF2) vin01 ?_
  show G κ M2 _ _ _ _ (.long (f1 0) :: _)
  refine g_iload X dL_law_1418 0 rfl ?_
  refine g_i2l X dL_law_1420 ?_
  refine g_lcmp0 X dL_law_1421 e5 ?_
  exact g_if_eq (tgt := 1427) X dL_law_1422 (by decide) (fun _ => kE) (fun h => absurd rfl h)
set_option maxRecDepth 100000 in
set_option maxHeartbeats 4000000 in
theorem lc_voteAgainst {κ : KT} {tab : List ExceptionTableEntry} {nm : String} {M : Hp} {cells slots : Nat} {sb Ls o od i : Nat} {xs : Nat → Int32} {A a : Nat → Nat} (X : Cx κ RL cL_law (some .boolean) tab nm) (hl : κ.l.stackTraces = false) (hnL : κ.nL = 9) (hRm : κ.R = room_1) (D : LD κ sb Ls xs A a o od) {w : PV} {u : HV} (hW : LW κ A a o od w u M) (hG : LG w u) (hi : i + 3 < Ls) (hc : cells + 3 ≤ 603072) (hs : slots + 18 ≤ 7182442) (hS : SmV isI [eIdx, eSta, eUns] (pVoteAgainst w (xs (i + 1)) (xs (i + 2))) (mVoteAgainst u (xs (i + 1)) (xs (i + 2)))) (k9 : ∀ M', LW κ A a o od (pVoteAgainst w (xs (i + 1)) (xs (i + 2))).2 (mVoteAgainst u (xs (i + 1)) (xs (i + 2))).2 M' → G κ M' (cells + 3) (slots + 18) (LL sb A a o od i) 2980 []) : G κ M cells slots (LL sb A a o od i) 1430 [] := by
  obtain ⟨hBR, hMR, ⟨fo, ho⟩, ⟨fd, hod⟩⟩ := hW
  refine g_aload_n X dL_law_1430 rfl 4 rfl ?_
  refine g_arg X D 1 5 0 dL_law_1431 dL_law_1432 dL_law_1434 dL_law_1435 dL_law_1436 (by decide) rfl rfl (by omega) ?_
  refine g_arg X D 2 5 0 dL_law_1437 dL_law_1438 dL_law_1440 dL_law_1441 dL_law_1442 (by decide) rfl rfl (by omega) ?_
  refine g_aload_n X dL_law_1443 rfl 2 rfl ?_
  refine g_callSX (As := [.ref (A 313), .int (xs (i + 1)), .int (xs (i + 2)), .ref o]) X dL_law_1444 (c_L_voteAgainst κ.l hl κ.Γ M A w hBR hG.1 (xs (i + 1)) (xs (i + 2))  o fo ho D.2.2.1.1 hS.inn) k681 k682 k0 k683 ⟨by decide, by decide, (show (parseMethodDescriptor yL_voteAgainst.desc).map (fun d => d.parameters.length) = some 4 by decide +kernel)⟩ rfl (Nat.le_of_ble_eq_true rfl) (by rw [hRm]; decide) (by rw [hRm]; exact ⟨by (show _ ≤ 603072); omega, by (show _ ≤ 7182442); omega⟩) (fun v1 M1 h1 => ?_) (fun E9 M9 h9 => ?_)
  rotate_left
  · obtain ⟨f1, -, -, -, hA1⟩ := h9
    obtain ⟨k1, z1, -, e1, -, -, -⟩ := hS.ans hA1 (by decide +kernel) (by decide)
    cases e1
  obtain ⟨f1, hBR1, ho1, hF1, hA1⟩ := h1
  obtain ⟨k1, z1, ⟨n1, rfl⟩, e1, e2, e3, e4⟩ := hS.ans hA1 (by decide +kernel) (by decide)
  cases e1
  have hMR1 := D.m hMR hF1
  have hx1 := D.odW hod hF1
  refine g_istore (L' := [(6, .int k1), (5, .int (nI i)), (4, .ref od), (3, .ref o), (2, .ref (a 0)), (1, .ref (A 313)), (0, .ref sb)]) X dL_law_1447 (by rw [hnL]; decide) rfl ?_
  refine g_aload_n X dL_law_1449 rfl 4 rfl ?_
  refine g_arg X D 1 6 1 dL_law_1450 dL_law_1451 dL_law_1453 dL_law_1454 dL_law_1455 (by decide) rfl rfl (by omega) ?_
  refine g_arg X D 2 6 1 dL_law_1456 dL_law_1457 dL_law_1459 dL_law_1460 dL_law_1461 (by decide) rfl rfl (by omega) ?_
  refine g_callV (As := [.int (xs (i + 1)), .int (xs (i + 2))]) (ci := 4) X dL_law_1462 (c_X4_voteAgainst κ.l hl κ.Γ M1 a u hMR1 (xs (i + 1)) (xs (i + 2)) hG.2.1 hG.2.2.1) k1337 k1338 k1339 k5 k1340 rfl (MRep.obj hMR1) ⟨rfl, by decide, by decide, (show (parseMethodDescriptor yX4_voteAgainst.desc).map (fun d => d.parameters.length) = some 2 by decide +kernel)⟩ rfl (Nat.le_of_ble_eq_true rfl) (by rw [hRm]; decide) (by rw [hRm]; exact ⟨by (show _ ≤ 603072); omega, by (show _ ≤ 7182442); omega⟩) (fun v2 M2 h2 => ?_) (fun E9 M9 h9 => by have := h9.1.trans e2; cases this)
  obtain ⟨g2, hMR2, hF2⟩ := h2
  have g2 := g2.trans e2
  cases g2
  refine g_istore (L' := [(7, .int n1), (6, .int k1), (5, .int (nI i)), (4, .ref od), (3, .ref o), (2, .ref (a 0)), (1, .ref (A 313)), (0, .ref sb)]) X dL_law_1465 (by rw [hnL]; decide) rfl ?_
  refine g_aload_n X dL_law_1467 rfl 5 rfl ?_
  refine g_callV_rd (As := []) (ci := 4) (v := some (.int ((mVoteAgainst u (xs (i + 1)) (xs (i + 2))).2.1 0))) X dL_law_1468 (c_X4_thrown κ.l hl κ.Γ M2 a _ hMR2) k1150 k1151 k1152 k5 k1153 rfl (MRep.obj hMR2) ⟨rfl, by decide, by decide, (show (parseMethodDescriptor yX4_thrown.desc).map (fun d => d.parameters.length) = some 0 by decide +kernel)⟩ rfl (Nat.le_of_ble_eq_true rfl) (by rw [hRm]; decide) (by rw [hRm]; exact ⟨by (show _ ≤ 603072); omega, by (show _ ≤ 7182442); omega⟩) ?_
  refine g_lit (y := k1) e3 ?_
  refine g_iload X dL_law_1471 1 rfl ?_
  refine g_icmp_eq (tgt := 1478) X dL_law_1473 (by decide) (fun _ => ?_) (fun h => absurd rfl h)
  refine g_iload X dL_law_1478 1 rfl ?_
  have hW2 : LW κ A a o od (pVoteAgainst w (xs (i + 1)) (xs (i + 2))).2 (mVoteAgainst u (xs (i + 1)) (xs (i + 2))).2 M2 := ⟨D.b hBR1 hF2, hMR2, ⟨f1, D.oM ho1 hF2⟩, ⟨fd, D.odM hx1 hF2⟩⟩
  have kE : G κ M2 (cells + 3) (slots + 18) [(7, .int n1), (6, .int k1), (5, .int (nI i)), (4, .ref od), (3, .ref o), (2, .ref (a 0)), (1, .ref (A 313)), (0, .ref sb)] 1495 [] := by
    refine g_goto (tgt := 2980) X dL_law_1495 (by decide) ?_
    refine g_locs [2, 3, 4, 5, 6, 7] (L' := LL sb A a o od i) rfl ?_
    exact k9 _ hW2
  refine g_if_ne (tgt := 1495) X dL_law_1480 (by decide) (fun _ => kE) (fun z0 => ?_)
  have e5 := e4 z0
  refine g_aload_n X dL_law_1483 rfl 4 rfl ?_
  refine g_iconst (v := 0) X dL_law_1484 (by decide) ?_
  refine g_laload X dL_law_1485 (D.oM ho1 hF2) vin01 ?_
  show G κ M2 _ _ _ _ (.long (f1 0) :: _)
  refine g_iload X dL_law_1486 0 rfl ?_
  refine g_i2l X dL_law_1488 ?_
  refine g_lcmp0 X dL_law_1489 e5 ?_
  exact g_if_eq (tgt := 1495) X dL_law_1490 (by decide) (fun _ => kE) (fun h => absurd rfl h)
set_option maxRecDepth 100000 in
set_option maxHeartbeats 4000000 in
theorem lc_weightFor {κ : KT} {tab : List ExceptionTableEntry} {nm : String} {M : Hp} {cells slots : Nat} {sb Ls o od i : Nat} {xs : Nat → Int32} {A a : Nat → Nat} (X : Cx κ RL cL_law (some .boolean) tab nm) (hl : κ.l.stackTraces = false) (hnL : κ.nL = 9) (hRm : κ.R = room_1) (D : LD κ sb Ls xs A a o od) {w : PV} {u : HV} (hW : LW κ A a o od w u M) (hG : LG w u) (hi : i + 3 < Ls) (hc : cells + 3 ≤ 603072) (hs : slots + 18 ≤ 7182442) (hS : SmV isI [eIdx] (pWeightFor w (xs (i + 1))) (mWeightFor u (xs (i + 1)))) (k9 : ∀ M', LW κ A a o od (pWeightFor w (xs (i + 1))).2 (mWeightFor u (xs (i + 1))).2 M' → G κ M' (cells + 3) (slots + 18) (LL sb A a o od i) 2980 []) : G κ M cells slots (LL sb A a o od i) 1498 [] := by
  obtain ⟨hBR, hMR, ⟨fo, ho⟩, ⟨fd, hod⟩⟩ := hW
  refine g_aload_n X dL_law_1498 rfl 4 rfl ?_
  refine g_arg X D 1 5 0 dL_law_1499 dL_law_1500 dL_law_1502 dL_law_1503 dL_law_1504 (by decide) rfl rfl (by omega) ?_
  refine g_aload_n X dL_law_1505 rfl 2 rfl ?_
  refine g_callSX (As := [.ref (A 313), .int (xs (i + 1)), .ref o]) X dL_law_1506 (c_L_weightFor κ.l hl κ.Γ M A w hBR hG.1 (xs (i + 1))  o fo ho D.2.2.1.1 hS.inn) k692 k693 k0 k694 ⟨by decide, by decide, (show (parseMethodDescriptor yL_weightFor.desc).map (fun d => d.parameters.length) = some 3 by decide +kernel)⟩ rfl (Nat.le_of_ble_eq_true rfl) (by rw [hRm]; decide) (by rw [hRm]; exact ⟨by (show _ ≤ 603072); omega, by (show _ ≤ 7182442); omega⟩) (fun v1 M1 h1 => ?_) (fun E9 M9 h9 => ?_)
  rotate_left
  · obtain ⟨f1, -, -, -, hA1⟩ := h9
    obtain ⟨k1, z1, -, e1, -, -, -⟩ := hS.ans hA1 (by decide +kernel) (by decide)
    cases e1
  obtain ⟨f1, hBR1, ho1, hF1, hA1⟩ := h1
  obtain ⟨k1, z1, ⟨n1, rfl⟩, e1, e2, e3, e4⟩ := hS.ans hA1 (by decide +kernel) (by decide)
  cases e1
  have hMR1 := D.m hMR hF1
  have hx1 := D.odW hod hF1
  refine g_istore (L' := [(6, .int k1), (5, .int (nI i)), (4, .ref od), (3, .ref o), (2, .ref (a 0)), (1, .ref (A 313)), (0, .ref sb)]) X dL_law_1509 (by rw [hnL]; decide) rfl ?_
  refine g_aload_n X dL_law_1511 rfl 4 rfl ?_
  refine g_arg X D 1 6 1 dL_law_1512 dL_law_1513 dL_law_1515 dL_law_1516 dL_law_1517 (by decide) rfl rfl (by omega) ?_
  refine g_callV (As := [.int (xs (i + 1))]) (ci := 4) X dL_law_1518 (c_X4_weightFor κ.l hl κ.Γ M1 a u hMR1 (xs (i + 1)) hG.2.1) k1341 k1342 k1343 k5 k1344 rfl (MRep.obj hMR1) ⟨rfl, by decide, by decide, (show (parseMethodDescriptor yX4_weightFor.desc).map (fun d => d.parameters.length) = some 1 by decide +kernel)⟩ rfl (Nat.le_of_ble_eq_true rfl) (by rw [hRm]; decide) (by rw [hRm]; exact ⟨by (show _ ≤ 603072); omega, by (show _ ≤ 7182442); omega⟩) (fun v2 M2 h2 => ?_) (fun E9 M9 h9 => by have := h9.1.trans e2; cases this)
  obtain ⟨g2, hMR2, hF2⟩ := h2
  have g2 := g2.trans e2
  cases g2
  refine g_istore (L' := [(7, .int n1), (6, .int k1), (5, .int (nI i)), (4, .ref od), (3, .ref o), (2, .ref (a 0)), (1, .ref (A 313)), (0, .ref sb)]) X dL_law_1521 (by rw [hnL]; decide) rfl ?_
  refine g_aload_n X dL_law_1523 rfl 5 rfl ?_
  refine g_callV_rd (As := []) (ci := 4) (v := some (.int ((mWeightFor u (xs (i + 1))).2.1 0))) X dL_law_1524 (c_X4_thrown κ.l hl κ.Γ M2 a _ hMR2) k1150 k1151 k1152 k5 k1153 rfl (MRep.obj hMR2) ⟨rfl, by decide, by decide, (show (parseMethodDescriptor yX4_thrown.desc).map (fun d => d.parameters.length) = some 0 by decide +kernel)⟩ rfl (Nat.le_of_ble_eq_true rfl) (by rw [hRm]; decide) (by rw [hRm]; exact ⟨by (show _ ≤ 603072); omega, by (show _ ≤ 7182442); omega⟩) ?_
  refine g_lit (y := k1) e3 ?_
  refine g_iload X dL_law_1527 1 rfl ?_
  refine g_icmp_eq (tgt := 1534) X dL_law_1529 (by decide) (fun _ => ?_) (fun h => absurd rfl h)
  refine g_iload X dL_law_1534 1 rfl ?_
  have hW2 : LW κ A a o od (pWeightFor w (xs (i + 1))).2 (mWeightFor u (xs (i + 1))).2 M2 := ⟨D.b hBR1 hF2, hMR2, ⟨f1, D.oM ho1 hF2⟩, ⟨fd, D.odM hx1 hF2⟩⟩
  have kE : G κ M2 (cells + 3) (slots + 18) [(7, .int n1), (6, .int k1), (5, .int (nI i)), (4, .ref od), (3, .ref o), (2, .ref (a 0)), (1, .ref (A 313)), (0, .ref sb)] 1551 [] := by
    refine g_goto (tgt := 2980) X dL_law_1551 (by decide) ?_
    refine g_locs [2, 3, 4, 5, 6, 7] (L' := LL sb A a o od i) rfl ?_
    exact k9 _ hW2
  refine g_if_ne (tgt := 1551) X dL_law_1536 (by decide) (fun _ => kE) (fun z0 => ?_)
  have e5 := e4 z0
  refine g_aload_n X dL_law_1539 rfl 4 rfl ?_
  refine g_iconst (v := 0) X dL_law_1540 (by decide) ?_
  refine g_laload X dL_law_1541 (D.oM ho1 hF2) vin01 ?_
  show G κ M2 _ _ _ _ (.long (f1 0) :: _)
  refine g_iload X dL_law_1542 0 rfl ?_
  refine g_i2l X dL_law_1544 ?_
  refine g_lcmp0 X dL_law_1545 e5 ?_
  exact g_if_eq (tgt := 1551) X dL_law_1546 (by decide) (fun _ => kE) (fun h => absurd rfl h)
set_option maxRecDepth 100000 in
set_option maxHeartbeats 4000000 in
theorem lc_weightForByDigits {κ : KT} {tab : List ExceptionTableEntry} {nm : String} {M : Hp} {cells slots : Nat} {sb Ls o od i : Nat} {xs : Nat → Int32} {A a : Nat → Nat} (X : Cx κ RL cL_law (some .boolean) tab nm) (hl : κ.l.stackTraces = false) (hnL : κ.nL = 9) (hRm : κ.R = room_1) (D : LD κ sb Ls xs A a o od) {w : PV} {u : HV} (hW : LW κ A a o od w u M) (hG : LG w u) (hi : i + 3 < Ls) (hc : cells + 3 ≤ 603072) (hs : slots + 18 ≤ 7182442) (hS : SmV isI [eIdx] (pWeightForByDigits w (xs (i + 1))) (mWeightForByDigits u (xs (i + 1)))) (k9 : ∀ M', LW κ A a o od (pWeightForByDigits w (xs (i + 1))).2 (mWeightForByDigits u (xs (i + 1))).2 M' → G κ M' (cells + 3) (slots + 18) (LL sb A a o od i) 2980 []) : G κ M cells slots (LL sb A a o od i) 1554 [] := by
  obtain ⟨hBR, hMR, ⟨fo, ho⟩, ⟨fd, hod⟩⟩ := hW
  refine g_aload_n X dL_law_1554 rfl 4 rfl ?_
  refine g_arg X D 1 5 0 dL_law_1555 dL_law_1556 dL_law_1558 dL_law_1559 dL_law_1560 (by decide) rfl rfl (by omega) ?_
  refine g_aload_n X dL_law_1561 rfl 2 rfl ?_
  refine g_callSX (As := [.ref (A 313), .int (xs (i + 1)), .ref o]) X dL_law_1562 (c_L_weightForByDigits κ.l hl κ.Γ M A w hBR hG.1 (xs (i + 1))  o fo ho D.2.2.1.1 hS.inn) k699 k700 k0 k701 ⟨by decide, by decide, (show (parseMethodDescriptor yL_weightForByDigits.desc).map (fun d => d.parameters.length) = some 3 by decide +kernel)⟩ rfl (Nat.le_of_ble_eq_true rfl) (by rw [hRm]; decide) (by rw [hRm]; exact ⟨by (show _ ≤ 603072); omega, by (show _ ≤ 7182442); omega⟩) (fun v1 M1 h1 => ?_) (fun E9 M9 h9 => ?_)
  rotate_left
  · obtain ⟨f1, -, -, -, hA1⟩ := h9
    obtain ⟨k1, z1, -, e1, -, -, -⟩ := hS.ans hA1 (by decide +kernel) (by decide)
    cases e1
  obtain ⟨f1, hBR1, ho1, hF1, hA1⟩ := h1
  obtain ⟨k1, z1, ⟨n1, rfl⟩, e1, e2, e3, e4⟩ := hS.ans hA1 (by decide +kernel) (by decide)
  cases e1
  have hMR1 := D.m hMR hF1
  have hx1 := D.odW hod hF1
  refine g_istore (L' := [(6, .int k1), (5, .int (nI i)), (4, .ref od), (3, .ref o), (2, .ref (a 0)), (1, .ref (A 313)), (0, .ref sb)]) X dL_law_1565 (by rw [hnL]; decide) rfl ?_
  refine g_aload_n X dL_law_1567 rfl 4 rfl ?_
  refine g_arg X D 1 6 1 dL_law_1568 dL_law_1569 dL_law_1571 dL_law_1572 dL_law_1573 (by decide) rfl rfl (by omega) ?_
  refine g_callV (As := [.int (xs (i + 1))]) (ci := 4) X dL_law_1574 (c_X4_weightForByDigits κ.l hl κ.Γ M1 a u hMR1 (xs (i + 1)) hG.2.1) k1345 k1346 k1347 k5 k1348 rfl (MRep.obj hMR1) ⟨rfl, by decide, by decide, (show (parseMethodDescriptor yX4_weightForByDigits.desc).map (fun d => d.parameters.length) = some 1 by decide +kernel)⟩ rfl (Nat.le_of_ble_eq_true rfl) (by rw [hRm]; decide) (by rw [hRm]; exact ⟨by (show _ ≤ 603072); omega, by (show _ ≤ 7182442); omega⟩) (fun v2 M2 h2 => ?_) (fun E9 M9 h9 => by have := h9.1.trans e2; cases this)
  obtain ⟨g2, hMR2, hF2⟩ := h2
  have g2 := g2.trans e2
  cases g2
  refine g_istore (L' := [(7, .int n1), (6, .int k1), (5, .int (nI i)), (4, .ref od), (3, .ref o), (2, .ref (a 0)), (1, .ref (A 313)), (0, .ref sb)]) X dL_law_1577 (by rw [hnL]; decide) rfl ?_
  refine g_aload_n X dL_law_1579 rfl 5 rfl ?_
  refine g_callV_rd (As := []) (ci := 4) (v := some (.int ((mWeightForByDigits u (xs (i + 1))).2.1 0))) X dL_law_1580 (c_X4_thrown κ.l hl κ.Γ M2 a _ hMR2) k1150 k1151 k1152 k5 k1153 rfl (MRep.obj hMR2) ⟨rfl, by decide, by decide, (show (parseMethodDescriptor yX4_thrown.desc).map (fun d => d.parameters.length) = some 0 by decide +kernel)⟩ rfl (Nat.le_of_ble_eq_true rfl) (by rw [hRm]; decide) (by rw [hRm]; exact ⟨by (show _ ≤ 603072); omega, by (show _ ≤ 7182442); omega⟩) ?_
  refine g_lit (y := k1) e3 ?_
  refine g_iload X dL_law_1583 1 rfl ?_
  refine g_icmp_eq (tgt := 1590) X dL_law_1585 (by decide) (fun _ => ?_) (fun h => absurd rfl h)
  refine g_iload X dL_law_1590 1 rfl ?_
  have hW2 : LW κ A a o od (pWeightForByDigits w (xs (i + 1))).2 (mWeightForByDigits u (xs (i + 1))).2 M2 := ⟨D.b hBR1 hF2, hMR2, ⟨f1, D.oM ho1 hF2⟩, ⟨fd, D.odM hx1 hF2⟩⟩
  have kE : G κ M2 (cells + 3) (slots + 18) [(7, .int n1), (6, .int k1), (5, .int (nI i)), (4, .ref od), (3, .ref o), (2, .ref (a 0)), (1, .ref (A 313)), (0, .ref sb)] 1607 [] := by
    refine g_goto (tgt := 2980) X dL_law_1607 (by decide) ?_
    refine g_locs [2, 3, 4, 5, 6, 7] (L' := LL sb A a o od i) rfl ?_
    exact k9 _ hW2
  refine g_if_ne (tgt := 1607) X dL_law_1592 (by decide) (fun _ => kE) (fun z0 => ?_)
  have e5 := e4 z0
  refine g_aload_n X dL_law_1595 rfl 4 rfl ?_
  refine g_iconst (v := 0) X dL_law_1596 (by decide) ?_
  refine g_laload X dL_law_1597 (D.oM ho1 hF2) vin01 ?_
  show G κ M2 _ _ _ _ (.long (f1 0) :: _)
  refine g_iload X dL_law_1598 0 rfl ?_
  refine g_i2l X dL_law_1600 ?_
  refine g_lcmp0 X dL_law_1601 e5 ?_
  exact g_if_eq (tgt := 1607) X dL_law_1602 (by decide) (fun _ => kE) (fun h => absurd rfl h)
set_option maxRecDepth 100000 in
set_option maxHeartbeats 4000000 in
theorem lc_weightAgainst {κ : KT} {tab : List ExceptionTableEntry} {nm : String} {M : Hp} {cells slots : Nat} {sb Ls o od i : Nat} {xs : Nat → Int32} {A a : Nat → Nat} (X : Cx κ RL cL_law (some .boolean) tab nm) (hl : κ.l.stackTraces = false) (hnL : κ.nL = 9) (hRm : κ.R = room_1) (D : LD κ sb Ls xs A a o od) {w : PV} {u : HV} (hW : LW κ A a o od w u M) (hG : LG w u) (hi : i + 3 < Ls) (hc : cells + 3 ≤ 603072) (hs : slots + 18 ≤ 7182442) (hS : SmV isI [eIdx] (pWeightAgainst w (xs (i + 1))) (mWeightAgainst u (xs (i + 1)))) (k9 : ∀ M', LW κ A a o od (pWeightAgainst w (xs (i + 1))).2 (mWeightAgainst u (xs (i + 1))).2 M' → G κ M' (cells + 3) (slots + 18) (LL sb A a o od i) 2980 []) : G κ M cells slots (LL sb A a o od i) 1610 [] := by
  obtain ⟨hBR, hMR, ⟨fo, ho⟩, ⟨fd, hod⟩⟩ := hW
  refine g_aload_n X dL_law_1610 rfl 4 rfl ?_
  refine g_arg X D 1 5 0 dL_law_1611 dL_law_1612 dL_law_1614 dL_law_1615 dL_law_1616 (by decide) rfl rfl (by omega) ?_
  refine g_aload_n X dL_law_1617 rfl 2 rfl ?_
  refine g_callSX (As := [.ref (A 313), .int (xs (i + 1)), .ref o]) X dL_law_1618 (c_L_weightAgainst κ.l hl κ.Γ M A w hBR hG.1 (xs (i + 1))  o fo ho D.2.2.1.1 hS.inn) k706 k707 k0 k708 ⟨by decide, by decide, (show (parseMethodDescriptor yL_weightAgainst.desc).map (fun d => d.parameters.length) = some 3 by decide +kernel)⟩ rfl (Nat.le_of_ble_eq_true rfl) (by rw [hRm]; decide) (by rw [hRm]; exact ⟨by (show _ ≤ 603072); omega, by (show _ ≤ 7182442); omega⟩) (fun v1 M1 h1 => ?_) (fun E9 M9 h9 => ?_)
  rotate_left
  · obtain ⟨f1, -, -, -, hA1⟩ := h9
    obtain ⟨k1, z1, -, e1, -, -, -⟩ := hS.ans hA1 (by decide +kernel) (by decide)
    cases e1
  obtain ⟨f1, hBR1, ho1, hF1, hA1⟩ := h1
  obtain ⟨k1, z1, ⟨n1, rfl⟩, e1, e2, e3, e4⟩ := hS.ans hA1 (by decide +kernel) (by decide)
  cases e1
  have hMR1 := D.m hMR hF1
  have hx1 := D.odW hod hF1
  refine g_istore (L' := [(6, .int k1), (5, .int (nI i)), (4, .ref od), (3, .ref o), (2, .ref (a 0)), (1, .ref (A 313)), (0, .ref sb)]) X dL_law_1621 (by rw [hnL]; decide) rfl ?_
  refine g_aload_n X dL_law_1623 rfl 4 rfl ?_
  refine g_arg X D 1 6 1 dL_law_1624 dL_law_1625 dL_law_1627 dL_law_1628 dL_law_1629 (by decide) rfl rfl (by omega) ?_
  refine g_callV (As := [.int (xs (i + 1))]) (ci := 4) X dL_law_1630 (c_X4_weightAgainst κ.l hl κ.Γ M1 a u hMR1 (xs (i + 1)) hG.2.1) k1350 k1351 k1352 k5 k1353 rfl (MRep.obj hMR1) ⟨rfl, by decide, by decide, (show (parseMethodDescriptor yX4_weightAgainst.desc).map (fun d => d.parameters.length) = some 1 by decide +kernel)⟩ rfl (Nat.le_of_ble_eq_true rfl) (by rw [hRm]; decide) (by rw [hRm]; exact ⟨by (show _ ≤ 603072); omega, by (show _ ≤ 7182442); omega⟩) (fun v2 M2 h2 => ?_) (fun E9 M9 h9 => by have := h9.1.trans e2; cases this)
  obtain ⟨g2, hMR2, hF2⟩ := h2
  have g2 := g2.trans e2
  cases g2
  refine g_istore (L' := [(7, .int n1), (6, .int k1), (5, .int (nI i)), (4, .ref od), (3, .ref o), (2, .ref (a 0)), (1, .ref (A 313)), (0, .ref sb)]) X dL_law_1633 (by rw [hnL]; decide) rfl ?_
  refine g_aload_n X dL_law_1635 rfl 5 rfl ?_
  refine g_callV_rd (As := []) (ci := 4) (v := some (.int ((mWeightAgainst u (xs (i + 1))).2.1 0))) X dL_law_1636 (c_X4_thrown κ.l hl κ.Γ M2 a _ hMR2) k1150 k1151 k1152 k5 k1153 rfl (MRep.obj hMR2) ⟨rfl, by decide, by decide, (show (parseMethodDescriptor yX4_thrown.desc).map (fun d => d.parameters.length) = some 0 by decide +kernel)⟩ rfl (Nat.le_of_ble_eq_true rfl) (by rw [hRm]; decide) (by rw [hRm]; exact ⟨by (show _ ≤ 603072); omega, by (show _ ≤ 7182442); omega⟩) ?_
  refine g_lit (y := k1) e3 ?_
  refine g_iload X dL_law_1639 1 rfl ?_
  refine g_icmp_eq (tgt := 1646) X dL_law_1641 (by decide) (fun _ => ?_) (fun h => absurd rfl h)
  refine g_iload X dL_law_1646 1 rfl ?_
  have hW2 : LW κ A a o od (pWeightAgainst w (xs (i + 1))).2 (mWeightAgainst u (xs (i + 1))).2 M2 := ⟨D.b hBR1 hF2, hMR2, ⟨f1, D.oM ho1 hF2⟩, ⟨fd, D.odM hx1 hF2⟩⟩
  have kE : G κ M2 (cells + 3) (slots + 18) [(7, .int n1), (6, .int k1), (5, .int (nI i)), (4, .ref od), (3, .ref o), (2, .ref (a 0)), (1, .ref (A 313)), (0, .ref sb)] 1663 [] := by
    refine g_goto (tgt := 2980) X dL_law_1663 (by decide) ?_
    refine g_locs [2, 3, 4, 5, 6, 7] (L' := LL sb A a o od i) rfl ?_
    exact k9 _ hW2
  refine g_if_ne (tgt := 1663) X dL_law_1648 (by decide) (fun _ => kE) (fun z0 => ?_)
  have e5 := e4 z0
  refine g_aload_n X dL_law_1651 rfl 4 rfl ?_
  refine g_iconst (v := 0) X dL_law_1652 (by decide) ?_
  refine g_laload X dL_law_1653 (D.oM ho1 hF2) vin01 ?_
  show G κ M2 _ _ _ _ (.long (f1 0) :: _)
  refine g_iload X dL_law_1654 0 rfl ?_
  refine g_i2l X dL_law_1656 ?_
  refine g_lcmp0 X dL_law_1657 e5 ?_
  exact g_if_eq (tgt := 1663) X dL_law_1658 (by decide) (fun _ => kE) (fun h => absurd rfl h)
set_option maxRecDepth 100000 in
set_option maxHeartbeats 4000000 in
theorem lc_closeReading {κ : KT} {tab : List ExceptionTableEntry} {nm : String} {M : Hp} {cells slots : Nat} {sb Ls o od i : Nat} {xs : Nat → Int32} {A a : Nat → Nat} (X : Cx κ RL cL_law (some .boolean) tab nm) (hl : κ.l.stackTraces = false) (hnL : κ.nL = 9) (hRm : κ.R = room_1) (D : LD κ sb Ls xs A a o od) {w : PV} {u : HV} (hW : LW κ A a o od w u M) (hG : LG w u) (hi : i + 3 < Ls) (hc : cells + 3 ≤ 603072) (hs : slots + 18 ≤ 7182442) (hS : SmV isI [eIdx, eSta, eUns] (pCloseReading w (xs (i + 1))) (mCloseReading u (xs (i + 1)))) (k9 : ∀ M', LW κ A a o od (pCloseReading w (xs (i + 1))).2 (mCloseReading u (xs (i + 1))).2 M' → G κ M' (cells + 3) (slots + 18) (LL sb A a o od i) 2980 []) : G κ M cells slots (LL sb A a o od i) 1666 [] := by
  obtain ⟨hBR, hMR, ⟨fo, ho⟩, ⟨fd, hod⟩⟩ := hW
  refine g_aload_n X dL_law_1666 rfl 4 rfl ?_
  refine g_arg X D 1 5 0 dL_law_1667 dL_law_1668 dL_law_1670 dL_law_1671 dL_law_1672 (by decide) rfl rfl (by omega) ?_
  refine g_aload_n X dL_law_1673 rfl 2 rfl ?_
  refine g_callSX (As := [.ref (A 313), .int (xs (i + 1)), .ref o]) X dL_law_1674 (c_L_closeReading κ.l hl κ.Γ M A w hBR hG.1 (xs (i + 1))  o fo ho D.2.2.1.1 hS.inn) k713 k714 k0 k715 ⟨by decide, by decide, (show (parseMethodDescriptor yL_closeReading.desc).map (fun d => d.parameters.length) = some 3 by decide +kernel)⟩ rfl (Nat.le_of_ble_eq_true rfl) (by rw [hRm]; decide) (by rw [hRm]; exact ⟨by (show _ ≤ 603072); omega, by (show _ ≤ 7182442); omega⟩) (fun v1 M1 h1 => ?_) (fun E9 M9 h9 => ?_)
  rotate_left
  · obtain ⟨f1, -, -, -, hA1⟩ := h9
    obtain ⟨k1, z1, -, e1, -, -, -⟩ := hS.ans hA1 (by decide +kernel) (by decide)
    cases e1
  obtain ⟨f1, hBR1, ho1, hF1, hA1⟩ := h1
  obtain ⟨k1, z1, ⟨n1, rfl⟩, e1, e2, e3, e4⟩ := hS.ans hA1 (by decide +kernel) (by decide)
  cases e1
  have hMR1 := D.m hMR hF1
  have hx1 := D.odW hod hF1
  refine g_istore (L' := [(6, .int k1), (5, .int (nI i)), (4, .ref od), (3, .ref o), (2, .ref (a 0)), (1, .ref (A 313)), (0, .ref sb)]) X dL_law_1677 (by rw [hnL]; decide) rfl ?_
  refine g_aload_n X dL_law_1679 rfl 4 rfl ?_
  refine g_arg X D 1 6 1 dL_law_1680 dL_law_1681 dL_law_1683 dL_law_1684 dL_law_1685 (by decide) rfl rfl (by omega) ?_
  refine g_callV (As := [.int (xs (i + 1))]) (ci := 4) X dL_law_1686 (c_X4_closeReading κ.l hl κ.Γ M1 a u hMR1 (xs (i + 1)) hG.2.1 hG.2.2.1) k1354 k1355 k1356 k5 k1357 rfl (MRep.obj hMR1) ⟨rfl, by decide, by decide, (show (parseMethodDescriptor yX4_closeReading.desc).map (fun d => d.parameters.length) = some 1 by decide +kernel)⟩ rfl (Nat.le_of_ble_eq_true rfl) (by rw [hRm]; decide) (by rw [hRm]; exact ⟨by (show _ ≤ 603072); omega, by (show _ ≤ 7182442); omega⟩) (fun v2 M2 h2 => ?_) (fun E9 M9 h9 => by have := h9.1.trans e2; cases this)
  obtain ⟨g2, hMR2, hF2⟩ := h2
  have g2 := g2.trans e2
  cases g2
  refine g_istore (L' := [(7, .int n1), (6, .int k1), (5, .int (nI i)), (4, .ref od), (3, .ref o), (2, .ref (a 0)), (1, .ref (A 313)), (0, .ref sb)]) X dL_law_1689 (by rw [hnL]; decide) rfl ?_
  refine g_aload_n X dL_law_1691 rfl 5 rfl ?_
  refine g_callV_rd (As := []) (ci := 4) (v := some (.int ((mCloseReading u (xs (i + 1))).2.1 0))) X dL_law_1692 (c_X4_thrown κ.l hl κ.Γ M2 a _ hMR2) k1150 k1151 k1152 k5 k1153 rfl (MRep.obj hMR2) ⟨rfl, by decide, by decide, (show (parseMethodDescriptor yX4_thrown.desc).map (fun d => d.parameters.length) = some 0 by decide +kernel)⟩ rfl (Nat.le_of_ble_eq_true rfl) (by rw [hRm]; decide) (by rw [hRm]; exact ⟨by (show _ ≤ 603072); omega, by (show _ ≤ 7182442); omega⟩) ?_
  refine g_lit (y := k1) e3 ?_
  refine g_iload X dL_law_1695 1 rfl ?_
  refine g_icmp_eq (tgt := 1702) X dL_law_1697 (by decide) (fun _ => ?_) (fun h => absurd rfl h)
  refine g_iload X dL_law_1702 1 rfl ?_
  have hW2 : LW κ A a o od (pCloseReading w (xs (i + 1))).2 (mCloseReading u (xs (i + 1))).2 M2 := ⟨D.b hBR1 hF2, hMR2, ⟨f1, D.oM ho1 hF2⟩, ⟨fd, D.odM hx1 hF2⟩⟩
  have kE : G κ M2 (cells + 3) (slots + 18) [(7, .int n1), (6, .int k1), (5, .int (nI i)), (4, .ref od), (3, .ref o), (2, .ref (a 0)), (1, .ref (A 313)), (0, .ref sb)] 1726 [] := by
    refine g_goto (tgt := 2980) X dL_law_1726 (by decide) ?_
    refine g_locs [2, 3, 4, 5, 6, 7] (L' := LL sb A a o od i) rfl ?_
    exact k9 _ hW2
  refine g_if_ne (tgt := 1726) X dL_law_1704 (by decide) (fun _ => kE) (fun z0 => ?_)
  have e5 := e4 z0
  refine g_aload_n X dL_law_1707 rfl 4 rfl ?_
  refine g_iconst (v := 0) X dL_law_1708 (by decide) ?_
  refine g_laload X dL_law_1709 (D.oM ho1 hF2) vin01 ?_
  show G κ M2 _ _ _ _ (.long (f1 0) :: _)
  refine g_iload X dL_law_1710 0 rfl ?_
  refine g_if_eq (tgt := 1719) X dL_law_1712 (by decide) (fun y0 => ?_) (fun y0 => ?_)
  · refine g_lconst (v := 0) X dL_law_1719 rfl ?_
    refine g_lcmp0 X dL_law_1720 (e5.trans (if_pos y0)) ?_
    exact g_if_eq (tgt := 1726) X dL_law_1721 (by decide) (fun _ => kE) (fun h => absurd rfl h)
  · refine g_lconst (v := 1) X dL_law_1715 rfl ?_
    refine g_goto (tgt := 1720) X dL_law_1716 (by decide) ?_
    refine g_lcmp0 X dL_law_1720 (e5.trans (if_neg y0)) ?_
    exact g_if_eq (tgt := 1726) X dL_law_1721 (by decide) (fun _ => kE) (fun h => absurd rfl h)
set_option maxRecDepth 100000 in
set_option maxHeartbeats 4000000 in
theorem lc_propose {κ : KT} {tab : List ExceptionTableEntry} {nm : String} {M : Hp} {cells slots : Nat} {sb Ls o od i : Nat} {xs : Nat → Int32} {A a : Nat → Nat} (X : Cx κ RL cL_law (some .boolean) tab nm) (hl : κ.l.stackTraces = false) (hnL : κ.nL = 9) (hRm : κ.R = room_1) (D : LD κ sb Ls xs A a o od) {w : PV} {u : HV} (hW : LW κ A a o od w u M) (hG : LG w u) (hi : i + 3 < Ls) (hc : cells + 3 ≤ 603072) (hs : slots + 18 ≤ 7182442) (hS : SmV isI [eIdx, eSta, eUns] (pPropose w (xs (i + 1)) (xs (i + 2)) (xs (i + 3))) (mPropose u (xs (i + 1)) (xs (i + 2)) (xs (i + 3)))) (k9 : ∀ M', LW κ A a o od (pPropose w (xs (i + 1)) (xs (i + 2)) (xs (i + 3))).2 (mPropose u (xs (i + 1)) (xs (i + 2)) (xs (i + 3))).2 M' → G κ M' (cells + 3) (slots + 18) (LL sb A a o od i) 2980 []) : G κ M cells slots (LL sb A a o od i) 1729 [] := by
  obtain ⟨hBR, hMR, ⟨fo, ho⟩, ⟨fd, hod⟩⟩ := hW
  refine g_aload_n X dL_law_1729 rfl 4 rfl ?_
  refine g_arg X D 1 5 0 dL_law_1730 dL_law_1731 dL_law_1733 dL_law_1734 dL_law_1735 (by decide) rfl rfl (by omega) ?_
  refine g_arg X D 2 5 0 dL_law_1736 dL_law_1737 dL_law_1739 dL_law_1740 dL_law_1741 (by decide) rfl rfl (by omega) ?_
  refine g_arg X D 3 5 0 dL_law_1742 dL_law_1743 dL_law_1745 dL_law_1746 dL_law_1747 (by decide) rfl rfl (by omega) ?_
  refine g_aload_n X dL_law_1748 rfl 2 rfl ?_
  refine g_callSX (As := [.ref (A 313), .int (xs (i + 1)), .int (xs (i + 2)), .int (xs (i + 3)), .ref o]) X dL_law_1749 (c_L_propose κ.l hl κ.Γ M A w hBR hG.1 (xs (i + 1)) (xs (i + 2)) (xs (i + 3))  o fo ho D.2.2.1.1 hS.inn) k733 k734 k0 k735 ⟨by decide, by decide, (show (parseMethodDescriptor yL_propose.desc).map (fun d => d.parameters.length) = some 5 by decide +kernel)⟩ rfl (Nat.le_of_ble_eq_true rfl) (by rw [hRm]; decide) (by rw [hRm]; exact ⟨by (show _ ≤ 603072); omega, by (show _ ≤ 7182442); omega⟩) (fun v1 M1 h1 => ?_) (fun E9 M9 h9 => ?_)
  rotate_left
  · obtain ⟨f1, -, -, -, hA1⟩ := h9
    obtain ⟨k1, z1, -, e1, -, -, -⟩ := hS.ans hA1 (by decide +kernel) (by decide)
    cases e1
  obtain ⟨f1, hBR1, ho1, hF1, hA1⟩ := h1
  obtain ⟨k1, z1, ⟨n1, rfl⟩, e1, e2, e3, e4⟩ := hS.ans hA1 (by decide +kernel) (by decide)
  cases e1
  have hMR1 := D.m hMR hF1
  have hx1 := D.odW hod hF1
  refine g_istore (L' := [(6, .int k1), (5, .int (nI i)), (4, .ref od), (3, .ref o), (2, .ref (a 0)), (1, .ref (A 313)), (0, .ref sb)]) X dL_law_1752 (by rw [hnL]; decide) rfl ?_
  refine g_aload_n X dL_law_1754 rfl 4 rfl ?_
  refine g_arg X D 1 6 1 dL_law_1755 dL_law_1756 dL_law_1758 dL_law_1759 dL_law_1760 (by decide) rfl rfl (by omega) ?_
  refine g_arg X D 2 6 1 dL_law_1761 dL_law_1762 dL_law_1764 dL_law_1765 dL_law_1766 (by decide) rfl rfl (by omega) ?_
  refine g_arg X D 3 6 1 dL_law_1767 dL_law_1768 dL_law_1770 dL_law_1771 dL_law_1772 (by decide) rfl rfl (by omega) ?_
  refine g_callV (As := [.int (xs (i + 1)), .int (xs (i + 2)), .int (xs (i + 3))]) (ci := 4) X dL_law_1773 (c_X4_propose κ.l hl κ.Γ M1 a u hMR1 (xs (i + 1)) (xs (i + 2)) (xs (i + 3)) hG.2.1 hG.2.2.1) k1380 k1381 k1382 k5 k1383 rfl (MRep.obj hMR1) ⟨rfl, by decide, by decide, (show (parseMethodDescriptor yX4_propose.desc).map (fun d => d.parameters.length) = some 3 by decide +kernel)⟩ rfl (Nat.le_of_ble_eq_true rfl) (by rw [hRm]; decide) (by rw [hRm]; exact ⟨by (show _ ≤ 603072); omega, by (show _ ≤ 7182442); omega⟩) (fun v2 M2 h2 => ?_) (fun E9 M9 h9 => by have := h9.1.trans e2; cases this)
  obtain ⟨g2, hMR2, hF2⟩ := h2
  have g2 := g2.trans e2
  cases g2
  refine g_istore (L' := [(7, .int n1), (6, .int k1), (5, .int (nI i)), (4, .ref od), (3, .ref o), (2, .ref (a 0)), (1, .ref (A 313)), (0, .ref sb)]) X dL_law_1776 (by rw [hnL]; decide) rfl ?_
  refine g_aload_n X dL_law_1778 rfl 5 rfl ?_
  refine g_callV_rd (As := []) (ci := 4) (v := some (.int ((mPropose u (xs (i + 1)) (xs (i + 2)) (xs (i + 3))).2.1 0))) X dL_law_1779 (c_X4_thrown κ.l hl κ.Γ M2 a _ hMR2) k1150 k1151 k1152 k5 k1153 rfl (MRep.obj hMR2) ⟨rfl, by decide, by decide, (show (parseMethodDescriptor yX4_thrown.desc).map (fun d => d.parameters.length) = some 0 by decide +kernel)⟩ rfl (Nat.le_of_ble_eq_true rfl) (by rw [hRm]; decide) (by rw [hRm]; exact ⟨by (show _ ≤ 603072); omega, by (show _ ≤ 7182442); omega⟩) ?_
  refine g_lit (y := k1) e3 ?_
  refine g_iload X dL_law_1782 1 rfl ?_
  refine g_icmp_eq (tgt := 1789) X dL_law_1784 (by decide) (fun _ => ?_) (fun h => absurd rfl h)
  refine g_iload X dL_law_1789 1 rfl ?_
  have hW2 : LW κ A a o od (pPropose w (xs (i + 1)) (xs (i + 2)) (xs (i + 3))).2 (mPropose u (xs (i + 1)) (xs (i + 2)) (xs (i + 3))).2 M2 := ⟨D.b hBR1 hF2, hMR2, ⟨f1, D.oM ho1 hF2⟩, ⟨fd, D.odM hx1 hF2⟩⟩
  have kE : G κ M2 (cells + 3) (slots + 18) [(7, .int n1), (6, .int k1), (5, .int (nI i)), (4, .ref od), (3, .ref o), (2, .ref (a 0)), (1, .ref (A 313)), (0, .ref sb)] 1806 [] := by
    refine g_goto (tgt := 2980) X dL_law_1806 (by decide) ?_
    refine g_locs [2, 3, 4, 5, 6, 7] (L' := LL sb A a o od i) rfl ?_
    exact k9 _ hW2
  refine g_if_ne (tgt := 1806) X dL_law_1791 (by decide) (fun _ => kE) (fun z0 => ?_)
  have e5 := e4 z0
  refine g_aload_n X dL_law_1794 rfl 4 rfl ?_
  refine g_iconst (v := 0) X dL_law_1795 (by decide) ?_
  refine g_laload X dL_law_1796 (D.oM ho1 hF2) vin01 ?_
  show G κ M2 _ _ _ _ (.long (f1 0) :: _)
  refine g_iload X dL_law_1797 0 rfl ?_
  refine g_i2l X dL_law_1799 ?_
  refine g_lcmp0 X dL_law_1800 e5 ?_
  exact g_if_eq (tgt := 1806) X dL_law_1801 (by decide) (fun _ => kE) (fun h => absurd rfl h)
set_option maxRecDepth 100000 in
set_option maxHeartbeats 4000000 in
theorem lc_support {κ : KT} {tab : List ExceptionTableEntry} {nm : String} {M : Hp} {cells slots : Nat} {sb Ls o od i : Nat} {xs : Nat → Int32} {A a : Nat → Nat} (X : Cx κ RL cL_law (some .boolean) tab nm) (hl : κ.l.stackTraces = false) (hnL : κ.nL = 9) (hRm : κ.R = room_1) (D : LD κ sb Ls xs A a o od) {w : PV} {u : HV} (hW : LW κ A a o od w u M) (hG : LG w u) (hi : i + 3 < Ls) (hc : cells + 3 ≤ 603072) (hs : slots + 18 ≤ 7182442) (hS : SmV isI [eIdx, eSta, eEle, eUns] (pSupport w (xs (i + 1)) (xs (i + 2)) (xs (i + 3))) (mSupport u (xs (i + 1)) (xs (i + 2)) (xs (i + 3)))) (k9 : ∀ M', LW κ A a o od (pSupport w (xs (i + 1)) (xs (i + 2)) (xs (i + 3))).2 (mSupport u (xs (i + 1)) (xs (i + 2)) (xs (i + 3))).2 M' → G κ M' (cells + 3) (slots + 18) (LL sb A a o od i) 2980 []) : G κ M cells slots (LL sb A a o od i) 1809 [] := by
  obtain ⟨hBR, hMR, ⟨fo, ho⟩, ⟨fd, hod⟩⟩ := hW
  refine g_aload_n X dL_law_1809 rfl 4 rfl ?_
  refine g_arg X D 1 5 0 dL_law_1810 dL_law_1811 dL_law_1813 dL_law_1814 dL_law_1815 (by decide) rfl rfl (by omega) ?_
  refine g_arg X D 2 5 0 dL_law_1816 dL_law_1817 dL_law_1819 dL_law_1820 dL_law_1821 (by decide) rfl rfl (by omega) ?_
  refine g_arg X D 3 5 0 dL_law_1822 dL_law_1823 dL_law_1825 dL_law_1826 dL_law_1827 (by decide) rfl rfl (by omega) ?_
  refine g_aload_n X dL_law_1828 rfl 2 rfl ?_
  refine g_callSX (As := [.ref (A 313), .int (xs (i + 1)), .int (xs (i + 2)), .int (xs (i + 3)), .ref o]) X dL_law_1829 (c_L_support κ.l hl κ.Γ M A w hBR hG.1 (xs (i + 1)) (xs (i + 2)) (xs (i + 3))  o fo ho D.2.2.1.1 hS.inn) k748 k749 k0 k750 ⟨by decide, by decide, (show (parseMethodDescriptor yL_support.desc).map (fun d => d.parameters.length) = some 5 by decide +kernel)⟩ rfl (Nat.le_of_ble_eq_true rfl) (by rw [hRm]; decide) (by rw [hRm]; exact ⟨by (show _ ≤ 603072); omega, by (show _ ≤ 7182442); omega⟩) (fun v1 M1 h1 => ?_) (fun E9 M9 h9 => ?_)
  rotate_left
  · obtain ⟨f1, -, -, -, hA1⟩ := h9
    obtain ⟨k1, z1, -, e1, -, -, -⟩ := hS.ans hA1 (by decide +kernel) (by decide)
    cases e1
  obtain ⟨f1, hBR1, ho1, hF1, hA1⟩ := h1
  obtain ⟨k1, z1, ⟨n1, rfl⟩, e1, e2, e3, e4⟩ := hS.ans hA1 (by decide +kernel) (by decide)
  cases e1
  have hMR1 := D.m hMR hF1
  have hx1 := D.odW hod hF1
  refine g_istore (L' := [(6, .int k1), (5, .int (nI i)), (4, .ref od), (3, .ref o), (2, .ref (a 0)), (1, .ref (A 313)), (0, .ref sb)]) X dL_law_1832 (by rw [hnL]; decide) rfl ?_
  refine g_aload_n X dL_law_1834 rfl 4 rfl ?_
  refine g_arg X D 1 6 1 dL_law_1835 dL_law_1836 dL_law_1838 dL_law_1839 dL_law_1840 (by decide) rfl rfl (by omega) ?_
  refine g_arg X D 2 6 1 dL_law_1841 dL_law_1842 dL_law_1844 dL_law_1845 dL_law_1846 (by decide) rfl rfl (by omega) ?_
  refine g_arg X D 3 6 1 dL_law_1847 dL_law_1848 dL_law_1850 dL_law_1851 dL_law_1852 (by decide) rfl rfl (by omega) ?_
  refine g_callV (As := [.int (xs (i + 1)), .int (xs (i + 2)), .int (xs (i + 3))]) (ci := 4) X dL_law_1853 (c_X4_support κ.l hl κ.Γ M1 a u hMR1 (xs (i + 1)) (xs (i + 2)) (xs (i + 3)) hG.2.1 hG.2.2.1) k1384 k1385 k1386 k5 k1387 rfl (MRep.obj hMR1) ⟨rfl, by decide, by decide, (show (parseMethodDescriptor yX4_support.desc).map (fun d => d.parameters.length) = some 3 by decide +kernel)⟩ rfl (Nat.le_of_ble_eq_true rfl) (by rw [hRm]; decide) (by rw [hRm]; exact ⟨by (show _ ≤ 603072); omega, by (show _ ≤ 7182442); omega⟩) (fun v2 M2 h2 => ?_) (fun E9 M9 h9 => by have := h9.1.trans e2; cases this)
  obtain ⟨g2, hMR2, hF2⟩ := h2
  have g2 := g2.trans e2
  cases g2
  refine g_istore (L' := [(7, .int n1), (6, .int k1), (5, .int (nI i)), (4, .ref od), (3, .ref o), (2, .ref (a 0)), (1, .ref (A 313)), (0, .ref sb)]) X dL_law_1856 (by rw [hnL]; decide) rfl ?_
  refine g_aload_n X dL_law_1858 rfl 5 rfl ?_
  refine g_callV_rd (As := []) (ci := 4) (v := some (.int ((mSupport u (xs (i + 1)) (xs (i + 2)) (xs (i + 3))).2.1 0))) X dL_law_1859 (c_X4_thrown κ.l hl κ.Γ M2 a _ hMR2) k1150 k1151 k1152 k5 k1153 rfl (MRep.obj hMR2) ⟨rfl, by decide, by decide, (show (parseMethodDescriptor yX4_thrown.desc).map (fun d => d.parameters.length) = some 0 by decide +kernel)⟩ rfl (Nat.le_of_ble_eq_true rfl) (by rw [hRm]; decide) (by rw [hRm]; exact ⟨by (show _ ≤ 603072); omega, by (show _ ≤ 7182442); omega⟩) ?_
  refine g_lit (y := k1) e3 ?_
  refine g_iload X dL_law_1862 1 rfl ?_
  refine g_icmp_eq (tgt := 1869) X dL_law_1864 (by decide) (fun _ => ?_) (fun h => absurd rfl h)
  refine g_iload X dL_law_1869 1 rfl ?_
  have hW2 : LW κ A a o od (pSupport w (xs (i + 1)) (xs (i + 2)) (xs (i + 3))).2 (mSupport u (xs (i + 1)) (xs (i + 2)) (xs (i + 3))).2 M2 := ⟨D.b hBR1 hF2, hMR2, ⟨f1, D.oM ho1 hF2⟩, ⟨fd, D.odM hx1 hF2⟩⟩
  have kE : G κ M2 (cells + 3) (slots + 18) [(7, .int n1), (6, .int k1), (5, .int (nI i)), (4, .ref od), (3, .ref o), (2, .ref (a 0)), (1, .ref (A 313)), (0, .ref sb)] 1886 [] := by
    refine g_goto (tgt := 2980) X dL_law_1886 (by decide) ?_
    refine g_locs [2, 3, 4, 5, 6, 7] (L' := LL sb A a o od i) rfl ?_
    exact k9 _ hW2
  refine g_if_ne (tgt := 1886) X dL_law_1871 (by decide) (fun _ => kE) (fun z0 => ?_)
  have e5 := e4 z0
  refine g_aload_n X dL_law_1874 rfl 4 rfl ?_
  refine g_iconst (v := 0) X dL_law_1875 (by decide) ?_
  refine g_laload X dL_law_1876 (D.oM ho1 hF2) vin01 ?_
  show G κ M2 _ _ _ _ (.long (f1 0) :: _)
  refine g_iload X dL_law_1877 0 rfl ?_
  refine g_i2l X dL_law_1879 ?_
  refine g_lcmp0 X dL_law_1880 e5 ?_
  exact g_if_eq (tgt := 1886) X dL_law_1881 (by decide) (fun _ => kE) (fun h => absurd rfl h)
set_option maxRecDepth 100000 in
set_option maxHeartbeats 4000000 in
theorem lc_decide {κ : KT} {tab : List ExceptionTableEntry} {nm : String} {M : Hp} {cells slots : Nat} {sb Ls o od i : Nat} {xs : Nat → Int32} {A a : Nat → Nat} (X : Cx κ RL cL_law (some .boolean) tab nm) (hl : κ.l.stackTraces = false) (hnL : κ.nL = 9) (hRm : κ.R = room_1) (D : LD κ sb Ls xs A a o od) {w : PV} {u : HV} (hW : LW κ A a o od w u M) (hG : LG w u) (hi : i + 3 < Ls) (hc : cells + 3 ≤ 603072) (hs : slots + 18 ≤ 7182442) (hS : SmV isI [eIdx, eSta, eEle, eUns] (pDecide w (xs (i + 1))) (mDecide u (xs (i + 1)))) (k9 : ∀ M', LW κ A a o od (pDecide w (xs (i + 1))).2 (mDecide u (xs (i + 1))).2 M' → G κ M' (cells + 3) (slots + 18) (LL sb A a o od i) 2980 []) : G κ M cells slots (LL sb A a o od i) 1889 [] := by
  obtain ⟨hBR, hMR, ⟨fo, ho⟩, ⟨fd, hod⟩⟩ := hW
  refine g_aload_n X dL_law_1889 rfl 4 rfl ?_
  refine g_arg X D 1 5 0 dL_law_1890 dL_law_1891 dL_law_1893 dL_law_1894 dL_law_1895 (by decide) rfl rfl (by omega) ?_
  refine g_aload_n X dL_law_1896 rfl 2 rfl ?_
  refine g_callSX (As := [.ref (A 313), .int (xs (i + 1)), .ref o]) X dL_law_1897 (c_L_decide κ.l hl κ.Γ M A w hBR hG.1 (xs (i + 1))  o fo ho D.2.2.1.1 hS.inn) k767 k768 k0 k769 ⟨by decide, by decide, (show (parseMethodDescriptor yL_decide.desc).map (fun d => d.parameters.length) = some 3 by decide +kernel)⟩ rfl (Nat.le_of_ble_eq_true rfl) (by rw [hRm]; decide) (by rw [hRm]; exact ⟨by (show _ ≤ 603072); omega, by (show _ ≤ 7182442); omega⟩) (fun v1 M1 h1 => ?_) (fun E9 M9 h9 => ?_)
  rotate_left
  · obtain ⟨f1, -, -, -, hA1⟩ := h9
    obtain ⟨k1, z1, -, e1, -, -, -⟩ := hS.ans hA1 (by decide +kernel) (by decide)
    cases e1
  obtain ⟨f1, hBR1, ho1, hF1, hA1⟩ := h1
  obtain ⟨k1, z1, ⟨n1, rfl⟩, e1, e2, e3, e4⟩ := hS.ans hA1 (by decide +kernel) (by decide)
  cases e1
  have hMR1 := D.m hMR hF1
  have hx1 := D.odW hod hF1
  refine g_istore (L' := [(6, .int k1), (5, .int (nI i)), (4, .ref od), (3, .ref o), (2, .ref (a 0)), (1, .ref (A 313)), (0, .ref sb)]) X dL_law_1900 (by rw [hnL]; decide) rfl ?_
  refine g_aload_n X dL_law_1902 rfl 4 rfl ?_
  refine g_arg X D 1 6 1 dL_law_1903 dL_law_1904 dL_law_1906 dL_law_1907 dL_law_1908 (by decide) rfl rfl (by omega) ?_
  refine g_callV (As := [.int (xs (i + 1))]) (ci := 4) X dL_law_1909 (c_X4_decide κ.l hl κ.Γ M1 a u hMR1 (xs (i + 1)) hG.2.1 hG.2.2.1) k1396 k1397 k1398 k5 k1399 rfl (MRep.obj hMR1) ⟨rfl, by decide, by decide, (show (parseMethodDescriptor yX4_decide.desc).map (fun d => d.parameters.length) = some 1 by decide +kernel)⟩ rfl (Nat.le_of_ble_eq_true rfl) (by rw [hRm]; decide) (by rw [hRm]; exact ⟨by (show _ ≤ 603072); omega, by (show _ ≤ 7182442); omega⟩) (fun v2 M2 h2 => ?_) (fun E9 M9 h9 => by have := h9.1.trans e2; cases this)
  obtain ⟨g2, hMR2, hF2⟩ := h2
  have g2 := g2.trans e2
  cases g2
  refine g_istore (L' := [(7, .int n1), (6, .int k1), (5, .int (nI i)), (4, .ref od), (3, .ref o), (2, .ref (a 0)), (1, .ref (A 313)), (0, .ref sb)]) X dL_law_1912 (by rw [hnL]; decide) rfl ?_
  refine g_aload_n X dL_law_1914 rfl 5 rfl ?_
  refine g_callV_rd (As := []) (ci := 4) (v := some (.int ((mDecide u (xs (i + 1))).2.1 0))) X dL_law_1915 (c_X4_thrown κ.l hl κ.Γ M2 a _ hMR2) k1150 k1151 k1152 k5 k1153 rfl (MRep.obj hMR2) ⟨rfl, by decide, by decide, (show (parseMethodDescriptor yX4_thrown.desc).map (fun d => d.parameters.length) = some 0 by decide +kernel)⟩ rfl (Nat.le_of_ble_eq_true rfl) (by rw [hRm]; decide) (by rw [hRm]; exact ⟨by (show _ ≤ 603072); omega, by (show _ ≤ 7182442); omega⟩) ?_
  refine g_lit (y := k1) e3 ?_
  refine g_iload X dL_law_1918 1 rfl ?_
  refine g_icmp_eq (tgt := 1925) X dL_law_1920 (by decide) (fun _ => ?_) (fun h => absurd rfl h)
  refine g_iload X dL_law_1925 1 rfl ?_
  have hW2 : LW κ A a o od (pDecide w (xs (i + 1))).2 (mDecide u (xs (i + 1))).2 M2 := ⟨D.b hBR1 hF2, hMR2, ⟨f1, D.oM ho1 hF2⟩, ⟨fd, D.odM hx1 hF2⟩⟩
  have kE : G κ M2 (cells + 3) (slots + 18) [(7, .int n1), (6, .int k1), (5, .int (nI i)), (4, .ref od), (3, .ref o), (2, .ref (a 0)), (1, .ref (A 313)), (0, .ref sb)] 1949 [] := by
    refine g_goto (tgt := 2980) X dL_law_1949 (by decide) ?_
    refine g_locs [2, 3, 4, 5, 6, 7] (L' := LL sb A a o od i) rfl ?_
    exact k9 _ hW2
  refine g_if_ne (tgt := 1949) X dL_law_1927 (by decide) (fun _ => kE) (fun z0 => ?_)
  have e5 := e4 z0
  refine g_aload_n X dL_law_1930 rfl 4 rfl ?_
  refine g_iconst (v := 0) X dL_law_1931 (by decide) ?_
  refine g_laload X dL_law_1932 (D.oM ho1 hF2) vin01 ?_
  show G κ M2 _ _ _ _ (.long (f1 0) :: _)
  refine g_iload X dL_law_1933 0 rfl ?_
  refine g_if_eq (tgt := 1942) X dL_law_1935 (by decide) (fun y0 => ?_) (fun y0 => ?_)
  · refine g_lconst (v := 0) X dL_law_1942 rfl ?_
    refine g_lcmp0 X dL_law_1943 (e5.trans (if_pos y0)) ?_
    exact g_if_eq (tgt := 1949) X dL_law_1944 (by decide) (fun _ => kE) (fun h => absurd rfl h)
  · refine g_lconst (v := 1) X dL_law_1938 rfl ?_
    refine g_goto (tgt := 1943) X dL_law_1939 (by decide) ?_
    refine g_lcmp0 X dL_law_1943 (e5.trans (if_neg y0)) ?_
    exact g_if_eq (tgt := 1949) X dL_law_1944 (by decide) (fun _ => kE) (fun h => absurd rfl h)
set_option maxRecDepth 100000 in
set_option maxHeartbeats 4000000 in
theorem lc_pendingCount {κ : KT} {tab : List ExceptionTableEntry} {nm : String} {M : Hp} {cells slots : Nat} {sb Ls o od i : Nat} {xs : Nat → Int32} {A a : Nat → Nat} (X : Cx κ RL cL_law (some .boolean) tab nm) (hl : κ.l.stackTraces = false) (hnL : κ.nL = 9) (hRm : κ.R = room_1) (D : LD κ sb Ls xs A a o od) {w : PV} {u : HV} (hW : LW κ A a o od w u M) (hG : LG w u) (hi : i + 3 < Ls) (hc : cells + 3 ≤ 603072) (hs : slots + 18 ≤ 7182442) (hS : SmV isI [eIdx] (pPendingCount w (xs (i + 1))) (mPendingCount u (xs (i + 1)))) (k9 : ∀ M', LW κ A a o od (pPendingCount w (xs (i + 1))).2 (mPendingCount u (xs (i + 1))).2 M' → G κ M' (cells + 3) (slots + 18) (LL sb A a o od i) 2980 []) : G κ M cells slots (LL sb A a o od i) 1952 [] := by
  obtain ⟨hBR, hMR, ⟨fo, ho⟩, ⟨fd, hod⟩⟩ := hW
  refine g_aload_n X dL_law_1952 rfl 4 rfl ?_
  refine g_arg X D 1 5 0 dL_law_1953 dL_law_1954 dL_law_1956 dL_law_1957 dL_law_1958 (by decide) rfl rfl (by omega) ?_
  refine g_aload_n X dL_law_1959 rfl 2 rfl ?_
  refine g_callSX (As := [.ref (A 313), .int (xs (i + 1)), .ref o]) X dL_law_1960 (c_L_pendingCount κ.l hl κ.Γ M A w hBR hG.1 (xs (i + 1))  o fo ho D.2.2.1.1 hS.inn) k782 k783 k0 k784 ⟨by decide, by decide, (show (parseMethodDescriptor yL_pendingCount.desc).map (fun d => d.parameters.length) = some 3 by decide +kernel)⟩ rfl (Nat.le_of_ble_eq_true rfl) (by rw [hRm]; decide) (by rw [hRm]; exact ⟨by (show _ ≤ 603072); omega, by (show _ ≤ 7182442); omega⟩) (fun v1 M1 h1 => ?_) (fun E9 M9 h9 => ?_)
  rotate_left
  · obtain ⟨f1, -, -, -, hA1⟩ := h9
    obtain ⟨k1, z1, -, e1, -, -, -⟩ := hS.ans hA1 (by decide +kernel) (by decide)
    cases e1
  obtain ⟨f1, hBR1, ho1, hF1, hA1⟩ := h1
  obtain ⟨k1, z1, ⟨n1, rfl⟩, e1, e2, e3, e4⟩ := hS.ans hA1 (by decide +kernel) (by decide)
  cases e1
  have hMR1 := D.m hMR hF1
  have hx1 := D.odW hod hF1
  refine g_istore (L' := [(6, .int k1), (5, .int (nI i)), (4, .ref od), (3, .ref o), (2, .ref (a 0)), (1, .ref (A 313)), (0, .ref sb)]) X dL_law_1963 (by rw [hnL]; decide) rfl ?_
  refine g_aload_n X dL_law_1965 rfl 4 rfl ?_
  refine g_arg X D 1 6 1 dL_law_1966 dL_law_1967 dL_law_1969 dL_law_1970 dL_law_1971 (by decide) rfl rfl (by omega) ?_
  refine g_callV (As := [.int (xs (i + 1))]) (ci := 4) X dL_law_1972 (c_X4_pendingCount κ.l hl κ.Γ M1 a u hMR1 (xs (i + 1)) hG.2.1) k1404 k1405 k1406 k5 k1407 rfl (MRep.obj hMR1) ⟨rfl, by decide, by decide, (show (parseMethodDescriptor yX4_pendingCount.desc).map (fun d => d.parameters.length) = some 1 by decide +kernel)⟩ rfl (Nat.le_of_ble_eq_true rfl) (by rw [hRm]; decide) (by rw [hRm]; exact ⟨by (show _ ≤ 603072); omega, by (show _ ≤ 7182442); omega⟩) (fun v2 M2 h2 => ?_) (fun E9 M9 h9 => by have := h9.1.trans e2; cases this)
  obtain ⟨g2, hMR2, hF2⟩ := h2
  have g2 := g2.trans e2
  cases g2
  refine g_istore (L' := [(7, .int n1), (6, .int k1), (5, .int (nI i)), (4, .ref od), (3, .ref o), (2, .ref (a 0)), (1, .ref (A 313)), (0, .ref sb)]) X dL_law_1975 (by rw [hnL]; decide) rfl ?_
  refine g_aload_n X dL_law_1977 rfl 5 rfl ?_
  refine g_callV_rd (As := []) (ci := 4) (v := some (.int ((mPendingCount u (xs (i + 1))).2.1 0))) X dL_law_1978 (c_X4_thrown κ.l hl κ.Γ M2 a _ hMR2) k1150 k1151 k1152 k5 k1153 rfl (MRep.obj hMR2) ⟨rfl, by decide, by decide, (show (parseMethodDescriptor yX4_thrown.desc).map (fun d => d.parameters.length) = some 0 by decide +kernel)⟩ rfl (Nat.le_of_ble_eq_true rfl) (by rw [hRm]; decide) (by rw [hRm]; exact ⟨by (show _ ≤ 603072); omega, by (show _ ≤ 7182442); omega⟩) ?_
  refine g_lit (y := k1) e3 ?_
  refine g_iload X dL_law_1981 1 rfl ?_
  refine g_icmp_eq (tgt := 1988) X dL_law_1983 (by decide) (fun _ => ?_) (fun h => absurd rfl h)
  refine g_iload X dL_law_1988 1 rfl ?_
  have hW2 : LW κ A a o od (pPendingCount w (xs (i + 1))).2 (mPendingCount u (xs (i + 1))).2 M2 := ⟨D.b hBR1 hF2, hMR2, ⟨f1, D.oM ho1 hF2⟩, ⟨fd, D.odM hx1 hF2⟩⟩
  have kE : G κ M2 (cells + 3) (slots + 18) [(7, .int n1), (6, .int k1), (5, .int (nI i)), (4, .ref od), (3, .ref o), (2, .ref (a 0)), (1, .ref (A 313)), (0, .ref sb)] 2005 [] := by
    refine g_goto (tgt := 2980) X dL_law_2005 (by decide) ?_
    refine g_locs [2, 3, 4, 5, 6, 7] (L' := LL sb A a o od i) rfl ?_
    exact k9 _ hW2
  refine g_if_ne (tgt := 2005) X dL_law_1990 (by decide) (fun _ => kE) (fun z0 => ?_)
  have e5 := e4 z0
  refine g_aload_n X dL_law_1993 rfl 4 rfl ?_
  refine g_iconst (v := 0) X dL_law_1994 (by decide) ?_
  refine g_laload X dL_law_1995 (D.oM ho1 hF2) vin01 ?_
  show G κ M2 _ _ _ _ (.long (f1 0) :: _)
  refine g_iload X dL_law_1996 0 rfl ?_
  refine g_i2l X dL_law_1998 ?_
  refine g_lcmp0 X dL_law_1999 e5 ?_
  exact g_if_eq (tgt := 2005) X dL_law_2000 (by decide) (fun _ => kE) (fun h => absurd rfl h)
set_option maxRecDepth 100000 in
set_option maxHeartbeats 4000000 in
theorem lc_amendedClause {κ : KT} {tab : List ExceptionTableEntry} {nm : String} {M : Hp} {cells slots : Nat} {sb Ls o od i : Nat} {xs : Nat → Int32} {A a : Nat → Nat} (X : Cx κ RL cL_law (some .boolean) tab nm) (hl : κ.l.stackTraces = false) (hnL : κ.nL = 9) (hRm : κ.R = room_1) (D : LD κ sb Ls xs A a o od) {w : PV} {u : HV} (hW : LW κ A a o od w u M) (hG : LG w u) (hi : i + 3 < Ls) (hc : cells + 3 ≤ 603072) (hs : slots + 18 ≤ 7182442) (hS : SmV isI [eIdx, eEle] (pAmendedClause w (xs (i + 1)) (xs (i + 2))) (mAmendedClause u (xs (i + 1)) (xs (i + 2)))) (k9 : ∀ M', LW κ A a o od (pAmendedClause w (xs (i + 1)) (xs (i + 2))).2 (mAmendedClause u (xs (i + 1)) (xs (i + 2))).2 M' → G κ M' (cells + 3) (slots + 18) (LL sb A a o od i) 2980 []) : G κ M cells slots (LL sb A a o od i) 2008 [] := by
  obtain ⟨hBR, hMR, ⟨fo, ho⟩, ⟨fd, hod⟩⟩ := hW
  refine g_aload_n X dL_law_2008 rfl 4 rfl ?_
  refine g_arg X D 1 5 0 dL_law_2009 dL_law_2010 dL_law_2012 dL_law_2013 dL_law_2014 (by decide) rfl rfl (by omega) ?_
  refine g_arg X D 2 5 0 dL_law_2015 dL_law_2016 dL_law_2018 dL_law_2019 dL_law_2020 (by decide) rfl rfl (by omega) ?_
  refine g_aload_n X dL_law_2021 rfl 2 rfl ?_
  refine g_callSX (As := [.ref (A 313), .int (xs (i + 1)), .int (xs (i + 2)), .ref o]) X dL_law_2022 (c_L_amendedClause κ.l hl κ.Γ M A w hBR hG.1 (xs (i + 1)) (xs (i + 2))  o fo ho D.2.2.1.1 hS.inn) k789 k790 k0 k791 ⟨by decide, by decide, (show (parseMethodDescriptor yL_amendedClause.desc).map (fun d => d.parameters.length) = some 4 by decide +kernel)⟩ rfl (Nat.le_of_ble_eq_true rfl) (by rw [hRm]; decide) (by rw [hRm]; exact ⟨by (show _ ≤ 603072); omega, by (show _ ≤ 7182442); omega⟩) (fun v1 M1 h1 => ?_) (fun E9 M9 h9 => ?_)
  rotate_left
  · obtain ⟨f1, -, -, -, hA1⟩ := h9
    obtain ⟨k1, z1, -, e1, -, -, -⟩ := hS.ans hA1 (by decide +kernel) (by decide)
    cases e1
  obtain ⟨f1, hBR1, ho1, hF1, hA1⟩ := h1
  obtain ⟨k1, z1, ⟨n1, rfl⟩, e1, e2, e3, e4⟩ := hS.ans hA1 (by decide +kernel) (by decide)
  cases e1
  have hMR1 := D.m hMR hF1
  have hx1 := D.odW hod hF1
  refine g_istore (L' := [(6, .int k1), (5, .int (nI i)), (4, .ref od), (3, .ref o), (2, .ref (a 0)), (1, .ref (A 313)), (0, .ref sb)]) X dL_law_2025 (by rw [hnL]; decide) rfl ?_
  refine g_aload_n X dL_law_2027 rfl 4 rfl ?_
  refine g_arg X D 1 6 1 dL_law_2028 dL_law_2029 dL_law_2031 dL_law_2032 dL_law_2033 (by decide) rfl rfl (by omega) ?_
  refine g_arg X D 2 6 1 dL_law_2034 dL_law_2035 dL_law_2037 dL_law_2038 dL_law_2039 (by decide) rfl rfl (by omega) ?_
  refine g_callV (As := [.int (xs (i + 1)), .int (xs (i + 2))]) (ci := 4) X dL_law_2040 (c_X4_amendedClause κ.l hl κ.Γ M1 a u hMR1 (xs (i + 1)) (xs (i + 2)) hG.2.1) k1408 k1409 k1410 k5 k1411 rfl (MRep.obj hMR1) ⟨rfl, by decide, by decide, (show (parseMethodDescriptor yX4_amendedClause.desc).map (fun d => d.parameters.length) = some 2 by decide +kernel)⟩ rfl (Nat.le_of_ble_eq_true rfl) (by rw [hRm]; decide) (by rw [hRm]; exact ⟨by (show _ ≤ 603072); omega, by (show _ ≤ 7182442); omega⟩) (fun v2 M2 h2 => ?_) (fun E9 M9 h9 => by have := h9.1.trans e2; cases this)
  obtain ⟨g2, hMR2, hF2⟩ := h2
  have g2 := g2.trans e2
  cases g2
  refine g_istore (L' := [(7, .int n1), (6, .int k1), (5, .int (nI i)), (4, .ref od), (3, .ref o), (2, .ref (a 0)), (1, .ref (A 313)), (0, .ref sb)]) X dL_law_2043 (by rw [hnL]; decide) rfl ?_
  refine g_aload_n X dL_law_2045 rfl 5 rfl ?_
  refine g_callV_rd (As := []) (ci := 4) (v := some (.int ((mAmendedClause u (xs (i + 1)) (xs (i + 2))).2.1 0))) X dL_law_2046 (c_X4_thrown κ.l hl κ.Γ M2 a _ hMR2) k1150 k1151 k1152 k5 k1153 rfl (MRep.obj hMR2) ⟨rfl, by decide, by decide, (show (parseMethodDescriptor yX4_thrown.desc).map (fun d => d.parameters.length) = some 0 by decide +kernel)⟩ rfl (Nat.le_of_ble_eq_true rfl) (by rw [hRm]; decide) (by rw [hRm]; exact ⟨by (show _ ≤ 603072); omega, by (show _ ≤ 7182442); omega⟩) ?_
  refine g_lit (y := k1) e3 ?_
  refine g_iload X dL_law_2049 1 rfl ?_
  refine g_icmp_eq (tgt := 2056) X dL_law_2051 (by decide) (fun _ => ?_) (fun h => absurd rfl h)
  refine g_iload X dL_law_2056 1 rfl ?_
  have hW2 : LW κ A a o od (pAmendedClause w (xs (i + 1)) (xs (i + 2))).2 (mAmendedClause u (xs (i + 1)) (xs (i + 2))).2 M2 := ⟨D.b hBR1 hF2, hMR2, ⟨f1, D.oM ho1 hF2⟩, ⟨fd, D.odM hx1 hF2⟩⟩
  have kE : G κ M2 (cells + 3) (slots + 18) [(7, .int n1), (6, .int k1), (5, .int (nI i)), (4, .ref od), (3, .ref o), (2, .ref (a 0)), (1, .ref (A 313)), (0, .ref sb)] 2073 [] := by
    refine g_goto (tgt := 2980) X dL_law_2073 (by decide) ?_
    refine g_locs [2, 3, 4, 5, 6, 7] (L' := LL sb A a o od i) rfl ?_
    exact k9 _ hW2
  refine g_if_ne (tgt := 2073) X dL_law_2058 (by decide) (fun _ => kE) (fun z0 => ?_)
  have e5 := e4 z0
  refine g_aload_n X dL_law_2061 rfl 4 rfl ?_
  refine g_iconst (v := 0) X dL_law_2062 (by decide) ?_
  refine g_laload X dL_law_2063 (D.oM ho1 hF2) vin01 ?_
  show G κ M2 _ _ _ _ (.long (f1 0) :: _)
  refine g_iload X dL_law_2064 0 rfl ?_
  refine g_i2l X dL_law_2066 ?_
  refine g_lcmp0 X dL_law_2067 e5 ?_
  exact g_if_eq (tgt := 2073) X dL_law_2068 (by decide) (fun _ => kE) (fun h => absurd rfl h)
set_option maxRecDepth 100000 in
set_option maxHeartbeats 4000000 in
theorem lc_supportWeight {κ : KT} {tab : List ExceptionTableEntry} {nm : String} {M : Hp} {cells slots : Nat} {sb Ls o od i : Nat} {xs : Nat → Int32} {A a : Nat → Nat} (X : Cx κ RL cL_law (some .boolean) tab nm) (hl : κ.l.stackTraces = false) (hnL : κ.nL = 9) (hRm : κ.R = room_1) (D : LD κ sb Ls xs A a o od) {w : PV} {u : HV} (hW : LW κ A a o od w u M) (hG : LG w u) (hi : i + 3 < Ls) (hc : cells + 3 ≤ 603072) (hs : slots + 18 ≤ 7182442) (hS : SmV isI [eIdx, eEle] (pSupportWeight w (xs (i + 1)) (xs (i + 2))) (mSupportWeight u (xs (i + 1)) (xs (i + 2)))) (k9 : ∀ M', LW κ A a o od (pSupportWeight w (xs (i + 1)) (xs (i + 2))).2 (mSupportWeight u (xs (i + 1)) (xs (i + 2))).2 M' → G κ M' (cells + 3) (slots + 18) (LL sb A a o od i) 2980 []) : G κ M cells slots (LL sb A a o od i) 2076 [] := by
  obtain ⟨hBR, hMR, ⟨fo, ho⟩, ⟨fd, hod⟩⟩ := hW
  refine g_aload_n X dL_law_2076 rfl 4 rfl ?_
  refine g_arg X D 1 5 0 dL_law_2077 dL_law_2078 dL_law_2080 dL_law_2081 dL_law_2082 (by decide) rfl rfl (by omega) ?_
  refine g_arg X D 2 5 0 dL_law_2083 dL_law_2084 dL_law_2086 dL_law_2087 dL_law_2088 (by decide) rfl rfl (by omega) ?_
  refine g_aload_n X dL_law_2089 rfl 2 rfl ?_
  refine g_callSX (As := [.ref (A 313), .int (xs (i + 1)), .int (xs (i + 2)), .ref o]) X dL_law_2090 (c_L_supportWeight κ.l hl κ.Γ M A w hBR hG.1 (xs (i + 1)) (xs (i + 2))  o fo ho D.2.2.1.1 hS.inn) k801 k802 k0 k803 ⟨by decide, by decide, (show (parseMethodDescriptor yL_supportWeight.desc).map (fun d => d.parameters.length) = some 4 by decide +kernel)⟩ rfl (Nat.le_of_ble_eq_true rfl) (by rw [hRm]; decide) (by rw [hRm]; exact ⟨by (show _ ≤ 603072); omega, by (show _ ≤ 7182442); omega⟩) (fun v1 M1 h1 => ?_) (fun E9 M9 h9 => ?_)
  rotate_left
  · obtain ⟨f1, -, -, -, hA1⟩ := h9
    obtain ⟨k1, z1, -, e1, -, -, -⟩ := hS.ans hA1 (by decide +kernel) (by decide)
    cases e1
  obtain ⟨f1, hBR1, ho1, hF1, hA1⟩ := h1
  obtain ⟨k1, z1, ⟨n1, rfl⟩, e1, e2, e3, e4⟩ := hS.ans hA1 (by decide +kernel) (by decide)
  cases e1
  have hMR1 := D.m hMR hF1
  have hx1 := D.odW hod hF1
  refine g_istore (L' := [(6, .int k1), (5, .int (nI i)), (4, .ref od), (3, .ref o), (2, .ref (a 0)), (1, .ref (A 313)), (0, .ref sb)]) X dL_law_2093 (by rw [hnL]; decide) rfl ?_
  refine g_aload_n X dL_law_2095 rfl 4 rfl ?_
  refine g_arg X D 1 6 1 dL_law_2096 dL_law_2097 dL_law_2099 dL_law_2100 dL_law_2101 (by decide) rfl rfl (by omega) ?_
  refine g_arg X D 2 6 1 dL_law_2102 dL_law_2103 dL_law_2105 dL_law_2106 dL_law_2107 (by decide) rfl rfl (by omega) ?_
  refine g_callV (As := [.int (xs (i + 1)), .int (xs (i + 2))]) (ci := 4) X dL_law_2108 (c_X4_supportWeight κ.l hl κ.Γ M1 a u hMR1 (xs (i + 1)) (xs (i + 2)) hG.2.1) k1412 k1413 k1414 k5 k1415 rfl (MRep.obj hMR1) ⟨rfl, by decide, by decide, (show (parseMethodDescriptor yX4_supportWeight.desc).map (fun d => d.parameters.length) = some 2 by decide +kernel)⟩ rfl (Nat.le_of_ble_eq_true rfl) (by rw [hRm]; decide) (by rw [hRm]; exact ⟨by (show _ ≤ 603072); omega, by (show _ ≤ 7182442); omega⟩) (fun v2 M2 h2 => ?_) (fun E9 M9 h9 => by have := h9.1.trans e2; cases this)
  obtain ⟨g2, hMR2, hF2⟩ := h2
  have g2 := g2.trans e2
  cases g2
  refine g_istore (L' := [(7, .int n1), (6, .int k1), (5, .int (nI i)), (4, .ref od), (3, .ref o), (2, .ref (a 0)), (1, .ref (A 313)), (0, .ref sb)]) X dL_law_2111 (by rw [hnL]; decide) rfl ?_
  refine g_aload_n X dL_law_2113 rfl 5 rfl ?_
  refine g_callV_rd (As := []) (ci := 4) (v := some (.int ((mSupportWeight u (xs (i + 1)) (xs (i + 2))).2.1 0))) X dL_law_2114 (c_X4_thrown κ.l hl κ.Γ M2 a _ hMR2) k1150 k1151 k1152 k5 k1153 rfl (MRep.obj hMR2) ⟨rfl, by decide, by decide, (show (parseMethodDescriptor yX4_thrown.desc).map (fun d => d.parameters.length) = some 0 by decide +kernel)⟩ rfl (Nat.le_of_ble_eq_true rfl) (by rw [hRm]; decide) (by rw [hRm]; exact ⟨by (show _ ≤ 603072); omega, by (show _ ≤ 7182442); omega⟩) ?_
  refine g_lit (y := k1) e3 ?_
  refine g_iload X dL_law_2117 1 rfl ?_
  refine g_icmp_eq (tgt := 2124) X dL_law_2119 (by decide) (fun _ => ?_) (fun h => absurd rfl h)
  refine g_iload X dL_law_2124 1 rfl ?_
  have hW2 : LW κ A a o od (pSupportWeight w (xs (i + 1)) (xs (i + 2))).2 (mSupportWeight u (xs (i + 1)) (xs (i + 2))).2 M2 := ⟨D.b hBR1 hF2, hMR2, ⟨f1, D.oM ho1 hF2⟩, ⟨fd, D.odM hx1 hF2⟩⟩
  have kE : G κ M2 (cells + 3) (slots + 18) [(7, .int n1), (6, .int k1), (5, .int (nI i)), (4, .ref od), (3, .ref o), (2, .ref (a 0)), (1, .ref (A 313)), (0, .ref sb)] 2141 [] := by
    refine g_goto (tgt := 2980) X dL_law_2141 (by decide) ?_
    refine g_locs [2, 3, 4, 5, 6, 7] (L' := LL sb A a o od i) rfl ?_
    exact k9 _ hW2
  refine g_if_ne (tgt := 2141) X dL_law_2126 (by decide) (fun _ => kE) (fun z0 => ?_)
  have e5 := e4 z0
  refine g_aload_n X dL_law_2129 rfl 4 rfl ?_
  refine g_iconst (v := 0) X dL_law_2130 (by decide) ?_
  refine g_laload X dL_law_2131 (D.oM ho1 hF2) vin01 ?_
  show G κ M2 _ _ _ _ (.long (f1 0) :: _)
  refine g_iload X dL_law_2132 0 rfl ?_
  refine g_i2l X dL_law_2134 ?_
  refine g_lcmp0 X dL_law_2135 e5 ?_
  exact g_if_eq (tgt := 2141) X dL_law_2136 (by decide) (fun _ => kE) (fun h => absurd rfl h)
set_option maxRecDepth 100000 in
set_option maxHeartbeats 4000000 in
theorem lc_ride {κ : KT} {tab : List ExceptionTableEntry} {nm : String} {M : Hp} {cells slots : Nat} {sb Ls o od i : Nat} {xs : Nat → Int32} {A a : Nat → Nat} (X : Cx κ RL cL_law (some .boolean) tab nm) (hl : κ.l.stackTraces = false) (hnL : κ.nL = 9) (hRm : κ.R = room_1) (D : LD κ sb Ls xs A a o od) {w : PV} {u : HV} (hW : LW κ A a o od w u M) (hG : LG w u) (hi : i + 3 < Ls) (hc : cells + 3 ≤ 603072) (hs : slots + 18 ≤ 7182442) (hS : SmV isI [eIdx, eArg, eSta, eUns] (pRide w (xs (i + 1)) (xs (i + 2)) (xs (i + 3))) (mRide u (xs (i + 1)) (xs (i + 2)) (xs (i + 3)))) (k9 : ∀ M', LW κ A a o od (pRide w (xs (i + 1)) (xs (i + 2)) (xs (i + 3))).2 (mRide u (xs (i + 1)) (xs (i + 2)) (xs (i + 3))).2 M' → G κ M' (cells + 3) (slots + 18) (LL sb A a o od i) 2980 []) : G κ M cells slots (LL sb A a o od i) 2144 [] := by
  obtain ⟨hBR, hMR, ⟨fo, ho⟩, ⟨fd, hod⟩⟩ := hW
  refine g_aload_n X dL_law_2144 rfl 4 rfl ?_
  refine g_arg X D 1 5 0 dL_law_2145 dL_law_2146 dL_law_2148 dL_law_2149 dL_law_2150 (by decide) rfl rfl (by omega) ?_
  refine g_arg X D 2 5 0 dL_law_2151 dL_law_2152 dL_law_2154 dL_law_2155 dL_law_2156 (by decide) rfl rfl (by omega) ?_
  refine g_arg X D 3 5 0 dL_law_2157 dL_law_2158 dL_law_2160 dL_law_2161 dL_law_2162 (by decide) rfl rfl (by omega) ?_
  refine g_aload_n X dL_law_2163 rfl 2 rfl ?_
  refine g_callSX (As := [.ref (A 313), .int (xs (i + 1)), .int (xs (i + 2)), .int (xs (i + 3)), .ref o]) X dL_law_2164 (c_L_ride κ.l hl κ.Γ M A w hBR hG.1 (xs (i + 1)) (xs (i + 2)) (xs (i + 3))  o fo ho D.2.2.1.1 hS.inn) k808 k809 k0 k810 ⟨by decide, by decide, (show (parseMethodDescriptor yL_ride.desc).map (fun d => d.parameters.length) = some 5 by decide +kernel)⟩ rfl (Nat.le_of_ble_eq_true rfl) (by rw [hRm]; decide) (by rw [hRm]; exact ⟨by (show _ ≤ 603072); omega, by (show _ ≤ 7182442); omega⟩) (fun v1 M1 h1 => ?_) (fun E9 M9 h9 => ?_)
  rotate_left
  · obtain ⟨f1, -, -, -, hA1⟩ := h9
    obtain ⟨k1, z1, -, e1, -, -, -⟩ := hS.ans hA1 (by decide +kernel) (by decide)
    cases e1
  obtain ⟨f1, hBR1, ho1, hF1, hA1⟩ := h1
  obtain ⟨k1, z1, ⟨n1, rfl⟩, e1, e2, e3, e4⟩ := hS.ans hA1 (by decide +kernel) (by decide)
  cases e1
  have hMR1 := D.m hMR hF1
  have hx1 := D.odW hod hF1
  refine g_istore (L' := [(6, .int k1), (5, .int (nI i)), (4, .ref od), (3, .ref o), (2, .ref (a 0)), (1, .ref (A 313)), (0, .ref sb)]) X dL_law_2167 (by rw [hnL]; decide) rfl ?_
  refine g_aload_n X dL_law_2169 rfl 4 rfl ?_
  refine g_arg X D 1 6 1 dL_law_2170 dL_law_2171 dL_law_2173 dL_law_2174 dL_law_2175 (by decide) rfl rfl (by omega) ?_
  refine g_arg X D 2 6 1 dL_law_2176 dL_law_2177 dL_law_2179 dL_law_2180 dL_law_2181 (by decide) rfl rfl (by omega) ?_
  refine g_arg X D 3 6 1 dL_law_2182 dL_law_2183 dL_law_2185 dL_law_2186 dL_law_2187 (by decide) rfl rfl (by omega) ?_
  refine g_callV (As := [.int (xs (i + 1)), .int (xs (i + 2)), .int (xs (i + 3))]) (ci := 4) X dL_law_2188 (c_X4_ride κ.l hl κ.Γ M1 a u hMR1 (xs (i + 1)) (xs (i + 2)) (xs (i + 3)) hG.2.1 hG.2.2.1) k1416 k1417 k1418 k5 k1419 rfl (MRep.obj hMR1) ⟨rfl, by decide, by decide, (show (parseMethodDescriptor yX4_ride.desc).map (fun d => d.parameters.length) = some 3 by decide +kernel)⟩ rfl (Nat.le_of_ble_eq_true rfl) (by rw [hRm]; decide) (by rw [hRm]; exact ⟨by (show _ ≤ 603072); omega, by (show _ ≤ 7182442); omega⟩) (fun v2 M2 h2 => ?_) (fun E9 M9 h9 => by have := h9.1.trans e2; cases this)
  obtain ⟨g2, hMR2, hF2⟩ := h2
  have g2 := g2.trans e2
  cases g2
  refine g_istore (L' := [(7, .int n1), (6, .int k1), (5, .int (nI i)), (4, .ref od), (3, .ref o), (2, .ref (a 0)), (1, .ref (A 313)), (0, .ref sb)]) X dL_law_2191 (by rw [hnL]; decide) rfl ?_
  refine g_aload_n X dL_law_2193 rfl 5 rfl ?_
  refine g_callV_rd (As := []) (ci := 4) (v := some (.int ((mRide u (xs (i + 1)) (xs (i + 2)) (xs (i + 3))).2.1 0))) X dL_law_2194 (c_X4_thrown κ.l hl κ.Γ M2 a _ hMR2) k1150 k1151 k1152 k5 k1153 rfl (MRep.obj hMR2) ⟨rfl, by decide, by decide, (show (parseMethodDescriptor yX4_thrown.desc).map (fun d => d.parameters.length) = some 0 by decide +kernel)⟩ rfl (Nat.le_of_ble_eq_true rfl) (by rw [hRm]; decide) (by rw [hRm]; exact ⟨by (show _ ≤ 603072); omega, by (show _ ≤ 7182442); omega⟩) ?_
  refine g_lit (y := k1) e3 ?_
  refine g_iload X dL_law_2197 1 rfl ?_
  refine g_icmp_eq (tgt := 2204) X dL_law_2199 (by decide) (fun _ => ?_) (fun h => absurd rfl h)
  refine g_iload X dL_law_2204 1 rfl ?_
  have hW2 : LW κ A a o od (pRide w (xs (i + 1)) (xs (i + 2)) (xs (i + 3))).2 (mRide u (xs (i + 1)) (xs (i + 2)) (xs (i + 3))).2 M2 := ⟨D.b hBR1 hF2, hMR2, ⟨f1, D.oM ho1 hF2⟩, ⟨fd, D.odM hx1 hF2⟩⟩
  have kE : G κ M2 (cells + 3) (slots + 18) [(7, .int n1), (6, .int k1), (5, .int (nI i)), (4, .ref od), (3, .ref o), (2, .ref (a 0)), (1, .ref (A 313)), (0, .ref sb)] 2221 [] := by
    refine g_goto (tgt := 2980) X dL_law_2221 (by decide) ?_
    refine g_locs [2, 3, 4, 5, 6, 7] (L' := LL sb A a o od i) rfl ?_
    exact k9 _ hW2
  refine g_if_ne (tgt := 2221) X dL_law_2206 (by decide) (fun _ => kE) (fun z0 => ?_)
  have e5 := e4 z0
  refine g_aload_n X dL_law_2209 rfl 4 rfl ?_
  refine g_iconst (v := 0) X dL_law_2210 (by decide) ?_
  refine g_laload X dL_law_2211 (D.oM ho1 hF2) vin01 ?_
  show G κ M2 _ _ _ _ (.long (f1 0) :: _)
  refine g_iload X dL_law_2212 0 rfl ?_
  refine g_i2l X dL_law_2214 ?_
  refine g_lcmp0 X dL_law_2215 e5 ?_
  exact g_if_eq (tgt := 2221) X dL_law_2216 (by decide) (fun _ => kE) (fun h => absurd rfl h)
