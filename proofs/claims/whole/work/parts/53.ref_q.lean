theorem ansI.mk {y : Int32} {v : HV} : ansI (rI y, v) := ⟨y, rfl⟩
theorem ansI.vote {u : HV} {b x : Int32} {s o : Nat} : ansI (mVote u b x s o) := by unfold mVote; exact ansI.g (ansI.g (ansI.g ⟨_, rfl⟩))
set_option maxRecDepth 100000 in
set_option maxHeartbeats 4000000 in
theorem c_X4_runCommand (l : Launch) (hl : l.stackTraces = false) (Γ : Gm) (M : Hp) (a : Nat → Nat) (u : HV) (hR : MRep Γ a u M) (hi : RI u) (hk : KInv u) : Ct l Γ yX4_runCommand cX4_runCommand 1 none 5 0 0 [.ref (a 0)] M (MMu Γ a (.inl none, mRunC u) M) := by
  refine Ct.of hl (by decide) (Nat.le_of_ble_eq_true rfl) rfl ?_
  intro κ e1 e2 hnL hRm X F hlt
  subst e1 e2
  refine g_aload_n X dX4_runCommand_0 rfl 0 rfl ?_
  refine g_get X dX4_runCommand_1 (ci := 4) (k := 19) (v := .int (u.1 13)) rfl k1108 (by decide) rfl (MRep.obj hR) rfl ?_
  refine g_topi (fun z1 hz1 => ?_)
  by_cases e2 : z1 = 97
  · refine g_tabIn (off := 216) (tgt := 220) X dX4_runCommand_4 (by rw [e2]; decide) (by rw [e2]; decide) (by rw [e2]; rfl) (by decide) ?_
    refine g_aload_n X dX4_runCommand_220 rfl 0 rfl ?_
    refine g_aload_n X dX4_runCommand_221 rfl 0 rfl ?_
    refine g_get X dX4_runCommand_222 (ci := 4) (k := 15) (v := .int (u.1 9)) rfl k1104 (by decide) rfl (MRep.obj hR) rfl ?_
    refine g_aload_n X dX4_runCommand_225 rfl 0 rfl ?_
    refine g_get X dX4_runCommand_226 (ci := 4) (k := 16) (v := .int (u.1 10)) rfl k1105 (by decide) rfl (MRep.obj hR) rfl ?_
    refine g_aload_n X dX4_runCommand_229 rfl 0 rfl ?_
    refine g_get X dX4_runCommand_230 (ci := 4) (k := 17) (v := .int (u.1 11)) rfl k1106 (by decide) rfl (MRep.obj hR) rfl ?_
    have an0 : ansI (mPropose u (u.1 9) (u.1 10) (u.1 11)) := (by unfold mPropose; exact (ansI.g (ansI.g (ansI.g ansI.mk))))
    refine g_callV (As := [.int (u.1 9), .int (u.1 10), .int (u.1 11)]) (ci := 4) X dX4_runCommand_233 (c_X4_propose κ.l hl κ.Γ M a u hR (u.1 9) (u.1 10) (u.1 11) hi hk) k1541 k1381 k1382 k5 k1383 rfl (MRep.obj hR) ⟨rfl, by decide, by decide, (show (parseMethodDescriptor yX4_propose.desc).map (fun d => d.parameters.length) = some 3 by decide +kernel)⟩ rfl (Nat.le_of_ble_eq_true rfl) (by rw [hRm]; decide) (by rw [hRm]; exact ⟨Nat.le_of_ble_eq_true rfl, Nat.le_of_ble_eq_true rfl⟩) (fun v0 M0 h0 => ?_) (fun E0 M0 h0 => absurd h0.1 (ansI.nx an0))
    obtain ⟨e0, hR0, hF0⟩ := h0
    obtain ⟨y0, e1⟩ := an0
    rw [e1] at e0
    cases e0
    refine g_pop X dX4_runCommand_236 rfl ?_
    refine g_goto (tgt := 305) X dX4_runCommand_237 (by decide) ?_
    exact g_vret X F dX4_runCommand_305 (by omega) (by omega) ⟨rfl, (by (show MRep κ.Γ a (mDo u (u.1 13) (u.1 9) (u.1 10) (u.1 11)) _); unfold mDo; rw [← hz1, if_pos e2]; exact hR0), hF0⟩
  by_cases e3 : z1 = 98
  · refine g_tabIn (off := 152) (tgt := 156) X dX4_runCommand_4 (by rw [e3]; decide) (by rw [e3]; decide) (by rw [e3]; rfl) (by decide) ?_
    refine g_aload_n X dX4_runCommand_156 rfl 0 rfl ?_
    refine g_aload_n X dX4_runCommand_157 rfl 0 rfl ?_
    refine g_get X dX4_runCommand_158 (ci := 4) (k := 15) (v := .int (u.1 9)) rfl k1104 (by decide) rfl (MRep.obj hR) rfl ?_
    refine g_aload_n X dX4_runCommand_161 rfl 0 rfl ?_
    refine g_get X dX4_runCommand_162 (ci := 4) (k := 16) (v := .int (u.1 10)) rfl k1105 (by decide) rfl (MRep.obj hR) rfl ?_
    refine g_aload_n X dX4_runCommand_165 rfl 0 rfl ?_
    refine g_get X dX4_runCommand_166 (ci := 4) (k := 17) (v := .int (u.1 11)) rfl k1106 (by decide) rfl (MRep.obj hR) rfl ?_
    have an0 : ansI (mIntroduce u (u.1 9) (u.1 10) (u.1 11)) := (by unfold mIntroduce; exact (ansI.g (ansI.g (ansI.g (ansI.g ansI.mk)))))
    refine g_callV (As := [.int (u.1 9), .int (u.1 10), .int (u.1 11)]) (ci := 4) X dX4_runCommand_169 (c_X4_introduce κ.l hl κ.Γ M a u hR (u.1 9) (u.1 10) (u.1 11) hi hk) k1537 k1249 k1250 k5 k1251 rfl (MRep.obj hR) ⟨rfl, by decide, by decide, (show (parseMethodDescriptor yX4_introduce.desc).map (fun d => d.parameters.length) = some 3 by decide +kernel)⟩ rfl (Nat.le_of_ble_eq_true rfl) (by rw [hRm]; decide) (by rw [hRm]; exact ⟨Nat.le_of_ble_eq_true rfl, Nat.le_of_ble_eq_true rfl⟩) (fun v0 M0 h0 => ?_) (fun E0 M0 h0 => absurd h0.1 (ansI.nx an0))
    obtain ⟨e0, hR0, hF0⟩ := h0
    obtain ⟨y0, e1⟩ := an0
    rw [e1] at e0
    cases e0
    refine g_pop X dX4_runCommand_172 rfl ?_
    refine g_goto (tgt := 305) X dX4_runCommand_173 (by decide) ?_
    exact g_vret X F dX4_runCommand_305 (by omega) (by omega) ⟨rfl, (by (show MRep κ.Γ a (mDo u (u.1 13) (u.1 9) (u.1 10) (u.1 11)) _); unfold mDo; rw [← hz1, if_neg e2, if_pos e3]; exact hR0), hF0⟩
  by_cases e4 : z1 = 99
  · refine g_tabIn (off := 204) (tgt := 208) X dX4_runCommand_4 (by rw [e4]; decide) (by rw [e4]; decide) (by rw [e4]; rfl) (by decide) ?_
    refine g_aload_n X dX4_runCommand_208 rfl 0 rfl ?_
    refine g_aload_n X dX4_runCommand_209 rfl 0 rfl ?_
    refine g_get X dX4_runCommand_210 (ci := 4) (k := 15) (v := .int (u.1 9)) rfl k1104 (by decide) rfl (MRep.obj hR) rfl ?_
    have an0 : ansI (mCloseReading u (u.1 9)) := (by unfold mCloseReading; exact (ansI.g (ansI.g (ansI.g ansI.mk))))
    refine g_callV (As := [.int (u.1 9)]) (ci := 4) X dX4_runCommand_213 (c_X4_closeReading κ.l hl κ.Γ M a u hR (u.1 9) hi hk) k1540 k1355 k1356 k5 k1357 rfl (MRep.obj hR) ⟨rfl, by decide, by decide, (show (parseMethodDescriptor yX4_closeReading.desc).map (fun d => d.parameters.length) = some 1 by decide +kernel)⟩ rfl (Nat.le_of_ble_eq_true rfl) (by rw [hRm]; decide) (by rw [hRm]; exact ⟨Nat.le_of_ble_eq_true rfl, Nat.le_of_ble_eq_true rfl⟩) (fun v0 M0 h0 => ?_) (fun E0 M0 h0 => absurd h0.1 (ansI.nx an0))
    obtain ⟨e0, hR0, hF0⟩ := h0
    obtain ⟨y0, e1⟩ := an0
    rw [e1] at e0
    cases e0
    refine g_pop X dX4_runCommand_216 rfl ?_
    refine g_goto (tgt := 305) X dX4_runCommand_217 (by decide) ?_
    exact g_vret X F dX4_runCommand_305 (by omega) (by omega) ⟨rfl, (by (show MRep κ.Γ a (mDo u (u.1 13) (u.1 9) (u.1 10) (u.1 11)) _); unfold mDo; rw [← hz1, if_neg e2, if_neg e3, if_pos e4]; exact hR0), hF0⟩
  by_cases e5 : z1 = 100
  · refine g_tabIn (off := 256) (tgt := 260) X dX4_runCommand_4 (by rw [e5]; decide) (by rw [e5]; decide) (by rw [e5]; rfl) (by decide) ?_
    refine g_aload_n X dX4_runCommand_260 rfl 0 rfl ?_
    refine g_aload_n X dX4_runCommand_261 rfl 0 rfl ?_
    refine g_get X dX4_runCommand_262 (ci := 4) (k := 15) (v := .int (u.1 9)) rfl k1104 (by decide) rfl (MRep.obj hR) rfl ?_
    have an0 : ansI (mDecide u (u.1 9)) := (by unfold mDecide; exact (ansI.g (ansI.g (ansI.g (ansI.g ansI.mk)))))
    refine g_callV (As := [.int (u.1 9)]) (ci := 4) X dX4_runCommand_265 (c_X4_decide κ.l hl κ.Γ M a u hR (u.1 9) hi hk) k1543 k1397 k1398 k5 k1399 rfl (MRep.obj hR) ⟨rfl, by decide, by decide, (show (parseMethodDescriptor yX4_decide.desc).map (fun d => d.parameters.length) = some 1 by decide +kernel)⟩ rfl (Nat.le_of_ble_eq_true rfl) (by rw [hRm]; decide) (by rw [hRm]; exact ⟨Nat.le_of_ble_eq_true rfl, Nat.le_of_ble_eq_true rfl⟩) (fun v0 M0 h0 => ?_) (fun E0 M0 h0 => absurd h0.1 (ansI.nx an0))
    obtain ⟨e0, hR0, hF0⟩ := h0
    obtain ⟨y0, e1⟩ := an0
    rw [e1] at e0
    cases e0
    refine g_pop X dX4_runCommand_268 rfl ?_
    refine g_goto (tgt := 305) X dX4_runCommand_269 (by decide) ?_
    exact g_vret X F dX4_runCommand_305 (by omega) (by omega) ⟨rfl, (by (show MRep κ.Γ a (mDo u (u.1 13) (u.1 9) (u.1 10) (u.1 11)) _); unfold mDo; rw [← hz1, if_neg e2, if_neg e3, if_neg e4, if_pos e5]; exact hR0), hF0⟩
  by_cases e6 : z1 = 101
  · refine g_tabIn (off := 116) (tgt := 120) X dX4_runCommand_4 (by rw [e6]; decide) (by rw [e6]; decide) (by rw [e6]; rfl) (by decide) ?_
    refine g_aload_n X dX4_runCommand_120 rfl 0 rfl ?_
    refine g_aload_n X dX4_runCommand_121 rfl 0 rfl ?_
    refine g_get X dX4_runCommand_122 (ci := 4) (k := 15) (v := .int (u.1 9)) rfl k1104 (by decide) rfl (MRep.obj hR) rfl ?_
    have an0 : ansI (mEnter u (u.1 9)) := (by unfold mEnter; exact (ansI.g (ansI.g ansI.mk)))
    refine g_callV (As := [.int (u.1 9)]) (ci := 4) X dX4_runCommand_125 (c_X4_enter κ.l hl κ.Γ M a u hR (u.1 9) hi hk) k1534 k1180 k1181 k5 k1182 rfl (MRep.obj hR) ⟨rfl, by decide, by decide, (show (parseMethodDescriptor yX4_enter.desc).map (fun d => d.parameters.length) = some 1 by decide +kernel)⟩ rfl (Nat.le_of_ble_eq_true rfl) (by rw [hRm]; decide) (by rw [hRm]; exact ⟨Nat.le_of_ble_eq_true rfl, Nat.le_of_ble_eq_true rfl⟩) (fun v0 M0 h0 => ?_) (fun E0 M0 h0 => absurd h0.1 (ansI.nx an0))
    obtain ⟨e0, hR0, hF0⟩ := h0
    obtain ⟨y0, e1⟩ := an0
    rw [e1] at e0
    cases e0
    refine g_pop X dX4_runCommand_128 rfl ?_
    refine g_goto (tgt := 305) X dX4_runCommand_129 (by decide) ?_
    exact g_vret X F dX4_runCommand_305 (by omega) (by omega) ⟨rfl, (by (show MRep κ.Γ a (mDo u (u.1 13) (u.1 9) (u.1 10) (u.1 11)) _); unfold mDo; rw [← hz1, if_neg e2, if_neg e3, if_neg e4, if_neg e5, if_pos e6]; exact hR0), hF0⟩
  by_cases e7 : z1 = 108
  · refine g_tabIn (off := 128) (tgt := 132) X dX4_runCommand_4 (by rw [e7]; decide) (by rw [e7]; decide) (by rw [e7]; rfl) (by decide) ?_
    refine g_aload_n X dX4_runCommand_132 rfl 0 rfl ?_
    refine g_aload_n X dX4_runCommand_133 rfl 0 rfl ?_
    refine g_get X dX4_runCommand_134 (ci := 4) (k := 15) (v := .int (u.1 9)) rfl k1104 (by decide) rfl (MRep.obj hR) rfl ?_
    have an0 : ansI (mLeave u (u.1 9)) := (by unfold mLeave; exact (ansI.g (ansI.g ansI.mk)))
    refine g_callV (As := [.int (u.1 9)]) (ci := 4) X dX4_runCommand_137 (c_X4_leave κ.l hl κ.Γ M a u hR (u.1 9) hi hk) k1535 k1193 k1194 k5 k1195 rfl (MRep.obj hR) ⟨rfl, by decide, by decide, (show (parseMethodDescriptor yX4_leave.desc).map (fun d => d.parameters.length) = some 1 by decide +kernel)⟩ rfl (Nat.le_of_ble_eq_true rfl) (by rw [hRm]; decide) (by rw [hRm]; exact ⟨Nat.le_of_ble_eq_true rfl, Nat.le_of_ble_eq_true rfl⟩) (fun v0 M0 h0 => ?_) (fun E0 M0 h0 => absurd h0.1 (ansI.nx an0))
    obtain ⟨e0, hR0, hF0⟩ := h0
    obtain ⟨y0, e1⟩ := an0
    rw [e1] at e0
    cases e0
    refine g_pop X dX4_runCommand_140 rfl ?_
    refine g_goto (tgt := 305) X dX4_runCommand_141 (by decide) ?_
    exact g_vret X F dX4_runCommand_305 (by omega) (by omega) ⟨rfl, (by (show MRep κ.Γ a (mDo u (u.1 13) (u.1 9) (u.1 10) (u.1 11)) _); unfold mDo; rw [← hz1, if_neg e2, if_neg e3, if_neg e4, if_neg e5, if_neg e6, if_pos e7]; exact hR0), hF0⟩
  by_cases e8 : z1 = 110
  · refine g_tabIn (off := 188) (tgt := 192) X dX4_runCommand_4 (by rw [e8]; decide) (by rw [e8]; decide) (by rw [e8]; rfl) (by decide) ?_
    refine g_aload_n X dX4_runCommand_192 rfl 0 rfl ?_
    refine g_aload_n X dX4_runCommand_193 rfl 0 rfl ?_
    refine g_get X dX4_runCommand_194 (ci := 4) (k := 15) (v := .int (u.1 9)) rfl k1104 (by decide) rfl (MRep.obj hR) rfl ?_
    refine g_aload_n X dX4_runCommand_197 rfl 0 rfl ?_
    refine g_get X dX4_runCommand_198 (ci := 4) (k := 16) (v := .int (u.1 10)) rfl k1105 (by decide) rfl (MRep.obj hR) rfl ?_
    have an0 : ansI (mVoteAgainst u (u.1 9) (u.1 10)) := (by unfold mVoteAgainst; exact ansI.vote)
    refine g_callV (As := [.int (u.1 9), .int (u.1 10)]) (ci := 4) X dX4_runCommand_201 (c_X4_voteAgainst κ.l hl κ.Γ M a u hR (u.1 9) (u.1 10) hi hk) k1539 k1338 k1339 k5 k1340 rfl (MRep.obj hR) ⟨rfl, by decide, by decide, (show (parseMethodDescriptor yX4_voteAgainst.desc).map (fun d => d.parameters.length) = some 2 by decide +kernel)⟩ rfl (Nat.le_of_ble_eq_true rfl) (by rw [hRm]; decide) (by rw [hRm]; exact ⟨Nat.le_of_ble_eq_true rfl, Nat.le_of_ble_eq_true rfl⟩) (fun v0 M0 h0 => ?_) (fun E0 M0 h0 => absurd h0.1 (ansI.nx an0))
    obtain ⟨e0, hR0, hF0⟩ := h0
    obtain ⟨y0, e1⟩ := an0
    rw [e1] at e0
    cases e0
    refine g_pop X dX4_runCommand_204 rfl ?_
    refine g_goto (tgt := 305) X dX4_runCommand_205 (by decide) ?_
    exact g_vret X F dX4_runCommand_305 (by omega) (by omega) ⟨rfl, (by (show MRep κ.Γ a (mDo u (u.1 13) (u.1 9) (u.1 10) (u.1 11)) _); unfold mDo; rw [← hz1, if_neg e2, if_neg e3, if_neg e4, if_neg e5, if_neg e6, if_neg e7, if_pos e8]; exact hR0), hF0⟩
  by_cases e9 : z1 = 113
  · refine g_tabIn (off := 140) (tgt := 144) X dX4_runCommand_4 (by rw [e9]; decide) (by rw [e9]; decide) (by rw [e9]; rfl) (by decide) ?_
    refine g_aload_n X dX4_runCommand_144 rfl 0 rfl ?_
    refine g_aload_n X dX4_runCommand_145 rfl 0 rfl ?_
    refine g_get X dX4_runCommand_146 (ci := 4) (k := 15) (v := .int (u.1 9)) rfl k1104 (by decide) rfl (MRep.obj hR) rfl ?_
    have an0 : ansI (mSetQuorum u (u.1 9)) := (by unfold mSetQuorum; exact (ansI.g ansI.mk))
    refine g_callV (As := [.int (u.1 9)]) (ci := 4) X dX4_runCommand_149 (c_X4_setQuorum κ.l hl κ.Γ M a u hR (u.1 9) hi hk) k1536 k1197 k1198 k5 k1199 rfl (MRep.obj hR) ⟨rfl, by decide, by decide, (show (parseMethodDescriptor yX4_setQuorum.desc).map (fun d => d.parameters.length) = some 1 by decide +kernel)⟩ rfl (Nat.le_of_ble_eq_true rfl) (by rw [hRm]; decide) (by rw [hRm]; exact ⟨Nat.le_of_ble_eq_true rfl, Nat.le_of_ble_eq_true rfl⟩) (fun v0 M0 h0 => ?_) (fun E0 M0 h0 => absurd h0.1 (ansI.nx an0))
    obtain ⟨e0, hR0, hF0⟩ := h0
    obtain ⟨y0, e1⟩ := an0
    rw [e1] at e0
    cases e0
    refine g_pop X dX4_runCommand_152 rfl ?_
    refine g_goto (tgt := 305) X dX4_runCommand_153 (by decide) ?_
    exact g_vret X F dX4_runCommand_305 (by omega) (by omega) ⟨rfl, (by (show MRep κ.Γ a (mDo u (u.1 13) (u.1 9) (u.1 10) (u.1 11)) _); unfold mDo; rw [← hz1, if_neg e2, if_neg e3, if_neg e4, if_neg e5, if_neg e6, if_neg e7, if_neg e8, if_pos e9]; exact hR0), hF0⟩
  by_cases e10 : z1 = 114
  · refine g_tabIn (off := 268) (tgt := 272) X dX4_runCommand_4 (by rw [e10]; decide) (by rw [e10]; decide) (by rw [e10]; rfl) (by decide) ?_
    refine g_aload_n X dX4_runCommand_272 rfl 0 rfl ?_
    refine g_aload_n X dX4_runCommand_273 rfl 0 rfl ?_
    refine g_get X dX4_runCommand_274 (ci := 4) (k := 15) (v := .int (u.1 9)) rfl k1104 (by decide) rfl (MRep.obj hR) rfl ?_
    refine g_aload_n X dX4_runCommand_277 rfl 0 rfl ?_
    refine g_get X dX4_runCommand_278 (ci := 4) (k := 16) (v := .int (u.1 10)) rfl k1105 (by decide) rfl (MRep.obj hR) rfl ?_
    refine g_aload_n X dX4_runCommand_281 rfl 0 rfl ?_
    refine g_get X dX4_runCommand_282 (ci := 4) (k := 17) (v := .int (u.1 11)) rfl k1106 (by decide) rfl (MRep.obj hR) rfl ?_
    have an0 : ansI (mRide u (u.1 9) (u.1 10) (u.1 11)) := (by unfold mRide; exact (ansI.g (ansI.g (ansI.g (ansI.g ansI.mk)))))
    refine g_callV (As := [.int (u.1 9), .int (u.1 10), .int (u.1 11)]) (ci := 4) X dX4_runCommand_285 (c_X4_ride κ.l hl κ.Γ M a u hR (u.1 9) (u.1 10) (u.1 11) hi hk) k1544 k1417 k1418 k5 k1419 rfl (MRep.obj hR) ⟨rfl, by decide, by decide, (show (parseMethodDescriptor yX4_ride.desc).map (fun d => d.parameters.length) = some 3 by decide +kernel)⟩ rfl (Nat.le_of_ble_eq_true rfl) (by rw [hRm]; decide) (by rw [hRm]; exact ⟨Nat.le_of_ble_eq_true rfl, Nat.le_of_ble_eq_true rfl⟩) (fun v0 M0 h0 => ?_) (fun E0 M0 h0 => absurd h0.1 (ansI.nx an0))
    obtain ⟨e0, hR0, hF0⟩ := h0
    obtain ⟨y0, e1⟩ := an0
    rw [e1] at e0
    cases e0
    refine g_pop X dX4_runCommand_288 rfl ?_
    refine g_goto (tgt := 305) X dX4_runCommand_289 (by decide) ?_
    exact g_vret X F dX4_runCommand_305 (by omega) (by omega) ⟨rfl, (by (show MRep κ.Γ a (mDo u (u.1 13) (u.1 9) (u.1 10) (u.1 11)) _); unfold mDo; rw [← hz1, if_neg e2, if_neg e3, if_neg e4, if_neg e5, if_neg e6, if_neg e7, if_neg e8, if_neg e9, if_pos e10]; exact hR0), hF0⟩
  by_cases e11 : z1 = 115
  · refine g_tabIn (off := 236) (tgt := 240) X dX4_runCommand_4 (by rw [e11]; decide) (by rw [e11]; decide) (by rw [e11]; rfl) (by decide) ?_
    refine g_aload_n X dX4_runCommand_240 rfl 0 rfl ?_
    refine g_aload_n X dX4_runCommand_241 rfl 0 rfl ?_
    refine g_get X dX4_runCommand_242 (ci := 4) (k := 15) (v := .int (u.1 9)) rfl k1104 (by decide) rfl (MRep.obj hR) rfl ?_
    refine g_aload_n X dX4_runCommand_245 rfl 0 rfl ?_
    refine g_get X dX4_runCommand_246 (ci := 4) (k := 16) (v := .int (u.1 10)) rfl k1105 (by decide) rfl (MRep.obj hR) rfl ?_
    refine g_aload_n X dX4_runCommand_249 rfl 0 rfl ?_
    refine g_get X dX4_runCommand_250 (ci := 4) (k := 17) (v := .int (u.1 11)) rfl k1106 (by decide) rfl (MRep.obj hR) rfl ?_
    have an0 : ansI (mSupport u (u.1 9) (u.1 10) (u.1 11)) := (by unfold mSupport; exact (ansI.g (ansI.g (ansI.g (ansI.g ansI.mk)))))
    refine g_callV (As := [.int (u.1 9), .int (u.1 10), .int (u.1 11)]) (ci := 4) X dX4_runCommand_253 (c_X4_support κ.l hl κ.Γ M a u hR (u.1 9) (u.1 10) (u.1 11) hi hk) k1542 k1385 k1386 k5 k1387 rfl (MRep.obj hR) ⟨rfl, by decide, by decide, (show (parseMethodDescriptor yX4_support.desc).map (fun d => d.parameters.length) = some 3 by decide +kernel)⟩ rfl (Nat.le_of_ble_eq_true rfl) (by rw [hRm]; decide) (by rw [hRm]; exact ⟨Nat.le_of_ble_eq_true rfl, Nat.le_of_ble_eq_true rfl⟩) (fun v0 M0 h0 => ?_) (fun E0 M0 h0 => absurd h0.1 (ansI.nx an0))
    obtain ⟨e0, hR0, hF0⟩ := h0
    obtain ⟨y0, e1⟩ := an0
    rw [e1] at e0
    cases e0
    refine g_pop X dX4_runCommand_256 rfl ?_
    refine g_goto (tgt := 305) X dX4_runCommand_257 (by decide) ?_
    exact g_vret X F dX4_runCommand_305 (by omega) (by omega) ⟨rfl, (by (show MRep κ.Γ a (mDo u (u.1 13) (u.1 9) (u.1 10) (u.1 11)) _); unfold mDo; rw [← hz1, if_neg e2, if_neg e3, if_neg e4, if_neg e5, if_neg e6, if_neg e7, if_neg e8, if_neg e9, if_neg e10, if_pos e11]; exact hR0), hF0⟩
  by_cases e12 : z1 = 121
  · refine g_tabIn (off := 172) (tgt := 176) X dX4_runCommand_4 (by rw [e12]; decide) (by rw [e12]; decide) (by rw [e12]; rfl) (by decide) ?_
    refine g_aload_n X dX4_runCommand_176 rfl 0 rfl ?_
    refine g_aload_n X dX4_runCommand_177 rfl 0 rfl ?_
    refine g_get X dX4_runCommand_178 (ci := 4) (k := 15) (v := .int (u.1 9)) rfl k1104 (by decide) rfl (MRep.obj hR) rfl ?_
    refine g_aload_n X dX4_runCommand_181 rfl 0 rfl ?_
    refine g_get X dX4_runCommand_182 (ci := 4) (k := 16) (v := .int (u.1 10)) rfl k1105 (by decide) rfl (MRep.obj hR) rfl ?_
    have an0 : ansI (mVoteFor u (u.1 9) (u.1 10)) := (by unfold mVoteFor; exact ansI.vote)
    refine g_callV (As := [.int (u.1 9), .int (u.1 10)]) (ci := 4) X dX4_runCommand_185 (c_X4_voteFor κ.l hl κ.Γ M a u hR (u.1 9) (u.1 10) hi hk) k1538 k1326 k1327 k5 k1328 rfl (MRep.obj hR) ⟨rfl, by decide, by decide, (show (parseMethodDescriptor yX4_voteFor.desc).map (fun d => d.parameters.length) = some 2 by decide +kernel)⟩ rfl (Nat.le_of_ble_eq_true rfl) (by rw [hRm]; decide) (by rw [hRm]; exact ⟨Nat.le_of_ble_eq_true rfl, Nat.le_of_ble_eq_true rfl⟩) (fun v0 M0 h0 => ?_) (fun E0 M0 h0 => absurd h0.1 (ansI.nx an0))
    obtain ⟨e0, hR0, hF0⟩ := h0
    obtain ⟨y0, e1⟩ := an0
    rw [e1] at e0
    cases e0
    refine g_pop X dX4_runCommand_188 rfl ?_
    refine g_goto (tgt := 305) X dX4_runCommand_189 (by decide) ?_
    exact g_vret X F dX4_runCommand_305 (by omega) (by omega) ⟨rfl, (by (show MRep κ.Γ a (mDo u (u.1 13) (u.1 9) (u.1 10) (u.1 11)) _); unfold mDo; rw [← hz1, if_neg e2, if_neg e3, if_neg e4, if_neg e5, if_neg e6, if_neg e7, if_neg e8, if_neg e9, if_neg e10, if_neg e11, if_pos e12]; exact hR0), hF0⟩
  refine g_tabDef (keys := [97, 98, 99, 100, 101, 108, 110, 113, 114, 115, 121]) (tgt := 292) X dX4_runCommand_4 (by decide +kernel) (by decide) (nk e2 (nk e3 (nk e4 (nk e5 (nk e6 (nk e7 (nk e8 (nk e9 (nk e10 (nk e11 (nk e12 nk0))))))))))) (by decide) ?_
  refine g_aload_n X dX4_runCommand_292 rfl 0 rfl ?_
  refine g_aload_n X dX4_runCommand_293 rfl 0 rfl ?_
  refine g_get X dX4_runCommand_294 (ci := 4) (k := 15) (v := .int (u.1 9)) rfl k1104 (by decide) rfl (MRep.obj hR) rfl ?_
  refine g_aload_n X dX4_runCommand_297 rfl 0 rfl ?_
  refine g_get X dX4_runCommand_298 (ci := 4) (k := 16) (v := .int (u.1 10)) rfl k1105 (by decide) rfl (MRep.obj hR) rfl ?_
  have an0 : ansI (mAddMember u (u.1 9) (u.1 10)) := (by unfold mAddMember; exact (ansI.g (ansI.g (ansI.g ansI.mk))))
  refine g_callV (As := [.int (u.1 9), .int (u.1 10)]) (ci := 4) X dX4_runCommand_301 (c_X4_addMember κ.l hl κ.Γ M a u hR (u.1 9) (u.1 10) hi hk) k1545 k1155 k1156 k5 k1157 rfl (MRep.obj hR) ⟨rfl, by decide, by decide, (show (parseMethodDescriptor yX4_addMember.desc).map (fun d => d.parameters.length) = some 2 by decide +kernel)⟩ rfl (Nat.le_of_ble_eq_true rfl) (by rw [hRm]; decide) (by rw [hRm]; exact ⟨Nat.le_of_ble_eq_true rfl, Nat.le_of_ble_eq_true rfl⟩) (fun v0 M0 h0 => ?_) (fun E0 M0 h0 => absurd h0.1 (ansI.nx an0))
  obtain ⟨e0, hR0, hF0⟩ := h0
  obtain ⟨y0, e1⟩ := an0
  rw [e1] at e0
  cases e0
  refine g_pop X dX4_runCommand_304 rfl ?_
  exact g_vret X F dX4_runCommand_305 (by omega) (by omega) ⟨rfl, (by (show MRep κ.Γ a (mDo u (u.1 13) (u.1 9) (u.1 10) (u.1 11)) _); unfold mDo; rw [← hz1, if_neg e2, if_neg e3, if_neg e4, if_neg e5, if_neg e6, if_neg e7, if_neg e8, if_neg e9, if_neg e10, if_neg e11, if_neg e12]; exact hR0), hF0⟩
