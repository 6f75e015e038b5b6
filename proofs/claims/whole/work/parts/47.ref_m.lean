/-! ===== the reference's line ===== -/
def mWr (u : HV) (c : Int32) : HV := hsc (hset u 13 (cN (u.1 4)) c) 4 (u.1 4 + 1)
def WB (k : Nat) (u : HV) : Prop := ∃ W : Nat, W ≤ k ∧ u.1 4 = nI W
theorem WB.mono {k n : Nat} {u : HV} (h : WB k u) (hk : k ≤ n) : WB n u := by
  obtain ⟨W, h1, h2⟩ := h
  exact ⟨W, by omega, h2⟩
theorem WB.wr {k : Nat} {u : HV} {c : Int32} (h : WB k u) : WB (k + 1) (mWr u c) := by
  obtain ⟨W, h1, h2⟩ := h
  exact ⟨W + 1, by omega, by show u.1 4 + 1 = _; rw [h2, nI_1]⟩
theorem WB.ix {u : HV} (h : WB 39 u) : vp_in (u.1 4) 40 := by
  obtain ⟨W, h1, h2⟩ := h
  rw [h2]
  exact vp_in_nI (by omega) (by decide)
abbrev dg (v : Int32) : Int32 := i2cc (48 + irm v 10)
def mNum : Nat → HV → Int32 → HV
  | 0, u, _ => u
  | k + 1, u, v => if v ≤ 9 then mWr u (dg v) else mWr (mNum k u (v / 10)) (dg v)
theorem WB.num : ∀ (k : Nat) {j : Nat} {u : HV} {v : Int32}, WB j u → WB (j + k) (mNum k u v)
  | 0, _, _, _, h => h
  | k + 1, j, u, v, h => by
    show WB (j + (k + 1)) (if v ≤ 9 then mWr u (dg v) else mWr (mNum k u (v / 10)) (dg v))
    split
    · exact h.wr.mono (by omega)
    · exact (WB.num k h).wr.mono (by omega)
theorem nI_div10 : ∀ n, n < 1000 → nI n / 10 = nI (n / 10) := by decide +kernel
abbrev mBeh (k : Nat) (u : HV) (c v : Int32) : HV := mNum k (mWr u c) v
def mStar (u : HV) : Nat → HV
  | 0 => u
  | n + 1 => mWr (mStar u n) 42
theorem WB.star {k : Nat} {u : HV} (h : WB k u) : ∀ n, WB (k + n) (mStar u n)
  | 0 => h
  | n + 1 => (WB.star h n).wr
theorem mWr_1 {u : HV} {c : Int32} : (mWr u c).2.1 1 = u.2.1 1 := hset_n (by decide)
theorem mNum_1 : ∀ (k : Nat) {u : HV} {v : Int32}, (mNum k u v).2.1 1 = u.2.1 1
  | 0, _, _ => rfl
  | k + 1, u, v => by
    show (if v ≤ 9 then mWr u (dg v) else mWr (mNum k u (v / 10)) (dg v)).2.1 1 = _
    split
    · exact mWr_1
    · rw [mWr_1, mNum_1 k]
theorem mStar_1 {u : HV} : ∀ n, (mStar u n).2.1 1 = u.2.1 1
  | 0 => rfl
  | n + 1 => by rw [show mStar u (n + 1) = mWr (mStar u n) 42 from rfl, mWr_1, mStar_1 n]
theorem rSum_cong {r q : HV} (h : r.2.1 1 = q.2.1 1) {s : Int32} : ∀ n, rSum r s n = rSum q s n
  | 0 => rfl
  | n + 1 => by
    show (if shr s (nI n) &&& 1 = 1 then rSum r s n + rM r n 1 else rSum r s n + 0) = (if shr s (nI n) &&& 1 = 1 then rSum q s n + rM q n 1 else rSum q s n + 0)
    rw [rSum_cong h n]
    show (if _ then _ + r.2.1 1 _ else _) = _
    rw [h]
theorem rWt_cong {r q : HV} (h : r.2.1 1 = q.2.1 1) {s : Int32} : rWt r s = rWt q s := by
  show rSum r s (cN (r.2.1 1 0)) = rSum q s (cN (q.2.1 1 0))
  rw [rSum_cong h, h]
theorem sgn_nar (x : Int32) : narrow .char (.int (sgn x)) = .int (sgn x) := by
  unfold sgn
  by_cases h : x = 0
  · rw [if_pos h]; rfl
  · rw [if_neg h]
    by_cases q : x = 1
    · rw [if_pos q]; rfl
    · rw [if_neg q]; rfl
def mD1 (u : HV) (b : Int32) : HV := mNum 1 (hsc (hsc u 0 0) 4 0) b
def mD2 (u : HV) (b : Int32) : HV := mBeh 1 (mD1 u b) (sgn (rB u (cN b) 0)) (rB u (cN b) 3)
def mD3 (u : HV) (b : Int32) : HV := mStar (mD2 u b) (cN (rB u (cN b) 4 / 60))
def mD4 (u : HV) (b : Int32) : HV := mBeh 2 (mD3 u b) 58 (jbc (rB u (cN b) 1) + jbc (rB u (cN b) 2))
def mD5 (u : HV) (b : Int32) : HV := mBeh 3 (mD4 u b) 43 (rWt u (rB u (cN b) 5))
def mD6 (u : HV) (b : Int32) : HV := mBeh 3 (mD5 u b) 45 (rWt u (rB u (cN b) 6))
def mD (u : HV) (b : Int32) : HV := if rB u (cN b) 0 = 0 then mD6 u b else mD4 u b
theorem mD1_1 {u : HV} {b : Int32} : (mD1 u b).2.1 1 = u.2.1 1 := mNum_1 1
theorem mD2_1 {u : HV} {b : Int32} : (mD2 u b).2.1 1 = u.2.1 1 := (mNum_1 1).trans (mWr_1.trans mD1_1)
theorem mS_1 {u : HV} {b : Int32} {n : Nat} : (mStar (mD2 u b) n).2.1 1 = u.2.1 1 := (mStar_1 n).trans mD2_1
theorem mD3_1 {u : HV} {b : Int32} : (mD3 u b).2.1 1 = u.2.1 1 := mS_1
theorem mD4_1 {u : HV} {b : Int32} : (mD4 u b).2.1 1 = u.2.1 1 := (mNum_1 2).trans (mWr_1.trans mD3_1)
theorem mD5_1 {u : HV} {b : Int32} : (mD5 u b).2.1 1 = u.2.1 1 := (mNum_1 3).trans (mWr_1.trans mD4_1)
def DOK (u : HV) (b : Nat) : Prop := (∃ n, n < 10 ∧ rB u b 3 = nI n) ∧ (∃ n, n ≤ 3 ∧ rB u b 4 / 60 = nI n) ∧ (∃ n, n < 100 ∧ jbc (rB u b 1) + jbc (rB u b 2) = nI n) ∧ (∃ n, n < 1000 ∧ rWt u (rB u b 5) = nI n) ∧ (∃ n, n < 1000 ∧ rWt u (rB u b 6) = nI n)
set_option maxRecDepth 100000 in
set_option maxHeartbeats 4000000 in
theorem c_X4_write (l : Launch) (hl : l.stackTraces = false) (Γ : Gm) (M : Hp) (a : Nat → Nat) (u : HV) (hR : MRep Γ a u M) (x : Int32) (hw : WB 39 u) (hc : narrow .char (.int x) = .int x) : Ct l Γ yX4_write cX4_write 2 none 0 0 0 [.ref (a 0), .int (x)] M (MMu Γ a (.inl none, mWr u x) M) := by
  refine Ct.of hl (by decide) (Nat.le_of_ble_eq_true rfl) rfl ?_
  intro κ e1 e2 hnL hRm X F hlt
  subst e1 e2
  refine g_aload_n X dX4_write_0 rfl 0 rfl ?_
  refine g_get X dX4_write_1 (ci := 4) (k := 8) (v := .ref (a 13)) rfl k1097 (by decide) rfl (MRep.obj hR) rfl ?_
  refine g_aload_n X dX4_write_4 rfl 0 rfl ?_
  refine g_get X dX4_write_5 (ci := 4) (k := 9) (v := .int (u.1 4)) rfl k1098 (by decide) rfl (MRep.obj hR) rfl ?_
  refine g_iload_n X dX4_write_8 rfl 1 rfl ?_
  refine g_castore X dX4_write_9 (MRep.line hR) hw.ix hc ?_
  refine g_gen (P := fun M9 => MRep κ.Γ a (hset u 13 (cN (u.1 4)) x) M9 ∧ Fr a 15 M M9) ⟨MRep.ar hR 13 (by decide) (by decide) _ rfl rfl, (Fr.up (by decide))⟩ (fun M1 ⟨hR2, hF3⟩ => ?_)
  refine g_aload_n X dX4_write_10 rfl 0 rfl ?_
  refine g_dup X dX4_write_11 rfl ?_
  refine g_get X dX4_write_12 (ci := 4) (k := 9) (v := .int (u.1 4)) rfl k1098 (by decide) rfl (MRep.obj hR2) rfl ?_
  refine g_iconst (v := 1) X dX4_write_15 (by decide) ?_
  refine g_iadd X dX4_write_16 ?_
  refine g_put X dX4_write_17 (ci := 4) (k := 9) (ty := .int) rfl k1098 (by decide) rfl rfl (by decide +kernel) rfl rfl (Nat.le_of_ble_eq_true rfl) (MRep.obj hR2) ?_
  refine g_gen (P := fun M9 => MRep κ.Γ a (hsc (hset u 13 (cN (u.1 4)) x) 4 ((u.1 4) + 1)) M9 ∧ Fr a 15 M M9) ⟨MRep.sc hR2 4 _ rfl, Fr.tr hF3 (Fr.up (by decide))⟩ (fun M4 ⟨hR5, hF6⟩ => ?_)
  exact g_vret X F dX4_write_20 (by omega) (by omega) ⟨rfl, hR5, hF6⟩
set_option maxRecDepth 100000 in
set_option maxHeartbeats 4000000 in
theorem c_X4_writeNumber1 (l : Launch) (hl : l.stackTraces = false) (Γ : Gm) (M : Hp) (a : Nat → Nat) (u : HV) (hR : MRep Γ a u M) (n9 : Nat) (hn : n9 < 10) (hw : WB 39 u) : Ct l Γ yX4_writeNumber cX4_writeNumber 2 none 1 0 0 [.ref (a 0), .int (nI n9)] M (MMu Γ a (.inl none, mNum 1 u (nI n9)) M) := by
  refine Ct.of hl (by decide) (Nat.le_of_ble_eq_true rfl) rfl ?_
  intro κ e1 e2 hnL hRm X F hlt
  subst e1 e2
  refine g_iload_n X dX4_writeNumber_0 rfl 1 rfl ?_
  refine g_bipush (v := 9) X dX4_writeNumber_1 (by decide) ?_
  refine g_icmp_le (tgt := 14) X dX4_writeNumber_3 (by decide) (fun c1 => ?_) (fun c1 => ?_)
  · refine g_aload_n X dX4_writeNumber_14 rfl 0 rfl ?_
    refine g_bipush (v := 48) X dX4_writeNumber_15 (by decide) ?_
    refine g_iload_n X dX4_writeNumber_17 rfl 1 rfl ?_
    refine g_bipush (v := 10) X dX4_writeNumber_18 (by decide) ?_
    refine g_irem X dX4_writeNumber_20 (by decide) ?_
    refine g_iadd X dX4_writeNumber_21 ?_
    refine g_i2c X dX4_writeNumber_22 ?_
    refine g_callV (As := [.int (i2cc (48 + (irm (nI n9) 10)))]) (ci := 4) X dX4_writeNumber_23 (c_X4_write κ.l hl κ.Γ M a u hR (i2cc (48 + (irm (nI n9) 10))) (hw.mono (by omega)) (cc_nar _)) k1460 k1462 kp39 k5 k1463 rfl (MRep.obj hR) ⟨rfl, by decide, by decide, (show (parseMethodDescriptor yX4_write.desc).map (fun d => d.parameters.length) = some 1 by decide +kernel)⟩ rfl (Nat.le_of_ble_eq_true rfl) (by rw [hRm]; decide) (by rw [hRm]; exact ⟨Nat.le_of_ble_eq_true rfl, Nat.le_of_ble_eq_true rfl⟩) (fun v2 M2 h2 => ?_) (fun _ _ h9 => by cases h9.1)
    obtain ⟨e2, hR2, hF2⟩ := h2
    have e2 : (Sum.inl v2 : Res) = .inl none := e2
    cases e2
    have hR2 : MRep κ.Γ a (mWr u (i2cc (48 + (irm (nI n9) 10)))) M2 := hR2
    exact g_vret X F dX4_writeNumber_26 (by omega) (by omega) ⟨rfl, by (show MRep κ.Γ a (if nI n9 ≤ 9 then mWr u (dg (nI n9)) else mWr (mNum 0 u (nI n9 / 10)) (dg (nI n9))) _); rw [if_pos c1]; exact hR2, hF2⟩
  · exact absurd (nI_le (a := n9) (b := 9) (by omega) (by decide)) c1
set_option maxRecDepth 100000 in
set_option maxHeartbeats 4000000 in
theorem c_X4_writeNumber2 (l : Launch) (hl : l.stackTraces = false) (Γ : Gm) (M : Hp) (a : Nat → Nat) (u : HV) (hR : MRep Γ a u M) (n9 : Nat) (hn : n9 < 100) (hw : WB 38 u) : Ct l Γ yX4_writeNumber cX4_writeNumber 2 none 2 0 0 [.ref (a 0), .int (nI n9)] M (MMu Γ a (.inl none, mNum 2 u (nI n9)) M) := by
  refine Ct.of hl (by decide) (Nat.le_of_ble_eq_true rfl) rfl ?_
  intro κ e1 e2 hnL hRm X F hlt
  subst e1 e2
  refine g_iload_n X dX4_writeNumber_0 rfl 1 rfl ?_
  refine g_bipush (v := 9) X dX4_writeNumber_1 (by decide) ?_
  refine g_icmp_le (tgt := 14) X dX4_writeNumber_3 (by decide) (fun c1 => ?_) (fun c1 => ?_)
  · refine g_aload_n X dX4_writeNumber_14 rfl 0 rfl ?_
    refine g_bipush (v := 48) X dX4_writeNumber_15 (by decide) ?_
    refine g_iload_n X dX4_writeNumber_17 rfl 1 rfl ?_
    refine g_bipush (v := 10) X dX4_writeNumber_18 (by decide) ?_
    refine g_irem X dX4_writeNumber_20 (by decide) ?_
    refine g_iadd X dX4_writeNumber_21 ?_
    refine g_i2c X dX4_writeNumber_22 ?_
    refine g_callV (As := [.int (i2cc (48 + (irm (nI n9) 10)))]) (ci := 4) X dX4_writeNumber_23 (c_X4_write κ.l hl κ.Γ M a u hR (i2cc (48 + (irm (nI n9) 10))) (hw.mono (by omega)) (cc_nar _)) k1460 k1462 kp39 k5 k1463 rfl (MRep.obj hR) ⟨rfl, by decide, by decide, (show (parseMethodDescriptor yX4_write.desc).map (fun d => d.parameters.length) = some 1 by decide +kernel)⟩ rfl (Nat.le_of_ble_eq_true rfl) (by rw [hRm]; decide) (by rw [hRm]; exact ⟨Nat.le_of_ble_eq_true rfl, Nat.le_of_ble_eq_true rfl⟩) (fun v2 M2 h2 => ?_) (fun _ _ h9 => by cases h9.1)
    obtain ⟨e2, hR2, hF2⟩ := h2
    have e2 : (Sum.inl v2 : Res) = .inl none := e2
    cases e2
    have hR2 : MRep κ.Γ a (mWr u (i2cc (48 + (irm (nI n9) 10)))) M2 := hR2
    exact g_vret X F dX4_writeNumber_26 (by omega) (by omega) ⟨rfl, by (show MRep κ.Γ a (if nI n9 ≤ 9 then mWr u (dg (nI n9)) else mWr (mNum 1 u (nI n9 / 10)) (dg (nI n9))) _); rw [if_pos c1]; exact hR2, hF2⟩
  · refine g_aload_n X dX4_writeNumber_6 rfl 0 rfl ?_
    refine g_iload_n X dX4_writeNumber_7 rfl 1 rfl ?_
    refine g_bipush (v := 10) X dX4_writeNumber_8 (by decide) ?_
    refine g_idiv X dX4_writeNumber_10 (by decide) ?_
    refine g_lit (nI (n9 / 10)) (nI_div10 n9 (by omega)) ?_
    refine g_callV (As := [.int (nI (n9 / 10))]) (ci := 4) X dX4_writeNumber_11 (c_X4_writeNumber1 κ.l hl κ.Γ M a u hR (n9 / 10) (by omega) (hw.mono (by omega))) k1456 k1458 kp38 k5 k1459 rfl (MRep.obj hR) ⟨rfl, by decide, by decide, (show (parseMethodDescriptor yX4_writeNumber.desc).map (fun d => d.parameters.length) = some 1 by decide +kernel)⟩ rfl (Nat.le_of_ble_eq_true rfl) (by rw [hRm]; decide) (by rw [hRm]; exact ⟨Nat.le_of_ble_eq_true rfl, Nat.le_of_ble_eq_true rfl⟩) (fun v3 M3 h3 => ?_) (fun _ _ h9 => by cases h9.1)
    obtain ⟨e3, hR3, hF3⟩ := h3
    have e3 : (Sum.inl v3 : Res) = .inl none := e3
    cases e3
    have hR3 : MRep κ.Γ a (mNum 1 u (nI (n9 / 10))) M3 := hR3
    refine g_aload_n X dX4_writeNumber_14 rfl 0 rfl ?_
    refine g_bipush (v := 48) X dX4_writeNumber_15 (by decide) ?_
    refine g_iload_n X dX4_writeNumber_17 rfl 1 rfl ?_
    refine g_bipush (v := 10) X dX4_writeNumber_18 (by decide) ?_
    refine g_irem X dX4_writeNumber_20 (by decide) ?_
    refine g_iadd X dX4_writeNumber_21 ?_
    refine g_i2c X dX4_writeNumber_22 ?_
    refine g_callV (As := [.int (i2cc (48 + (irm (nI n9) 10)))]) (ci := 4) X dX4_writeNumber_23 (c_X4_write κ.l hl κ.Γ M3 a (mNum 1 u (nI (n9 / 10))) hR3 (i2cc (48 + (irm (nI n9) 10))) (WB.num 1 hw) (cc_nar _)) k1460 k1462 kp39 k5 k1463 rfl (MRep.obj hR3) ⟨rfl, by decide, by decide, (show (parseMethodDescriptor yX4_write.desc).map (fun d => d.parameters.length) = some 1 by decide +kernel)⟩ rfl (Nat.le_of_ble_eq_true rfl) (by rw [hRm]; decide) (by rw [hRm]; exact ⟨Nat.le_of_ble_eq_true rfl, Nat.le_of_ble_eq_true rfl⟩) (fun v4 M4 h4 => ?_) (fun _ _ h9 => by cases h9.1)
    obtain ⟨e4, hR4, hF4⟩ := h4
    have e4 : (Sum.inl v4 : Res) = .inl none := e4
    cases e4
    have hR4 : MRep κ.Γ a (mWr (mNum 1 u (nI (n9 / 10))) (i2cc (48 + (irm (nI n9) 10)))) M4 := hR4
    have hF4 := Fr.tr hF3 hF4
    exact g_vret X F dX4_writeNumber_26 (by omega) (by omega) ⟨rfl, by (show MRep κ.Γ a (if nI n9 ≤ 9 then mWr u (dg (nI n9)) else mWr (mNum 1 u (nI n9 / 10)) (dg (nI n9))) _); rw [if_neg c1, nI_div10 n9 (by omega)]; exact hR4, hF4⟩
set_option maxRecDepth 100000 in
set_option maxHeartbeats 4000000 in
theorem c_X4_writeNumber3 (l : Launch) (hl : l.stackTraces = false) (Γ : Gm) (M : Hp) (a : Nat → Nat) (u : HV) (hR : MRep Γ a u M) (n9 : Nat) (hn : n9 < 1000) (hw : WB 37 u) : Ct l Γ yX4_writeNumber cX4_writeNumber 2 none 3 0 0 [.ref (a 0), .int (nI n9)] M (MMu Γ a (.inl none, mNum 3 u (nI n9)) M) := by
  refine Ct.of hl (by decide) (Nat.le_of_ble_eq_true rfl) rfl ?_
  intro κ e1 e2 hnL hRm X F hlt
  subst e1 e2
  refine g_iload_n X dX4_writeNumber_0 rfl 1 rfl ?_
  refine g_bipush (v := 9) X dX4_writeNumber_1 (by decide) ?_
  refine g_icmp_le (tgt := 14) X dX4_writeNumber_3 (by decide) (fun c1 => ?_) (fun c1 => ?_)
  · refine g_aload_n X dX4_writeNumber_14 rfl 0 rfl ?_
    refine g_bipush (v := 48) X dX4_writeNumber_15 (by decide) ?_
    refine g_iload_n X dX4_writeNumber_17 rfl 1 rfl ?_
    refine g_bipush (v := 10) X dX4_writeNumber_18 (by decide) ?_
    refine g_irem X dX4_writeNumber_20 (by decide) ?_
    refine g_iadd X dX4_writeNumber_21 ?_
    refine g_i2c X dX4_writeNumber_22 ?_
    refine g_callV (As := [.int (i2cc (48 + (irm (nI n9) 10)))]) (ci := 4) X dX4_writeNumber_23 (c_X4_write κ.l hl κ.Γ M a u hR (i2cc (48 + (irm (nI n9) 10))) (hw.mono (by omega)) (cc_nar _)) k1460 k1462 kp39 k5 k1463 rfl (MRep.obj hR) ⟨rfl, by decide, by decide, (show (parseMethodDescriptor yX4_write.desc).map (fun d => d.parameters.length) = some 1 by decide +kernel)⟩ rfl (Nat.le_of_ble_eq_true rfl) (by rw [hRm]; decide) (by rw [hRm]; exact ⟨Nat.le_of_ble_eq_true rfl, Nat.le_of_ble_eq_true rfl⟩) (fun v2 M2 h2 => ?_) (fun _ _ h9 => by cases h9.1)
    obtain ⟨e2, hR2, hF2⟩ := h2
    have e2 : (Sum.inl v2 : Res) = .inl none := e2
    cases e2
    have hR2 : MRep κ.Γ a (mWr u (i2cc (48 + (irm (nI n9) 10)))) M2 := hR2
    exact g_vret X F dX4_writeNumber_26 (by omega) (by omega) ⟨rfl, by (show MRep κ.Γ a (if nI n9 ≤ 9 then mWr u (dg (nI n9)) else mWr (mNum 2 u (nI n9 / 10)) (dg (nI n9))) _); rw [if_pos c1]; exact hR2, hF2⟩
  · refine g_aload_n X dX4_writeNumber_6 rfl 0 rfl ?_
    refine g_iload_n X dX4_writeNumber_7 rfl 1 rfl ?_
    refine g_bipush (v := 10) X dX4_writeNumber_8 (by decide) ?_
    refine g_idiv X dX4_writeNumber_10 (by decide) ?_
    refine g_lit (nI (n9 / 10)) (nI_div10 n9 (by omega)) ?_
    refine g_callV (As := [.int (nI (n9 / 10))]) (ci := 4) X dX4_writeNumber_11 (c_X4_writeNumber2 κ.l hl κ.Γ M a u hR (n9 / 10) (by omega) (hw.mono (by omega))) k1456 k1458 kp38 k5 k1459 rfl (MRep.obj hR) ⟨rfl, by decide, by decide, (show (parseMethodDescriptor yX4_writeNumber.desc).map (fun d => d.parameters.length) = some 1 by decide +kernel)⟩ rfl (Nat.le_of_ble_eq_true rfl) (by rw [hRm]; decide) (by rw [hRm]; exact ⟨Nat.le_of_ble_eq_true rfl, Nat.le_of_ble_eq_true rfl⟩) (fun v3 M3 h3 => ?_) (fun _ _ h9 => by cases h9.1)
    obtain ⟨e3, hR3, hF3⟩ := h3
    have e3 : (Sum.inl v3 : Res) = .inl none := e3
    cases e3
    have hR3 : MRep κ.Γ a (mNum 2 u (nI (n9 / 10))) M3 := hR3
    refine g_aload_n X dX4_writeNumber_14 rfl 0 rfl ?_
    refine g_bipush (v := 48) X dX4_writeNumber_15 (by decide) ?_
    refine g_iload_n X dX4_writeNumber_17 rfl 1 rfl ?_
    refine g_bipush (v := 10) X dX4_writeNumber_18 (by decide) ?_
    refine g_irem X dX4_writeNumber_20 (by decide) ?_
    refine g_iadd X dX4_writeNumber_21 ?_
    refine g_i2c X dX4_writeNumber_22 ?_
    refine g_callV (As := [.int (i2cc (48 + (irm (nI n9) 10)))]) (ci := 4) X dX4_writeNumber_23 (c_X4_write κ.l hl κ.Γ M3 a (mNum 2 u (nI (n9 / 10))) hR3 (i2cc (48 + (irm (nI n9) 10))) (WB.num 2 hw) (cc_nar _)) k1460 k1462 kp39 k5 k1463 rfl (MRep.obj hR3) ⟨rfl, by decide, by decide, (show (parseMethodDescriptor yX4_write.desc).map (fun d => d.parameters.length) = some 1 by decide +kernel)⟩ rfl (Nat.le_of_ble_eq_true rfl) (by rw [hRm]; decide) (by rw [hRm]; exact ⟨Nat.le_of_ble_eq_true rfl, Nat.le_of_ble_eq_true rfl⟩) (fun v4 M4 h4 => ?_) (fun _ _ h9 => by cases h9.1)
    obtain ⟨e4, hR4, hF4⟩ := h4
    have e4 : (Sum.inl v4 : Res) = .inl none := e4
    cases e4
    have hR4 : MRep κ.Γ a (mWr (mNum 2 u (nI (n9 / 10))) (i2cc (48 + (irm (nI n9) 10)))) M4 := hR4
    have hF4 := Fr.tr hF3 hF4
    exact g_vret X F dX4_writeNumber_26 (by omega) (by omega) ⟨rfl, by (show MRep κ.Γ a (if nI n9 ≤ 9 then mWr u (dg (nI n9)) else mWr (mNum 2 u (nI n9 / 10)) (dg (nI n9))) _); rw [if_neg c1, nI_div10 n9 (by omega)]; exact hR4, hF4⟩
set_option maxRecDepth 100000 in
set_option maxHeartbeats 4000000 in
theorem c_X4_writeBehind1 (l : Launch) (hl : l.stackTraces = false) (Γ : Gm) (M : Hp) (a : Nat → Nat) (u : HV) (hR : MRep Γ a u M) (x : Int32) (n9 : Nat) (hn : n9 < 10) (hw : WB 38 u) (hc : narrow .char (.int x) = .int x) : Ct l Γ yX4_writeBehind cX4_writeBehind 3 none 2 0 0 [.ref (a 0), .int x, .int (nI n9)] M (MMu Γ a (.inl none, mBeh 1 u x (nI n9)) M) := by
  refine Ct.of hl (by decide) (Nat.le_of_ble_eq_true rfl) rfl ?_
  intro κ e1 e2 hnL hRm X F hlt
  subst e1 e2
  refine g_aload_n X dX4_writeBehind_0 rfl 0 rfl ?_
  refine g_iload_n X dX4_writeBehind_1 rfl 1 rfl ?_
  refine g_callV (As := [.int x]) (ci := 4) X dX4_writeBehind_2 (c_X4_write κ.l hl κ.Γ M a u hR x (hw.mono (by omega)) hc) k1460 k1462 kp39 k5 k1463 rfl (MRep.obj hR) ⟨rfl, by decide, by decide, (show (parseMethodDescriptor yX4_write.desc).map (fun d => d.parameters.length) = some 1 by decide +kernel)⟩ rfl (Nat.le_of_ble_eq_true rfl) (by rw [hRm]; decide) (by rw [hRm]; exact ⟨Nat.le_of_ble_eq_true rfl, Nat.le_of_ble_eq_true rfl⟩) (fun v1 M1 h1 => ?_) (fun _ _ h9 => by cases h9.1)
  obtain ⟨e1, hR1, hF1⟩ := h1
  have e1 : (Sum.inl v1 : Res) = .inl none := e1
  cases e1
  have hR1 : MRep κ.Γ a (mWr u x) M1 := hR1
  refine g_aload_n X dX4_writeBehind_5 rfl 0 rfl ?_
  refine g_iload_n X dX4_writeBehind_6 rfl 2 rfl ?_
  refine g_callV (As := [.int (nI n9)]) (ci := 4) X dX4_writeBehind_7 (c_X4_writeNumber1 κ.l hl κ.Γ M1 a (mWr u x) hR1 n9 hn (hw.wr.mono (by omega))) k1456 k1458 kp38 k5 k1459 rfl (MRep.obj hR1) ⟨rfl, by decide, by decide, (show (parseMethodDescriptor yX4_writeNumber.desc).map (fun d => d.parameters.length) = some 1 by decide +kernel)⟩ rfl (Nat.le_of_ble_eq_true rfl) (by rw [hRm]; decide) (by rw [hRm]; exact ⟨Nat.le_of_ble_eq_true rfl, Nat.le_of_ble_eq_true rfl⟩) (fun v2 M2 h2 => ?_) (fun _ _ h9 => by cases h9.1)
  obtain ⟨e2, hR2, hF2⟩ := h2
  have e2 : (Sum.inl v2 : Res) = .inl none := e2
  cases e2
  have hR2 : MRep κ.Γ a (mNum 1 (mWr u x) (nI n9)) M2 := hR2
  have hF2 := Fr.tr hF1 hF2
  exact g_vret X F dX4_writeBehind_10 (by omega) (by omega) ⟨rfl, hR2, hF2⟩
set_option maxRecDepth 100000 in
set_option maxHeartbeats 4000000 in
theorem c_X4_writeBehind2 (l : Launch) (hl : l.stackTraces = false) (Γ : Gm) (M : Hp) (a : Nat → Nat) (u : HV) (hR : MRep Γ a u M) (x : Int32) (n9 : Nat) (hn : n9 < 100) (hw : WB 37 u) (hc : narrow .char (.int x) = .int x) : Ct l Γ yX4_writeBehind cX4_writeBehind 3 none 3 0 0 [.ref (a 0), .int x, .int (nI n9)] M (MMu Γ a (.inl none, mBeh 2 u x (nI n9)) M) := by
  refine Ct.of hl (by decide) (Nat.le_of_ble_eq_true rfl) rfl ?_
  intro κ e1 e2 hnL hRm X F hlt
  subst e1 e2
  refine g_aload_n X dX4_writeBehind_0 rfl 0 rfl ?_
  refine g_iload_n X dX4_writeBehind_1 rfl 1 rfl ?_
  refine g_callV (As := [.int x]) (ci := 4) X dX4_writeBehind_2 (c_X4_write κ.l hl κ.Γ M a u hR x (hw.mono (by omega)) hc) k1460 k1462 kp39 k5 k1463 rfl (MRep.obj hR) ⟨rfl, by decide, by decide, (show (parseMethodDescriptor yX4_write.desc).map (fun d => d.parameters.length) = some 1 by decide +kernel)⟩ rfl (Nat.le_of_ble_eq_true rfl) (by rw [hRm]; decide) (by rw [hRm]; exact ⟨Nat.le_of_ble_eq_true rfl, Nat.le_of_ble_eq_true rfl⟩) (fun v1 M1 h1 => ?_) (fun _ _ h9 => by cases h9.1)
  obtain ⟨e1, hR1, hF1⟩ := h1
  have e1 : (Sum.inl v1 : Res) = .inl none := e1
  cases e1
  have hR1 : MRep κ.Γ a (mWr u x) M1 := hR1
  refine g_aload_n X dX4_writeBehind_5 rfl 0 rfl ?_
  refine g_iload_n X dX4_writeBehind_6 rfl 2 rfl ?_
  refine g_callV (As := [.int (nI n9)]) (ci := 4) X dX4_writeBehind_7 (c_X4_writeNumber2 κ.l hl κ.Γ M1 a (mWr u x) hR1 n9 hn (hw.wr.mono (by omega))) k1456 k1458 kp38 k5 k1459 rfl (MRep.obj hR1) ⟨rfl, by decide, by decide, (show (parseMethodDescriptor yX4_writeNumber.desc).map (fun d => d.parameters.length) = some 1 by decide +kernel)⟩ rfl (Nat.le_of_ble_eq_true rfl) (by rw [hRm]; decide) (by rw [hRm]; exact ⟨Nat.le_of_ble_eq_true rfl, Nat.le_of_ble_eq_true rfl⟩) (fun v2 M2 h2 => ?_) (fun _ _ h9 => by cases h9.1)
  obtain ⟨e2, hR2, hF2⟩ := h2
  have e2 : (Sum.inl v2 : Res) = .inl none := e2
  cases e2
  have hR2 : MRep κ.Γ a (mNum 2 (mWr u x) (nI n9)) M2 := hR2
  have hF2 := Fr.tr hF1 hF2
  exact g_vret X F dX4_writeBehind_10 (by omega) (by omega) ⟨rfl, hR2, hF2⟩
set_option maxRecDepth 100000 in
set_option maxHeartbeats 4000000 in
theorem c_X4_writeBehind3 (l : Launch) (hl : l.stackTraces = false) (Γ : Gm) (M : Hp) (a : Nat → Nat) (u : HV) (hR : MRep Γ a u M) (x : Int32) (n9 : Nat) (hn : n9 < 1000) (hw : WB 36 u) (hc : narrow .char (.int x) = .int x) : Ct l Γ yX4_writeBehind cX4_writeBehind 3 none 4 0 0 [.ref (a 0), .int x, .int (nI n9)] M (MMu Γ a (.inl none, mBeh 3 u x (nI n9)) M) := by
  refine Ct.of hl (by decide) (Nat.le_of_ble_eq_true rfl) rfl ?_
  intro κ e1 e2 hnL hRm X F hlt
  subst e1 e2
  refine g_aload_n X dX4_writeBehind_0 rfl 0 rfl ?_
  refine g_iload_n X dX4_writeBehind_1 rfl 1 rfl ?_
  refine g_callV (As := [.int x]) (ci := 4) X dX4_writeBehind_2 (c_X4_write κ.l hl κ.Γ M a u hR x (hw.mono (by omega)) hc) k1460 k1462 kp39 k5 k1463 rfl (MRep.obj hR) ⟨rfl, by decide, by decide, (show (parseMethodDescriptor yX4_write.desc).map (fun d => d.parameters.length) = some 1 by decide +kernel)⟩ rfl (Nat.le_of_ble_eq_true rfl) (by rw [hRm]; decide) (by rw [hRm]; exact ⟨Nat.le_of_ble_eq_true rfl, Nat.le_of_ble_eq_true rfl⟩) (fun v1 M1 h1 => ?_) (fun _ _ h9 => by cases h9.1)
  obtain ⟨e1, hR1, hF1⟩ := h1
  have e1 : (Sum.inl v1 : Res) = .inl none := e1
  cases e1
  have hR1 : MRep κ.Γ a (mWr u x) M1 := hR1
  refine g_aload_n X dX4_writeBehind_5 rfl 0 rfl ?_
  refine g_iload_n X dX4_writeBehind_6 rfl 2 rfl ?_
  refine g_callV (As := [.int (nI n9)]) (ci := 4) X dX4_writeBehind_7 (c_X4_writeNumber3 κ.l hl κ.Γ M1 a (mWr u x) hR1 n9 hn (hw.wr.mono (by omega))) k1456 k1458 kp38 k5 k1459 rfl (MRep.obj hR1) ⟨rfl, by decide, by decide, (show (parseMethodDescriptor yX4_writeNumber.desc).map (fun d => d.parameters.length) = some 1 by decide +kernel)⟩ rfl (Nat.le_of_ble_eq_true rfl) (by rw [hRm]; decide) (by rw [hRm]; exact ⟨Nat.le_of_ble_eq_true rfl, Nat.le_of_ble_eq_true rfl⟩) (fun v2 M2 h2 => ?_) (fun _ _ h9 => by cases h9.1)
  obtain ⟨e2, hR2, hF2⟩ := h2
  have e2 : (Sum.inl v2 : Res) = .inl none := e2
  cases e2
  have hR2 : MRep κ.Γ a (mNum 3 (mWr u x) (nI n9)) M2 := hR2
  have hF2 := Fr.tr hF1 hF2
  exact g_vret X F dX4_writeBehind_10 (by omega) (by omega) ⟨rfl, hR2, hF2⟩
